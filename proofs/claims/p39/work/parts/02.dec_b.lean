/-! decode rows, as printed -/
theorem dX7_init_0 : decode cX7_init 0 = .ok (.aload_n 0, 1) := by decide +kernel
theorem dX7_init_1 : decode cX7_init 1 = .ok (.invokespecial 1, 3) := by decide +kernel
theorem dX7_init_4 : decode cX7_init 4 = .ok (.aload_n 0, 1) := by decide +kernel
theorem dX7_init_5 : decode cX7_init 5 = .ok (.new 7, 3) := by decide +kernel
theorem dX7_init_8 : decode cX7_init 8 = .ok (.dup, 1) := by decide +kernel
theorem dX7_init_9 : decode cX7_init 9 = .ok (.invokespecial 9, 3) := by decide +kernel
theorem dX7_init_12 : decode cX7_init 12 = .ok (.putfield 10, 3) := by decide +kernel
theorem dX7_init_15 : decode cX7_init 15 = .ok (.aload_n 0, 1) := by decide +kernel
theorem dX7_init_16 : decode cX7_init 16 = .ok (.new 7, 3) := by decide +kernel
theorem dX7_init_19 : decode cX7_init 19 = .ok (.dup, 1) := by decide +kernel
theorem dX7_init_20 : decode cX7_init 20 = .ok (.invokespecial 9, 3) := by decide +kernel
theorem dX7_init_23 : decode cX7_init 23 = .ok (.putfield 16, 3) := by decide +kernel
theorem dX7_init_26 : decode cX7_init 26 = .ok (.aload_n 0, 1) := by decide +kernel
theorem dX7_init_27 : decode cX7_init 27 = .ok (.new 19, 3) := by decide +kernel
theorem dX7_init_30 : decode cX7_init 30 = .ok (.dup, 1) := by decide +kernel
theorem dX7_init_31 : decode cX7_init 31 = .ok (.invokespecial 21, 3) := by decide +kernel
theorem dX7_init_34 : decode cX7_init 34 = .ok (.putfield 22, 3) := by decide +kernel
theorem dX7_init_37 : decode cX7_init 37 = .ok (.aload_n 0, 1) := by decide +kernel
theorem dX7_init_38 : decode cX7_init 38 = .ok (.new 26, 3) := by decide +kernel
theorem dX7_init_41 : decode cX7_init 41 = .ok (.dup, 1) := by decide +kernel
theorem dX7_init_42 : decode cX7_init 42 = .ok (.invokespecial 28, 3) := by decide +kernel
theorem dX7_init_45 : decode cX7_init 45 = .ok (.putfield 29, 3) := by decide +kernel
theorem dX7_init_48 : decode cX7_init 48 = .ok (.aload_n 0, 1) := by decide +kernel
theorem dX7_init_49 : decode cX7_init 49 = .ok (.new 33, 3) := by decide +kernel
theorem dX7_init_52 : decode cX7_init 52 = .ok (.dup, 1) := by decide +kernel
theorem dX7_init_53 : decode cX7_init 53 = .ok (.invokespecial 35, 3) := by decide +kernel
theorem dX7_init_56 : decode cX7_init 56 = .ok (.putfield 36, 3) := by decide +kernel
theorem dX7_init_59 : decode cX7_init 59 = .ok (.aload_n 0, 1) := by decide +kernel
theorem dX7_init_60 : decode cX7_init 60 = .ok (.bipush 7, 2) := by decide +kernel
theorem dX7_init_62 : decode cX7_init 62 = .ok (.newarray .int, 2) := by decide +kernel
theorem dX7_init_64 : decode cX7_init 64 = .ok (.putfield 40, 3) := by decide +kernel
theorem dX7_init_67 : decode cX7_init 67 = .ok (.aload_n 0, 1) := by decide +kernel
theorem dX7_init_68 : decode cX7_init 68 = .ok (.iconst 0, 1) := by decide +kernel
theorem dX7_init_69 : decode cX7_init 69 = .ok (.putfield 44, 3) := by decide +kernel
theorem dX7_init_72 : decode cX7_init 72 = .ok (.return_, 1) := by decide +kernel
theorem dX7_pitch_0 : decode cX7_pitch 0 = .ok (.iload_n 1, 1) := by decide +kernel
theorem dX7_pitch_1 : decode cX7_pitch 1 = .ok (.invokestatic 48, 3) := by decide +kernel
theorem dX7_pitch_4 : decode cX7_pitch 4 = .ok (.ifCond .eq 10, 3) := by decide +kernel
theorem dX7_pitch_7 : decode cX7_pitch 7 = .ok (.iload_n 2, 1) := by decide +kernel
theorem dX7_pitch_8 : decode cX7_pitch 8 = .ok (.invokestatic 52, 3) := by decide +kernel
theorem dX7_pitch_11 : decode cX7_pitch 11 = .ok (.ifCond .ne 9, 3) := by decide +kernel
theorem dX7_pitch_14 : decode cX7_pitch 14 = .ok (.aload_n 0, 1) := by decide +kernel
theorem dX7_pitch_15 : decode cX7_pitch 15 = .ok (.iconst 1, 1) := by decide +kernel
theorem dX7_pitch_16 : decode cX7_pitch 16 = .ok (.invokevirtual 55, 3) := by decide +kernel
theorem dX7_pitch_19 : decode cX7_pitch 19 = .ok (.ireturn, 1) := by decide +kernel
theorem dX7_pitch_20 : decode cX7_pitch 20 = .ok (.aload_n 0, 1) := by decide +kernel
theorem dX7_pitch_21 : decode cX7_pitch 21 = .ok (.getfield 10, 3) := by decide +kernel
theorem dX7_pitch_24 : decode cX7_pitch 24 = .ok (.getfield 59, 3) := by decide +kernel
theorem dX7_pitch_27 : decode cX7_pitch 27 = .ok (.getfield 63, 3) := by decide +kernel
theorem dX7_pitch_30 : decode cX7_pitch 30 = .ok (.bipush 6, 2) := by decide +kernel
theorem dX7_pitch_32 : decode cX7_pitch 32 = .ok (.if_icmp .lt 9, 3) := by decide +kernel
theorem dX7_pitch_35 : decode cX7_pitch 35 = .ok (.aload_n 0, 1) := by decide +kernel
theorem dX7_pitch_36 : decode cX7_pitch 36 = .ok (.iconst 4, 1) := by decide +kernel
theorem dX7_pitch_37 : decode cX7_pitch 37 = .ok (.invokevirtual 55, 3) := by decide +kernel
theorem dX7_pitch_40 : decode cX7_pitch 40 = .ok (.ireturn, 1) := by decide +kernel
theorem dX7_pitch_41 : decode cX7_pitch 41 = .ok (.aload_n 0, 1) := by decide +kernel
theorem dX7_pitch_42 : decode cX7_pitch 42 = .ok (.getfield 10, 3) := by decide +kernel
theorem dX7_pitch_45 : decode cX7_pitch 45 = .ok (.getfield 59, 3) := by decide +kernel
theorem dX7_pitch_48 : decode cX7_pitch 48 = .ok (.iload_n 1, 1) := by decide +kernel
theorem dX7_pitch_49 : decode cX7_pitch 49 = .ok (.iload_n 2, 1) := by decide +kernel
theorem dX7_pitch_50 : decode cX7_pitch 50 = .ok (.invokevirtual 68, 3) := by decide +kernel
theorem dX7_pitch_53 : decode cX7_pitch 53 = .ok (.ireturn, 1) := by decide +kernel
theorem dX7_pitchIs_0 : decode cX7_pitchIs 0 = .ok (.aload_n 0, 1) := by decide +kernel
theorem dX7_pitchIs_1 : decode cX7_pitchIs 1 = .ok (.iload_n 1, 1) := by decide +kernel
theorem dX7_pitchIs_2 : decode cX7_pitchIs 2 = .ok (.invokevirtual 72, 3) := by decide +kernel
theorem dX7_pitchIs_5 : decode cX7_pitchIs 5 = .ok (.ifCond .ne 9, 3) := by decide +kernel
theorem dX7_pitchIs_8 : decode cX7_pitchIs 8 = .ok (.aload_n 0, 1) := by decide +kernel
theorem dX7_pitchIs_9 : decode cX7_pitchIs 9 = .ok (.iconst 1, 1) := by decide +kernel
theorem dX7_pitchIs_10 : decode cX7_pitchIs 10 = .ok (.invokevirtual 55, 3) := by decide +kernel
theorem dX7_pitchIs_13 : decode cX7_pitchIs 13 = .ok (.ireturn, 1) := by decide +kernel
theorem dX7_pitchIs_14 : decode cX7_pitchIs 14 = .ok (.iload_n 2, 1) := by decide +kernel
theorem dX7_pitchIs_15 : decode cX7_pitchIs 15 = .ok (.tableswitch 107 0 5 #[37, 50, 63, 76, 89, 98], 37) := by decide +kernel
theorem dX7_pitchIs_52 : decode cX7_pitchIs 52 = .ok (.aload_n 0, 1) := by decide +kernel
theorem dX7_pitchIs_53 : decode cX7_pitchIs 53 = .ok (.getfield 10, 3) := by decide +kernel
theorem dX7_pitchIs_56 : decode cX7_pitchIs 56 = .ok (.getfield 59, 3) := by decide +kernel
theorem dX7_pitchIs_59 : decode cX7_pitchIs 59 = .ok (.getfield 75, 3) := by decide +kernel
theorem dX7_pitchIs_62 : decode cX7_pitchIs 62 = .ok (.iload_n 1, 1) := by decide +kernel
theorem dX7_pitchIs_63 : decode cX7_pitchIs 63 = .ok (.iaload, 1) := by decide +kernel
theorem dX7_pitchIs_64 : decode cX7_pitchIs 64 = .ok (.ireturn, 1) := by decide +kernel
theorem dX7_pitchIs_65 : decode cX7_pitchIs 65 = .ok (.aload_n 0, 1) := by decide +kernel
theorem dX7_pitchIs_66 : decode cX7_pitchIs 66 = .ok (.getfield 10, 3) := by decide +kernel
theorem dX7_pitchIs_69 : decode cX7_pitchIs 69 = .ok (.getfield 59, 3) := by decide +kernel
theorem dX7_pitchIs_72 : decode cX7_pitchIs 72 = .ok (.getfield 78, 3) := by decide +kernel
theorem dX7_pitchIs_75 : decode cX7_pitchIs 75 = .ok (.iload_n 1, 1) := by decide +kernel
theorem dX7_pitchIs_76 : decode cX7_pitchIs 76 = .ok (.iaload, 1) := by decide +kernel
theorem dX7_pitchIs_77 : decode cX7_pitchIs 77 = .ok (.ireturn, 1) := by decide +kernel
theorem dX7_pitchIs_78 : decode cX7_pitchIs 78 = .ok (.aload_n 0, 1) := by decide +kernel
theorem dX7_pitchIs_79 : decode cX7_pitchIs 79 = .ok (.getfield 10, 3) := by decide +kernel
theorem dX7_pitchIs_82 : decode cX7_pitchIs 82 = .ok (.getfield 59, 3) := by decide +kernel
theorem dX7_pitchIs_85 : decode cX7_pitchIs 85 = .ok (.getfield 81, 3) := by decide +kernel
theorem dX7_pitchIs_88 : decode cX7_pitchIs 88 = .ok (.iload_n 1, 1) := by decide +kernel
theorem dX7_pitchIs_89 : decode cX7_pitchIs 89 = .ok (.iaload, 1) := by decide +kernel
theorem dX7_pitchIs_90 : decode cX7_pitchIs 90 = .ok (.ireturn, 1) := by decide +kernel
theorem dX7_pitchIs_91 : decode cX7_pitchIs 91 = .ok (.aload_n 0, 1) := by decide +kernel
theorem dX7_pitchIs_92 : decode cX7_pitchIs 92 = .ok (.getfield 10, 3) := by decide +kernel
theorem dX7_pitchIs_95 : decode cX7_pitchIs 95 = .ok (.getfield 59, 3) := by decide +kernel
theorem dX7_pitchIs_98 : decode cX7_pitchIs 98 = .ok (.getfield 84, 3) := by decide +kernel
theorem dX7_pitchIs_101 : decode cX7_pitchIs 101 = .ok (.iload_n 1, 1) := by decide +kernel
theorem dX7_pitchIs_102 : decode cX7_pitchIs 102 = .ok (.iaload, 1) := by decide +kernel
theorem dX7_pitchIs_103 : decode cX7_pitchIs 103 = .ok (.ireturn, 1) := by decide +kernel
theorem dX7_pitchIs_104 : decode cX7_pitchIs 104 = .ok (.aload_n 0, 1) := by decide +kernel
theorem dX7_pitchIs_105 : decode cX7_pitchIs 105 = .ok (.getfield 10, 3) := by decide +kernel
theorem dX7_pitchIs_108 : decode cX7_pitchIs 108 = .ok (.iload_n 1, 1) := by decide +kernel
theorem dX7_pitchIs_109 : decode cX7_pitchIs 109 = .ok (.invokevirtual 87, 3) := by decide +kernel
theorem dX7_pitchIs_112 : decode cX7_pitchIs 112 = .ok (.ireturn, 1) := by decide +kernel
theorem dX7_pitchIs_113 : decode cX7_pitchIs 113 = .ok (.aload_n 0, 1) := by decide +kernel
theorem dX7_pitchIs_114 : decode cX7_pitchIs 114 = .ok (.getfield 10, 3) := by decide +kernel
theorem dX7_pitchIs_117 : decode cX7_pitchIs 117 = .ok (.iload_n 1, 1) := by decide +kernel
theorem dX7_pitchIs_118 : decode cX7_pitchIs 118 = .ok (.invokevirtual 90, 3) := by decide +kernel
theorem dX7_pitchIs_121 : decode cX7_pitchIs 121 = .ok (.ireturn, 1) := by decide +kernel
theorem dX7_pitchIs_122 : decode cX7_pitchIs 122 = .ok (.aload_n 0, 1) := by decide +kernel
theorem dX7_pitchIs_123 : decode cX7_pitchIs 123 = .ok (.iconst 1, 1) := by decide +kernel
theorem dX7_pitchIs_124 : decode cX7_pitchIs 124 = .ok (.invokevirtual 55, 3) := by decide +kernel
theorem dX7_pitchIs_127 : decode cX7_pitchIs 127 = .ok (.ireturn, 1) := by decide +kernel
theorem dX7_become_0 : decode cX7_become 0 = .ok (.aload_n 0, 1) := by decide +kernel
theorem dX7_become_1 : decode cX7_become 1 = .ok (.iload_n 1, 1) := by decide +kernel
theorem dX7_become_2 : decode cX7_become 2 = .ok (.invokevirtual 72, 3) := by decide +kernel
theorem dX7_become_5 : decode cX7_become 5 = .ok (.ifCond .eq 10, 3) := by decide +kernel
theorem dX7_become_8 : decode cX7_become 8 = .ok (.iload_n 2, 1) := by decide +kernel
theorem dX7_become_9 : decode cX7_become 9 = .ok (.invokestatic 48, 3) := by decide +kernel
theorem dX7_become_12 : decode cX7_become 12 = .ok (.ifCond .ne 9, 3) := by decide +kernel
theorem dX7_become_15 : decode cX7_become 15 = .ok (.aload_n 0, 1) := by decide +kernel
theorem dX7_become_16 : decode cX7_become 16 = .ok (.iconst 1, 1) := by decide +kernel
theorem dX7_become_17 : decode cX7_become 17 = .ok (.invokevirtual 55, 3) := by decide +kernel
theorem dX7_become_20 : decode cX7_become 20 = .ok (.ireturn, 1) := by decide +kernel
theorem dX7_become_21 : decode cX7_become 21 = .ok (.aload_n 0, 1) := by decide +kernel
theorem dX7_become_22 : decode cX7_become 22 = .ok (.getfield 10, 3) := by decide +kernel
theorem dX7_become_25 : decode cX7_become 25 = .ok (.getfield 59, 3) := by decide +kernel
theorem dX7_become_28 : decode cX7_become 28 = .ok (.getfield 75, 3) := by decide +kernel
theorem dX7_become_31 : decode cX7_become 31 = .ok (.iload_n 1, 1) := by decide +kernel
theorem dX7_become_32 : decode cX7_become 32 = .ok (.iaload, 1) := by decide +kernel
theorem dX7_become_33 : decode cX7_become 33 = .ok (.istore_n 3, 1) := by decide +kernel
theorem dX7_become_34 : decode cX7_become 34 = .ok (.aload_n 0, 1) := by decide +kernel
theorem dX7_become_35 : decode cX7_become 35 = .ok (.getfield 10, 3) := by decide +kernel
theorem dX7_become_38 : decode cX7_become 38 = .ok (.getfield 59, 3) := by decide +kernel
theorem dX7_become_41 : decode cX7_become 41 = .ok (.getfield 75, 3) := by decide +kernel
theorem dX7_become_44 : decode cX7_become 44 = .ok (.iload_n 1, 1) := by decide +kernel
theorem dX7_become_45 : decode cX7_become 45 = .ok (.iload_n 2, 1) := by decide +kernel
theorem dX7_become_46 : decode cX7_become 46 = .ok (.bipush 10, 2) := by decide +kernel
theorem dX7_become_48 : decode cX7_become 48 = .ok (.idiv, 1) := by decide +kernel
theorem dX7_become_49 : decode cX7_become 49 = .ok (.iastore, 1) := by decide +kernel
theorem dX7_become_50 : decode cX7_become 50 = .ok (.aload_n 0, 1) := by decide +kernel
theorem dX7_become_51 : decode cX7_become 51 = .ok (.getfield 10, 3) := by decide +kernel
theorem dX7_become_54 : decode cX7_become 54 = .ok (.getfield 59, 3) := by decide +kernel
theorem dX7_become_57 : decode cX7_become 57 = .ok (.getfield 78, 3) := by decide +kernel
theorem dX7_become_60 : decode cX7_become 60 = .ok (.iload_n 1, 1) := by decide +kernel
theorem dX7_become_61 : decode cX7_become 61 = .ok (.iload_n 2, 1) := by decide +kernel
theorem dX7_become_62 : decode cX7_become 62 = .ok (.bipush 10, 2) := by decide +kernel
theorem dX7_become_64 : decode cX7_become 64 = .ok (.irem, 1) := by decide +kernel
theorem dX7_become_65 : decode cX7_become 65 = .ok (.iastore, 1) := by decide +kernel
theorem dX7_become_66 : decode cX7_become 66 = .ok (.iload_n 3, 1) := by decide +kernel
theorem dX7_become_67 : decode cX7_become 67 = .ok (.ireturn, 1) := by decide +kernel
theorem dX7_as_0 : decode cX7_as 0 = .ok (.aload_n 0, 1) := by decide +kernel
theorem dX7_as_1 : decode cX7_as 1 = .ok (.iload_n 1, 1) := by decide +kernel
theorem dX7_as_2 : decode cX7_as 2 = .ok (.invokevirtual 72, 3) := by decide +kernel
theorem dX7_as_5 : decode cX7_as 5 = .ok (.ifCond .eq 13, 3) := by decide +kernel
theorem dX7_as_8 : decode cX7_as 8 = .ok (.iload_n 2, 1) := by decide +kernel
theorem dX7_as_9 : decode cX7_as 9 = .ok (.iconst 0, 1) := by decide +kernel
theorem dX7_as_10 : decode cX7_as 10 = .ok (.bipush 6, 2) := by decide +kernel
theorem dX7_as_12 : decode cX7_as 12 = .ok (.invokestatic 93, 3) := by decide +kernel
theorem dX7_as_15 : decode cX7_as 15 = .ok (.ifCond .ne 9, 3) := by decide +kernel
theorem dX7_as_18 : decode cX7_as 18 = .ok (.aload_n 0, 1) := by decide +kernel
theorem dX7_as_19 : decode cX7_as 19 = .ok (.iconst 1, 1) := by decide +kernel
theorem dX7_as_20 : decode cX7_as 20 = .ok (.invokevirtual 55, 3) := by decide +kernel
theorem dX7_as_23 : decode cX7_as 23 = .ok (.ireturn, 1) := by decide +kernel
theorem dX7_as_24 : decode cX7_as 24 = .ok (.aload_n 0, 1) := by decide +kernel
theorem dX7_as_25 : decode cX7_as 25 = .ok (.getfield 10, 3) := by decide +kernel
theorem dX7_as_28 : decode cX7_as 28 = .ok (.getfield 59, 3) := by decide +kernel
theorem dX7_as_31 : decode cX7_as 31 = .ok (.getfield 75, 3) := by decide +kernel
theorem dX7_as_34 : decode cX7_as 34 = .ok (.iload_n 1, 1) := by decide +kernel
theorem dX7_as_35 : decode cX7_as 35 = .ok (.iaload, 1) := by decide +kernel
theorem dX7_as_36 : decode cX7_as 36 = .ok (.iload_n 2, 1) := by decide +kernel
theorem dX7_as_37 : decode cX7_as 37 = .ok (.invokestatic 97, 3) := by decide +kernel
theorem dX7_as_40 : decode cX7_as 40 = .ok (.ifCond .ne 9, 3) := by decide +kernel
theorem dX7_as_43 : decode cX7_as 43 = .ok (.aload_n 0, 1) := by decide +kernel
theorem dX7_as_44 : decode cX7_as 44 = .ok (.iconst 5, 1) := by decide +kernel
theorem dX7_as_45 : decode cX7_as 45 = .ok (.invokevirtual 55, 3) := by decide +kernel
theorem dX7_as_48 : decode cX7_as 48 = .ok (.ireturn, 1) := by decide +kernel
theorem dX7_as_49 : decode cX7_as 49 = .ok (.aload_n 0, 1) := by decide +kernel
theorem dX7_as_50 : decode cX7_as 50 = .ok (.getfield 10, 3) := by decide +kernel
theorem dX7_as_53 : decode cX7_as 53 = .ok (.getfield 59, 3) := by decide +kernel
theorem dX7_as_56 : decode cX7_as 56 = .ok (.getfield 78, 3) := by decide +kernel
theorem dX7_as_59 : decode cX7_as 59 = .ok (.iload_n 1, 1) := by decide +kernel
theorem dX7_as_60 : decode cX7_as 60 = .ok (.iaload, 1) := by decide +kernel
theorem dX7_as_61 : decode cX7_as 61 = .ok (.ireturn, 1) := by decide +kernel
theorem dX7_weighs_0 : decode cX7_weighs 0 = .ok (.aload_n 0, 1) := by decide +kernel
theorem dX7_weighs_1 : decode cX7_weighs 1 = .ok (.iload_n 1, 1) := by decide +kernel
theorem dX7_weighs_2 : decode cX7_weighs 2 = .ok (.invokevirtual 72, 3) := by decide +kernel
theorem dX7_weighs_5 : decode cX7_weighs 5 = .ok (.ifCond .eq 10, 3) := by decide +kernel
theorem dX7_weighs_8 : decode cX7_weighs 8 = .ok (.iload_n 2, 1) := by decide +kernel
theorem dX7_weighs_9 : decode cX7_weighs 9 = .ok (.invokestatic 52, 3) := by decide +kernel
theorem dX7_weighs_12 : decode cX7_weighs 12 = .ok (.ifCond .ne 9, 3) := by decide +kernel
theorem dX7_weighs_15 : decode cX7_weighs 15 = .ok (.aload_n 0, 1) := by decide +kernel
theorem dX7_weighs_16 : decode cX7_weighs 16 = .ok (.iconst 1, 1) := by decide +kernel
theorem dX7_weighs_17 : decode cX7_weighs 17 = .ok (.invokevirtual 55, 3) := by decide +kernel
theorem dX7_weighs_20 : decode cX7_weighs 20 = .ok (.ireturn, 1) := by decide +kernel
theorem dX7_weighs_21 : decode cX7_weighs 21 = .ok (.aload_n 0, 1) := by decide +kernel
theorem dX7_weighs_22 : decode cX7_weighs 22 = .ok (.getfield 10, 3) := by decide +kernel
theorem dX7_weighs_25 : decode cX7_weighs 25 = .ok (.getfield 59, 3) := by decide +kernel
theorem dX7_weighs_28 : decode cX7_weighs 28 = .ok (.getfield 81, 3) := by decide +kernel
theorem dX7_weighs_31 : decode cX7_weighs 31 = .ok (.iload_n 1, 1) := by decide +kernel
theorem dX7_weighs_32 : decode cX7_weighs 32 = .ok (.iaload, 1) := by decide +kernel
theorem dX7_weighs_33 : decode cX7_weighs 33 = .ok (.istore_n 3, 1) := by decide +kernel
theorem dX7_weighs_34 : decode cX7_weighs 34 = .ok (.aload_n 0, 1) := by decide +kernel
theorem dX7_weighs_35 : decode cX7_weighs 35 = .ok (.getfield 10, 3) := by decide +kernel
theorem dX7_weighs_38 : decode cX7_weighs 38 = .ok (.getfield 59, 3) := by decide +kernel
theorem dX7_weighs_41 : decode cX7_weighs 41 = .ok (.getfield 81, 3) := by decide +kernel
theorem dX7_weighs_44 : decode cX7_weighs 44 = .ok (.iload_n 1, 1) := by decide +kernel
theorem dX7_weighs_45 : decode cX7_weighs 45 = .ok (.iload_n 2, 1) := by decide +kernel
theorem dX7_weighs_46 : decode cX7_weighs 46 = .ok (.iastore, 1) := by decide +kernel
theorem dX7_weighs_47 : decode cX7_weighs 47 = .ok (.iload_n 3, 1) := by decide +kernel
theorem dX7_weighs_48 : decode cX7_weighs 48 = .ok (.ireturn, 1) := by decide +kernel
theorem dX7_runner_0 : decode cX7_runner 0 = .ok (.iload_n 1, 1) := by decide +kernel
theorem dX7_runner_1 : decode cX7_runner 1 = .ok (.iconst 0, 1) := by decide +kernel
theorem dX7_runner_2 : decode cX7_runner 2 = .ok (.bipush 99, 2) := by decide +kernel
theorem dX7_runner_4 : decode cX7_runner 4 = .ok (.invokestatic 93, 3) := by decide +kernel
theorem dX7_runner_7 : decode cX7_runner 7 = .ok (.ifCond .eq 13, 3) := by decide +kernel
theorem dX7_runner_10 : decode cX7_runner 10 = .ok (.iload_n 2, 1) := by decide +kernel
theorem dX7_runner_11 : decode cX7_runner 11 = .ok (.iconst 1, 1) := by decide +kernel
theorem dX7_runner_12 : decode cX7_runner 12 = .ok (.bipush 60, 2) := by decide +kernel
theorem dX7_runner_14 : decode cX7_runner 14 = .ok (.invokestatic 93, 3) := by decide +kernel
theorem dX7_runner_17 : decode cX7_runner 17 = .ok (.ifCond .ne 9, 3) := by decide +kernel
theorem dX7_runner_20 : decode cX7_runner 20 = .ok (.aload_n 0, 1) := by decide +kernel
theorem dX7_runner_21 : decode cX7_runner 21 = .ok (.iconst 1, 1) := by decide +kernel
theorem dX7_runner_22 : decode cX7_runner 22 = .ok (.invokevirtual 55, 3) := by decide +kernel
theorem dX7_runner_25 : decode cX7_runner 25 = .ok (.ireturn, 1) := by decide +kernel
theorem dX7_runner_26 : decode cX7_runner 26 = .ok (.aload_n 0, 1) := by decide +kernel
theorem dX7_runner_27 : decode cX7_runner 27 = .ok (.getfield 10, 3) := by decide +kernel
theorem dX7_runner_30 : decode cX7_runner 30 = .ok (.getfield 101, 3) := by decide +kernel
theorem dX7_runner_33 : decode cX7_runner 33 = .ok (.getfield 105, 3) := by decide +kernel
theorem dX7_runner_36 : decode cX7_runner 36 = .ok (.iconst 5, 1) := by decide +kernel
theorem dX7_runner_37 : decode cX7_runner 37 = .ok (.if_icmp .lt 9, 3) := by decide +kernel
theorem dX7_runner_40 : decode cX7_runner 40 = .ok (.aload_n 0, 1) := by decide +kernel
theorem dX7_runner_41 : decode cX7_runner 41 = .ok (.iconst 4, 1) := by decide +kernel
theorem dX7_runner_42 : decode cX7_runner 42 = .ok (.invokevirtual 55, 3) := by decide +kernel
theorem dX7_runner_45 : decode cX7_runner 45 = .ok (.ireturn, 1) := by decide +kernel
theorem dX7_runner_46 : decode cX7_runner 46 = .ok (.aload_n 0, 1) := by decide +kernel
theorem dX7_runner_47 : decode cX7_runner 47 = .ok (.getfield 10, 3) := by decide +kernel
theorem dX7_runner_50 : decode cX7_runner 50 = .ok (.getfield 101, 3) := by decide +kernel
theorem dX7_runner_53 : decode cX7_runner 53 = .ok (.iload_n 1, 1) := by decide +kernel
theorem dX7_runner_54 : decode cX7_runner 54 = .ok (.iload_n 2, 1) := by decide +kernel
theorem dX7_runner_55 : decode cX7_runner 55 = .ok (.invokevirtual 108, 3) := by decide +kernel
theorem dX7_runner_58 : decode cX7_runner 58 = .ok (.ireturn, 1) := by decide +kernel
theorem dX7_runnerIs_0 : decode cX7_runnerIs 0 = .ok (.aload_n 0, 1) := by decide +kernel
theorem dX7_runnerIs_1 : decode cX7_runnerIs 1 = .ok (.iload_n 1, 1) := by decide +kernel
theorem dX7_runnerIs_2 : decode cX7_runnerIs 2 = .ok (.invokevirtual 109, 3) := by decide +kernel
theorem dX7_runnerIs_5 : decode cX7_runnerIs 5 = .ok (.ifCond .ne 9, 3) := by decide +kernel
theorem dX7_runnerIs_8 : decode cX7_runnerIs 8 = .ok (.aload_n 0, 1) := by decide +kernel
theorem dX7_runnerIs_9 : decode cX7_runnerIs 9 = .ok (.iconst 1, 1) := by decide +kernel
theorem dX7_runnerIs_10 : decode cX7_runnerIs 10 = .ok (.invokevirtual 55, 3) := by decide +kernel
theorem dX7_runnerIs_13 : decode cX7_runnerIs 13 = .ok (.ireturn, 1) := by decide +kernel
theorem dX7_runnerIs_14 : decode cX7_runnerIs 14 = .ok (.aload_n 0, 1) := by decide +kernel
theorem dX7_runnerIs_15 : decode cX7_runnerIs 15 = .ok (.getfield 10, 3) := by decide +kernel
theorem dX7_runnerIs_18 : decode cX7_runnerIs 18 = .ok (.getfield 101, 3) := by decide +kernel
theorem dX7_runnerIs_21 : decode cX7_runnerIs 21 = .ok (.getfield 112, 3) := by decide +kernel
theorem dX7_runnerIs_24 : decode cX7_runnerIs 24 = .ok (.iload_n 1, 1) := by decide +kernel
theorem dX7_runnerIs_25 : decode cX7_runnerIs 25 = .ok (.iaload, 1) := by decide +kernel
theorem dX7_runnerIs_26 : decode cX7_runnerIs 26 = .ok (.istore_n 3, 1) := by decide +kernel
theorem dX7_runnerIs_27 : decode cX7_runnerIs 27 = .ok (.iload_n 2, 1) := by decide +kernel
theorem dX7_runnerIs_28 : decode cX7_runnerIs 28 = .ok (.tableswitch 129 0 6 #[44, 57, 70, 72, 85, 98, 111], 44) := by decide +kernel
theorem dX7_runnerIs_72 : decode cX7_runnerIs 72 = .ok (.aload_n 0, 1) := by decide +kernel
theorem dX7_runnerIs_73 : decode cX7_runnerIs 73 = .ok (.getfield 10, 3) := by decide +kernel
theorem dX7_runnerIs_76 : decode cX7_runnerIs 76 = .ok (.getfield 101, 3) := by decide +kernel
theorem dX7_runnerIs_79 : decode cX7_runnerIs 79 = .ok (.getfield 115, 3) := by decide +kernel
theorem dX7_runnerIs_82 : decode cX7_runnerIs 82 = .ok (.iload_n 1, 1) := by decide +kernel
theorem dX7_runnerIs_83 : decode cX7_runnerIs 83 = .ok (.iaload, 1) := by decide +kernel
theorem dX7_runnerIs_84 : decode cX7_runnerIs 84 = .ok (.ireturn, 1) := by decide +kernel
theorem dX7_runnerIs_85 : decode cX7_runnerIs 85 = .ok (.aload_n 0, 1) := by decide +kernel
theorem dX7_runnerIs_86 : decode cX7_runnerIs 86 = .ok (.getfield 10, 3) := by decide +kernel
theorem dX7_runnerIs_89 : decode cX7_runnerIs 89 = .ok (.getfield 101, 3) := by decide +kernel
theorem dX7_runnerIs_92 : decode cX7_runnerIs 92 = .ok (.getfield 118, 3) := by decide +kernel
theorem dX7_runnerIs_95 : decode cX7_runnerIs 95 = .ok (.iload_n 1, 1) := by decide +kernel
theorem dX7_runnerIs_96 : decode cX7_runnerIs 96 = .ok (.iaload, 1) := by decide +kernel
theorem dX7_runnerIs_97 : decode cX7_runnerIs 97 = .ok (.ireturn, 1) := by decide +kernel
theorem dX7_runnerIs_98 : decode cX7_runnerIs 98 = .ok (.iload_n 3, 1) := by decide +kernel
theorem dX7_runnerIs_99 : decode cX7_runnerIs 99 = .ok (.ireturn, 1) := by decide +kernel
theorem dX7_runnerIs_100 : decode cX7_runnerIs 100 = .ok (.aload_n 0, 1) := by decide +kernel
theorem dX7_runnerIs_101 : decode cX7_runnerIs 101 = .ok (.getfield 10, 3) := by decide +kernel
theorem dX7_runnerIs_104 : decode cX7_runnerIs 104 = .ok (.getfield 101, 3) := by decide +kernel
theorem dX7_runnerIs_107 : decode cX7_runnerIs 107 = .ok (.getfield 121, 3) := by decide +kernel
theorem dX7_runnerIs_110 : decode cX7_runnerIs 110 = .ok (.iload_n 1, 1) := by decide +kernel
theorem dX7_runnerIs_111 : decode cX7_runnerIs 111 = .ok (.iaload, 1) := by decide +kernel
theorem dX7_runnerIs_112 : decode cX7_runnerIs 112 = .ok (.ireturn, 1) := by decide +kernel
theorem dX7_runnerIs_113 : decode cX7_runnerIs 113 = .ok (.aload_n 0, 1) := by decide +kernel
theorem dX7_runnerIs_114 : decode cX7_runnerIs 114 = .ok (.getfield 10, 3) := by decide +kernel
theorem dX7_runnerIs_117 : decode cX7_runnerIs 117 = .ok (.getfield 101, 3) := by decide +kernel
theorem dX7_runnerIs_120 : decode cX7_runnerIs 120 = .ok (.getfield 124, 3) := by decide +kernel
theorem dX7_runnerIs_123 : decode cX7_runnerIs 123 = .ok (.iload_n 1, 1) := by decide +kernel
theorem dX7_runnerIs_124 : decode cX7_runnerIs 124 = .ok (.iaload, 1) := by decide +kernel
theorem dX7_runnerIs_125 : decode cX7_runnerIs 125 = .ok (.ireturn, 1) := by decide +kernel
theorem dX7_runnerIs_126 : decode cX7_runnerIs 126 = .ok (.aload_n 0, 1) := by decide +kernel
theorem dX7_runnerIs_127 : decode cX7_runnerIs 127 = .ok (.getfield 10, 3) := by decide +kernel
theorem dX7_runnerIs_130 : decode cX7_runnerIs 130 = .ok (.getfield 101, 3) := by decide +kernel
theorem dX7_runnerIs_133 : decode cX7_runnerIs 133 = .ok (.iload_n 1, 1) := by decide +kernel
theorem dX7_runnerIs_134 : decode cX7_runnerIs 134 = .ok (.iload_n 3, 1) := by decide +kernel
theorem dX7_runnerIs_135 : decode cX7_runnerIs 135 = .ok (.invokevirtual 127, 3) := by decide +kernel
theorem dX7_runnerIs_138 : decode cX7_runnerIs 138 = .ok (.ireturn, 1) := by decide +kernel
theorem dX7_runnerIs_139 : decode cX7_runnerIs 139 = .ok (.aload_n 0, 1) := by decide +kernel
theorem dX7_runnerIs_140 : decode cX7_runnerIs 140 = .ok (.getfield 10, 3) := by decide +kernel
theorem dX7_runnerIs_143 : decode cX7_runnerIs 143 = .ok (.iload_n 1, 1) := by decide +kernel
theorem dX7_runnerIs_144 : decode cX7_runnerIs 144 = .ok (.iload_n 3, 1) := by decide +kernel
theorem dX7_runnerIs_145 : decode cX7_runnerIs 145 = .ok (.invokevirtual 130, 3) := by decide +kernel
theorem dX7_runnerIs_148 : decode cX7_runnerIs 148 = .ok (.ifCond .eq 7, 3) := by decide +kernel
theorem dX7_runnerIs_151 : decode cX7_runnerIs 151 = .ok (.iconst 1, 1) := by decide +kernel
theorem dX7_runnerIs_152 : decode cX7_runnerIs 152 = .ok (.goto 4, 3) := by decide +kernel
theorem dX7_runnerIs_155 : decode cX7_runnerIs 155 = .ok (.iconst 0, 1) := by decide +kernel
theorem dX7_runnerIs_156 : decode cX7_runnerIs 156 = .ok (.ireturn, 1) := by decide +kernel
theorem dX7_runnerIs_157 : decode cX7_runnerIs 157 = .ok (.aload_n 0, 1) := by decide +kernel
theorem dX7_runnerIs_158 : decode cX7_runnerIs 158 = .ok (.iconst 1, 1) := by decide +kernel
theorem dX7_runnerIs_159 : decode cX7_runnerIs 159 = .ok (.invokevirtual 55, 3) := by decide +kernel
theorem dX7_runnerIs_162 : decode cX7_runnerIs 162 = .ok (.ireturn, 1) := by decide +kernel
theorem dX7_leads_0 : decode cX7_leads 0 = .ok (.aload_n 0, 1) := by decide +kernel
theorem dX7_leads_1 : decode cX7_leads 1 = .ok (.iload_n 1, 1) := by decide +kernel
theorem dX7_leads_2 : decode cX7_leads 2 = .ok (.invokevirtual 109, 3) := by decide +kernel
theorem dX7_leads_5 : decode cX7_leads 5 = .ok (.ifCond .eq 10, 3) := by decide +kernel
theorem dX7_leads_8 : decode cX7_leads 8 = .ok (.iload_n 2, 1) := by decide +kernel
theorem dX7_leads_9 : decode cX7_leads 9 = .ok (.invokestatic 133, 3) := by decide +kernel
theorem dX7_leads_12 : decode cX7_leads 12 = .ok (.ifCond .ne 9, 3) := by decide +kernel
theorem dX7_leads_15 : decode cX7_leads 15 = .ok (.aload_n 0, 1) := by decide +kernel
theorem dX7_leads_16 : decode cX7_leads 16 = .ok (.iconst 1, 1) := by decide +kernel
theorem dX7_leads_17 : decode cX7_leads 17 = .ok (.invokevirtual 55, 3) := by decide +kernel
theorem dX7_leads_20 : decode cX7_leads 20 = .ok (.ireturn, 1) := by decide +kernel
theorem dX7_leads_21 : decode cX7_leads 21 = .ok (.aload_n 0, 1) := by decide +kernel
theorem dX7_leads_22 : decode cX7_leads 22 = .ok (.getfield 10, 3) := by decide +kernel
theorem dX7_leads_25 : decode cX7_leads 25 = .ok (.getfield 101, 3) := by decide +kernel
theorem dX7_leads_28 : decode cX7_leads 28 = .ok (.getfield 112, 3) := by decide +kernel
theorem dX7_leads_31 : decode cX7_leads 31 = .ok (.iload_n 1, 1) := by decide +kernel
theorem dX7_leads_32 : decode cX7_leads 32 = .ok (.iaload, 1) := by decide +kernel
theorem dX7_leads_33 : decode cX7_leads 33 = .ok (.istore_n 3, 1) := by decide +kernel
theorem dX7_leads_34 : decode cX7_leads 34 = .ok (.aload_n 0, 1) := by decide +kernel
theorem dX7_leads_35 : decode cX7_leads 35 = .ok (.getfield 10, 3) := by decide +kernel
theorem dX7_leads_38 : decode cX7_leads 38 = .ok (.getfield 101, 3) := by decide +kernel
theorem dX7_leads_41 : decode cX7_leads 41 = .ok (.getfield 112, 3) := by decide +kernel
theorem dX7_leads_44 : decode cX7_leads 44 = .ok (.iload_n 1, 1) := by decide +kernel
theorem dX7_leads_45 : decode cX7_leads 45 = .ok (.iload_n 2, 1) := by decide +kernel
theorem dX7_leads_46 : decode cX7_leads 46 = .ok (.iastore, 1) := by decide +kernel
theorem dX7_leads_47 : decode cX7_leads 47 = .ok (.iload_n 3, 1) := by decide +kernel
theorem dX7_leads_48 : decode cX7_leads 48 = .ok (.ireturn, 1) := by decide +kernel
theorem dX7_set_0 : decode cX7_set 0 = .ok (.iload_n 1, 1) := by decide +kernel
theorem dX7_set_1 : decode cX7_set 1 = .ok (.iconst 0, 1) := by decide +kernel
theorem dX7_set_2 : decode cX7_set 2 = .ok (.iconst 3, 1) := by decide +kernel
theorem dX7_set_3 : decode cX7_set 3 = .ok (.invokestatic 93, 3) := by decide +kernel
theorem dX7_set_6 : decode cX7_set 6 = .ok (.ifCond .eq 15, 3) := by decide +kernel
theorem dX7_set_9 : decode cX7_set 9 = .ok (.iload_n 2, 1) := by decide +kernel
theorem dX7_set_10 : decode cX7_set 10 = .ok (.iconst 0, 1) := by decide +kernel
theorem dX7_set_11 : decode cX7_set 11 = .ok (.iload_n 1, 1) := by decide +kernel
theorem dX7_set_12 : decode cX7_set 12 = .ok (.invokestatic 136, 3) := by decide +kernel
theorem dX7_set_15 : decode cX7_set 15 = .ok (.invokestatic 93, 3) := by decide +kernel
theorem dX7_set_18 : decode cX7_set 18 = .ok (.ifCond .ne 9, 3) := by decide +kernel
theorem dX7_set_21 : decode cX7_set 21 = .ok (.aload_n 0, 1) := by decide +kernel
theorem dX7_set_22 : decode cX7_set 22 = .ok (.iconst 1, 1) := by decide +kernel
theorem dX7_set_23 : decode cX7_set 23 = .ok (.invokevirtual 55, 3) := by decide +kernel
theorem dX7_set_26 : decode cX7_set 26 = .ok (.ireturn, 1) := by decide +kernel
theorem dX7_set_27 : decode cX7_set 27 = .ok (.aload_n 0, 1) := by decide +kernel
theorem dX7_set_28 : decode cX7_set 28 = .ok (.getfield 10, 3) := by decide +kernel
theorem dX7_set_31 : decode cX7_set 31 = .ok (.iload_n 1, 1) := by decide +kernel
theorem dX7_set_32 : decode cX7_set 32 = .ok (.iload_n 2, 1) := by decide +kernel
theorem dX7_set_33 : decode cX7_set 33 = .ok (.invokevirtual 139, 3) := by decide +kernel
theorem dX7_set_36 : decode cX7_set 36 = .ok (.ireturn, 1) := by decide +kernel
theorem dX7_steal_0 : decode cX7_steal 0 = .ok (.aload_n 0, 1) := by decide +kernel
theorem dX7_steal_1 : decode cX7_steal 1 = .ok (.iload_n 1, 1) := by decide +kernel
theorem dX7_steal_2 : decode cX7_steal 2 = .ok (.invokevirtual 109, 3) := by decide +kernel
theorem dX7_steal_5 : decode cX7_steal 5 = .ok (.ifCond .eq 11, 3) := by decide +kernel
theorem dX7_steal_8 : decode cX7_steal 8 = .ok (.aload_n 0, 1) := by decide +kernel
theorem dX7_steal_9 : decode cX7_steal 9 = .ok (.iload_n 2, 1) := by decide +kernel
theorem dX7_steal_10 : decode cX7_steal 10 = .ok (.invokevirtual 72, 3) := by decide +kernel
theorem dX7_steal_13 : decode cX7_steal 13 = .ok (.ifCond .ne 9, 3) := by decide +kernel
theorem dX7_steal_16 : decode cX7_steal 16 = .ok (.aload_n 0, 1) := by decide +kernel
theorem dX7_steal_17 : decode cX7_steal 17 = .ok (.iconst 1, 1) := by decide +kernel
theorem dX7_steal_18 : decode cX7_steal 18 = .ok (.invokevirtual 55, 3) := by decide +kernel
theorem dX7_steal_21 : decode cX7_steal 21 = .ok (.ireturn, 1) := by decide +kernel
theorem dX7_steal_22 : decode cX7_steal 22 = .ok (.aload_n 0, 1) := by decide +kernel
theorem dX7_steal_23 : decode cX7_steal 23 = .ok (.getfield 10, 3) := by decide +kernel
theorem dX7_steal_26 : decode cX7_steal 26 = .ok (.iload_n 1, 1) := by decide +kernel
theorem dX7_steal_27 : decode cX7_steal 27 = .ok (.iload_n 2, 1) := by decide +kernel
theorem dX7_steal_28 : decode cX7_steal 28 = .ok (.invokevirtual 142, 3) := by decide +kernel
theorem dX7_steal_31 : decode cX7_steal 31 = .ok (.ifCond .eq 7, 3) := by decide +kernel
theorem dX7_steal_34 : decode cX7_steal 34 = .ok (.iconst 1, 1) := by decide +kernel
theorem dX7_steal_35 : decode cX7_steal 35 = .ok (.goto 4, 3) := by decide +kernel
theorem dX7_steal_38 : decode cX7_steal 38 = .ok (.iconst 0, 1) := by decide +kernel
theorem dX7_steal_39 : decode cX7_steal 39 = .ok (.ireturn, 1) := by decide +kernel
theorem dX7_over_0 : decode cX7_over 0 = .ok (.aload_n 0, 1) := by decide +kernel
theorem dX7_over_1 : decode cX7_over 1 = .ok (.iload_n 1, 1) := by decide +kernel
theorem dX7_over_2 : decode cX7_over 2 = .ok (.invokevirtual 109, 3) := by decide +kernel
theorem dX7_over_5 : decode cX7_over 5 = .ok (.ifCond .ne 9, 3) := by decide +kernel
theorem dX7_over_8 : decode cX7_over 8 = .ok (.aload_n 0, 1) := by decide +kernel
theorem dX7_over_9 : decode cX7_over 9 = .ok (.iconst 1, 1) := by decide +kernel
theorem dX7_over_10 : decode cX7_over 10 = .ok (.invokevirtual 55, 3) := by decide +kernel
theorem dX7_over_13 : decode cX7_over 13 = .ok (.ireturn, 1) := by decide +kernel
theorem dX7_over_14 : decode cX7_over 14 = .ok (.aload_n 0, 1) := by decide +kernel
theorem dX7_over_15 : decode cX7_over 15 = .ok (.getfield 10, 3) := by decide +kernel
theorem dX7_over_18 : decode cX7_over 18 = .ok (.iload_n 1, 1) := by decide +kernel
theorem dX7_over_19 : decode cX7_over 19 = .ok (.aload_n 0, 1) := by decide +kernel
theorem dX7_over_20 : decode cX7_over 20 = .ok (.getfield 10, 3) := by decide +kernel
theorem dX7_over_23 : decode cX7_over 23 = .ok (.getfield 101, 3) := by decide +kernel
theorem dX7_over_26 : decode cX7_over 26 = .ok (.getfield 112, 3) := by decide +kernel
theorem dX7_over_29 : decode cX7_over 29 = .ok (.iload_n 1, 1) := by decide +kernel
theorem dX7_over_30 : decode cX7_over 30 = .ok (.iaload, 1) := by decide +kernel
theorem dX7_over_31 : decode cX7_over 31 = .ok (.invokevirtual 130, 3) := by decide +kernel
theorem dX7_over_34 : decode cX7_over 34 = .ok (.ifCond .ne 5, 3) := by decide +kernel
theorem dX7_over_37 : decode cX7_over 37 = .ok (.iconst 0, 1) := by decide +kernel
theorem dX7_over_38 : decode cX7_over 38 = .ok (.ireturn, 1) := by decide +kernel
theorem dX7_over_39 : decode cX7_over 39 = .ok (.aload_n 0, 1) := by decide +kernel
theorem dX7_over_40 : decode cX7_over 40 = .ok (.getfield 10, 3) := by decide +kernel
theorem dX7_over_43 : decode cX7_over 43 = .ok (.iload_n 1, 1) := by decide +kernel
theorem dX7_over_44 : decode cX7_over 44 = .ok (.invokevirtual 145, 3) := by decide +kernel
theorem dX7_over_47 : decode cX7_over 47 = .ok (.iconst 1, 1) := by decide +kernel
theorem dX7_over_48 : decode cX7_over 48 = .ok (.ireturn, 1) := by decide +kernel
theorem dX7_feed_0 : decode cX7_feed 0 = .ok (.iload_n 3, 1) := by decide +kernel
theorem dX7_feed_1 : decode cX7_feed 1 = .ok (.iconst 1, 1) := by decide +kernel
theorem dX7_feed_2 : decode cX7_feed 2 = .ok (.bipush 8, 2) := by decide +kernel
theorem dX7_feed_4 : decode cX7_feed 4 = .ok (.invokestatic 93, 3) := by decide +kernel
theorem dX7_feed_7 : decode cX7_feed 7 = .ok (.ifCond .ne 9, 3) := by decide +kernel
theorem dX7_feed_10 : decode cX7_feed 10 = .ok (.aload_n 0, 1) := by decide +kernel
theorem dX7_feed_11 : decode cX7_feed 11 = .ok (.iconst 1, 1) := by decide +kernel
theorem dX7_feed_12 : decode cX7_feed 12 = .ok (.invokevirtual 55, 3) := by decide +kernel
theorem dX7_feed_15 : decode cX7_feed 15 = .ok (.ireturn, 1) := by decide +kernel
theorem dX7_feed_16 : decode cX7_feed 16 = .ok (.aload_n 0, 1) := by decide +kernel
theorem dX7_feed_17 : decode cX7_feed 17 = .ok (.getfield 10, 3) := by decide +kernel
theorem dX7_feed_20 : decode cX7_feed 20 = .ok (.getfield 149, 3) := by decide +kernel
theorem dX7_feed_23 : decode cX7_feed 23 = .ok (.iload_n 3, 1) := by decide +kernel
theorem dX7_feed_24 : decode cX7_feed 24 = .ok (.iadd, 1) := by decide +kernel
theorem dX7_feed_25 : decode cX7_feed 25 = .ok (.bipush 60, 2) := by decide +kernel
theorem dX7_feed_27 : decode cX7_feed 27 = .ok (.if_icmp .le 9, 3) := by decide +kernel
theorem dX7_feed_30 : decode cX7_feed 30 = .ok (.aload_n 0, 1) := by decide +kernel
theorem dX7_feed_31 : decode cX7_feed 31 = .ok (.iconst 4, 1) := by decide +kernel
theorem dX7_feed_32 : decode cX7_feed 32 = .ok (.invokevirtual 55, 3) := by decide +kernel
theorem dX7_feed_35 : decode cX7_feed 35 = .ok (.ireturn, 1) := by decide +kernel
theorem dX7_feed_36 : decode cX7_feed 36 = .ok (.iconst 0, 1) := by decide +kernel
theorem dX7_feed_37 : decode cX7_feed 37 = .ok (.istore 4, 2) := by decide +kernel
theorem dX7_feed_39 : decode cX7_feed 39 = .ok (.iload 4, 2) := by decide +kernel
theorem dX7_feed_41 : decode cX7_feed 41 = .ok (.iload_n 3, 1) := by decide +kernel
theorem dX7_feed_42 : decode cX7_feed 42 = .ok (.if_icmp .ge 36, 3) := by decide +kernel
theorem dX7_feed_45 : decode cX7_feed 45 = .ok (.aload_n 0, 1) := by decide +kernel
theorem dX7_feed_46 : decode cX7_feed 46 = .ok (.getfield 10, 3) := by decide +kernel
theorem dX7_feed_49 : decode cX7_feed 49 = .ok (.getfield 152, 3) := by decide +kernel
theorem dX7_feed_52 : decode cX7_feed 52 = .ok (.aload_n 0, 1) := by decide +kernel
theorem dX7_feed_53 : decode cX7_feed 53 = .ok (.getfield 10, 3) := by decide +kernel
theorem dX7_feed_56 : decode cX7_feed 56 = .ok (.getfield 149, 3) := by decide +kernel
theorem dX7_feed_59 : decode cX7_feed 59 = .ok (.iload 4, 2) := by decide +kernel
theorem dX7_feed_61 : decode cX7_feed 61 = .ok (.iadd, 1) := by decide +kernel
theorem dX7_feed_62 : decode cX7_feed 62 = .ok (.lload_n 1, 1) := by decide +kernel
theorem dX7_feed_63 : decode cX7_feed 63 = .ok (.bipush 8, 2) := by decide +kernel
theorem dX7_feed_65 : decode cX7_feed 65 = .ok (.iload 4, 2) := by decide +kernel
theorem dX7_feed_67 : decode cX7_feed 67 = .ok (.imul, 1) := by decide +kernel
theorem dX7_feed_68 : decode cX7_feed 68 = .ok (.lushr, 1) := by decide +kernel
theorem dX7_feed_69 : decode cX7_feed 69 = .ok (.l2i, 1) := by decide +kernel
theorem dX7_feed_70 : decode cX7_feed 70 = .ok (.i2b, 1) := by decide +kernel
theorem dX7_feed_71 : decode cX7_feed 71 = .ok (.bastore, 1) := by decide +kernel
theorem dX7_feed_72 : decode cX7_feed 72 = .ok (.iinc 4 1, 3) := by decide +kernel
theorem dX7_feed_75 : decode cX7_feed 75 = .ok (.goto (-36), 3) := by decide +kernel
theorem dX7_feed_78 : decode cX7_feed 78 = .ok (.aload_n 0, 1) := by decide +kernel
theorem dX7_feed_79 : decode cX7_feed 79 = .ok (.getfield 10, 3) := by decide +kernel
theorem dX7_feed_82 : decode cX7_feed 82 = .ok (.dup, 1) := by decide +kernel
theorem dX7_feed_83 : decode cX7_feed 83 = .ok (.getfield 149, 3) := by decide +kernel
theorem dX7_feed_86 : decode cX7_feed 86 = .ok (.iload_n 3, 1) := by decide +kernel
theorem dX7_feed_87 : decode cX7_feed 87 = .ok (.iadd, 1) := by decide +kernel
theorem dX7_feed_88 : decode cX7_feed 88 = .ok (.putfield 149, 3) := by decide +kernel
theorem dX7_feed_91 : decode cX7_feed 91 = .ok (.aload_n 0, 1) := by decide +kernel
theorem dX7_feed_92 : decode cX7_feed 92 = .ok (.getfield 10, 3) := by decide +kernel
theorem dX7_feed_95 : decode cX7_feed 95 = .ok (.getfield 149, 3) := by decide +kernel
theorem dX7_feed_98 : decode cX7_feed 98 = .ok (.ireturn, 1) := by decide +kernel
theorem dX7_text_0 : decode cX7_text 0 = .ok (.iload_n 1, 1) := by decide +kernel
theorem dX7_text_1 : decode cX7_text 1 = .ok (.invokestatic 156, 3) := by decide +kernel
theorem dX7_text_4 : decode cX7_text 4 = .ok (.ifCond .ne 9, 3) := by decide +kernel
theorem dX7_text_7 : decode cX7_text 7 = .ok (.aload_n 0, 1) := by decide +kernel
theorem dX7_text_8 : decode cX7_text 8 = .ok (.iconst 1, 1) := by decide +kernel
theorem dX7_text_9 : decode cX7_text 9 = .ok (.invokevirtual 55, 3) := by decide +kernel
theorem dX7_text_12 : decode cX7_text 12 = .ok (.ireturn, 1) := by decide +kernel
theorem dX7_text_13 : decode cX7_text 13 = .ok (.aload_n 0, 1) := by decide +kernel
theorem dX7_text_14 : decode cX7_text 14 = .ok (.getfield 22, 3) := by decide +kernel
theorem dX7_text_17 : decode cX7_text 17 = .ok (.aload_n 0, 1) := by decide +kernel
theorem dX7_text_18 : decode cX7_text 18 = .ok (.getfield 10, 3) := by decide +kernel
theorem dX7_text_21 : decode cX7_text 21 = .ok (.getfield 152, 3) := by decide +kernel
theorem dX7_text_24 : decode cX7_text 24 = .ok (.aload_n 0, 1) := by decide +kernel
theorem dX7_text_25 : decode cX7_text 25 = .ok (.getfield 10, 3) := by decide +kernel
theorem dX7_text_28 : decode cX7_text 28 = .ok (.getfield 149, 3) := by decide +kernel
theorem dX7_text_31 : decode cX7_text 31 = .ok (.iload_n 1, 1) := by decide +kernel
theorem dX7_text_32 : decode cX7_text 32 = .ok (.invokevirtual 159, 3) := by decide +kernel
theorem dX7_text_35 : decode cX7_text 35 = .ok (.istore_n 2, 1) := by decide +kernel
theorem dX7_text_36 : decode cX7_text 36 = .ok (.aload_n 0, 1) := by decide +kernel
theorem dX7_text_37 : decode cX7_text 37 = .ok (.getfield 10, 3) := by decide +kernel
theorem dX7_text_40 : decode cX7_text 40 = .ok (.iconst 0, 1) := by decide +kernel
theorem dX7_text_41 : decode cX7_text 41 = .ok (.putfield 149, 3) := by decide +kernel
theorem dX7_text_44 : decode cX7_text 44 = .ok (.iload_n 2, 1) := by decide +kernel
theorem dX7_text_45 : decode cX7_text 45 = .ok (.ifCond .lt 8, 3) := by decide +kernel
theorem dX7_text_48 : decode cX7_text 48 = .ok (.bipush (-10), 2) := by decide +kernel
theorem dX7_text_50 : decode cX7_text 50 = .ok (.iload_n 2, 1) := by decide +kernel
theorem dX7_text_51 : decode cX7_text 51 = .ok (.isub, 1) := by decide +kernel
theorem dX7_text_52 : decode cX7_text 52 = .ok (.ireturn, 1) := by decide +kernel
theorem dX7_text_53 : decode cX7_text 53 = .ok (.aload_n 0, 1) := by decide +kernel
theorem dX7_text_54 : decode cX7_text 54 = .ok (.getfield 10, 3) := by decide +kernel
theorem dX7_text_57 : decode cX7_text 57 = .ok (.iload_n 1, 1) := by decide +kernel
theorem dX7_text_58 : decode cX7_text 58 = .ok (.invokevirtual 163, 3) := by decide +kernel
theorem dX7_text_61 : decode cX7_text 61 = .ok (.aload_n 0, 1) := by decide +kernel
theorem dX7_text_62 : decode cX7_text 62 = .ok (.getfield 22, 3) := by decide +kernel
theorem dX7_text_65 : decode cX7_text 65 = .ok (.getfield 167, 3) := by decide +kernel
theorem dX7_text_68 : decode cX7_text 68 = .ok (.invokevirtual 171, 3) := by decide +kernel
theorem dX7_text_71 : decode cX7_text 71 = .ok (.iconst 1, 1) := by decide +kernel
theorem dX7_text_72 : decode cX7_text 72 = .ok (.ireturn, 1) := by decide +kernel
theorem dX7_untell_0 : decode cX7_untell 0 = .ok (.iload_n 1, 1) := by decide +kernel
theorem dX7_untell_1 : decode cX7_untell 1 = .ok (.invokestatic 156, 3) := by decide +kernel
theorem dX7_untell_4 : decode cX7_untell 4 = .ok (.ifCond .ne 9, 3) := by decide +kernel
theorem dX7_untell_7 : decode cX7_untell 7 = .ok (.aload_n 0, 1) := by decide +kernel
theorem dX7_untell_8 : decode cX7_untell 8 = .ok (.iconst 1, 1) := by decide +kernel
theorem dX7_untell_9 : decode cX7_untell 9 = .ok (.invokevirtual 55, 3) := by decide +kernel
theorem dX7_untell_12 : decode cX7_untell 12 = .ok (.ireturn, 1) := by decide +kernel
theorem dX7_untell_13 : decode cX7_untell 13 = .ok (.aload_n 0, 1) := by decide +kernel
theorem dX7_untell_14 : decode cX7_untell 14 = .ok (.getfield 10, 3) := by decide +kernel
theorem dX7_untell_17 : decode cX7_untell 17 = .ok (.iload_n 1, 1) := by decide +kernel
theorem dX7_untell_18 : decode cX7_untell 18 = .ok (.invokevirtual 163, 3) := by decide +kernel
theorem dX7_untell_21 : decode cX7_untell 21 = .ok (.astore_n 2, 1) := by decide +kernel
theorem dX7_untell_22 : decode cX7_untell 22 = .ok (.aload_n 2, 1) := by decide +kernel
theorem dX7_untell_23 : decode cX7_untell 23 = .ok (.getfield 177, 3) := by decide +kernel
theorem dX7_untell_26 : decode cX7_untell 26 = .ok (.ifCond .eq 7, 3) := by decide +kernel
theorem dX7_untell_29 : decode cX7_untell 29 = .ok (.iconst 1, 1) := by decide +kernel
theorem dX7_untell_30 : decode cX7_untell 30 = .ok (.goto 4, 3) := by decide +kernel
theorem dX7_untell_33 : decode cX7_untell 33 = .ok (.iconst 0, 1) := by decide +kernel
theorem dX7_untell_34 : decode cX7_untell 34 = .ok (.istore_n 3, 1) := by decide +kernel
theorem dX7_untell_35 : decode cX7_untell 35 = .ok (.aload_n 2, 1) := by decide +kernel
theorem dX7_untell_36 : decode cX7_untell 36 = .ok (.iconst 0, 1) := by decide +kernel
theorem dX7_untell_37 : decode cX7_untell 37 = .ok (.putfield 177, 3) := by decide +kernel
theorem dX7_untell_40 : decode cX7_untell 40 = .ok (.iload_n 3, 1) := by decide +kernel
theorem dX7_untell_41 : decode cX7_untell 41 = .ok (.ireturn, 1) := by decide +kernel
theorem dX7_law_0 : decode cX7_law 0 = .ok (.iload_n 1, 1) := by decide +kernel
theorem dX7_law_1 : decode cX7_law 1 = .ok (.invokestatic 156, 3) := by decide +kernel
theorem dX7_law_4 : decode cX7_law 4 = .ok (.ifCond .ne 9, 3) := by decide +kernel
theorem dX7_law_7 : decode cX7_law 7 = .ok (.aload_n 0, 1) := by decide +kernel
theorem dX7_law_8 : decode cX7_law 8 = .ok (.iconst 1, 1) := by decide +kernel
theorem dX7_law_9 : decode cX7_law 9 = .ok (.invokevirtual 55, 3) := by decide +kernel
theorem dX7_law_12 : decode cX7_law 12 = .ok (.ireturn, 1) := by decide +kernel
theorem dX7_law_13 : decode cX7_law 13 = .ok (.aload_n 0, 1) := by decide +kernel
theorem dX7_law_14 : decode cX7_law 14 = .ok (.getfield 10, 3) := by decide +kernel
theorem dX7_law_17 : decode cX7_law 17 = .ok (.iload_n 1, 1) := by decide +kernel
theorem dX7_law_18 : decode cX7_law 18 = .ok (.iload_n 2, 1) := by decide +kernel
theorem dX7_law_19 : decode cX7_law 19 = .ok (.iload_n 3, 1) := by decide +kernel
theorem dX7_law_20 : decode cX7_law 20 = .ok (.iload 4, 2) := by decide +kernel
theorem dX7_law_22 : decode cX7_law 22 = .ok (.invokevirtual 181, 3) := by decide +kernel
theorem dX7_law_25 : decode cX7_law 25 = .ok (.ireturn, 1) := by decide +kernel
theorem dX7_margin_0 : decode cX7_margin 0 = .ok (.aload_n 0, 1) := by decide +kernel
theorem dX7_margin_1 : decode cX7_margin 1 = .ok (.iload_n 1, 1) := by decide +kernel
theorem dX7_margin_2 : decode cX7_margin 2 = .ok (.invokevirtual 109, 3) := by decide +kernel
theorem dX7_margin_5 : decode cX7_margin 5 = .ok (.ifCond .eq 18, 3) := by decide +kernel
theorem dX7_margin_8 : decode cX7_margin 8 = .ok (.aload_n 0, 1) := by decide +kernel
theorem dX7_margin_9 : decode cX7_margin 9 = .ok (.iload_n 2, 1) := by decide +kernel
theorem dX7_margin_10 : decode cX7_margin 10 = .ok (.invokevirtual 72, 3) := by decide +kernel
theorem dX7_margin_13 : decode cX7_margin 13 = .ok (.ifCond .eq 10, 3) := by decide +kernel
theorem dX7_margin_16 : decode cX7_margin 16 = .ok (.iload_n 3, 1) := by decide +kernel
theorem dX7_margin_17 : decode cX7_margin 17 = .ok (.invokestatic 133, 3) := by decide +kernel
theorem dX7_margin_20 : decode cX7_margin 20 = .ok (.ifCond .ne 9, 3) := by decide +kernel
theorem dX7_margin_23 : decode cX7_margin 23 = .ok (.aload_n 0, 1) := by decide +kernel
theorem dX7_margin_24 : decode cX7_margin 24 = .ok (.iconst 1, 1) := by decide +kernel
theorem dX7_margin_25 : decode cX7_margin 25 = .ok (.invokevirtual 55, 3) := by decide +kernel
theorem dX7_margin_28 : decode cX7_margin 28 = .ok (.ireturn, 1) := by decide +kernel
theorem dX7_margin_29 : decode cX7_margin 29 = .ok (.aload_n 0, 1) := by decide +kernel
theorem dX7_margin_30 : decode cX7_margin 30 = .ok (.getfield 10, 3) := by decide +kernel
theorem dX7_margin_33 : decode cX7_margin 33 = .ok (.iload_n 1, 1) := by decide +kernel
theorem dX7_margin_34 : decode cX7_margin 34 = .ok (.iload_n 2, 1) := by decide +kernel
theorem dX7_margin_35 : decode cX7_margin 35 = .ok (.iload_n 3, 1) := by decide +kernel
theorem dX7_margin_36 : decode cX7_margin 36 = .ok (.invokevirtual 185, 3) := by decide +kernel
theorem dX7_margin_39 : decode cX7_margin 39 = .ok (.ireturn, 1) := by decide +kernel
theorem dX7_leadFor_0 : decode cX7_leadFor 0 = .ok (.aload_n 0, 1) := by decide +kernel
theorem dX7_leadFor_1 : decode cX7_leadFor 1 = .ok (.iload_n 1, 1) := by decide +kernel
theorem dX7_leadFor_2 : decode cX7_leadFor 2 = .ok (.invokevirtual 109, 3) := by decide +kernel
theorem dX7_leadFor_5 : decode cX7_leadFor 5 = .ok (.ifCond .eq 11, 3) := by decide +kernel
theorem dX7_leadFor_8 : decode cX7_leadFor 8 = .ok (.aload_n 0, 1) := by decide +kernel
theorem dX7_leadFor_9 : decode cX7_leadFor 9 = .ok (.iload_n 2, 1) := by decide +kernel
theorem dX7_leadFor_10 : decode cX7_leadFor 10 = .ok (.invokevirtual 72, 3) := by decide +kernel
theorem dX7_leadFor_13 : decode cX7_leadFor 13 = .ok (.ifCond .ne 9, 3) := by decide +kernel
theorem dX7_leadFor_16 : decode cX7_leadFor 16 = .ok (.aload_n 0, 1) := by decide +kernel
theorem dX7_leadFor_17 : decode cX7_leadFor 17 = .ok (.iconst 1, 1) := by decide +kernel
theorem dX7_leadFor_18 : decode cX7_leadFor 18 = .ok (.invokevirtual 55, 3) := by decide +kernel
theorem dX7_leadFor_21 : decode cX7_leadFor 21 = .ok (.ireturn, 1) := by decide +kernel
theorem dX7_leadFor_22 : decode cX7_leadFor 22 = .ok (.iconst 0, 1) := by decide +kernel
theorem dX7_leadFor_23 : decode cX7_leadFor 23 = .ok (.istore_n 3, 1) := by decide +kernel
theorem dX7_leadFor_24 : decode cX7_leadFor 24 = .ok (.iload_n 3, 1) := by decide +kernel
theorem dX7_leadFor_25 : decode cX7_leadFor 25 = .ok (.bipush 20, 2) := by decide +kernel
theorem dX7_leadFor_27 : decode cX7_leadFor 27 = .ok (.if_icmp .gt 24, 3) := by decide +kernel
theorem dX7_leadFor_30 : decode cX7_leadFor 30 = .ok (.aload_n 0, 1) := by decide +kernel
theorem dX7_leadFor_31 : decode cX7_leadFor 31 = .ok (.getfield 10, 3) := by decide +kernel
theorem dX7_leadFor_34 : decode cX7_leadFor 34 = .ok (.iload_n 1, 1) := by decide +kernel
theorem dX7_leadFor_35 : decode cX7_leadFor 35 = .ok (.iload_n 2, 1) := by decide +kernel
theorem dX7_leadFor_36 : decode cX7_leadFor 36 = .ok (.iload_n 3, 1) := by decide +kernel
theorem dX7_leadFor_37 : decode cX7_leadFor 37 = .ok (.invokevirtual 185, 3) := by decide +kernel
theorem dX7_leadFor_40 : decode cX7_leadFor 40 = .ok (.ifCond .lt 5, 3) := by decide +kernel
theorem dX7_leadFor_43 : decode cX7_leadFor 43 = .ok (.iload_n 3, 1) := by decide +kernel
theorem dX7_leadFor_44 : decode cX7_leadFor 44 = .ok (.ireturn, 1) := by decide +kernel
theorem dX7_leadFor_45 : decode cX7_leadFor 45 = .ok (.iinc 3 1, 3) := by decide +kernel
theorem dX7_leadFor_48 : decode cX7_leadFor 48 = .ok (.goto (-24), 3) := by decide +kernel
theorem dX7_leadFor_51 : decode cX7_leadFor 51 = .ok (.aload_n 0, 1) := by decide +kernel
theorem dX7_leadFor_52 : decode cX7_leadFor 52 = .ok (.iconst 2, 1) := by decide +kernel
theorem dX7_leadFor_53 : decode cX7_leadFor 53 = .ok (.invokevirtual 55, 3) := by decide +kernel
theorem dX7_leadFor_56 : decode cX7_leadFor 56 = .ok (.ireturn, 1) := by decide +kernel
theorem dX7_bestLead_0 : decode cX7_bestLead 0 = .ok (.aload_n 0, 1) := by decide +kernel
theorem dX7_bestLead_1 : decode cX7_bestLead 1 = .ok (.iload_n 1, 1) := by decide +kernel
theorem dX7_bestLead_2 : decode cX7_bestLead 2 = .ok (.invokevirtual 109, 3) := by decide +kernel
theorem dX7_bestLead_5 : decode cX7_bestLead 5 = .ok (.ifCond .eq 12, 3) := by decide +kernel
theorem dX7_bestLead_8 : decode cX7_bestLead 8 = .ok (.iload_n 2, 1) := by decide +kernel
theorem dX7_bestLead_9 : decode cX7_bestLead 9 = .ok (.iconst 0, 1) := by decide +kernel
theorem dX7_bestLead_10 : decode cX7_bestLead 10 = .ok (.iconst 1, 1) := by decide +kernel
theorem dX7_bestLead_11 : decode cX7_bestLead 11 = .ok (.invokestatic 93, 3) := by decide +kernel
theorem dX7_bestLead_14 : decode cX7_bestLead 14 = .ok (.ifCond .ne 9, 3) := by decide +kernel
theorem dX7_bestLead_17 : decode cX7_bestLead 17 = .ok (.aload_n 0, 1) := by decide +kernel
theorem dX7_bestLead_18 : decode cX7_bestLead 18 = .ok (.iconst 1, 1) := by decide +kernel
theorem dX7_bestLead_19 : decode cX7_bestLead 19 = .ok (.invokevirtual 55, 3) := by decide +kernel
theorem dX7_bestLead_22 : decode cX7_bestLead 22 = .ok (.ireturn, 1) := by decide +kernel
theorem dX7_bestLead_23 : decode cX7_bestLead 23 = .ok (.iconst (-1), 1) := by decide +kernel
theorem dX7_bestLead_24 : decode cX7_bestLead 24 = .ok (.istore_n 3, 1) := by decide +kernel
theorem dX7_bestLead_25 : decode cX7_bestLead 25 = .ok (.iconst 0, 1) := by decide +kernel
theorem dX7_bestLead_26 : decode cX7_bestLead 26 = .ok (.istore 4, 2) := by decide +kernel
theorem dX7_bestLead_28 : decode cX7_bestLead 28 = .ok (.iconst 0, 1) := by decide +kernel
theorem dX7_bestLead_29 : decode cX7_bestLead 29 = .ok (.istore 5, 2) := by decide +kernel
theorem dX7_bestLead_31 : decode cX7_bestLead 31 = .ok (.iload 5, 2) := by decide +kernel
theorem dX7_bestLead_33 : decode cX7_bestLead 33 = .ok (.bipush 20, 2) := by decide +kernel
theorem dX7_bestLead_35 : decode cX7_bestLead 35 = .ok (.if_icmp .gt 52, 3) := by decide +kernel
theorem dX7_bestLead_38 : decode cX7_bestLead 38 = .ok (.aload_n 0, 1) := by decide +kernel
theorem dX7_bestLead_39 : decode cX7_bestLead 39 = .ok (.getfield 10, 3) := by decide +kernel
theorem dX7_bestLead_42 : decode cX7_bestLead 42 = .ok (.iload_n 1, 1) := by decide +kernel
theorem dX7_bestLead_43 : decode cX7_bestLead 43 = .ok (.iload 5, 2) := by decide +kernel
theorem dX7_bestLead_45 : decode cX7_bestLead 45 = .ok (.invokevirtual 130, 3) := by decide +kernel
theorem dX7_bestLead_48 : decode cX7_bestLead 48 = .ok (.ifCond .ne 33, 3) := by decide +kernel
theorem dX7_bestLead_51 : decode cX7_bestLead 51 = .ok (.aload_n 0, 1) := by decide +kernel
theorem dX7_bestLead_52 : decode cX7_bestLead 52 = .ok (.getfield 10, 3) := by decide +kernel
theorem dX7_bestLead_55 : decode cX7_bestLead 55 = .ok (.iload_n 1, 1) := by decide +kernel
theorem dX7_bestLead_56 : decode cX7_bestLead 56 = .ok (.iload 5, 2) := by decide +kernel
theorem dX7_bestLead_58 : decode cX7_bestLead 58 = .ok (.invokevirtual 189, 3) := by decide +kernel
theorem dX7_bestLead_61 : decode cX7_bestLead 61 = .ok (.istore 6, 2) := by decide +kernel
theorem dX7_bestLead_63 : decode cX7_bestLead 63 = .ok (.iload_n 3, 1) := by decide +kernel
theorem dX7_bestLead_64 : decode cX7_bestLead 64 = .ok (.ifCond .lt 10, 3) := by decide +kernel
theorem dX7_bestLead_67 : decode cX7_bestLead 67 = .ok (.iload 6, 2) := by decide +kernel
theorem dX7_bestLead_69 : decode cX7_bestLead 69 = .ok (.iload 4, 2) := by decide +kernel
theorem dX7_bestLead_71 : decode cX7_bestLead 71 = .ok (.if_icmp .le 10, 3) := by decide +kernel
theorem dX7_bestLead_74 : decode cX7_bestLead 74 = .ok (.iload 5, 2) := by decide +kernel
theorem dX7_bestLead_76 : decode cX7_bestLead 76 = .ok (.istore_n 3, 1) := by decide +kernel
theorem dX7_bestLead_77 : decode cX7_bestLead 77 = .ok (.iload 6, 2) := by decide +kernel
theorem dX7_bestLead_79 : decode cX7_bestLead 79 = .ok (.istore 4, 2) := by decide +kernel
theorem dX7_bestLead_81 : decode cX7_bestLead 81 = .ok (.iinc 5 1, 3) := by decide +kernel
theorem dX7_bestLead_84 : decode cX7_bestLead 84 = .ok (.goto (-53), 3) := by decide +kernel
theorem dX7_bestLead_87 : decode cX7_bestLead 87 = .ok (.iload_n 3, 1) := by decide +kernel
theorem dX7_bestLead_88 : decode cX7_bestLead 88 = .ok (.ifCond .ge 9, 3) := by decide +kernel
theorem dX7_bestLead_91 : decode cX7_bestLead 91 = .ok (.aload_n 0, 1) := by decide +kernel
theorem dX7_bestLead_92 : decode cX7_bestLead 92 = .ok (.iconst 2, 1) := by decide +kernel
theorem dX7_bestLead_93 : decode cX7_bestLead 93 = .ok (.invokevirtual 55, 3) := by decide +kernel
theorem dX7_bestLead_96 : decode cX7_bestLead 96 = .ok (.ireturn, 1) := by decide +kernel
theorem dX7_bestLead_97 : decode cX7_bestLead 97 = .ok (.iload_n 2, 1) := by decide +kernel
theorem dX7_bestLead_98 : decode cX7_bestLead 98 = .ok (.ifCond .ne 7, 3) := by decide +kernel
theorem dX7_bestLead_101 : decode cX7_bestLead 101 = .ok (.iload_n 3, 1) := by decide +kernel
theorem dX7_bestLead_102 : decode cX7_bestLead 102 = .ok (.goto 5, 3) := by decide +kernel
theorem dX7_bestLead_105 : decode cX7_bestLead 105 = .ok (.iload 4, 2) := by decide +kernel
theorem dX7_bestLead_107 : decode cX7_bestLead 107 = .ok (.ireturn, 1) := by decide +kernel
theorem dX7_odds_0 : decode cX7_odds 0 = .ok (.aload_n 0, 1) := by decide +kernel
theorem dX7_odds_1 : decode cX7_odds 1 = .ok (.iload_n 1, 1) := by decide +kernel
theorem dX7_odds_2 : decode cX7_odds 2 = .ok (.invokevirtual 109, 3) := by decide +kernel
theorem dX7_odds_5 : decode cX7_odds 5 = .ok (.ifCond .eq 12, 3) := by decide +kernel
theorem dX7_odds_8 : decode cX7_odds 8 = .ok (.iload_n 2, 1) := by decide +kernel
theorem dX7_odds_9 : decode cX7_odds 9 = .ok (.iconst 0, 1) := by decide +kernel
theorem dX7_odds_10 : decode cX7_odds 10 = .ok (.iconst 1, 1) := by decide +kernel
theorem dX7_odds_11 : decode cX7_odds 11 = .ok (.invokestatic 93, 3) := by decide +kernel
theorem dX7_odds_14 : decode cX7_odds 14 = .ok (.ifCond .ne 9, 3) := by decide +kernel
theorem dX7_odds_17 : decode cX7_odds 17 = .ok (.aload_n 0, 1) := by decide +kernel
theorem dX7_odds_18 : decode cX7_odds 18 = .ok (.iconst 1, 1) := by decide +kernel
theorem dX7_odds_19 : decode cX7_odds 19 = .ok (.invokevirtual 55, 3) := by decide +kernel
theorem dX7_odds_22 : decode cX7_odds 22 = .ok (.ireturn, 1) := by decide +kernel
theorem dX7_odds_23 : decode cX7_odds 23 = .ok (.aload_n 0, 1) := by decide +kernel
theorem dX7_odds_24 : decode cX7_odds 24 = .ok (.getfield 10, 3) := by decide +kernel
theorem dX7_odds_27 : decode cX7_odds 27 = .ok (.getfield 59, 3) := by decide +kernel
theorem dX7_odds_30 : decode cX7_odds 30 = .ok (.invokevirtual 192, 3) := by decide +kernel
theorem dX7_odds_33 : decode cX7_odds 33 = .ok (.istore_n 3, 1) := by decide +kernel
theorem dX7_odds_34 : decode cX7_odds 34 = .ok (.iload_n 3, 1) := by decide +kernel
theorem dX7_odds_35 : decode cX7_odds 35 = .ok (.ifCond .ne 9, 3) := by decide +kernel
theorem dX7_odds_38 : decode cX7_odds 38 = .ok (.aload_n 0, 1) := by decide +kernel
theorem dX7_odds_39 : decode cX7_odds 39 = .ok (.iconst 3, 1) := by decide +kernel
theorem dX7_odds_40 : decode cX7_odds 40 = .ok (.invokevirtual 55, 3) := by decide +kernel
theorem dX7_odds_43 : decode cX7_odds 43 = .ok (.ireturn, 1) := by decide +kernel
theorem dX7_odds_44 : decode cX7_odds 44 = .ok (.aload_n 0, 1) := by decide +kernel
theorem dX7_odds_45 : decode cX7_odds 45 = .ok (.getfield 10, 3) := by decide +kernel
theorem dX7_odds_48 : decode cX7_odds 48 = .ok (.iload_n 1, 1) := by decide +kernel
theorem dX7_odds_49 : decode cX7_odds 49 = .ok (.aload_n 0, 1) := by decide +kernel
theorem dX7_odds_50 : decode cX7_odds 50 = .ok (.getfield 10, 3) := by decide +kernel
theorem dX7_odds_53 : decode cX7_odds 53 = .ok (.getfield 101, 3) := by decide +kernel
theorem dX7_odds_56 : decode cX7_odds 56 = .ok (.getfield 112, 3) := by decide +kernel
theorem dX7_odds_59 : decode cX7_odds 59 = .ok (.iload_n 1, 1) := by decide +kernel
theorem dX7_odds_60 : decode cX7_odds 60 = .ok (.iaload, 1) := by decide +kernel
theorem dX7_odds_61 : decode cX7_odds 61 = .ok (.invokevirtual 196, 3) := by decide +kernel
theorem dX7_odds_64 : decode cX7_odds 64 = .ok (.iload_n 3, 1) := by decide +kernel
theorem dX7_odds_65 : decode cX7_odds 65 = .ok (.iload_n 2, 1) := by decide +kernel
theorem dX7_odds_66 : decode cX7_odds 66 = .ok (.invokestatic 199, 3) := by decide +kernel
theorem dX7_odds_69 : decode cX7_odds 69 = .ok (.ireturn, 1) := by decide +kernel
theorem dX7_go_0 : decode cX7_go 0 = .ok (.aload_n 0, 1) := by decide +kernel
theorem dX7_go_1 : decode cX7_go 1 = .ok (.iload_n 1, 1) := by decide +kernel
theorem dX7_go_2 : decode cX7_go 2 = .ok (.invokevirtual 109, 3) := by decide +kernel
theorem dX7_go_5 : decode cX7_go 5 = .ok (.ifCond .eq 12, 3) := by decide +kernel
theorem dX7_go_8 : decode cX7_go 8 = .ok (.iload_n 2, 1) := by decide +kernel
theorem dX7_go_9 : decode cX7_go 9 = .ok (.iconst 0, 1) := by decide +kernel
theorem dX7_go_10 : decode cX7_go 10 = .ok (.iconst 1, 1) := by decide +kernel
theorem dX7_go_11 : decode cX7_go 11 = .ok (.invokestatic 93, 3) := by decide +kernel
theorem dX7_go_14 : decode cX7_go 14 = .ok (.ifCond .ne 9, 3) := by decide +kernel
theorem dX7_go_17 : decode cX7_go 17 = .ok (.aload_n 0, 1) := by decide +kernel
theorem dX7_go_18 : decode cX7_go 18 = .ok (.iconst 1, 1) := by decide +kernel
theorem dX7_go_19 : decode cX7_go 19 = .ok (.invokevirtual 55, 3) := by decide +kernel
theorem dX7_go_22 : decode cX7_go 22 = .ok (.ireturn, 1) := by decide +kernel
theorem dX7_go_23 : decode cX7_go 23 = .ok (.aload_n 0, 1) := by decide +kernel
theorem dX7_go_24 : decode cX7_go 24 = .ok (.getfield 10, 3) := by decide +kernel
theorem dX7_go_27 : decode cX7_go 27 = .ok (.getfield 59, 3) := by decide +kernel
theorem dX7_go_30 : decode cX7_go 30 = .ok (.invokevirtual 192, 3) := by decide +kernel
theorem dX7_go_33 : decode cX7_go 33 = .ok (.istore_n 3, 1) := by decide +kernel
theorem dX7_go_34 : decode cX7_go 34 = .ok (.iload_n 3, 1) := by decide +kernel
theorem dX7_go_35 : decode cX7_go 35 = .ok (.ifCond .ne 9, 3) := by decide +kernel
theorem dX7_go_38 : decode cX7_go 38 = .ok (.aload_n 0, 1) := by decide +kernel
theorem dX7_go_39 : decode cX7_go 39 = .ok (.iconst 3, 1) := by decide +kernel
theorem dX7_go_40 : decode cX7_go 40 = .ok (.invokevirtual 55, 3) := by decide +kernel
theorem dX7_go_43 : decode cX7_go 43 = .ok (.ireturn, 1) := by decide +kernel
theorem dX7_go_44 : decode cX7_go 44 = .ok (.aload_n 0, 1) := by decide +kernel
theorem dX7_go_45 : decode cX7_go 45 = .ok (.getfield 10, 3) := by decide +kernel
theorem dX7_go_48 : decode cX7_go 48 = .ok (.iload_n 1, 1) := by decide +kernel
theorem dX7_go_49 : decode cX7_go 49 = .ok (.aload_n 0, 1) := by decide +kernel
theorem dX7_go_50 : decode cX7_go 50 = .ok (.getfield 10, 3) := by decide +kernel
theorem dX7_go_53 : decode cX7_go 53 = .ok (.getfield 101, 3) := by decide +kernel
theorem dX7_go_56 : decode cX7_go 56 = .ok (.getfield 112, 3) := by decide +kernel
theorem dX7_go_59 : decode cX7_go 59 = .ok (.iload_n 1, 1) := by decide +kernel
theorem dX7_go_60 : decode cX7_go 60 = .ok (.iaload, 1) := by decide +kernel
theorem dX7_go_61 : decode cX7_go 61 = .ok (.invokevirtual 189, 3) := by decide +kernel
theorem dX7_go_64 : decode cX7_go 64 = .ok (.iload_n 3, 1) := by decide +kernel
theorem dX7_go_65 : decode cX7_go 65 = .ok (.iload_n 2, 1) := by decide +kernel
theorem dX7_go_66 : decode cX7_go 66 = .ok (.invokestatic 199, 3) := by decide +kernel
theorem dX7_go_69 : decode cX7_go 69 = .ok (.ireturn, 1) := by decide +kernel
theorem dX7_duel_0 : decode cX7_duel 0 = .ok (.aload_n 0, 1) := by decide +kernel
theorem dX7_duel_1 : decode cX7_duel 1 = .ok (.iload_n 1, 1) := by decide +kernel
theorem dX7_duel_2 : decode cX7_duel 2 = .ok (.invokevirtual 109, 3) := by decide +kernel
theorem dX7_duel_5 : decode cX7_duel 5 = .ok (.ifCond .eq 29, 3) := by decide +kernel
theorem dX7_duel_8 : decode cX7_duel 8 = .ok (.aload_n 0, 1) := by decide +kernel
theorem dX7_duel_9 : decode cX7_duel 9 = .ok (.iload_n 2, 1) := by decide +kernel
theorem dX7_duel_10 : decode cX7_duel 10 = .ok (.invokevirtual 72, 3) := by decide +kernel
theorem dX7_duel_13 : decode cX7_duel 13 = .ok (.ifCond .eq 21, 3) := by decide +kernel
theorem dX7_duel_16 : decode cX7_duel 16 = .ok (.aload_n 0, 1) := by decide +kernel
theorem dX7_duel_17 : decode cX7_duel 17 = .ok (.iload_n 3, 1) := by decide +kernel
theorem dX7_duel_18 : decode cX7_duel 18 = .ok (.invokevirtual 72, 3) := by decide +kernel
theorem dX7_duel_21 : decode cX7_duel 21 = .ok (.ifCond .eq 13, 3) := by decide +kernel
theorem dX7_duel_24 : decode cX7_duel 24 = .ok (.iload 4, 2) := by decide +kernel
theorem dX7_duel_26 : decode cX7_duel 26 = .ok (.iconst 0, 1) := by decide +kernel
theorem dX7_duel_27 : decode cX7_duel 27 = .ok (.iconst 1, 1) := by decide +kernel
theorem dX7_duel_28 : decode cX7_duel 28 = .ok (.invokestatic 93, 3) := by decide +kernel
theorem dX7_duel_31 : decode cX7_duel 31 = .ok (.ifCond .ne 9, 3) := by decide +kernel
theorem dX7_duel_34 : decode cX7_duel 34 = .ok (.aload_n 0, 1) := by decide +kernel
theorem dX7_duel_35 : decode cX7_duel 35 = .ok (.iconst 1, 1) := by decide +kernel
theorem dX7_duel_36 : decode cX7_duel 36 = .ok (.invokevirtual 55, 3) := by decide +kernel
theorem dX7_duel_39 : decode cX7_duel 39 = .ok (.ireturn, 1) := by decide +kernel
theorem dX7_duel_40 : decode cX7_duel 40 = .ok (.aload_n 0, 1) := by decide +kernel
theorem dX7_duel_41 : decode cX7_duel 41 = .ok (.getfield 10, 3) := by decide +kernel
theorem dX7_duel_44 : decode cX7_duel 44 = .ok (.getfield 101, 3) := by decide +kernel
theorem dX7_duel_47 : decode cX7_duel 47 = .ok (.getfield 112, 3) := by decide +kernel
theorem dX7_duel_50 : decode cX7_duel 50 = .ok (.iload_n 1, 1) := by decide +kernel
theorem dX7_duel_51 : decode cX7_duel 51 = .ok (.iaload, 1) := by decide +kernel
theorem dX7_duel_52 : decode cX7_duel 52 = .ok (.istore 5, 2) := by decide +kernel
theorem dX7_duel_54 : decode cX7_duel 54 = .ok (.aload_n 0, 1) := by decide +kernel
theorem dX7_duel_55 : decode cX7_duel 55 = .ok (.getfield 10, 3) := by decide +kernel
theorem dX7_duel_58 : decode cX7_duel 58 = .ok (.iload_n 1, 1) := by decide +kernel
theorem dX7_duel_59 : decode cX7_duel 59 = .ok (.iload_n 2, 1) := by decide +kernel
theorem dX7_duel_60 : decode cX7_duel 60 = .ok (.iload 5, 2) := by decide +kernel
theorem dX7_duel_62 : decode cX7_duel 62 = .ok (.invokevirtual 202, 3) := by decide +kernel
theorem dX7_duel_65 : decode cX7_duel 65 = .ok (.istore 6, 2) := by decide +kernel
theorem dX7_duel_67 : decode cX7_duel 67 = .ok (.aload_n 0, 1) := by decide +kernel
theorem dX7_duel_68 : decode cX7_duel 68 = .ok (.getfield 10, 3) := by decide +kernel
theorem dX7_duel_71 : decode cX7_duel 71 = .ok (.iload_n 1, 1) := by decide +kernel
theorem dX7_duel_72 : decode cX7_duel 72 = .ok (.iload_n 3, 1) := by decide +kernel
theorem dX7_duel_73 : decode cX7_duel 73 = .ok (.iload 5, 2) := by decide +kernel
theorem dX7_duel_75 : decode cX7_duel 75 = .ok (.invokevirtual 202, 3) := by decide +kernel
theorem dX7_duel_78 : decode cX7_duel 78 = .ok (.istore 7, 2) := by decide +kernel
theorem dX7_duel_80 : decode cX7_duel 80 = .ok (.aload_n 0, 1) := by decide +kernel
theorem dX7_duel_81 : decode cX7_duel 81 = .ok (.getfield 10, 3) := by decide +kernel
theorem dX7_duel_84 : decode cX7_duel 84 = .ok (.iload_n 2, 1) := by decide +kernel
theorem dX7_duel_85 : decode cX7_duel 85 = .ok (.invokevirtual 90, 3) := by decide +kernel
theorem dX7_duel_88 : decode cX7_duel 88 = .ok (.istore 8, 2) := by decide +kernel
theorem dX7_duel_90 : decode cX7_duel 90 = .ok (.aload_n 0, 1) := by decide +kernel
theorem dX7_duel_91 : decode cX7_duel 91 = .ok (.getfield 10, 3) := by decide +kernel
theorem dX7_duel_94 : decode cX7_duel 94 = .ok (.iload_n 3, 1) := by decide +kernel
theorem dX7_duel_95 : decode cX7_duel 95 = .ok (.invokevirtual 90, 3) := by decide +kernel
theorem dX7_duel_98 : decode cX7_duel 98 = .ok (.istore 9, 2) := by decide +kernel
theorem dX7_duel_100 : decode cX7_duel 100 = .ok (.iload 6, 2) := by decide +kernel
theorem dX7_duel_102 : decode cX7_duel 102 = .ok (.iload 7, 2) := by decide +kernel
theorem dX7_duel_104 : decode cX7_duel 104 = .ok (.invokestatic 205, 3) := by decide +kernel
theorem dX7_duel_107 : decode cX7_duel 107 = .ok (.iload 8, 2) := by decide +kernel
theorem dX7_duel_109 : decode cX7_duel 109 = .ok (.iload 9, 2) := by decide +kernel
theorem dX7_duel_111 : decode cX7_duel 111 = .ok (.invokestatic 205, 3) := by decide +kernel
theorem dX7_duel_114 : decode cX7_duel 114 = .ok (.invokestatic 210, 3) := by decide +kernel
theorem dX7_duel_117 : decode cX7_duel 117 = .ok (.istore 10, 2) := by decide +kernel
theorem dX7_duel_119 : decode cX7_duel 119 = .ok (.iload 6, 2) := by decide +kernel
theorem dX7_duel_121 : decode cX7_duel 121 = .ok (.iload 8, 2) := by decide +kernel
theorem dX7_duel_123 : decode cX7_duel 123 = .ok (.invokestatic 210, 3) := by decide +kernel
theorem dX7_duel_126 : decode cX7_duel 126 = .ok (.iload 7, 2) := by decide +kernel
theorem dX7_duel_128 : decode cX7_duel 128 = .ok (.iload 9, 2) := by decide +kernel
theorem dX7_duel_130 : decode cX7_duel 130 = .ok (.invokestatic 210, 3) := by decide +kernel
theorem dX7_duel_133 : decode cX7_duel 133 = .ok (.invokestatic 205, 3) := by decide +kernel
theorem dX7_duel_136 : decode cX7_duel 136 = .ok (.istore 11, 2) := by decide +kernel
theorem dX7_duel_138 : decode cX7_duel 138 = .ok (.iload 10, 2) := by decide +kernel
theorem dX7_duel_140 : decode cX7_duel 140 = .ok (.iload 11, 2) := by decide +kernel
theorem dX7_duel_142 : decode cX7_duel 142 = .ok (.if_icmp .ne 12, 3) := by decide +kernel
theorem dX7_duel_145 : decode cX7_duel 145 = .ok (.iload 10, 2) := by decide +kernel
theorem dX7_duel_147 : decode cX7_duel 147 = .ok (.iconst 1, 1) := by decide +kernel
theorem dX7_duel_148 : decode cX7_duel 148 = .ok (.iload 4, 2) := by decide +kernel
theorem dX7_duel_150 : decode cX7_duel 150 = .ok (.invokestatic 199, 3) := by decide +kernel
theorem dX7_duel_153 : decode cX7_duel 153 = .ok (.ireturn, 1) := by decide +kernel
theorem dX7_duel_154 : decode cX7_duel 154 = .ok (.iload 6, 2) := by decide +kernel
theorem dX7_duel_156 : decode cX7_duel 156 = .ok (.iload 9, 2) := by decide +kernel
theorem dX7_duel_158 : decode cX7_duel 158 = .ok (.imul, 1) := by decide +kernel
theorem dX7_duel_159 : decode cX7_duel 159 = .ok (.iload 7, 2) := by decide +kernel
theorem dX7_duel_161 : decode cX7_duel 161 = .ok (.iload 8, 2) := by decide +kernel
theorem dX7_duel_163 : decode cX7_duel 163 = .ok (.imul, 1) := by decide +kernel
theorem dX7_duel_164 : decode cX7_duel 164 = .ok (.isub, 1) := by decide +kernel
theorem dX7_duel_165 : decode cX7_duel 165 = .ok (.iload 6, 2) := by decide +kernel
theorem dX7_duel_167 : decode cX7_duel 167 = .ok (.iload 9, 2) := by decide +kernel
theorem dX7_duel_169 : decode cX7_duel 169 = .ok (.iadd, 1) := by decide +kernel
theorem dX7_duel_170 : decode cX7_duel 170 = .ok (.iload 7, 2) := by decide +kernel
theorem dX7_duel_172 : decode cX7_duel 172 = .ok (.isub, 1) := by decide +kernel
theorem dX7_duel_173 : decode cX7_duel 173 = .ok (.iload 8, 2) := by decide +kernel
theorem dX7_duel_175 : decode cX7_duel 175 = .ok (.isub, 1) := by decide +kernel
theorem dX7_duel_176 : decode cX7_duel 176 = .ok (.iload 4, 2) := by decide +kernel
theorem dX7_duel_178 : decode cX7_duel 178 = .ok (.invokestatic 199, 3) := by decide +kernel
theorem dX7_duel_181 : decode cX7_duel 181 = .ok (.ireturn, 1) := by decide +kernel
theorem dX7_surely_0 : decode cX7_surely 0 = .ok (.aload_n 0, 1) := by decide +kernel
theorem dX7_surely_1 : decode cX7_surely 1 = .ok (.iload_n 1, 1) := by decide +kernel
theorem dX7_surely_2 : decode cX7_surely 2 = .ok (.invokevirtual 109, 3) := by decide +kernel
theorem dX7_surely_5 : decode cX7_surely 5 = .ok (.ifCond .eq 12, 3) := by decide +kernel
theorem dX7_surely_8 : decode cX7_surely 8 = .ok (.iload_n 2, 1) := by decide +kernel
theorem dX7_surely_9 : decode cX7_surely 9 = .ok (.iconst 0, 1) := by decide +kernel
theorem dX7_surely_10 : decode cX7_surely 10 = .ok (.iconst 1, 1) := by decide +kernel
theorem dX7_surely_11 : decode cX7_surely 11 = .ok (.invokestatic 93, 3) := by decide +kernel
theorem dX7_surely_14 : decode cX7_surely 14 = .ok (.ifCond .ne 9, 3) := by decide +kernel
theorem dX7_surely_17 : decode cX7_surely 17 = .ok (.aload_n 0, 1) := by decide +kernel
theorem dX7_surely_18 : decode cX7_surely 18 = .ok (.iconst 1, 1) := by decide +kernel
theorem dX7_surely_19 : decode cX7_surely 19 = .ok (.invokevirtual 55, 3) := by decide +kernel
theorem dX7_surely_22 : decode cX7_surely 22 = .ok (.ireturn, 1) := by decide +kernel
theorem dX7_surely_23 : decode cX7_surely 23 = .ok (.aload_n 0, 1) := by decide +kernel
theorem dX7_surely_24 : decode cX7_surely 24 = .ok (.getfield 10, 3) := by decide +kernel
theorem dX7_surely_27 : decode cX7_surely 27 = .ok (.iload_n 1, 1) := by decide +kernel
theorem dX7_surely_28 : decode cX7_surely 28 = .ok (.aload_n 0, 1) := by decide +kernel
theorem dX7_surely_29 : decode cX7_surely 29 = .ok (.getfield 10, 3) := by decide +kernel
theorem dX7_surely_32 : decode cX7_surely 32 = .ok (.getfield 101, 3) := by decide +kernel
theorem dX7_surely_35 : decode cX7_surely 35 = .ok (.getfield 112, 3) := by decide +kernel
theorem dX7_surely_38 : decode cX7_surely 38 = .ok (.iload_n 1, 1) := by decide +kernel
theorem dX7_surely_39 : decode cX7_surely 39 = .ok (.iaload, 1) := by decide +kernel
theorem dX7_surely_40 : decode cX7_surely 40 = .ok (.invokevirtual 213, 3) := by decide +kernel
theorem dX7_surely_43 : decode cX7_surely 43 = .ok (.istore_n 3, 1) := by decide +kernel
theorem dX7_surely_44 : decode cX7_surely 44 = .ok (.iload_n 2, 1) := by decide +kernel
theorem dX7_surely_45 : decode cX7_surely 45 = .ok (.ifCond .ne 7, 3) := by decide +kernel
theorem dX7_surely_48 : decode cX7_surely 48 = .ok (.iload_n 3, 1) := by decide +kernel
theorem dX7_surely_49 : decode cX7_surely 49 = .ok (.goto 7, 3) := by decide +kernel
theorem dX7_surely_52 : decode cX7_surely 52 = .ok (.iload_n 3, 1) := by decide +kernel
theorem dX7_surely_53 : decode cX7_surely 53 = .ok (.invokestatic 216, 3) := by decide +kernel
theorem dX7_surely_56 : decode cX7_surely 56 = .ok (.ireturn, 1) := by decide +kernel
theorem dX7_fits_0 : decode cX7_fits 0 = .ok (.iload_n 1, 1) := by decide +kernel
theorem dX7_fits_1 : decode cX7_fits 1 = .ok (.invokestatic 221, 3) := by decide +kernel
theorem dX7_fits_4 : decode cX7_fits 4 = .ok (.ifCond .eq 20, 3) := by decide +kernel
theorem dX7_fits_7 : decode cX7_fits 7 = .ok (.aload_n 0, 1) := by decide +kernel
theorem dX7_fits_8 : decode cX7_fits 8 = .ok (.iload_n 2, 1) := by decide +kernel
theorem dX7_fits_9 : decode cX7_fits 9 = .ok (.invokevirtual 109, 3) := by decide +kernel
theorem dX7_fits_12 : decode cX7_fits 12 = .ok (.ifCond .eq 12, 3) := by decide +kernel
theorem dX7_fits_15 : decode cX7_fits 15 = .ok (.iload_n 3, 1) := by decide +kernel
theorem dX7_fits_16 : decode cX7_fits 16 = .ok (.iconst 0, 1) := by decide +kernel
theorem dX7_fits_17 : decode cX7_fits 17 = .ok (.iconst 1, 1) := by decide +kernel
theorem dX7_fits_18 : decode cX7_fits 18 = .ok (.invokestatic 93, 3) := by decide +kernel
theorem dX7_fits_21 : decode cX7_fits 21 = .ok (.ifCond .ne 9, 3) := by decide +kernel
theorem dX7_fits_24 : decode cX7_fits 24 = .ok (.aload_n 0, 1) := by decide +kernel
theorem dX7_fits_25 : decode cX7_fits 25 = .ok (.iconst 1, 1) := by decide +kernel
theorem dX7_fits_26 : decode cX7_fits 26 = .ok (.invokevirtual 55, 3) := by decide +kernel
theorem dX7_fits_29 : decode cX7_fits 29 = .ok (.ireturn, 1) := by decide +kernel
theorem dX7_fits_30 : decode cX7_fits 30 = .ok (.aload_n 0, 1) := by decide +kernel
theorem dX7_fits_31 : decode cX7_fits 31 = .ok (.getfield 29, 3) := by decide +kernel
theorem dX7_fits_34 : decode cX7_fits 34 = .ok (.iload_n 1, 1) := by decide +kernel
theorem dX7_fits_35 : decode cX7_fits 35 = .ok (.invokevirtual 224, 3) := by decide +kernel
theorem dX7_fits_38 : decode cX7_fits 38 = .ok (.ifCond .eq 9, 3) := by decide +kernel
theorem dX7_fits_41 : decode cX7_fits 41 = .ok (.aload_n 0, 1) := by decide +kernel
theorem dX7_fits_42 : decode cX7_fits 42 = .ok (.iconst 2, 1) := by decide +kernel
theorem dX7_fits_43 : decode cX7_fits 43 = .ok (.invokevirtual 55, 3) := by decide +kernel
theorem dX7_fits_46 : decode cX7_fits 46 = .ok (.ireturn, 1) := by decide +kernel
theorem dX7_fits_47 : decode cX7_fits 47 = .ok (.iconst 0, 1) := by decide +kernel
theorem dX7_fits_48 : decode cX7_fits 48 = .ok (.istore 4, 2) := by decide +kernel
theorem dX7_fits_50 : decode cX7_fits 50 = .ok (.iconst (-1), 1) := by decide +kernel
theorem dX7_fits_51 : decode cX7_fits 51 = .ok (.istore 5, 2) := by decide +kernel
theorem dX7_fits_53 : decode cX7_fits 53 = .ok (.iconst 0, 1) := by decide +kernel
theorem dX7_fits_54 : decode cX7_fits 54 = .ok (.istore 6, 2) := by decide +kernel
theorem dX7_fits_56 : decode cX7_fits 56 = .ok (.iload 6, 2) := by decide +kernel
theorem dX7_fits_58 : decode cX7_fits 58 = .ok (.bipush 20, 2) := by decide +kernel
theorem dX7_fits_60 : decode cX7_fits 60 = .ok (.if_icmp .gt 32, 3) := by decide +kernel
theorem dX7_fits_63 : decode cX7_fits 63 = .ok (.aload_n 0, 1) := by decide +kernel
theorem dX7_fits_64 : decode cX7_fits 64 = .ok (.iload_n 1, 1) := by decide +kernel
theorem dX7_fits_65 : decode cX7_fits 65 = .ok (.iload_n 2, 1) := by decide +kernel
theorem dX7_fits_66 : decode cX7_fits 66 = .ok (.iload 6, 2) := by decide +kernel
theorem dX7_fits_68 : decode cX7_fits 68 = .ok (.invokevirtual 227, 3) := by decide +kernel
theorem dX7_fits_71 : decode cX7_fits 71 = .ok (.ifCond .eq 15, 3) := by decide +kernel
theorem dX7_fits_74 : decode cX7_fits 74 = .ok (.iinc 4 1, 3) := by decide +kernel
theorem dX7_fits_77 : decode cX7_fits 77 = .ok (.iload 5, 2) := by decide +kernel
theorem dX7_fits_79 : decode cX7_fits 79 = .ok (.ifCond .ge 7, 3) := by decide +kernel
theorem dX7_fits_82 : decode cX7_fits 82 = .ok (.iload 6, 2) := by decide +kernel
theorem dX7_fits_84 : decode cX7_fits 84 = .ok (.istore 5, 2) := by decide +kernel
theorem dX7_fits_86 : decode cX7_fits 86 = .ok (.iinc 6 1, 3) := by decide +kernel
theorem dX7_fits_89 : decode cX7_fits 89 = .ok (.goto (-33), 3) := by decide +kernel
theorem dX7_fits_92 : decode cX7_fits 92 = .ok (.iload_n 3, 1) := by decide +kernel
theorem dX7_fits_93 : decode cX7_fits 93 = .ok (.ifCond .ne 6, 3) := by decide +kernel
theorem dX7_fits_96 : decode cX7_fits 96 = .ok (.iload 4, 2) := by decide +kernel
theorem dX7_fits_98 : decode cX7_fits 98 = .ok (.ireturn, 1) := by decide +kernel
theorem dX7_fits_99 : decode cX7_fits 99 = .ok (.iload 5, 2) := by decide +kernel
theorem dX7_fits_101 : decode cX7_fits 101 = .ok (.ifCond .ge 11, 3) := by decide +kernel
theorem dX7_fits_104 : decode cX7_fits 104 = .ok (.aload_n 0, 1) := by decide +kernel
theorem dX7_fits_105 : decode cX7_fits 105 = .ok (.iconst 2, 1) := by decide +kernel
theorem dX7_fits_106 : decode cX7_fits 106 = .ok (.invokevirtual 55, 3) := by decide +kernel
theorem dX7_fits_109 : decode cX7_fits 109 = .ok (.goto 5, 3) := by decide +kernel
theorem dX7_fits_112 : decode cX7_fits 112 = .ok (.iload 5, 2) := by decide +kernel
theorem dX7_fits_114 : decode cX7_fits 114 = .ok (.ireturn, 1) := by decide +kernel
theorem dX7_loose_0 : decode cX7_loose 0 = .ok (.iload_n 1, 1) := by decide +kernel
theorem dX7_loose_1 : decode cX7_loose 1 = .ok (.iconst 1, 1) := by decide +kernel
theorem dX7_loose_2 : decode cX7_loose 2 = .ok (.bipush 30, 2) := by decide +kernel
theorem dX7_loose_4 : decode cX7_loose 4 = .ok (.invokestatic 93, 3) := by decide +kernel
theorem dX7_loose_7 : decode cX7_loose 7 = .ok (.ifCond .ne 9, 3) := by decide +kernel
theorem dX7_loose_10 : decode cX7_loose 10 = .ok (.aload_n 0, 1) := by decide +kernel
theorem dX7_loose_11 : decode cX7_loose 11 = .ok (.iconst 1, 1) := by decide +kernel
theorem dX7_loose_12 : decode cX7_loose 12 = .ok (.invokevirtual 55, 3) := by decide +kernel
theorem dX7_loose_15 : decode cX7_loose 15 = .ok (.ireturn, 1) := by decide +kernel
theorem dX7_loose_16 : decode cX7_loose 16 = .ok (.iconst 0, 1) := by decide +kernel
theorem dX7_loose_17 : decode cX7_loose 17 = .ok (.istore_n 2, 1) := by decide +kernel
theorem dX7_loose_18 : decode cX7_loose 18 = .ok (.iconst 0, 1) := by decide +kernel
theorem dX7_loose_19 : decode cX7_loose 19 = .ok (.istore_n 3, 1) := by decide +kernel
theorem dX7_loose_20 : decode cX7_loose 20 = .ok (.iload_n 3, 1) := by decide +kernel
theorem dX7_loose_21 : decode cX7_loose 21 = .ok (.iload_n 1, 1) := by decide +kernel
theorem dX7_loose_22 : decode cX7_loose 22 = .ok (.if_icmp .ge 22, 3) := by decide +kernel
theorem dX7_loose_25 : decode cX7_loose 25 = .ok (.aload_n 0, 1) := by decide +kernel
theorem dX7_loose_26 : decode cX7_loose 26 = .ok (.getfield 10, 3) := by decide +kernel
theorem dX7_loose_29 : decode cX7_loose 29 = .ok (.invokevirtual 230, 3) := by decide +kernel
theorem dX7_loose_32 : decode cX7_loose 32 = .ok (.ifCond .eq 6, 3) := by decide +kernel
theorem dX7_loose_35 : decode cX7_loose 35 = .ok (.iinc 2 1, 3) := by decide +kernel
theorem dX7_loose_38 : decode cX7_loose 38 = .ok (.iinc 3 1, 3) := by decide +kernel
theorem dX7_loose_41 : decode cX7_loose 41 = .ok (.goto (-21), 3) := by decide +kernel
theorem dX7_loose_44 : decode cX7_loose 44 = .ok (.iload_n 2, 1) := by decide +kernel
theorem dX7_loose_45 : decode cX7_loose 45 = .ok (.ireturn, 1) := by decide +kernel
theorem dX7_seed_0 : decode cX7_seed 0 = .ok (.aload_n 0, 1) := by decide +kernel
theorem dX7_seed_1 : decode cX7_seed 1 = .ok (.getfield 10, 3) := by decide +kernel
theorem dX7_seed_4 : decode cX7_seed 4 = .ok (.getfield 234, 3) := by decide +kernel
theorem dX7_seed_7 : decode cX7_seed 7 = .ok (.istore_n 2, 1) := by decide +kernel
theorem dX7_seed_8 : decode cX7_seed 8 = .ok (.aload_n 0, 1) := by decide +kernel
theorem dX7_seed_9 : decode cX7_seed 9 = .ok (.getfield 10, 3) := by decide +kernel
theorem dX7_seed_12 : decode cX7_seed 12 = .ok (.iload_n 1, 1) := by decide +kernel
theorem dX7_seed_13 : decode cX7_seed 13 = .ok (.putfield 234, 3) := by decide +kernel
theorem dX7_seed_16 : decode cX7_seed 16 = .ok (.iload_n 2, 1) := by decide +kernel
theorem dX7_seed_17 : decode cX7_seed 17 = .ok (.ireturn, 1) := by decide +kernel
theorem dX7_voice_0 : decode cX7_voice 0 = .ok (.aload_n 0, 1) := by decide +kernel
theorem dX7_voice_1 : decode cX7_voice 1 = .ok (.iload_n 1, 1) := by decide +kernel
theorem dX7_voice_2 : decode cX7_voice 2 = .ok (.invokevirtual 72, 3) := by decide +kernel
theorem dX7_voice_5 : decode cX7_voice 5 = .ok (.ifCond .eq 12, 3) := by decide +kernel
theorem dX7_voice_8 : decode cX7_voice 8 = .ok (.iload_n 2, 1) := by decide +kernel
theorem dX7_voice_9 : decode cX7_voice 9 = .ok (.iconst 0, 1) := by decide +kernel
theorem dX7_voice_10 : decode cX7_voice 10 = .ok (.iconst 3, 1) := by decide +kernel
theorem dX7_voice_11 : decode cX7_voice 11 = .ok (.invokestatic 93, 3) := by decide +kernel
theorem dX7_voice_14 : decode cX7_voice 14 = .ok (.ifCond .ne 9, 3) := by decide +kernel
theorem dX7_voice_17 : decode cX7_voice 17 = .ok (.aload_n 0, 1) := by decide +kernel
theorem dX7_voice_18 : decode cX7_voice 18 = .ok (.iconst 1, 1) := by decide +kernel
theorem dX7_voice_19 : decode cX7_voice 19 = .ok (.invokevirtual 55, 3) := by decide +kernel
theorem dX7_voice_22 : decode cX7_voice 22 = .ok (.ireturn, 1) := by decide +kernel
theorem dX7_voice_23 : decode cX7_voice 23 = .ok (.aload_n 0, 1) := by decide +kernel
theorem dX7_voice_24 : decode cX7_voice 24 = .ok (.getfield 36, 3) := by decide +kernel
theorem dX7_voice_27 : decode cX7_voice 27 = .ok (.iload_n 1, 1) := by decide +kernel
theorem dX7_voice_28 : decode cX7_voice 28 = .ok (.aload_n 0, 1) := by decide +kernel
theorem dX7_voice_29 : decode cX7_voice 29 = .ok (.getfield 10, 3) := by decide +kernel
theorem dX7_voice_32 : decode cX7_voice 32 = .ok (.getfield 59, 3) := by decide +kernel
theorem dX7_voice_35 : decode cX7_voice 35 = .ok (.getfield 75, 3) := by decide +kernel
theorem dX7_voice_38 : decode cX7_voice 38 = .ok (.iload_n 1, 1) := by decide +kernel
theorem dX7_voice_39 : decode cX7_voice 39 = .ok (.iaload, 1) := by decide +kernel
theorem dX7_voice_40 : decode cX7_voice 40 = .ok (.aload_n 0, 1) := by decide +kernel
theorem dX7_voice_41 : decode cX7_voice 41 = .ok (.getfield 10, 3) := by decide +kernel
theorem dX7_voice_44 : decode cX7_voice 44 = .ok (.getfield 59, 3) := by decide +kernel
theorem dX7_voice_47 : decode cX7_voice 47 = .ok (.getfield 78, 3) := by decide +kernel
theorem dX7_voice_50 : decode cX7_voice 50 = .ok (.iload_n 1, 1) := by decide +kernel
theorem dX7_voice_51 : decode cX7_voice 51 = .ok (.iaload, 1) := by decide +kernel
theorem dX7_voice_52 : decode cX7_voice 52 = .ok (.iload_n 2, 1) := by decide +kernel
theorem dX7_voice_53 : decode cX7_voice 53 = .ok (.iload_n 3, 1) := by decide +kernel
theorem dX7_voice_54 : decode cX7_voice 54 = .ok (.invokevirtual 237, 3) := by decide +kernel
theorem dX7_voice_57 : decode cX7_voice 57 = .ok (.istore 4, 2) := by decide +kernel
theorem dX7_voice_59 : decode cX7_voice 59 = .ok (.aload_n 0, 1) := by decide +kernel
theorem dX7_voice_60 : decode cX7_voice 60 = .ok (.getfield 36, 3) := by decide +kernel
theorem dX7_voice_63 : decode cX7_voice 63 = .ok (.getfield 241, 3) := by decide +kernel
theorem dX7_voice_66 : decode cX7_voice 66 = .ok (.ifCond .eq 12, 3) := by decide +kernel
theorem dX7_voice_69 : decode cX7_voice 69 = .ok (.aload_n 0, 1) := by decide +kernel
theorem dX7_voice_70 : decode cX7_voice 70 = .ok (.bipush 6, 2) := by decide +kernel
theorem dX7_voice_72 : decode cX7_voice 72 = .ok (.invokevirtual 55, 3) := by decide +kernel
theorem dX7_voice_75 : decode cX7_voice 75 = .ok (.goto 5, 3) := by decide +kernel
theorem dX7_voice_78 : decode cX7_voice 78 = .ok (.iload 4, 2) := by decide +kernel
theorem dX7_voice_80 : decode cX7_voice 80 = .ok (.ireturn, 1) := by decide +kernel
theorem dX7_body_0 : decode cX7_body 0 = .ok (.iload_n 1, 1) := by decide +kernel
theorem dX7_body_1 : decode cX7_body 1 = .ok (.ifCond .lt 14, 3) := by decide +kernel
theorem dX7_body_4 : decode cX7_body 4 = .ok (.iload_n 1, 1) := by decide +kernel
theorem dX7_body_5 : decode cX7_body 5 = .ok (.aload_n 0, 1) := by decide +kernel
theorem dX7_body_6 : decode cX7_body 6 = .ok (.getfield 36, 3) := by decide +kernel
theorem dX7_body_9 : decode cX7_body 9 = .ok (.getfield 244, 3) := by decide +kernel
theorem dX7_body_12 : decode cX7_body 12 = .ok (.if_icmp .lt 9, 3) := by decide +kernel
theorem dX7_body_15 : decode cX7_body 15 = .ok (.aload_n 0, 1) := by decide +kernel
theorem dX7_body_16 : decode cX7_body 16 = .ok (.iconst 2, 1) := by decide +kernel
theorem dX7_body_17 : decode cX7_body 17 = .ok (.invokevirtual 55, 3) := by decide +kernel
theorem dX7_body_20 : decode cX7_body 20 = .ok (.ireturn, 1) := by decide +kernel
theorem dX7_body_21 : decode cX7_body 21 = .ok (.aload_n 0, 1) := by decide +kernel
theorem dX7_body_22 : decode cX7_body 22 = .ok (.getfield 36, 3) := by decide +kernel
theorem dX7_body_25 : decode cX7_body 25 = .ok (.getfield 247, 3) := by decide +kernel
theorem dX7_body_28 : decode cX7_body 28 = .ok (.iload_n 1, 1) := by decide +kernel
theorem dX7_body_29 : decode cX7_body 29 = .ok (.iaload, 1) := by decide +kernel
theorem dX7_body_30 : decode cX7_body 30 = .ok (.ireturn, 1) := by decide +kernel
theorem dX7_sheet_0 : decode cX7_sheet 0 = .ok (.iload_n 1, 1) := by decide +kernel
theorem dX7_sheet_1 : decode cX7_sheet 1 = .ok (.invokestatic 221, 3) := by decide +kernel
theorem dX7_sheet_4 : decode cX7_sheet 4 = .ok (.ifCond .eq 25, 3) := by decide +kernel
theorem dX7_sheet_7 : decode cX7_sheet 7 = .ok (.iload_n 2, 1) := by decide +kernel
theorem dX7_sheet_8 : decode cX7_sheet 8 = .ok (.ifCond .eq 27, 3) := by decide +kernel
theorem dX7_sheet_11 : decode cX7_sheet 11 = .ok (.iload_n 2, 1) := by decide +kernel
theorem dX7_sheet_12 : decode cX7_sheet 12 = .ok (.bipush 8, 2) := by decide +kernel
theorem dX7_sheet_14 : decode cX7_sheet 14 = .ok (.if_icmp .eq 21, 3) := by decide +kernel
theorem dX7_sheet_17 : decode cX7_sheet 17 = .ok (.iload_n 2, 1) := by decide +kernel
theorem dX7_sheet_18 : decode cX7_sheet 18 = .ok (.bipush 16, 2) := by decide +kernel
theorem dX7_sheet_20 : decode cX7_sheet 20 = .ok (.if_icmp .eq 15, 3) := by decide +kernel
theorem dX7_sheet_23 : decode cX7_sheet 23 = .ok (.iload_n 2, 1) := by decide +kernel
theorem dX7_sheet_24 : decode cX7_sheet 24 = .ok (.bipush 32, 2) := by decide +kernel
theorem dX7_sheet_26 : decode cX7_sheet 26 = .ok (.if_icmp .eq 9, 3) := by decide +kernel
theorem dX7_sheet_29 : decode cX7_sheet 29 = .ok (.aload_n 0, 1) := by decide +kernel
theorem dX7_sheet_30 : decode cX7_sheet 30 = .ok (.iconst 1, 1) := by decide +kernel
theorem dX7_sheet_31 : decode cX7_sheet 31 = .ok (.invokevirtual 55, 3) := by decide +kernel
theorem dX7_sheet_34 : decode cX7_sheet 34 = .ok (.ireturn, 1) := by decide +kernel
theorem dX7_sheet_35 : decode cX7_sheet 35 = .ok (.iload_n 2, 1) := by decide +kernel
theorem dX7_sheet_36 : decode cX7_sheet 36 = .ok (.ifCond .ne 15, 3) := by decide +kernel
theorem dX7_sheet_39 : decode cX7_sheet 39 = .ok (.aload_n 0, 1) := by decide +kernel
theorem dX7_sheet_40 : decode cX7_sheet 40 = .ok (.getfield 29, 3) := by decide +kernel
theorem dX7_sheet_43 : decode cX7_sheet 43 = .ok (.iload_n 1, 1) := by decide +kernel
theorem dX7_sheet_44 : decode cX7_sheet 44 = .ok (.iconst 0, 1) := by decide +kernel
theorem dX7_sheet_45 : decode cX7_sheet 45 = .ok (.iconst 0, 1) := by decide +kernel
theorem dX7_sheet_46 : decode cX7_sheet 46 = .ok (.invokevirtual 250, 3) := by decide +kernel
theorem dX7_sheet_49 : decode cX7_sheet 49 = .ok (.iconst 1, 1) := by decide +kernel
theorem dX7_sheet_50 : decode cX7_sheet 50 = .ok (.ireturn, 1) := by decide +kernel
theorem dX7_sheet_51 : decode cX7_sheet 51 = .ok (.iload_n 3, 1) := by decide +kernel
theorem dX7_sheet_52 : decode cX7_sheet 52 = .ok (.ifCond .ge 9, 3) := by decide +kernel
theorem dX7_sheet_55 : decode cX7_sheet 55 = .ok (.aload_n 0, 1) := by decide +kernel
theorem dX7_sheet_56 : decode cX7_sheet 56 = .ok (.iconst 3, 1) := by decide +kernel
theorem dX7_sheet_57 : decode cX7_sheet 57 = .ok (.invokevirtual 55, 3) := by decide +kernel
theorem dX7_sheet_60 : decode cX7_sheet 60 = .ok (.ireturn, 1) := by decide +kernel
theorem dX7_sheet_61 : decode cX7_sheet 61 = .ok (.iload_n 3, 1) := by decide +kernel
theorem dX7_sheet_62 : decode cX7_sheet 62 = .ok (.bipush 24, 2) := by decide +kernel
theorem dX7_sheet_64 : decode cX7_sheet 64 = .ok (.if_icmp .le 9, 3) := by decide +kernel
theorem dX7_sheet_67 : decode cX7_sheet 67 = .ok (.aload_n 0, 1) := by decide +kernel
theorem dX7_sheet_68 : decode cX7_sheet 68 = .ok (.iconst 1, 1) := by decide +kernel
theorem dX7_sheet_69 : decode cX7_sheet 69 = .ok (.invokevirtual 55, 3) := by decide +kernel
theorem dX7_sheet_72 : decode cX7_sheet 72 = .ok (.ireturn, 1) := by decide +kernel
theorem dX7_sheet_73 : decode cX7_sheet 73 = .ok (.aload_n 0, 1) := by decide +kernel
theorem dX7_sheet_74 : decode cX7_sheet 74 = .ok (.getfield 29, 3) := by decide +kernel
theorem dX7_sheet_77 : decode cX7_sheet 77 = .ok (.iload_n 1, 1) := by decide +kernel
theorem dX7_sheet_78 : decode cX7_sheet 78 = .ok (.iload_n 2, 1) := by decide +kernel
theorem dX7_sheet_79 : decode cX7_sheet 79 = .ok (.iload_n 3, 1) := by decide +kernel
theorem dX7_sheet_80 : decode cX7_sheet 80 = .ok (.invokevirtual 250, 3) := by decide +kernel
theorem dX7_sheet_83 : decode cX7_sheet 83 = .ok (.iconst 1, 1) := by decide +kernel
theorem dX7_sheet_84 : decode cX7_sheet 84 = .ok (.ireturn, 1) := by decide +kernel
theorem dX7_put_0 : decode cX7_put 0 = .ok (.iload_n 1, 1) := by decide +kernel
theorem dX7_put_1 : decode cX7_put 1 = .ok (.invokestatic 221, 3) := by decide +kernel
theorem dX7_put_4 : decode cX7_put 4 = .ok (.ifCond .ne 9, 3) := by decide +kernel
theorem dX7_put_7 : decode cX7_put 7 = .ok (.aload_n 0, 1) := by decide +kernel
theorem dX7_put_8 : decode cX7_put 8 = .ok (.iconst 1, 1) := by decide +kernel
theorem dX7_put_9 : decode cX7_put 9 = .ok (.invokevirtual 55, 3) := by decide +kernel
theorem dX7_put_12 : decode cX7_put 12 = .ok (.ireturn, 1) := by decide +kernel
theorem dX7_put_13 : decode cX7_put 13 = .ok (.aload_n 0, 1) := by decide +kernel
theorem dX7_put_14 : decode cX7_put 14 = .ok (.getfield 29, 3) := by decide +kernel
theorem dX7_put_17 : decode cX7_put 17 = .ok (.iload_n 1, 1) := by decide +kernel
theorem dX7_put_18 : decode cX7_put 18 = .ok (.invokevirtual 224, 3) := by decide +kernel
theorem dX7_put_21 : decode cX7_put 21 = .ok (.ifCond .eq 9, 3) := by decide +kernel
theorem dX7_put_24 : decode cX7_put 24 = .ok (.aload_n 0, 1) := by decide +kernel
theorem dX7_put_25 : decode cX7_put 25 = .ok (.iconst 2, 1) := by decide +kernel
theorem dX7_put_26 : decode cX7_put 26 = .ok (.invokevirtual 55, 3) := by decide +kernel
theorem dX7_put_29 : decode cX7_put 29 = .ok (.ireturn, 1) := by decide +kernel
theorem dX7_put_30 : decode cX7_put 30 = .ok (.aload_n 0, 1) := by decide +kernel
theorem dX7_put_31 : decode cX7_put 31 = .ok (.getfield 29, 3) := by decide +kernel
theorem dX7_put_34 : decode cX7_put 34 = .ok (.iload_n 1, 1) := by decide +kernel
theorem dX7_put_35 : decode cX7_put 35 = .ok (.iload_n 2, 1) := by decide +kernel
theorem dX7_put_36 : decode cX7_put 36 = .ok (.iconst 1, 1) := by decide +kernel
theorem dX7_put_37 : decode cX7_put 37 = .ok (.invokevirtual 254, 3) := by decide +kernel
theorem dX7_put_40 : decode cX7_put 40 = .ok (.ifCond .ne 9, 3) := by decide +kernel
theorem dX7_put_43 : decode cX7_put 43 = .ok (.aload_n 0, 1) := by decide +kernel
theorem dX7_put_44 : decode cX7_put 44 = .ok (.iconst 1, 1) := by decide +kernel
theorem dX7_put_45 : decode cX7_put 45 = .ok (.invokevirtual 55, 3) := by decide +kernel
theorem dX7_put_48 : decode cX7_put 48 = .ok (.ireturn, 1) := by decide +kernel
theorem dX7_put_49 : decode cX7_put 49 = .ok (.aload_n 0, 1) := by decide +kernel
theorem dX7_put_50 : decode cX7_put 50 = .ok (.getfield 29, 3) := by decide +kernel
theorem dX7_put_53 : decode cX7_put 53 = .ok (.iload_n 1, 1) := by decide +kernel
theorem dX7_put_54 : decode cX7_put 54 = .ok (.iload_n 2, 1) := by decide +kernel
theorem dX7_put_55 : decode cX7_put 55 = .ok (.iload_n 3, 1) := by decide +kernel
theorem dX7_put_56 : decode cX7_put 56 = .ok (.invokevirtual 257, 3) := by decide +kernel
theorem dX7_put_59 : decode cX7_put 59 = .ok (.iconst 1, 1) := by decide +kernel
theorem dX7_put_60 : decode cX7_put 60 = .ok (.ireturn, 1) := by decide +kernel
theorem dX7_move_0 : decode cX7_move 0 = .ok (.iload_n 1, 1) := by decide +kernel
theorem dX7_move_1 : decode cX7_move 1 = .ok (.invokestatic 221, 3) := by decide +kernel
theorem dX7_move_4 : decode cX7_move 4 = .ok (.ifCond .eq 10, 3) := by decide +kernel
theorem dX7_move_7 : decode cX7_move 7 = .ok (.iload_n 3, 1) := by decide +kernel
theorem dX7_move_8 : decode cX7_move 8 = .ok (.invokestatic 221, 3) := by decide +kernel
theorem dX7_move_11 : decode cX7_move 11 = .ok (.ifCond .ne 9, 3) := by decide +kernel
theorem dX7_move_14 : decode cX7_move 14 = .ok (.aload_n 0, 1) := by decide +kernel
theorem dX7_move_15 : decode cX7_move 15 = .ok (.iconst 1, 1) := by decide +kernel
theorem dX7_move_16 : decode cX7_move 16 = .ok (.invokevirtual 55, 3) := by decide +kernel
theorem dX7_move_19 : decode cX7_move 19 = .ok (.ireturn, 1) := by decide +kernel
theorem dX7_move_20 : decode cX7_move 20 = .ok (.aload_n 0, 1) := by decide +kernel
theorem dX7_move_21 : decode cX7_move 21 = .ok (.getfield 29, 3) := by decide +kernel
theorem dX7_move_24 : decode cX7_move 24 = .ok (.iload_n 1, 1) := by decide +kernel
theorem dX7_move_25 : decode cX7_move 25 = .ok (.invokevirtual 224, 3) := by decide +kernel
theorem dX7_move_28 : decode cX7_move 28 = .ok (.ifCond .ne 14, 3) := by decide +kernel
theorem dX7_move_31 : decode cX7_move 31 = .ok (.aload_n 0, 1) := by decide +kernel
theorem dX7_move_32 : decode cX7_move 32 = .ok (.getfield 29, 3) := by decide +kernel
theorem dX7_move_35 : decode cX7_move 35 = .ok (.iload_n 3, 1) := by decide +kernel
theorem dX7_move_36 : decode cX7_move 36 = .ok (.invokevirtual 224, 3) := by decide +kernel
theorem dX7_move_39 : decode cX7_move 39 = .ok (.ifCond .eq 9, 3) := by decide +kernel
theorem dX7_move_42 : decode cX7_move 42 = .ok (.aload_n 0, 1) := by decide +kernel
theorem dX7_move_43 : decode cX7_move 43 = .ok (.iconst 2, 1) := by decide +kernel
theorem dX7_move_44 : decode cX7_move 44 = .ok (.invokevirtual 55, 3) := by decide +kernel
theorem dX7_move_47 : decode cX7_move 47 = .ok (.ireturn, 1) := by decide +kernel
theorem dX7_move_48 : decode cX7_move 48 = .ok (.aload_n 0, 1) := by decide +kernel
theorem dX7_move_49 : decode cX7_move 49 = .ok (.getfield 29, 3) := by decide +kernel
theorem dX7_move_52 : decode cX7_move 52 = .ok (.getfield 260, 3) := by decide +kernel
theorem dX7_move_55 : decode cX7_move 55 = .ok (.iload_n 1, 1) := by decide +kernel
theorem dX7_move_56 : decode cX7_move 56 = .ok (.iaload, 1) := by decide +kernel
theorem dX7_move_57 : decode cX7_move 57 = .ok (.aload_n 0, 1) := by decide +kernel
theorem dX7_move_58 : decode cX7_move 58 = .ok (.getfield 29, 3) := by decide +kernel
theorem dX7_move_61 : decode cX7_move 61 = .ok (.getfield 260, 3) := by decide +kernel
theorem dX7_move_64 : decode cX7_move 64 = .ok (.iload_n 3, 1) := by decide +kernel
theorem dX7_move_65 : decode cX7_move 65 = .ok (.iaload, 1) := by decide +kernel
theorem dX7_move_66 : decode cX7_move 66 = .ok (.if_icmp .eq 9, 3) := by decide +kernel
theorem dX7_move_69 : decode cX7_move 69 = .ok (.aload_n 0, 1) := by decide +kernel
theorem dX7_move_70 : decode cX7_move 70 = .ok (.iconst 5, 1) := by decide +kernel
theorem dX7_move_71 : decode cX7_move 71 = .ok (.invokevirtual 55, 3) := by decide +kernel
theorem dX7_move_74 : decode cX7_move 74 = .ok (.ireturn, 1) := by decide +kernel
theorem dX7_move_75 : decode cX7_move 75 = .ok (.aload_n 0, 1) := by decide +kernel
theorem dX7_move_76 : decode cX7_move 76 = .ok (.getfield 29, 3) := by decide +kernel
theorem dX7_move_79 : decode cX7_move 79 = .ok (.iload_n 1, 1) := by decide +kernel
theorem dX7_move_80 : decode cX7_move 80 = .ok (.iload_n 2, 1) := by decide +kernel
theorem dX7_move_81 : decode cX7_move 81 = .ok (.iload 5, 2) := by decide +kernel
theorem dX7_move_83 : decode cX7_move 83 = .ok (.invokevirtual 254, 3) := by decide +kernel
theorem dX7_move_86 : decode cX7_move 86 = .ok (.ifCond .eq 18, 3) := by decide +kernel
theorem dX7_move_89 : decode cX7_move 89 = .ok (.aload_n 0, 1) := by decide +kernel
theorem dX7_move_90 : decode cX7_move 90 = .ok (.getfield 29, 3) := by decide +kernel
theorem dX7_move_93 : decode cX7_move 93 = .ok (.iload_n 3, 1) := by decide +kernel
theorem dX7_move_94 : decode cX7_move 94 = .ok (.iload 4, 2) := by decide +kernel
theorem dX7_move_96 : decode cX7_move 96 = .ok (.iload 5, 2) := by decide +kernel
theorem dX7_move_98 : decode cX7_move 98 = .ok (.invokevirtual 254, 3) := by decide +kernel
theorem dX7_move_101 : decode cX7_move 101 = .ok (.ifCond .ne 9, 3) := by decide +kernel
theorem dX7_move_104 : decode cX7_move 104 = .ok (.aload_n 0, 1) := by decide +kernel
theorem dX7_move_105 : decode cX7_move 105 = .ok (.iconst 1, 1) := by decide +kernel
theorem dX7_move_106 : decode cX7_move 106 = .ok (.invokevirtual 55, 3) := by decide +kernel
theorem dX7_move_109 : decode cX7_move 109 = .ok (.ireturn, 1) := by decide +kernel
theorem dX7_move_110 : decode cX7_move 110 = .ok (.aload_n 0, 1) := by decide +kernel
theorem dX7_move_111 : decode cX7_move 111 = .ok (.getfield 29, 3) := by decide +kernel
theorem dX7_move_114 : decode cX7_move 114 = .ok (.iload_n 1, 1) := by decide +kernel
theorem dX7_move_115 : decode cX7_move 115 = .ok (.iload_n 2, 1) := by decide +kernel
theorem dX7_move_116 : decode cX7_move 116 = .ok (.iload_n 3, 1) := by decide +kernel
theorem dX7_move_117 : decode cX7_move 117 = .ok (.iload 4, 2) := by decide +kernel
theorem dX7_move_119 : decode cX7_move 119 = .ok (.iload 5, 2) := by decide +kernel
theorem dX7_move_121 : decode cX7_move 121 = .ok (.invokevirtual 263, 3) := by decide +kernel
theorem dX7_move_124 : decode cX7_move 124 = .ok (.iload 5, 2) := by decide +kernel
theorem dX7_move_126 : decode cX7_move 126 = .ok (.ireturn, 1) := by decide +kernel
theorem dX7_weightsBy_0 : decode cX7_weightsBy 0 = .ok (.iload_n 1, 1) := by decide +kernel
theorem dX7_weightsBy_1 : decode cX7_weightsBy 1 = .ok (.invokestatic 221, 3) := by decide +kernel
theorem dX7_weightsBy_4 : decode cX7_weightsBy 4 = .ok (.ifCond .ne 9, 3) := by decide +kernel
theorem dX7_weightsBy_7 : decode cX7_weightsBy 7 = .ok (.aload_n 0, 1) := by decide +kernel
theorem dX7_weightsBy_8 : decode cX7_weightsBy 8 = .ok (.iconst 1, 1) := by decide +kernel
theorem dX7_weightsBy_9 : decode cX7_weightsBy 9 = .ok (.invokevirtual 55, 3) := by decide +kernel
theorem dX7_weightsBy_12 : decode cX7_weightsBy 12 = .ok (.ireturn, 1) := by decide +kernel
theorem dX7_weightsBy_13 : decode cX7_weightsBy 13 = .ok (.aload_n 0, 1) := by decide +kernel
theorem dX7_weightsBy_14 : decode cX7_weightsBy 14 = .ok (.getfield 29, 3) := by decide +kernel
theorem dX7_weightsBy_17 : decode cX7_weightsBy 17 = .ok (.iload_n 1, 1) := by decide +kernel
theorem dX7_weightsBy_18 : decode cX7_weightsBy 18 = .ok (.invokevirtual 224, 3) := by decide +kernel
theorem dX7_weightsBy_21 : decode cX7_weightsBy 21 = .ok (.ifCond .eq 9, 3) := by decide +kernel
theorem dX7_weightsBy_24 : decode cX7_weightsBy 24 = .ok (.aload_n 0, 1) := by decide +kernel
theorem dX7_weightsBy_25 : decode cX7_weightsBy 25 = .ok (.iconst 2, 1) := by decide +kernel
theorem dX7_weightsBy_26 : decode cX7_weightsBy 26 = .ok (.invokevirtual 55, 3) := by decide +kernel
theorem dX7_weightsBy_29 : decode cX7_weightsBy 29 = .ok (.ireturn, 1) := by decide +kernel
theorem dX7_weightsBy_30 : decode cX7_weightsBy 30 = .ok (.aload_n 0, 1) := by decide +kernel
theorem dX7_weightsBy_31 : decode cX7_weightsBy 31 = .ok (.getfield 29, 3) := by decide +kernel
theorem dX7_weightsBy_34 : decode cX7_weightsBy 34 = .ok (.getfield 267, 3) := by decide +kernel
theorem dX7_weightsBy_37 : decode cX7_weightsBy 37 = .ok (.iload_n 1, 1) := by decide +kernel
theorem dX7_weightsBy_38 : decode cX7_weightsBy 38 = .ok (.iaload, 1) := by decide +kernel
theorem dX7_weightsBy_39 : decode cX7_weightsBy 39 = .ok (.aload_n 0, 1) := by decide +kernel
theorem dX7_weightsBy_40 : decode cX7_weightsBy 40 = .ok (.getfield 10, 3) := by decide +kernel
theorem dX7_weightsBy_43 : decode cX7_weightsBy 43 = .ok (.getfield 59, 3) := by decide +kernel
theorem dX7_weightsBy_46 : decode cX7_weightsBy 46 = .ok (.getfield 63, 3) := by decide +kernel
theorem dX7_weightsBy_49 : decode cX7_weightsBy 49 = .ok (.invokestatic 205, 3) := by decide +kernel
theorem dX7_weightsBy_52 : decode cX7_weightsBy 52 = .ok (.istore_n 2, 1) := by decide +kernel
theorem dX7_weightsBy_53 : decode cX7_weightsBy 53 = .ok (.iconst 0, 1) := by decide +kernel
theorem dX7_weightsBy_54 : decode cX7_weightsBy 54 = .ok (.istore_n 3, 1) := by decide +kernel
theorem dX7_weightsBy_55 : decode cX7_weightsBy 55 = .ok (.iload_n 3, 1) := by decide +kernel
theorem dX7_weightsBy_56 : decode cX7_weightsBy 56 = .ok (.iload_n 2, 1) := by decide +kernel
theorem dX7_weightsBy_57 : decode cX7_weightsBy 57 = .ok (.if_icmp .ge 44, 3) := by decide +kernel
theorem dX7_weightsBy_60 : decode cX7_weightsBy 60 = .ok (.aload_n 0, 1) := by decide +kernel
theorem dX7_weightsBy_61 : decode cX7_weightsBy 61 = .ok (.getfield 29, 3) := by decide +kernel
theorem dX7_weightsBy_64 : decode cX7_weightsBy 64 = .ok (.iload_n 1, 1) := by decide +kernel
theorem dX7_weightsBy_65 : decode cX7_weightsBy 65 = .ok (.iload_n 3, 1) := by decide +kernel
theorem dX7_weightsBy_66 : decode cX7_weightsBy 66 = .ok (.invokevirtual 269, 3) := by decide +kernel
theorem dX7_weightsBy_69 : decode cX7_weightsBy 69 = .ok (.istore 4, 2) := by decide +kernel
theorem dX7_weightsBy_71 : decode cX7_weightsBy 71 = .ok (.iload 4, 2) := by decide +kernel
theorem dX7_weightsBy_73 : decode cX7_weightsBy 73 = .ok (.invokestatic 52, 3) := by decide +kernel
theorem dX7_weightsBy_76 : decode cX7_weightsBy 76 = .ok (.ifCond .ne 5, 3) := by decide +kernel
theorem dX7_weightsBy_79 : decode cX7_weightsBy 79 = .ok (.iload_n 3, 1) := by decide +kernel
theorem dX7_weightsBy_80 : decode cX7_weightsBy 80 = .ok (.ireturn, 1) := by decide +kernel
theorem dX7_weightsBy_81 : decode cX7_weightsBy 81 = .ok (.aload_n 0, 1) := by decide +kernel
theorem dX7_weightsBy_82 : decode cX7_weightsBy 82 = .ok (.getfield 10, 3) := by decide +kernel
theorem dX7_weightsBy_85 : decode cX7_weightsBy 85 = .ok (.getfield 59, 3) := by decide +kernel
theorem dX7_weightsBy_88 : decode cX7_weightsBy 88 = .ok (.getfield 81, 3) := by decide +kernel
theorem dX7_weightsBy_91 : decode cX7_weightsBy 91 = .ok (.iload_n 3, 1) := by decide +kernel
theorem dX7_weightsBy_92 : decode cX7_weightsBy 92 = .ok (.iload 4, 2) := by decide +kernel
theorem dX7_weightsBy_94 : decode cX7_weightsBy 94 = .ok (.iastore, 1) := by decide +kernel
theorem dX7_weightsBy_95 : decode cX7_weightsBy 95 = .ok (.iinc 3 1, 3) := by decide +kernel
theorem dX7_weightsBy_98 : decode cX7_weightsBy 98 = .ok (.goto (-43), 3) := by decide +kernel
theorem dX7_weightsBy_101 : decode cX7_weightsBy 101 = .ok (.iload_n 2, 1) := by decide +kernel
theorem dX7_weightsBy_102 : decode cX7_weightsBy 102 = .ok (.ireturn, 1) := by decide +kernel
theorem dX7_judge_0 : decode cX7_judge 0 = .ok (.iload_n 1, 1) := by decide +kernel
theorem dX7_judge_1 : decode cX7_judge 1 = .ok (.invokestatic 221, 3) := by decide +kernel
theorem dX7_judge_4 : decode cX7_judge 4 = .ok (.ifCond .ne 9, 3) := by decide +kernel
theorem dX7_judge_7 : decode cX7_judge 7 = .ok (.aload_n 0, 1) := by decide +kernel
theorem dX7_judge_8 : decode cX7_judge 8 = .ok (.iconst 1, 1) := by decide +kernel
theorem dX7_judge_9 : decode cX7_judge 9 = .ok (.invokevirtual 55, 3) := by decide +kernel
theorem dX7_judge_12 : decode cX7_judge 12 = .ok (.ireturn, 1) := by decide +kernel
theorem dX7_judge_13 : decode cX7_judge 13 = .ok (.aload_n 0, 1) := by decide +kernel
theorem dX7_judge_14 : decode cX7_judge 14 = .ok (.getfield 29, 3) := by decide +kernel
theorem dX7_judge_17 : decode cX7_judge 17 = .ok (.iload_n 1, 1) := by decide +kernel
theorem dX7_judge_18 : decode cX7_judge 18 = .ok (.invokevirtual 224, 3) := by decide +kernel
theorem dX7_judge_21 : decode cX7_judge 21 = .ok (.ifCond .eq 9, 3) := by decide +kernel
theorem dX7_judge_24 : decode cX7_judge 24 = .ok (.aload_n 0, 1) := by decide +kernel
theorem dX7_judge_25 : decode cX7_judge 25 = .ok (.iconst 2, 1) := by decide +kernel
theorem dX7_judge_26 : decode cX7_judge 26 = .ok (.invokevirtual 55, 3) := by decide +kernel
theorem dX7_judge_29 : decode cX7_judge 29 = .ok (.ireturn, 1) := by decide +kernel
theorem dX7_judge_30 : decode cX7_judge 30 = .ok (.aload_n 0, 1) := by decide +kernel
theorem dX7_judge_31 : decode cX7_judge 31 = .ok (.getfield 29, 3) := by decide +kernel
theorem dX7_judge_34 : decode cX7_judge 34 = .ok (.getfield 267, 3) := by decide +kernel
theorem dX7_judge_37 : decode cX7_judge 37 = .ok (.iload_n 1, 1) := by decide +kernel
theorem dX7_judge_38 : decode cX7_judge 38 = .ok (.iaload, 1) := by decide +kernel
theorem dX7_judge_39 : decode cX7_judge 39 = .ok (.aload_n 0, 1) := by decide +kernel
theorem dX7_judge_40 : decode cX7_judge 40 = .ok (.getfield 10, 3) := by decide +kernel
theorem dX7_judge_43 : decode cX7_judge 43 = .ok (.getfield 59, 3) := by decide +kernel
theorem dX7_judge_46 : decode cX7_judge 46 = .ok (.getfield 63, 3) := by decide +kernel
theorem dX7_judge_49 : decode cX7_judge 49 = .ok (.invokestatic 205, 3) := by decide +kernel
theorem dX7_judge_52 : decode cX7_judge 52 = .ok (.istore_n 2, 1) := by decide +kernel
theorem dX7_judge_53 : decode cX7_judge 53 = .ok (.iconst 0, 1) := by decide +kernel
theorem dX7_judge_54 : decode cX7_judge 54 = .ok (.istore_n 3, 1) := by decide +kernel
theorem dX7_judge_55 : decode cX7_judge 55 = .ok (.iload_n 3, 1) := by decide +kernel
theorem dX7_judge_56 : decode cX7_judge 56 = .ok (.iload_n 2, 1) := by decide +kernel
theorem dX7_judge_57 : decode cX7_judge 57 = .ok (.if_icmp .ge 31, 3) := by decide +kernel
theorem dX7_judge_60 : decode cX7_judge 60 = .ok (.aload_n 0, 1) := by decide +kernel
theorem dX7_judge_61 : decode cX7_judge 61 = .ok (.getfield 29, 3) := by decide +kernel
theorem dX7_judge_64 : decode cX7_judge 64 = .ok (.iload_n 1, 1) := by decide +kernel
theorem dX7_judge_65 : decode cX7_judge 65 = .ok (.iload_n 3, 1) := by decide +kernel
theorem dX7_judge_66 : decode cX7_judge 66 = .ok (.invokevirtual 269, 3) := by decide +kernel
theorem dX7_judge_69 : decode cX7_judge 69 = .ok (.aload_n 0, 1) := by decide +kernel
theorem dX7_judge_70 : decode cX7_judge 70 = .ok (.getfield 10, 3) := by decide +kernel
theorem dX7_judge_73 : decode cX7_judge 73 = .ok (.iload_n 3, 1) := by decide +kernel
theorem dX7_judge_74 : decode cX7_judge 74 = .ok (.invokevirtual 87, 3) := by decide +kernel
theorem dX7_judge_77 : decode cX7_judge 77 = .ok (.if_icmp .eq 5, 3) := by decide +kernel
theorem dX7_judge_80 : decode cX7_judge 80 = .ok (.iload_n 3, 1) := by decide +kernel
theorem dX7_judge_81 : decode cX7_judge 81 = .ok (.ireturn, 1) := by decide +kernel
theorem dX7_judge_82 : decode cX7_judge 82 = .ok (.iinc 3 1, 3) := by decide +kernel
theorem dX7_judge_85 : decode cX7_judge 85 = .ok (.goto (-30), 3) := by decide +kernel
theorem dX7_judge_88 : decode cX7_judge 88 = .ok (.iload_n 2, 1) := by decide +kernel
theorem dX7_judge_89 : decode cX7_judge 89 = .ok (.ireturn, 1) := by decide +kernel
theorem dX7_image_0 : decode cX7_image 0 = .ok (.aload_n 0, 1) := by decide +kernel
theorem dX7_image_1 : decode cX7_image 1 = .ok (.getfield 16, 3) := by decide +kernel
theorem dX7_image_4 : decode cX7_image 4 = .ok (.aload_n 0, 1) := by decide +kernel
theorem dX7_image_5 : decode cX7_image 5 = .ok (.getfield 10, 3) := by decide +kernel
theorem dX7_image_8 : decode cX7_image 8 = .ok (.invokevirtual 272, 3) := by decide +kernel
theorem dX7_image_11 : decode cX7_image 11 = .ok (.aload_n 0, 1) := by decide +kernel
theorem dX7_image_12 : decode cX7_image 12 = .ok (.dup, 1) := by decide +kernel
theorem dX7_image_13 : decode cX7_image 13 = .ok (.getfield 44, 3) := by decide +kernel
theorem dX7_image_16 : decode cX7_image 16 = .ok (.iconst 1, 1) := by decide +kernel
theorem dX7_image_17 : decode cX7_image 17 = .ok (.iadd, 1) := by decide +kernel
theorem dX7_image_18 : decode cX7_image 18 = .ok (.putfield 44, 3) := by decide +kernel
theorem dX7_image_21 : decode cX7_image 21 = .ok (.aload_n 0, 1) := by decide +kernel
theorem dX7_image_22 : decode cX7_image 22 = .ok (.getfield 44, 3) := by decide +kernel
theorem dX7_image_25 : decode cX7_image 25 = .ok (.ireturn, 1) := by decide +kernel
theorem dX7_restore_0 : decode cX7_restore 0 = .ok (.aload_n 0, 1) := by decide +kernel
theorem dX7_restore_1 : decode cX7_restore 1 = .ok (.getfield 44, 3) := by decide +kernel
theorem dX7_restore_4 : decode cX7_restore 4 = .ok (.ifCond .ne 9, 3) := by decide +kernel
theorem dX7_restore_7 : decode cX7_restore 7 = .ok (.aload_n 0, 1) := by decide +kernel
theorem dX7_restore_8 : decode cX7_restore 8 = .ok (.iconst 2, 1) := by decide +kernel
theorem dX7_restore_9 : decode cX7_restore 9 = .ok (.invokevirtual 55, 3) := by decide +kernel
theorem dX7_restore_12 : decode cX7_restore 12 = .ok (.ireturn, 1) := by decide +kernel
theorem dX7_restore_13 : decode cX7_restore 13 = .ok (.aload_n 0, 1) := by decide +kernel
theorem dX7_restore_14 : decode cX7_restore 14 = .ok (.getfield 10, 3) := by decide +kernel
theorem dX7_restore_17 : decode cX7_restore 17 = .ok (.aload_n 0, 1) := by decide +kernel
theorem dX7_restore_18 : decode cX7_restore 18 = .ok (.getfield 16, 3) := by decide +kernel
theorem dX7_restore_21 : decode cX7_restore 21 = .ok (.invokevirtual 272, 3) := by decide +kernel
theorem dX7_restore_24 : decode cX7_restore 24 = .ok (.aload_n 0, 1) := by decide +kernel
theorem dX7_restore_25 : decode cX7_restore 25 = .ok (.getfield 10, 3) := by decide +kernel
theorem dX7_restore_28 : decode cX7_restore 28 = .ok (.getfield 275, 3) := by decide +kernel
theorem dX7_restore_31 : decode cX7_restore 31 = .ok (.ireturn, 1) := by decide +kernel
theorem dX7_tell_0 : decode cX7_tell 0 = .ok (.aload_n 0, 1) := by decide +kernel
theorem dX7_tell_1 : decode cX7_tell 1 = .ok (.getfield 10, 3) := by decide +kernel
theorem dX7_tell_4 : decode cX7_tell 4 = .ok (.getfield 278, 3) := by decide +kernel
theorem dX7_tell_7 : decode cX7_tell 7 = .ok (.bipush 24, 2) := by decide +kernel
theorem dX7_tell_9 : decode cX7_tell 9 = .ok (.if_icmp .lt 9, 3) := by decide +kernel
theorem dX7_tell_12 : decode cX7_tell 12 = .ok (.aload_n 0, 1) := by decide +kernel
theorem dX7_tell_13 : decode cX7_tell 13 = .ok (.iconst 4, 1) := by decide +kernel
theorem dX7_tell_14 : decode cX7_tell 14 = .ok (.invokevirtual 55, 3) := by decide +kernel
theorem dX7_tell_17 : decode cX7_tell 17 = .ok (.ireturn, 1) := by decide +kernel
theorem dX7_tell_18 : decode cX7_tell 18 = .ok (.aload_n 0, 1) := by decide +kernel
theorem dX7_tell_19 : decode cX7_tell 19 = .ok (.getfield 10, 3) := by decide +kernel
theorem dX7_tell_22 : decode cX7_tell 22 = .ok (.getfield 281, 3) := by decide +kernel
theorem dX7_tell_25 : decode cX7_tell 25 = .ok (.aload_n 0, 1) := by decide +kernel
theorem dX7_tell_26 : decode cX7_tell 26 = .ok (.getfield 10, 3) := by decide +kernel
theorem dX7_tell_29 : decode cX7_tell 29 = .ok (.getfield 278, 3) := by decide +kernel
theorem dX7_tell_32 : decode cX7_tell 32 = .ok (.iload_n 1, 1) := by decide +kernel
theorem dX7_tell_33 : decode cX7_tell 33 = .ok (.iastore, 1) := by decide +kernel
theorem dX7_tell_34 : decode cX7_tell 34 = .ok (.aload_n 0, 1) := by decide +kernel
theorem dX7_tell_35 : decode cX7_tell 35 = .ok (.getfield 10, 3) := by decide +kernel
theorem dX7_tell_38 : decode cX7_tell 38 = .ok (.dup, 1) := by decide +kernel
theorem dX7_tell_39 : decode cX7_tell 39 = .ok (.getfield 278, 3) := by decide +kernel
theorem dX7_tell_42 : decode cX7_tell 42 = .ok (.iconst 1, 1) := by decide +kernel
theorem dX7_tell_43 : decode cX7_tell 43 = .ok (.iadd, 1) := by decide +kernel
theorem dX7_tell_44 : decode cX7_tell 44 = .ok (.putfield 278, 3) := by decide +kernel
theorem dX7_tell_47 : decode cX7_tell 47 = .ok (.aload_n 0, 1) := by decide +kernel
theorem dX7_tell_48 : decode cX7_tell 48 = .ok (.getfield 10, 3) := by decide +kernel
theorem dX7_tell_51 : decode cX7_tell 51 = .ok (.getfield 278, 3) := by decide +kernel
theorem dX7_tell_54 : decode cX7_tell 54 = .ok (.ireturn, 1) := by decide +kernel
theorem dX7_check_0 : decode cX7_check 0 = .ok (.aload_n 0, 1) := by decide +kernel
theorem dX7_check_1 : decode cX7_check 1 = .ok (.getfield 10, 3) := by decide +kernel
theorem dX7_check_4 : decode cX7_check 4 = .ok (.getfield 278, 3) := by decide +kernel
theorem dX7_check_7 : decode cX7_check 7 = .ok (.istore_n 1, 1) := by decide +kernel
theorem dX7_check_8 : decode cX7_check 8 = .ok (.aload_n 0, 1) := by decide +kernel
theorem dX7_check_9 : decode cX7_check 9 = .ok (.getfield 10, 3) := by decide +kernel
theorem dX7_check_12 : decode cX7_check 12 = .ok (.iconst 0, 1) := by decide +kernel
theorem dX7_check_13 : decode cX7_check 13 = .ok (.putfield 278, 3) := by decide +kernel
theorem dX7_check_16 : decode cX7_check 16 = .ok (.iconst 0, 1) := by decide +kernel
theorem dX7_check_17 : decode cX7_check 17 = .ok (.istore_n 2, 1) := by decide +kernel
theorem dX7_check_18 : decode cX7_check 18 = .ok (.iload_n 2, 1) := by decide +kernel
theorem dX7_check_19 : decode cX7_check 19 = .ok (.iload_n 1, 1) := by decide +kernel
theorem dX7_check_20 : decode cX7_check 20 = .ok (.if_icmp .ge 51, 3) := by decide +kernel
theorem dX7_check_23 : decode cX7_check 23 = .ok (.iload_n 2, 1) := by decide +kernel
theorem dX7_check_24 : decode cX7_check 24 = .ok (.aload_n 0, 1) := by decide +kernel
theorem dX7_check_25 : decode cX7_check 25 = .ok (.getfield 10, 3) := by decide +kernel
theorem dX7_check_28 : decode cX7_check 28 = .ok (.getfield 101, 3) := by decide +kernel
theorem dX7_check_31 : decode cX7_check 31 = .ok (.getfield 105, 3) := by decide +kernel
theorem dX7_check_34 : decode cX7_check 34 = .ok (.if_icmp .ge 27, 3) := by decide +kernel
theorem dX7_check_37 : decode cX7_check 37 = .ok (.aload_n 0, 1) := by decide +kernel
theorem dX7_check_38 : decode cX7_check 38 = .ok (.getfield 10, 3) := by decide +kernel
theorem dX7_check_41 : decode cX7_check 41 = .ok (.getfield 281, 3) := by decide +kernel
theorem dX7_check_44 : decode cX7_check 44 = .ok (.iload_n 2, 1) := by decide +kernel
theorem dX7_check_45 : decode cX7_check 45 = .ok (.iaload, 1) := by decide +kernel
theorem dX7_check_46 : decode cX7_check 46 = .ok (.aload_n 0, 1) := by decide +kernel
theorem dX7_check_47 : decode cX7_check 47 = .ok (.getfield 10, 3) := by decide +kernel
theorem dX7_check_50 : decode cX7_check 50 = .ok (.getfield 101, 3) := by decide +kernel
theorem dX7_check_53 : decode cX7_check 53 = .ok (.getfield 112, 3) := by decide +kernel
theorem dX7_check_56 : decode cX7_check 56 = .ok (.iload_n 2, 1) := by decide +kernel
theorem dX7_check_57 : decode cX7_check 57 = .ok (.iaload, 1) := by decide +kernel
theorem dX7_check_58 : decode cX7_check 58 = .ok (.if_icmp .eq 7, 3) := by decide +kernel
theorem dX7_check_61 : decode cX7_check 61 = .ok (.iconst 1, 1) := by decide +kernel
theorem dX7_check_62 : decode cX7_check 62 = .ok (.iload_n 2, 1) := by decide +kernel
theorem dX7_check_63 : decode cX7_check 63 = .ok (.iadd, 1) := by decide +kernel
theorem dX7_check_64 : decode cX7_check 64 = .ok (.ireturn, 1) := by decide +kernel
theorem dX7_check_65 : decode cX7_check 65 = .ok (.iinc 2 1, 3) := by decide +kernel
theorem dX7_check_68 : decode cX7_check 68 = .ok (.goto (-50), 3) := by decide +kernel
theorem dX7_check_71 : decode cX7_check 71 = .ok (.iconst 0, 1) := by decide +kernel
theorem dX7_check_72 : decode cX7_check 72 = .ok (.ireturn, 1) := by decide +kernel
theorem dX7_count_0 : decode cX7_count 0 = .ok (.iload_n 1, 1) := by decide +kernel
theorem dX7_count_1 : decode cX7_count 1 = .ok (.tableswitch 165 0 11 #[63, 74, 85, 93, 101, 109, 117, 125, 133, 141, 149, 157], 63) := by decide +kernel
theorem dX7_count_64 : decode cX7_count 64 = .ok (.aload_n 0, 1) := by decide +kernel
theorem dX7_count_65 : decode cX7_count 65 = .ok (.getfield 10, 3) := by decide +kernel
theorem dX7_count_68 : decode cX7_count 68 = .ok (.getfield 59, 3) := by decide +kernel
theorem dX7_count_71 : decode cX7_count 71 = .ok (.getfield 63, 3) := by decide +kernel
theorem dX7_count_74 : decode cX7_count 74 = .ok (.ireturn, 1) := by decide +kernel
theorem dX7_count_75 : decode cX7_count 75 = .ok (.aload_n 0, 1) := by decide +kernel
theorem dX7_count_76 : decode cX7_count 76 = .ok (.getfield 10, 3) := by decide +kernel
theorem dX7_count_79 : decode cX7_count 79 = .ok (.getfield 101, 3) := by decide +kernel
theorem dX7_count_82 : decode cX7_count 82 = .ok (.getfield 105, 3) := by decide +kernel
theorem dX7_count_85 : decode cX7_count 85 = .ok (.ireturn, 1) := by decide +kernel
theorem dX7_count_86 : decode cX7_count 86 = .ok (.aload_n 0, 1) := by decide +kernel
theorem dX7_count_87 : decode cX7_count 87 = .ok (.getfield 10, 3) := by decide +kernel
theorem dX7_count_90 : decode cX7_count 90 = .ok (.getfield 284, 3) := by decide +kernel
theorem dX7_count_93 : decode cX7_count 93 = .ok (.ireturn, 1) := by decide +kernel
theorem dX7_count_94 : decode cX7_count 94 = .ok (.aload_n 0, 1) := by decide +kernel
theorem dX7_count_95 : decode cX7_count 95 = .ok (.getfield 10, 3) := by decide +kernel
theorem dX7_count_98 : decode cX7_count 98 = .ok (.getfield 275, 3) := by decide +kernel
theorem dX7_count_101 : decode cX7_count 101 = .ok (.ireturn, 1) := by decide +kernel
theorem dX7_count_102 : decode cX7_count 102 = .ok (.aload_n 0, 1) := by decide +kernel
theorem dX7_count_103 : decode cX7_count 103 = .ok (.getfield 10, 3) := by decide +kernel
theorem dX7_count_106 : decode cX7_count 106 = .ok (.getfield 287, 3) := by decide +kernel
theorem dX7_count_109 : decode cX7_count 109 = .ok (.ireturn, 1) := by decide +kernel
theorem dX7_count_110 : decode cX7_count 110 = .ok (.aload_n 0, 1) := by decide +kernel
theorem dX7_count_111 : decode cX7_count 111 = .ok (.getfield 10, 3) := by decide +kernel
theorem dX7_count_114 : decode cX7_count 114 = .ok (.getfield 290, 3) := by decide +kernel
theorem dX7_count_117 : decode cX7_count 117 = .ok (.ireturn, 1) := by decide +kernel
theorem dX7_count_118 : decode cX7_count 118 = .ok (.aload_n 0, 1) := by decide +kernel
theorem dX7_count_119 : decode cX7_count 119 = .ok (.getfield 10, 3) := by decide +kernel
theorem dX7_count_122 : decode cX7_count 122 = .ok (.getfield 293, 3) := by decide +kernel
theorem dX7_count_125 : decode cX7_count 125 = .ok (.ireturn, 1) := by decide +kernel
theorem dX7_count_126 : decode cX7_count 126 = .ok (.aload_n 0, 1) := by decide +kernel
theorem dX7_count_127 : decode cX7_count 127 = .ok (.getfield 10, 3) := by decide +kernel
theorem dX7_count_130 : decode cX7_count 130 = .ok (.getfield 296, 3) := by decide +kernel
theorem dX7_count_133 : decode cX7_count 133 = .ok (.ireturn, 1) := by decide +kernel
theorem dX7_count_134 : decode cX7_count 134 = .ok (.aload_n 0, 1) := by decide +kernel
theorem dX7_count_135 : decode cX7_count 135 = .ok (.getfield 10, 3) := by decide +kernel
theorem dX7_count_138 : decode cX7_count 138 = .ok (.getfield 149, 3) := by decide +kernel
theorem dX7_count_141 : decode cX7_count 141 = .ok (.ireturn, 1) := by decide +kernel
theorem dX7_count_142 : decode cX7_count 142 = .ok (.aload_n 0, 1) := by decide +kernel
theorem dX7_count_143 : decode cX7_count 143 = .ok (.getfield 10, 3) := by decide +kernel
theorem dX7_count_146 : decode cX7_count 146 = .ok (.getfield 278, 3) := by decide +kernel
theorem dX7_count_149 : decode cX7_count 149 = .ok (.ireturn, 1) := by decide +kernel
theorem dX7_count_150 : decode cX7_count 150 = .ok (.aload_n 0, 1) := by decide +kernel
theorem dX7_count_151 : decode cX7_count 151 = .ok (.getfield 36, 3) := by decide +kernel
theorem dX7_count_154 : decode cX7_count 154 = .ok (.getfield 244, 3) := by decide +kernel
theorem dX7_count_157 : decode cX7_count 157 = .ok (.ireturn, 1) := by decide +kernel
theorem dX7_count_158 : decode cX7_count 158 = .ok (.aload_n 0, 1) := by decide +kernel
theorem dX7_count_159 : decode cX7_count 159 = .ok (.getfield 10, 3) := by decide +kernel
theorem dX7_count_162 : decode cX7_count 162 = .ok (.getfield 234, 3) := by decide +kernel
theorem dX7_count_165 : decode cX7_count 165 = .ok (.ireturn, 1) := by decide +kernel
theorem dX7_count_166 : decode cX7_count 166 = .ok (.aload_n 0, 1) := by decide +kernel
theorem dX7_count_167 : decode cX7_count 167 = .ok (.iconst 1, 1) := by decide +kernel
theorem dX7_count_168 : decode cX7_count 168 = .ok (.invokevirtual 55, 3) := by decide +kernel
theorem dX7_count_171 : decode cX7_count 171 = .ok (.ireturn, 1) := by decide +kernel
theorem dX7_told_0 : decode cX7_told 0 = .ok (.iload_n 1, 1) := by decide +kernel
theorem dX7_told_1 : decode cX7_told 1 = .ok (.iconst 1, 1) := by decide +kernel
theorem dX7_told_2 : decode cX7_told 2 = .ok (.bipush 6, 2) := by decide +kernel
theorem dX7_told_4 : decode cX7_told 4 = .ok (.invokestatic 93, 3) := by decide +kernel
theorem dX7_told_7 : decode cX7_told 7 = .ok (.ifCond .ne 9, 3) := by decide +kernel
theorem dX7_told_10 : decode cX7_told 10 = .ok (.aload_n 0, 1) := by decide +kernel
theorem dX7_told_11 : decode cX7_told 11 = .ok (.iconst 1, 1) := by decide +kernel
theorem dX7_told_12 : decode cX7_told 12 = .ok (.invokevirtual 55, 3) := by decide +kernel
theorem dX7_told_15 : decode cX7_told 15 = .ok (.ireturn, 1) := by decide +kernel
theorem dX7_told_16 : decode cX7_told 16 = .ok (.aload_n 0, 1) := by decide +kernel
theorem dX7_told_17 : decode cX7_told 17 = .ok (.getfield 40, 3) := by decide +kernel
theorem dX7_told_20 : decode cX7_told 20 = .ok (.iload_n 1, 1) := by decide +kernel
theorem dX7_told_21 : decode cX7_told 21 = .ok (.iaload, 1) := by decide +kernel
theorem dX7_told_22 : decode cX7_told 22 = .ok (.ireturn, 1) := by decide +kernel
theorem dX7_error_0 : decode cX7_error 0 = .ok (.iload_n 1, 1) := by decide +kernel
theorem dX7_error_1 : decode cX7_error 1 = .ok (.ifCond .lt 22, 3) := by decide +kernel
theorem dX7_error_4 : decode cX7_error 4 = .ok (.iload_n 1, 1) := by decide +kernel
theorem dX7_error_5 : decode cX7_error 5 = .ok (.aload_n 0, 1) := by decide +kernel
theorem dX7_error_6 : decode cX7_error 6 = .ok (.getfield 40, 3) := by decide +kernel
theorem dX7_error_9 : decode cX7_error 9 = .ok (.arraylength, 1) := by decide +kernel
theorem dX7_error_10 : decode cX7_error 10 = .ok (.if_icmp .ge 13, 3) := by decide +kernel
theorem dX7_error_13 : decode cX7_error 13 = .ok (.aload_n 0, 1) := by decide +kernel
theorem dX7_error_14 : decode cX7_error 14 = .ok (.getfield 40, 3) := by decide +kernel
theorem dX7_error_17 : decode cX7_error 17 = .ok (.iload_n 1, 1) := by decide +kernel
theorem dX7_error_18 : decode cX7_error 18 = .ok (.dup2, 1) := by decide +kernel
theorem dX7_error_19 : decode cX7_error 19 = .ok (.iaload, 1) := by decide +kernel
theorem dX7_error_20 : decode cX7_error 20 = .ok (.iconst 1, 1) := by decide +kernel
theorem dX7_error_21 : decode cX7_error 21 = .ok (.iadd, 1) := by decide +kernel
theorem dX7_error_22 : decode cX7_error 22 = .ok (.iastore, 1) := by decide +kernel
theorem dX7_error_23 : decode cX7_error 23 = .ok (.ldc_w 299, 3) := by decide +kernel
theorem dX7_error_26 : decode cX7_error 26 = .ok (.iload_n 1, 1) := by decide +kernel
theorem dX7_error_27 : decode cX7_error 27 = .ok (.isub, 1) := by decide +kernel
theorem dX7_error_28 : decode cX7_error 28 = .ok (.ireturn, 1) := by decide +kernel
theorem dX7_isPitch_0 : decode cX7_isPitch 0 = .ok (.iload_n 1, 1) := by decide +kernel
theorem dX7_isPitch_1 : decode cX7_isPitch 1 = .ok (.ifCond .lt 21, 3) := by decide +kernel
theorem dX7_isPitch_4 : decode cX7_isPitch 4 = .ok (.iload_n 1, 1) := by decide +kernel
theorem dX7_isPitch_5 : decode cX7_isPitch 5 = .ok (.aload_n 0, 1) := by decide +kernel
theorem dX7_isPitch_6 : decode cX7_isPitch 6 = .ok (.getfield 10, 3) := by decide +kernel
theorem dX7_isPitch_9 : decode cX7_isPitch 9 = .ok (.getfield 59, 3) := by decide +kernel
theorem dX7_isPitch_12 : decode cX7_isPitch 12 = .ok (.getfield 63, 3) := by decide +kernel
theorem dX7_isPitch_15 : decode cX7_isPitch 15 = .ok (.if_icmp .ge 7, 3) := by decide +kernel
theorem dX7_isPitch_18 : decode cX7_isPitch 18 = .ok (.iconst 1, 1) := by decide +kernel
theorem dX7_isPitch_19 : decode cX7_isPitch 19 = .ok (.goto 4, 3) := by decide +kernel
theorem dX7_isPitch_22 : decode cX7_isPitch 22 = .ok (.iconst 0, 1) := by decide +kernel
theorem dX7_isPitch_23 : decode cX7_isPitch 23 = .ok (.ireturn, 1) := by decide +kernel
theorem dX7_isRunner_0 : decode cX7_isRunner 0 = .ok (.iload_n 1, 1) := by decide +kernel
theorem dX7_isRunner_1 : decode cX7_isRunner 1 = .ok (.ifCond .lt 21, 3) := by decide +kernel
theorem dX7_isRunner_4 : decode cX7_isRunner 4 = .ok (.iload_n 1, 1) := by decide +kernel
theorem dX7_isRunner_5 : decode cX7_isRunner 5 = .ok (.aload_n 0, 1) := by decide +kernel
theorem dX7_isRunner_6 : decode cX7_isRunner 6 = .ok (.getfield 10, 3) := by decide +kernel
theorem dX7_isRunner_9 : decode cX7_isRunner 9 = .ok (.getfield 101, 3) := by decide +kernel
theorem dX7_isRunner_12 : decode cX7_isRunner 12 = .ok (.getfield 105, 3) := by decide +kernel
theorem dX7_isRunner_15 : decode cX7_isRunner 15 = .ok (.if_icmp .ge 7, 3) := by decide +kernel
theorem dX7_isRunner_18 : decode cX7_isRunner 18 = .ok (.iconst 1, 1) := by decide +kernel
theorem dX7_isRunner_19 : decode cX7_isRunner 19 = .ok (.goto 4, 3) := by decide +kernel
theorem dX7_isRunner_22 : decode cX7_isRunner 22 = .ok (.iconst 0, 1) := by decide +kernel
theorem dX7_isRunner_23 : decode cX7_isRunner 23 = .ok (.ireturn, 1) := by decide +kernel
theorem dX7_within_0 : decode cX7_within 0 = .ok (.iload_n 0, 1) := by decide +kernel
theorem dX7_within_1 : decode cX7_within 1 = .ok (.iload_n 1, 1) := by decide +kernel
theorem dX7_within_2 : decode cX7_within 2 = .ok (.if_icmp .lt 12, 3) := by decide +kernel
theorem dX7_within_5 : decode cX7_within 5 = .ok (.iload_n 0, 1) := by decide +kernel
theorem dX7_within_6 : decode cX7_within 6 = .ok (.iload_n 2, 1) := by decide +kernel
theorem dX7_within_7 : decode cX7_within 7 = .ok (.if_icmp .gt 7, 3) := by decide +kernel
theorem dX7_within_10 : decode cX7_within 10 = .ok (.iconst 1, 1) := by decide +kernel
theorem dX7_within_11 : decode cX7_within 11 = .ok (.goto 4, 3) := by decide +kernel
theorem dX7_within_14 : decode cX7_within 14 = .ok (.iconst 0, 1) := by decide +kernel
theorem dX7_within_15 : decode cX7_within 15 = .ok (.ireturn, 1) := by decide +kernel
theorem dX7_isDigit_0 : decode cX7_isDigit 0 = .ok (.iload_n 0, 1) := by decide +kernel
theorem dX7_isDigit_1 : decode cX7_isDigit 1 = .ok (.iconst 0, 1) := by decide +kernel
theorem dX7_isDigit_2 : decode cX7_isDigit 2 = .ok (.bipush 9, 2) := by decide +kernel
theorem dX7_isDigit_4 : decode cX7_isDigit 4 = .ok (.invokestatic 93, 3) := by decide +kernel
theorem dX7_isDigit_7 : decode cX7_isDigit 7 = .ok (.ireturn, 1) := by decide +kernel
theorem dX7_isKindAndM_0 : decode cX7_isKindAndM 0 = .ok (.iload_n 0, 1) := by decide +kernel
theorem dX7_isKindAndM_1 : decode cX7_isKindAndM 1 = .ok (.iconst 0, 1) := by decide +kernel
theorem dX7_isKindAndM_2 : decode cX7_isKindAndM 2 = .ok (.bipush 69, 2) := by decide +kernel
theorem dX7_isKindAndM_4 : decode cX7_isKindAndM 4 = .ok (.invokestatic 93, 3) := by decide +kernel
theorem dX7_isKindAndM_7 : decode cX7_isKindAndM 7 = .ok (.ireturn, 1) := by decide +kernel
theorem dX7_isFeet_0 : decode cX7_isFeet 0 = .ok (.iload_n 0, 1) := by decide +kernel
theorem dX7_isFeet_1 : decode cX7_isFeet 1 = .ok (.iconst 0, 1) := by decide +kernel
theorem dX7_isFeet_2 : decode cX7_isFeet 2 = .ok (.bipush 20, 2) := by decide +kernel
theorem dX7_isFeet_4 : decode cX7_isFeet 4 = .ok (.invokestatic 93, 3) := by decide +kernel
theorem dX7_isFeet_7 : decode cX7_isFeet 7 = .ok (.ireturn, 1) := by decide +kernel
theorem dX7_isUse_0 : decode cX7_isUse 0 = .ok (.iload_n 0, 1) := by decide +kernel
theorem dX7_isUse_1 : decode cX7_isUse 1 = .ok (.iconst 0, 1) := by decide +kernel
theorem dX7_isUse_2 : decode cX7_isUse 2 = .ok (.iconst 1, 1) := by decide +kernel
theorem dX7_isUse_3 : decode cX7_isUse 3 = .ok (.invokestatic 93, 3) := by decide +kernel
theorem dX7_isUse_6 : decode cX7_isUse 6 = .ok (.ireturn, 1) := by decide +kernel
theorem dX7_isSheet_0 : decode cX7_isSheet 0 = .ok (.iload_n 0, 1) := by decide +kernel
theorem dX7_isSheet_1 : decode cX7_isSheet 1 = .ok (.iconst 0, 1) := by decide +kernel
theorem dX7_isSheet_2 : decode cX7_isSheet 2 = .ok (.iconst 3, 1) := by decide +kernel
theorem dX7_isSheet_3 : decode cX7_isSheet 3 = .ok (.invokestatic 93, 3) := by decide +kernel
theorem dX7_isSheet_6 : decode cX7_isSheet 6 = .ok (.ireturn, 1) := by decide +kernel
theorem dX7_mostOfSetting_0 : decode cX7_mostOfSetting 0 = .ok (.iload_n 0, 1) := by decide +kernel
theorem dX7_mostOfSetting_1 : decode cX7_mostOfSetting 1 = .ok (.tableswitch 38 0 2 #[27, 31, 35], 27) := by decide +kernel
theorem dX7_mostOfSetting_28 : decode cX7_mostOfSetting 28 = .ok (.sipush 200, 3) := by decide +kernel
theorem dX7_mostOfSetting_31 : decode cX7_mostOfSetting 31 = .ok (.ireturn, 1) := by decide +kernel
theorem dX7_mostOfSetting_32 : decode cX7_mostOfSetting 32 = .ok (.sipush 200, 3) := by decide +kernel
theorem dX7_mostOfSetting_35 : decode cX7_mostOfSetting 35 = .ok (.ireturn, 1) := by decide +kernel
theorem dX7_mostOfSetting_36 : decode cX7_mostOfSetting 36 = .ok (.bipush 9, 2) := by decide +kernel
theorem dX7_mostOfSetting_38 : decode cX7_mostOfSetting 38 = .ok (.ireturn, 1) := by decide +kernel
theorem dX7_mostOfSetting_39 : decode cX7_mostOfSetting 39 = .ok (.iconst 2, 1) := by decide +kernel
theorem dX7_mostOfSetting_40 : decode cX7_mostOfSetting 40 = .ok (.ireturn, 1) := by decide +kernel
theorem dX7_isUnder_0 : decode cX7_isUnder 0 = .ok (.iload_n 0, 1) := by decide +kernel
theorem dX7_isUnder_1 : decode cX7_isUnder 1 = .ok (.istore_n 2, 1) := by decide +kernel
theorem dX7_isUnder_2 : decode cX7_isUnder 2 = .ok (.iconst 0, 1) := by decide +kernel
theorem dX7_isUnder_3 : decode cX7_isUnder 3 = .ok (.istore_n 3, 1) := by decide +kernel
theorem dX7_isUnder_4 : decode cX7_isUnder 4 = .ok (.iload_n 3, 1) := by decide +kernel
theorem dX7_isUnder_5 : decode cX7_isUnder 5 = .ok (.bipush 7, 2) := by decide +kernel
theorem dX7_isUnder_7 : decode cX7_isUnder 7 = .ok (.if_icmp .ge 32, 3) := by decide +kernel
theorem dX7_isUnder_10 : decode cX7_isUnder 10 = .ok (.iload_n 2, 1) := by decide +kernel
theorem dX7_isUnder_11 : decode cX7_isUnder 11 = .ok (.ifCond .lt 28, 3) := by decide +kernel
theorem dX7_isUnder_14 : decode cX7_isUnder 14 = .ok (.iload_n 2, 1) := by decide +kernel
theorem dX7_isUnder_15 : decode cX7_isUnder 15 = .ok (.bipush 7, 2) := by decide +kernel
theorem dX7_isUnder_17 : decode cX7_isUnder 17 = .ok (.if_icmp .ge 22, 3) := by decide +kernel
theorem dX7_isUnder_20 : decode cX7_isUnder 20 = .ok (.iload_n 2, 1) := by decide +kernel
theorem dX7_isUnder_21 : decode cX7_isUnder 21 = .ok (.iload_n 1, 1) := by decide +kernel
theorem dX7_isUnder_22 : decode cX7_isUnder 22 = .ok (.if_icmp .ne 5, 3) := by decide +kernel
theorem dX7_isUnder_25 : decode cX7_isUnder 25 = .ok (.iconst 1, 1) := by decide +kernel
theorem dX7_isUnder_26 : decode cX7_isUnder 26 = .ok (.ireturn, 1) := by decide +kernel
theorem dX7_isUnder_27 : decode cX7_isUnder 27 = .ok (.getstatic 300, 3) := by decide +kernel
theorem dX7_isUnder_30 : decode cX7_isUnder 30 = .ok (.iload_n 2, 1) := by decide +kernel
theorem dX7_isUnder_31 : decode cX7_isUnder 31 = .ok (.iaload, 1) := by decide +kernel
theorem dX7_isUnder_32 : decode cX7_isUnder 32 = .ok (.istore_n 2, 1) := by decide +kernel
theorem dX7_isUnder_33 : decode cX7_isUnder 33 = .ok (.iinc 3 1, 3) := by decide +kernel
theorem dX7_isUnder_36 : decode cX7_isUnder 36 = .ok (.goto (-32), 3) := by decide +kernel
theorem dX7_isUnder_39 : decode cX7_isUnder 39 = .ok (.iconst 0, 1) := by decide +kernel
theorem dX7_isUnder_40 : decode cX7_isUnder 40 = .ok (.ireturn, 1) := by decide +kernel
theorem dX7_fitsFrom_0 : decode cX7_fitsFrom 0 = .ok (.aload_n 0, 1) := by decide +kernel
theorem dX7_fitsFrom_1 : decode cX7_fitsFrom 1 = .ok (.getfield 29, 3) := by decide +kernel
theorem dX7_fitsFrom_4 : decode cX7_fitsFrom 4 = .ok (.getfield 267, 3) := by decide +kernel
theorem dX7_fitsFrom_7 : decode cX7_fitsFrom 7 = .ok (.iload_n 1, 1) := by decide +kernel
theorem dX7_fitsFrom_8 : decode cX7_fitsFrom 8 = .ok (.iaload, 1) := by decide +kernel
theorem dX7_fitsFrom_9 : decode cX7_fitsFrom 9 = .ok (.istore 4, 2) := by decide +kernel
theorem dX7_fitsFrom_11 : decode cX7_fitsFrom 11 = .ok (.iload 4, 2) := by decide +kernel
theorem dX7_fitsFrom_13 : decode cX7_fitsFrom 13 = .ok (.aload_n 0, 1) := by decide +kernel
theorem dX7_fitsFrom_14 : decode cX7_fitsFrom 14 = .ok (.getfield 10, 3) := by decide +kernel
theorem dX7_fitsFrom_17 : decode cX7_fitsFrom 17 = .ok (.getfield 59, 3) := by decide +kernel
theorem dX7_fitsFrom_20 : decode cX7_fitsFrom 20 = .ok (.getfield 63, 3) := by decide +kernel
theorem dX7_fitsFrom_23 : decode cX7_fitsFrom 23 = .ok (.if_icmp .le 5, 3) := by decide +kernel
theorem dX7_fitsFrom_26 : decode cX7_fitsFrom 26 = .ok (.iconst 0, 1) := by decide +kernel
theorem dX7_fitsFrom_27 : decode cX7_fitsFrom 27 = .ok (.ireturn, 1) := by decide +kernel
theorem dX7_fitsFrom_28 : decode cX7_fitsFrom 28 = .ok (.aload_n 0, 1) := by decide +kernel
theorem dX7_fitsFrom_29 : decode cX7_fitsFrom 29 = .ok (.getfield 10, 3) := by decide +kernel
theorem dX7_fitsFrom_32 : decode cX7_fitsFrom 32 = .ok (.iload_n 2, 1) := by decide +kernel
theorem dX7_fitsFrom_33 : decode cX7_fitsFrom 33 = .ok (.iload_n 3, 1) := by decide +kernel
theorem dX7_fitsFrom_34 : decode cX7_fitsFrom 34 = .ok (.invokevirtual 213, 3) := by decide +kernel
theorem dX7_fitsFrom_37 : decode cX7_fitsFrom 37 = .ok (.istore 5, 2) := by decide +kernel
theorem dX7_fitsFrom_39 : decode cX7_fitsFrom 39 = .ok (.iconst 0, 1) := by decide +kernel
theorem dX7_fitsFrom_40 : decode cX7_fitsFrom 40 = .ok (.istore 6, 2) := by decide +kernel
theorem dX7_fitsFrom_42 : decode cX7_fitsFrom 42 = .ok (.iload 6, 2) := by decide +kernel
theorem dX7_fitsFrom_44 : decode cX7_fitsFrom 44 = .ok (.iload 4, 2) := by decide +kernel
theorem dX7_fitsFrom_46 : decode cX7_fitsFrom 46 = .ok (.if_icmp .ge 31, 3) := by decide +kernel
theorem dX7_fitsFrom_49 : decode cX7_fitsFrom 49 = .ok (.aload_n 0, 1) := by decide +kernel
theorem dX7_fitsFrom_50 : decode cX7_fitsFrom 50 = .ok (.getfield 29, 3) := by decide +kernel
theorem dX7_fitsFrom_53 : decode cX7_fitsFrom 53 = .ok (.iload_n 1, 1) := by decide +kernel
theorem dX7_fitsFrom_54 : decode cX7_fitsFrom 54 = .ok (.iload 6, 2) := by decide +kernel
theorem dX7_fitsFrom_56 : decode cX7_fitsFrom 56 = .ok (.invokevirtual 269, 3) := by decide +kernel
theorem dX7_fitsFrom_59 : decode cX7_fitsFrom 59 = .ok (.iload 5, 2) := by decide +kernel
theorem dX7_fitsFrom_61 : decode cX7_fitsFrom 61 = .ok (.iload 6, 2) := by decide +kernel
theorem dX7_fitsFrom_63 : decode cX7_fitsFrom 63 = .ok (.ishr, 1) := by decide +kernel
theorem dX7_fitsFrom_64 : decode cX7_fitsFrom 64 = .ok (.iconst 1, 1) := by decide +kernel
theorem dX7_fitsFrom_65 : decode cX7_fitsFrom 65 = .ok (.iand, 1) := by decide +kernel
theorem dX7_fitsFrom_66 : decode cX7_fitsFrom 66 = .ok (.if_icmp .eq 5, 3) := by decide +kernel
theorem dX7_fitsFrom_69 : decode cX7_fitsFrom 69 = .ok (.iconst 0, 1) := by decide +kernel
theorem dX7_fitsFrom_70 : decode cX7_fitsFrom 70 = .ok (.ireturn, 1) := by decide +kernel
theorem dX7_fitsFrom_71 : decode cX7_fitsFrom 71 = .ok (.iinc 6 1, 3) := by decide +kernel
theorem dX7_fitsFrom_74 : decode cX7_fitsFrom 74 = .ok (.goto (-32), 3) := by decide +kernel
theorem dX7_fitsFrom_77 : decode cX7_fitsFrom 77 = .ok (.iconst 1, 1) := by decide +kernel
theorem dX7_fitsFrom_78 : decode cX7_fitsFrom 78 = .ok (.ireturn, 1) := by decide +kernel
theorem dX7_partOf_0 : decode cX7_partOf 0 = .ok (.iload_n 0, 1) := by decide +kernel
theorem dX7_partOf_1 : decode cX7_partOf 1 = .ok (.ifCond .eq 7, 3) := by decide +kernel
theorem dX7_partOf_4 : decode cX7_partOf 4 = .ok (.iload_n 1, 1) := by decide +kernel
theorem dX7_partOf_5 : decode cX7_partOf 5 = .ok (.ifCond .ne 5, 3) := by decide +kernel
theorem dX7_partOf_8 : decode cX7_partOf 8 = .ok (.iload_n 2, 1) := by decide +kernel
theorem dX7_partOf_9 : decode cX7_partOf 9 = .ok (.ireturn, 1) := by decide +kernel
theorem dX7_partOf_10 : decode cX7_partOf 10 = .ok (.iload_n 0, 1) := by decide +kernel
theorem dX7_partOf_11 : decode cX7_partOf 11 = .ok (.invokestatic 303, 3) := by decide +kernel
theorem dX7_partOf_14 : decode cX7_partOf 14 = .ok (.iload_n 1, 1) := by decide +kernel
theorem dX7_partOf_15 : decode cX7_partOf 15 = .ok (.invokestatic 303, 3) := by decide +kernel
theorem dX7_partOf_18 : decode cX7_partOf 18 = .ok (.invokestatic 306, 3) := by decide +kernel
theorem dX7_partOf_21 : decode cX7_partOf 21 = .ok (.istore_n 3, 1) := by decide +kernel
theorem dX7_partOf_22 : decode cX7_partOf 22 = .ok (.iload_n 1, 1) := by decide +kernel
theorem dX7_partOf_23 : decode cX7_partOf 23 = .ok (.ifCond .ge 6, 3) := by decide +kernel
theorem dX7_partOf_26 : decode cX7_partOf 26 = .ok (.iload_n 3, 1) := by decide +kernel
theorem dX7_partOf_27 : decode cX7_partOf 27 = .ok (.ineg, 1) := by decide +kernel
theorem dX7_partOf_28 : decode cX7_partOf 28 = .ok (.istore_n 3, 1) := by decide +kernel
theorem dX7_partOf_29 : decode cX7_partOf 29 = .ok (.iload_n 2, 1) := by decide +kernel
theorem dX7_partOf_30 : decode cX7_partOf 30 = .ok (.ifCond .ne 7, 3) := by decide +kernel
theorem dX7_partOf_33 : decode cX7_partOf 33 = .ok (.iload_n 0, 1) := by decide +kernel
theorem dX7_partOf_34 : decode cX7_partOf 34 = .ok (.goto 4, 3) := by decide +kernel
theorem dX7_partOf_37 : decode cX7_partOf 37 = .ok (.iload_n 1, 1) := by decide +kernel
theorem dX7_partOf_38 : decode cX7_partOf 38 = .ok (.iload_n 3, 1) := by decide +kernel
theorem dX7_partOf_39 : decode cX7_partOf 39 = .ok (.idiv, 1) := by decide +kernel
theorem dX7_partOf_40 : decode cX7_partOf 40 = .ok (.ireturn, 1) := by decide +kernel
theorem dX7_commonOf_0 : decode cX7_commonOf 0 = .ok (.iload_n 0, 1) := by decide +kernel
theorem dX7_commonOf_1 : decode cX7_commonOf 1 = .ok (.istore_n 2, 1) := by decide +kernel
theorem dX7_commonOf_2 : decode cX7_commonOf 2 = .ok (.iload_n 1, 1) := by decide +kernel
theorem dX7_commonOf_3 : decode cX7_commonOf 3 = .ok (.istore_n 3, 1) := by decide +kernel
theorem dX7_commonOf_4 : decode cX7_commonOf 4 = .ok (.iconst 0, 1) := by decide +kernel
theorem dX7_commonOf_5 : decode cX7_commonOf 5 = .ok (.istore 4, 2) := by decide +kernel
theorem dX7_commonOf_7 : decode cX7_commonOf 7 = .ok (.iload 4, 2) := by decide +kernel
theorem dX7_commonOf_9 : decode cX7_commonOf 9 = .ok (.bipush 64, 2) := by decide +kernel
theorem dX7_commonOf_11 : decode cX7_commonOf 11 = .ok (.if_icmp .ge 23, 3) := by decide +kernel
theorem dX7_commonOf_14 : decode cX7_commonOf 14 = .ok (.iload_n 3, 1) := by decide +kernel
theorem dX7_commonOf_15 : decode cX7_commonOf 15 = .ok (.ifCond .le 19, 3) := by decide +kernel
theorem dX7_commonOf_18 : decode cX7_commonOf 18 = .ok (.iload_n 2, 1) := by decide +kernel
theorem dX7_commonOf_19 : decode cX7_commonOf 19 = .ok (.iload_n 3, 1) := by decide +kernel
theorem dX7_commonOf_20 : decode cX7_commonOf 20 = .ok (.irem, 1) := by decide +kernel
theorem dX7_commonOf_21 : decode cX7_commonOf 21 = .ok (.istore 5, 2) := by decide +kernel
theorem dX7_commonOf_23 : decode cX7_commonOf 23 = .ok (.iload_n 3, 1) := by decide +kernel
theorem dX7_commonOf_24 : decode cX7_commonOf 24 = .ok (.istore_n 2, 1) := by decide +kernel
theorem dX7_commonOf_25 : decode cX7_commonOf 25 = .ok (.iload 5, 2) := by decide +kernel
theorem dX7_commonOf_27 : decode cX7_commonOf 27 = .ok (.istore_n 3, 1) := by decide +kernel
theorem dX7_commonOf_28 : decode cX7_commonOf 28 = .ok (.iinc 4 1, 3) := by decide +kernel
theorem dX7_commonOf_31 : decode cX7_commonOf 31 = .ok (.goto (-24), 3) := by decide +kernel
theorem dX7_commonOf_34 : decode cX7_commonOf 34 = .ok (.iload_n 2, 1) := by decide +kernel
theorem dX7_commonOf_35 : decode cX7_commonOf 35 = .ok (.iconst 1, 1) := by decide +kernel
theorem dX7_commonOf_36 : decode cX7_commonOf 36 = .ok (.invokestatic 210, 3) := by decide +kernel
theorem dX7_commonOf_39 : decode cX7_commonOf 39 = .ok (.ireturn, 1) := by decide +kernel
