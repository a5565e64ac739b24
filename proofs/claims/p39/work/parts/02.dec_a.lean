/-! decode rows, as printed -/
theorem dX0_init_0 : decode cX0_init 0 = .ok (.aload_n 0, 1) := by decide +kernel
theorem dX0_init_1 : decode cX0_init 1 = .ok (.invokespecial 3, 3) := by decide +kernel
theorem dX0_init_4 : decode cX0_init 4 = .ok (.aload_n 0, 1) := by decide +kernel
theorem dX0_init_5 : decode cX0_init 5 = .ok (.bipush 6, 2) := by decide +kernel
theorem dX0_init_7 : decode cX0_init 7 = .ok (.newarray .int, 2) := by decide +kernel
theorem dX0_init_9 : decode cX0_init 9 = .ok (.putfield 9, 3) := by decide +kernel
theorem dX0_init_12 : decode cX0_init 12 = .ok (.aload_n 0, 1) := by decide +kernel
theorem dX0_init_13 : decode cX0_init 13 = .ok (.bipush 6, 2) := by decide +kernel
theorem dX0_init_15 : decode cX0_init 15 = .ok (.newarray .int, 2) := by decide +kernel
theorem dX0_init_17 : decode cX0_init 17 = .ok (.putfield 15, 3) := by decide +kernel
theorem dX0_init_20 : decode cX0_init 20 = .ok (.aload_n 0, 1) := by decide +kernel
theorem dX0_init_21 : decode cX0_init 21 = .ok (.bipush 6, 2) := by decide +kernel
theorem dX0_init_23 : decode cX0_init 23 = .ok (.newarray .int, 2) := by decide +kernel
theorem dX0_init_25 : decode cX0_init 25 = .ok (.putfield 18, 3) := by decide +kernel
theorem dX0_init_28 : decode cX0_init 28 = .ok (.aload_n 0, 1) := by decide +kernel
theorem dX0_init_29 : decode cX0_init 29 = .ok (.bipush 6, 2) := by decide +kernel
theorem dX0_init_31 : decode cX0_init 31 = .ok (.newarray .int, 2) := by decide +kernel
theorem dX0_init_33 : decode cX0_init 33 = .ok (.putfield 21, 3) := by decide +kernel
theorem dX0_init_36 : decode cX0_init 36 = .ok (.aload_n 0, 1) := by decide +kernel
theorem dX0_init_37 : decode cX0_init 37 = .ok (.iconst 0, 1) := by decide +kernel
theorem dX0_init_38 : decode cX0_init 38 = .ok (.putfield 24, 3) := by decide +kernel
theorem dX0_init_41 : decode cX0_init 41 = .ok (.return_, 1) := by decide +kernel
theorem dX0_add_0 : decode cX0_add 0 = .ok (.aload_n 0, 1) := by decide +kernel
theorem dX0_add_1 : decode cX0_add 1 = .ok (.getfield 24, 3) := by decide +kernel
theorem dX0_add_4 : decode cX0_add 4 = .ok (.istore_n 3, 1) := by decide +kernel
theorem dX0_add_5 : decode cX0_add 5 = .ok (.iload_n 3, 1) := by decide +kernel
theorem dX0_add_6 : decode cX0_add 6 = .ok (.bipush 6, 2) := by decide +kernel
theorem dX0_add_8 : decode cX0_add 8 = .ok (.if_icmp .lt 5, 3) := by decide +kernel
theorem dX0_add_11 : decode cX0_add 11 = .ok (.iconst (-1), 1) := by decide +kernel
theorem dX0_add_12 : decode cX0_add 12 = .ok (.ireturn, 1) := by decide +kernel
theorem dX0_add_13 : decode cX0_add 13 = .ok (.aload_n 0, 1) := by decide +kernel
theorem dX0_add_14 : decode cX0_add 14 = .ok (.getfield 9, 3) := by decide +kernel
theorem dX0_add_17 : decode cX0_add 17 = .ok (.iload_n 3, 1) := by decide +kernel
theorem dX0_add_18 : decode cX0_add 18 = .ok (.iload_n 1, 1) := by decide +kernel
theorem dX0_add_19 : decode cX0_add 19 = .ok (.bipush 10, 2) := by decide +kernel
theorem dX0_add_21 : decode cX0_add 21 = .ok (.idiv, 1) := by decide +kernel
theorem dX0_add_22 : decode cX0_add 22 = .ok (.iastore, 1) := by decide +kernel
theorem dX0_add_23 : decode cX0_add 23 = .ok (.aload_n 0, 1) := by decide +kernel
theorem dX0_add_24 : decode cX0_add 24 = .ok (.getfield 15, 3) := by decide +kernel
theorem dX0_add_27 : decode cX0_add 27 = .ok (.iload_n 3, 1) := by decide +kernel
theorem dX0_add_28 : decode cX0_add 28 = .ok (.iload_n 1, 1) := by decide +kernel
theorem dX0_add_29 : decode cX0_add 29 = .ok (.bipush 10, 2) := by decide +kernel
theorem dX0_add_31 : decode cX0_add 31 = .ok (.irem, 1) := by decide +kernel
theorem dX0_add_32 : decode cX0_add 32 = .ok (.iastore, 1) := by decide +kernel
theorem dX0_add_33 : decode cX0_add 33 = .ok (.aload_n 0, 1) := by decide +kernel
theorem dX0_add_34 : decode cX0_add 34 = .ok (.getfield 18, 3) := by decide +kernel
theorem dX0_add_37 : decode cX0_add 37 = .ok (.iload_n 3, 1) := by decide +kernel
theorem dX0_add_38 : decode cX0_add 38 = .ok (.iload_n 2, 1) := by decide +kernel
theorem dX0_add_39 : decode cX0_add 39 = .ok (.iastore, 1) := by decide +kernel
theorem dX0_add_40 : decode cX0_add 40 = .ok (.aload_n 0, 1) := by decide +kernel
theorem dX0_add_41 : decode cX0_add 41 = .ok (.getfield 21, 3) := by decide +kernel
theorem dX0_add_44 : decode cX0_add 44 = .ok (.iload_n 3, 1) := by decide +kernel
theorem dX0_add_45 : decode cX0_add 45 = .ok (.iconst 0, 1) := by decide +kernel
theorem dX0_add_46 : decode cX0_add 46 = .ok (.iastore, 1) := by decide +kernel
theorem dX0_add_47 : decode cX0_add 47 = .ok (.aload_n 0, 1) := by decide +kernel
theorem dX0_add_48 : decode cX0_add 48 = .ok (.dup, 1) := by decide +kernel
theorem dX0_add_49 : decode cX0_add 49 = .ok (.getfield 24, 3) := by decide +kernel
theorem dX0_add_52 : decode cX0_add 52 = .ok (.iconst 1, 1) := by decide +kernel
theorem dX0_add_53 : decode cX0_add 53 = .ok (.iadd, 1) := by decide +kernel
theorem dX0_add_54 : decode cX0_add 54 = .ok (.putfield 24, 3) := by decide +kernel
theorem dX0_add_57 : decode cX0_add 57 = .ok (.iload_n 3, 1) := by decide +kernel
theorem dX0_add_58 : decode cX0_add 58 = .ok (.ireturn, 1) := by decide +kernel
theorem dX0_allWeights_0 : decode cX0_allWeights 0 = .ok (.iconst 0, 1) := by decide +kernel
theorem dX0_allWeights_1 : decode cX0_allWeights 1 = .ok (.istore_n 1, 1) := by decide +kernel
theorem dX0_allWeights_2 : decode cX0_allWeights 2 = .ok (.iconst 0, 1) := by decide +kernel
theorem dX0_allWeights_3 : decode cX0_allWeights 3 = .ok (.istore_n 2, 1) := by decide +kernel
theorem dX0_allWeights_4 : decode cX0_allWeights 4 = .ok (.iload_n 2, 1) := by decide +kernel
theorem dX0_allWeights_5 : decode cX0_allWeights 5 = .ok (.aload_n 0, 1) := by decide +kernel
theorem dX0_allWeights_6 : decode cX0_allWeights 6 = .ok (.getfield 24, 3) := by decide +kernel
theorem dX0_allWeights_9 : decode cX0_allWeights 9 = .ok (.if_icmp .ge 18, 3) := by decide +kernel
theorem dX0_allWeights_12 : decode cX0_allWeights 12 = .ok (.iload_n 1, 1) := by decide +kernel
theorem dX0_allWeights_13 : decode cX0_allWeights 13 = .ok (.aload_n 0, 1) := by decide +kernel
theorem dX0_allWeights_14 : decode cX0_allWeights 14 = .ok (.getfield 18, 3) := by decide +kernel
theorem dX0_allWeights_17 : decode cX0_allWeights 17 = .ok (.iload_n 2, 1) := by decide +kernel
theorem dX0_allWeights_18 : decode cX0_allWeights 18 = .ok (.iaload, 1) := by decide +kernel
theorem dX0_allWeights_19 : decode cX0_allWeights 19 = .ok (.iadd, 1) := by decide +kernel
theorem dX0_allWeights_20 : decode cX0_allWeights 20 = .ok (.istore_n 1, 1) := by decide +kernel
theorem dX0_allWeights_21 : decode cX0_allWeights 21 = .ok (.iinc 2 1, 3) := by decide +kernel
theorem dX0_allWeights_24 : decode cX0_allWeights 24 = .ok (.goto (-20), 3) := by decide +kernel
theorem dX0_allWeights_27 : decode cX0_allWeights 27 = .ok (.iload_n 1, 1) := by decide +kernel
theorem dX0_allWeights_28 : decode cX0_allWeights 28 = .ok (.ireturn, 1) := by decide +kernel
theorem dX0_byWeight_0 : decode cX0_byWeight 0 = .ok (.iload_n 1, 1) := by decide +kernel
theorem dX0_byWeight_1 : decode cX0_byWeight 1 = .ok (.istore_n 2, 1) := by decide +kernel
theorem dX0_byWeight_2 : decode cX0_byWeight 2 = .ok (.iconst 0, 1) := by decide +kernel
theorem dX0_byWeight_3 : decode cX0_byWeight 3 = .ok (.istore_n 3, 1) := by decide +kernel
theorem dX0_byWeight_4 : decode cX0_byWeight 4 = .ok (.iload_n 3, 1) := by decide +kernel
theorem dX0_byWeight_5 : decode cX0_byWeight 5 = .ok (.aload_n 0, 1) := by decide +kernel
theorem dX0_byWeight_6 : decode cX0_byWeight 6 = .ok (.getfield 24, 3) := by decide +kernel
theorem dX0_byWeight_9 : decode cX0_byWeight 9 = .ok (.if_icmp .ge 30, 3) := by decide +kernel
theorem dX0_byWeight_12 : decode cX0_byWeight 12 = .ok (.iload_n 2, 1) := by decide +kernel
theorem dX0_byWeight_13 : decode cX0_byWeight 13 = .ok (.aload_n 0, 1) := by decide +kernel
theorem dX0_byWeight_14 : decode cX0_byWeight 14 = .ok (.getfield 18, 3) := by decide +kernel
theorem dX0_byWeight_17 : decode cX0_byWeight 17 = .ok (.iload_n 3, 1) := by decide +kernel
theorem dX0_byWeight_18 : decode cX0_byWeight 18 = .ok (.iaload, 1) := by decide +kernel
theorem dX0_byWeight_19 : decode cX0_byWeight 19 = .ok (.if_icmp .ge 5, 3) := by decide +kernel
theorem dX0_byWeight_22 : decode cX0_byWeight 22 = .ok (.iload_n 3, 1) := by decide +kernel
theorem dX0_byWeight_23 : decode cX0_byWeight 23 = .ok (.ireturn, 1) := by decide +kernel
theorem dX0_byWeight_24 : decode cX0_byWeight 24 = .ok (.iload_n 2, 1) := by decide +kernel
theorem dX0_byWeight_25 : decode cX0_byWeight 25 = .ok (.aload_n 0, 1) := by decide +kernel
theorem dX0_byWeight_26 : decode cX0_byWeight 26 = .ok (.getfield 18, 3) := by decide +kernel
theorem dX0_byWeight_29 : decode cX0_byWeight 29 = .ok (.iload_n 3, 1) := by decide +kernel
theorem dX0_byWeight_30 : decode cX0_byWeight 30 = .ok (.iaload, 1) := by decide +kernel
theorem dX0_byWeight_31 : decode cX0_byWeight 31 = .ok (.isub, 1) := by decide +kernel
theorem dX0_byWeight_32 : decode cX0_byWeight 32 = .ok (.istore_n 2, 1) := by decide +kernel
theorem dX0_byWeight_33 : decode cX0_byWeight 33 = .ok (.iinc 3 1, 3) := by decide +kernel
theorem dX0_byWeight_36 : decode cX0_byWeight 36 = .ok (.goto (-32), 3) := by decide +kernel
theorem dX0_byWeight_39 : decode cX0_byWeight 39 = .ok (.iconst 0, 1) := by decide +kernel
theorem dX0_byWeight_40 : decode cX0_byWeight 40 = .ok (.ireturn, 1) := by decide +kernel
theorem dX0_takes_0 : decode cX0_takes 0 = .ok (.aload_n 1, 1) := by decide +kernel
theorem dX0_takes_1 : decode cX0_takes 1 = .ok (.getfield 9, 3) := by decide +kernel
theorem dX0_takes_4 : decode cX0_takes 4 = .ok (.iconst 0, 1) := by decide +kernel
theorem dX0_takes_5 : decode cX0_takes 5 = .ok (.aload_n 0, 1) := by decide +kernel
theorem dX0_takes_6 : decode cX0_takes 6 = .ok (.getfield 9, 3) := by decide +kernel
theorem dX0_takes_9 : decode cX0_takes 9 = .ok (.iconst 0, 1) := by decide +kernel
theorem dX0_takes_10 : decode cX0_takes 10 = .ok (.bipush 6, 2) := by decide +kernel
theorem dX0_takes_12 : decode cX0_takes 12 = .ok (.invokestatic 28, 3) := by decide +kernel
theorem dX0_takes_15 : decode cX0_takes 15 = .ok (.aload_n 1, 1) := by decide +kernel
theorem dX0_takes_16 : decode cX0_takes 16 = .ok (.getfield 15, 3) := by decide +kernel
theorem dX0_takes_19 : decode cX0_takes 19 = .ok (.iconst 0, 1) := by decide +kernel
theorem dX0_takes_20 : decode cX0_takes 20 = .ok (.aload_n 0, 1) := by decide +kernel
theorem dX0_takes_21 : decode cX0_takes 21 = .ok (.getfield 15, 3) := by decide +kernel
theorem dX0_takes_24 : decode cX0_takes 24 = .ok (.iconst 0, 1) := by decide +kernel
theorem dX0_takes_25 : decode cX0_takes 25 = .ok (.bipush 6, 2) := by decide +kernel
theorem dX0_takes_27 : decode cX0_takes 27 = .ok (.invokestatic 28, 3) := by decide +kernel
theorem dX0_takes_30 : decode cX0_takes 30 = .ok (.aload_n 1, 1) := by decide +kernel
theorem dX0_takes_31 : decode cX0_takes 31 = .ok (.getfield 18, 3) := by decide +kernel
theorem dX0_takes_34 : decode cX0_takes 34 = .ok (.iconst 0, 1) := by decide +kernel
theorem dX0_takes_35 : decode cX0_takes 35 = .ok (.aload_n 0, 1) := by decide +kernel
theorem dX0_takes_36 : decode cX0_takes 36 = .ok (.getfield 18, 3) := by decide +kernel
theorem dX0_takes_39 : decode cX0_takes 39 = .ok (.iconst 0, 1) := by decide +kernel
theorem dX0_takes_40 : decode cX0_takes 40 = .ok (.bipush 6, 2) := by decide +kernel
theorem dX0_takes_42 : decode cX0_takes 42 = .ok (.invokestatic 28, 3) := by decide +kernel
theorem dX0_takes_45 : decode cX0_takes 45 = .ok (.aload_n 1, 1) := by decide +kernel
theorem dX0_takes_46 : decode cX0_takes 46 = .ok (.getfield 21, 3) := by decide +kernel
theorem dX0_takes_49 : decode cX0_takes 49 = .ok (.iconst 0, 1) := by decide +kernel
theorem dX0_takes_50 : decode cX0_takes 50 = .ok (.aload_n 0, 1) := by decide +kernel
theorem dX0_takes_51 : decode cX0_takes 51 = .ok (.getfield 21, 3) := by decide +kernel
theorem dX0_takes_54 : decode cX0_takes 54 = .ok (.iconst 0, 1) := by decide +kernel
theorem dX0_takes_55 : decode cX0_takes 55 = .ok (.bipush 6, 2) := by decide +kernel
theorem dX0_takes_57 : decode cX0_takes 57 = .ok (.invokestatic 28, 3) := by decide +kernel
theorem dX0_takes_60 : decode cX0_takes 60 = .ok (.aload_n 0, 1) := by decide +kernel
theorem dX0_takes_61 : decode cX0_takes 61 = .ok (.aload_n 1, 1) := by decide +kernel
theorem dX0_takes_62 : decode cX0_takes 62 = .ok (.getfield 24, 3) := by decide +kernel
theorem dX0_takes_65 : decode cX0_takes 65 = .ok (.putfield 24, 3) := by decide +kernel
theorem dX0_takes_68 : decode cX0_takes 68 = .ok (.return_, 1) := by decide +kernel
theorem dX1_init_0 : decode cX1_init 0 = .ok (.aload_n 0, 1) := by decide +kernel
theorem dX1_init_1 : decode cX1_init 1 = .ok (.invokespecial 3, 3) := by decide +kernel
theorem dX1_init_4 : decode cX1_init 4 = .ok (.aload_n 0, 1) := by decide +kernel
theorem dX1_init_5 : decode cX1_init 5 = .ok (.new 9, 3) := by decide +kernel
theorem dX1_init_8 : decode cX1_init 8 = .ok (.dup, 1) := by decide +kernel
theorem dX1_init_9 : decode cX1_init 9 = .ok (.invokespecial 11, 3) := by decide +kernel
theorem dX1_init_12 : decode cX1_init 12 = .ok (.putfield 12, 3) := by decide +kernel
theorem dX1_init_15 : decode cX1_init 15 = .ok (.aload_n 0, 1) := by decide +kernel
theorem dX1_init_16 : decode cX1_init 16 = .ok (.bipush 60, 2) := by decide +kernel
theorem dX1_init_18 : decode cX1_init 18 = .ok (.newarray .int, 2) := by decide +kernel
theorem dX1_init_20 : decode cX1_init 20 = .ok (.putfield 18, 3) := by decide +kernel
theorem dX1_init_23 : decode cX1_init 23 = .ok (.aload_n 0, 1) := by decide +kernel
theorem dX1_init_24 : decode cX1_init 24 = .ok (.iconst 0, 1) := by decide +kernel
theorem dX1_init_25 : decode cX1_init 25 = .ok (.putfield 22, 3) := by decide +kernel
theorem dX1_init_28 : decode cX1_init 28 = .ok (.aload_n 0, 1) := by decide +kernel
theorem dX1_init_29 : decode cX1_init 29 = .ok (.iconst 0, 1) := by decide +kernel
theorem dX1_init_30 : decode cX1_init 30 = .ok (.putfield 26, 3) := by decide +kernel
theorem dX1_init_33 : decode cX1_init 33 = .ok (.aload_n 0, 1) := by decide +kernel
theorem dX1_init_34 : decode cX1_init 34 = .ok (.iconst 0, 1) := by decide +kernel
theorem dX1_init_35 : decode cX1_init 35 = .ok (.putfield 29, 3) := by decide +kernel
theorem dX1_init_38 : decode cX1_init 38 = .ok (.aload_n 0, 1) := by decide +kernel
theorem dX1_init_39 : decode cX1_init 39 = .ok (.iconst 0, 1) := by decide +kernel
theorem dX1_init_40 : decode cX1_init 40 = .ok (.putfield 32, 3) := by decide +kernel
theorem dX1_init_43 : decode cX1_init 43 = .ok (.aload_n 0, 1) := by decide +kernel
theorem dX1_init_44 : decode cX1_init 44 = .ok (.iconst 1, 1) := by decide +kernel
theorem dX1_init_45 : decode cX1_init 45 = .ok (.putfield 35, 3) := by decide +kernel
theorem dX1_init_48 : decode cX1_init 48 = .ok (.return_, 1) := by decide +kernel
theorem dX1_faultOf_0 : decode cX1_faultOf 0 = .ok (.aload_n 0, 1) := by decide +kernel
theorem dX1_faultOf_1 : decode cX1_faultOf 1 = .ok (.getfield 12, 3) := by decide +kernel
theorem dX1_faultOf_4 : decode cX1_faultOf 4 = .ok (.iconst 0, 1) := by decide +kernel
theorem dX1_faultOf_5 : decode cX1_faultOf 5 = .ok (.putfield 39, 3) := by decide +kernel
theorem dX1_faultOf_8 : decode cX1_faultOf 8 = .ok (.aload_n 0, 1) := by decide +kernel
theorem dX1_faultOf_9 : decode cX1_faultOf 9 = .ok (.getfield 12, 3) := by decide +kernel
theorem dX1_faultOf_12 : decode cX1_faultOf 12 = .ok (.iconst 1, 1) := by decide +kernel
theorem dX1_faultOf_13 : decode cX1_faultOf 13 = .ok (.putfield 42, 3) := by decide +kernel
theorem dX1_faultOf_16 : decode cX1_faultOf 16 = .ok (.aload_n 0, 1) := by decide +kernel
theorem dX1_faultOf_17 : decode cX1_faultOf 17 = .ok (.iconst 0, 1) := by decide +kernel
theorem dX1_faultOf_18 : decode cX1_faultOf 18 = .ok (.putfield 22, 3) := by decide +kernel
theorem dX1_faultOf_21 : decode cX1_faultOf 21 = .ok (.aload_n 0, 1) := by decide +kernel
theorem dX1_faultOf_22 : decode cX1_faultOf 22 = .ok (.iconst 0, 1) := by decide +kernel
theorem dX1_faultOf_23 : decode cX1_faultOf 23 = .ok (.putfield 26, 3) := by decide +kernel
theorem dX1_faultOf_26 : decode cX1_faultOf 26 = .ok (.aload_n 0, 1) := by decide +kernel
theorem dX1_faultOf_27 : decode cX1_faultOf 27 = .ok (.iconst 0, 1) := by decide +kernel
theorem dX1_faultOf_28 : decode cX1_faultOf 28 = .ok (.putfield 29, 3) := by decide +kernel
theorem dX1_faultOf_31 : decode cX1_faultOf 31 = .ok (.aload_n 0, 1) := by decide +kernel
theorem dX1_faultOf_32 : decode cX1_faultOf 32 = .ok (.iconst 0, 1) := by decide +kernel
theorem dX1_faultOf_33 : decode cX1_faultOf 33 = .ok (.putfield 32, 3) := by decide +kernel
theorem dX1_faultOf_36 : decode cX1_faultOf 36 = .ok (.aload_n 0, 1) := by decide +kernel
theorem dX1_faultOf_37 : decode cX1_faultOf 37 = .ok (.iconst 1, 1) := by decide +kernel
theorem dX1_faultOf_38 : decode cX1_faultOf 38 = .ok (.putfield 35, 3) := by decide +kernel
theorem dX1_faultOf_41 : decode cX1_faultOf 41 = .ok (.iconst 0, 1) := by decide +kernel
theorem dX1_faultOf_42 : decode cX1_faultOf 42 = .ok (.istore 4, 2) := by decide +kernel
theorem dX1_faultOf_44 : decode cX1_faultOf 44 = .ok (.iload 4, 2) := by decide +kernel
theorem dX1_faultOf_46 : decode cX1_faultOf 46 = .ok (.iload_n 2, 1) := by decide +kernel
theorem dX1_faultOf_47 : decode cX1_faultOf 47 = .ok (.if_icmp .ge 55, 3) := by decide +kernel
theorem dX1_faultOf_50 : decode cX1_faultOf 50 = .ok (.iload 4, 2) := by decide +kernel
theorem dX1_faultOf_52 : decode cX1_faultOf 52 = .ok (.aload_n 1, 1) := by decide +kernel
theorem dX1_faultOf_53 : decode cX1_faultOf 53 = .ok (.arraylength, 1) := by decide +kernel
theorem dX1_faultOf_54 : decode cX1_faultOf 54 = .ok (.if_icmp .ge 48, 3) := by decide +kernel
theorem dX1_faultOf_57 : decode cX1_faultOf 57 = .ok (.aload_n 1, 1) := by decide +kernel
theorem dX1_faultOf_58 : decode cX1_faultOf 58 = .ok (.iload 4, 2) := by decide +kernel
theorem dX1_faultOf_60 : decode cX1_faultOf 60 = .ok (.baload, 1) := by decide +kernel
theorem dX1_faultOf_61 : decode cX1_faultOf 61 = .ok (.istore 5, 2) := by decide +kernel
theorem dX1_faultOf_63 : decode cX1_faultOf 63 = .ok (.aload_n 0, 1) := by decide +kernel
theorem dX1_faultOf_64 : decode cX1_faultOf 64 = .ok (.getfield 35, 3) := by decide +kernel
theorem dX1_faultOf_67 : decode cX1_faultOf 67 = .ok (.ifCond .eq 13, 3) := by decide +kernel
theorem dX1_faultOf_70 : decode cX1_faultOf 70 = .ok (.aload_n 0, 1) := by decide +kernel
theorem dX1_faultOf_71 : decode cX1_faultOf 71 = .ok (.iload 5, 2) := by decide +kernel
theorem dX1_faultOf_73 : decode cX1_faultOf 73 = .ok (.iload_n 3, 1) := by decide +kernel
theorem dX1_faultOf_74 : decode cX1_faultOf 74 = .ok (.invokevirtual 45, 3) := by decide +kernel
theorem dX1_faultOf_77 : decode cX1_faultOf 77 = .ok (.goto 9, 3) := by decide +kernel
theorem dX1_faultOf_80 : decode cX1_faultOf 80 = .ok (.aload_n 0, 1) := by decide +kernel
theorem dX1_faultOf_81 : decode cX1_faultOf 81 = .ok (.iload 5, 2) := by decide +kernel
theorem dX1_faultOf_83 : decode cX1_faultOf 83 = .ok (.invokevirtual 49, 3) := by decide +kernel
theorem dX1_faultOf_86 : decode cX1_faultOf 86 = .ok (.istore 6, 2) := by decide +kernel
theorem dX1_faultOf_88 : decode cX1_faultOf 88 = .ok (.iload 6, 2) := by decide +kernel
theorem dX1_faultOf_90 : decode cX1_faultOf 90 = .ok (.ifCond .ne 6, 3) := by decide +kernel
theorem dX1_faultOf_93 : decode cX1_faultOf 93 = .ok (.iload 4, 2) := by decide +kernel
theorem dX1_faultOf_95 : decode cX1_faultOf 95 = .ok (.ireturn, 1) := by decide +kernel
theorem dX1_faultOf_96 : decode cX1_faultOf 96 = .ok (.iinc 4 1, 3) := by decide +kernel
theorem dX1_faultOf_99 : decode cX1_faultOf 99 = .ok (.goto (-55), 3) := by decide +kernel
theorem dX1_faultOf_102 : decode cX1_faultOf 102 = .ok (.aload_n 0, 1) := by decide +kernel
theorem dX1_faultOf_103 : decode cX1_faultOf 103 = .ok (.getfield 35, 3) := by decide +kernel
theorem dX1_faultOf_106 : decode cX1_faultOf 106 = .ok (.ifCond .ne 10, 3) := by decide +kernel
theorem dX1_faultOf_109 : decode cX1_faultOf 109 = .ok (.aload_n 0, 1) := by decide +kernel
theorem dX1_faultOf_110 : decode cX1_faultOf 110 = .ok (.getfield 29, 3) := by decide +kernel
theorem dX1_faultOf_113 : decode cX1_faultOf 113 = .ok (.ifCond .le 5, 3) := by decide +kernel
theorem dX1_faultOf_116 : decode cX1_faultOf 116 = .ok (.iload_n 2, 1) := by decide +kernel
theorem dX1_faultOf_117 : decode cX1_faultOf 117 = .ok (.ireturn, 1) := by decide +kernel
theorem dX1_faultOf_118 : decode cX1_faultOf 118 = .ok (.aload_n 0, 1) := by decide +kernel
theorem dX1_faultOf_119 : decode cX1_faultOf 119 = .ok (.iconst 1, 1) := by decide +kernel
theorem dX1_faultOf_120 : decode cX1_faultOf 120 = .ok (.invokevirtual 53, 3) := by decide +kernel
theorem dX1_faultOf_123 : decode cX1_faultOf 123 = .ok (.iconst (-1), 1) := by decide +kernel
theorem dX1_faultOf_124 : decode cX1_faultOf 124 = .ok (.ireturn, 1) := by decide +kernel
theorem dX1_begins_0 : decode cX1_begins 0 = .ok (.iload_n 1, 1) := by decide +kernel
theorem dX1_begins_1 : decode cX1_begins 1 = .ok (.bipush 33, 2) := by decide +kernel
theorem dX1_begins_3 : decode cX1_begins 3 = .ok (.if_icmp .eq 9, 3) := by decide +kernel
theorem dX1_begins_6 : decode cX1_begins 6 = .ok (.iload_n 1, 1) := by decide +kernel
theorem dX1_begins_7 : decode cX1_begins 7 = .ok (.bipush 40, 2) := by decide +kernel
theorem dX1_begins_9 : decode cX1_begins 9 = .ok (.if_icmp .ne 50, 3) := by decide +kernel
theorem dX1_begins_12 : decode cX1_begins 12 = .ok (.aload_n 0, 1) := by decide +kernel
theorem dX1_begins_13 : decode cX1_begins 13 = .ok (.getfield 26, 3) := by decide +kernel
theorem dX1_begins_16 : decode cX1_begins 16 = .ok (.iconst 5, 1) := by decide +kernel
theorem dX1_begins_17 : decode cX1_begins 17 = .ok (.if_icmp .lt 5, 3) := by decide +kernel
theorem dX1_begins_20 : decode cX1_begins 20 = .ok (.iconst 0, 1) := by decide +kernel
theorem dX1_begins_21 : decode cX1_begins 21 = .ok (.ireturn, 1) := by decide +kernel
theorem dX1_begins_22 : decode cX1_begins 22 = .ok (.aload_n 0, 1) := by decide +kernel
theorem dX1_begins_23 : decode cX1_begins 23 = .ok (.dup, 1) := by decide +kernel
theorem dX1_begins_24 : decode cX1_begins 24 = .ok (.getfield 26, 3) := by decide +kernel
theorem dX1_begins_27 : decode cX1_begins 27 = .ok (.iconst 1, 1) := by decide +kernel
theorem dX1_begins_28 : decode cX1_begins 28 = .ok (.iadd, 1) := by decide +kernel
theorem dX1_begins_29 : decode cX1_begins 29 = .ok (.putfield 26, 3) := by decide +kernel
theorem dX1_begins_32 : decode cX1_begins 32 = .ok (.aload_n 0, 1) := by decide +kernel
theorem dX1_begins_33 : decode cX1_begins 33 = .ok (.dup, 1) := by decide +kernel
theorem dX1_begins_34 : decode cX1_begins 34 = .ok (.getfield 29, 3) := by decide +kernel
theorem dX1_begins_37 : decode cX1_begins 37 = .ok (.iload_n 1, 1) := by decide +kernel
theorem dX1_begins_38 : decode cX1_begins 38 = .ok (.bipush 40, 2) := by decide +kernel
theorem dX1_begins_40 : decode cX1_begins 40 = .ok (.if_icmp .ne 7, 3) := by decide +kernel
theorem dX1_begins_43 : decode cX1_begins 43 = .ok (.iconst 1, 1) := by decide +kernel
theorem dX1_begins_44 : decode cX1_begins 44 = .ok (.goto 4, 3) := by decide +kernel
theorem dX1_begins_47 : decode cX1_begins 47 = .ok (.iconst 0, 1) := by decide +kernel
theorem dX1_begins_48 : decode cX1_begins 48 = .ok (.iadd, 1) := by decide +kernel
theorem dX1_begins_49 : decode cX1_begins 49 = .ok (.putfield 29, 3) := by decide +kernel
theorem dX1_begins_52 : decode cX1_begins 52 = .ok (.aload_n 0, 1) := by decide +kernel
theorem dX1_begins_53 : decode cX1_begins 53 = .ok (.iload_n 1, 1) := by decide +kernel
theorem dX1_begins_54 : decode cX1_begins 54 = .ok (.invokevirtual 57, 3) := by decide +kernel
theorem dX1_begins_57 : decode cX1_begins 57 = .ok (.iconst 1, 1) := by decide +kernel
theorem dX1_begins_58 : decode cX1_begins 58 = .ok (.ireturn, 1) := by decide +kernel
theorem dX1_begins_59 : decode cX1_begins 59 = .ok (.iload_n 1, 1) := by decide +kernel
theorem dX1_begins_60 : decode cX1_begins 60 = .ok (.invokestatic 60, 3) := by decide +kernel
theorem dX1_begins_63 : decode cX1_begins 63 = .ok (.ifCond .eq 26, 3) := by decide +kernel
theorem dX1_begins_66 : decode cX1_begins 66 = .ok (.aload_n 0, 1) := by decide +kernel
theorem dX1_begins_67 : decode cX1_begins 67 = .ok (.getfield 12, 3) := by decide +kernel
theorem dX1_begins_70 : decode cX1_begins 70 = .ok (.iload_n 1, 1) := by decide +kernel
theorem dX1_begins_71 : decode cX1_begins 71 = .ok (.bipush 48, 2) := by decide +kernel
theorem dX1_begins_73 : decode cX1_begins 73 = .ok (.isub, 1) := by decide +kernel
theorem dX1_begins_74 : decode cX1_begins 74 = .ok (.invokevirtual 63, 3) := by decide +kernel
theorem dX1_begins_77 : decode cX1_begins 77 = .ok (.aload_n 0, 1) := by decide +kernel
theorem dX1_begins_78 : decode cX1_begins 78 = .ok (.iconst 1, 1) := by decide +kernel
theorem dX1_begins_79 : decode cX1_begins 79 = .ok (.putfield 32, 3) := by decide +kernel
theorem dX1_begins_82 : decode cX1_begins 82 = .ok (.aload_n 0, 1) := by decide +kernel
theorem dX1_begins_83 : decode cX1_begins 83 = .ok (.iconst 0, 1) := by decide +kernel
theorem dX1_begins_84 : decode cX1_begins 84 = .ok (.putfield 35, 3) := by decide +kernel
theorem dX1_begins_87 : decode cX1_begins 87 = .ok (.iconst 1, 1) := by decide +kernel
theorem dX1_begins_88 : decode cX1_begins 88 = .ok (.ireturn, 1) := by decide +kernel
theorem dX1_begins_89 : decode cX1_begins 89 = .ok (.iconst 0, 1) := by decide +kernel
theorem dX1_begins_90 : decode cX1_begins 90 = .ok (.istore_n 3, 1) := by decide +kernel
theorem dX1_begins_91 : decode cX1_begins 91 = .ok (.iload_n 3, 1) := by decide +kernel
theorem dX1_begins_92 : decode cX1_begins 92 = .ok (.iconst 3, 1) := by decide +kernel
theorem dX1_begins_93 : decode cX1_begins 93 = .ok (.if_icmp .ge 44, 3) := by decide +kernel
theorem dX1_begins_96 : decode cX1_begins 96 = .ok (.iload_n 1, 1) := by decide +kernel
theorem dX1_begins_97 : decode cX1_begins 97 = .ok (.getstatic 66, 3) := by decide +kernel
theorem dX1_begins_100 : decode cX1_begins 100 = .ok (.iload_n 2, 1) := by decide +kernel
theorem dX1_begins_101 : decode cX1_begins 101 = .ok (.iconst 3, 1) := by decide +kernel
theorem dX1_begins_102 : decode cX1_begins 102 = .ok (.imul, 1) := by decide +kernel
theorem dX1_begins_103 : decode cX1_begins 103 = .ok (.iload_n 3, 1) := by decide +kernel
theorem dX1_begins_104 : decode cX1_begins 104 = .ok (.iadd, 1) := by decide +kernel
theorem dX1_begins_105 : decode cX1_begins 105 = .ok (.caload, 1) := by decide +kernel
theorem dX1_begins_106 : decode cX1_begins 106 = .ok (.if_icmp .ne 25, 3) := by decide +kernel
theorem dX1_begins_109 : decode cX1_begins 109 = .ok (.aload_n 0, 1) := by decide +kernel
theorem dX1_begins_110 : decode cX1_begins 110 = .ok (.getfield 12, 3) := by decide +kernel
theorem dX1_begins_113 : decode cX1_begins 113 = .ok (.iconst (-1), 1) := by decide +kernel
theorem dX1_begins_114 : decode cX1_begins 114 = .ok (.iload_n 3, 1) := by decide +kernel
theorem dX1_begins_115 : decode cX1_begins 115 = .ok (.isub, 1) := by decide +kernel
theorem dX1_begins_116 : decode cX1_begins 116 = .ok (.invokevirtual 63, 3) := by decide +kernel
theorem dX1_begins_119 : decode cX1_begins 119 = .ok (.aload_n 0, 1) := by decide +kernel
theorem dX1_begins_120 : decode cX1_begins 120 = .ok (.iconst 0, 1) := by decide +kernel
theorem dX1_begins_121 : decode cX1_begins 121 = .ok (.putfield 32, 3) := by decide +kernel
theorem dX1_begins_124 : decode cX1_begins 124 = .ok (.aload_n 0, 1) := by decide +kernel
theorem dX1_begins_125 : decode cX1_begins 125 = .ok (.iconst 0, 1) := by decide +kernel
theorem dX1_begins_126 : decode cX1_begins 126 = .ok (.putfield 35, 3) := by decide +kernel
theorem dX1_begins_129 : decode cX1_begins 129 = .ok (.iconst 1, 1) := by decide +kernel
theorem dX1_begins_130 : decode cX1_begins 130 = .ok (.ireturn, 1) := by decide +kernel
theorem dX1_begins_131 : decode cX1_begins 131 = .ok (.iinc 3 1, 3) := by decide +kernel
theorem dX1_begins_134 : decode cX1_begins 134 = .ok (.goto (-43), 3) := by decide +kernel
theorem dX1_begins_137 : decode cX1_begins 137 = .ok (.iconst 0, 1) := by decide +kernel
theorem dX1_begins_138 : decode cX1_begins 138 = .ok (.ireturn, 1) := by decide +kernel
theorem dX1_continues_0 : decode cX1_continues 0 = .ok (.iload_n 1, 1) := by decide +kernel
theorem dX1_continues_1 : decode cX1_continues 1 = .ok (.invokestatic 60, 3) := by decide +kernel
theorem dX1_continues_4 : decode cX1_continues 4 = .ok (.ifCond .eq 12, 3) := by decide +kernel
theorem dX1_continues_7 : decode cX1_continues 7 = .ok (.aload_n 0, 1) := by decide +kernel
theorem dX1_continues_8 : decode cX1_continues 8 = .ok (.iload_n 1, 1) := by decide +kernel
theorem dX1_continues_9 : decode cX1_continues 9 = .ok (.bipush 48, 2) := by decide +kernel
theorem dX1_continues_11 : decode cX1_continues 11 = .ok (.isub, 1) := by decide +kernel
theorem dX1_continues_12 : decode cX1_continues 12 = .ok (.invokevirtual 70, 3) := by decide +kernel
theorem dX1_continues_15 : decode cX1_continues 15 = .ok (.ireturn, 1) := by decide +kernel
theorem dX1_continues_16 : decode cX1_continues 16 = .ok (.aload_n 0, 1) := by decide +kernel
theorem dX1_continues_17 : decode cX1_continues 17 = .ok (.iconst 0, 1) := by decide +kernel
theorem dX1_continues_18 : decode cX1_continues 18 = .ok (.putfield 32, 3) := by decide +kernel
theorem dX1_continues_21 : decode cX1_continues 21 = .ok (.iload_n 1, 1) := by decide +kernel
theorem dX1_continues_22 : decode cX1_continues 22 = .ok (.bipush 41, 2) := by decide +kernel
theorem dX1_continues_24 : decode cX1_continues 24 = .ok (.if_icmp .ne 8, 3) := by decide +kernel
theorem dX1_continues_27 : decode cX1_continues 27 = .ok (.aload_n 0, 1) := by decide +kernel
theorem dX1_continues_28 : decode cX1_continues 28 = .ok (.invokevirtual 73, 3) := by decide +kernel
theorem dX1_continues_31 : decode cX1_continues 31 = .ok (.ireturn, 1) := by decide +kernel
theorem dX1_continues_32 : decode cX1_continues 32 = .ok (.iload_n 1, 1) := by decide +kernel
theorem dX1_continues_33 : decode cX1_continues 33 = .ok (.invokestatic 77, 3) := by decide +kernel
theorem dX1_continues_36 : decode cX1_continues 36 = .ok (.istore_n 2, 1) := by decide +kernel
theorem dX1_continues_37 : decode cX1_continues 37 = .ok (.iload_n 2, 1) := by decide +kernel
theorem dX1_continues_38 : decode cX1_continues 38 = .ok (.ifCond .eq 9, 3) := by decide +kernel
theorem dX1_continues_41 : decode cX1_continues 41 = .ok (.iload_n 2, 1) := by decide +kernel
theorem dX1_continues_42 : decode cX1_continues 42 = .ok (.bipush 6, 2) := by decide +kernel
theorem dX1_continues_44 : decode cX1_continues 44 = .ok (.if_icmp .ne 5, 3) := by decide +kernel
theorem dX1_continues_47 : decode cX1_continues 47 = .ok (.iconst 0, 1) := by decide +kernel
theorem dX1_continues_48 : decode cX1_continues 48 = .ok (.ireturn, 1) := by decide +kernel
theorem dX1_continues_49 : decode cX1_continues 49 = .ok (.aload_n 0, 1) := by decide +kernel
theorem dX1_continues_50 : decode cX1_continues 50 = .ok (.iload_n 2, 1) := by decide +kernel
theorem dX1_continues_51 : decode cX1_continues 51 = .ok (.iconst 3, 1) := by decide +kernel
theorem dX1_continues_52 : decode cX1_continues 52 = .ok (.if_icmp .ne 9, 3) := by decide +kernel
theorem dX1_continues_55 : decode cX1_continues 55 = .ok (.iload_n 2, 1) := by decide +kernel
theorem dX1_continues_56 : decode cX1_continues 56 = .ok (.iconst 1, 1) := by decide +kernel
theorem dX1_continues_57 : decode cX1_continues 57 = .ok (.iadd, 1) := by decide +kernel
theorem dX1_continues_58 : decode cX1_continues 58 = .ok (.goto 4, 3) := by decide +kernel
theorem dX1_continues_61 : decode cX1_continues 61 = .ok (.iload_n 2, 1) := by decide +kernel
theorem dX1_continues_62 : decode cX1_continues 62 = .ok (.invokevirtual 53, 3) := by decide +kernel
theorem dX1_continues_65 : decode cX1_continues 65 = .ok (.iload_n 2, 1) := by decide +kernel
theorem dX1_continues_66 : decode cX1_continues 66 = .ok (.iconst 3, 1) := by decide +kernel
theorem dX1_continues_67 : decode cX1_continues 67 = .ok (.if_icmp .ne 30, 3) := by decide +kernel
theorem dX1_continues_70 : decode cX1_continues 70 = .ok (.aload_n 0, 1) := by decide +kernel
theorem dX1_continues_71 : decode cX1_continues 71 = .ok (.getfield 22, 3) := by decide +kernel
theorem dX1_continues_74 : decode cX1_continues 74 = .ok (.ifCond .le 23, 3) := by decide +kernel
theorem dX1_continues_77 : decode cX1_continues 77 = .ok (.aload_n 0, 1) := by decide +kernel
theorem dX1_continues_78 : decode cX1_continues 78 = .ok (.getfield 18, 3) := by decide +kernel
theorem dX1_continues_81 : decode cX1_continues 81 = .ok (.aload_n 0, 1) := by decide +kernel
theorem dX1_continues_82 : decode cX1_continues 82 = .ok (.getfield 22, 3) := by decide +kernel
theorem dX1_continues_85 : decode cX1_continues 85 = .ok (.iconst 1, 1) := by decide +kernel
theorem dX1_continues_86 : decode cX1_continues 86 = .ok (.isub, 1) := by decide +kernel
theorem dX1_continues_87 : decode cX1_continues 87 = .ok (.iaload, 1) := by decide +kernel
theorem dX1_continues_88 : decode cX1_continues 88 = .ok (.invokestatic 77, 3) := by decide +kernel
theorem dX1_continues_91 : decode cX1_continues 91 = .ok (.iconst 3, 1) := by decide +kernel
theorem dX1_continues_92 : decode cX1_continues 92 = .ok (.if_icmp .ne 5, 3) := by decide +kernel
theorem dX1_continues_95 : decode cX1_continues 95 = .ok (.iconst 0, 1) := by decide +kernel
theorem dX1_continues_96 : decode cX1_continues 96 = .ok (.ireturn, 1) := by decide +kernel
theorem dX1_continues_97 : decode cX1_continues 97 = .ok (.aload_n 0, 1) := by decide +kernel
theorem dX1_continues_98 : decode cX1_continues 98 = .ok (.iload_n 1, 1) := by decide +kernel
theorem dX1_continues_99 : decode cX1_continues 99 = .ok (.invokevirtual 57, 3) := by decide +kernel
theorem dX1_continues_102 : decode cX1_continues 102 = .ok (.aload_n 0, 1) := by decide +kernel
theorem dX1_continues_103 : decode cX1_continues 103 = .ok (.iconst 1, 1) := by decide +kernel
theorem dX1_continues_104 : decode cX1_continues 104 = .ok (.putfield 35, 3) := by decide +kernel
theorem dX1_continues_107 : decode cX1_continues 107 = .ok (.iconst 1, 1) := by decide +kernel
theorem dX1_continues_108 : decode cX1_continues 108 = .ok (.ireturn, 1) := by decide +kernel
theorem dX1_lengthens_0 : decode cX1_lengthens 0 = .ok (.aload_n 0, 1) := by decide +kernel
theorem dX1_lengthens_1 : decode cX1_lengthens 1 = .ok (.getfield 12, 3) := by decide +kernel
theorem dX1_lengthens_4 : decode cX1_lengthens 4 = .ok (.getfield 39, 3) := by decide +kernel
theorem dX1_lengthens_7 : decode cX1_lengthens 7 = .ok (.iconst 1, 1) := by decide +kernel
theorem dX1_lengthens_8 : decode cX1_lengthens 8 = .ok (.isub, 1) := by decide +kernel
theorem dX1_lengthens_9 : decode cX1_lengthens 9 = .ok (.istore_n 2, 1) := by decide +kernel
theorem dX1_lengthens_10 : decode cX1_lengthens 10 = .ok (.aload_n 0, 1) := by decide +kernel
theorem dX1_lengthens_11 : decode cX1_lengthens 11 = .ok (.getfield 32, 3) := by decide +kernel
theorem dX1_lengthens_14 : decode cX1_lengthens 14 = .ok (.iconst 1, 1) := by decide +kernel
theorem dX1_lengthens_15 : decode cX1_lengthens 15 = .ok (.if_icmp .lt 15, 3) := by decide +kernel
theorem dX1_lengthens_18 : decode cX1_lengthens 18 = .ok (.aload_n 0, 1) := by decide +kernel
theorem dX1_lengthens_19 : decode cX1_lengthens 19 = .ok (.getfield 32, 3) := by decide +kernel
theorem dX1_lengthens_22 : decode cX1_lengthens 22 = .ok (.iconst 4, 1) := by decide +kernel
theorem dX1_lengthens_23 : decode cX1_lengthens 23 = .ok (.if_icmp .ge 7, 3) := by decide +kernel
theorem dX1_lengthens_26 : decode cX1_lengthens 26 = .ok (.iload_n 2, 1) := by decide +kernel
theorem dX1_lengthens_27 : decode cX1_lengthens 27 = .ok (.ifCond .ge 5, 3) := by decide +kernel
theorem dX1_lengthens_30 : decode cX1_lengthens 30 = .ok (.iconst 0, 1) := by decide +kernel
theorem dX1_lengthens_31 : decode cX1_lengthens 31 = .ok (.ireturn, 1) := by decide +kernel
theorem dX1_lengthens_32 : decode cX1_lengthens 32 = .ok (.aload_n 0, 1) := by decide +kernel
theorem dX1_lengthens_33 : decode cX1_lengthens 33 = .ok (.getfield 12, 3) := by decide +kernel
theorem dX1_lengthens_36 : decode cX1_lengthens 36 = .ok (.getfield 81, 3) := by decide +kernel
theorem dX1_lengthens_39 : decode cX1_lengthens 39 = .ok (.iload_n 2, 1) := by decide +kernel
theorem dX1_lengthens_40 : decode cX1_lengthens 40 = .ok (.aload_n 0, 1) := by decide +kernel
theorem dX1_lengthens_41 : decode cX1_lengthens 41 = .ok (.getfield 12, 3) := by decide +kernel
theorem dX1_lengthens_44 : decode cX1_lengthens 44 = .ok (.getfield 81, 3) := by decide +kernel
theorem dX1_lengthens_47 : decode cX1_lengthens 47 = .ok (.iload_n 2, 1) := by decide +kernel
theorem dX1_lengthens_48 : decode cX1_lengthens 48 = .ok (.iaload, 1) := by decide +kernel
theorem dX1_lengthens_49 : decode cX1_lengthens 49 = .ok (.bipush 10, 2) := by decide +kernel
theorem dX1_lengthens_51 : decode cX1_lengthens 51 = .ok (.imul, 1) := by decide +kernel
theorem dX1_lengthens_52 : decode cX1_lengthens 52 = .ok (.iload_n 1, 1) := by decide +kernel
theorem dX1_lengthens_53 : decode cX1_lengthens 53 = .ok (.iadd, 1) := by decide +kernel
theorem dX1_lengthens_54 : decode cX1_lengthens 54 = .ok (.iastore, 1) := by decide +kernel
theorem dX1_lengthens_55 : decode cX1_lengthens 55 = .ok (.aload_n 0, 1) := by decide +kernel
theorem dX1_lengthens_56 : decode cX1_lengthens 56 = .ok (.dup, 1) := by decide +kernel
theorem dX1_lengthens_57 : decode cX1_lengthens 57 = .ok (.getfield 32, 3) := by decide +kernel
theorem dX1_lengthens_60 : decode cX1_lengthens 60 = .ok (.iconst 1, 1) := by decide +kernel
theorem dX1_lengthens_61 : decode cX1_lengthens 61 = .ok (.iadd, 1) := by decide +kernel
theorem dX1_lengthens_62 : decode cX1_lengthens 62 = .ok (.putfield 32, 3) := by decide +kernel
theorem dX1_lengthens_65 : decode cX1_lengthens 65 = .ok (.iconst 1, 1) := by decide +kernel
theorem dX1_lengthens_66 : decode cX1_lengthens 66 = .ok (.ireturn, 1) := by decide +kernel
theorem dX1_closes_0 : decode cX1_closes 0 = .ok (.aload_n 0, 1) := by decide +kernel
theorem dX1_closes_1 : decode cX1_closes 1 = .ok (.getfield 29, 3) := by decide +kernel
theorem dX1_closes_4 : decode cX1_closes 4 = .ok (.ifCond .ne 5, 3) := by decide +kernel
theorem dX1_closes_7 : decode cX1_closes 7 = .ok (.iconst 0, 1) := by decide +kernel
theorem dX1_closes_8 : decode cX1_closes 8 = .ok (.ireturn, 1) := by decide +kernel
theorem dX1_closes_9 : decode cX1_closes 9 = .ok (.aload_n 0, 1) := by decide +kernel
theorem dX1_closes_10 : decode cX1_closes 10 = .ok (.iconst 1, 1) := by decide +kernel
theorem dX1_closes_11 : decode cX1_closes 11 = .ok (.invokevirtual 53, 3) := by decide +kernel
theorem dX1_closes_14 : decode cX1_closes 14 = .ok (.aload_n 0, 1) := by decide +kernel
theorem dX1_closes_15 : decode cX1_closes 15 = .ok (.getfield 22, 3) := by decide +kernel
theorem dX1_closes_18 : decode cX1_closes 18 = .ok (.ifCond .le 13, 3) := by decide +kernel
theorem dX1_closes_21 : decode cX1_closes 21 = .ok (.aload_n 0, 1) := by decide +kernel
theorem dX1_closes_22 : decode cX1_closes 22 = .ok (.dup, 1) := by decide +kernel
theorem dX1_closes_23 : decode cX1_closes 23 = .ok (.getfield 22, 3) := by decide +kernel
theorem dX1_closes_26 : decode cX1_closes 26 = .ok (.iconst 1, 1) := by decide +kernel
theorem dX1_closes_27 : decode cX1_closes 27 = .ok (.isub, 1) := by decide +kernel
theorem dX1_closes_28 : decode cX1_closes 28 = .ok (.putfield 22, 3) := by decide +kernel
theorem dX1_closes_31 : decode cX1_closes 31 = .ok (.aload_n 0, 1) := by decide +kernel
theorem dX1_closes_32 : decode cX1_closes 32 = .ok (.dup, 1) := by decide +kernel
theorem dX1_closes_33 : decode cX1_closes 33 = .ok (.getfield 26, 3) := by decide +kernel
theorem dX1_closes_36 : decode cX1_closes 36 = .ok (.iconst 1, 1) := by decide +kernel
theorem dX1_closes_37 : decode cX1_closes 37 = .ok (.isub, 1) := by decide +kernel
theorem dX1_closes_38 : decode cX1_closes 38 = .ok (.putfield 26, 3) := by decide +kernel
theorem dX1_closes_41 : decode cX1_closes 41 = .ok (.aload_n 0, 1) := by decide +kernel
theorem dX1_closes_42 : decode cX1_closes 42 = .ok (.dup, 1) := by decide +kernel
theorem dX1_closes_43 : decode cX1_closes 43 = .ok (.getfield 29, 3) := by decide +kernel
theorem dX1_closes_46 : decode cX1_closes 46 = .ok (.iconst 1, 1) := by decide +kernel
theorem dX1_closes_47 : decode cX1_closes 47 = .ok (.isub, 1) := by decide +kernel
theorem dX1_closes_48 : decode cX1_closes 48 = .ok (.putfield 29, 3) := by decide +kernel
theorem dX1_closes_51 : decode cX1_closes 51 = .ok (.iconst 1, 1) := by decide +kernel
theorem dX1_closes_52 : decode cX1_closes 52 = .ok (.ireturn, 1) := by decide +kernel
theorem dX1_settle_0 : decode cX1_settle 0 = .ok (.aload_n 0, 1) := by decide +kernel
theorem dX1_settle_1 : decode cX1_settle 1 = .ok (.getfield 22, 3) := by decide +kernel
theorem dX1_settle_4 : decode cX1_settle 4 = .ok (.ifCond .le 75, 3) := by decide +kernel
theorem dX1_settle_7 : decode cX1_settle 7 = .ok (.aload_n 0, 1) := by decide +kernel
theorem dX1_settle_8 : decode cX1_settle 8 = .ok (.getfield 18, 3) := by decide +kernel
theorem dX1_settle_11 : decode cX1_settle 11 = .ok (.aload_n 0, 1) := by decide +kernel
theorem dX1_settle_12 : decode cX1_settle 12 = .ok (.getfield 22, 3) := by decide +kernel
theorem dX1_settle_15 : decode cX1_settle 15 = .ok (.iconst 1, 1) := by decide +kernel
theorem dX1_settle_16 : decode cX1_settle 16 = .ok (.isub, 1) := by decide +kernel
theorem dX1_settle_17 : decode cX1_settle 17 = .ok (.iaload, 1) := by decide +kernel
theorem dX1_settle_18 : decode cX1_settle 18 = .ok (.invokestatic 77, 3) := by decide +kernel
theorem dX1_settle_21 : decode cX1_settle 21 = .ok (.iload_n 1, 1) := by decide +kernel
theorem dX1_settle_22 : decode cX1_settle 22 = .ok (.if_icmp .lt 57, 3) := by decide +kernel
theorem dX1_settle_25 : decode cX1_settle 25 = .ok (.aload_n 0, 1) := by decide +kernel
theorem dX1_settle_26 : decode cX1_settle 26 = .ok (.dup, 1) := by decide +kernel
theorem dX1_settle_27 : decode cX1_settle 27 = .ok (.getfield 22, 3) := by decide +kernel
theorem dX1_settle_30 : decode cX1_settle 30 = .ok (.iconst 1, 1) := by decide +kernel
theorem dX1_settle_31 : decode cX1_settle 31 = .ok (.isub, 1) := by decide +kernel
theorem dX1_settle_32 : decode cX1_settle 32 = .ok (.putfield 22, 3) := by decide +kernel
theorem dX1_settle_35 : decode cX1_settle 35 = .ok (.aload_n 0, 1) := by decide +kernel
theorem dX1_settle_36 : decode cX1_settle 36 = .ok (.getfield 12, 3) := by decide +kernel
theorem dX1_settle_39 : decode cX1_settle 39 = .ok (.aload_n 0, 1) := by decide +kernel
theorem dX1_settle_40 : decode cX1_settle 40 = .ok (.getfield 18, 3) := by decide +kernel
theorem dX1_settle_43 : decode cX1_settle 43 = .ok (.aload_n 0, 1) := by decide +kernel
theorem dX1_settle_44 : decode cX1_settle 44 = .ok (.getfield 22, 3) := by decide +kernel
theorem dX1_settle_47 : decode cX1_settle 47 = .ok (.iaload, 1) := by decide +kernel
theorem dX1_settle_48 : decode cX1_settle 48 = .ok (.ineg, 1) := by decide +kernel
theorem dX1_settle_49 : decode cX1_settle 49 = .ok (.invokevirtual 63, 3) := by decide +kernel
theorem dX1_settle_52 : decode cX1_settle 52 = .ok (.aload_n 0, 1) := by decide +kernel
theorem dX1_settle_53 : decode cX1_settle 53 = .ok (.getfield 18, 3) := by decide +kernel
theorem dX1_settle_56 : decode cX1_settle 56 = .ok (.aload_n 0, 1) := by decide +kernel
theorem dX1_settle_57 : decode cX1_settle 57 = .ok (.getfield 22, 3) := by decide +kernel
theorem dX1_settle_60 : decode cX1_settle 60 = .ok (.iaload, 1) := by decide +kernel
theorem dX1_settle_61 : decode cX1_settle 61 = .ok (.bipush 33, 2) := by decide +kernel
theorem dX1_settle_63 : decode cX1_settle 63 = .ok (.if_icmp .ne (-63), 3) := by decide +kernel
theorem dX1_settle_66 : decode cX1_settle 66 = .ok (.aload_n 0, 1) := by decide +kernel
theorem dX1_settle_67 : decode cX1_settle 67 = .ok (.dup, 1) := by decide +kernel
theorem dX1_settle_68 : decode cX1_settle 68 = .ok (.getfield 26, 3) := by decide +kernel
theorem dX1_settle_71 : decode cX1_settle 71 = .ok (.iconst 1, 1) := by decide +kernel
theorem dX1_settle_72 : decode cX1_settle 72 = .ok (.isub, 1) := by decide +kernel
theorem dX1_settle_73 : decode cX1_settle 73 = .ok (.putfield 26, 3) := by decide +kernel
theorem dX1_settle_76 : decode cX1_settle 76 = .ok (.goto (-76), 3) := by decide +kernel
theorem dX1_settle_79 : decode cX1_settle 79 = .ok (.return_, 1) := by decide +kernel
theorem dX1_park_0 : decode cX1_park 0 = .ok (.aload_n 0, 1) := by decide +kernel
theorem dX1_park_1 : decode cX1_park 1 = .ok (.getfield 22, 3) := by decide +kernel
theorem dX1_park_4 : decode cX1_park 4 = .ok (.bipush 60, 2) := by decide +kernel
theorem dX1_park_6 : decode cX1_park 6 = .ok (.if_icmp .ge 23, 3) := by decide +kernel
theorem dX1_park_9 : decode cX1_park 9 = .ok (.aload_n 0, 1) := by decide +kernel
theorem dX1_park_10 : decode cX1_park 10 = .ok (.getfield 18, 3) := by decide +kernel
theorem dX1_park_13 : decode cX1_park 13 = .ok (.aload_n 0, 1) := by decide +kernel
theorem dX1_park_14 : decode cX1_park 14 = .ok (.getfield 22, 3) := by decide +kernel
theorem dX1_park_17 : decode cX1_park 17 = .ok (.iload_n 1, 1) := by decide +kernel
theorem dX1_park_18 : decode cX1_park 18 = .ok (.iastore, 1) := by decide +kernel
theorem dX1_park_19 : decode cX1_park 19 = .ok (.aload_n 0, 1) := by decide +kernel
theorem dX1_park_20 : decode cX1_park 20 = .ok (.dup, 1) := by decide +kernel
theorem dX1_park_21 : decode cX1_park 21 = .ok (.getfield 22, 3) := by decide +kernel
theorem dX1_park_24 : decode cX1_park 24 = .ok (.iconst 1, 1) := by decide +kernel
theorem dX1_park_25 : decode cX1_park 25 = .ok (.iadd, 1) := by decide +kernel
theorem dX1_park_26 : decode cX1_park 26 = .ok (.putfield 22, 3) := by decide +kernel
theorem dX1_park_29 : decode cX1_park 29 = .ok (.return_, 1) := by decide +kernel
theorem dX1_isNumeral_0 : decode cX1_isNumeral 0 = .ok (.iload_n 0, 1) := by decide +kernel
theorem dX1_isNumeral_1 : decode cX1_isNumeral 1 = .ok (.bipush 48, 2) := by decide +kernel
theorem dX1_isNumeral_3 : decode cX1_isNumeral 3 = .ok (.if_icmp .lt 13, 3) := by decide +kernel
theorem dX1_isNumeral_6 : decode cX1_isNumeral 6 = .ok (.iload_n 0, 1) := by decide +kernel
theorem dX1_isNumeral_7 : decode cX1_isNumeral 7 = .ok (.bipush 57, 2) := by decide +kernel
theorem dX1_isNumeral_9 : decode cX1_isNumeral 9 = .ok (.if_icmp .gt 7, 3) := by decide +kernel
theorem dX1_isNumeral_12 : decode cX1_isNumeral 12 = .ok (.iconst 1, 1) := by decide +kernel
theorem dX1_isNumeral_13 : decode cX1_isNumeral 13 = .ok (.goto 4, 3) := by decide +kernel
theorem dX1_isNumeral_16 : decode cX1_isNumeral 16 = .ok (.iconst 0, 1) := by decide +kernel
theorem dX1_isNumeral_17 : decode cX1_isNumeral 17 = .ok (.ireturn, 1) := by decide +kernel
theorem dX1_rankOf_0 : decode cX1_rankOf 0 = .ok (.iload_n 0, 1) := by decide +kernel
theorem dX1_rankOf_1 : decode cX1_rankOf 1 = .ok (.lookupswitch 122 #[(33, 119), (37, 117), (38, 101), (42, 113), (43, 109), (45, 111), (47, 115), (60, 103), (61, 105), (62, 107), (124, 99)], 99) := by decide +kernel
theorem dX1_rankOf_100 : decode cX1_rankOf 100 = .ok (.iconst 1, 1) := by decide +kernel
theorem dX1_rankOf_101 : decode cX1_rankOf 101 = .ok (.ireturn, 1) := by decide +kernel
theorem dX1_rankOf_102 : decode cX1_rankOf 102 = .ok (.iconst 2, 1) := by decide +kernel
theorem dX1_rankOf_103 : decode cX1_rankOf 103 = .ok (.ireturn, 1) := by decide +kernel
theorem dX1_rankOf_104 : decode cX1_rankOf 104 = .ok (.iconst 3, 1) := by decide +kernel
theorem dX1_rankOf_105 : decode cX1_rankOf 105 = .ok (.ireturn, 1) := by decide +kernel
theorem dX1_rankOf_106 : decode cX1_rankOf 106 = .ok (.iconst 3, 1) := by decide +kernel
theorem dX1_rankOf_107 : decode cX1_rankOf 107 = .ok (.ireturn, 1) := by decide +kernel
theorem dX1_rankOf_108 : decode cX1_rankOf 108 = .ok (.iconst 3, 1) := by decide +kernel
theorem dX1_rankOf_109 : decode cX1_rankOf 109 = .ok (.ireturn, 1) := by decide +kernel
theorem dX1_rankOf_110 : decode cX1_rankOf 110 = .ok (.iconst 4, 1) := by decide +kernel
theorem dX1_rankOf_111 : decode cX1_rankOf 111 = .ok (.ireturn, 1) := by decide +kernel
theorem dX1_rankOf_112 : decode cX1_rankOf 112 = .ok (.iconst 4, 1) := by decide +kernel
theorem dX1_rankOf_113 : decode cX1_rankOf 113 = .ok (.ireturn, 1) := by decide +kernel
theorem dX1_rankOf_114 : decode cX1_rankOf 114 = .ok (.iconst 5, 1) := by decide +kernel
theorem dX1_rankOf_115 : decode cX1_rankOf 115 = .ok (.ireturn, 1) := by decide +kernel
theorem dX1_rankOf_116 : decode cX1_rankOf 116 = .ok (.iconst 5, 1) := by decide +kernel
theorem dX1_rankOf_117 : decode cX1_rankOf 117 = .ok (.ireturn, 1) := by decide +kernel
theorem dX1_rankOf_118 : decode cX1_rankOf 118 = .ok (.iconst 5, 1) := by decide +kernel
theorem dX1_rankOf_119 : decode cX1_rankOf 119 = .ok (.ireturn, 1) := by decide +kernel
theorem dX1_rankOf_120 : decode cX1_rankOf 120 = .ok (.bipush 6, 2) := by decide +kernel
theorem dX1_rankOf_122 : decode cX1_rankOf 122 = .ok (.ireturn, 1) := by decide +kernel
theorem dX1_rankOf_123 : decode cX1_rankOf 123 = .ok (.iconst 0, 1) := by decide +kernel
theorem dX1_rankOf_124 : decode cX1_rankOf 124 = .ok (.ireturn, 1) := by decide +kernel
theorem dX2_init_0 : decode cX2_init 0 = .ok (.aload_n 0, 1) := by decide +kernel
theorem dX2_init_1 : decode cX2_init 1 = .ok (.invokespecial 3, 3) := by decide +kernel
theorem dX2_init_4 : decode cX2_init 4 = .ok (.aload_n 0, 1) := by decide +kernel
theorem dX2_init_5 : decode cX2_init 5 = .ok (.iconst 5, 1) := by decide +kernel
theorem dX2_init_6 : decode cX2_init 6 = .ok (.newarray .int, 2) := by decide +kernel
theorem dX2_init_8 : decode cX2_init 8 = .ok (.putfield 9, 3) := by decide +kernel
theorem dX2_init_11 : decode cX2_init 11 = .ok (.aload_n 0, 1) := by decide +kernel
theorem dX2_init_12 : decode cX2_init 12 = .ok (.iconst 5, 1) := by decide +kernel
theorem dX2_init_13 : decode cX2_init 13 = .ok (.newarray .int, 2) := by decide +kernel
theorem dX2_init_15 : decode cX2_init 15 = .ok (.putfield 15, 3) := by decide +kernel
theorem dX2_init_18 : decode cX2_init 18 = .ok (.aload_n 0, 1) := by decide +kernel
theorem dX2_init_19 : decode cX2_init 19 = .ok (.iconst 5, 1) := by decide +kernel
theorem dX2_init_20 : decode cX2_init 20 = .ok (.newarray .int, 2) := by decide +kernel
theorem dX2_init_22 : decode cX2_init 22 = .ok (.putfield 18, 3) := by decide +kernel
theorem dX2_init_25 : decode cX2_init 25 = .ok (.aload_n 0, 1) := by decide +kernel
theorem dX2_init_26 : decode cX2_init 26 = .ok (.iconst 5, 1) := by decide +kernel
theorem dX2_init_27 : decode cX2_init 27 = .ok (.newarray .int, 2) := by decide +kernel
theorem dX2_init_29 : decode cX2_init 29 = .ok (.putfield 21, 3) := by decide +kernel
theorem dX2_init_32 : decode cX2_init 32 = .ok (.aload_n 0, 1) := by decide +kernel
theorem dX2_init_33 : decode cX2_init 33 = .ok (.iconst 5, 1) := by decide +kernel
theorem dX2_init_34 : decode cX2_init 34 = .ok (.newarray .int, 2) := by decide +kernel
theorem dX2_init_36 : decode cX2_init 36 = .ok (.putfield 24, 3) := by decide +kernel
theorem dX2_init_39 : decode cX2_init 39 = .ok (.aload_n 0, 1) := by decide +kernel
theorem dX2_init_40 : decode cX2_init 40 = .ok (.iconst 0, 1) := by decide +kernel
theorem dX2_init_41 : decode cX2_init 41 = .ok (.putfield 27, 3) := by decide +kernel
theorem dX2_init_44 : decode cX2_init 44 = .ok (.return_, 1) := by decide +kernel
theorem dX2_add_0 : decode cX2_add 0 = .ok (.aload_n 0, 1) := by decide +kernel
theorem dX2_add_1 : decode cX2_add 1 = .ok (.getfield 27, 3) := by decide +kernel
theorem dX2_add_4 : decode cX2_add 4 = .ok (.istore_n 3, 1) := by decide +kernel
theorem dX2_add_5 : decode cX2_add 5 = .ok (.iload_n 3, 1) := by decide +kernel
theorem dX2_add_6 : decode cX2_add 6 = .ok (.iconst 5, 1) := by decide +kernel
theorem dX2_add_7 : decode cX2_add 7 = .ok (.if_icmp .lt 5, 3) := by decide +kernel
theorem dX2_add_10 : decode cX2_add 10 = .ok (.iconst (-1), 1) := by decide +kernel
theorem dX2_add_11 : decode cX2_add 11 = .ok (.ireturn, 1) := by decide +kernel
theorem dX2_add_12 : decode cX2_add 12 = .ok (.aload_n 0, 1) := by decide +kernel
theorem dX2_add_13 : decode cX2_add 13 = .ok (.getfield 9, 3) := by decide +kernel
theorem dX2_add_16 : decode cX2_add 16 = .ok (.iload_n 3, 1) := by decide +kernel
theorem dX2_add_17 : decode cX2_add 17 = .ok (.iload_n 1, 1) := by decide +kernel
theorem dX2_add_18 : decode cX2_add 18 = .ok (.iastore, 1) := by decide +kernel
theorem dX2_add_19 : decode cX2_add 19 = .ok (.aload_n 0, 1) := by decide +kernel
theorem dX2_add_20 : decode cX2_add 20 = .ok (.getfield 15, 3) := by decide +kernel
theorem dX2_add_23 : decode cX2_add 23 = .ok (.iload_n 3, 1) := by decide +kernel
theorem dX2_add_24 : decode cX2_add 24 = .ok (.iload_n 2, 1) := by decide +kernel
theorem dX2_add_25 : decode cX2_add 25 = .ok (.iastore, 1) := by decide +kernel
theorem dX2_add_26 : decode cX2_add 26 = .ok (.aload_n 0, 1) := by decide +kernel
theorem dX2_add_27 : decode cX2_add 27 = .ok (.getfield 18, 3) := by decide +kernel
theorem dX2_add_30 : decode cX2_add 30 = .ok (.iload_n 3, 1) := by decide +kernel
theorem dX2_add_31 : decode cX2_add 31 = .ok (.iconst 0, 1) := by decide +kernel
theorem dX2_add_32 : decode cX2_add 32 = .ok (.iastore, 1) := by decide +kernel
theorem dX2_add_33 : decode cX2_add 33 = .ok (.aload_n 0, 1) := by decide +kernel
theorem dX2_add_34 : decode cX2_add 34 = .ok (.getfield 21, 3) := by decide +kernel
theorem dX2_add_37 : decode cX2_add 37 = .ok (.iload_n 3, 1) := by decide +kernel
theorem dX2_add_38 : decode cX2_add 38 = .ok (.iconst 0, 1) := by decide +kernel
theorem dX2_add_39 : decode cX2_add 39 = .ok (.iastore, 1) := by decide +kernel
theorem dX2_add_40 : decode cX2_add 40 = .ok (.aload_n 0, 1) := by decide +kernel
theorem dX2_add_41 : decode cX2_add 41 = .ok (.getfield 24, 3) := by decide +kernel
theorem dX2_add_44 : decode cX2_add 44 = .ok (.iload_n 3, 1) := by decide +kernel
theorem dX2_add_45 : decode cX2_add 45 = .ok (.iconst 0, 1) := by decide +kernel
theorem dX2_add_46 : decode cX2_add 46 = .ok (.iastore, 1) := by decide +kernel
theorem dX2_add_47 : decode cX2_add 47 = .ok (.aload_n 0, 1) := by decide +kernel
theorem dX2_add_48 : decode cX2_add 48 = .ok (.dup, 1) := by decide +kernel
theorem dX2_add_49 : decode cX2_add 49 = .ok (.getfield 27, 3) := by decide +kernel
theorem dX2_add_52 : decode cX2_add 52 = .ok (.iconst 1, 1) := by decide +kernel
theorem dX2_add_53 : decode cX2_add 53 = .ok (.iadd, 1) := by decide +kernel
theorem dX2_add_54 : decode cX2_add 54 = .ok (.putfield 27, 3) := by decide +kernel
theorem dX2_add_57 : decode cX2_add 57 = .ok (.iload_n 3, 1) := by decide +kernel
theorem dX2_add_58 : decode cX2_add 58 = .ok (.ireturn, 1) := by decide +kernel
theorem dX2_runFrom_0 : decode cX2_runFrom 0 = .ok (.aload_n 0, 1) := by decide +kernel
theorem dX2_runFrom_1 : decode cX2_runFrom 1 = .ok (.getfield 9, 3) := by decide +kernel
theorem dX2_runFrom_4 : decode cX2_runFrom 4 = .ok (.iload_n 1, 1) := by decide +kernel
theorem dX2_runFrom_5 : decode cX2_runFrom 5 = .ok (.iaload, 1) := by decide +kernel
theorem dX2_runFrom_6 : decode cX2_runFrom 6 = .ok (.aload_n 0, 1) := by decide +kernel
theorem dX2_runFrom_7 : decode cX2_runFrom 7 = .ok (.getfield 15, 3) := by decide +kernel
theorem dX2_runFrom_10 : decode cX2_runFrom 10 = .ok (.iload_n 1, 1) := by decide +kernel
theorem dX2_runFrom_11 : decode cX2_runFrom 11 = .ok (.iaload, 1) := by decide +kernel
theorem dX2_runFrom_12 : decode cX2_runFrom 12 = .ok (.bipush 90, 2) := by decide +kernel
theorem dX2_runFrom_14 : decode cX2_runFrom 14 = .ok (.iload_n 2, 1) := by decide +kernel
theorem dX2_runFrom_15 : decode cX2_runFrom 15 = .ok (.isub, 1) := by decide +kernel
theorem dX2_runFrom_16 : decode cX2_runFrom 16 = .ok (.imul, 1) := by decide +kernel
theorem dX2_runFrom_17 : decode cX2_runFrom 17 = .ok (.bipush 10, 2) := by decide +kernel
theorem dX2_runFrom_19 : decode cX2_runFrom 19 = .ok (.idiv, 1) := by decide +kernel
theorem dX2_runFrom_20 : decode cX2_runFrom 20 = .ok (.iadd, 1) := by decide +kernel
theorem dX2_runFrom_21 : decode cX2_runFrom 21 = .ok (.ireturn, 1) := by decide +kernel
theorem dX2_backFrom_0 : decode cX2_backFrom 0 = .ok (.aload_n 0, 1) := by decide +kernel
theorem dX2_backFrom_1 : decode cX2_backFrom 1 = .ok (.getfield 9, 3) := by decide +kernel
theorem dX2_backFrom_4 : decode cX2_backFrom 4 = .ok (.iload_n 1, 1) := by decide +kernel
theorem dX2_backFrom_5 : decode cX2_backFrom 5 = .ok (.iaload, 1) := by decide +kernel
theorem dX2_backFrom_6 : decode cX2_backFrom 6 = .ok (.aload_n 0, 1) := by decide +kernel
theorem dX2_backFrom_7 : decode cX2_backFrom 7 = .ok (.getfield 15, 3) := by decide +kernel
theorem dX2_backFrom_10 : decode cX2_backFrom 10 = .ok (.iload_n 1, 1) := by decide +kernel
theorem dX2_backFrom_11 : decode cX2_backFrom 11 = .ok (.iaload, 1) := by decide +kernel
theorem dX2_backFrom_12 : decode cX2_backFrom 12 = .ok (.iload_n 2, 1) := by decide +kernel
theorem dX2_backFrom_13 : decode cX2_backFrom 13 = .ok (.imul, 1) := by decide +kernel
theorem dX2_backFrom_14 : decode cX2_backFrom 14 = .ok (.bipush 10, 2) := by decide +kernel
theorem dX2_backFrom_16 : decode cX2_backFrom 16 = .ok (.idiv, 1) := by decide +kernel
theorem dX2_backFrom_17 : decode cX2_backFrom 17 = .ok (.iadd, 1) := by decide +kernel
theorem dX2_backFrom_18 : decode cX2_backFrom 18 = .ok (.ireturn, 1) := by decide +kernel
theorem dX2_takes_0 : decode cX2_takes 0 = .ok (.aload_n 1, 1) := by decide +kernel
theorem dX2_takes_1 : decode cX2_takes 1 = .ok (.getfield 9, 3) := by decide +kernel
theorem dX2_takes_4 : decode cX2_takes 4 = .ok (.iconst 0, 1) := by decide +kernel
theorem dX2_takes_5 : decode cX2_takes 5 = .ok (.aload_n 0, 1) := by decide +kernel
theorem dX2_takes_6 : decode cX2_takes 6 = .ok (.getfield 9, 3) := by decide +kernel
theorem dX2_takes_9 : decode cX2_takes 9 = .ok (.iconst 0, 1) := by decide +kernel
theorem dX2_takes_10 : decode cX2_takes 10 = .ok (.iconst 5, 1) := by decide +kernel
theorem dX2_takes_11 : decode cX2_takes 11 = .ok (.invokestatic 31, 3) := by decide +kernel
theorem dX2_takes_14 : decode cX2_takes 14 = .ok (.aload_n 1, 1) := by decide +kernel
theorem dX2_takes_15 : decode cX2_takes 15 = .ok (.getfield 15, 3) := by decide +kernel
theorem dX2_takes_18 : decode cX2_takes 18 = .ok (.iconst 0, 1) := by decide +kernel
theorem dX2_takes_19 : decode cX2_takes 19 = .ok (.aload_n 0, 1) := by decide +kernel
theorem dX2_takes_20 : decode cX2_takes 20 = .ok (.getfield 15, 3) := by decide +kernel
theorem dX2_takes_23 : decode cX2_takes 23 = .ok (.iconst 0, 1) := by decide +kernel
theorem dX2_takes_24 : decode cX2_takes 24 = .ok (.iconst 5, 1) := by decide +kernel
theorem dX2_takes_25 : decode cX2_takes 25 = .ok (.invokestatic 31, 3) := by decide +kernel
theorem dX2_takes_28 : decode cX2_takes 28 = .ok (.aload_n 1, 1) := by decide +kernel
theorem dX2_takes_29 : decode cX2_takes 29 = .ok (.getfield 18, 3) := by decide +kernel
theorem dX2_takes_32 : decode cX2_takes 32 = .ok (.iconst 0, 1) := by decide +kernel
theorem dX2_takes_33 : decode cX2_takes 33 = .ok (.aload_n 0, 1) := by decide +kernel
theorem dX2_takes_34 : decode cX2_takes 34 = .ok (.getfield 18, 3) := by decide +kernel
theorem dX2_takes_37 : decode cX2_takes 37 = .ok (.iconst 0, 1) := by decide +kernel
theorem dX2_takes_38 : decode cX2_takes 38 = .ok (.iconst 5, 1) := by decide +kernel
theorem dX2_takes_39 : decode cX2_takes 39 = .ok (.invokestatic 31, 3) := by decide +kernel
theorem dX2_takes_42 : decode cX2_takes 42 = .ok (.aload_n 1, 1) := by decide +kernel
theorem dX2_takes_43 : decode cX2_takes 43 = .ok (.getfield 21, 3) := by decide +kernel
theorem dX2_takes_46 : decode cX2_takes 46 = .ok (.iconst 0, 1) := by decide +kernel
theorem dX2_takes_47 : decode cX2_takes 47 = .ok (.aload_n 0, 1) := by decide +kernel
theorem dX2_takes_48 : decode cX2_takes 48 = .ok (.getfield 21, 3) := by decide +kernel
theorem dX2_takes_51 : decode cX2_takes 51 = .ok (.iconst 0, 1) := by decide +kernel
theorem dX2_takes_52 : decode cX2_takes 52 = .ok (.iconst 5, 1) := by decide +kernel
theorem dX2_takes_53 : decode cX2_takes 53 = .ok (.invokestatic 31, 3) := by decide +kernel
theorem dX2_takes_56 : decode cX2_takes 56 = .ok (.aload_n 1, 1) := by decide +kernel
theorem dX2_takes_57 : decode cX2_takes 57 = .ok (.getfield 24, 3) := by decide +kernel
theorem dX2_takes_60 : decode cX2_takes 60 = .ok (.iconst 0, 1) := by decide +kernel
theorem dX2_takes_61 : decode cX2_takes 61 = .ok (.aload_n 0, 1) := by decide +kernel
theorem dX2_takes_62 : decode cX2_takes 62 = .ok (.getfield 24, 3) := by decide +kernel
theorem dX2_takes_65 : decode cX2_takes 65 = .ok (.iconst 0, 1) := by decide +kernel
theorem dX2_takes_66 : decode cX2_takes 66 = .ok (.iconst 5, 1) := by decide +kernel
theorem dX2_takes_67 : decode cX2_takes 67 = .ok (.invokestatic 31, 3) := by decide +kernel
theorem dX2_takes_70 : decode cX2_takes 70 = .ok (.aload_n 0, 1) := by decide +kernel
theorem dX2_takes_71 : decode cX2_takes 71 = .ok (.aload_n 1, 1) := by decide +kernel
theorem dX2_takes_72 : decode cX2_takes 72 = .ok (.getfield 27, 3) := by decide +kernel
theorem dX2_takes_75 : decode cX2_takes 75 = .ok (.putfield 27, 3) := by decide +kernel
theorem dX2_takes_78 : decode cX2_takes 78 = .ok (.return_, 1) := by decide +kernel
theorem dX3_init_0 : decode cX3_init 0 = .ok (.aload_n 0, 1) := by decide +kernel
theorem dX3_init_1 : decode cX3_init 1 = .ok (.invokespecial 3, 3) := by decide +kernel
theorem dX3_init_4 : decode cX3_init 4 = .ok (.aload_n 0, 1) := by decide +kernel
theorem dX3_init_5 : decode cX3_init 5 = .ok (.new 9, 3) := by decide +kernel
theorem dX3_init_8 : decode cX3_init 8 = .ok (.dup, 1) := by decide +kernel
theorem dX3_init_9 : decode cX3_init 9 = .ok (.invokespecial 11, 3) := by decide +kernel
theorem dX3_init_12 : decode cX3_init 12 = .ok (.putfield 12, 3) := by decide +kernel
theorem dX3_init_15 : decode cX3_init 15 = .ok (.aload_n 0, 1) := by decide +kernel
theorem dX3_init_16 : decode cX3_init 16 = .ok (.new 18, 3) := by decide +kernel
theorem dX3_init_19 : decode cX3_init 19 = .ok (.dup, 1) := by decide +kernel
theorem dX3_init_20 : decode cX3_init 20 = .ok (.invokespecial 20, 3) := by decide +kernel
theorem dX3_init_23 : decode cX3_init 23 = .ok (.putfield 21, 3) := by decide +kernel
theorem dX3_init_26 : decode cX3_init 26 = .ok (.aload_n 0, 1) := by decide +kernel
theorem dX3_init_27 : decode cX3_init 27 = .ok (.new 25, 3) := by decide +kernel
theorem dX3_init_30 : decode cX3_init 30 = .ok (.dup, 1) := by decide +kernel
theorem dX3_init_31 : decode cX3_init 31 = .ok (.invokespecial 27, 3) := by decide +kernel
theorem dX3_init_34 : decode cX3_init 34 = .ok (.putfield 28, 3) := by decide +kernel
theorem dX3_init_37 : decode cX3_init 37 = .ok (.aload_n 0, 1) := by decide +kernel
theorem dX3_init_38 : decode cX3_init 38 = .ok (.new 25, 3) := by decide +kernel
theorem dX3_init_41 : decode cX3_init 41 = .ok (.dup, 1) := by decide +kernel
theorem dX3_init_42 : decode cX3_init 42 = .ok (.invokespecial 27, 3) := by decide +kernel
theorem dX3_init_45 : decode cX3_init 45 = .ok (.putfield 32, 3) := by decide +kernel
theorem dX3_init_48 : decode cX3_init 48 = .ok (.aload_n 0, 1) := by decide +kernel
theorem dX3_init_49 : decode cX3_init 49 = .ok (.bipush 60, 2) := by decide +kernel
theorem dX3_init_51 : decode cX3_init 51 = .ok (.newarray .byte, 2) := by decide +kernel
theorem dX3_init_53 : decode cX3_init 53 = .ok (.putfield 35, 3) := by decide +kernel
theorem dX3_init_56 : decode cX3_init 56 = .ok (.aload_n 0, 1) := by decide +kernel
theorem dX3_init_57 : decode cX3_init 57 = .ok (.iconst 0, 1) := by decide +kernel
theorem dX3_init_58 : decode cX3_init 58 = .ok (.putfield 39, 3) := by decide +kernel
theorem dX3_init_61 : decode cX3_init 61 = .ok (.aload_n 0, 1) := by decide +kernel
theorem dX3_init_62 : decode cX3_init 62 = .ok (.bipush 24, 2) := by decide +kernel
theorem dX3_init_64 : decode cX3_init 64 = .ok (.newarray .int, 2) := by decide +kernel
theorem dX3_init_66 : decode cX3_init 66 = .ok (.putfield 43, 3) := by decide +kernel
theorem dX3_init_69 : decode cX3_init 69 = .ok (.aload_n 0, 1) := by decide +kernel
theorem dX3_init_70 : decode cX3_init 70 = .ok (.iconst 0, 1) := by decide +kernel
theorem dX3_init_71 : decode cX3_init 71 = .ok (.putfield 47, 3) := by decide +kernel
theorem dX3_init_74 : decode cX3_init 74 = .ok (.aload_n 0, 1) := by decide +kernel
theorem dX3_init_75 : decode cX3_init 75 = .ok (.bipush 100, 2) := by decide +kernel
theorem dX3_init_77 : decode cX3_init 77 = .ok (.putfield 50, 3) := by decide +kernel
theorem dX3_init_80 : decode cX3_init 80 = .ok (.aload_n 0, 1) := by decide +kernel
theorem dX3_init_81 : decode cX3_init 81 = .ok (.sipush 130, 3) := by decide +kernel
theorem dX3_init_84 : decode cX3_init 84 = .ok (.putfield 53, 3) := by decide +kernel
theorem dX3_init_87 : decode cX3_init 87 = .ok (.aload_n 0, 1) := by decide +kernel
theorem dX3_init_88 : decode cX3_init 88 = .ok (.iconst 0, 1) := by decide +kernel
theorem dX3_init_89 : decode cX3_init 89 = .ok (.putfield 56, 3) := by decide +kernel
theorem dX3_init_92 : decode cX3_init 92 = .ok (.aload_n 0, 1) := by decide +kernel
theorem dX3_init_93 : decode cX3_init 93 = .ok (.iconst 0, 1) := by decide +kernel
theorem dX3_init_94 : decode cX3_init 94 = .ok (.putfield 59, 3) := by decide +kernel
theorem dX3_init_97 : decode cX3_init 97 = .ok (.aload_n 0, 1) := by decide +kernel
theorem dX3_init_98 : decode cX3_init 98 = .ok (.iconst 0, 1) := by decide +kernel
theorem dX3_init_99 : decode cX3_init 99 = .ok (.putfield 62, 3) := by decide +kernel
theorem dX3_init_102 : decode cX3_init 102 = .ok (.aload_n 0, 1) := by decide +kernel
theorem dX3_init_103 : decode cX3_init 103 = .ok (.iconst 0, 1) := by decide +kernel
theorem dX3_init_104 : decode cX3_init 104 = .ok (.putfield 65, 3) := by decide +kernel
theorem dX3_init_107 : decode cX3_init 107 = .ok (.aload_n 0, 1) := by decide +kernel
theorem dX3_init_108 : decode cX3_init 108 = .ok (.iconst 1, 1) := by decide +kernel
theorem dX3_init_109 : decode cX3_init 109 = .ok (.putfield 68, 3) := by decide +kernel
theorem dX3_init_112 : decode cX3_init 112 = .ok (.return_, 1) := by decide +kernel
theorem dX3_takes_0 : decode cX3_takes 0 = .ok (.aload_n 0, 1) := by decide +kernel
theorem dX3_takes_1 : decode cX3_takes 1 = .ok (.getfield 12, 3) := by decide +kernel
theorem dX3_takes_4 : decode cX3_takes 4 = .ok (.aload_n 1, 1) := by decide +kernel
theorem dX3_takes_5 : decode cX3_takes 5 = .ok (.getfield 12, 3) := by decide +kernel
theorem dX3_takes_8 : decode cX3_takes 8 = .ok (.invokevirtual 71, 3) := by decide +kernel
theorem dX3_takes_11 : decode cX3_takes 11 = .ok (.aload_n 0, 1) := by decide +kernel
theorem dX3_takes_12 : decode cX3_takes 12 = .ok (.getfield 21, 3) := by decide +kernel
theorem dX3_takes_15 : decode cX3_takes 15 = .ok (.aload_n 1, 1) := by decide +kernel
theorem dX3_takes_16 : decode cX3_takes 16 = .ok (.getfield 21, 3) := by decide +kernel
theorem dX3_takes_19 : decode cX3_takes 19 = .ok (.invokevirtual 75, 3) := by decide +kernel
theorem dX3_takes_22 : decode cX3_takes 22 = .ok (.aload_n 0, 1) := by decide +kernel
theorem dX3_takes_23 : decode cX3_takes 23 = .ok (.getfield 28, 3) := by decide +kernel
theorem dX3_takes_26 : decode cX3_takes 26 = .ok (.aload_n 1, 1) := by decide +kernel
theorem dX3_takes_27 : decode cX3_takes 27 = .ok (.getfield 28, 3) := by decide +kernel
theorem dX3_takes_30 : decode cX3_takes 30 = .ok (.invokevirtual 78, 3) := by decide +kernel
theorem dX3_takes_33 : decode cX3_takes 33 = .ok (.aload_n 0, 1) := by decide +kernel
theorem dX3_takes_34 : decode cX3_takes 34 = .ok (.getfield 32, 3) := by decide +kernel
theorem dX3_takes_37 : decode cX3_takes 37 = .ok (.aload_n 1, 1) := by decide +kernel
theorem dX3_takes_38 : decode cX3_takes 38 = .ok (.getfield 32, 3) := by decide +kernel
theorem dX3_takes_41 : decode cX3_takes 41 = .ok (.invokevirtual 78, 3) := by decide +kernel
theorem dX3_takes_44 : decode cX3_takes 44 = .ok (.aload_n 1, 1) := by decide +kernel
theorem dX3_takes_45 : decode cX3_takes 45 = .ok (.getfield 35, 3) := by decide +kernel
theorem dX3_takes_48 : decode cX3_takes 48 = .ok (.iconst 0, 1) := by decide +kernel
theorem dX3_takes_49 : decode cX3_takes 49 = .ok (.aload_n 0, 1) := by decide +kernel
theorem dX3_takes_50 : decode cX3_takes 50 = .ok (.getfield 35, 3) := by decide +kernel
theorem dX3_takes_53 : decode cX3_takes 53 = .ok (.iconst 0, 1) := by decide +kernel
theorem dX3_takes_54 : decode cX3_takes 54 = .ok (.bipush 60, 2) := by decide +kernel
theorem dX3_takes_56 : decode cX3_takes 56 = .ok (.invokestatic 81, 3) := by decide +kernel
theorem dX3_takes_59 : decode cX3_takes 59 = .ok (.aload_n 0, 1) := by decide +kernel
theorem dX3_takes_60 : decode cX3_takes 60 = .ok (.aload_n 1, 1) := by decide +kernel
theorem dX3_takes_61 : decode cX3_takes 61 = .ok (.getfield 39, 3) := by decide +kernel
theorem dX3_takes_64 : decode cX3_takes 64 = .ok (.putfield 39, 3) := by decide +kernel
theorem dX3_takes_67 : decode cX3_takes 67 = .ok (.aload_n 1, 1) := by decide +kernel
theorem dX3_takes_68 : decode cX3_takes 68 = .ok (.getfield 43, 3) := by decide +kernel
theorem dX3_takes_71 : decode cX3_takes 71 = .ok (.iconst 0, 1) := by decide +kernel
theorem dX3_takes_72 : decode cX3_takes 72 = .ok (.aload_n 0, 1) := by decide +kernel
theorem dX3_takes_73 : decode cX3_takes 73 = .ok (.getfield 43, 3) := by decide +kernel
theorem dX3_takes_76 : decode cX3_takes 76 = .ok (.iconst 0, 1) := by decide +kernel
theorem dX3_takes_77 : decode cX3_takes 77 = .ok (.bipush 24, 2) := by decide +kernel
theorem dX3_takes_79 : decode cX3_takes 79 = .ok (.invokestatic 81, 3) := by decide +kernel
theorem dX3_takes_82 : decode cX3_takes 82 = .ok (.aload_n 0, 1) := by decide +kernel
theorem dX3_takes_83 : decode cX3_takes 83 = .ok (.aload_n 1, 1) := by decide +kernel
theorem dX3_takes_84 : decode cX3_takes 84 = .ok (.getfield 47, 3) := by decide +kernel
theorem dX3_takes_87 : decode cX3_takes 87 = .ok (.putfield 47, 3) := by decide +kernel
theorem dX3_takes_90 : decode cX3_takes 90 = .ok (.aload_n 0, 1) := by decide +kernel
theorem dX3_takes_91 : decode cX3_takes 91 = .ok (.aload_n 1, 1) := by decide +kernel
theorem dX3_takes_92 : decode cX3_takes 92 = .ok (.getfield 50, 3) := by decide +kernel
theorem dX3_takes_95 : decode cX3_takes 95 = .ok (.putfield 50, 3) := by decide +kernel
theorem dX3_takes_98 : decode cX3_takes 98 = .ok (.aload_n 0, 1) := by decide +kernel
theorem dX3_takes_99 : decode cX3_takes 99 = .ok (.aload_n 1, 1) := by decide +kernel
theorem dX3_takes_100 : decode cX3_takes 100 = .ok (.getfield 53, 3) := by decide +kernel
theorem dX3_takes_103 : decode cX3_takes 103 = .ok (.putfield 53, 3) := by decide +kernel
theorem dX3_takes_106 : decode cX3_takes 106 = .ok (.aload_n 0, 1) := by decide +kernel
theorem dX3_takes_107 : decode cX3_takes 107 = .ok (.aload_n 1, 1) := by decide +kernel
theorem dX3_takes_108 : decode cX3_takes 108 = .ok (.getfield 56, 3) := by decide +kernel
theorem dX3_takes_111 : decode cX3_takes 111 = .ok (.putfield 56, 3) := by decide +kernel
theorem dX3_takes_114 : decode cX3_takes 114 = .ok (.aload_n 0, 1) := by decide +kernel
theorem dX3_takes_115 : decode cX3_takes 115 = .ok (.aload_n 1, 1) := by decide +kernel
theorem dX3_takes_116 : decode cX3_takes 116 = .ok (.getfield 59, 3) := by decide +kernel
theorem dX3_takes_119 : decode cX3_takes 119 = .ok (.putfield 59, 3) := by decide +kernel
theorem dX3_takes_122 : decode cX3_takes 122 = .ok (.aload_n 0, 1) := by decide +kernel
theorem dX3_takes_123 : decode cX3_takes 123 = .ok (.aload_n 1, 1) := by decide +kernel
theorem dX3_takes_124 : decode cX3_takes 124 = .ok (.getfield 62, 3) := by decide +kernel
theorem dX3_takes_127 : decode cX3_takes 127 = .ok (.putfield 62, 3) := by decide +kernel
theorem dX3_takes_130 : decode cX3_takes 130 = .ok (.aload_n 0, 1) := by decide +kernel
theorem dX3_takes_131 : decode cX3_takes 131 = .ok (.aload_n 1, 1) := by decide +kernel
theorem dX3_takes_132 : decode cX3_takes 132 = .ok (.getfield 65, 3) := by decide +kernel
theorem dX3_takes_135 : decode cX3_takes 135 = .ok (.putfield 65, 3) := by decide +kernel
theorem dX3_takes_138 : decode cX3_takes 138 = .ok (.aload_n 0, 1) := by decide +kernel
theorem dX3_takes_139 : decode cX3_takes 139 = .ok (.aload_n 1, 1) := by decide +kernel
theorem dX3_takes_140 : decode cX3_takes 140 = .ok (.getfield 68, 3) := by decide +kernel
theorem dX3_takes_143 : decode cX3_takes 143 = .ok (.putfield 68, 3) := by decide +kernel
theorem dX3_takes_146 : decode cX3_takes 146 = .ok (.return_, 1) := by decide +kernel
theorem dX3_change_0 : decode cX3_change 0 = .ok (.iload_n 1, 1) := by decide +kernel
theorem dX3_change_1 : decode cX3_change 1 = .ok (.tableswitch 66 0 2 #[27, 40, 53], 27) := by decide +kernel
theorem dX3_change_28 : decode cX3_change 28 = .ok (.aload_n 0, 1) := by decide +kernel
theorem dX3_change_29 : decode cX3_change 29 = .ok (.getfield 50, 3) := by decide +kernel
theorem dX3_change_32 : decode cX3_change 32 = .ok (.istore_n 3, 1) := by decide +kernel
theorem dX3_change_33 : decode cX3_change 33 = .ok (.aload_n 0, 1) := by decide +kernel
theorem dX3_change_34 : decode cX3_change 34 = .ok (.iload_n 2, 1) := by decide +kernel
theorem dX3_change_35 : decode cX3_change 35 = .ok (.putfield 50, 3) := by decide +kernel
theorem dX3_change_38 : decode cX3_change 38 = .ok (.goto 39, 3) := by decide +kernel
theorem dX3_change_41 : decode cX3_change 41 = .ok (.aload_n 0, 1) := by decide +kernel
theorem dX3_change_42 : decode cX3_change 42 = .ok (.getfield 53, 3) := by decide +kernel
theorem dX3_change_45 : decode cX3_change 45 = .ok (.istore_n 3, 1) := by decide +kernel
theorem dX3_change_46 : decode cX3_change 46 = .ok (.aload_n 0, 1) := by decide +kernel
theorem dX3_change_47 : decode cX3_change 47 = .ok (.iload_n 2, 1) := by decide +kernel
theorem dX3_change_48 : decode cX3_change 48 = .ok (.putfield 53, 3) := by decide +kernel
theorem dX3_change_51 : decode cX3_change 51 = .ok (.goto 26, 3) := by decide +kernel
theorem dX3_change_54 : decode cX3_change 54 = .ok (.aload_n 0, 1) := by decide +kernel
theorem dX3_change_55 : decode cX3_change 55 = .ok (.getfield 56, 3) := by decide +kernel
theorem dX3_change_58 : decode cX3_change 58 = .ok (.istore_n 3, 1) := by decide +kernel
theorem dX3_change_59 : decode cX3_change 59 = .ok (.aload_n 0, 1) := by decide +kernel
theorem dX3_change_60 : decode cX3_change 60 = .ok (.iload_n 2, 1) := by decide +kernel
theorem dX3_change_61 : decode cX3_change 61 = .ok (.putfield 56, 3) := by decide +kernel
theorem dX3_change_64 : decode cX3_change 64 = .ok (.goto 13, 3) := by decide +kernel
theorem dX3_change_67 : decode cX3_change 67 = .ok (.aload_n 0, 1) := by decide +kernel
theorem dX3_change_68 : decode cX3_change 68 = .ok (.getfield 59, 3) := by decide +kernel
theorem dX3_change_71 : decode cX3_change 71 = .ok (.istore_n 3, 1) := by decide +kernel
theorem dX3_change_72 : decode cX3_change 72 = .ok (.aload_n 0, 1) := by decide +kernel
theorem dX3_change_73 : decode cX3_change 73 = .ok (.iload_n 2, 1) := by decide +kernel
theorem dX3_change_74 : decode cX3_change 74 = .ok (.putfield 59, 3) := by decide +kernel
theorem dX3_change_77 : decode cX3_change 77 = .ok (.iload_n 3, 1) := by decide +kernel
theorem dX3_change_78 : decode cX3_change 78 = .ok (.ireturn, 1) := by decide +kernel
theorem dX3_textOf_0 : decode cX3_textOf 0 = .ok (.iload_n 1, 1) := by decide +kernel
theorem dX3_textOf_1 : decode cX3_textOf 1 = .ok (.ifCond .ne 10, 3) := by decide +kernel
theorem dX3_textOf_4 : decode cX3_textOf 4 = .ok (.aload_n 0, 1) := by decide +kernel
theorem dX3_textOf_5 : decode cX3_textOf 5 = .ok (.getfield 28, 3) := by decide +kernel
theorem dX3_textOf_8 : decode cX3_textOf 8 = .ok (.goto 7, 3) := by decide +kernel
theorem dX3_textOf_11 : decode cX3_textOf 11 = .ok (.aload_n 0, 1) := by decide +kernel
theorem dX3_textOf_12 : decode cX3_textOf 12 = .ok (.getfield 32, 3) := by decide +kernel
theorem dX3_textOf_15 : decode cX3_textOf 15 = .ok (.areturn, 1) := by decide +kernel
theorem dX3_gives_0 : decode cX3_gives 0 = .ok (.iload_n 1, 1) := by decide +kernel
theorem dX3_gives_1 : decode cX3_gives 1 = .ok (.ifCond .ne 36, 3) := by decide +kernel
theorem dX3_gives_4 : decode cX3_gives 4 = .ok (.aload_n 0, 1) := by decide +kernel
theorem dX3_gives_5 : decode cX3_gives 5 = .ok (.getfield 28, 3) := by decide +kernel
theorem dX3_gives_8 : decode cX3_gives 8 = .ok (.getfield 87, 3) := by decide +kernel
theorem dX3_gives_11 : decode cX3_gives 11 = .ok (.ifCond .eq 17, 3) := by decide +kernel
theorem dX3_gives_14 : decode cX3_gives 14 = .ok (.aload_n 0, 1) := by decide +kernel
theorem dX3_gives_15 : decode cX3_gives 15 = .ok (.getfield 28, 3) := by decide +kernel
theorem dX3_gives_18 : decode cX3_gives 18 = .ok (.iload_n 2, 1) := by decide +kernel
theorem dX3_gives_19 : decode cX3_gives 19 = .ok (.iload_n 3, 1) := by decide +kernel
theorem dX3_gives_20 : decode cX3_gives 20 = .ok (.iload 4, 2) := by decide +kernel
theorem dX3_gives_22 : decode cX3_gives 22 = .ok (.invokevirtual 91, 3) := by decide +kernel
theorem dX3_gives_25 : decode cX3_gives 25 = .ok (.goto 4, 3) := by decide +kernel
theorem dX3_gives_28 : decode cX3_gives 28 = .ok (.iload_n 2, 1) := by decide +kernel
theorem dX3_gives_29 : decode cX3_gives 29 = .ok (.iconst 0, 1) := by decide +kernel
theorem dX3_gives_30 : decode cX3_gives 30 = .ok (.sipush 199, 3) := by decide +kernel
theorem dX3_gives_33 : decode cX3_gives 33 = .ok (.invokestatic 95, 3) := by decide +kernel
theorem dX3_gives_36 : decode cX3_gives 36 = .ok (.ireturn, 1) := by decide +kernel
theorem dX3_gives_37 : decode cX3_gives 37 = .ok (.iload_n 2, 1) := by decide +kernel
theorem dX3_gives_38 : decode cX3_gives 38 = .ok (.iconst 1, 1) := by decide +kernel
theorem dX3_gives_39 : decode cX3_gives 39 = .ok (.if_icmp .ne 8, 3) := by decide +kernel
theorem dX3_gives_42 : decode cX3_gives 42 = .ok (.bipush 25, 2) := by decide +kernel
theorem dX3_gives_44 : decode cX3_gives 44 = .ok (.goto 5, 3) := by decide +kernel
theorem dX3_gives_47 : decode cX3_gives 47 = .ok (.bipush (-50), 2) := by decide +kernel
theorem dX3_gives_49 : decode cX3_gives 49 = .ok (.istore 5, 2) := by decide +kernel
theorem dX3_gives_51 : decode cX3_gives 51 = .ok (.aload_n 0, 1) := by decide +kernel
theorem dX3_gives_52 : decode cX3_gives 52 = .ok (.getfield 32, 3) := by decide +kernel
theorem dX3_gives_55 : decode cX3_gives 55 = .ok (.getfield 87, 3) := by decide +kernel
theorem dX3_gives_58 : decode cX3_gives 58 = .ok (.ifCond .eq 17, 3) := by decide +kernel
theorem dX3_gives_61 : decode cX3_gives 61 = .ok (.aload_n 0, 1) := by decide +kernel
theorem dX3_gives_62 : decode cX3_gives 62 = .ok (.getfield 32, 3) := by decide +kernel
theorem dX3_gives_65 : decode cX3_gives 65 = .ok (.iload_n 2, 1) := by decide +kernel
theorem dX3_gives_66 : decode cX3_gives 66 = .ok (.iload_n 3, 1) := by decide +kernel
theorem dX3_gives_67 : decode cX3_gives 67 = .ok (.iload 4, 2) := by decide +kernel
theorem dX3_gives_69 : decode cX3_gives 69 = .ok (.invokevirtual 91, 3) := by decide +kernel
theorem dX3_gives_72 : decode cX3_gives 72 = .ok (.goto 5, 3) := by decide +kernel
theorem dX3_gives_75 : decode cX3_gives 75 = .ok (.iload 5, 2) := by decide +kernel
theorem dX3_gives_77 : decode cX3_gives 77 = .ok (.bipush (-99), 2) := by decide +kernel
theorem dX3_gives_79 : decode cX3_gives 79 = .ok (.bipush 99, 2) := by decide +kernel
theorem dX3_gives_81 : decode cX3_gives 81 = .ok (.invokestatic 95, 3) := by decide +kernel
theorem dX3_gives_84 : decode cX3_gives 84 = .ok (.ireturn, 1) := by decide +kernel
theorem dX3_airByKind_0 : decode cX3_airByKind 0 = .ok (.aload_n 0, 1) := by decide +kernel
theorem dX3_airByKind_1 : decode cX3_airByKind 1 = .ok (.getfield 12, 3) := by decide +kernel
theorem dX3_airByKind_4 : decode cX3_airByKind 4 = .ok (.getfield 98, 3) := by decide +kernel
theorem dX3_airByKind_7 : decode cX3_airByKind 7 = .ok (.iload_n 1, 1) := by decide +kernel
theorem dX3_airByKind_8 : decode cX3_airByKind 8 = .ok (.iaload, 1) := by decide +kernel
theorem dX3_airByKind_9 : decode cX3_airByKind 9 = .ok (.istore_n 2, 1) := by decide +kernel
theorem dX3_airByKind_10 : decode cX3_airByKind 10 = .ok (.bipush 45, 2) := by decide +kernel
theorem dX3_airByKind_12 : decode cX3_airByKind 12 = .ok (.iload_n 2, 1) := by decide +kernel
theorem dX3_airByKind_13 : decode cX3_airByKind 13 = .ok (.iadd, 1) := by decide +kernel
theorem dX3_airByKind_14 : decode cX3_airByKind 14 = .ok (.istore_n 3, 1) := by decide +kernel
theorem dX3_airByKind_15 : decode cX3_airByKind 15 = .ok (.aload_n 0, 1) := by decide +kernel
theorem dX3_airByKind_16 : decode cX3_airByKind 16 = .ok (.getfield 12, 3) := by decide +kernel
theorem dX3_airByKind_19 : decode cX3_airByKind 19 = .ok (.getfield 101, 3) := by decide +kernel
theorem dX3_airByKind_22 : decode cX3_airByKind 22 = .ok (.iload_n 1, 1) := by decide +kernel
theorem dX3_airByKind_23 : decode cX3_airByKind 23 = .ok (.iaload, 1) := by decide +kernel
theorem dX3_airByKind_24 : decode cX3_airByKind 24 = .ok (.tableswitch 91 1 6 #[40, 45, 49, 56, 68, 77], 40) := by decide +kernel
theorem dX3_airByKind_64 : decode cX3_airByKind 64 = .ok (.iload_n 3, 1) := by decide +kernel
theorem dX3_airByKind_65 : decode cX3_airByKind 65 = .ok (.bipush 15, 2) := by decide +kernel
theorem dX3_airByKind_67 : decode cX3_airByKind 67 = .ok (.iadd, 1) := by decide +kernel
theorem dX3_airByKind_68 : decode cX3_airByKind 68 = .ok (.ireturn, 1) := by decide +kernel
theorem dX3_airByKind_69 : decode cX3_airByKind 69 = .ok (.iload_n 3, 1) := by decide +kernel
theorem dX3_airByKind_70 : decode cX3_airByKind 70 = .ok (.iconst 5, 1) := by decide +kernel
theorem dX3_airByKind_71 : decode cX3_airByKind 71 = .ok (.isub, 1) := by decide +kernel
theorem dX3_airByKind_72 : decode cX3_airByKind 72 = .ok (.ireturn, 1) := by decide +kernel
theorem dX3_airByKind_73 : decode cX3_airByKind 73 = .ok (.iload_n 3, 1) := by decide +kernel
theorem dX3_airByKind_74 : decode cX3_airByKind 74 = .ok (.bipush 12, 2) := by decide +kernel
theorem dX3_airByKind_76 : decode cX3_airByKind 76 = .ok (.isub, 1) := by decide +kernel
theorem dX3_airByKind_77 : decode cX3_airByKind 77 = .ok (.iload_n 2, 1) := by decide +kernel
theorem dX3_airByKind_78 : decode cX3_airByKind 78 = .ok (.isub, 1) := by decide +kernel
theorem dX3_airByKind_79 : decode cX3_airByKind 79 = .ok (.ireturn, 1) := by decide +kernel
theorem dX3_airByKind_80 : decode cX3_airByKind 80 = .ok (.iload_n 3, 1) := by decide +kernel
theorem dX3_airByKind_81 : decode cX3_airByKind 81 = .ok (.bipush 15, 2) := by decide +kernel
theorem dX3_airByKind_83 : decode cX3_airByKind 83 = .ok (.iadd, 1) := by decide +kernel
theorem dX3_airByKind_84 : decode cX3_airByKind 84 = .ok (.iconst 2, 1) := by decide +kernel
theorem dX3_airByKind_85 : decode cX3_airByKind 85 = .ok (.aload_n 0, 1) := by decide +kernel
theorem dX3_airByKind_86 : decode cX3_airByKind 86 = .ok (.getfield 56, 3) := by decide +kernel
theorem dX3_airByKind_89 : decode cX3_airByKind 89 = .ok (.imul, 1) := by decide +kernel
theorem dX3_airByKind_90 : decode cX3_airByKind 90 = .ok (.iadd, 1) := by decide +kernel
theorem dX3_airByKind_91 : decode cX3_airByKind 91 = .ok (.ireturn, 1) := by decide +kernel
theorem dX3_airByKind_92 : decode cX3_airByKind 92 = .ok (.iload_n 3, 1) := by decide +kernel
theorem dX3_airByKind_93 : decode cX3_airByKind 93 = .ok (.iconst 5, 1) := by decide +kernel
theorem dX3_airByKind_94 : decode cX3_airByKind 94 = .ok (.isub, 1) := by decide +kernel
theorem dX3_airByKind_95 : decode cX3_airByKind 95 = .ok (.aload_n 0, 1) := by decide +kernel
theorem dX3_airByKind_96 : decode cX3_airByKind 96 = .ok (.getfield 59, 3) := by decide +kernel
theorem dX3_airByKind_99 : decode cX3_airByKind 99 = .ok (.iadd, 1) := by decide +kernel
theorem dX3_airByKind_100 : decode cX3_airByKind 100 = .ok (.ireturn, 1) := by decide +kernel
theorem dX3_airByKind_101 : decode cX3_airByKind 101 = .ok (.iload_n 3, 1) := by decide +kernel
theorem dX3_airByKind_102 : decode cX3_airByKind 102 = .ok (.aload_n 0, 1) := by decide +kernel
theorem dX3_airByKind_103 : decode cX3_airByKind 103 = .ok (.getfield 12, 3) := by decide +kernel
theorem dX3_airByKind_106 : decode cX3_airByKind 106 = .ok (.getfield 104, 3) := by decide +kernel
theorem dX3_airByKind_109 : decode cX3_airByKind 109 = .ok (.iload_n 1, 1) := by decide +kernel
theorem dX3_airByKind_110 : decode cX3_airByKind 110 = .ok (.iaload, 1) := by decide +kernel
theorem dX3_airByKind_111 : decode cX3_airByKind 111 = .ok (.iconst 5, 1) := by decide +kernel
theorem dX3_airByKind_112 : decode cX3_airByKind 112 = .ok (.irem, 1) := by decide +kernel
theorem dX3_airByKind_113 : decode cX3_airByKind 113 = .ok (.iadd, 1) := by decide +kernel
theorem dX3_airByKind_114 : decode cX3_airByKind 114 = .ok (.ireturn, 1) := by decide +kernel
theorem dX3_airByKind_115 : decode cX3_airByKind 115 = .ok (.iload_n 3, 1) := by decide +kernel
theorem dX3_airByKind_116 : decode cX3_airByKind 116 = .ok (.ireturn, 1) := by decide +kernel
theorem dX3_air_0 : decode cX3_air 0 = .ok (.aload_n 0, 1) := by decide +kernel
theorem dX3_air_1 : decode cX3_air 1 = .ok (.iconst 0, 1) := by decide +kernel
theorem dX3_air_2 : decode cX3_air 2 = .ok (.aload_n 0, 1) := by decide +kernel
theorem dX3_air_3 : decode cX3_air 3 = .ok (.iload_n 1, 1) := by decide +kernel
theorem dX3_air_4 : decode cX3_air 4 = .ok (.invokevirtual 107, 3) := by decide +kernel
theorem dX3_air_7 : decode cX3_air 7 = .ok (.aload_n 0, 1) := by decide +kernel
theorem dX3_air_8 : decode cX3_air 8 = .ok (.getfield 56, 3) := by decide +kernel
theorem dX3_air_11 : decode cX3_air 11 = .ok (.aload_n 0, 1) := by decide +kernel
theorem dX3_air_12 : decode cX3_air 12 = .ok (.getfield 59, 3) := by decide +kernel
theorem dX3_air_15 : decode cX3_air 15 = .ok (.invokevirtual 111, 3) := by decide +kernel
theorem dX3_air_18 : decode cX3_air 18 = .ok (.ireturn, 1) := by decide +kernel
theorem dX3_costs_0 : decode cX3_costs 0 = .ok (.aload_n 0, 1) := by decide +kernel
theorem dX3_costs_1 : decode cX3_costs 1 = .ok (.getfield 12, 3) := by decide +kernel
theorem dX3_costs_4 : decode cX3_costs 4 = .ok (.getfield 101, 3) := by decide +kernel
theorem dX3_costs_7 : decode cX3_costs 7 = .ok (.iload_n 1, 1) := by decide +kernel
theorem dX3_costs_8 : decode cX3_costs 8 = .ok (.iaload, 1) := by decide +kernel
theorem dX3_costs_9 : decode cX3_costs 9 = .ok (.tableswitch 68 1 6 #[39, 68, 44, 56, 68, 63], 39) := by decide +kernel
theorem dX3_costs_48 : decode cX3_costs 48 = .ok (.aload_n 0, 1) := by decide +kernel
theorem dX3_costs_49 : decode cX3_costs 49 = .ok (.getfield 59, 3) := by decide +kernel
theorem dX3_costs_52 : decode cX3_costs 52 = .ok (.ireturn, 1) := by decide +kernel
theorem dX3_costs_53 : decode cX3_costs 53 = .ok (.iconst 5, 1) := by decide +kernel
theorem dX3_costs_54 : decode cX3_costs 54 = .ok (.aload_n 0, 1) := by decide +kernel
theorem dX3_costs_55 : decode cX3_costs 55 = .ok (.getfield 12, 3) := by decide +kernel
theorem dX3_costs_58 : decode cX3_costs 58 = .ok (.getfield 98, 3) := by decide +kernel
theorem dX3_costs_61 : decode cX3_costs 61 = .ok (.iload_n 1, 1) := by decide +kernel
theorem dX3_costs_62 : decode cX3_costs 62 = .ok (.iaload, 1) := by decide +kernel
theorem dX3_costs_63 : decode cX3_costs 63 = .ok (.iadd, 1) := by decide +kernel
theorem dX3_costs_64 : decode cX3_costs 64 = .ok (.ireturn, 1) := by decide +kernel
theorem dX3_costs_65 : decode cX3_costs 65 = .ok (.aload_n 0, 1) := by decide +kernel
theorem dX3_costs_66 : decode cX3_costs 66 = .ok (.getfield 59, 3) := by decide +kernel
theorem dX3_costs_69 : decode cX3_costs 69 = .ok (.iconst 1, 1) := by decide +kernel
theorem dX3_costs_70 : decode cX3_costs 70 = .ok (.iadd, 1) := by decide +kernel
theorem dX3_costs_71 : decode cX3_costs 71 = .ok (.ireturn, 1) := by decide +kernel
theorem dX3_costs_72 : decode cX3_costs 72 = .ok (.aload_n 0, 1) := by decide +kernel
theorem dX3_costs_73 : decode cX3_costs 73 = .ok (.getfield 56, 3) := by decide +kernel
theorem dX3_costs_76 : decode cX3_costs 76 = .ok (.ireturn, 1) := by decide +kernel
theorem dX3_costs_77 : decode cX3_costs 77 = .ok (.iconst 0, 1) := by decide +kernel
theorem dX3_costs_78 : decode cX3_costs 78 = .ok (.ireturn, 1) := by decide +kernel
theorem dX3_isPicked_0 : decode cX3_isPicked 0 = .ok (.aload_n 0, 1) := by decide +kernel
theorem dX3_isPicked_1 : decode cX3_isPicked 1 = .ok (.getfield 21, 3) := by decide +kernel
theorem dX3_isPicked_4 : decode cX3_isPicked 4 = .ok (.iload_n 1, 1) := by decide +kernel
theorem dX3_isPicked_5 : decode cX3_isPicked 5 = .ok (.iload_n 2, 1) := by decide +kernel
theorem dX3_isPicked_6 : decode cX3_isPicked 6 = .ok (.invokevirtual 115, 3) := by decide +kernel
theorem dX3_isPicked_9 : decode cX3_isPicked 9 = .ok (.aload_n 0, 1) := by decide +kernel
theorem dX3_isPicked_10 : decode cX3_isPicked 10 = .ok (.getfield 50, 3) := by decide +kernel
theorem dX3_isPicked_13 : decode cX3_isPicked 13 = .ok (.iconst 2, 1) := by decide +kernel
theorem dX3_isPicked_14 : decode cX3_isPicked 14 = .ok (.idiv, 1) := by decide +kernel
theorem dX3_isPicked_15 : decode cX3_isPicked 15 = .ok (.bipush 30, 2) := by decide +kernel
theorem dX3_isPicked_17 : decode cX3_isPicked 17 = .ok (.iadd, 1) := by decide +kernel
theorem dX3_isPicked_18 : decode cX3_isPicked 18 = .ok (.if_icmp .le 7, 3) := by decide +kernel
theorem dX3_isPicked_21 : decode cX3_isPicked 21 = .ok (.iconst 1, 1) := by decide +kernel
theorem dX3_isPicked_22 : decode cX3_isPicked 22 = .ok (.goto 4, 3) := by decide +kernel
theorem dX3_isPicked_25 : decode cX3_isPicked 25 = .ok (.iconst 0, 1) := by decide +kernel
theorem dX3_isPicked_26 : decode cX3_isPicked 26 = .ok (.ireturn, 1) := by decide +kernel
theorem dX3_marginFrom_0 : decode cX3_marginFrom 0 = .ok (.aload_n 0, 1) := by decide +kernel
theorem dX3_marginFrom_1 : decode cX3_marginFrom 1 = .ok (.getfield 50, 3) := by decide +kernel
theorem dX3_marginFrom_4 : decode cX3_marginFrom 4 = .ok (.aload_n 0, 1) := by decide +kernel
theorem dX3_marginFrom_5 : decode cX3_marginFrom 5 = .ok (.iload_n 2, 1) := by decide +kernel
theorem dX3_marginFrom_6 : decode cX3_marginFrom 6 = .ok (.invokevirtual 119, 3) := by decide +kernel
theorem dX3_marginFrom_9 : decode cX3_marginFrom 9 = .ok (.iadd, 1) := by decide +kernel
theorem dX3_marginFrom_10 : decode cX3_marginFrom 10 = .ok (.aload_n 0, 1) := by decide +kernel
theorem dX3_marginFrom_11 : decode cX3_marginFrom 11 = .ok (.getfield 53, 3) := by decide +kernel
theorem dX3_marginFrom_14 : decode cX3_marginFrom 14 = .ok (.iadd, 1) := by decide +kernel
theorem dX3_marginFrom_15 : decode cX3_marginFrom 15 = .ok (.aload_n 0, 1) := by decide +kernel
theorem dX3_marginFrom_16 : decode cX3_marginFrom 16 = .ok (.getfield 21, 3) := by decide +kernel
theorem dX3_marginFrom_19 : decode cX3_marginFrom 19 = .ok (.iload_n 1, 1) := by decide +kernel
theorem dX3_marginFrom_20 : decode cX3_marginFrom 20 = .ok (.iload_n 3, 1) := by decide +kernel
theorem dX3_marginFrom_21 : decode cX3_marginFrom 21 = .ok (.invokevirtual 122, 3) := by decide +kernel
theorem dX3_marginFrom_24 : decode cX3_marginFrom 24 = .ok (.isub, 1) := by decide +kernel
theorem dX3_marginFrom_25 : decode cX3_marginFrom 25 = .ok (.ireturn, 1) := by decide +kernel
theorem dX3_gainOf_0 : decode cX3_gainOf 0 = .ok (.aload_n 0, 1) := by decide +kernel
theorem dX3_gainOf_1 : decode cX3_gainOf 1 = .ok (.iconst 1, 1) := by decide +kernel
theorem dX3_gainOf_2 : decode cX3_gainOf 2 = .ok (.iload_n 1, 1) := by decide +kernel
theorem dX3_gainOf_3 : decode cX3_gainOf 3 = .ok (.ifCond .lt 7, 3) := by decide +kernel
theorem dX3_gainOf_6 : decode cX3_gainOf 6 = .ok (.iconst 1, 1) := by decide +kernel
theorem dX3_gainOf_7 : decode cX3_gainOf 7 = .ok (.goto 4, 3) := by decide +kernel
theorem dX3_gainOf_10 : decode cX3_gainOf 10 = .ok (.iconst 0, 1) := by decide +kernel
theorem dX3_gainOf_11 : decode cX3_gainOf 11 = .ok (.iload_n 1, 1) := by decide +kernel
theorem dX3_gainOf_12 : decode cX3_gainOf 12 = .ok (.aload_n 0, 1) := by decide +kernel
theorem dX3_gainOf_13 : decode cX3_gainOf 13 = .ok (.getfield 59, 3) := by decide +kernel
theorem dX3_gainOf_16 : decode cX3_gainOf 16 = .ok (.invokevirtual 111, 3) := by decide +kernel
theorem dX3_gainOf_19 : decode cX3_gainOf 19 = .ok (.ireturn, 1) := by decide +kernel
theorem dX3_gainFrom_0 : decode cX3_gainFrom 0 = .ok (.aload_n 0, 1) := by decide +kernel
theorem dX3_gainFrom_1 : decode cX3_gainFrom 1 = .ok (.aload_n 0, 1) := by decide +kernel
theorem dX3_gainFrom_2 : decode cX3_gainFrom 2 = .ok (.iload_n 1, 1) := by decide +kernel
theorem dX3_gainFrom_3 : decode cX3_gainFrom 3 = .ok (.iload_n 2, 1) := by decide +kernel
theorem dX3_gainFrom_4 : decode cX3_gainFrom 4 = .ok (.iload_n 3, 1) := by decide +kernel
theorem dX3_gainFrom_5 : decode cX3_gainFrom 5 = .ok (.invokevirtual 125, 3) := by decide +kernel
theorem dX3_gainFrom_8 : decode cX3_gainFrom 8 = .ok (.invokevirtual 128, 3) := by decide +kernel
theorem dX3_gainFrom_11 : decode cX3_gainFrom 11 = .ok (.ireturn, 1) := by decide +kernel
theorem dX3_weighedGains_0 : decode cX3_weighedGains 0 = .ok (.iconst 0, 1) := by decide +kernel
theorem dX3_weighedGains_1 : decode cX3_weighedGains 1 = .ok (.istore_n 3, 1) := by decide +kernel
theorem dX3_weighedGains_2 : decode cX3_weighedGains 2 = .ok (.iconst 0, 1) := by decide +kernel
theorem dX3_weighedGains_3 : decode cX3_weighedGains 3 = .ok (.istore 4, 2) := by decide +kernel
theorem dX3_weighedGains_5 : decode cX3_weighedGains 5 = .ok (.iload 4, 2) := by decide +kernel
theorem dX3_weighedGains_7 : decode cX3_weighedGains 7 = .ok (.aload_n 0, 1) := by decide +kernel
theorem dX3_weighedGains_8 : decode cX3_weighedGains 8 = .ok (.getfield 12, 3) := by decide +kernel
theorem dX3_weighedGains_11 : decode cX3_weighedGains 11 = .ok (.getfield 131, 3) := by decide +kernel
theorem dX3_weighedGains_14 : decode cX3_weighedGains 14 = .ok (.if_icmp .ge 31, 3) := by decide +kernel
theorem dX3_weighedGains_17 : decode cX3_weighedGains 17 = .ok (.iload_n 3, 1) := by decide +kernel
theorem dX3_weighedGains_18 : decode cX3_weighedGains 18 = .ok (.aload_n 0, 1) := by decide +kernel
theorem dX3_weighedGains_19 : decode cX3_weighedGains 19 = .ok (.getfield 12, 3) := by decide +kernel
theorem dX3_weighedGains_22 : decode cX3_weighedGains 22 = .ok (.getfield 134, 3) := by decide +kernel
theorem dX3_weighedGains_25 : decode cX3_weighedGains 25 = .ok (.iload 4, 2) := by decide +kernel
theorem dX3_weighedGains_27 : decode cX3_weighedGains 27 = .ok (.iaload, 1) := by decide +kernel
theorem dX3_weighedGains_28 : decode cX3_weighedGains 28 = .ok (.aload_n 0, 1) := by decide +kernel
theorem dX3_weighedGains_29 : decode cX3_weighedGains 29 = .ok (.iload_n 1, 1) := by decide +kernel
theorem dX3_weighedGains_30 : decode cX3_weighedGains 30 = .ok (.iload 4, 2) := by decide +kernel
theorem dX3_weighedGains_32 : decode cX3_weighedGains 32 = .ok (.iload_n 2, 1) := by decide +kernel
theorem dX3_weighedGains_33 : decode cX3_weighedGains 33 = .ok (.invokevirtual 137, 3) := by decide +kernel
theorem dX3_weighedGains_36 : decode cX3_weighedGains 36 = .ok (.imul, 1) := by decide +kernel
theorem dX3_weighedGains_37 : decode cX3_weighedGains 37 = .ok (.iadd, 1) := by decide +kernel
theorem dX3_weighedGains_38 : decode cX3_weighedGains 38 = .ok (.istore_n 3, 1) := by decide +kernel
theorem dX3_weighedGains_39 : decode cX3_weighedGains 39 = .ok (.iinc 4 1, 3) := by decide +kernel
theorem dX3_weighedGains_42 : decode cX3_weighedGains 42 = .ok (.goto (-37), 3) := by decide +kernel
theorem dX3_weighedGains_45 : decode cX3_weighedGains 45 = .ok (.iload_n 3, 1) := by decide +kernel
theorem dX3_weighedGains_46 : decode cX3_weighedGains 46 = .ok (.ireturn, 1) := by decide +kernel
theorem dX3_safeWeights_0 : decode cX3_safeWeights 0 = .ok (.iconst 0, 1) := by decide +kernel
theorem dX3_safeWeights_1 : decode cX3_safeWeights 1 = .ok (.istore_n 3, 1) := by decide +kernel
theorem dX3_safeWeights_2 : decode cX3_safeWeights 2 = .ok (.iconst 0, 1) := by decide +kernel
theorem dX3_safeWeights_3 : decode cX3_safeWeights 3 = .ok (.istore 4, 2) := by decide +kernel
theorem dX3_safeWeights_5 : decode cX3_safeWeights 5 = .ok (.iload 4, 2) := by decide +kernel
theorem dX3_safeWeights_7 : decode cX3_safeWeights 7 = .ok (.aload_n 0, 1) := by decide +kernel
theorem dX3_safeWeights_8 : decode cX3_safeWeights 8 = .ok (.getfield 12, 3) := by decide +kernel
theorem dX3_safeWeights_11 : decode cX3_safeWeights 11 = .ok (.getfield 131, 3) := by decide +kernel
theorem dX3_safeWeights_14 : decode cX3_safeWeights 14 = .ok (.if_icmp .ge 33, 3) := by decide +kernel
theorem dX3_safeWeights_17 : decode cX3_safeWeights 17 = .ok (.aload_n 0, 1) := by decide +kernel
theorem dX3_safeWeights_18 : decode cX3_safeWeights 18 = .ok (.iload_n 1, 1) := by decide +kernel
theorem dX3_safeWeights_19 : decode cX3_safeWeights 19 = .ok (.iload 4, 2) := by decide +kernel
theorem dX3_safeWeights_21 : decode cX3_safeWeights 21 = .ok (.iload_n 2, 1) := by decide +kernel
theorem dX3_safeWeights_22 : decode cX3_safeWeights 22 = .ok (.invokevirtual 125, 3) := by decide +kernel
theorem dX3_safeWeights_25 : decode cX3_safeWeights 25 = .ok (.ifCond .lt 16, 3) := by decide +kernel
theorem dX3_safeWeights_28 : decode cX3_safeWeights 28 = .ok (.iload_n 3, 1) := by decide +kernel
theorem dX3_safeWeights_29 : decode cX3_safeWeights 29 = .ok (.aload_n 0, 1) := by decide +kernel
theorem dX3_safeWeights_30 : decode cX3_safeWeights 30 = .ok (.getfield 12, 3) := by decide +kernel
theorem dX3_safeWeights_33 : decode cX3_safeWeights 33 = .ok (.getfield 134, 3) := by decide +kernel
theorem dX3_safeWeights_36 : decode cX3_safeWeights 36 = .ok (.iload 4, 2) := by decide +kernel
theorem dX3_safeWeights_38 : decode cX3_safeWeights 38 = .ok (.iaload, 1) := by decide +kernel
theorem dX3_safeWeights_39 : decode cX3_safeWeights 39 = .ok (.iadd, 1) := by decide +kernel
theorem dX3_safeWeights_40 : decode cX3_safeWeights 40 = .ok (.istore_n 3, 1) := by decide +kernel
theorem dX3_safeWeights_41 : decode cX3_safeWeights 41 = .ok (.iinc 4 1, 3) := by decide +kernel
theorem dX3_safeWeights_44 : decode cX3_safeWeights 44 = .ok (.goto (-39), 3) := by decide +kernel
theorem dX3_safeWeights_47 : decode cX3_safeWeights 47 = .ok (.iload_n 3, 1) := by decide +kernel
theorem dX3_safeWeights_48 : decode cX3_safeWeights 48 = .ok (.ireturn, 1) := by decide +kernel
theorem dX3_safePitches_0 : decode cX3_safePitches 0 = .ok (.iconst 0, 1) := by decide +kernel
theorem dX3_safePitches_1 : decode cX3_safePitches 1 = .ok (.istore_n 3, 1) := by decide +kernel
theorem dX3_safePitches_2 : decode cX3_safePitches 2 = .ok (.iconst 0, 1) := by decide +kernel
theorem dX3_safePitches_3 : decode cX3_safePitches 3 = .ok (.istore 4, 2) := by decide +kernel
theorem dX3_safePitches_5 : decode cX3_safePitches 5 = .ok (.iload 4, 2) := by decide +kernel
theorem dX3_safePitches_7 : decode cX3_safePitches 7 = .ok (.aload_n 0, 1) := by decide +kernel
theorem dX3_safePitches_8 : decode cX3_safePitches 8 = .ok (.getfield 12, 3) := by decide +kernel
theorem dX3_safePitches_11 : decode cX3_safePitches 11 = .ok (.getfield 131, 3) := by decide +kernel
theorem dX3_safePitches_14 : decode cX3_safePitches 14 = .ok (.if_icmp .ge 27, 3) := by decide +kernel
theorem dX3_safePitches_17 : decode cX3_safePitches 17 = .ok (.aload_n 0, 1) := by decide +kernel
theorem dX3_safePitches_18 : decode cX3_safePitches 18 = .ok (.iload_n 1, 1) := by decide +kernel
theorem dX3_safePitches_19 : decode cX3_safePitches 19 = .ok (.iload 4, 2) := by decide +kernel
theorem dX3_safePitches_21 : decode cX3_safePitches 21 = .ok (.iload_n 2, 1) := by decide +kernel
theorem dX3_safePitches_22 : decode cX3_safePitches 22 = .ok (.invokevirtual 125, 3) := by decide +kernel
theorem dX3_safePitches_25 : decode cX3_safePitches 25 = .ok (.ifCond .lt 10, 3) := by decide +kernel
theorem dX3_safePitches_28 : decode cX3_safePitches 28 = .ok (.iload_n 3, 1) := by decide +kernel
theorem dX3_safePitches_29 : decode cX3_safePitches 29 = .ok (.iconst 1, 1) := by decide +kernel
theorem dX3_safePitches_30 : decode cX3_safePitches 30 = .ok (.iload 4, 2) := by decide +kernel
theorem dX3_safePitches_32 : decode cX3_safePitches 32 = .ok (.ishl, 1) := by decide +kernel
theorem dX3_safePitches_33 : decode cX3_safePitches 33 = .ok (.ior, 1) := by decide +kernel
theorem dX3_safePitches_34 : decode cX3_safePitches 34 = .ok (.istore_n 3, 1) := by decide +kernel
theorem dX3_safePitches_35 : decode cX3_safePitches 35 = .ok (.iinc 4 1, 3) := by decide +kernel
theorem dX3_safePitches_38 : decode cX3_safePitches 38 = .ok (.goto (-33), 3) := by decide +kernel
theorem dX3_safePitches_41 : decode cX3_safePitches 41 = .ok (.iload_n 3, 1) := by decide +kernel
theorem dX3_safePitches_42 : decode cX3_safePitches 42 = .ok (.ireturn, 1) := by decide +kernel
theorem dX3_goes_0 : decode cX3_goes 0 = .ok (.aload_n 0, 1) := by decide +kernel
theorem dX3_goes_1 : decode cX3_goes 1 = .ok (.iload_n 1, 1) := by decide +kernel
theorem dX3_goes_2 : decode cX3_goes 2 = .ok (.iload_n 2, 1) := by decide +kernel
theorem dX3_goes_3 : decode cX3_goes 3 = .ok (.aload_n 0, 1) := by decide +kernel
theorem dX3_goes_4 : decode cX3_goes 4 = .ok (.getfield 21, 3) := by decide +kernel
theorem dX3_goes_7 : decode cX3_goes 7 = .ok (.getfield 140, 3) := by decide +kernel
theorem dX3_goes_10 : decode cX3_goes 10 = .ok (.iload_n 1, 1) := by decide +kernel
theorem dX3_goes_11 : decode cX3_goes 11 = .ok (.iaload, 1) := by decide +kernel
theorem dX3_goes_12 : decode cX3_goes 12 = .ok (.invokevirtual 125, 3) := by decide +kernel
theorem dX3_goes_15 : decode cX3_goes 15 = .ok (.istore_n 3, 1) := by decide +kernel
theorem dX3_goes_16 : decode cX3_goes 16 = .ok (.aload_n 0, 1) := by decide +kernel
theorem dX3_goes_17 : decode cX3_goes 17 = .ok (.aload_n 0, 1) := by decide +kernel
theorem dX3_goes_18 : decode cX3_goes 18 = .ok (.getfield 65, 3) := by decide +kernel
theorem dX3_goes_21 : decode cX3_goes 21 = .ok (.aload_n 0, 1) := by decide +kernel
theorem dX3_goes_22 : decode cX3_goes 22 = .ok (.iload_n 3, 1) := by decide +kernel
theorem dX3_goes_23 : decode cX3_goes 23 = .ok (.invokevirtual 128, 3) := by decide +kernel
theorem dX3_goes_26 : decode cX3_goes 26 = .ok (.iadd, 1) := by decide +kernel
theorem dX3_goes_27 : decode cX3_goes 27 = .ok (.sipush (-9999), 3) := by decide +kernel
theorem dX3_goes_30 : decode cX3_goes 30 = .ok (.sipush 9999, 3) := by decide +kernel
theorem dX3_goes_33 : decode cX3_goes 33 = .ok (.invokestatic 95, 3) := by decide +kernel
theorem dX3_goes_36 : decode cX3_goes 36 = .ok (.putfield 65, 3) := by decide +kernel
theorem dX3_goes_39 : decode cX3_goes 39 = .ok (.aload_n 0, 1) := by decide +kernel
theorem dX3_goes_40 : decode cX3_goes 40 = .ok (.getfield 12, 3) := by decide +kernel
theorem dX3_goes_43 : decode cX3_goes 43 = .ok (.getfield 104, 3) := by decide +kernel
theorem dX3_goes_46 : decode cX3_goes 46 = .ok (.iload_n 2, 1) := by decide +kernel
theorem dX3_goes_47 : decode cX3_goes 47 = .ok (.aload_n 0, 1) := by decide +kernel
theorem dX3_goes_48 : decode cX3_goes 48 = .ok (.getfield 12, 3) := by decide +kernel
theorem dX3_goes_51 : decode cX3_goes 51 = .ok (.getfield 104, 3) := by decide +kernel
theorem dX3_goes_54 : decode cX3_goes 54 = .ok (.iload_n 2, 1) := by decide +kernel
theorem dX3_goes_55 : decode cX3_goes 55 = .ok (.iaload, 1) := by decide +kernel
theorem dX3_goes_56 : decode cX3_goes 56 = .ok (.invokestatic 143, 3) := by decide +kernel
theorem dX3_goes_59 : decode cX3_goes 59 = .ok (.iastore, 1) := by decide +kernel
theorem dX3_goes_60 : decode cX3_goes 60 = .ok (.iload_n 3, 1) := by decide +kernel
theorem dX3_goes_61 : decode cX3_goes 61 = .ok (.ifCond .ge 10, 3) := by decide +kernel
theorem dX3_goes_64 : decode cX3_goes 64 = .ok (.aload_n 0, 1) := by decide +kernel
theorem dX3_goes_65 : decode cX3_goes 65 = .ok (.iload_n 1, 1) := by decide +kernel
theorem dX3_goes_66 : decode cX3_goes 66 = .ok (.invokevirtual 146, 3) := by decide +kernel
theorem dX3_goes_69 : decode cX3_goes 69 = .ok (.iconst 0, 1) := by decide +kernel
theorem dX3_goes_70 : decode cX3_goes 70 = .ok (.ireturn, 1) := by decide +kernel
theorem dX3_goes_71 : decode cX3_goes 71 = .ok (.aload_n 0, 1) := by decide +kernel
theorem dX3_goes_72 : decode cX3_goes 72 = .ok (.getfield 21, 3) := by decide +kernel
theorem dX3_goes_75 : decode cX3_goes 75 = .ok (.getfield 150, 3) := by decide +kernel
theorem dX3_goes_78 : decode cX3_goes 78 = .ok (.iload_n 1, 1) := by decide +kernel
theorem dX3_goes_79 : decode cX3_goes 79 = .ok (.aload_n 0, 1) := by decide +kernel
theorem dX3_goes_80 : decode cX3_goes 80 = .ok (.getfield 21, 3) := by decide +kernel
theorem dX3_goes_83 : decode cX3_goes 83 = .ok (.getfield 150, 3) := by decide +kernel
theorem dX3_goes_86 : decode cX3_goes 86 = .ok (.iload_n 1, 1) := by decide +kernel
theorem dX3_goes_87 : decode cX3_goes 87 = .ok (.iaload, 1) := by decide +kernel
theorem dX3_goes_88 : decode cX3_goes 88 = .ok (.invokestatic 143, 3) := by decide +kernel
theorem dX3_goes_91 : decode cX3_goes 91 = .ok (.iastore, 1) := by decide +kernel
theorem dX3_goes_92 : decode cX3_goes 92 = .ok (.aload_n 0, 1) := by decide +kernel
theorem dX3_goes_93 : decode cX3_goes 93 = .ok (.getfield 21, 3) := by decide +kernel
theorem dX3_goes_96 : decode cX3_goes 96 = .ok (.getfield 140, 3) := by decide +kernel
theorem dX3_goes_99 : decode cX3_goes 99 = .ok (.iload_n 1, 1) := by decide +kernel
theorem dX3_goes_100 : decode cX3_goes 100 = .ok (.iconst 0, 1) := by decide +kernel
theorem dX3_goes_101 : decode cX3_goes 101 = .ok (.iastore, 1) := by decide +kernel
theorem dX3_goes_102 : decode cX3_goes 102 = .ok (.iconst 1, 1) := by decide +kernel
theorem dX3_goes_103 : decode cX3_goes 103 = .ok (.ireturn, 1) := by decide +kernel
theorem dX3_isOut_0 : decode cX3_isOut 0 = .ok (.aload_n 0, 1) := by decide +kernel
theorem dX3_isOut_1 : decode cX3_isOut 1 = .ok (.getfield 21, 3) := by decide +kernel
theorem dX3_isOut_4 : decode cX3_isOut 4 = .ok (.getfield 153, 3) := by decide +kernel
theorem dX3_isOut_7 : decode cX3_isOut 7 = .ok (.iload_n 1, 1) := by decide +kernel
theorem dX3_isOut_8 : decode cX3_isOut 8 = .ok (.aload_n 0, 1) := by decide +kernel
theorem dX3_isOut_9 : decode cX3_isOut 9 = .ok (.getfield 21, 3) := by decide +kernel
theorem dX3_isOut_12 : decode cX3_isOut 12 = .ok (.getfield 153, 3) := by decide +kernel
theorem dX3_isOut_15 : decode cX3_isOut 15 = .ok (.iload_n 1, 1) := by decide +kernel
theorem dX3_isOut_16 : decode cX3_isOut 16 = .ok (.iaload, 1) := by decide +kernel
theorem dX3_isOut_17 : decode cX3_isOut 17 = .ok (.invokestatic 143, 3) := by decide +kernel
theorem dX3_isOut_20 : decode cX3_isOut 20 = .ok (.iastore, 1) := by decide +kernel
theorem dX3_isOut_21 : decode cX3_isOut 21 = .ok (.aload_n 0, 1) := by decide +kernel
theorem dX3_isOut_22 : decode cX3_isOut 22 = .ok (.getfield 21, 3) := by decide +kernel
theorem dX3_isOut_25 : decode cX3_isOut 25 = .ok (.getfield 140, 3) := by decide +kernel
theorem dX3_isOut_28 : decode cX3_isOut 28 = .ok (.iload_n 1, 1) := by decide +kernel
theorem dX3_isOut_29 : decode cX3_isOut 29 = .ok (.iconst 0, 1) := by decide +kernel
theorem dX3_isOut_30 : decode cX3_isOut 30 = .ok (.iastore, 1) := by decide +kernel
theorem dX3_isOut_31 : decode cX3_isOut 31 = .ok (.aload_n 0, 1) := by decide +kernel
theorem dX3_isOut_32 : decode cX3_isOut 32 = .ok (.dup, 1) := by decide +kernel
theorem dX3_isOut_33 : decode cX3_isOut 33 = .ok (.getfield 59, 3) := by decide +kernel
theorem dX3_isOut_36 : decode cX3_isOut 36 = .ok (.iconst 1, 1) := by decide +kernel
theorem dX3_isOut_37 : decode cX3_isOut 37 = .ok (.iadd, 1) := by decide +kernel
theorem dX3_isOut_38 : decode cX3_isOut 38 = .ok (.putfield 59, 3) := by decide +kernel
theorem dX3_isOut_41 : decode cX3_isOut 41 = .ok (.aload_n 0, 1) := by decide +kernel
theorem dX3_isOut_42 : decode cX3_isOut 42 = .ok (.getfield 59, 3) := by decide +kernel
theorem dX3_isOut_45 : decode cX3_isOut 45 = .ok (.iconst 3, 1) := by decide +kernel
theorem dX3_isOut_46 : decode cX3_isOut 46 = .ok (.if_icmp .lt 19, 3) := by decide +kernel
theorem dX3_isOut_49 : decode cX3_isOut 49 = .ok (.aload_n 0, 1) := by decide +kernel
theorem dX3_isOut_50 : decode cX3_isOut 50 = .ok (.iconst 0, 1) := by decide +kernel
theorem dX3_isOut_51 : decode cX3_isOut 51 = .ok (.putfield 59, 3) := by decide +kernel
theorem dX3_isOut_54 : decode cX3_isOut 54 = .ok (.aload_n 0, 1) := by decide +kernel
theorem dX3_isOut_55 : decode cX3_isOut 55 = .ok (.aload_n 0, 1) := by decide +kernel
theorem dX3_isOut_56 : decode cX3_isOut 56 = .ok (.getfield 62, 3) := by decide +kernel
theorem dX3_isOut_59 : decode cX3_isOut 59 = .ok (.invokestatic 143, 3) := by decide +kernel
theorem dX3_isOut_62 : decode cX3_isOut 62 = .ok (.putfield 62, 3) := by decide +kernel
theorem dX3_isOut_65 : decode cX3_isOut 65 = .ok (.return_, 1) := by decide +kernel
theorem dX3_draw_0 : decode cX3_draw 0 = .ok (.aload_n 0, 1) := by decide +kernel
theorem dX3_draw_1 : decode cX3_draw 1 = .ok (.aload_n 0, 1) := by decide +kernel
theorem dX3_draw_2 : decode cX3_draw 2 = .ok (.getfield 68, 3) := by decide +kernel
theorem dX3_draw_5 : decode cX3_draw 5 = .ok (.ldc 156, 2) := by decide +kernel
theorem dX3_draw_7 : decode cX3_draw 7 = .ok (.imul, 1) := by decide +kernel
theorem dX3_draw_8 : decode cX3_draw 8 = .ok (.sipush 12345, 3) := by decide +kernel
theorem dX3_draw_11 : decode cX3_draw 11 = .ok (.iadd, 1) := by decide +kernel
theorem dX3_draw_12 : decode cX3_draw 12 = .ok (.putfield 68, 3) := by decide +kernel
theorem dX3_draw_15 : decode cX3_draw 15 = .ok (.aload_n 0, 1) := by decide +kernel
theorem dX3_draw_16 : decode cX3_draw 16 = .ok (.getfield 68, 3) := by decide +kernel
theorem dX3_draw_19 : decode cX3_draw 19 = .ok (.bipush 8, 2) := by decide +kernel
theorem dX3_draw_21 : decode cX3_draw 21 = .ok (.iushr, 1) := by decide +kernel
theorem dX3_draw_22 : decode cX3_draw 22 = .ok (.ireturn, 1) := by decide +kernel
theorem dX3_isSafeByDraws_0 : decode cX3_isSafeByDraws 0 = .ok (.aload_n 0, 1) := by decide +kernel
theorem dX3_isSafeByDraws_1 : decode cX3_isSafeByDraws 1 = .ok (.getfield 12, 3) := by decide +kernel
theorem dX3_isSafeByDraws_4 : decode cX3_isSafeByDraws 4 = .ok (.invokevirtual 157, 3) := by decide +kernel
theorem dX3_isSafeByDraws_7 : decode cX3_isSafeByDraws 7 = .ok (.istore_n 1, 1) := by decide +kernel
theorem dX3_isSafeByDraws_8 : decode cX3_isSafeByDraws 8 = .ok (.aload_n 0, 1) := by decide +kernel
theorem dX3_isSafeByDraws_9 : decode cX3_isSafeByDraws 9 = .ok (.getfield 21, 3) := by decide +kernel
theorem dX3_isSafeByDraws_12 : decode cX3_isSafeByDraws 12 = .ok (.getfield 161, 3) := by decide +kernel
theorem dX3_isSafeByDraws_15 : decode cX3_isSafeByDraws 15 = .ok (.ifCond .le 7, 3) := by decide +kernel
theorem dX3_isSafeByDraws_18 : decode cX3_isSafeByDraws 18 = .ok (.iload_n 1, 1) := by decide +kernel
theorem dX3_isSafeByDraws_19 : decode cX3_isSafeByDraws 19 = .ok (.ifCond .gt 5, 3) := by decide +kernel
theorem dX3_isSafeByDraws_22 : decode cX3_isSafeByDraws 22 = .ok (.iconst 0, 1) := by decide +kernel
theorem dX3_isSafeByDraws_23 : decode cX3_isSafeByDraws 23 = .ok (.ireturn, 1) := by decide +kernel
theorem dX3_isSafeByDraws_24 : decode cX3_isSafeByDraws 24 = .ok (.aload_n 0, 1) := by decide +kernel
theorem dX3_isSafeByDraws_25 : decode cX3_isSafeByDraws 25 = .ok (.invokevirtual 162, 3) := by decide +kernel
theorem dX3_isSafeByDraws_28 : decode cX3_isSafeByDraws 28 = .ok (.aload_n 0, 1) := by decide +kernel
theorem dX3_isSafeByDraws_29 : decode cX3_isSafeByDraws 29 = .ok (.getfield 21, 3) := by decide +kernel
theorem dX3_isSafeByDraws_32 : decode cX3_isSafeByDraws 32 = .ok (.getfield 161, 3) := by decide +kernel
theorem dX3_isSafeByDraws_35 : decode cX3_isSafeByDraws 35 = .ok (.irem, 1) := by decide +kernel
theorem dX3_isSafeByDraws_36 : decode cX3_isSafeByDraws 36 = .ok (.istore_n 2, 1) := by decide +kernel
theorem dX3_isSafeByDraws_37 : decode cX3_isSafeByDraws 37 = .ok (.aload_n 0, 1) := by decide +kernel
theorem dX3_isSafeByDraws_38 : decode cX3_isSafeByDraws 38 = .ok (.getfield 21, 3) := by decide +kernel
theorem dX3_isSafeByDraws_41 : decode cX3_isSafeByDraws 41 = .ok (.getfield 140, 3) := by decide +kernel
theorem dX3_isSafeByDraws_44 : decode cX3_isSafeByDraws 44 = .ok (.iload_n 2, 1) := by decide +kernel
theorem dX3_isSafeByDraws_45 : decode cX3_isSafeByDraws 45 = .ok (.aload_n 0, 1) := by decide +kernel
theorem dX3_isSafeByDraws_46 : decode cX3_isSafeByDraws 46 = .ok (.invokevirtual 162, 3) := by decide +kernel
theorem dX3_isSafeByDraws_49 : decode cX3_isSafeByDraws 49 = .ok (.bipush 21, 2) := by decide +kernel
theorem dX3_isSafeByDraws_51 : decode cX3_isSafeByDraws 51 = .ok (.irem, 1) := by decide +kernel
theorem dX3_isSafeByDraws_52 : decode cX3_isSafeByDraws 52 = .ok (.iastore, 1) := by decide +kernel
theorem dX3_isSafeByDraws_53 : decode cX3_isSafeByDraws 53 = .ok (.aload_n 0, 1) := by decide +kernel
theorem dX3_isSafeByDraws_54 : decode cX3_isSafeByDraws 54 = .ok (.getfield 12, 3) := by decide +kernel
theorem dX3_isSafeByDraws_57 : decode cX3_isSafeByDraws 57 = .ok (.aload_n 0, 1) := by decide +kernel
theorem dX3_isSafeByDraws_58 : decode cX3_isSafeByDraws 58 = .ok (.invokevirtual 162, 3) := by decide +kernel
theorem dX3_isSafeByDraws_61 : decode cX3_isSafeByDraws 61 = .ok (.iload_n 1, 1) := by decide +kernel
theorem dX3_isSafeByDraws_62 : decode cX3_isSafeByDraws 62 = .ok (.irem, 1) := by decide +kernel
theorem dX3_isSafeByDraws_63 : decode cX3_isSafeByDraws 63 = .ok (.invokevirtual 165, 3) := by decide +kernel
theorem dX3_isSafeByDraws_66 : decode cX3_isSafeByDraws 66 = .ok (.istore_n 3, 1) := by decide +kernel
theorem dX3_isSafeByDraws_67 : decode cX3_isSafeByDraws 67 = .ok (.aload_n 0, 1) := by decide +kernel
theorem dX3_isSafeByDraws_68 : decode cX3_isSafeByDraws 68 = .ok (.invokevirtual 162, 3) := by decide +kernel
theorem dX3_isSafeByDraws_71 : decode cX3_isSafeByDraws 71 = .ok (.iconst 4, 1) := by decide +kernel
theorem dX3_isSafeByDraws_72 : decode cX3_isSafeByDraws 72 = .ok (.irem, 1) := by decide +kernel
theorem dX3_isSafeByDraws_73 : decode cX3_isSafeByDraws 73 = .ok (.ifCond .ne 27, 3) := by decide +kernel
theorem dX3_isSafeByDraws_76 : decode cX3_isSafeByDraws 76 = .ok (.aload_n 0, 1) := by decide +kernel
theorem dX3_isSafeByDraws_77 : decode cX3_isSafeByDraws 77 = .ok (.iload_n 2, 1) := by decide +kernel
theorem dX3_isSafeByDraws_78 : decode cX3_isSafeByDraws 78 = .ok (.aload_n 0, 1) := by decide +kernel
theorem dX3_isSafeByDraws_79 : decode cX3_isSafeByDraws 79 = .ok (.getfield 21, 3) := by decide +kernel
theorem dX3_isSafeByDraws_82 : decode cX3_isSafeByDraws 82 = .ok (.getfield 140, 3) := by decide +kernel
theorem dX3_isSafeByDraws_85 : decode cX3_isSafeByDraws 85 = .ok (.iload_n 2, 1) := by decide +kernel
theorem dX3_isSafeByDraws_86 : decode cX3_isSafeByDraws 86 = .ok (.iaload, 1) := by decide +kernel
theorem dX3_isSafeByDraws_87 : decode cX3_isSafeByDraws 87 = .ok (.invokevirtual 168, 3) := by decide +kernel
theorem dX3_isSafeByDraws_90 : decode cX3_isSafeByDraws 90 = .ok (.ifCond .eq 10, 3) := by decide +kernel
theorem dX3_isSafeByDraws_93 : decode cX3_isSafeByDraws 93 = .ok (.aload_n 0, 1) := by decide +kernel
theorem dX3_isSafeByDraws_94 : decode cX3_isSafeByDraws 94 = .ok (.iload_n 2, 1) := by decide +kernel
theorem dX3_isSafeByDraws_95 : decode cX3_isSafeByDraws 95 = .ok (.invokevirtual 146, 3) := by decide +kernel
theorem dX3_isSafeByDraws_98 : decode cX3_isSafeByDraws 98 = .ok (.iconst 0, 1) := by decide +kernel
theorem dX3_isSafeByDraws_99 : decode cX3_isSafeByDraws 99 = .ok (.ireturn, 1) := by decide +kernel
theorem dX3_isSafeByDraws_100 : decode cX3_isSafeByDraws 100 = .ok (.aload_n 0, 1) := by decide +kernel
theorem dX3_isSafeByDraws_101 : decode cX3_isSafeByDraws 101 = .ok (.iload_n 2, 1) := by decide +kernel
theorem dX3_isSafeByDraws_102 : decode cX3_isSafeByDraws 102 = .ok (.iload_n 3, 1) := by decide +kernel
theorem dX3_isSafeByDraws_103 : decode cX3_isSafeByDraws 103 = .ok (.invokevirtual 172, 3) := by decide +kernel
theorem dX3_isSafeByDraws_106 : decode cX3_isSafeByDraws 106 = .ok (.ireturn, 1) := by decide +kernel
theorem dX3_held_0 : decode cX3_held 0 = .ok (.iload_n 1, 1) := by decide +kernel
theorem dX3_held_1 : decode cX3_held 1 = .ok (.iload_n 2, 1) := by decide +kernel
theorem dX3_held_2 : decode cX3_held 2 = .ok (.iload_n 0, 1) := by decide +kernel
theorem dX3_held_3 : decode cX3_held 3 = .ok (.invokestatic 175, 3) := by decide +kernel
theorem dX3_held_6 : decode cX3_held 6 = .ok (.invokestatic 180, 3) := by decide +kernel
theorem dX3_held_9 : decode cX3_held 9 = .ok (.ireturn, 1) := by decide +kernel
theorem dX3_oneMore_0 : decode cX3_oneMore 0 = .ok (.sipush 9999, 3) := by decide +kernel
theorem dX3_oneMore_3 : decode cX3_oneMore 3 = .ok (.iload_n 0, 1) := by decide +kernel
theorem dX3_oneMore_4 : decode cX3_oneMore 4 = .ok (.iconst 1, 1) := by decide +kernel
theorem dX3_oneMore_5 : decode cX3_oneMore 5 = .ok (.iadd, 1) := by decide +kernel
theorem dX3_oneMore_6 : decode cX3_oneMore 6 = .ok (.invokestatic 175, 3) := by decide +kernel
theorem dX3_oneMore_9 : decode cX3_oneMore 9 = .ok (.ireturn, 1) := by decide +kernel
theorem dX4_init_0 : decode cX4_init 0 = .ok (.aload_n 0, 1) := by decide +kernel
theorem dX4_init_1 : decode cX4_init 1 = .ok (.invokespecial 3, 3) := by decide +kernel
theorem dX4_init_4 : decode cX4_init 4 = .ok (.aload_n 0, 1) := by decide +kernel
theorem dX4_init_5 : decode cX4_init 5 = .ok (.iconst 4, 1) := by decide +kernel
theorem dX4_init_6 : decode cX4_init 6 = .ok (.newarray .int, 2) := by decide +kernel
theorem dX4_init_8 : decode cX4_init 8 = .ok (.putfield 9, 3) := by decide +kernel
theorem dX4_init_11 : decode cX4_init 11 = .ok (.aload_n 0, 1) := by decide +kernel
theorem dX4_init_12 : decode cX4_init 12 = .ok (.iconst 4, 1) := by decide +kernel
theorem dX4_init_13 : decode cX4_init 13 = .ok (.newarray .int, 2) := by decide +kernel
theorem dX4_init_15 : decode cX4_init 15 = .ok (.putfield 15, 3) := by decide +kernel
theorem dX4_init_18 : decode cX4_init 18 = .ok (.aload_n 0, 1) := by decide +kernel
theorem dX4_init_19 : decode cX4_init 19 = .ok (.bipush 96, 2) := by decide +kernel
theorem dX4_init_21 : decode cX4_init 21 = .ok (.newarray .int, 2) := by decide +kernel
theorem dX4_init_23 : decode cX4_init 23 = .ok (.putfield 18, 3) := by decide +kernel
theorem dX4_init_26 : decode cX4_init 26 = .ok (.return_, 1) := by decide +kernel
theorem dX4_isMissing_0 : decode cX4_isMissing 0 = .ok (.aload_n 0, 1) := by decide +kernel
theorem dX4_isMissing_1 : decode cX4_isMissing 1 = .ok (.getfield 9, 3) := by decide +kernel
theorem dX4_isMissing_4 : decode cX4_isMissing 4 = .ok (.iload_n 1, 1) := by decide +kernel
theorem dX4_isMissing_5 : decode cX4_isMissing 5 = .ok (.iaload, 1) := by decide +kernel
theorem dX4_isMissing_6 : decode cX4_isMissing 6 = .ok (.ifCond .ne 7, 3) := by decide +kernel
theorem dX4_isMissing_9 : decode cX4_isMissing 9 = .ok (.iconst 1, 1) := by decide +kernel
theorem dX4_isMissing_10 : decode cX4_isMissing 10 = .ok (.goto 4, 3) := by decide +kernel
theorem dX4_isMissing_13 : decode cX4_isMissing 13 = .ok (.iconst 0, 1) := by decide +kernel
theorem dX4_isMissing_14 : decode cX4_isMissing 14 = .ok (.ireturn, 1) := by decide +kernel
theorem dX4_lay_0 : decode cX4_lay 0 = .ok (.aload_n 0, 1) := by decide +kernel
theorem dX4_lay_1 : decode cX4_lay 1 = .ok (.getfield 9, 3) := by decide +kernel
theorem dX4_lay_4 : decode cX4_lay 4 = .ok (.iload_n 1, 1) := by decide +kernel
theorem dX4_lay_5 : decode cX4_lay 5 = .ok (.iload_n 2, 1) := by decide +kernel
theorem dX4_lay_6 : decode cX4_lay 6 = .ok (.iastore, 1) := by decide +kernel
theorem dX4_lay_7 : decode cX4_lay 7 = .ok (.aload_n 0, 1) := by decide +kernel
theorem dX4_lay_8 : decode cX4_lay 8 = .ok (.getfield 15, 3) := by decide +kernel
theorem dX4_lay_11 : decode cX4_lay 11 = .ok (.iload_n 1, 1) := by decide +kernel
theorem dX4_lay_12 : decode cX4_lay 12 = .ok (.iload_n 3, 1) := by decide +kernel
theorem dX4_lay_13 : decode cX4_lay 13 = .ok (.iastore, 1) := by decide +kernel
theorem dX4_lay_14 : decode cX4_lay 14 = .ok (.iconst 0, 1) := by decide +kernel
theorem dX4_lay_15 : decode cX4_lay 15 = .ok (.istore 4, 2) := by decide +kernel
theorem dX4_lay_17 : decode cX4_lay 17 = .ok (.iload 4, 2) := by decide +kernel
theorem dX4_lay_19 : decode cX4_lay 19 = .ok (.bipush 24, 2) := by decide +kernel
theorem dX4_lay_21 : decode cX4_lay 21 = .ok (.if_icmp .ge 22, 3) := by decide +kernel
theorem dX4_lay_24 : decode cX4_lay 24 = .ok (.aload_n 0, 1) := by decide +kernel
theorem dX4_lay_25 : decode cX4_lay 25 = .ok (.getfield 18, 3) := by decide +kernel
theorem dX4_lay_28 : decode cX4_lay 28 = .ok (.iload_n 1, 1) := by decide +kernel
theorem dX4_lay_29 : decode cX4_lay 29 = .ok (.bipush 24, 2) := by decide +kernel
theorem dX4_lay_31 : decode cX4_lay 31 = .ok (.imul, 1) := by decide +kernel
theorem dX4_lay_32 : decode cX4_lay 32 = .ok (.iload 4, 2) := by decide +kernel
theorem dX4_lay_34 : decode cX4_lay 34 = .ok (.iadd, 1) := by decide +kernel
theorem dX4_lay_35 : decode cX4_lay 35 = .ok (.iconst 0, 1) := by decide +kernel
theorem dX4_lay_36 : decode cX4_lay 36 = .ok (.iastore, 1) := by decide +kernel
theorem dX4_lay_37 : decode cX4_lay 37 = .ok (.iinc 4 1, 3) := by decide +kernel
theorem dX4_lay_40 : decode cX4_lay 40 = .ok (.goto (-23), 3) := by decide +kernel
theorem dX4_lay_43 : decode cX4_lay 43 = .ok (.return_, 1) := by decide +kernel
theorem dX4_standsAt_0 : decode cX4_standsAt 0 = .ok (.iload_n 3, 1) := by decide +kernel
theorem dX4_standsAt_1 : decode cX4_standsAt 1 = .ok (.ifCond .lt 33, 3) := by decide +kernel
theorem dX4_standsAt_4 : decode cX4_standsAt 4 = .ok (.iload_n 2, 1) := by decide +kernel
theorem dX4_standsAt_5 : decode cX4_standsAt 5 = .ok (.ifCond .lt 29, 3) := by decide +kernel
theorem dX4_standsAt_8 : decode cX4_standsAt 8 = .ok (.iload_n 2, 1) := by decide +kernel
theorem dX4_standsAt_9 : decode cX4_standsAt 9 = .ok (.aload_n 0, 1) := by decide +kernel
theorem dX4_standsAt_10 : decode cX4_standsAt 10 = .ok (.getfield 15, 3) := by decide +kernel
theorem dX4_standsAt_13 : decode cX4_standsAt 13 = .ok (.iload_n 1, 1) := by decide +kernel
theorem dX4_standsAt_14 : decode cX4_standsAt 14 = .ok (.iaload, 1) := by decide +kernel
theorem dX4_standsAt_15 : decode cX4_standsAt 15 = .ok (.if_icmp .gt 19, 3) := by decide +kernel
theorem dX4_standsAt_18 : decode cX4_standsAt 18 = .ok (.iload_n 3, 1) := by decide +kernel
theorem dX4_standsAt_19 : decode cX4_standsAt 19 = .ok (.aload_n 0, 1) := by decide +kernel
theorem dX4_standsAt_20 : decode cX4_standsAt 20 = .ok (.getfield 15, 3) := by decide +kernel
theorem dX4_standsAt_23 : decode cX4_standsAt 23 = .ok (.iload_n 1, 1) := by decide +kernel
theorem dX4_standsAt_24 : decode cX4_standsAt 24 = .ok (.iaload, 1) := by decide +kernel
theorem dX4_standsAt_25 : decode cX4_standsAt 25 = .ok (.iload_n 2, 1) := by decide +kernel
theorem dX4_standsAt_26 : decode cX4_standsAt 26 = .ok (.isub, 1) := by decide +kernel
theorem dX4_standsAt_27 : decode cX4_standsAt 27 = .ok (.if_icmp .gt 7, 3) := by decide +kernel
theorem dX4_standsAt_30 : decode cX4_standsAt 30 = .ok (.iconst 1, 1) := by decide +kernel
theorem dX4_standsAt_31 : decode cX4_standsAt 31 = .ok (.goto 4, 3) := by decide +kernel
theorem dX4_standsAt_34 : decode cX4_standsAt 34 = .ok (.iconst 0, 1) := by decide +kernel
theorem dX4_standsAt_35 : decode cX4_standsAt 35 = .ok (.ireturn, 1) := by decide +kernel
theorem dX4_read_0 : decode cX4_read 0 = .ok (.aload_n 0, 1) := by decide +kernel
theorem dX4_read_1 : decode cX4_read 1 = .ok (.getfield 18, 3) := by decide +kernel
theorem dX4_read_4 : decode cX4_read 4 = .ok (.iload_n 1, 1) := by decide +kernel
theorem dX4_read_5 : decode cX4_read 5 = .ok (.bipush 24, 2) := by decide +kernel
theorem dX4_read_7 : decode cX4_read 7 = .ok (.imul, 1) := by decide +kernel
theorem dX4_read_8 : decode cX4_read 8 = .ok (.iload_n 2, 1) := by decide +kernel
theorem dX4_read_9 : decode cX4_read 9 = .ok (.iadd, 1) := by decide +kernel
theorem dX4_read_10 : decode cX4_read 10 = .ok (.iaload, 1) := by decide +kernel
theorem dX4_read_11 : decode cX4_read 11 = .ok (.ireturn, 1) := by decide +kernel
theorem dX4_write_0 : decode cX4_write 0 = .ok (.aload_n 0, 1) := by decide +kernel
theorem dX4_write_1 : decode cX4_write 1 = .ok (.getfield 9, 3) := by decide +kernel
theorem dX4_write_4 : decode cX4_write 4 = .ok (.iload_n 1, 1) := by decide +kernel
theorem dX4_write_5 : decode cX4_write 5 = .ok (.iaload, 1) := by decide +kernel
theorem dX4_write_6 : decode cX4_write 6 = .ok (.bipush 8, 2) := by decide +kernel
theorem dX4_write_8 : decode cX4_write 8 = .ok (.if_icmp .ne 11, 3) := by decide +kernel
theorem dX4_write_11 : decode cX4_write 11 = .ok (.iload_n 3, 1) := by decide +kernel
theorem dX4_write_12 : decode cX4_write 12 = .ok (.sipush 255, 3) := by decide +kernel
theorem dX4_write_15 : decode cX4_write 15 = .ok (.iand, 1) := by decide +kernel
theorem dX4_write_16 : decode cX4_write 16 = .ok (.goto 22, 3) := by decide +kernel
theorem dX4_write_19 : decode cX4_write 19 = .ok (.aload_n 0, 1) := by decide +kernel
theorem dX4_write_20 : decode cX4_write 20 = .ok (.getfield 9, 3) := by decide +kernel
theorem dX4_write_23 : decode cX4_write 23 = .ok (.iload_n 1, 1) := by decide +kernel
theorem dX4_write_24 : decode cX4_write 24 = .ok (.iaload, 1) := by decide +kernel
theorem dX4_write_25 : decode cX4_write 25 = .ok (.bipush 16, 2) := by decide +kernel
theorem dX4_write_27 : decode cX4_write 27 = .ok (.if_icmp .ne 10, 3) := by decide +kernel
theorem dX4_write_30 : decode cX4_write 30 = .ok (.iload_n 3, 1) := by decide +kernel
theorem dX4_write_31 : decode cX4_write 31 = .ok (.ldc 21, 2) := by decide +kernel
theorem dX4_write_33 : decode cX4_write 33 = .ok (.iand, 1) := by decide +kernel
theorem dX4_write_34 : decode cX4_write 34 = .ok (.goto 4, 3) := by decide +kernel
theorem dX4_write_37 : decode cX4_write 37 = .ok (.iload_n 3, 1) := by decide +kernel
theorem dX4_write_38 : decode cX4_write 38 = .ok (.istore 4, 2) := by decide +kernel
theorem dX4_write_40 : decode cX4_write 40 = .ok (.aload_n 0, 1) := by decide +kernel
theorem dX4_write_41 : decode cX4_write 41 = .ok (.getfield 18, 3) := by decide +kernel
theorem dX4_write_44 : decode cX4_write 44 = .ok (.iload_n 1, 1) := by decide +kernel
theorem dX4_write_45 : decode cX4_write 45 = .ok (.bipush 24, 2) := by decide +kernel
theorem dX4_write_47 : decode cX4_write 47 = .ok (.imul, 1) := by decide +kernel
theorem dX4_write_48 : decode cX4_write 48 = .ok (.iload_n 2, 1) := by decide +kernel
theorem dX4_write_49 : decode cX4_write 49 = .ok (.iadd, 1) := by decide +kernel
theorem dX4_write_50 : decode cX4_write 50 = .ok (.iload 4, 2) := by decide +kernel
theorem dX4_write_52 : decode cX4_write 52 = .ok (.iastore, 1) := by decide +kernel
theorem dX4_write_53 : decode cX4_write 53 = .ok (.return_, 1) := by decide +kernel
theorem dX4_copy_0 : decode cX4_copy 0 = .ok (.aload_n 0, 1) := by decide +kernel
theorem dX4_copy_1 : decode cX4_copy 1 = .ok (.getfield 18, 3) := by decide +kernel
theorem dX4_copy_4 : decode cX4_copy 4 = .ok (.iload_n 1, 1) := by decide +kernel
theorem dX4_copy_5 : decode cX4_copy 5 = .ok (.bipush 24, 2) := by decide +kernel
theorem dX4_copy_7 : decode cX4_copy 7 = .ok (.imul, 1) := by decide +kernel
theorem dX4_copy_8 : decode cX4_copy 8 = .ok (.iload_n 2, 1) := by decide +kernel
theorem dX4_copy_9 : decode cX4_copy 9 = .ok (.iadd, 1) := by decide +kernel
theorem dX4_copy_10 : decode cX4_copy 10 = .ok (.aload_n 0, 1) := by decide +kernel
theorem dX4_copy_11 : decode cX4_copy 11 = .ok (.getfield 18, 3) := by decide +kernel
theorem dX4_copy_14 : decode cX4_copy 14 = .ok (.iload_n 3, 1) := by decide +kernel
theorem dX4_copy_15 : decode cX4_copy 15 = .ok (.bipush 24, 2) := by decide +kernel
theorem dX4_copy_17 : decode cX4_copy 17 = .ok (.imul, 1) := by decide +kernel
theorem dX4_copy_18 : decode cX4_copy 18 = .ok (.iload 4, 2) := by decide +kernel
theorem dX4_copy_20 : decode cX4_copy 20 = .ok (.iadd, 1) := by decide +kernel
theorem dX4_copy_21 : decode cX4_copy 21 = .ok (.iload 5, 2) := by decide +kernel
theorem dX4_copy_23 : decode cX4_copy 23 = .ok (.invokestatic 22, 3) := by decide +kernel
theorem dX4_copy_26 : decode cX4_copy 26 = .ok (.return_, 1) := by decide +kernel
theorem dX5_init_0 : decode cX5_init 0 = .ok (.aload_n 0, 1) := by decide +kernel
theorem dX5_init_1 : decode cX5_init 1 = .ok (.invokespecial 3, 3) := by decide +kernel
theorem dX5_init_4 : decode cX5_init 4 = .ok (.aload_n 0, 1) := by decide +kernel
theorem dX5_init_5 : decode cX5_init 5 = .ok (.bipush 60, 2) := by decide +kernel
theorem dX5_init_7 : decode cX5_init 7 = .ok (.newarray .int, 2) := by decide +kernel
theorem dX5_init_9 : decode cX5_init 9 = .ok (.putfield 9, 3) := by decide +kernel
theorem dX5_init_12 : decode cX5_init 12 = .ok (.aload_n 0, 1) := by decide +kernel
theorem dX5_init_13 : decode cX5_init 13 = .ok (.bipush 60, 2) := by decide +kernel
theorem dX5_init_15 : decode cX5_init 15 = .ok (.newarray .int, 2) := by decide +kernel
theorem dX5_init_17 : decode cX5_init 17 = .ok (.putfield 15, 3) := by decide +kernel
theorem dX5_init_20 : decode cX5_init 20 = .ok (.aload_n 0, 1) := by decide +kernel
theorem dX5_init_21 : decode cX5_init 21 = .ok (.iconst 0, 1) := by decide +kernel
theorem dX5_init_22 : decode cX5_init 22 = .ok (.putfield 18, 3) := by decide +kernel
theorem dX5_init_25 : decode cX5_init 25 = .ok (.aload_n 0, 1) := by decide +kernel
theorem dX5_init_26 : decode cX5_init 26 = .ok (.iconst 0, 1) := by decide +kernel
theorem dX5_init_27 : decode cX5_init 27 = .ok (.putfield 22, 3) := by decide +kernel
theorem dX5_init_30 : decode cX5_init 30 = .ok (.return_, 1) := by decide +kernel
theorem dX5_takes_0 : decode cX5_takes 0 = .ok (.aload_n 1, 1) := by decide +kernel
theorem dX5_takes_1 : decode cX5_takes 1 = .ok (.getfield 9, 3) := by decide +kernel
theorem dX5_takes_4 : decode cX5_takes 4 = .ok (.iconst 0, 1) := by decide +kernel
theorem dX5_takes_5 : decode cX5_takes 5 = .ok (.aload_n 0, 1) := by decide +kernel
theorem dX5_takes_6 : decode cX5_takes 6 = .ok (.getfield 9, 3) := by decide +kernel
theorem dX5_takes_9 : decode cX5_takes 9 = .ok (.iconst 0, 1) := by decide +kernel
theorem dX5_takes_10 : decode cX5_takes 10 = .ok (.bipush 60, 2) := by decide +kernel
theorem dX5_takes_12 : decode cX5_takes 12 = .ok (.invokestatic 26, 3) := by decide +kernel
theorem dX5_takes_15 : decode cX5_takes 15 = .ok (.aload_n 0, 1) := by decide +kernel
theorem dX5_takes_16 : decode cX5_takes 16 = .ok (.aload_n 1, 1) := by decide +kernel
theorem dX5_takes_17 : decode cX5_takes 17 = .ok (.getfield 18, 3) := by decide +kernel
theorem dX5_takes_20 : decode cX5_takes 20 = .ok (.putfield 18, 3) := by decide +kernel
theorem dX5_takes_23 : decode cX5_takes 23 = .ok (.aload_n 0, 1) := by decide +kernel
theorem dX5_takes_24 : decode cX5_takes 24 = .ok (.aload_n 1, 1) := by decide +kernel
theorem dX5_takes_25 : decode cX5_takes 25 = .ok (.getfield 22, 3) := by decide +kernel
theorem dX5_takes_28 : decode cX5_takes 28 = .ok (.putfield 22, 3) := by decide +kernel
theorem dX5_takes_31 : decode cX5_takes 31 = .ok (.return_, 1) := by decide +kernel
theorem dX5_add_0 : decode cX5_add 0 = .ok (.aload_n 0, 1) := by decide +kernel
theorem dX5_add_1 : decode cX5_add 1 = .ok (.getfield 18, 3) := by decide +kernel
theorem dX5_add_4 : decode cX5_add 4 = .ok (.bipush 60, 2) := by decide +kernel
theorem dX5_add_6 : decode cX5_add 6 = .ok (.if_icmp .ge 23, 3) := by decide +kernel
theorem dX5_add_9 : decode cX5_add 9 = .ok (.aload_n 0, 1) := by decide +kernel
theorem dX5_add_10 : decode cX5_add 10 = .ok (.getfield 9, 3) := by decide +kernel
theorem dX5_add_13 : decode cX5_add 13 = .ok (.aload_n 0, 1) := by decide +kernel
theorem dX5_add_14 : decode cX5_add 14 = .ok (.getfield 18, 3) := by decide +kernel
theorem dX5_add_17 : decode cX5_add 17 = .ok (.iload_n 1, 1) := by decide +kernel
theorem dX5_add_18 : decode cX5_add 18 = .ok (.iastore, 1) := by decide +kernel
theorem dX5_add_19 : decode cX5_add 19 = .ok (.aload_n 0, 1) := by decide +kernel
theorem dX5_add_20 : decode cX5_add 20 = .ok (.dup, 1) := by decide +kernel
theorem dX5_add_21 : decode cX5_add 21 = .ok (.getfield 18, 3) := by decide +kernel
theorem dX5_add_24 : decode cX5_add 24 = .ok (.iconst 1, 1) := by decide +kernel
theorem dX5_add_25 : decode cX5_add 25 = .ok (.iadd, 1) := by decide +kernel
theorem dX5_add_26 : decode cX5_add 26 = .ok (.putfield 18, 3) := by decide +kernel
theorem dX5_add_29 : decode cX5_add 29 = .ok (.return_, 1) := by decide +kernel
theorem dX5_work_0 : decode cX5_work 0 = .ok (.iconst 0, 1) := by decide +kernel
theorem dX5_work_1 : decode cX5_work 1 = .ok (.istore 4, 2) := by decide +kernel
theorem dX5_work_3 : decode cX5_work 3 = .ok (.iconst 0, 1) := by decide +kernel
theorem dX5_work_4 : decode cX5_work 4 = .ok (.istore 5, 2) := by decide +kernel
theorem dX5_work_6 : decode cX5_work 6 = .ok (.iload 5, 2) := by decide +kernel
theorem dX5_work_8 : decode cX5_work 8 = .ok (.aload_n 0, 1) := by decide +kernel
theorem dX5_work_9 : decode cX5_work 9 = .ok (.getfield 18, 3) := by decide +kernel
theorem dX5_work_12 : decode cX5_work 12 = .ok (.if_icmp .ge 149, 3) := by decide +kernel
theorem dX5_work_15 : decode cX5_work 15 = .ok (.iload 4, 2) := by decide +kernel
theorem dX5_work_17 : decode cX5_work 17 = .ok (.bipush 60, 2) := by decide +kernel
theorem dX5_work_19 : decode cX5_work 19 = .ok (.if_icmp .ge 142, 3) := by decide +kernel
theorem dX5_work_22 : decode cX5_work 22 = .ok (.aload_n 0, 1) := by decide +kernel
theorem dX5_work_23 : decode cX5_work 23 = .ok (.getfield 9, 3) := by decide +kernel
theorem dX5_work_26 : decode cX5_work 26 = .ok (.iload 5, 2) := by decide +kernel
theorem dX5_work_28 : decode cX5_work 28 = .ok (.iaload, 1) := by decide +kernel
theorem dX5_work_29 : decode cX5_work 29 = .ok (.istore 6, 2) := by decide +kernel
theorem dX5_work_31 : decode cX5_work 31 = .ok (.iload 6, 2) := by decide +kernel
theorem dX5_work_33 : decode cX5_work 33 = .ok (.bipush (-3), 2) := by decide +kernel
theorem dX5_work_35 : decode cX5_work 35 = .ok (.if_icmp .lt 34, 3) := by decide +kernel
theorem dX5_work_38 : decode cX5_work 38 = .ok (.aload_n 0, 1) := by decide +kernel
theorem dX5_work_39 : decode cX5_work 39 = .ok (.getfield 15, 3) := by decide +kernel
theorem dX5_work_42 : decode cX5_work 42 = .ok (.iload 4, 2) := by decide +kernel
theorem dX5_work_44 : decode cX5_work 44 = .ok (.iload 6, 2) := by decide +kernel
theorem dX5_work_46 : decode cX5_work 46 = .ok (.ifCond .lt 8, 3) := by decide +kernel
theorem dX5_work_49 : decode cX5_work 49 = .ok (.iload 6, 2) := by decide +kernel
theorem dX5_work_51 : decode cX5_work 51 = .ok (.goto 11, 3) := by decide +kernel
theorem dX5_work_54 : decode cX5_work 54 = .ok (.iload 6, 2) := by decide +kernel
theorem dX5_work_56 : decode cX5_work 56 = .ok (.iload_n 1, 1) := by decide +kernel
theorem dX5_work_57 : decode cX5_work 57 = .ok (.iload_n 2, 1) := by decide +kernel
theorem dX5_work_58 : decode cX5_work 58 = .ok (.iload_n 3, 1) := by decide +kernel
theorem dX5_work_59 : decode cX5_work 59 = .ok (.invokestatic 32, 3) := by decide +kernel
theorem dX5_work_62 : decode cX5_work 62 = .ok (.iastore, 1) := by decide +kernel
theorem dX5_work_63 : decode cX5_work 63 = .ok (.iinc 4 1, 3) := by decide +kernel
theorem dX5_work_66 : decode cX5_work 66 = .ok (.goto 89, 3) := by decide +kernel
theorem dX5_work_69 : decode cX5_work 69 = .ok (.iload 6, 2) := by decide +kernel
theorem dX5_work_71 : decode cX5_work 71 = .ok (.bipush (-33), 2) := by decide +kernel
theorem dX5_work_73 : decode cX5_work 73 = .ok (.if_icmp .ne 40, 3) := by decide +kernel
theorem dX5_work_76 : decode cX5_work 76 = .ok (.iload 4, 2) := by decide +kernel
theorem dX5_work_78 : decode cX5_work 78 = .ok (.iconst 1, 1) := by decide +kernel
theorem dX5_work_79 : decode cX5_work 79 = .ok (.if_icmp .ge 5, 3) := by decide +kernel
theorem dX5_work_82 : decode cX5_work 82 = .ok (.iconst 0, 1) := by decide +kernel
theorem dX5_work_83 : decode cX5_work 83 = .ok (.ireturn, 1) := by decide +kernel
theorem dX5_work_84 : decode cX5_work 84 = .ok (.aload_n 0, 1) := by decide +kernel
theorem dX5_work_85 : decode cX5_work 85 = .ok (.getfield 15, 3) := by decide +kernel
theorem dX5_work_88 : decode cX5_work 88 = .ok (.iload 4, 2) := by decide +kernel
theorem dX5_work_90 : decode cX5_work 90 = .ok (.iconst 1, 1) := by decide +kernel
theorem dX5_work_91 : decode cX5_work 91 = .ok (.isub, 1) := by decide +kernel
theorem dX5_work_92 : decode cX5_work 92 = .ok (.aload_n 0, 1) := by decide +kernel
theorem dX5_work_93 : decode cX5_work 93 = .ok (.getfield 15, 3) := by decide +kernel
theorem dX5_work_96 : decode cX5_work 96 = .ok (.iload 4, 2) := by decide +kernel
theorem dX5_work_98 : decode cX5_work 98 = .ok (.iconst 1, 1) := by decide +kernel
theorem dX5_work_99 : decode cX5_work 99 = .ok (.isub, 1) := by decide +kernel
theorem dX5_work_100 : decode cX5_work 100 = .ok (.iaload, 1) := by decide +kernel
theorem dX5_work_101 : decode cX5_work 101 = .ok (.ifCond .ne 7, 3) := by decide +kernel
theorem dX5_work_104 : decode cX5_work 104 = .ok (.iconst 1, 1) := by decide +kernel
theorem dX5_work_105 : decode cX5_work 105 = .ok (.goto 4, 3) := by decide +kernel
theorem dX5_work_108 : decode cX5_work 108 = .ok (.iconst 0, 1) := by decide +kernel
theorem dX5_work_109 : decode cX5_work 109 = .ok (.iastore, 1) := by decide +kernel
theorem dX5_work_110 : decode cX5_work 110 = .ok (.goto 45, 3) := by decide +kernel
theorem dX5_work_113 : decode cX5_work 113 = .ok (.iload 4, 2) := by decide +kernel
theorem dX5_work_115 : decode cX5_work 115 = .ok (.iconst 2, 1) := by decide +kernel
theorem dX5_work_116 : decode cX5_work 116 = .ok (.if_icmp .ge 5, 3) := by decide +kernel
theorem dX5_work_119 : decode cX5_work 119 = .ok (.iconst 0, 1) := by decide +kernel
theorem dX5_work_120 : decode cX5_work 120 = .ok (.ireturn, 1) := by decide +kernel
theorem dX5_work_121 : decode cX5_work 121 = .ok (.iinc 4 (-1), 3) := by decide +kernel
theorem dX5_work_124 : decode cX5_work 124 = .ok (.aload_n 0, 1) := by decide +kernel
theorem dX5_work_125 : decode cX5_work 125 = .ok (.getfield 15, 3) := by decide +kernel
theorem dX5_work_128 : decode cX5_work 128 = .ok (.iload 4, 2) := by decide +kernel
theorem dX5_work_130 : decode cX5_work 130 = .ok (.iconst 1, 1) := by decide +kernel
theorem dX5_work_131 : decode cX5_work 131 = .ok (.isub, 1) := by decide +kernel
theorem dX5_work_132 : decode cX5_work 132 = .ok (.iload 6, 2) := by decide +kernel
theorem dX5_work_134 : decode cX5_work 134 = .ok (.ineg, 1) := by decide +kernel
theorem dX5_work_135 : decode cX5_work 135 = .ok (.aload_n 0, 1) := by decide +kernel
theorem dX5_work_136 : decode cX5_work 136 = .ok (.getfield 15, 3) := by decide +kernel
theorem dX5_work_139 : decode cX5_work 139 = .ok (.iload 4, 2) := by decide +kernel
theorem dX5_work_141 : decode cX5_work 141 = .ok (.iconst 1, 1) := by decide +kernel
theorem dX5_work_142 : decode cX5_work 142 = .ok (.isub, 1) := by decide +kernel
theorem dX5_work_143 : decode cX5_work 143 = .ok (.iaload, 1) := by decide +kernel
theorem dX5_work_144 : decode cX5_work 144 = .ok (.aload_n 0, 1) := by decide +kernel
theorem dX5_work_145 : decode cX5_work 145 = .ok (.getfield 15, 3) := by decide +kernel
theorem dX5_work_148 : decode cX5_work 148 = .ok (.iload 4, 2) := by decide +kernel
theorem dX5_work_150 : decode cX5_work 150 = .ok (.iaload, 1) := by decide +kernel
theorem dX5_work_151 : decode cX5_work 151 = .ok (.invokestatic 36, 3) := by decide +kernel
theorem dX5_work_154 : decode cX5_work 154 = .ok (.iastore, 1) := by decide +kernel
theorem dX5_work_155 : decode cX5_work 155 = .ok (.iinc 5 1, 3) := by decide +kernel
theorem dX5_work_158 : decode cX5_work 158 = .ok (.goto (-152), 3) := by decide +kernel
theorem dX5_work_161 : decode cX5_work 161 = .ok (.aload_n 0, 1) := by decide +kernel
theorem dX5_work_162 : decode cX5_work 162 = .ok (.getfield 15, 3) := by decide +kernel
theorem dX5_work_165 : decode cX5_work 165 = .ok (.iconst 0, 1) := by decide +kernel
theorem dX5_work_166 : decode cX5_work 166 = .ok (.iaload, 1) := by decide +kernel
theorem dX5_work_167 : decode cX5_work 167 = .ok (.ireturn, 1) := by decide +kernel
theorem dX5_named_0 : decode cX5_named 0 = .ok (.iload_n 0, 1) := by decide +kernel
theorem dX5_named_1 : decode cX5_named 1 = .ok (.lookupswitch 31 #[(-2, 29), (-1, 27)], 27) := by decide +kernel
theorem dX5_named_28 : decode cX5_named 28 = .ok (.iload_n 1, 1) := by decide +kernel
theorem dX5_named_29 : decode cX5_named 29 = .ok (.ireturn, 1) := by decide +kernel
theorem dX5_named_30 : decode cX5_named 30 = .ok (.iload_n 2, 1) := by decide +kernel
theorem dX5_named_31 : decode cX5_named 31 = .ok (.ireturn, 1) := by decide +kernel
theorem dX5_named_32 : decode cX5_named 32 = .ok (.iload_n 3, 1) := by decide +kernel
theorem dX5_named_33 : decode cX5_named 33 = .ok (.ireturn, 1) := by decide +kernel
theorem dX5_joined_0 : decode cX5_joined 0 = .ok (.iload_n 0, 1) := by decide +kernel
theorem dX5_joined_1 : decode cX5_joined 1 = .ok (.lookupswitch 188 #[(37, 176), (38, 105), (42, 160), (43, 152), (45, 156), (47, 164), (60, 119), (61, 130), (62, 141), (124, 91)], 91) := by decide +kernel
theorem dX5_joined_92 : decode cX5_joined 92 = .ok (.iload_n 1, 1) := by decide +kernel
theorem dX5_joined_93 : decode cX5_joined 93 = .ok (.ifCond .ne 7, 3) := by decide +kernel
theorem dX5_joined_96 : decode cX5_joined 96 = .ok (.iload_n 2, 1) := by decide +kernel
theorem dX5_joined_97 : decode cX5_joined 97 = .ok (.ifCond .eq 7, 3) := by decide +kernel
theorem dX5_joined_100 : decode cX5_joined 100 = .ok (.iconst 1, 1) := by decide +kernel
theorem dX5_joined_101 : decode cX5_joined 101 = .ok (.goto 4, 3) := by decide +kernel
theorem dX5_joined_104 : decode cX5_joined 104 = .ok (.iconst 0, 1) := by decide +kernel
theorem dX5_joined_105 : decode cX5_joined 105 = .ok (.ireturn, 1) := by decide +kernel
theorem dX5_joined_106 : decode cX5_joined 106 = .ok (.iload_n 1, 1) := by decide +kernel
theorem dX5_joined_107 : decode cX5_joined 107 = .ok (.ifCond .eq 11, 3) := by decide +kernel
theorem dX5_joined_110 : decode cX5_joined 110 = .ok (.iload_n 2, 1) := by decide +kernel
theorem dX5_joined_111 : decode cX5_joined 111 = .ok (.ifCond .eq 7, 3) := by decide +kernel
theorem dX5_joined_114 : decode cX5_joined 114 = .ok (.iconst 1, 1) := by decide +kernel
theorem dX5_joined_115 : decode cX5_joined 115 = .ok (.goto 4, 3) := by decide +kernel
theorem dX5_joined_118 : decode cX5_joined 118 = .ok (.iconst 0, 1) := by decide +kernel
theorem dX5_joined_119 : decode cX5_joined 119 = .ok (.ireturn, 1) := by decide +kernel
theorem dX5_joined_120 : decode cX5_joined 120 = .ok (.iload_n 1, 1) := by decide +kernel
theorem dX5_joined_121 : decode cX5_joined 121 = .ok (.iload_n 2, 1) := by decide +kernel
theorem dX5_joined_122 : decode cX5_joined 122 = .ok (.if_icmp .ge 7, 3) := by decide +kernel
theorem dX5_joined_125 : decode cX5_joined 125 = .ok (.iconst 1, 1) := by decide +kernel
theorem dX5_joined_126 : decode cX5_joined 126 = .ok (.goto 4, 3) := by decide +kernel
theorem dX5_joined_129 : decode cX5_joined 129 = .ok (.iconst 0, 1) := by decide +kernel
theorem dX5_joined_130 : decode cX5_joined 130 = .ok (.ireturn, 1) := by decide +kernel
theorem dX5_joined_131 : decode cX5_joined 131 = .ok (.iload_n 1, 1) := by decide +kernel
theorem dX5_joined_132 : decode cX5_joined 132 = .ok (.iload_n 2, 1) := by decide +kernel
theorem dX5_joined_133 : decode cX5_joined 133 = .ok (.if_icmp .ne 7, 3) := by decide +kernel
theorem dX5_joined_136 : decode cX5_joined 136 = .ok (.iconst 1, 1) := by decide +kernel
theorem dX5_joined_137 : decode cX5_joined 137 = .ok (.goto 4, 3) := by decide +kernel
theorem dX5_joined_140 : decode cX5_joined 140 = .ok (.iconst 0, 1) := by decide +kernel
theorem dX5_joined_141 : decode cX5_joined 141 = .ok (.ireturn, 1) := by decide +kernel
theorem dX5_joined_142 : decode cX5_joined 142 = .ok (.iload_n 1, 1) := by decide +kernel
theorem dX5_joined_143 : decode cX5_joined 143 = .ok (.iload_n 2, 1) := by decide +kernel
theorem dX5_joined_144 : decode cX5_joined 144 = .ok (.if_icmp .le 7, 3) := by decide +kernel
theorem dX5_joined_147 : decode cX5_joined 147 = .ok (.iconst 1, 1) := by decide +kernel
theorem dX5_joined_148 : decode cX5_joined 148 = .ok (.goto 4, 3) := by decide +kernel
theorem dX5_joined_151 : decode cX5_joined 151 = .ok (.iconst 0, 1) := by decide +kernel
theorem dX5_joined_152 : decode cX5_joined 152 = .ok (.ireturn, 1) := by decide +kernel
theorem dX5_joined_153 : decode cX5_joined 153 = .ok (.iload_n 1, 1) := by decide +kernel
theorem dX5_joined_154 : decode cX5_joined 154 = .ok (.iload_n 2, 1) := by decide +kernel
theorem dX5_joined_155 : decode cX5_joined 155 = .ok (.iadd, 1) := by decide +kernel
theorem dX5_joined_156 : decode cX5_joined 156 = .ok (.ireturn, 1) := by decide +kernel
theorem dX5_joined_157 : decode cX5_joined 157 = .ok (.iload_n 1, 1) := by decide +kernel
theorem dX5_joined_158 : decode cX5_joined 158 = .ok (.iload_n 2, 1) := by decide +kernel
theorem dX5_joined_159 : decode cX5_joined 159 = .ok (.isub, 1) := by decide +kernel
theorem dX5_joined_160 : decode cX5_joined 160 = .ok (.ireturn, 1) := by decide +kernel
theorem dX5_joined_161 : decode cX5_joined 161 = .ok (.iload_n 1, 1) := by decide +kernel
theorem dX5_joined_162 : decode cX5_joined 162 = .ok (.iload_n 2, 1) := by decide +kernel
theorem dX5_joined_163 : decode cX5_joined 163 = .ok (.imul, 1) := by decide +kernel
theorem dX5_joined_164 : decode cX5_joined 164 = .ok (.ireturn, 1) := by decide +kernel
theorem dX5_joined_165 : decode cX5_joined 165 = .ok (.iload_n 2, 1) := by decide +kernel
theorem dX5_joined_166 : decode cX5_joined 166 = .ok (.ifCond .ne 7, 3) := by decide +kernel
theorem dX5_joined_169 : decode cX5_joined 169 = .ok (.iconst 0, 1) := by decide +kernel
theorem dX5_joined_170 : decode cX5_joined 170 = .ok (.goto 6, 3) := by decide +kernel
theorem dX5_joined_173 : decode cX5_joined 173 = .ok (.iload_n 1, 1) := by decide +kernel
theorem dX5_joined_174 : decode cX5_joined 174 = .ok (.iload_n 2, 1) := by decide +kernel
theorem dX5_joined_175 : decode cX5_joined 175 = .ok (.idiv, 1) := by decide +kernel
theorem dX5_joined_176 : decode cX5_joined 176 = .ok (.ireturn, 1) := by decide +kernel
theorem dX5_joined_177 : decode cX5_joined 177 = .ok (.iload_n 2, 1) := by decide +kernel
theorem dX5_joined_178 : decode cX5_joined 178 = .ok (.ifCond .ne 7, 3) := by decide +kernel
theorem dX5_joined_181 : decode cX5_joined 181 = .ok (.iconst 0, 1) := by decide +kernel
theorem dX5_joined_182 : decode cX5_joined 182 = .ok (.goto 6, 3) := by decide +kernel
theorem dX5_joined_185 : decode cX5_joined 185 = .ok (.iload_n 1, 1) := by decide +kernel
theorem dX5_joined_186 : decode cX5_joined 186 = .ok (.iload_n 2, 1) := by decide +kernel
theorem dX5_joined_187 : decode cX5_joined 187 = .ok (.irem, 1) := by decide +kernel
theorem dX5_joined_188 : decode cX5_joined 188 = .ok (.ireturn, 1) := by decide +kernel
theorem dX5_joined_189 : decode cX5_joined 189 = .ok (.iconst 0, 1) := by decide +kernel
theorem dX5_joined_190 : decode cX5_joined 190 = .ok (.ireturn, 1) := by decide +kernel
theorem dX6_init_0 : decode cX6_init 0 = .ok (.aload_n 0, 1) := by decide +kernel
theorem dX6_init_1 : decode cX6_init 1 = .ok (.invokespecial 3, 3) := by decide +kernel
theorem dX6_init_4 : decode cX6_init 4 = .ok (.aload_n 0, 1) := by decide +kernel
theorem dX6_init_5 : decode cX6_init 5 = .ok (.bipush 30, 2) := by decide +kernel
theorem dX6_init_7 : decode cX6_init 7 = .ok (.newarray .int, 2) := by decide +kernel
theorem dX6_init_9 : decode cX6_init 9 = .ok (.putfield 9, 3) := by decide +kernel
theorem dX6_init_12 : decode cX6_init 12 = .ok (.aload_n 0, 1) := by decide +kernel
theorem dX6_init_13 : decode cX6_init 13 = .ok (.iconst 0, 1) := by decide +kernel
theorem dX6_init_14 : decode cX6_init 14 = .ok (.putfield 15, 3) := by decide +kernel
theorem dX6_init_17 : decode cX6_init 17 = .ok (.aload_n 0, 1) := by decide +kernel
theorem dX6_init_18 : decode cX6_init 18 = .ok (.iconst 0, 1) := by decide +kernel
theorem dX6_init_19 : decode cX6_init 19 = .ok (.putfield 19, 3) := by decide +kernel
theorem dX6_init_22 : decode cX6_init 22 = .ok (.aload_n 0, 1) := by decide +kernel
theorem dX6_init_23 : decode cX6_init 23 = .ok (.iconst 0, 1) := by decide +kernel
theorem dX6_init_24 : decode cX6_init 24 = .ok (.putfield 23, 3) := by decide +kernel
theorem dX6_init_27 : decode cX6_init 27 = .ok (.aload_n 0, 1) := by decide +kernel
theorem dX6_init_28 : decode cX6_init 28 = .ok (.iconst 0, 1) := by decide +kernel
theorem dX6_init_29 : decode cX6_init 29 = .ok (.putfield 26, 3) := by decide +kernel
theorem dX6_init_32 : decode cX6_init 32 = .ok (.aload_n 0, 1) := by decide +kernel
theorem dX6_init_33 : decode cX6_init 33 = .ok (.iconst 0, 1) := by decide +kernel
theorem dX6_init_34 : decode cX6_init 34 = .ok (.putfield 29, 3) := by decide +kernel
theorem dX6_init_37 : decode cX6_init 37 = .ok (.return_, 1) := by decide +kernel
theorem dX6_speak_0 : decode cX6_speak 0 = .ok (.aload_n 0, 1) := by decide +kernel
theorem dX6_speak_1 : decode cX6_speak 1 = .ok (.iconst 0, 1) := by decide +kernel
theorem dX6_speak_2 : decode cX6_speak 2 = .ok (.putfield 15, 3) := by decide +kernel
theorem dX6_speak_5 : decode cX6_speak 5 = .ok (.aload_n 0, 1) := by decide +kernel
theorem dX6_speak_6 : decode cX6_speak 6 = .ok (.iconst 0, 1) := by decide +kernel
theorem dX6_speak_7 : decode cX6_speak 7 = .ok (.putfield 19, 3) := by decide +kernel
theorem dX6_speak_10 : decode cX6_speak 10 = .ok (.aload_n 0, 1) := by decide +kernel
theorem dX6_speak_11 : decode cX6_speak 11 = .ok (.iload_n 1, 1) := by decide +kernel
theorem dX6_speak_12 : decode cX6_speak 12 = .ok (.putfield 23, 3) := by decide +kernel
theorem dX6_speak_15 : decode cX6_speak 15 = .ok (.aload_n 0, 1) := by decide +kernel
theorem dX6_speak_16 : decode cX6_speak 16 = .ok (.iload_n 2, 1) := by decide +kernel
theorem dX6_speak_17 : decode cX6_speak 17 = .ok (.putfield 29, 3) := by decide +kernel
theorem dX6_speak_20 : decode cX6_speak 20 = .ok (.aload_n 0, 1) := by decide +kernel
theorem dX6_speak_21 : decode cX6_speak 21 = .ok (.iload_n 3, 1) := by decide +kernel
theorem dX6_speak_22 : decode cX6_speak 22 = .ok (.putfield 26, 3) := by decide +kernel
theorem dX6_speak_25 : decode cX6_speak 25 = .ok (.aload_n 0, 1) := by decide +kernel
theorem dX6_speak_26 : decode cX6_speak 26 = .ok (.iload_n 2, 1) := by decide +kernel
theorem dX6_speak_27 : decode cX6_speak 27 = .ok (.iload 4, 2) := by decide +kernel
theorem dX6_speak_29 : decode cX6_speak 29 = .ok (.iload 5, 2) := by decide +kernel
theorem dX6_speak_31 : decode cX6_speak 31 = .ok (.iconst 0, 1) := by decide +kernel
theorem dX6_speak_32 : decode cX6_speak 32 = .ok (.invokevirtual 32, 3) := by decide +kernel
theorem dX6_speak_35 : decode cX6_speak 35 = .ok (.ireturn, 1) := by decide +kernel
theorem dX6_say_0 : decode cX6_say 0 = .ok (.iload_n 1, 1) := by decide +kernel
theorem dX6_say_1 : decode cX6_say 1 = .ok (.iload_n 2, 1) := by decide +kernel
theorem dX6_say_2 : decode cX6_say 2 = .ok (.invokestatic 36, 3) := by decide +kernel
theorem dX6_say_5 : decode cX6_say 5 = .ok (.istore 5, 2) := by decide +kernel
theorem dX6_say_7 : decode cX6_say 7 = .ok (.iload 4, 2) := by decide +kernel
theorem dX6_say_9 : decode cX6_say 9 = .ok (.bipush 20, 2) := by decide +kernel
theorem dX6_say_11 : decode cX6_say 11 = .ok (.if_icmp .lt 5, 3) := by decide +kernel
theorem dX6_say_14 : decode cX6_say 14 = .ok (.iconst 0, 1) := by decide +kernel
theorem dX6_say_15 : decode cX6_say 15 = .ok (.ireturn, 1) := by decide +kernel
theorem dX6_say_16 : decode cX6_say 16 = .ok (.aload_n 0, 1) := by decide +kernel
theorem dX6_say_17 : decode cX6_say 17 = .ok (.iload 5, 2) := by decide +kernel
theorem dX6_say_19 : decode cX6_say 19 = .ok (.invokevirtual 40, 3) := by decide +kernel
theorem dX6_say_22 : decode cX6_say 22 = .ok (.iload 4, 2) := by decide +kernel
theorem dX6_say_24 : decode cX6_say 24 = .ok (.iconst 1, 1) := by decide +kernel
theorem dX6_say_25 : decode cX6_say 25 = .ok (.iadd, 1) := by decide +kernel
theorem dX6_say_26 : decode cX6_say 26 = .ok (.istore 6, 2) := by decide +kernel
theorem dX6_say_28 : decode cX6_say 28 = .ok (.iload 5, 2) := by decide +kernel
theorem dX6_say_30 : decode cX6_say 30 = .ok (.lookupswitch 261 #[(10, 114), (11, 121), (12, 136), (13, 154), (20, 160), (21, 172), (30, 180), (40, 192), (50, 204), (51, 216), (60, 231), (70, 243), (71, 246)], 114) := by decide +kernel
theorem dX6_say_144 : decode cX6_say 144 = .ok (.iload_n 3, 1) := by decide +kernel
theorem dX6_say_145 : decode cX6_say 145 = .ok (.aload_n 0, 1) := by decide +kernel
theorem dX6_say_146 : decode cX6_say 146 = .ok (.getfield 23, 3) := by decide +kernel
theorem dX6_say_149 : decode cX6_say 149 = .ok (.iadd, 1) := by decide +kernel
theorem dX6_say_150 : decode cX6_say 150 = .ok (.ireturn, 1) := by decide +kernel
theorem dX6_say_151 : decode cX6_say 151 = .ok (.aload_n 0, 1) := by decide +kernel
theorem dX6_say_152 : decode cX6_say 152 = .ok (.aload_n 0, 1) := by decide +kernel
theorem dX6_say_153 : decode cX6_say 153 = .ok (.getfield 29, 3) := by decide +kernel
theorem dX6_say_156 : decode cX6_say 156 = .ok (.iconst 0, 1) := by decide +kernel
theorem dX6_say_157 : decode cX6_say 157 = .ok (.iload_n 3, 1) := by decide +kernel
theorem dX6_say_158 : decode cX6_say 158 = .ok (.iload 6, 2) := by decide +kernel
theorem dX6_say_160 : decode cX6_say 160 = .ok (.invokevirtual 32, 3) := by decide +kernel
theorem dX6_say_163 : decode cX6_say 163 = .ok (.iconst 2, 1) := by decide +kernel
theorem dX6_say_164 : decode cX6_say 164 = .ok (.imul, 1) := by decide +kernel
theorem dX6_say_165 : decode cX6_say 165 = .ok (.ireturn, 1) := by decide +kernel
theorem dX6_say_166 : decode cX6_say 166 = .ok (.aload_n 0, 1) := by decide +kernel
theorem dX6_say_167 : decode cX6_say 167 = .ok (.aload_n 0, 1) := by decide +kernel
theorem dX6_say_168 : decode cX6_say 168 = .ok (.getfield 29, 3) := by decide +kernel
theorem dX6_say_171 : decode cX6_say 171 = .ok (.iconst 1, 1) := by decide +kernel
theorem dX6_say_172 : decode cX6_say 172 = .ok (.iload_n 3, 1) := by decide +kernel
theorem dX6_say_173 : decode cX6_say 173 = .ok (.iload 6, 2) := by decide +kernel
theorem dX6_say_175 : decode cX6_say 175 = .ok (.invokevirtual 32, 3) := by decide +kernel
theorem dX6_say_178 : decode cX6_say 178 = .ok (.aload_n 0, 1) := by decide +kernel
theorem dX6_say_179 : decode cX6_say 179 = .ok (.getfield 26, 3) := by decide +kernel
theorem dX6_say_182 : decode cX6_say 182 = .ok (.isub, 1) := by decide +kernel
theorem dX6_say_183 : decode cX6_say 183 = .ok (.ireturn, 1) := by decide +kernel
theorem dX6_say_184 : decode cX6_say 184 = .ok (.aload_n 0, 1) := by decide +kernel
theorem dX6_say_185 : decode cX6_say 185 = .ok (.iload_n 3, 1) := by decide +kernel
theorem dX6_say_186 : decode cX6_say 186 = .ok (.invokevirtual 44, 3) := by decide +kernel
theorem dX6_say_189 : decode cX6_say 189 = .ok (.ireturn, 1) := by decide +kernel
theorem dX6_say_190 : decode cX6_say 190 = .ok (.aload_n 0, 1) := by decide +kernel
theorem dX6_say_191 : decode cX6_say 191 = .ok (.iconst 0, 1) := by decide +kernel
theorem dX6_say_192 : decode cX6_say 192 = .ok (.iconst 0, 1) := by decide +kernel
theorem dX6_say_193 : decode cX6_say 193 = .ok (.iload_n 3, 1) := by decide +kernel
theorem dX6_say_194 : decode cX6_say 194 = .ok (.iload 6, 2) := by decide +kernel
theorem dX6_say_196 : decode cX6_say 196 = .ok (.invokevirtual 32, 3) := by decide +kernel
theorem dX6_say_199 : decode cX6_say 199 = .ok (.iconst 4, 1) := by decide +kernel
theorem dX6_say_200 : decode cX6_say 200 = .ok (.isub, 1) := by decide +kernel
theorem dX6_say_201 : decode cX6_say 201 = .ok (.ireturn, 1) := by decide +kernel
theorem dX6_say_202 : decode cX6_say 202 = .ok (.aload_n 0, 1) := by decide +kernel
theorem dX6_say_203 : decode cX6_say 203 = .ok (.iload_n 3, 1) := by decide +kernel
theorem dX6_say_204 : decode cX6_say 204 = .ok (.iload 6, 2) := by decide +kernel
theorem dX6_say_206 : decode cX6_say 206 = .ok (.invokevirtual 48, 3) := by decide +kernel
theorem dX6_say_209 : decode cX6_say 209 = .ok (.ireturn, 1) := by decide +kernel
theorem dX6_say_210 : decode cX6_say 210 = .ok (.iconst 0, 1) := by decide +kernel
theorem dX6_say_211 : decode cX6_say 211 = .ok (.aload_n 0, 1) := by decide +kernel
theorem dX6_say_212 : decode cX6_say 212 = .ok (.iconst 0, 1) := by decide +kernel
theorem dX6_say_213 : decode cX6_say 213 = .ok (.iconst 1, 1) := by decide +kernel
theorem dX6_say_214 : decode cX6_say 214 = .ok (.iload_n 3, 1) := by decide +kernel
theorem dX6_say_215 : decode cX6_say 215 = .ok (.iload 6, 2) := by decide +kernel
theorem dX6_say_217 : decode cX6_say 217 = .ok (.invokevirtual 32, 3) := by decide +kernel
theorem dX6_say_220 : decode cX6_say 220 = .ok (.isub, 1) := by decide +kernel
theorem dX6_say_221 : decode cX6_say 221 = .ok (.ireturn, 1) := by decide +kernel
theorem dX6_say_222 : decode cX6_say 222 = .ok (.aload_n 0, 1) := by decide +kernel
theorem dX6_say_223 : decode cX6_say 223 = .ok (.iconst 0, 1) := by decide +kernel
theorem dX6_say_224 : decode cX6_say 224 = .ok (.iconst 2, 1) := by decide +kernel
theorem dX6_say_225 : decode cX6_say 225 = .ok (.iload_n 3, 1) := by decide +kernel
theorem dX6_say_226 : decode cX6_say 226 = .ok (.iconst 2, 1) := by decide +kernel
theorem dX6_say_227 : decode cX6_say 227 = .ok (.idiv, 1) := by decide +kernel
theorem dX6_say_228 : decode cX6_say 228 = .ok (.iload 6, 2) := by decide +kernel
theorem dX6_say_230 : decode cX6_say 230 = .ok (.invokevirtual 32, 3) := by decide +kernel
theorem dX6_say_233 : decode cX6_say 233 = .ok (.ireturn, 1) := by decide +kernel
theorem dX6_say_234 : decode cX6_say 234 = .ok (.aload_n 0, 1) := by decide +kernel
theorem dX6_say_235 : decode cX6_say 235 = .ok (.iconst 1, 1) := by decide +kernel
theorem dX6_say_236 : decode cX6_say 236 = .ok (.iconst 0, 1) := by decide +kernel
theorem dX6_say_237 : decode cX6_say 237 = .ok (.iload_n 3, 1) := by decide +kernel
theorem dX6_say_238 : decode cX6_say 238 = .ok (.iload 6, 2) := by decide +kernel
theorem dX6_say_240 : decode cX6_say 240 = .ok (.invokevirtual 32, 3) := by decide +kernel
theorem dX6_say_243 : decode cX6_say 243 = .ok (.iconst 3, 1) := by decide +kernel
theorem dX6_say_244 : decode cX6_say 244 = .ok (.imul, 1) := by decide +kernel
theorem dX6_say_245 : decode cX6_say 245 = .ok (.ireturn, 1) := by decide +kernel
theorem dX6_say_246 : decode cX6_say 246 = .ok (.aload_n 0, 1) := by decide +kernel
theorem dX6_say_247 : decode cX6_say 247 = .ok (.iconst 1, 1) := by decide +kernel
theorem dX6_say_248 : decode cX6_say 248 = .ok (.iconst 2, 1) := by decide +kernel
theorem dX6_say_249 : decode cX6_say 249 = .ok (.iload_n 3, 1) := by decide +kernel
theorem dX6_say_250 : decode cX6_say 250 = .ok (.iload 6, 2) := by decide +kernel
theorem dX6_say_252 : decode cX6_say 252 = .ok (.invokevirtual 32, 3) := by decide +kernel
theorem dX6_say_255 : decode cX6_say 255 = .ok (.aload_n 0, 1) := by decide +kernel
theorem dX6_say_256 : decode cX6_say 256 = .ok (.getfield 23, 3) := by decide +kernel
theorem dX6_say_259 : decode cX6_say 259 = .ok (.ixor, 1) := by decide +kernel
theorem dX6_say_260 : decode cX6_say 260 = .ok (.ireturn, 1) := by decide +kernel
theorem dX6_say_261 : decode cX6_say 261 = .ok (.aload_n 0, 1) := by decide +kernel
theorem dX6_say_262 : decode cX6_say 262 = .ok (.iconst 2, 1) := by decide +kernel
theorem dX6_say_263 : decode cX6_say 263 = .ok (.iconst 1, 1) := by decide +kernel
theorem dX6_say_264 : decode cX6_say 264 = .ok (.iload_n 3, 1) := by decide +kernel
theorem dX6_say_265 : decode cX6_say 265 = .ok (.iconst 1, 1) := by decide +kernel
theorem dX6_say_266 : decode cX6_say 266 = .ok (.iadd, 1) := by decide +kernel
theorem dX6_say_267 : decode cX6_say 267 = .ok (.iload 6, 2) := by decide +kernel
theorem dX6_say_269 : decode cX6_say 269 = .ok (.invokevirtual 32, 3) := by decide +kernel
theorem dX6_say_272 : decode cX6_say 272 = .ok (.ireturn, 1) := by decide +kernel
theorem dX6_say_273 : decode cX6_say 273 = .ok (.bipush 9, 2) := by decide +kernel
theorem dX6_say_275 : decode cX6_say 275 = .ok (.ireturn, 1) := by decide +kernel
theorem dX6_say_276 : decode cX6_say 276 = .ok (.aload_n 0, 1) := by decide +kernel
theorem dX6_say_277 : decode cX6_say 277 = .ok (.iconst 0, 1) := by decide +kernel
theorem dX6_say_278 : decode cX6_say 278 = .ok (.iconst 1, 1) := by decide +kernel
theorem dX6_say_279 : decode cX6_say 279 = .ok (.iload_n 3, 1) := by decide +kernel
theorem dX6_say_280 : decode cX6_say 280 = .ok (.iload 6, 2) := by decide +kernel
theorem dX6_say_282 : decode cX6_say 282 = .ok (.invokevirtual 32, 3) := by decide +kernel
theorem dX6_say_285 : decode cX6_say 285 = .ok (.aload_n 0, 1) := by decide +kernel
theorem dX6_say_286 : decode cX6_say 286 = .ok (.getfield 26, 3) := by decide +kernel
theorem dX6_say_289 : decode cX6_say 289 = .ok (.iadd, 1) := by decide +kernel
theorem dX6_say_290 : decode cX6_say 290 = .ok (.ireturn, 1) := by decide +kernel
theorem dX6_say_291 : decode cX6_say 291 = .ok (.iconst 0, 1) := by decide +kernel
theorem dX6_say_292 : decode cX6_say 292 = .ok (.ireturn, 1) := by decide +kernel
theorem dX6_partsOfCurve_0 : decode cX6_partsOfCurve 0 = .ok (.aload_n 0, 1) := by decide +kernel
theorem dX6_partsOfCurve_1 : decode cX6_partsOfCurve 1 = .ok (.iconst 0, 1) := by decide +kernel
theorem dX6_partsOfCurve_2 : decode cX6_partsOfCurve 2 = .ok (.iconst 3, 1) := by decide +kernel
theorem dX6_partsOfCurve_3 : decode cX6_partsOfCurve 3 = .ok (.iload_n 1, 1) := by decide +kernel
theorem dX6_partsOfCurve_4 : decode cX6_partsOfCurve 4 = .ok (.iload_n 2, 1) := by decide +kernel
theorem dX6_partsOfCurve_5 : decode cX6_partsOfCurve 5 = .ok (.invokevirtual 32, 3) := by decide +kernel
theorem dX6_partsOfCurve_8 : decode cX6_partsOfCurve 8 = .ok (.istore_n 3, 1) := by decide +kernel
theorem dX6_partsOfCurve_9 : decode cX6_partsOfCurve 9 = .ok (.aload_n 0, 1) := by decide +kernel
theorem dX6_partsOfCurve_10 : decode cX6_partsOfCurve 10 = .ok (.getfield 19, 3) := by decide +kernel
theorem dX6_partsOfCurve_13 : decode cX6_partsOfCurve 13 = .ok (.ifCond .eq 5, 3) := by decide +kernel
theorem dX6_partsOfCurve_16 : decode cX6_partsOfCurve 16 = .ok (.iconst 0, 1) := by decide +kernel
theorem dX6_partsOfCurve_17 : decode cX6_partsOfCurve 17 = .ok (.ireturn, 1) := by decide +kernel
theorem dX6_partsOfCurve_18 : decode cX6_partsOfCurve 18 = .ok (.iload_n 3, 1) := by decide +kernel
theorem dX6_partsOfCurve_19 : decode cX6_partsOfCurve 19 = .ok (.aload_n 0, 1) := by decide +kernel
theorem dX6_partsOfCurve_20 : decode cX6_partsOfCurve 20 = .ok (.aload_n 0, 1) := by decide +kernel
theorem dX6_partsOfCurve_21 : decode cX6_partsOfCurve 21 = .ok (.getfield 29, 3) := by decide +kernel
theorem dX6_partsOfCurve_24 : decode cX6_partsOfCurve 24 = .ok (.iconst 1, 1) := by decide +kernel
theorem dX6_partsOfCurve_25 : decode cX6_partsOfCurve 25 = .ok (.iconst 1, 1) := by decide +kernel
theorem dX6_partsOfCurve_26 : decode cX6_partsOfCurve 26 = .ok (.iload_n 2, 1) := by decide +kernel
theorem dX6_partsOfCurve_27 : decode cX6_partsOfCurve 27 = .ok (.invokevirtual 32, 3) := by decide +kernel
theorem dX6_partsOfCurve_30 : decode cX6_partsOfCurve 30 = .ok (.iadd, 1) := by decide +kernel
theorem dX6_partsOfCurve_31 : decode cX6_partsOfCurve 31 = .ok (.ireturn, 1) := by decide +kernel
theorem dX6_parts_0 : decode cX6_parts 0 = .ok (.aload_n 0, 1) := by decide +kernel
theorem dX6_parts_1 : decode cX6_parts 1 = .ok (.getfield 26, 3) := by decide +kernel
theorem dX6_parts_4 : decode cX6_parts 4 = .ok (.aload_n 0, 1) := by decide +kernel
theorem dX6_parts_5 : decode cX6_parts 5 = .ok (.getfield 23, 3) := by decide +kernel
theorem dX6_parts_8 : decode cX6_parts 8 = .ok (.isub, 1) := by decide +kernel
theorem dX6_parts_9 : decode cX6_parts 9 = .ok (.istore_n 2, 1) := by decide +kernel
theorem dX6_parts_10 : decode cX6_parts 10 = .ok (.iload_n 2, 1) := by decide +kernel
theorem dX6_parts_11 : decode cX6_parts 11 = .ok (.ifCond .ne 10, 3) := by decide +kernel
theorem dX6_parts_14 : decode cX6_parts 14 = .ok (.aload_n 0, 1) := by decide +kernel
theorem dX6_parts_15 : decode cX6_parts 15 = .ok (.iconst 1, 1) := by decide +kernel
theorem dX6_parts_16 : decode cX6_parts 16 = .ok (.putfield 19, 3) := by decide +kernel
theorem dX6_parts_19 : decode cX6_parts 19 = .ok (.iconst 0, 1) := by decide +kernel
theorem dX6_parts_20 : decode cX6_parts 20 = .ok (.ireturn, 1) := by decide +kernel
theorem dX6_parts_21 : decode cX6_parts 21 = .ok (.iload_n 1, 1) := by decide +kernel
theorem dX6_parts_22 : decode cX6_parts 22 = .ok (.iload_n 2, 1) := by decide +kernel
theorem dX6_parts_23 : decode cX6_parts 23 = .ok (.idiv, 1) := by decide +kernel
theorem dX6_parts_24 : decode cX6_parts 24 = .ok (.ireturn, 1) := by decide +kernel
theorem dX6_begin_0 : decode cX6_begin 0 = .ok (.aload_n 0, 1) := by decide +kernel
theorem dX6_begin_1 : decode cX6_begin 1 = .ok (.getfield 15, 3) := by decide +kernel
theorem dX6_begin_4 : decode cX6_begin 4 = .ok (.bipush 30, 2) := by decide +kernel
theorem dX6_begin_6 : decode cX6_begin 6 = .ok (.if_icmp .ge 23, 3) := by decide +kernel
theorem dX6_begin_9 : decode cX6_begin 9 = .ok (.aload_n 0, 1) := by decide +kernel
theorem dX6_begin_10 : decode cX6_begin 10 = .ok (.getfield 9, 3) := by decide +kernel
theorem dX6_begin_13 : decode cX6_begin 13 = .ok (.aload_n 0, 1) := by decide +kernel
theorem dX6_begin_14 : decode cX6_begin 14 = .ok (.getfield 15, 3) := by decide +kernel
theorem dX6_begin_17 : decode cX6_begin 17 = .ok (.iload_n 1, 1) := by decide +kernel
theorem dX6_begin_18 : decode cX6_begin 18 = .ok (.iastore, 1) := by decide +kernel
theorem dX6_begin_19 : decode cX6_begin 19 = .ok (.aload_n 0, 1) := by decide +kernel
theorem dX6_begin_20 : decode cX6_begin 20 = .ok (.dup, 1) := by decide +kernel
theorem dX6_begin_21 : decode cX6_begin 21 = .ok (.getfield 15, 3) := by decide +kernel
theorem dX6_begin_24 : decode cX6_begin 24 = .ok (.iconst 1, 1) := by decide +kernel
theorem dX6_begin_25 : decode cX6_begin 25 = .ok (.iadd, 1) := by decide +kernel
theorem dX6_begin_26 : decode cX6_begin 26 = .ok (.putfield 15, 3) := by decide +kernel
theorem dX6_begin_29 : decode cX6_begin 29 = .ok (.return_, 1) := by decide +kernel
theorem dX6_bodyOf_0 : decode cX6_bodyOf 0 = .ok (.iload_n 0, 1) := by decide +kernel
theorem dX6_bodyOf_1 : decode cX6_bodyOf 1 = .ok (.istore_n 2, 1) := by decide +kernel
theorem dX6_bodyOf_2 : decode cX6_bodyOf 2 = .ok (.iconst 0, 1) := by decide +kernel
theorem dX6_bodyOf_3 : decode cX6_bodyOf 3 = .ok (.istore_n 3, 1) := by decide +kernel
theorem dX6_bodyOf_4 : decode cX6_bodyOf 4 = .ok (.iload_n 3, 1) := by decide +kernel
theorem dX6_bodyOf_5 : decode cX6_bodyOf 5 = .ok (.bipush 7, 2) := by decide +kernel
theorem dX6_bodyOf_7 : decode cX6_bodyOf 7 = .ok (.if_icmp .ge 44, 3) := by decide +kernel
theorem dX6_bodyOf_10 : decode cX6_bodyOf 10 = .ok (.iload_n 2, 1) := by decide +kernel
theorem dX6_bodyOf_11 : decode cX6_bodyOf 11 = .ok (.ifCond .lt 40, 3) := by decide +kernel
theorem dX6_bodyOf_14 : decode cX6_bodyOf 14 = .ok (.iload_n 2, 1) := by decide +kernel
theorem dX6_bodyOf_15 : decode cX6_bodyOf 15 = .ok (.bipush 7, 2) := by decide +kernel
theorem dX6_bodyOf_17 : decode cX6_bodyOf 17 = .ok (.if_icmp .ge 34, 3) := by decide +kernel
theorem dX6_bodyOf_20 : decode cX6_bodyOf 20 = .ok (.getstatic 51, 3) := by decide +kernel
theorem dX6_bodyOf_23 : decode cX6_bodyOf 23 = .ok (.iload_n 2, 1) := by decide +kernel
theorem dX6_bodyOf_24 : decode cX6_bodyOf 24 = .ok (.iconst 4, 1) := by decide +kernel
theorem dX6_bodyOf_25 : decode cX6_bodyOf 25 = .ok (.imul, 1) := by decide +kernel
theorem dX6_bodyOf_26 : decode cX6_bodyOf 26 = .ok (.iload_n 1, 1) := by decide +kernel
theorem dX6_bodyOf_27 : decode cX6_bodyOf 27 = .ok (.iadd, 1) := by decide +kernel
theorem dX6_bodyOf_28 : decode cX6_bodyOf 28 = .ok (.iaload, 1) := by decide +kernel
theorem dX6_bodyOf_29 : decode cX6_bodyOf 29 = .ok (.istore 4, 2) := by decide +kernel
theorem dX6_bodyOf_31 : decode cX6_bodyOf 31 = .ok (.iload 4, 2) := by decide +kernel
theorem dX6_bodyOf_33 : decode cX6_bodyOf 33 = .ok (.ifCond .eq 6, 3) := by decide +kernel
theorem dX6_bodyOf_36 : decode cX6_bodyOf 36 = .ok (.iload 4, 2) := by decide +kernel
theorem dX6_bodyOf_38 : decode cX6_bodyOf 38 = .ok (.ireturn, 1) := by decide +kernel
theorem dX6_bodyOf_39 : decode cX6_bodyOf 39 = .ok (.getstatic 54, 3) := by decide +kernel
theorem dX6_bodyOf_42 : decode cX6_bodyOf 42 = .ok (.iload_n 2, 1) := by decide +kernel
theorem dX6_bodyOf_43 : decode cX6_bodyOf 43 = .ok (.iaload, 1) := by decide +kernel
theorem dX6_bodyOf_44 : decode cX6_bodyOf 44 = .ok (.istore_n 2, 1) := by decide +kernel
theorem dX6_bodyOf_45 : decode cX6_bodyOf 45 = .ok (.iinc 3 1, 3) := by decide +kernel
theorem dX6_bodyOf_48 : decode cX6_bodyOf 48 = .ok (.goto (-44), 3) := by decide +kernel
theorem dX6_bodyOf_51 : decode cX6_bodyOf 51 = .ok (.iconst 0, 1) := by decide +kernel
theorem dX6_bodyOf_52 : decode cX6_bodyOf 52 = .ok (.ireturn, 1) := by decide +kernel
theorem dJ6_bitCount_0f7a4_0 : decode cJ6_bitCount_0f7a4 0 = .ok (.iload_n 0, 1) := by decide +kernel
theorem dJ6_bitCount_0f7a4_1 : decode cJ6_bitCount_0f7a4 1 = .ok (.iload_n 0, 1) := by decide +kernel
theorem dJ6_bitCount_0f7a4_2 : decode cJ6_bitCount_0f7a4 2 = .ok (.iconst 1, 1) := by decide +kernel
theorem dJ6_bitCount_0f7a4_3 : decode cJ6_bitCount_0f7a4 3 = .ok (.iushr, 1) := by decide +kernel
theorem dJ6_bitCount_0f7a4_4 : decode cJ6_bitCount_0f7a4 4 = .ok (.ldc_w 265, 3) := by decide +kernel
theorem dJ6_bitCount_0f7a4_7 : decode cJ6_bitCount_0f7a4 7 = .ok (.iand, 1) := by decide +kernel
theorem dJ6_bitCount_0f7a4_8 : decode cJ6_bitCount_0f7a4 8 = .ok (.isub, 1) := by decide +kernel
theorem dJ6_bitCount_0f7a4_9 : decode cJ6_bitCount_0f7a4 9 = .ok (.istore_n 0, 1) := by decide +kernel
theorem dJ6_bitCount_0f7a4_10 : decode cJ6_bitCount_0f7a4 10 = .ok (.iload_n 0, 1) := by decide +kernel
theorem dJ6_bitCount_0f7a4_11 : decode cJ6_bitCount_0f7a4 11 = .ok (.ldc_w 266, 3) := by decide +kernel
theorem dJ6_bitCount_0f7a4_14 : decode cJ6_bitCount_0f7a4 14 = .ok (.iand, 1) := by decide +kernel
theorem dJ6_bitCount_0f7a4_15 : decode cJ6_bitCount_0f7a4 15 = .ok (.iload_n 0, 1) := by decide +kernel
theorem dJ6_bitCount_0f7a4_16 : decode cJ6_bitCount_0f7a4 16 = .ok (.iconst 2, 1) := by decide +kernel
theorem dJ6_bitCount_0f7a4_17 : decode cJ6_bitCount_0f7a4 17 = .ok (.iushr, 1) := by decide +kernel
theorem dJ6_bitCount_0f7a4_18 : decode cJ6_bitCount_0f7a4 18 = .ok (.ldc_w 266, 3) := by decide +kernel
theorem dJ6_bitCount_0f7a4_21 : decode cJ6_bitCount_0f7a4 21 = .ok (.iand, 1) := by decide +kernel
theorem dJ6_bitCount_0f7a4_22 : decode cJ6_bitCount_0f7a4 22 = .ok (.iadd, 1) := by decide +kernel
theorem dJ6_bitCount_0f7a4_23 : decode cJ6_bitCount_0f7a4 23 = .ok (.istore_n 0, 1) := by decide +kernel
theorem dJ6_bitCount_0f7a4_24 : decode cJ6_bitCount_0f7a4 24 = .ok (.iload_n 0, 1) := by decide +kernel
theorem dJ6_bitCount_0f7a4_25 : decode cJ6_bitCount_0f7a4 25 = .ok (.iload_n 0, 1) := by decide +kernel
theorem dJ6_bitCount_0f7a4_26 : decode cJ6_bitCount_0f7a4 26 = .ok (.iconst 4, 1) := by decide +kernel
theorem dJ6_bitCount_0f7a4_27 : decode cJ6_bitCount_0f7a4 27 = .ok (.iushr, 1) := by decide +kernel
theorem dJ6_bitCount_0f7a4_28 : decode cJ6_bitCount_0f7a4 28 = .ok (.iadd, 1) := by decide +kernel
theorem dJ6_bitCount_0f7a4_29 : decode cJ6_bitCount_0f7a4 29 = .ok (.ldc_w 267, 3) := by decide +kernel
theorem dJ6_bitCount_0f7a4_32 : decode cJ6_bitCount_0f7a4 32 = .ok (.iand, 1) := by decide +kernel
theorem dJ6_bitCount_0f7a4_33 : decode cJ6_bitCount_0f7a4 33 = .ok (.istore_n 0, 1) := by decide +kernel
theorem dJ6_bitCount_0f7a4_34 : decode cJ6_bitCount_0f7a4 34 = .ok (.iload_n 0, 1) := by decide +kernel
theorem dJ6_bitCount_0f7a4_35 : decode cJ6_bitCount_0f7a4 35 = .ok (.iload_n 0, 1) := by decide +kernel
theorem dJ6_bitCount_0f7a4_36 : decode cJ6_bitCount_0f7a4 36 = .ok (.bipush 8, 2) := by decide +kernel
theorem dJ6_bitCount_0f7a4_38 : decode cJ6_bitCount_0f7a4 38 = .ok (.iushr, 1) := by decide +kernel
theorem dJ6_bitCount_0f7a4_39 : decode cJ6_bitCount_0f7a4 39 = .ok (.iadd, 1) := by decide +kernel
theorem dJ6_bitCount_0f7a4_40 : decode cJ6_bitCount_0f7a4 40 = .ok (.istore_n 0, 1) := by decide +kernel
theorem dJ6_bitCount_0f7a4_41 : decode cJ6_bitCount_0f7a4 41 = .ok (.iload_n 0, 1) := by decide +kernel
theorem dJ6_bitCount_0f7a4_42 : decode cJ6_bitCount_0f7a4 42 = .ok (.iload_n 0, 1) := by decide +kernel
theorem dJ6_bitCount_0f7a4_43 : decode cJ6_bitCount_0f7a4 43 = .ok (.bipush 16, 2) := by decide +kernel
theorem dJ6_bitCount_0f7a4_45 : decode cJ6_bitCount_0f7a4 45 = .ok (.iushr, 1) := by decide +kernel
theorem dJ6_bitCount_0f7a4_46 : decode cJ6_bitCount_0f7a4 46 = .ok (.iadd, 1) := by decide +kernel
theorem dJ6_bitCount_0f7a4_47 : decode cJ6_bitCount_0f7a4 47 = .ok (.istore_n 0, 1) := by decide +kernel
theorem dJ6_bitCount_0f7a4_48 : decode cJ6_bitCount_0f7a4 48 = .ok (.iload_n 0, 1) := by decide +kernel
theorem dJ6_bitCount_0f7a4_49 : decode cJ6_bitCount_0f7a4 49 = .ok (.bipush 63, 2) := by decide +kernel
theorem dJ6_bitCount_0f7a4_51 : decode cJ6_bitCount_0f7a4 51 = .ok (.iand, 1) := by decide +kernel
theorem dJ6_bitCount_0f7a4_52 : decode cJ6_bitCount_0f7a4 52 = .ok (.ireturn, 1) := by decide +kernel
