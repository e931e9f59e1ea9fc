theorem dX1_init_0 : decode cX1_init 0 = .ok (.aload_n 0, 1) := by decide +kernel
theorem dX1_init_1 : decode cX1_init 1 = .ok (.invokespecial 1, 3) := by decide +kernel
theorem dX1_init_4 : decode cX1_init 4 = .ok (.return_, 1) := by decide +kernel
theorem dX1_property_0 : decode cX1_property 0 = .ok (.iload_n 1, 1) := by decide +kernel
theorem dX1_property_1 : decode cX1_property 1 = .ok (.tableswitch 55 0 3 #[31, 37, 43, 49], 31) := by decide +kernel
theorem dX1_property_32 : decode cX1_property 32 = .ok (.aload_n 0, 1) := by decide +kernel
theorem dX1_property_33 : decode cX1_property 33 = .ok (.getfield 7, 3) := by decide +kernel
theorem dX1_property_36 : decode cX1_property 36 = .ok (.i2l, 1) := by decide +kernel
theorem dX1_property_37 : decode cX1_property 37 = .ok (.lreturn, 1) := by decide +kernel
theorem dX1_property_38 : decode cX1_property 38 = .ok (.aload_n 0, 1) := by decide +kernel
theorem dX1_property_39 : decode cX1_property 39 = .ok (.getfield 13, 3) := by decide +kernel
theorem dX1_property_42 : decode cX1_property 42 = .ok (.i2l, 1) := by decide +kernel
theorem dX1_property_43 : decode cX1_property 43 = .ok (.lreturn, 1) := by decide +kernel
theorem dX1_property_44 : decode cX1_property 44 = .ok (.aload_n 0, 1) := by decide +kernel
theorem dX1_property_45 : decode cX1_property 45 = .ok (.getfield 16, 3) := by decide +kernel
theorem dX1_property_48 : decode cX1_property 48 = .ok (.i2l, 1) := by decide +kernel
theorem dX1_property_49 : decode cX1_property 49 = .ok (.lreturn, 1) := by decide +kernel
theorem dX1_property_50 : decode cX1_property 50 = .ok (.aload_n 0, 1) := by decide +kernel
theorem dX1_property_51 : decode cX1_property 51 = .ok (.getfield 19, 3) := by decide +kernel
theorem dX1_property_54 : decode cX1_property 54 = .ok (.i2l, 1) := by decide +kernel
theorem dX1_property_55 : decode cX1_property 55 = .ok (.lreturn, 1) := by decide +kernel
theorem dX1_property_56 : decode cX1_property 56 = .ok (.aload_n 0, 1) := by decide +kernel
theorem dX1_property_57 : decode cX1_property 57 = .ok (.getfield 22, 3) := by decide +kernel
theorem dX1_property_60 : decode cX1_property 60 = .ok (.lreturn, 1) := by decide +kernel
theorem dX1_copyFrom_0 : decode cX1_copyFrom 0 = .ok (.aload_n 0, 1) := by decide +kernel
theorem dX1_copyFrom_1 : decode cX1_copyFrom 1 = .ok (.aload_n 1, 1) := by decide +kernel
theorem dX1_copyFrom_2 : decode cX1_copyFrom 2 = .ok (.getfield 7, 3) := by decide +kernel
theorem dX1_copyFrom_5 : decode cX1_copyFrom 5 = .ok (.putfield 7, 3) := by decide +kernel
theorem dX1_copyFrom_8 : decode cX1_copyFrom 8 = .ok (.aload_n 0, 1) := by decide +kernel
theorem dX1_copyFrom_9 : decode cX1_copyFrom 9 = .ok (.aload_n 1, 1) := by decide +kernel
theorem dX1_copyFrom_10 : decode cX1_copyFrom 10 = .ok (.getfield 13, 3) := by decide +kernel
theorem dX1_copyFrom_13 : decode cX1_copyFrom 13 = .ok (.putfield 13, 3) := by decide +kernel
theorem dX1_copyFrom_16 : decode cX1_copyFrom 16 = .ok (.aload_n 0, 1) := by decide +kernel
theorem dX1_copyFrom_17 : decode cX1_copyFrom 17 = .ok (.aload_n 1, 1) := by decide +kernel
theorem dX1_copyFrom_18 : decode cX1_copyFrom 18 = .ok (.getfield 16, 3) := by decide +kernel
theorem dX1_copyFrom_21 : decode cX1_copyFrom 21 = .ok (.putfield 16, 3) := by decide +kernel
theorem dX1_copyFrom_24 : decode cX1_copyFrom 24 = .ok (.aload_n 0, 1) := by decide +kernel
theorem dX1_copyFrom_25 : decode cX1_copyFrom 25 = .ok (.aload_n 1, 1) := by decide +kernel
theorem dX1_copyFrom_26 : decode cX1_copyFrom 26 = .ok (.getfield 19, 3) := by decide +kernel
theorem dX1_copyFrom_29 : decode cX1_copyFrom 29 = .ok (.putfield 19, 3) := by decide +kernel
theorem dX1_copyFrom_32 : decode cX1_copyFrom 32 = .ok (.aload_n 0, 1) := by decide +kernel
theorem dX1_copyFrom_33 : decode cX1_copyFrom 33 = .ok (.aload_n 1, 1) := by decide +kernel
theorem dX1_copyFrom_34 : decode cX1_copyFrom 34 = .ok (.getfield 22, 3) := by decide +kernel
theorem dX1_copyFrom_37 : decode cX1_copyFrom 37 = .ok (.putfield 22, 3) := by decide +kernel
theorem dX1_copyFrom_40 : decode cX1_copyFrom 40 = .ok (.return_, 1) := by decide +kernel
theorem dX2_init_0 : decode cX2_init 0 = .ok (.aload_n 0, 1) := by decide +kernel
theorem dX2_init_1 : decode cX2_init 1 = .ok (.invokespecial 3, 3) := by decide +kernel
theorem dX2_init_4 : decode cX2_init 4 = .ok (.aload_n 0, 1) := by decide +kernel
theorem dX2_init_5 : decode cX2_init 5 = .ok (.bipush 20, 2) := by decide +kernel
theorem dX2_init_7 : decode cX2_init 7 = .ok (.newarray .int, 2) := by decide +kernel
theorem dX2_init_9 : decode cX2_init 9 = .ok (.putfield 9, 3) := by decide +kernel
theorem dX2_init_12 : decode cX2_init 12 = .ok (.aload_n 0, 1) := by decide +kernel
theorem dX2_init_13 : decode cX2_init 13 = .ok (.bipush 20, 2) := by decide +kernel
theorem dX2_init_15 : decode cX2_init 15 = .ok (.newarray .int, 2) := by decide +kernel
theorem dX2_init_17 : decode cX2_init 17 = .ok (.putfield 15, 3) := by decide +kernel
theorem dX2_init_20 : decode cX2_init 20 = .ok (.return_, 1) := by decide +kernel
theorem dX2_add_0 : decode cX2_add 0 = .ok (.aload_n 0, 1) := by decide +kernel
theorem dX2_add_1 : decode cX2_add 1 = .ok (.getfield 9, 3) := by decide +kernel
theorem dX2_add_4 : decode cX2_add 4 = .ok (.iconst 0, 1) := by decide +kernel
theorem dX2_add_5 : decode cX2_add 5 = .ok (.aload_n 0, 1) := by decide +kernel
theorem dX2_add_6 : decode cX2_add 6 = .ok (.getfield 9, 3) := by decide +kernel
theorem dX2_add_9 : decode cX2_add 9 = .ok (.iconst 1, 1) := by decide +kernel
theorem dX2_add_10 : decode cX2_add 10 = .ok (.bipush 19, 2) := by decide +kernel
theorem dX2_add_12 : decode cX2_add 12 = .ok (.invokestatic 18, 3) := by decide +kernel
theorem dX2_add_15 : decode cX2_add 15 = .ok (.aload_n 0, 1) := by decide +kernel
theorem dX2_add_16 : decode cX2_add 16 = .ok (.getfield 15, 3) := by decide +kernel
theorem dX2_add_19 : decode cX2_add 19 = .ok (.iconst 0, 1) := by decide +kernel
theorem dX2_add_20 : decode cX2_add 20 = .ok (.aload_n 0, 1) := by decide +kernel
theorem dX2_add_21 : decode cX2_add 21 = .ok (.getfield 15, 3) := by decide +kernel
theorem dX2_add_24 : decode cX2_add 24 = .ok (.iconst 1, 1) := by decide +kernel
theorem dX2_add_25 : decode cX2_add 25 = .ok (.bipush 19, 2) := by decide +kernel
theorem dX2_add_27 : decode cX2_add 27 = .ok (.invokestatic 18, 3) := by decide +kernel
theorem dX2_add_30 : decode cX2_add 30 = .ok (.aload_n 0, 1) := by decide +kernel
theorem dX2_add_31 : decode cX2_add 31 = .ok (.getfield 9, 3) := by decide +kernel
theorem dX2_add_34 : decode cX2_add 34 = .ok (.iconst 0, 1) := by decide +kernel
theorem dX2_add_35 : decode cX2_add 35 = .ok (.iload_n 1, 1) := by decide +kernel
theorem dX2_add_36 : decode cX2_add 36 = .ok (.iastore, 1) := by decide +kernel
theorem dX2_add_37 : decode cX2_add 37 = .ok (.aload_n 0, 1) := by decide +kernel
theorem dX2_add_38 : decode cX2_add 38 = .ok (.getfield 15, 3) := by decide +kernel
theorem dX2_add_41 : decode cX2_add 41 = .ok (.iconst 0, 1) := by decide +kernel
theorem dX2_add_42 : decode cX2_add 42 = .ok (.iload_n 2, 1) := by decide +kernel
theorem dX2_add_43 : decode cX2_add 43 = .ok (.iastore, 1) := by decide +kernel
theorem dX2_add_44 : decode cX2_add 44 = .ok (.aload_n 0, 1) := by decide +kernel
theorem dX2_add_45 : decode cX2_add 45 = .ok (.aload_n 0, 1) := by decide +kernel
theorem dX2_add_46 : decode cX2_add 46 = .ok (.getfield 24, 3) := by decide +kernel
theorem dX2_add_49 : decode cX2_add 49 = .ok (.iconst 1, 1) := by decide +kernel
theorem dX2_add_50 : decode cX2_add 50 = .ok (.iadd, 1) := by decide +kernel
theorem dX2_add_51 : decode cX2_add 51 = .ok (.bipush 20, 2) := by decide +kernel
theorem dX2_add_53 : decode cX2_add 53 = .ok (.invokestatic 28, 3) := by decide +kernel
theorem dX2_add_56 : decode cX2_add 56 = .ok (.putfield 24, 3) := by decide +kernel
theorem dX2_add_59 : decode cX2_add 59 = .ok (.return_, 1) := by decide +kernel
theorem dX2_kindOf_0 : decode cX2_kindOf 0 = .ok (.aload_n 0, 1) := by decide +kernel
theorem dX2_kindOf_1 : decode cX2_kindOf 1 = .ok (.iload_n 1, 1) := by decide +kernel
theorem dX2_kindOf_2 : decode cX2_kindOf 2 = .ok (.invokevirtual 34, 3) := by decide +kernel
theorem dX2_kindOf_5 : decode cX2_kindOf 5 = .ok (.ifCond .eq 12, 3) := by decide +kernel
theorem dX2_kindOf_8 : decode cX2_kindOf 8 = .ok (.aload_n 0, 1) := by decide +kernel
theorem dX2_kindOf_9 : decode cX2_kindOf 9 = .ok (.getfield 9, 3) := by decide +kernel
theorem dX2_kindOf_12 : decode cX2_kindOf 12 = .ok (.iload_n 1, 1) := by decide +kernel
theorem dX2_kindOf_13 : decode cX2_kindOf 13 = .ok (.iaload, 1) := by decide +kernel
theorem dX2_kindOf_14 : decode cX2_kindOf 14 = .ok (.goto 4, 3) := by decide +kernel
theorem dX2_kindOf_17 : decode cX2_kindOf 17 = .ok (.iconst (-1), 1) := by decide +kernel
theorem dX2_kindOf_18 : decode cX2_kindOf 18 = .ok (.ireturn, 1) := by decide +kernel
theorem dX2_numberOf_0 : decode cX2_numberOf 0 = .ok (.aload_n 0, 1) := by decide +kernel
theorem dX2_numberOf_1 : decode cX2_numberOf 1 = .ok (.iload_n 1, 1) := by decide +kernel
theorem dX2_numberOf_2 : decode cX2_numberOf 2 = .ok (.invokevirtual 34, 3) := by decide +kernel
theorem dX2_numberOf_5 : decode cX2_numberOf 5 = .ok (.ifCond .eq 12, 3) := by decide +kernel
theorem dX2_numberOf_8 : decode cX2_numberOf 8 = .ok (.aload_n 0, 1) := by decide +kernel
theorem dX2_numberOf_9 : decode cX2_numberOf 9 = .ok (.getfield 15, 3) := by decide +kernel
theorem dX2_numberOf_12 : decode cX2_numberOf 12 = .ok (.iload_n 1, 1) := by decide +kernel
theorem dX2_numberOf_13 : decode cX2_numberOf 13 = .ok (.iaload, 1) := by decide +kernel
theorem dX2_numberOf_14 : decode cX2_numberOf 14 = .ok (.goto 4, 3) := by decide +kernel
theorem dX2_numberOf_17 : decode cX2_numberOf 17 = .ok (.iconst (-1), 1) := by decide +kernel
theorem dX2_numberOf_18 : decode cX2_numberOf 18 = .ok (.ireturn, 1) := by decide +kernel
theorem dX2_has_0 : decode cX2_has 0 = .ok (.iload_n 1, 1) := by decide +kernel
theorem dX2_has_1 : decode cX2_has 1 = .ok (.ifCond .lt 21, 3) := by decide +kernel
theorem dX2_has_4 : decode cX2_has 4 = .ok (.iload_n 1, 1) := by decide +kernel
theorem dX2_has_5 : decode cX2_has 5 = .ok (.aload_n 0, 1) := by decide +kernel
theorem dX2_has_6 : decode cX2_has 6 = .ok (.getfield 24, 3) := by decide +kernel
theorem dX2_has_9 : decode cX2_has 9 = .ok (.if_icmp .ge 13, 3) := by decide +kernel
theorem dX2_has_12 : decode cX2_has 12 = .ok (.iload_n 1, 1) := by decide +kernel
theorem dX2_has_13 : decode cX2_has 13 = .ok (.bipush 20, 2) := by decide +kernel
theorem dX2_has_15 : decode cX2_has 15 = .ok (.if_icmp .ge 7, 3) := by decide +kernel
theorem dX2_has_18 : decode cX2_has 18 = .ok (.iconst 1, 1) := by decide +kernel
theorem dX2_has_19 : decode cX2_has 19 = .ok (.goto 4, 3) := by decide +kernel
theorem dX2_has_22 : decode cX2_has 22 = .ok (.iconst 0, 1) := by decide +kernel
theorem dX2_has_23 : decode cX2_has 23 = .ok (.ireturn, 1) := by decide +kernel
theorem dX2_copyFrom_0 : decode cX2_copyFrom 0 = .ok (.aload_n 1, 1) := by decide +kernel
theorem dX2_copyFrom_1 : decode cX2_copyFrom 1 = .ok (.getfield 9, 3) := by decide +kernel
theorem dX2_copyFrom_4 : decode cX2_copyFrom 4 = .ok (.iconst 0, 1) := by decide +kernel
theorem dX2_copyFrom_5 : decode cX2_copyFrom 5 = .ok (.aload_n 0, 1) := by decide +kernel
theorem dX2_copyFrom_6 : decode cX2_copyFrom 6 = .ok (.getfield 9, 3) := by decide +kernel
theorem dX2_copyFrom_9 : decode cX2_copyFrom 9 = .ok (.iconst 0, 1) := by decide +kernel
theorem dX2_copyFrom_10 : decode cX2_copyFrom 10 = .ok (.bipush 20, 2) := by decide +kernel
theorem dX2_copyFrom_12 : decode cX2_copyFrom 12 = .ok (.invokestatic 18, 3) := by decide +kernel
theorem dX2_copyFrom_15 : decode cX2_copyFrom 15 = .ok (.aload_n 1, 1) := by decide +kernel
theorem dX2_copyFrom_16 : decode cX2_copyFrom 16 = .ok (.getfield 15, 3) := by decide +kernel
theorem dX2_copyFrom_19 : decode cX2_copyFrom 19 = .ok (.iconst 0, 1) := by decide +kernel
theorem dX2_copyFrom_20 : decode cX2_copyFrom 20 = .ok (.aload_n 0, 1) := by decide +kernel
theorem dX2_copyFrom_21 : decode cX2_copyFrom 21 = .ok (.getfield 15, 3) := by decide +kernel
theorem dX2_copyFrom_24 : decode cX2_copyFrom 24 = .ok (.iconst 0, 1) := by decide +kernel
theorem dX2_copyFrom_25 : decode cX2_copyFrom 25 = .ok (.bipush 20, 2) := by decide +kernel
theorem dX2_copyFrom_27 : decode cX2_copyFrom 27 = .ok (.invokestatic 18, 3) := by decide +kernel
theorem dX2_copyFrom_30 : decode cX2_copyFrom 30 = .ok (.aload_n 0, 1) := by decide +kernel
theorem dX2_copyFrom_31 : decode cX2_copyFrom 31 = .ok (.aload_n 1, 1) := by decide +kernel
theorem dX2_copyFrom_32 : decode cX2_copyFrom 32 = .ok (.getfield 24, 3) := by decide +kernel
theorem dX2_copyFrom_35 : decode cX2_copyFrom 35 = .ok (.putfield 24, 3) := by decide +kernel
theorem dX2_copyFrom_38 : decode cX2_copyFrom 38 = .ok (.return_, 1) := by decide +kernel
theorem dX4_init_0 : decode cX4_init 0 = .ok (.aload_n 0, 1) := by decide +kernel
theorem dX4_init_1 : decode cX4_init 1 = .ok (.invokespecial 3, 3) := by decide +kernel
theorem dX4_init_4 : decode cX4_init 4 = .ok (.aload_n 0, 1) := by decide +kernel
theorem dX4_init_5 : decode cX4_init 5 = .ok (.bipush 8, 2) := by decide +kernel
theorem dX4_init_7 : decode cX4_init 7 = .ok (.putfield 9, 3) := by decide +kernel
theorem dX4_init_10 : decode cX4_init 10 = .ok (.aload_n 0, 1) := by decide +kernel
theorem dX4_init_11 : decode cX4_init 11 = .ok (.bipush 10, 2) := by decide +kernel
theorem dX4_init_13 : decode cX4_init 13 = .ok (.putfield 15, 3) := by decide +kernel
theorem dX4_init_16 : decode cX4_init 16 = .ok (.aload_n 0, 1) := by decide +kernel
theorem dX4_init_17 : decode cX4_init 17 = .ok (.bipush 10, 2) := by decide +kernel
theorem dX4_init_19 : decode cX4_init 19 = .ok (.putfield 18, 3) := by decide +kernel
theorem dX4_init_22 : decode cX4_init 22 = .ok (.aload_n 0, 1) := by decide +kernel
theorem dX4_init_23 : decode cX4_init 23 = .ok (.bipush 100, 2) := by decide +kernel
theorem dX4_init_25 : decode cX4_init 25 = .ok (.putfield 21, 3) := by decide +kernel
theorem dX4_init_28 : decode cX4_init 28 = .ok (.return_, 1) := by decide +kernel
theorem dX4_shadeFrom_0 : decode cX4_shadeFrom 0 = .ok (.aload_n 0, 1) := by decide +kernel
theorem dX4_shadeFrom_1 : decode cX4_shadeFrom 1 = .ok (.getfield 9, 3) := by decide +kernel
theorem dX4_shadeFrom_4 : decode cX4_shadeFrom 4 = .ok (.aload_n 0, 1) := by decide +kernel
theorem dX4_shadeFrom_5 : decode cX4_shadeFrom 5 = .ok (.getfield 15, 3) := by decide +kernel
theorem dX4_shadeFrom_8 : decode cX4_shadeFrom 8 = .ok (.iload_n 1, 1) := by decide +kernel
theorem dX4_shadeFrom_9 : decode cX4_shadeFrom 9 = .ok (.sipush 1000, 3) := by decide +kernel
theorem dX4_shadeFrom_12 : decode cX4_shadeFrom 12 = .ok (.isub, 1) := by decide +kernel
theorem dX4_shadeFrom_13 : decode cX4_shadeFrom 13 = .ok (.imul, 1) := by decide +kernel
theorem dX4_shadeFrom_14 : decode cX4_shadeFrom 14 = .ok (.bipush 100, 2) := by decide +kernel
theorem dX4_shadeFrom_16 : decode cX4_shadeFrom 16 = .ok (.invokestatic 24, 3) := by decide +kernel
theorem dX4_shadeFrom_19 : decode cX4_shadeFrom 19 = .ok (.iadd, 1) := by decide +kernel
theorem dX4_shadeFrom_20 : decode cX4_shadeFrom 20 = .ok (.istore_n 2, 1) := by decide +kernel
theorem dX4_shadeFrom_21 : decode cX4_shadeFrom 21 = .ok (.iconst 0, 1) := by decide +kernel
theorem dX4_shadeFrom_22 : decode cX4_shadeFrom 22 = .ok (.iload_n 2, 1) := by decide +kernel
theorem dX4_shadeFrom_23 : decode cX4_shadeFrom 23 = .ok (.bipush 19, 2) := by decide +kernel
theorem dX4_shadeFrom_25 : decode cX4_shadeFrom 25 = .ok (.invokestatic 30, 3) := by decide +kernel
theorem dX4_shadeFrom_28 : decode cX4_shadeFrom 28 = .ok (.invokestatic 33, 3) := by decide +kernel
theorem dX4_shadeFrom_31 : decode cX4_shadeFrom 31 = .ok (.ireturn, 1) := by decide +kernel
theorem dX4_tileValue_0 : decode cX4_tileValue 0 = .ok (.iload_n 1, 1) := by decide +kernel
theorem dX4_tileValue_1 : decode cX4_tileValue 1 = .ok (.iconst 1, 1) := by decide +kernel
theorem dX4_tileValue_2 : decode cX4_tileValue 2 = .ok (.if_icmp .ne 10, 3) := by decide +kernel
theorem dX4_tileValue_5 : decode cX4_tileValue 5 = .ok (.aload_n 0, 1) := by decide +kernel
theorem dX4_tileValue_6 : decode cX4_tileValue 6 = .ok (.getfield 21, 3) := by decide +kernel
theorem dX4_tileValue_9 : decode cX4_tileValue 9 = .ok (.goto 9, 3) := by decide +kernel
theorem dX4_tileValue_12 : decode cX4_tileValue 12 = .ok (.aload_n 0, 1) := by decide +kernel
theorem dX4_tileValue_13 : decode cX4_tileValue 13 = .ok (.getfield 21, 3) := by decide +kernel
theorem dX4_tileValue_16 : decode cX4_tileValue 16 = .ok (.iconst 2, 1) := by decide +kernel
theorem dX4_tileValue_17 : decode cX4_tileValue 17 = .ok (.idiv, 1) := by decide +kernel
theorem dX4_tileValue_18 : decode cX4_tileValue 18 = .ok (.ireturn, 1) := by decide +kernel
theorem dX4_copyFrom_0 : decode cX4_copyFrom 0 = .ok (.aload_n 0, 1) := by decide +kernel
theorem dX4_copyFrom_1 : decode cX4_copyFrom 1 = .ok (.aload_n 1, 1) := by decide +kernel
theorem dX4_copyFrom_2 : decode cX4_copyFrom 2 = .ok (.getfield 9, 3) := by decide +kernel
theorem dX4_copyFrom_5 : decode cX4_copyFrom 5 = .ok (.putfield 9, 3) := by decide +kernel
theorem dX4_copyFrom_8 : decode cX4_copyFrom 8 = .ok (.aload_n 0, 1) := by decide +kernel
theorem dX4_copyFrom_9 : decode cX4_copyFrom 9 = .ok (.aload_n 1, 1) := by decide +kernel
theorem dX4_copyFrom_10 : decode cX4_copyFrom 10 = .ok (.getfield 15, 3) := by decide +kernel
theorem dX4_copyFrom_13 : decode cX4_copyFrom 13 = .ok (.putfield 15, 3) := by decide +kernel
theorem dX4_copyFrom_16 : decode cX4_copyFrom 16 = .ok (.aload_n 0, 1) := by decide +kernel
theorem dX4_copyFrom_17 : decode cX4_copyFrom 17 = .ok (.aload_n 1, 1) := by decide +kernel
theorem dX4_copyFrom_18 : decode cX4_copyFrom 18 = .ok (.getfield 18, 3) := by decide +kernel
theorem dX4_copyFrom_21 : decode cX4_copyFrom 21 = .ok (.putfield 18, 3) := by decide +kernel
theorem dX4_copyFrom_24 : decode cX4_copyFrom 24 = .ok (.aload_n 0, 1) := by decide +kernel
theorem dX4_copyFrom_25 : decode cX4_copyFrom 25 = .ok (.aload_n 1, 1) := by decide +kernel
theorem dX4_copyFrom_26 : decode cX4_copyFrom 26 = .ok (.getfield 21, 3) := by decide +kernel
theorem dX4_copyFrom_29 : decode cX4_copyFrom 29 = .ok (.putfield 21, 3) := by decide +kernel
theorem dX4_copyFrom_32 : decode cX4_copyFrom 32 = .ok (.return_, 1) := by decide +kernel
theorem dX5_init_0 : decode cX5_init 0 = .ok (.aload_n 0, 1) := by decide +kernel
theorem dX5_init_1 : decode cX5_init 1 = .ok (.invokespecial 3, 3) := by decide +kernel
theorem dX5_init_4 : decode cX5_init 4 = .ok (.aload_n 0, 1) := by decide +kernel
theorem dX5_init_5 : decode cX5_init 5 = .ok (.bipush 6, 2) := by decide +kernel
theorem dX5_init_7 : decode cX5_init 7 = .ok (.anewarray 9, 3) := by decide +kernel
theorem dX5_init_10 : decode cX5_init 10 = .ok (.putfield 11, 3) := by decide +kernel
theorem dX5_init_13 : decode cX5_init 13 = .ok (.return_, 1) := by decide +kernel
theorem dX5_save_0 : decode cX5_save 0 = .ok (.aload_n 0, 1) := by decide +kernel
theorem dX5_save_1 : decode cX5_save 1 = .ok (.getfield 17, 3) := by decide +kernel
theorem dX5_save_4 : decode cX5_save 4 = .ok (.aload_n 0, 1) := by decide +kernel
theorem dX5_save_5 : decode cX5_save 5 = .ok (.getfield 11, 3) := by decide +kernel
theorem dX5_save_8 : decode cX5_save 8 = .ok (.arraylength, 1) := by decide +kernel
theorem dX5_save_9 : decode cX5_save 9 = .ok (.if_icmp .lt 18, 3) := by decide +kernel
theorem dX5_save_12 : decode cX5_save 12 = .ok (.aload_n 0, 1) := by decide +kernel
theorem dX5_save_13 : decode cX5_save 13 = .ok (.invokevirtual 21, 3) := by decide +kernel
theorem dX5_save_16 : decode cX5_save 16 = .ok (.aload_n 0, 1) := by decide +kernel
theorem dX5_save_17 : decode cX5_save 17 = .ok (.aload_n 0, 1) := by decide +kernel
theorem dX5_save_18 : decode cX5_save 18 = .ok (.getfield 11, 3) := by decide +kernel
theorem dX5_save_21 : decode cX5_save 21 = .ok (.arraylength, 1) := by decide +kernel
theorem dX5_save_22 : decode cX5_save 22 = .ok (.iconst 1, 1) := by decide +kernel
theorem dX5_save_23 : decode cX5_save 23 = .ok (.isub, 1) := by decide +kernel
theorem dX5_save_24 : decode cX5_save 24 = .ok (.putfield 17, 3) := by decide +kernel
theorem dX5_save_27 : decode cX5_save 27 = .ok (.aload_n 0, 1) := by decide +kernel
theorem dX5_save_28 : decode cX5_save 28 = .ok (.getfield 11, 3) := by decide +kernel
theorem dX5_save_31 : decode cX5_save 31 = .ok (.aload_n 0, 1) := by decide +kernel
theorem dX5_save_32 : decode cX5_save 32 = .ok (.getfield 17, 3) := by decide +kernel
theorem dX5_save_35 : decode cX5_save 35 = .ok (.aaload, 1) := by decide +kernel
theorem dX5_save_36 : decode cX5_save 36 = .ok (.ifnonnull 19, 3) := by decide +kernel
theorem dX5_save_39 : decode cX5_save 39 = .ok (.aload_n 0, 1) := by decide +kernel
theorem dX5_save_40 : decode cX5_save 40 = .ok (.getfield 11, 3) := by decide +kernel
theorem dX5_save_43 : decode cX5_save 43 = .ok (.aload_n 0, 1) := by decide +kernel
theorem dX5_save_44 : decode cX5_save 44 = .ok (.getfield 17, 3) := by decide +kernel
theorem dX5_save_47 : decode cX5_save 47 = .ok (.new 9, 3) := by decide +kernel
theorem dX5_save_50 : decode cX5_save 50 = .ok (.dup, 1) := by decide +kernel
theorem dX5_save_51 : decode cX5_save 51 = .ok (.invokespecial 24, 3) := by decide +kernel
theorem dX5_save_54 : decode cX5_save 54 = .ok (.aastore, 1) := by decide +kernel
theorem dX5_save_55 : decode cX5_save 55 = .ok (.aload_n 0, 1) := by decide +kernel
theorem dX5_save_56 : decode cX5_save 56 = .ok (.getfield 11, 3) := by decide +kernel
theorem dX5_save_59 : decode cX5_save 59 = .ok (.aload_n 0, 1) := by decide +kernel
theorem dX5_save_60 : decode cX5_save 60 = .ok (.getfield 17, 3) := by decide +kernel
theorem dX5_save_63 : decode cX5_save 63 = .ok (.aaload, 1) := by decide +kernel
theorem dX5_save_64 : decode cX5_save 64 = .ok (.aload_n 1, 1) := by decide +kernel
theorem dX5_save_65 : decode cX5_save 65 = .ok (.invokevirtual 25, 3) := by decide +kernel
theorem dX5_save_68 : decode cX5_save 68 = .ok (.aload_n 0, 1) := by decide +kernel
theorem dX5_save_69 : decode cX5_save 69 = .ok (.dup, 1) := by decide +kernel
theorem dX5_save_70 : decode cX5_save 70 = .ok (.getfield 17, 3) := by decide +kernel
theorem dX5_save_73 : decode cX5_save 73 = .ok (.iconst 1, 1) := by decide +kernel
theorem dX5_save_74 : decode cX5_save 74 = .ok (.iadd, 1) := by decide +kernel
theorem dX5_save_75 : decode cX5_save 75 = .ok (.putfield 17, 3) := by decide +kernel
theorem dX5_save_78 : decode cX5_save 78 = .ok (.return_, 1) := by decide +kernel
theorem dX5_moveOldestToEnd_0 : decode cX5_moveOldestToEnd 0 = .ok (.aload_n 0, 1) := by decide +kernel
theorem dX5_moveOldestToEnd_1 : decode cX5_moveOldestToEnd 1 = .ok (.getfield 11, 3) := by decide +kernel
theorem dX5_moveOldestToEnd_4 : decode cX5_moveOldestToEnd 4 = .ok (.iconst 0, 1) := by decide +kernel
theorem dX5_moveOldestToEnd_5 : decode cX5_moveOldestToEnd 5 = .ok (.aaload, 1) := by decide +kernel
theorem dX5_moveOldestToEnd_6 : decode cX5_moveOldestToEnd 6 = .ok (.astore_n 1, 1) := by decide +kernel
theorem dX5_moveOldestToEnd_7 : decode cX5_moveOldestToEnd 7 = .ok (.iconst 1, 1) := by decide +kernel
theorem dX5_moveOldestToEnd_8 : decode cX5_moveOldestToEnd 8 = .ok (.istore_n 2, 1) := by decide +kernel
theorem dX5_moveOldestToEnd_9 : decode cX5_moveOldestToEnd 9 = .ok (.iload_n 2, 1) := by decide +kernel
theorem dX5_moveOldestToEnd_10 : decode cX5_moveOldestToEnd 10 = .ok (.aload_n 0, 1) := by decide +kernel
theorem dX5_moveOldestToEnd_11 : decode cX5_moveOldestToEnd 11 = .ok (.getfield 11, 3) := by decide +kernel
theorem dX5_moveOldestToEnd_14 : decode cX5_moveOldestToEnd 14 = .ok (.arraylength, 1) := by decide +kernel
theorem dX5_moveOldestToEnd_15 : decode cX5_moveOldestToEnd 15 = .ok (.if_icmp .ge 23, 3) := by decide +kernel
theorem dX5_moveOldestToEnd_18 : decode cX5_moveOldestToEnd 18 = .ok (.aload_n 0, 1) := by decide +kernel
theorem dX5_moveOldestToEnd_19 : decode cX5_moveOldestToEnd 19 = .ok (.getfield 11, 3) := by decide +kernel
theorem dX5_moveOldestToEnd_22 : decode cX5_moveOldestToEnd 22 = .ok (.iload_n 2, 1) := by decide +kernel
theorem dX5_moveOldestToEnd_23 : decode cX5_moveOldestToEnd 23 = .ok (.iconst 1, 1) := by decide +kernel
theorem dX5_moveOldestToEnd_24 : decode cX5_moveOldestToEnd 24 = .ok (.isub, 1) := by decide +kernel
theorem dX5_moveOldestToEnd_25 : decode cX5_moveOldestToEnd 25 = .ok (.aload_n 0, 1) := by decide +kernel
theorem dX5_moveOldestToEnd_26 : decode cX5_moveOldestToEnd 26 = .ok (.getfield 11, 3) := by decide +kernel
theorem dX5_moveOldestToEnd_29 : decode cX5_moveOldestToEnd 29 = .ok (.iload_n 2, 1) := by decide +kernel
theorem dX5_moveOldestToEnd_30 : decode cX5_moveOldestToEnd 30 = .ok (.aaload, 1) := by decide +kernel
theorem dX5_moveOldestToEnd_31 : decode cX5_moveOldestToEnd 31 = .ok (.aastore, 1) := by decide +kernel
theorem dX5_moveOldestToEnd_32 : decode cX5_moveOldestToEnd 32 = .ok (.iinc 2 1, 3) := by decide +kernel
theorem dX5_moveOldestToEnd_35 : decode cX5_moveOldestToEnd 35 = .ok (.goto (-26), 3) := by decide +kernel
theorem dX5_moveOldestToEnd_38 : decode cX5_moveOldestToEnd 38 = .ok (.aload_n 0, 1) := by decide +kernel
theorem dX5_moveOldestToEnd_39 : decode cX5_moveOldestToEnd 39 = .ok (.getfield 11, 3) := by decide +kernel
theorem dX5_moveOldestToEnd_42 : decode cX5_moveOldestToEnd 42 = .ok (.aload_n 0, 1) := by decide +kernel
theorem dX5_moveOldestToEnd_43 : decode cX5_moveOldestToEnd 43 = .ok (.getfield 11, 3) := by decide +kernel
theorem dX5_moveOldestToEnd_46 : decode cX5_moveOldestToEnd 46 = .ok (.arraylength, 1) := by decide +kernel
theorem dX5_moveOldestToEnd_47 : decode cX5_moveOldestToEnd 47 = .ok (.iconst 1, 1) := by decide +kernel
theorem dX5_moveOldestToEnd_48 : decode cX5_moveOldestToEnd 48 = .ok (.isub, 1) := by decide +kernel
theorem dX5_moveOldestToEnd_49 : decode cX5_moveOldestToEnd 49 = .ok (.aload_n 1, 1) := by decide +kernel
theorem dX5_moveOldestToEnd_50 : decode cX5_moveOldestToEnd 50 = .ok (.aastore, 1) := by decide +kernel
theorem dX5_moveOldestToEnd_51 : decode cX5_moveOldestToEnd 51 = .ok (.return_, 1) := by decide +kernel
theorem dX5_restore_0 : decode cX5_restore 0 = .ok (.aload_n 0, 1) := by decide +kernel
theorem dX5_restore_1 : decode cX5_restore 1 = .ok (.getfield 17, 3) := by decide +kernel
theorem dX5_restore_4 : decode cX5_restore 4 = .ok (.iconst 1, 1) := by decide +kernel
theorem dX5_restore_5 : decode cX5_restore 5 = .ok (.if_icmp .lt 29, 3) := by decide +kernel
theorem dX5_restore_8 : decode cX5_restore 8 = .ok (.aload_n 0, 1) := by decide +kernel
theorem dX5_restore_9 : decode cX5_restore 9 = .ok (.getfield 17, 3) := by decide +kernel
theorem dX5_restore_12 : decode cX5_restore 12 = .ok (.aload_n 0, 1) := by decide +kernel
theorem dX5_restore_13 : decode cX5_restore 13 = .ok (.getfield 11, 3) := by decide +kernel
theorem dX5_restore_16 : decode cX5_restore 16 = .ok (.arraylength, 1) := by decide +kernel
theorem dX5_restore_17 : decode cX5_restore 17 = .ok (.if_icmp .gt 17, 3) := by decide +kernel
theorem dX5_restore_20 : decode cX5_restore 20 = .ok (.aload_n 0, 1) := by decide +kernel
theorem dX5_restore_21 : decode cX5_restore 21 = .ok (.getfield 11, 3) := by decide +kernel
theorem dX5_restore_24 : decode cX5_restore 24 = .ok (.aload_n 0, 1) := by decide +kernel
theorem dX5_restore_25 : decode cX5_restore 25 = .ok (.getfield 17, 3) := by decide +kernel
theorem dX5_restore_28 : decode cX5_restore 28 = .ok (.iconst 1, 1) := by decide +kernel
theorem dX5_restore_29 : decode cX5_restore 29 = .ok (.isub, 1) := by decide +kernel
theorem dX5_restore_30 : decode cX5_restore 30 = .ok (.aaload, 1) := by decide +kernel
theorem dX5_restore_31 : decode cX5_restore 31 = .ok (.ifnonnull 4, 3) := by decide +kernel
theorem dX5_restore_34 : decode cX5_restore 34 = .ok (.return_, 1) := by decide +kernel
theorem dX5_restore_35 : decode cX5_restore 35 = .ok (.aload_n 0, 1) := by decide +kernel
theorem dX5_restore_36 : decode cX5_restore 36 = .ok (.dup, 1) := by decide +kernel
theorem dX5_restore_37 : decode cX5_restore 37 = .ok (.getfield 17, 3) := by decide +kernel
theorem dX5_restore_40 : decode cX5_restore 40 = .ok (.iconst 1, 1) := by decide +kernel
theorem dX5_restore_41 : decode cX5_restore 41 = .ok (.isub, 1) := by decide +kernel
theorem dX5_restore_42 : decode cX5_restore 42 = .ok (.putfield 17, 3) := by decide +kernel
theorem dX5_restore_45 : decode cX5_restore 45 = .ok (.aload_n 1, 1) := by decide +kernel
theorem dX5_restore_46 : decode cX5_restore 46 = .ok (.aload_n 0, 1) := by decide +kernel
theorem dX5_restore_47 : decode cX5_restore 47 = .ok (.getfield 11, 3) := by decide +kernel
theorem dX5_restore_50 : decode cX5_restore 50 = .ok (.aload_n 0, 1) := by decide +kernel
theorem dX5_restore_51 : decode cX5_restore 51 = .ok (.getfield 17, 3) := by decide +kernel
theorem dX5_restore_54 : decode cX5_restore 54 = .ok (.aaload, 1) := by decide +kernel
theorem dX5_restore_55 : decode cX5_restore 55 = .ok (.invokevirtual 25, 3) := by decide +kernel
theorem dX5_restore_58 : decode cX5_restore 58 = .ok (.return_, 1) := by decide +kernel
theorem dX6_init_0 : decode cX6_init 0 = .ok (.aload_n 0, 1) := by decide +kernel
theorem dX6_init_1 : decode cX6_init 1 = .ok (.invokespecial 1, 3) := by decide +kernel
theorem dX6_init_4 : decode cX6_init 4 = .ok (.return_, 1) := by decide +kernel
theorem dX6_isOf_0 : decode cX6_isOf 0 = .ok (.aload_n 0, 1) := by decide +kernel
theorem dX6_isOf_1 : decode cX6_isOf 1 = .ok (.getfield 7, 3) := by decide +kernel
theorem dX6_isOf_4 : decode cX6_isOf 4 = .ok (.iload_n 1, 1) := by decide +kernel
theorem dX6_isOf_5 : decode cX6_isOf 5 = .ok (.if_icmp .ne 15, 3) := by decide +kernel
theorem dX6_isOf_8 : decode cX6_isOf 8 = .ok (.aload_n 0, 1) := by decide +kernel
theorem dX6_isOf_9 : decode cX6_isOf 9 = .ok (.getfield 13, 3) := by decide +kernel
theorem dX6_isOf_12 : decode cX6_isOf 12 = .ok (.iload_n 2, 1) := by decide +kernel
theorem dX6_isOf_13 : decode cX6_isOf 13 = .ok (.if_icmp .ne 7, 3) := by decide +kernel
theorem dX6_isOf_16 : decode cX6_isOf 16 = .ok (.iconst 1, 1) := by decide +kernel
theorem dX6_isOf_17 : decode cX6_isOf 17 = .ok (.goto 4, 3) := by decide +kernel
theorem dX6_isOf_20 : decode cX6_isOf 20 = .ok (.iconst 0, 1) := by decide +kernel
theorem dX6_isOf_21 : decode cX6_isOf 21 = .ok (.ireturn, 1) := by decide +kernel
theorem dX6_content_0 : decode cX6_content 0 = .ok (.aload_n 0, 1) := by decide +kernel
theorem dX6_content_1 : decode cX6_content 1 = .ok (.getfield 16, 3) := by decide +kernel
theorem dX6_content_4 : decode cX6_content 4 = .ok (.aload_n 0, 1) := by decide +kernel
theorem dX6_content_5 : decode cX6_content 5 = .ok (.getfield 19, 3) := by decide +kernel
theorem dX6_content_8 : decode cX6_content 8 = .ok (.iload_n 1, 1) := by decide +kernel
theorem dX6_content_9 : decode cX6_content 9 = .ok (.imul, 1) := by decide +kernel
theorem dX6_content_10 : decode cX6_content 10 = .ok (.iadd, 1) := by decide +kernel
theorem dX6_content_11 : decode cX6_content 11 = .ok (.ireturn, 1) := by decide +kernel
theorem dX6_limitHidden_0 : decode cX6_limitHidden 0 = .ok (.aload_n 0, 1) := by decide +kernel
theorem dX6_limitHidden_1 : decode cX6_limitHidden 1 = .ok (.aload_n 0, 1) := by decide +kernel
theorem dX6_limitHidden_2 : decode cX6_limitHidden 2 = .ok (.getfield 22, 3) := by decide +kernel
theorem dX6_limitHidden_5 : decode cX6_limitHidden 5 = .ok (.aload_n 0, 1) := by decide +kernel
theorem dX6_limitHidden_6 : decode cX6_limitHidden 6 = .ok (.iload_n 1, 1) := by decide +kernel
theorem dX6_limitHidden_7 : decode cX6_limitHidden 7 = .ok (.invokevirtual 25, 3) := by decide +kernel
theorem dX6_limitHidden_10 : decode cX6_limitHidden 10 = .ok (.invokestatic 29, 3) := by decide +kernel
theorem dX6_limitHidden_13 : decode cX6_limitHidden 13 = .ok (.putfield 22, 3) := by decide +kernel
theorem dX6_limitHidden_16 : decode cX6_limitHidden 16 = .ok (.return_, 1) := by decide +kernel
theorem dX6_fillBoxes_0 : decode cX6_fillBoxes 0 = .ok (.iload_n 1, 1) := by decide +kernel
theorem dX6_fillBoxes_1 : decode cX6_fillBoxes 1 = .ok (.iconst 1, 1) := by decide +kernel
theorem dX6_fillBoxes_2 : decode cX6_fillBoxes 2 = .ok (.if_icmp .ge 5, 3) := by decide +kernel
theorem dX6_fillBoxes_5 : decode cX6_fillBoxes 5 = .ok (.iconst 0, 1) := by decide +kernel
theorem dX6_fillBoxes_6 : decode cX6_fillBoxes 6 = .ok (.ireturn, 1) := by decide +kernel
theorem dX6_fillBoxes_7 : decode cX6_fillBoxes 7 = .ok (.aload_n 0, 1) := by decide +kernel
theorem dX6_fillBoxes_8 : decode cX6_fillBoxes 8 = .ok (.getfield 16, 3) := by decide +kernel
theorem dX6_fillBoxes_11 : decode cX6_fillBoxes 11 = .ok (.iload_n 1, 1) := by decide +kernel
theorem dX6_fillBoxes_12 : decode cX6_fillBoxes 12 = .ok (.idiv, 1) := by decide +kernel
theorem dX6_fillBoxes_13 : decode cX6_fillBoxes 13 = .ok (.istore_n 2, 1) := by decide +kernel
theorem dX6_fillBoxes_14 : decode cX6_fillBoxes 14 = .ok (.aload_n 0, 1) := by decide +kernel
theorem dX6_fillBoxes_15 : decode cX6_fillBoxes 15 = .ok (.dup, 1) := by decide +kernel
theorem dX6_fillBoxes_16 : decode cX6_fillBoxes 16 = .ok (.getfield 19, 3) := by decide +kernel
theorem dX6_fillBoxes_19 : decode cX6_fillBoxes 19 = .ok (.iload_n 2, 1) := by decide +kernel
theorem dX6_fillBoxes_20 : decode cX6_fillBoxes 20 = .ok (.iadd, 1) := by decide +kernel
theorem dX6_fillBoxes_21 : decode cX6_fillBoxes 21 = .ok (.putfield 19, 3) := by decide +kernel
theorem dX6_fillBoxes_24 : decode cX6_fillBoxes 24 = .ok (.aload_n 0, 1) := by decide +kernel
theorem dX6_fillBoxes_25 : decode cX6_fillBoxes 25 = .ok (.dup, 1) := by decide +kernel
theorem dX6_fillBoxes_26 : decode cX6_fillBoxes 26 = .ok (.getfield 16, 3) := by decide +kernel
theorem dX6_fillBoxes_29 : decode cX6_fillBoxes 29 = .ok (.iload_n 2, 1) := by decide +kernel
theorem dX6_fillBoxes_30 : decode cX6_fillBoxes 30 = .ok (.iload_n 1, 1) := by decide +kernel
theorem dX6_fillBoxes_31 : decode cX6_fillBoxes 31 = .ok (.imul, 1) := by decide +kernel
theorem dX6_fillBoxes_32 : decode cX6_fillBoxes 32 = .ok (.isub, 1) := by decide +kernel
theorem dX6_fillBoxes_33 : decode cX6_fillBoxes 33 = .ok (.putfield 16, 3) := by decide +kernel
theorem dX6_fillBoxes_36 : decode cX6_fillBoxes 36 = .ok (.iload_n 2, 1) := by decide +kernel
theorem dX6_fillBoxes_37 : decode cX6_fillBoxes 37 = .ok (.ireturn, 1) := by decide +kernel
theorem dX6_giveBoxes_0 : decode cX6_giveBoxes 0 = .ok (.aload_n 0, 1) := by decide +kernel
theorem dX6_giveBoxes_1 : decode cX6_giveBoxes 1 = .ok (.iload_n 2, 1) := by decide +kernel
theorem dX6_giveBoxes_2 : decode cX6_giveBoxes 2 = .ok (.invokevirtual 25, 3) := by decide +kernel
theorem dX6_giveBoxes_5 : decode cX6_giveBoxes 5 = .ok (.istore_n 3, 1) := by decide +kernel
theorem dX6_giveBoxes_6 : decode cX6_giveBoxes 6 = .ok (.iload_n 1, 1) := by decide +kernel
theorem dX6_giveBoxes_7 : decode cX6_giveBoxes 7 = .ok (.i2l, 1) := by decide +kernel
theorem dX6_giveBoxes_8 : decode cX6_giveBoxes 8 = .ok (.iload_n 2, 1) := by decide +kernel
theorem dX6_giveBoxes_9 : decode cX6_giveBoxes 9 = .ok (.i2l, 1) := by decide +kernel
theorem dX6_giveBoxes_10 : decode cX6_giveBoxes 10 = .ok (.lmul, 1) := by decide +kernel
theorem dX6_giveBoxes_11 : decode cX6_giveBoxes 11 = .ok (.lstore 4, 2) := by decide +kernel
theorem dX6_giveBoxes_13 : decode cX6_giveBoxes 13 = .ok (.iload_n 3, 1) := by decide +kernel
theorem dX6_giveBoxes_14 : decode cX6_giveBoxes 14 = .ok (.iconst 1, 1) := by decide +kernel
theorem dX6_giveBoxes_15 : decode cX6_giveBoxes 15 = .ok (.if_icmp .ge 7, 3) := by decide +kernel
theorem dX6_giveBoxes_18 : decode cX6_giveBoxes 18 = .ok (.iconst 0, 1) := by decide +kernel
theorem dX6_giveBoxes_19 : decode cX6_giveBoxes 19 = .ok (.goto 15, 3) := by decide +kernel
theorem dX6_giveBoxes_22 : decode cX6_giveBoxes 22 = .ok (.aload_n 0, 1) := by decide +kernel
theorem dX6_giveBoxes_23 : decode cX6_giveBoxes 23 = .ok (.getfield 22, 3) := by decide +kernel
theorem dX6_giveBoxes_26 : decode cX6_giveBoxes 26 = .ok (.i2l, 1) := by decide +kernel
theorem dX6_giveBoxes_27 : decode cX6_giveBoxes 27 = .ok (.lload 4, 2) := by decide +kernel
theorem dX6_giveBoxes_29 : decode cX6_giveBoxes 29 = .ok (.lmul, 1) := by decide +kernel
theorem dX6_giveBoxes_30 : decode cX6_giveBoxes 30 = .ok (.iload_n 3, 1) := by decide +kernel
theorem dX6_giveBoxes_31 : decode cX6_giveBoxes 31 = .ok (.i2l, 1) := by decide +kernel
theorem dX6_giveBoxes_32 : decode cX6_giveBoxes 32 = .ok (.ldiv, 1) := by decide +kernel
theorem dX6_giveBoxes_33 : decode cX6_giveBoxes 33 = .ok (.l2i, 1) := by decide +kernel
theorem dX6_giveBoxes_34 : decode cX6_giveBoxes 34 = .ok (.istore 6, 2) := by decide +kernel
theorem dX6_giveBoxes_36 : decode cX6_giveBoxes 36 = .ok (.aload_n 0, 1) := by decide +kernel
theorem dX6_giveBoxes_37 : decode cX6_giveBoxes 37 = .ok (.dup, 1) := by decide +kernel
theorem dX6_giveBoxes_38 : decode cX6_giveBoxes 38 = .ok (.getfield 19, 3) := by decide +kernel
theorem dX6_giveBoxes_41 : decode cX6_giveBoxes 41 = .ok (.iload_n 1, 1) := by decide +kernel
theorem dX6_giveBoxes_42 : decode cX6_giveBoxes 42 = .ok (.isub, 1) := by decide +kernel
theorem dX6_giveBoxes_43 : decode cX6_giveBoxes 43 = .ok (.putfield 19, 3) := by decide +kernel
theorem dX6_giveBoxes_46 : decode cX6_giveBoxes 46 = .ok (.aload_n 0, 1) := by decide +kernel
theorem dX6_giveBoxes_47 : decode cX6_giveBoxes 47 = .ok (.dup, 1) := by decide +kernel
theorem dX6_giveBoxes_48 : decode cX6_giveBoxes 48 = .ok (.getfield 22, 3) := by decide +kernel
theorem dX6_giveBoxes_51 : decode cX6_giveBoxes 51 = .ok (.iload 6, 2) := by decide +kernel
theorem dX6_giveBoxes_53 : decode cX6_giveBoxes 53 = .ok (.isub, 1) := by decide +kernel
theorem dX6_giveBoxes_54 : decode cX6_giveBoxes 54 = .ok (.putfield 22, 3) := by decide +kernel
theorem dX6_giveBoxes_57 : decode cX6_giveBoxes 57 = .ok (.aload_n 0, 1) := by decide +kernel
theorem dX6_giveBoxes_58 : decode cX6_giveBoxes 58 = .ok (.iload_n 2, 1) := by decide +kernel
theorem dX6_giveBoxes_59 : decode cX6_giveBoxes 59 = .ok (.invokevirtual 35, 3) := by decide +kernel
theorem dX6_giveBoxes_62 : decode cX6_giveBoxes 62 = .ok (.iload 6, 2) := by decide +kernel
theorem dX6_giveBoxes_64 : decode cX6_giveBoxes 64 = .ok (.ireturn, 1) := by decide +kernel
theorem dX6_property_0 : decode cX6_property 0 = .ok (.iload_n 1, 1) := by decide +kernel
theorem dX6_property_1 : decode cX6_property 1 = .ok (.tableswitch 60 0 4 #[35, 40, 45, 50, 55], 35) := by decide +kernel
theorem dX6_property_36 : decode cX6_property 36 = .ok (.aload_n 0, 1) := by decide +kernel
theorem dX6_property_37 : decode cX6_property 37 = .ok (.getfield 7, 3) := by decide +kernel
theorem dX6_property_40 : decode cX6_property 40 = .ok (.ireturn, 1) := by decide +kernel
theorem dX6_property_41 : decode cX6_property 41 = .ok (.aload_n 0, 1) := by decide +kernel
theorem dX6_property_42 : decode cX6_property 42 = .ok (.getfield 39, 3) := by decide +kernel
theorem dX6_property_45 : decode cX6_property 45 = .ok (.ireturn, 1) := by decide +kernel
theorem dX6_property_46 : decode cX6_property 46 = .ok (.aload_n 0, 1) := by decide +kernel
theorem dX6_property_47 : decode cX6_property 47 = .ok (.getfield 13, 3) := by decide +kernel
theorem dX6_property_50 : decode cX6_property 50 = .ok (.ireturn, 1) := by decide +kernel
theorem dX6_property_51 : decode cX6_property 51 = .ok (.aload_n 0, 1) := by decide +kernel
theorem dX6_property_52 : decode cX6_property 52 = .ok (.getfield 16, 3) := by decide +kernel
theorem dX6_property_55 : decode cX6_property 55 = .ok (.ireturn, 1) := by decide +kernel
theorem dX6_property_56 : decode cX6_property 56 = .ok (.aload_n 0, 1) := by decide +kernel
theorem dX6_property_57 : decode cX6_property 57 = .ok (.getfield 19, 3) := by decide +kernel
theorem dX6_property_60 : decode cX6_property 60 = .ok (.ireturn, 1) := by decide +kernel
theorem dX6_property_61 : decode cX6_property 61 = .ok (.aload_n 0, 1) := by decide +kernel
theorem dX6_property_62 : decode cX6_property 62 = .ok (.getfield 22, 3) := by decide +kernel
theorem dX6_property_65 : decode cX6_property 65 = .ok (.ireturn, 1) := by decide +kernel
theorem dX6_begin_0 : decode cX6_begin 0 = .ok (.aload_n 0, 1) := by decide +kernel
theorem dX6_begin_1 : decode cX6_begin 1 = .ok (.iload_n 1, 1) := by decide +kernel
theorem dX6_begin_2 : decode cX6_begin 2 = .ok (.putfield 7, 3) := by decide +kernel
theorem dX6_begin_5 : decode cX6_begin 5 = .ok (.aload_n 0, 1) := by decide +kernel
theorem dX6_begin_6 : decode cX6_begin 6 = .ok (.iload_n 2, 1) := by decide +kernel
theorem dX6_begin_7 : decode cX6_begin 7 = .ok (.putfield 39, 3) := by decide +kernel
theorem dX6_begin_10 : decode cX6_begin 10 = .ok (.aload_n 0, 1) := by decide +kernel
theorem dX6_begin_11 : decode cX6_begin 11 = .ok (.iload_n 3, 1) := by decide +kernel
theorem dX6_begin_12 : decode cX6_begin 12 = .ok (.putfield 13, 3) := by decide +kernel
theorem dX6_begin_15 : decode cX6_begin 15 = .ok (.aload_n 0, 1) := by decide +kernel
theorem dX6_begin_16 : decode cX6_begin 16 = .ok (.iconst 0, 1) := by decide +kernel
theorem dX6_begin_17 : decode cX6_begin 17 = .ok (.putfield 16, 3) := by decide +kernel
theorem dX6_begin_20 : decode cX6_begin 20 = .ok (.aload_n 0, 1) := by decide +kernel
theorem dX6_begin_21 : decode cX6_begin 21 = .ok (.iconst 0, 1) := by decide +kernel
theorem dX6_begin_22 : decode cX6_begin 22 = .ok (.putfield 19, 3) := by decide +kernel
theorem dX6_begin_25 : decode cX6_begin 25 = .ok (.aload_n 0, 1) := by decide +kernel
theorem dX6_begin_26 : decode cX6_begin 26 = .ok (.iconst 0, 1) := by decide +kernel
theorem dX6_begin_27 : decode cX6_begin 27 = .ok (.putfield 22, 3) := by decide +kernel
theorem dX6_begin_30 : decode cX6_begin 30 = .ok (.return_, 1) := by decide +kernel
theorem dX6_copyFrom_0 : decode cX6_copyFrom 0 = .ok (.aload_n 0, 1) := by decide +kernel
theorem dX6_copyFrom_1 : decode cX6_copyFrom 1 = .ok (.aload_n 1, 1) := by decide +kernel
theorem dX6_copyFrom_2 : decode cX6_copyFrom 2 = .ok (.getfield 7, 3) := by decide +kernel
theorem dX6_copyFrom_5 : decode cX6_copyFrom 5 = .ok (.putfield 7, 3) := by decide +kernel
theorem dX6_copyFrom_8 : decode cX6_copyFrom 8 = .ok (.aload_n 0, 1) := by decide +kernel
theorem dX6_copyFrom_9 : decode cX6_copyFrom 9 = .ok (.aload_n 1, 1) := by decide +kernel
theorem dX6_copyFrom_10 : decode cX6_copyFrom 10 = .ok (.getfield 39, 3) := by decide +kernel
theorem dX6_copyFrom_13 : decode cX6_copyFrom 13 = .ok (.putfield 39, 3) := by decide +kernel
theorem dX6_copyFrom_16 : decode cX6_copyFrom 16 = .ok (.aload_n 0, 1) := by decide +kernel
theorem dX6_copyFrom_17 : decode cX6_copyFrom 17 = .ok (.aload_n 1, 1) := by decide +kernel
theorem dX6_copyFrom_18 : decode cX6_copyFrom 18 = .ok (.getfield 13, 3) := by decide +kernel
theorem dX6_copyFrom_21 : decode cX6_copyFrom 21 = .ok (.putfield 13, 3) := by decide +kernel
theorem dX6_copyFrom_24 : decode cX6_copyFrom 24 = .ok (.aload_n 0, 1) := by decide +kernel
theorem dX6_copyFrom_25 : decode cX6_copyFrom 25 = .ok (.aload_n 1, 1) := by decide +kernel
theorem dX6_copyFrom_26 : decode cX6_copyFrom 26 = .ok (.getfield 16, 3) := by decide +kernel
theorem dX6_copyFrom_29 : decode cX6_copyFrom 29 = .ok (.putfield 16, 3) := by decide +kernel
theorem dX6_copyFrom_32 : decode cX6_copyFrom 32 = .ok (.aload_n 0, 1) := by decide +kernel
theorem dX6_copyFrom_33 : decode cX6_copyFrom 33 = .ok (.aload_n 1, 1) := by decide +kernel
theorem dX6_copyFrom_34 : decode cX6_copyFrom 34 = .ok (.getfield 19, 3) := by decide +kernel
theorem dX6_copyFrom_37 : decode cX6_copyFrom 37 = .ok (.putfield 19, 3) := by decide +kernel
theorem dX6_copyFrom_40 : decode cX6_copyFrom 40 = .ok (.aload_n 0, 1) := by decide +kernel
theorem dX6_copyFrom_41 : decode cX6_copyFrom 41 = .ok (.aload_n 1, 1) := by decide +kernel
theorem dX6_copyFrom_42 : decode cX6_copyFrom 42 = .ok (.getfield 22, 3) := by decide +kernel
theorem dX6_copyFrom_45 : decode cX6_copyFrom 45 = .ok (.putfield 22, 3) := by decide +kernel
theorem dX6_copyFrom_48 : decode cX6_copyFrom 48 = .ok (.return_, 1) := by decide +kernel
theorem dX7_init_0 : decode cX7_init 0 = .ok (.aload_n 0, 1) := by decide +kernel
theorem dX7_init_1 : decode cX7_init 1 = .ok (.invokespecial 1, 3) := by decide +kernel
theorem dX7_init_4 : decode cX7_init 4 = .ok (.return_, 1) := by decide +kernel
theorem dX7_isOf_0 : decode cX7_isOf 0 = .ok (.aload_n 0, 1) := by decide +kernel
theorem dX7_isOf_1 : decode cX7_isOf 1 = .ok (.getfield 7, 3) := by decide +kernel
theorem dX7_isOf_4 : decode cX7_isOf 4 = .ok (.iload_n 1, 1) := by decide +kernel
theorem dX7_isOf_5 : decode cX7_isOf 5 = .ok (.if_icmp .ne 15, 3) := by decide +kernel
theorem dX7_isOf_8 : decode cX7_isOf 8 = .ok (.aload_n 0, 1) := by decide +kernel
theorem dX7_isOf_9 : decode cX7_isOf 9 = .ok (.getfield 13, 3) := by decide +kernel
theorem dX7_isOf_12 : decode cX7_isOf 12 = .ok (.iload_n 2, 1) := by decide +kernel
theorem dX7_isOf_13 : decode cX7_isOf 13 = .ok (.if_icmp .ne 7, 3) := by decide +kernel
theorem dX7_isOf_16 : decode cX7_isOf 16 = .ok (.iconst 1, 1) := by decide +kernel
theorem dX7_isOf_17 : decode cX7_isOf 17 = .ok (.goto 4, 3) := by decide +kernel
theorem dX7_isOf_20 : decode cX7_isOf 20 = .ok (.iconst 0, 1) := by decide +kernel
theorem dX7_isOf_21 : decode cX7_isOf 21 = .ok (.ireturn, 1) := by decide +kernel
theorem dX7_foundBy_0 : decode cX7_foundBy 0 = .ok (.aload_n 0, 1) := by decide +kernel
theorem dX7_foundBy_1 : decode cX7_foundBy 1 = .ok (.getfield 16, 3) := by decide +kernel
theorem dX7_foundBy_4 : decode cX7_foundBy 4 = .ok (.istore_n 3, 1) := by decide +kernel
theorem dX7_foundBy_5 : decode cX7_foundBy 5 = .ok (.iconst 0, 1) := by decide +kernel
theorem dX7_foundBy_6 : decode cX7_foundBy 6 = .ok (.istore 4, 2) := by decide +kernel
theorem dX7_foundBy_8 : decode cX7_foundBy 8 = .ok (.iload 4, 2) := by decide +kernel
theorem dX7_foundBy_10 : decode cX7_foundBy 10 = .ok (.iload_n 1, 1) := by decide +kernel
theorem dX7_foundBy_11 : decode cX7_foundBy 11 = .ok (.if_icmp .ge 33, 3) := by decide +kernel
theorem dX7_foundBy_14 : decode cX7_foundBy 14 = .ok (.iload_n 3, 1) := by decide +kernel
theorem dX7_foundBy_15 : decode cX7_foundBy 15 = .ok (.iload_n 2, 1) := by decide +kernel
theorem dX7_foundBy_16 : decode cX7_foundBy 16 = .ok (.imul, 1) := by decide +kernel
theorem dX7_foundBy_17 : decode cX7_foundBy 17 = .ok (.bipush 99, 2) := by decide +kernel
theorem dX7_foundBy_19 : decode cX7_foundBy 19 = .ok (.iadd, 1) := by decide +kernel
theorem dX7_foundBy_20 : decode cX7_foundBy 20 = .ok (.bipush 100, 2) := by decide +kernel
theorem dX7_foundBy_22 : decode cX7_foundBy 22 = .ok (.idiv, 1) := by decide +kernel
theorem dX7_foundBy_23 : decode cX7_foundBy 23 = .ok (.istore 5, 2) := by decide +kernel
theorem dX7_foundBy_25 : decode cX7_foundBy 25 = .ok (.iload 5, 2) := by decide +kernel
theorem dX7_foundBy_27 : decode cX7_foundBy 27 = .ok (.ifCond .ne 6, 3) := by decide +kernel
theorem dX7_foundBy_30 : decode cX7_foundBy 30 = .ok (.goto 14, 3) := by decide +kernel
theorem dX7_foundBy_33 : decode cX7_foundBy 33 = .ok (.iload_n 3, 1) := by decide +kernel
theorem dX7_foundBy_34 : decode cX7_foundBy 34 = .ok (.iload 5, 2) := by decide +kernel
theorem dX7_foundBy_36 : decode cX7_foundBy 36 = .ok (.isub, 1) := by decide +kernel
theorem dX7_foundBy_37 : decode cX7_foundBy 37 = .ok (.istore_n 3, 1) := by decide +kernel
theorem dX7_foundBy_38 : decode cX7_foundBy 38 = .ok (.iinc 4 1, 3) := by decide +kernel
theorem dX7_foundBy_41 : decode cX7_foundBy 41 = .ok (.goto (-33), 3) := by decide +kernel
theorem dX7_foundBy_44 : decode cX7_foundBy 44 = .ok (.aload_n 0, 1) := by decide +kernel
theorem dX7_foundBy_45 : decode cX7_foundBy 45 = .ok (.getfield 16, 3) := by decide +kernel
theorem dX7_foundBy_48 : decode cX7_foundBy 48 = .ok (.iload_n 3, 1) := by decide +kernel
theorem dX7_foundBy_49 : decode cX7_foundBy 49 = .ok (.isub, 1) := by decide +kernel
theorem dX7_foundBy_50 : decode cX7_foundBy 50 = .ok (.ireturn, 1) := by decide +kernel
theorem dX7_begin_0 : decode cX7_begin 0 = .ok (.aload_n 0, 1) := by decide +kernel
theorem dX7_begin_1 : decode cX7_begin 1 = .ok (.iload_n 1, 1) := by decide +kernel
theorem dX7_begin_2 : decode cX7_begin 2 = .ok (.putfield 7, 3) := by decide +kernel
theorem dX7_begin_5 : decode cX7_begin 5 = .ok (.aload_n 0, 1) := by decide +kernel
theorem dX7_begin_6 : decode cX7_begin 6 = .ok (.iload_n 2, 1) := by decide +kernel
theorem dX7_begin_7 : decode cX7_begin 7 = .ok (.putfield 13, 3) := by decide +kernel
theorem dX7_begin_10 : decode cX7_begin 10 = .ok (.aload_n 0, 1) := by decide +kernel
theorem dX7_begin_11 : decode cX7_begin 11 = .ok (.iconst 0, 1) := by decide +kernel
theorem dX7_begin_12 : decode cX7_begin 12 = .ok (.putfield 19, 3) := by decide +kernel
theorem dX7_begin_15 : decode cX7_begin 15 = .ok (.aload_n 0, 1) := by decide +kernel
theorem dX7_begin_16 : decode cX7_begin 16 = .ok (.iconst 0, 1) := by decide +kernel
theorem dX7_begin_17 : decode cX7_begin 17 = .ok (.putfield 16, 3) := by decide +kernel
theorem dX7_begin_20 : decode cX7_begin 20 = .ok (.return_, 1) := by decide +kernel
theorem dX7_copyFrom_0 : decode cX7_copyFrom 0 = .ok (.aload_n 0, 1) := by decide +kernel
theorem dX7_copyFrom_1 : decode cX7_copyFrom 1 = .ok (.aload_n 1, 1) := by decide +kernel
theorem dX7_copyFrom_2 : decode cX7_copyFrom 2 = .ok (.getfield 7, 3) := by decide +kernel
theorem dX7_copyFrom_5 : decode cX7_copyFrom 5 = .ok (.putfield 7, 3) := by decide +kernel
theorem dX7_copyFrom_8 : decode cX7_copyFrom 8 = .ok (.aload_n 0, 1) := by decide +kernel
theorem dX7_copyFrom_9 : decode cX7_copyFrom 9 = .ok (.aload_n 1, 1) := by decide +kernel
theorem dX7_copyFrom_10 : decode cX7_copyFrom 10 = .ok (.getfield 13, 3) := by decide +kernel
theorem dX7_copyFrom_13 : decode cX7_copyFrom 13 = .ok (.putfield 13, 3) := by decide +kernel
theorem dX7_copyFrom_16 : decode cX7_copyFrom 16 = .ok (.aload_n 0, 1) := by decide +kernel
theorem dX7_copyFrom_17 : decode cX7_copyFrom 17 = .ok (.aload_n 1, 1) := by decide +kernel
theorem dX7_copyFrom_18 : decode cX7_copyFrom 18 = .ok (.getfield 19, 3) := by decide +kernel
theorem dX7_copyFrom_21 : decode cX7_copyFrom 21 = .ok (.putfield 19, 3) := by decide +kernel
theorem dX7_copyFrom_24 : decode cX7_copyFrom 24 = .ok (.aload_n 0, 1) := by decide +kernel
theorem dX7_copyFrom_25 : decode cX7_copyFrom 25 = .ok (.aload_n 1, 1) := by decide +kernel
theorem dX7_copyFrom_26 : decode cX7_copyFrom 26 = .ok (.getfield 16, 3) := by decide +kernel
theorem dX7_copyFrom_29 : decode cX7_copyFrom 29 = .ok (.putfield 16, 3) := by decide +kernel
theorem dX7_copyFrom_32 : decode cX7_copyFrom 32 = .ok (.return_, 1) := by decide +kernel
theorem dX8_init_0 : decode cX8_init 0 = .ok (.aload_n 0, 1) := by decide +kernel
theorem dX8_init_1 : decode cX8_init 1 = .ok (.invokespecial 1, 3) := by decide +kernel
theorem dX8_init_4 : decode cX8_init 4 = .ok (.aload_n 0, 1) := by decide +kernel
theorem dX8_init_5 : decode cX8_init 5 = .ok (.iload_n 1, 1) := by decide +kernel
theorem dX8_init_6 : decode cX8_init 6 = .ok (.putfield 7, 3) := by decide +kernel
theorem dX8_init_9 : decode cX8_init 9 = .ok (.return_, 1) := by decide +kernel
theorem dX8_temperature_0 : decode cX8_temperature 0 = .ok (.iload_n 1, 1) := by decide +kernel
theorem dX8_temperature_1 : decode cX8_temperature 1 = .ok (.aload_n 0, 1) := by decide +kernel
theorem dX8_temperature_2 : decode cX8_temperature 2 = .ok (.getfield 13, 3) := by decide +kernel
theorem dX8_temperature_5 : decode cX8_temperature 5 = .ok (.iadd, 1) := by decide +kernel
theorem dX8_temperature_6 : decode cX8_temperature 6 = .ok (.aload_n 0, 1) := by decide +kernel
theorem dX8_temperature_7 : decode cX8_temperature 7 = .ok (.getfield 7, 3) := by decide +kernel
theorem dX8_temperature_10 : decode cX8_temperature 10 = .ok (.iadd, 1) := by decide +kernel
theorem dX8_temperature_11 : decode cX8_temperature 11 = .ok (.ireturn, 1) := by decide +kernel
theorem dX8_breakSome_0 : decode cX8_breakSome 0 = .ok (.iload_n 1, 1) := by decide +kernel
theorem dX8_breakSome_1 : decode cX8_breakSome 1 = .ok (.aload_n 0, 1) := by decide +kernel
theorem dX8_breakSome_2 : decode cX8_breakSome 2 = .ok (.getfield 16, 3) := by decide +kernel
theorem dX8_breakSome_5 : decode cX8_breakSome 5 = .ok (.imul, 1) := by decide +kernel
theorem dX8_breakSome_6 : decode cX8_breakSome 6 = .ok (.bipush 100, 2) := by decide +kernel
theorem dX8_breakSome_8 : decode cX8_breakSome 8 = .ok (.idiv, 1) := by decide +kernel
theorem dX8_breakSome_9 : decode cX8_breakSome 9 = .ok (.istore_n 2, 1) := by decide +kernel
theorem dX8_breakSome_10 : decode cX8_breakSome 10 = .ok (.aload_n 0, 1) := by decide +kernel
theorem dX8_breakSome_11 : decode cX8_breakSome 11 = .ok (.dup, 1) := by decide +kernel
theorem dX8_breakSome_12 : decode cX8_breakSome 12 = .ok (.getfield 19, 3) := by decide +kernel
theorem dX8_breakSome_15 : decode cX8_breakSome 15 = .ok (.iload_n 2, 1) := by decide +kernel
theorem dX8_breakSome_16 : decode cX8_breakSome 16 = .ok (.iadd, 1) := by decide +kernel
theorem dX8_breakSome_17 : decode cX8_breakSome 17 = .ok (.putfield 19, 3) := by decide +kernel
theorem dX8_breakSome_20 : decode cX8_breakSome 20 = .ok (.iload_n 2, 1) := by decide +kernel
theorem dX8_breakSome_21 : decode cX8_breakSome 21 = .ok (.ireturn, 1) := by decide +kernel
theorem dX8_copyFrom_0 : decode cX8_copyFrom 0 = .ok (.aload_n 0, 1) := by decide +kernel
theorem dX8_copyFrom_1 : decode cX8_copyFrom 1 = .ok (.aload_n 1, 1) := by decide +kernel
theorem dX8_copyFrom_2 : decode cX8_copyFrom 2 = .ok (.getfield 13, 3) := by decide +kernel
theorem dX8_copyFrom_5 : decode cX8_copyFrom 5 = .ok (.putfield 13, 3) := by decide +kernel
theorem dX8_copyFrom_8 : decode cX8_copyFrom 8 = .ok (.aload_n 0, 1) := by decide +kernel
theorem dX8_copyFrom_9 : decode cX8_copyFrom 9 = .ok (.aload_n 1, 1) := by decide +kernel
theorem dX8_copyFrom_10 : decode cX8_copyFrom 10 = .ok (.getfield 16, 3) := by decide +kernel
theorem dX8_copyFrom_13 : decode cX8_copyFrom 13 = .ok (.putfield 16, 3) := by decide +kernel
theorem dX8_copyFrom_16 : decode cX8_copyFrom 16 = .ok (.aload_n 0, 1) := by decide +kernel
theorem dX8_copyFrom_17 : decode cX8_copyFrom 17 = .ok (.aload_n 1, 1) := by decide +kernel
theorem dX8_copyFrom_18 : decode cX8_copyFrom 18 = .ok (.getfield 19, 3) := by decide +kernel
theorem dX8_copyFrom_21 : decode cX8_copyFrom 21 = .ok (.putfield 19, 3) := by decide +kernel
theorem dX8_copyFrom_24 : decode cX8_copyFrom 24 = .ok (.return_, 1) := by decide +kernel
theorem dX9_init_0 : decode cX9_init 0 = .ok (.aload_n 0, 1) := by decide +kernel
theorem dX9_init_1 : decode cX9_init 1 = .ok (.invokespecial 3, 3) := by decide +kernel
theorem dX9_init_4 : decode cX9_init 4 = .ok (.aload_n 0, 1) := by decide +kernel
theorem dX9_init_5 : decode cX9_init 5 = .ok (.bipush 100, 2) := by decide +kernel
theorem dX9_init_7 : decode cX9_init 7 = .ok (.newarray .char, 2) := by decide +kernel
theorem dX9_init_9 : decode cX9_init 9 = .ok (.putfield 9, 3) := by decide +kernel
theorem dX9_init_12 : decode cX9_init 12 = .ok (.aload_n 0, 1) := by decide +kernel
theorem dX9_init_13 : decode cX9_init 13 = .ok (.iconst 4, 1) := by decide +kernel
theorem dX9_init_14 : decode cX9_init 14 = .ok (.newarray .int, 2) := by decide +kernel
theorem dX9_init_16 : decode cX9_init 16 = .ok (.putfield 15, 3) := by decide +kernel
theorem dX9_init_19 : decode cX9_init 19 = .ok (.return_, 1) := by decide +kernel
theorem dX9_countCommands_0 : decode cX9_countCommands 0 = .ok (.iconst 1, 1) := by decide +kernel
theorem dX9_countCommands_1 : decode cX9_countCommands 1 = .ok (.istore_n 1, 1) := by decide +kernel
theorem dX9_countCommands_2 : decode cX9_countCommands 2 = .ok (.iconst 0, 1) := by decide +kernel
theorem dX9_countCommands_3 : decode cX9_countCommands 3 = .ok (.istore_n 2, 1) := by decide +kernel
theorem dX9_countCommands_4 : decode cX9_countCommands 4 = .ok (.iload_n 2, 1) := by decide +kernel
theorem dX9_countCommands_5 : decode cX9_countCommands 5 = .ok (.aload_n 0, 1) := by decide +kernel
theorem dX9_countCommands_6 : decode cX9_countCommands 6 = .ok (.getfield 19, 3) := by decide +kernel
theorem dX9_countCommands_9 : decode cX9_countCommands 9 = .ok (.if_icmp .ge 23, 3) := by decide +kernel
theorem dX9_countCommands_12 : decode cX9_countCommands 12 = .ok (.aload_n 0, 1) := by decide +kernel
theorem dX9_countCommands_13 : decode cX9_countCommands 13 = .ok (.getfield 9, 3) := by decide +kernel
theorem dX9_countCommands_16 : decode cX9_countCommands 16 = .ok (.iload_n 2, 1) := by decide +kernel
theorem dX9_countCommands_17 : decode cX9_countCommands 17 = .ok (.caload, 1) := by decide +kernel
theorem dX9_countCommands_18 : decode cX9_countCommands 18 = .ok (.bipush 59, 2) := by decide +kernel
theorem dX9_countCommands_20 : decode cX9_countCommands 20 = .ok (.if_icmp .ne 6, 3) := by decide +kernel
theorem dX9_countCommands_23 : decode cX9_countCommands 23 = .ok (.iinc 1 1, 3) := by decide +kernel
theorem dX9_countCommands_26 : decode cX9_countCommands 26 = .ok (.iinc 2 1, 3) := by decide +kernel
theorem dX9_countCommands_29 : decode cX9_countCommands 29 = .ok (.goto (-25), 3) := by decide +kernel
theorem dX9_countCommands_32 : decode cX9_countCommands 32 = .ok (.iload_n 1, 1) := by decide +kernel
theorem dX9_countCommands_33 : decode cX9_countCommands 33 = .ok (.ireturn, 1) := by decide +kernel
theorem dX9_findError_0 : decode cX9_findError 0 = .ok (.aload_n 0, 1) := by decide +kernel
theorem dX9_findError_1 : decode cX9_findError 1 = .ok (.invokevirtual 23, 3) := by decide +kernel
theorem dX9_findError_4 : decode cX9_findError 4 = .ok (.istore_n 1, 1) := by decide +kernel
theorem dX9_findError_5 : decode cX9_findError 5 = .ok (.aload_n 0, 1) := by decide +kernel
theorem dX9_findError_6 : decode cX9_findError 6 = .ok (.invokevirtual 27, 3) := by decide +kernel
theorem dX9_findError_9 : decode cX9_findError 9 = .ok (.iconst 0, 1) := by decide +kernel
theorem dX9_findError_10 : decode cX9_findError 10 = .ok (.istore_n 2, 1) := by decide +kernel
theorem dX9_findError_11 : decode cX9_findError 11 = .ok (.iload_n 2, 1) := by decide +kernel
theorem dX9_findError_12 : decode cX9_findError 12 = .ok (.iload_n 1, 1) := by decide +kernel
theorem dX9_findError_13 : decode cX9_findError 13 = .ok (.if_icmp .ge 29, 3) := by decide +kernel
theorem dX9_findError_16 : decode cX9_findError 16 = .ok (.aload_n 0, 1) := by decide +kernel
theorem dX9_findError_17 : decode cX9_findError 17 = .ok (.invokevirtual 30, 3) := by decide +kernel
theorem dX9_findError_20 : decode cX9_findError 20 = .ok (.aload_n 0, 1) := by decide +kernel
theorem dX9_findError_21 : decode cX9_findError 21 = .ok (.invokevirtual 33, 3) := by decide +kernel
theorem dX9_findError_24 : decode cX9_findError 24 = .ok (.istore_n 3, 1) := by decide +kernel
theorem dX9_findError_25 : decode cX9_findError 25 = .ok (.iload_n 3, 1) := by decide +kernel
theorem dX9_findError_26 : decode cX9_findError 26 = .ok (.ifCond .eq 10, 3) := by decide +kernel
theorem dX9_findError_29 : decode cX9_findError 29 = .ok (.bipush 10, 2) := by decide +kernel
theorem dX9_findError_31 : decode cX9_findError 31 = .ok (.iload_n 2, 1) := by decide +kernel
theorem dX9_findError_32 : decode cX9_findError 32 = .ok (.imul, 1) := by decide +kernel
theorem dX9_findError_33 : decode cX9_findError 33 = .ok (.iload_n 3, 1) := by decide +kernel
theorem dX9_findError_34 : decode cX9_findError 34 = .ok (.iadd, 1) := by decide +kernel
theorem dX9_findError_35 : decode cX9_findError 35 = .ok (.ireturn, 1) := by decide +kernel
theorem dX9_findError_36 : decode cX9_findError 36 = .ok (.iinc 2 1, 3) := by decide +kernel
theorem dX9_findError_39 : decode cX9_findError 39 = .ok (.goto (-28), 3) := by decide +kernel
theorem dX9_findError_42 : decode cX9_findError 42 = .ok (.iconst (-1), 1) := by decide +kernel
theorem dX9_findError_43 : decode cX9_findError 43 = .ok (.ireturn, 1) := by decide +kernel
theorem dX9_rewind_0 : decode cX9_rewind 0 = .ok (.aload_n 0, 1) := by decide +kernel
theorem dX9_rewind_1 : decode cX9_rewind 1 = .ok (.iconst 0, 1) := by decide +kernel
theorem dX9_rewind_2 : decode cX9_rewind 2 = .ok (.putfield 36, 3) := by decide +kernel
theorem dX9_rewind_5 : decode cX9_rewind 5 = .ok (.return_, 1) := by decide +kernel
theorem dX9_readCommand_0 : decode cX9_readCommand 0 = .ok (.aload_n 0, 1) := by decide +kernel
theorem dX9_readCommand_1 : decode cX9_readCommand 1 = .ok (.aconst_null, 1) := by decide +kernel
theorem dX9_readCommand_2 : decode cX9_readCommand 2 = .ok (.putfield 39, 3) := by decide +kernel
theorem dX9_readCommand_5 : decode cX9_readCommand 5 = .ok (.aload_n 0, 1) := by decide +kernel
theorem dX9_readCommand_6 : decode cX9_readCommand 6 = .ok (.iconst 0, 1) := by decide +kernel
theorem dX9_readCommand_7 : decode cX9_readCommand 7 = .ok (.putfield 43, 3) := by decide +kernel
theorem dX9_readCommand_10 : decode cX9_readCommand 10 = .ok (.aload_n 0, 1) := by decide +kernel
theorem dX9_readCommand_11 : decode cX9_readCommand 11 = .ok (.iconst 1, 1) := by decide +kernel
theorem dX9_readCommand_12 : decode cX9_readCommand 12 = .ok (.putfield 46, 3) := by decide +kernel
theorem dX9_readCommand_15 : decode cX9_readCommand 15 = .ok (.iconst (-1), 1) := by decide +kernel
theorem dX9_readCommand_16 : decode cX9_readCommand 16 = .ok (.istore_n 1, 1) := by decide +kernel
theorem dX9_readCommand_17 : decode cX9_readCommand 17 = .ok (.aload_n 0, 1) := by decide +kernel
theorem dX9_readCommand_18 : decode cX9_readCommand 18 = .ok (.invokevirtual 50, 3) := by decide +kernel
theorem dX9_readCommand_21 : decode cX9_readCommand 21 = .ok (.istore_n 2, 1) := by decide +kernel
theorem dX9_readCommand_22 : decode cX9_readCommand 22 = .ok (.aload_n 0, 1) := by decide +kernel
theorem dX9_readCommand_23 : decode cX9_readCommand 23 = .ok (.getfield 36, 3) := by decide +kernel
theorem dX9_readCommand_26 : decode cX9_readCommand 26 = .ok (.istore_n 3, 1) := by decide +kernel
theorem dX9_readCommand_27 : decode cX9_readCommand 27 = .ok (.iload_n 3, 1) := by decide +kernel
theorem dX9_readCommand_28 : decode cX9_readCommand 28 = .ok (.iload_n 2, 1) := by decide +kernel
theorem dX9_readCommand_29 : decode cX9_readCommand 29 = .ok (.if_icmp .ge 60, 3) := by decide +kernel
theorem dX9_readCommand_32 : decode cX9_readCommand 32 = .ok (.aload_n 0, 1) := by decide +kernel
theorem dX9_readCommand_33 : decode cX9_readCommand 33 = .ok (.getfield 9, 3) := by decide +kernel
theorem dX9_readCommand_36 : decode cX9_readCommand 36 = .ok (.iload_n 3, 1) := by decide +kernel
theorem dX9_readCommand_37 : decode cX9_readCommand 37 = .ok (.caload, 1) := by decide +kernel
theorem dX9_readCommand_38 : decode cX9_readCommand 38 = .ok (.bipush 32, 2) := by decide +kernel
theorem dX9_readCommand_40 : decode cX9_readCommand 40 = .ok (.if_icmp .ne 7, 3) := by decide +kernel
theorem dX9_readCommand_43 : decode cX9_readCommand 43 = .ok (.iconst 1, 1) := by decide +kernel
theorem dX9_readCommand_44 : decode cX9_readCommand 44 = .ok (.goto 4, 3) := by decide +kernel
theorem dX9_readCommand_47 : decode cX9_readCommand 47 = .ok (.iconst 0, 1) := by decide +kernel
theorem dX9_readCommand_48 : decode cX9_readCommand 48 = .ok (.istore 4, 2) := by decide +kernel
theorem dX9_readCommand_50 : decode cX9_readCommand 50 = .ok (.iload 4, 2) := by decide +kernel
theorem dX9_readCommand_52 : decode cX9_readCommand 52 = .ok (.ifCond .eq 19, 3) := by decide +kernel
theorem dX9_readCommand_55 : decode cX9_readCommand 55 = .ok (.iload_n 1, 1) := by decide +kernel
theorem dX9_readCommand_56 : decode cX9_readCommand 56 = .ok (.iconst (-1), 1) := by decide +kernel
theorem dX9_readCommand_57 : decode cX9_readCommand 57 = .ok (.if_icmp .eq 14, 3) := by decide +kernel
theorem dX9_readCommand_60 : decode cX9_readCommand 60 = .ok (.aload_n 0, 1) := by decide +kernel
theorem dX9_readCommand_61 : decode cX9_readCommand 61 = .ok (.iload_n 1, 1) := by decide +kernel
theorem dX9_readCommand_62 : decode cX9_readCommand 62 = .ok (.iload_n 3, 1) := by decide +kernel
theorem dX9_readCommand_63 : decode cX9_readCommand 63 = .ok (.invokevirtual 53, 3) := by decide +kernel
theorem dX9_readCommand_66 : decode cX9_readCommand 66 = .ok (.iconst (-1), 1) := by decide +kernel
theorem dX9_readCommand_67 : decode cX9_readCommand 67 = .ok (.istore_n 1, 1) := by decide +kernel
theorem dX9_readCommand_68 : decode cX9_readCommand 68 = .ok (.goto 15, 3) := by decide +kernel
theorem dX9_readCommand_71 : decode cX9_readCommand 71 = .ok (.iload 4, 2) := by decide +kernel
theorem dX9_readCommand_73 : decode cX9_readCommand 73 = .ok (.ifCond .ne 10, 3) := by decide +kernel
theorem dX9_readCommand_76 : decode cX9_readCommand 76 = .ok (.iload_n 1, 1) := by decide +kernel
theorem dX9_readCommand_77 : decode cX9_readCommand 77 = .ok (.iconst (-1), 1) := by decide +kernel
theorem dX9_readCommand_78 : decode cX9_readCommand 78 = .ok (.if_icmp .ne 5, 3) := by decide +kernel
theorem dX9_readCommand_81 : decode cX9_readCommand 81 = .ok (.iload_n 3, 1) := by decide +kernel
theorem dX9_readCommand_82 : decode cX9_readCommand 82 = .ok (.istore_n 1, 1) := by decide +kernel
theorem dX9_readCommand_83 : decode cX9_readCommand 83 = .ok (.iinc 3 1, 3) := by decide +kernel
theorem dX9_readCommand_86 : decode cX9_readCommand 86 = .ok (.goto (-59), 3) := by decide +kernel
theorem dX9_readCommand_89 : decode cX9_readCommand 89 = .ok (.iload_n 1, 1) := by decide +kernel
theorem dX9_readCommand_90 : decode cX9_readCommand 90 = .ok (.iconst (-1), 1) := by decide +kernel
theorem dX9_readCommand_91 : decode cX9_readCommand 91 = .ok (.if_icmp .eq 9, 3) := by decide +kernel
theorem dX9_readCommand_94 : decode cX9_readCommand 94 = .ok (.aload_n 0, 1) := by decide +kernel
theorem dX9_readCommand_95 : decode cX9_readCommand 95 = .ok (.iload_n 1, 1) := by decide +kernel
theorem dX9_readCommand_96 : decode cX9_readCommand 96 = .ok (.iload_n 2, 1) := by decide +kernel
theorem dX9_readCommand_97 : decode cX9_readCommand 97 = .ok (.invokevirtual 53, 3) := by decide +kernel
theorem dX9_readCommand_100 : decode cX9_readCommand 100 = .ok (.aload_n 0, 1) := by decide +kernel
theorem dX9_readCommand_101 : decode cX9_readCommand 101 = .ok (.iload_n 2, 1) := by decide +kernel
theorem dX9_readCommand_102 : decode cX9_readCommand 102 = .ok (.iconst 1, 1) := by decide +kernel
theorem dX9_readCommand_103 : decode cX9_readCommand 103 = .ok (.iadd, 1) := by decide +kernel
theorem dX9_readCommand_104 : decode cX9_readCommand 104 = .ok (.putfield 36, 3) := by decide +kernel
theorem dX9_readCommand_107 : decode cX9_readCommand 107 = .ok (.return_, 1) := by decide +kernel
theorem dX9_endOfCommand_0 : decode cX9_endOfCommand 0 = .ok (.aload_n 0, 1) := by decide +kernel
theorem dX9_endOfCommand_1 : decode cX9_endOfCommand 1 = .ok (.getfield 36, 3) := by decide +kernel
theorem dX9_endOfCommand_4 : decode cX9_endOfCommand 4 = .ok (.istore_n 1, 1) := by decide +kernel
theorem dX9_endOfCommand_5 : decode cX9_endOfCommand 5 = .ok (.iload_n 1, 1) := by decide +kernel
theorem dX9_endOfCommand_6 : decode cX9_endOfCommand 6 = .ok (.aload_n 0, 1) := by decide +kernel
theorem dX9_endOfCommand_7 : decode cX9_endOfCommand 7 = .ok (.getfield 19, 3) := by decide +kernel
theorem dX9_endOfCommand_10 : decode cX9_endOfCommand 10 = .ok (.if_icmp .ge 22, 3) := by decide +kernel
theorem dX9_endOfCommand_13 : decode cX9_endOfCommand 13 = .ok (.aload_n 0, 1) := by decide +kernel
theorem dX9_endOfCommand_14 : decode cX9_endOfCommand 14 = .ok (.getfield 9, 3) := by decide +kernel
theorem dX9_endOfCommand_17 : decode cX9_endOfCommand 17 = .ok (.iload_n 1, 1) := by decide +kernel
theorem dX9_endOfCommand_18 : decode cX9_endOfCommand 18 = .ok (.caload, 1) := by decide +kernel
theorem dX9_endOfCommand_19 : decode cX9_endOfCommand 19 = .ok (.bipush 59, 2) := by decide +kernel
theorem dX9_endOfCommand_21 : decode cX9_endOfCommand 21 = .ok (.if_icmp .ne 5, 3) := by decide +kernel
theorem dX9_endOfCommand_24 : decode cX9_endOfCommand 24 = .ok (.iload_n 1, 1) := by decide +kernel
theorem dX9_endOfCommand_25 : decode cX9_endOfCommand 25 = .ok (.ireturn, 1) := by decide +kernel
theorem dX9_endOfCommand_26 : decode cX9_endOfCommand 26 = .ok (.iinc 1 1, 3) := by decide +kernel
theorem dX9_endOfCommand_29 : decode cX9_endOfCommand 29 = .ok (.goto (-24), 3) := by decide +kernel
theorem dX9_endOfCommand_32 : decode cX9_endOfCommand 32 = .ok (.aload_n 0, 1) := by decide +kernel
theorem dX9_endOfCommand_33 : decode cX9_endOfCommand 33 = .ok (.getfield 19, 3) := by decide +kernel
theorem dX9_endOfCommand_36 : decode cX9_endOfCommand 36 = .ok (.ireturn, 1) := by decide +kernel
theorem dX9_readWord_0 : decode cX9_readWord 0 = .ok (.aload_n 0, 1) := by decide +kernel
theorem dX9_readWord_1 : decode cX9_readWord 1 = .ok (.getfield 43, 3) := by decide +kernel
theorem dX9_readWord_4 : decode cX9_readWord 4 = .ok (.ifCond .ne 16, 3) := by decide +kernel
theorem dX9_readWord_7 : decode cX9_readWord 7 = .ok (.aload_n 0, 1) := by decide +kernel
theorem dX9_readWord_8 : decode cX9_readWord 8 = .ok (.aload_n 0, 1) := by decide +kernel
theorem dX9_readWord_9 : decode cX9_readWord 9 = .ok (.iload_n 1, 1) := by decide +kernel
theorem dX9_readWord_10 : decode cX9_readWord 10 = .ok (.iload_n 2, 1) := by decide +kernel
theorem dX9_readWord_11 : decode cX9_readWord 11 = .ok (.invokevirtual 57, 3) := by decide +kernel
theorem dX9_readWord_14 : decode cX9_readWord 14 = .ok (.putfield 39, 3) := by decide +kernel
theorem dX9_readWord_17 : decode cX9_readWord 17 = .ok (.goto 9, 3) := by decide +kernel
theorem dX9_readWord_20 : decode cX9_readWord 20 = .ok (.aload_n 0, 1) := by decide +kernel
theorem dX9_readWord_21 : decode cX9_readWord 21 = .ok (.iload_n 1, 1) := by decide +kernel
theorem dX9_readWord_22 : decode cX9_readWord 22 = .ok (.iload_n 2, 1) := by decide +kernel
theorem dX9_readWord_23 : decode cX9_readWord 23 = .ok (.invokevirtual 61, 3) := by decide +kernel
theorem dX9_readWord_26 : decode cX9_readWord 26 = .ok (.aload_n 0, 1) := by decide +kernel
theorem dX9_readWord_27 : decode cX9_readWord 27 = .ok (.dup, 1) := by decide +kernel
theorem dX9_readWord_28 : decode cX9_readWord 28 = .ok (.getfield 43, 3) := by decide +kernel
theorem dX9_readWord_31 : decode cX9_readWord 31 = .ok (.iconst 1, 1) := by decide +kernel
theorem dX9_readWord_32 : decode cX9_readWord 32 = .ok (.iadd, 1) := by decide +kernel
theorem dX9_readWord_33 : decode cX9_readWord 33 = .ok (.putfield 43, 3) := by decide +kernel
theorem dX9_readWord_36 : decode cX9_readWord 36 = .ok (.return_, 1) := by decide +kernel
theorem dX9_verbAt_0 : decode cX9_verbAt 0 = .ok (.iconst 0, 1) := by decide +kernel
theorem dX9_verbAt_1 : decode cX9_verbAt 1 = .ok (.istore_n 3, 1) := by decide +kernel
theorem dX9_verbAt_2 : decode cX9_verbAt 2 = .ok (.iload_n 3, 1) := by decide +kernel
theorem dX9_verbAt_3 : decode cX9_verbAt 3 = .ok (.getstatic 64, 3) := by decide +kernel
theorem dX9_verbAt_6 : decode cX9_verbAt 6 = .ok (.arraylength, 1) := by decide +kernel
theorem dX9_verbAt_7 : decode cX9_verbAt 7 = .ok (.if_icmp .ge 32, 3) := by decide +kernel
theorem dX9_verbAt_10 : decode cX9_verbAt 10 = .ok (.aload_n 0, 1) := by decide +kernel
theorem dX9_verbAt_11 : decode cX9_verbAt 11 = .ok (.getstatic 64, 3) := by decide +kernel
theorem dX9_verbAt_14 : decode cX9_verbAt 14 = .ok (.iload_n 3, 1) := by decide +kernel
theorem dX9_verbAt_15 : decode cX9_verbAt 15 = .ok (.aaload, 1) := by decide +kernel
theorem dX9_verbAt_16 : decode cX9_verbAt 16 = .ok (.getfield 68, 3) := by decide +kernel
theorem dX9_verbAt_19 : decode cX9_verbAt 19 = .ok (.iload_n 1, 1) := by decide +kernel
theorem dX9_verbAt_20 : decode cX9_verbAt 20 = .ok (.iload_n 2, 1) := by decide +kernel
theorem dX9_verbAt_21 : decode cX9_verbAt 21 = .ok (.invokevirtual 74, 3) := by decide +kernel
theorem dX9_verbAt_24 : decode cX9_verbAt 24 = .ok (.ifCond .eq 9, 3) := by decide +kernel
theorem dX9_verbAt_27 : decode cX9_verbAt 27 = .ok (.getstatic 64, 3) := by decide +kernel
theorem dX9_verbAt_30 : decode cX9_verbAt 30 = .ok (.iload_n 3, 1) := by decide +kernel
theorem dX9_verbAt_31 : decode cX9_verbAt 31 = .ok (.aaload, 1) := by decide +kernel
theorem dX9_verbAt_32 : decode cX9_verbAt 32 = .ok (.areturn, 1) := by decide +kernel
theorem dX9_verbAt_33 : decode cX9_verbAt 33 = .ok (.iinc 3 1, 3) := by decide +kernel
theorem dX9_verbAt_36 : decode cX9_verbAt 36 = .ok (.goto (-34), 3) := by decide +kernel
theorem dX9_verbAt_39 : decode cX9_verbAt 39 = .ok (.aconst_null, 1) := by decide +kernel
theorem dX9_verbAt_40 : decode cX9_verbAt 40 = .ok (.areturn, 1) := by decide +kernel
theorem dX9_isWord_0 : decode cX9_isWord 0 = .ok (.aload_n 1, 1) := by decide +kernel
theorem dX9_isWord_1 : decode cX9_isWord 1 = .ok (.invokevirtual 78, 3) := by decide +kernel
theorem dX9_isWord_4 : decode cX9_isWord 4 = .ok (.iload_n 3, 1) := by decide +kernel
theorem dX9_isWord_5 : decode cX9_isWord 5 = .ok (.iload_n 2, 1) := by decide +kernel
theorem dX9_isWord_6 : decode cX9_isWord 6 = .ok (.isub, 1) := by decide +kernel
theorem dX9_isWord_7 : decode cX9_isWord 7 = .ok (.if_icmp .eq 5, 3) := by decide +kernel
theorem dX9_isWord_10 : decode cX9_isWord 10 = .ok (.iconst 0, 1) := by decide +kernel
theorem dX9_isWord_11 : decode cX9_isWord 11 = .ok (.ireturn, 1) := by decide +kernel
theorem dX9_isWord_12 : decode cX9_isWord 12 = .ok (.iconst 0, 1) := by decide +kernel
theorem dX9_isWord_13 : decode cX9_isWord 13 = .ok (.istore 4, 2) := by decide +kernel
theorem dX9_isWord_15 : decode cX9_isWord 15 = .ok (.iload 4, 2) := by decide +kernel
theorem dX9_isWord_17 : decode cX9_isWord 17 = .ok (.aload_n 1, 1) := by decide +kernel
theorem dX9_isWord_18 : decode cX9_isWord 18 = .ok (.invokevirtual 78, 3) := by decide +kernel
theorem dX9_isWord_21 : decode cX9_isWord 21 = .ok (.if_icmp .ge 29, 3) := by decide +kernel
theorem dX9_isWord_24 : decode cX9_isWord 24 = .ok (.aload_n 1, 1) := by decide +kernel
theorem dX9_isWord_25 : decode cX9_isWord 25 = .ok (.iload 4, 2) := by decide +kernel
theorem dX9_isWord_27 : decode cX9_isWord 27 = .ok (.invokevirtual 82, 3) := by decide +kernel
theorem dX9_isWord_30 : decode cX9_isWord 30 = .ok (.aload_n 0, 1) := by decide +kernel
theorem dX9_isWord_31 : decode cX9_isWord 31 = .ok (.getfield 9, 3) := by decide +kernel
theorem dX9_isWord_34 : decode cX9_isWord 34 = .ok (.iload_n 2, 1) := by decide +kernel
theorem dX9_isWord_35 : decode cX9_isWord 35 = .ok (.iload 4, 2) := by decide +kernel
theorem dX9_isWord_37 : decode cX9_isWord 37 = .ok (.iadd, 1) := by decide +kernel
theorem dX9_isWord_38 : decode cX9_isWord 38 = .ok (.caload, 1) := by decide +kernel
theorem dX9_isWord_39 : decode cX9_isWord 39 = .ok (.if_icmp .eq 5, 3) := by decide +kernel
theorem dX9_isWord_42 : decode cX9_isWord 42 = .ok (.iconst 0, 1) := by decide +kernel
theorem dX9_isWord_43 : decode cX9_isWord 43 = .ok (.ireturn, 1) := by decide +kernel
theorem dX9_isWord_44 : decode cX9_isWord 44 = .ok (.iinc 4 1, 3) := by decide +kernel
theorem dX9_isWord_47 : decode cX9_isWord 47 = .ok (.goto (-32), 3) := by decide +kernel
theorem dX9_isWord_50 : decode cX9_isWord 50 = .ok (.iconst 1, 1) := by decide +kernel
theorem dX9_isWord_51 : decode cX9_isWord 51 = .ok (.ireturn, 1) := by decide +kernel
theorem dX9_readArgument_0 : decode cX9_readArgument 0 = .ok (.aload_n 0, 1) := by decide +kernel
theorem dX9_readArgument_1 : decode cX9_readArgument 1 = .ok (.iload_n 1, 1) := by decide +kernel
theorem dX9_readArgument_2 : decode cX9_readArgument 2 = .ok (.iload_n 2, 1) := by decide +kernel
theorem dX9_readArgument_3 : decode cX9_readArgument 3 = .ok (.invokevirtual 86, 3) := by decide +kernel
theorem dX9_readArgument_6 : decode cX9_readArgument 6 = .ok (.istore_n 3, 1) := by decide +kernel
theorem dX9_readArgument_7 : decode cX9_readArgument 7 = .ok (.iload_n 3, 1) := by decide +kernel
theorem dX9_readArgument_8 : decode cX9_readArgument 8 = .ok (.iconst (-1), 1) := by decide +kernel
theorem dX9_readArgument_9 : decode cX9_readArgument 9 = .ok (.if_icmp .ne 8, 3) := by decide +kernel
theorem dX9_readArgument_12 : decode cX9_readArgument 12 = .ok (.aload_n 0, 1) := by decide +kernel
theorem dX9_readArgument_13 : decode cX9_readArgument 13 = .ok (.iconst 0, 1) := by decide +kernel
theorem dX9_readArgument_14 : decode cX9_readArgument 14 = .ok (.putfield 46, 3) := by decide +kernel
theorem dX9_readArgument_17 : decode cX9_readArgument 17 = .ok (.aload_n 0, 1) := by decide +kernel
theorem dX9_readArgument_18 : decode cX9_readArgument 18 = .ok (.getfield 43, 3) := by decide +kernel
theorem dX9_readArgument_21 : decode cX9_readArgument 21 = .ok (.iconst 1, 1) := by decide +kernel
theorem dX9_readArgument_22 : decode cX9_readArgument 22 = .ok (.isub, 1) := by decide +kernel
theorem dX9_readArgument_23 : decode cX9_readArgument 23 = .ok (.istore 4, 2) := by decide +kernel
theorem dX9_readArgument_25 : decode cX9_readArgument 25 = .ok (.iload 4, 2) := by decide +kernel
theorem dX9_readArgument_27 : decode cX9_readArgument 27 = .ok (.ifCond .lt 21, 3) := by decide +kernel
theorem dX9_readArgument_30 : decode cX9_readArgument 30 = .ok (.iload 4, 2) := by decide +kernel
theorem dX9_readArgument_32 : decode cX9_readArgument 32 = .ok (.aload_n 0, 1) := by decide +kernel
theorem dX9_readArgument_33 : decode cX9_readArgument 33 = .ok (.getfield 15, 3) := by decide +kernel
theorem dX9_readArgument_36 : decode cX9_readArgument 36 = .ok (.arraylength, 1) := by decide +kernel
theorem dX9_readArgument_37 : decode cX9_readArgument 37 = .ok (.if_icmp .ge 11, 3) := by decide +kernel
theorem dX9_readArgument_40 : decode cX9_readArgument 40 = .ok (.aload_n 0, 1) := by decide +kernel
theorem dX9_readArgument_41 : decode cX9_readArgument 41 = .ok (.getfield 15, 3) := by decide +kernel
theorem dX9_readArgument_44 : decode cX9_readArgument 44 = .ok (.iload 4, 2) := by decide +kernel
theorem dX9_readArgument_46 : decode cX9_readArgument 46 = .ok (.iload_n 3, 1) := by decide +kernel
theorem dX9_readArgument_47 : decode cX9_readArgument 47 = .ok (.iastore, 1) := by decide +kernel
theorem dX9_readArgument_48 : decode cX9_readArgument 48 = .ok (.return_, 1) := by decide +kernel
theorem dX9_numberAt_0 : decode cX9_numberAt 0 = .ok (.iload_n 2, 1) := by decide +kernel
theorem dX9_numberAt_1 : decode cX9_numberAt 1 = .ok (.iload_n 1, 1) := by decide +kernel
theorem dX9_numberAt_2 : decode cX9_numberAt 2 = .ok (.isub, 1) := by decide +kernel
theorem dX9_numberAt_3 : decode cX9_numberAt 3 = .ok (.iconst 1, 1) := by decide +kernel
theorem dX9_numberAt_4 : decode cX9_numberAt 4 = .ok (.if_icmp .lt 10, 3) := by decide +kernel
theorem dX9_numberAt_7 : decode cX9_numberAt 7 = .ok (.iload_n 2, 1) := by decide +kernel
theorem dX9_numberAt_8 : decode cX9_numberAt 8 = .ok (.iload_n 1, 1) := by decide +kernel
theorem dX9_numberAt_9 : decode cX9_numberAt 9 = .ok (.isub, 1) := by decide +kernel
theorem dX9_numberAt_10 : decode cX9_numberAt 10 = .ok (.iconst 4, 1) := by decide +kernel
theorem dX9_numberAt_11 : decode cX9_numberAt 11 = .ok (.if_icmp .le 5, 3) := by decide +kernel
theorem dX9_numberAt_14 : decode cX9_numberAt 14 = .ok (.iconst (-1), 1) := by decide +kernel
theorem dX9_numberAt_15 : decode cX9_numberAt 15 = .ok (.ireturn, 1) := by decide +kernel
theorem dX9_numberAt_16 : decode cX9_numberAt 16 = .ok (.iconst 0, 1) := by decide +kernel
theorem dX9_numberAt_17 : decode cX9_numberAt 17 = .ok (.istore_n 3, 1) := by decide +kernel
theorem dX9_numberAt_18 : decode cX9_numberAt 18 = .ok (.iload_n 1, 1) := by decide +kernel
theorem dX9_numberAt_19 : decode cX9_numberAt 19 = .ok (.istore 4, 2) := by decide +kernel
theorem dX9_numberAt_21 : decode cX9_numberAt 21 = .ok (.iload 4, 2) := by decide +kernel
theorem dX9_numberAt_23 : decode cX9_numberAt 23 = .ok (.iload_n 2, 1) := by decide +kernel
theorem dX9_numberAt_24 : decode cX9_numberAt 24 = .ok (.if_icmp .ge 51, 3) := by decide +kernel
theorem dX9_numberAt_27 : decode cX9_numberAt 27 = .ok (.aload_n 0, 1) := by decide +kernel
theorem dX9_numberAt_28 : decode cX9_numberAt 28 = .ok (.getfield 9, 3) := by decide +kernel
theorem dX9_numberAt_31 : decode cX9_numberAt 31 = .ok (.iload 4, 2) := by decide +kernel
theorem dX9_numberAt_33 : decode cX9_numberAt 33 = .ok (.caload, 1) := by decide +kernel
theorem dX9_numberAt_34 : decode cX9_numberAt 34 = .ok (.bipush 48, 2) := by decide +kernel
theorem dX9_numberAt_36 : decode cX9_numberAt 36 = .ok (.if_icmp .lt 15, 3) := by decide +kernel
theorem dX9_numberAt_39 : decode cX9_numberAt 39 = .ok (.aload_n 0, 1) := by decide +kernel
theorem dX9_numberAt_40 : decode cX9_numberAt 40 = .ok (.getfield 9, 3) := by decide +kernel
theorem dX9_numberAt_43 : decode cX9_numberAt 43 = .ok (.iload 4, 2) := by decide +kernel
theorem dX9_numberAt_45 : decode cX9_numberAt 45 = .ok (.caload, 1) := by decide +kernel
theorem dX9_numberAt_46 : decode cX9_numberAt 46 = .ok (.bipush 57, 2) := by decide +kernel
theorem dX9_numberAt_48 : decode cX9_numberAt 48 = .ok (.if_icmp .le 5, 3) := by decide +kernel
theorem dX9_numberAt_51 : decode cX9_numberAt 51 = .ok (.iconst (-1), 1) := by decide +kernel
theorem dX9_numberAt_52 : decode cX9_numberAt 52 = .ok (.ireturn, 1) := by decide +kernel
theorem dX9_numberAt_53 : decode cX9_numberAt 53 = .ok (.bipush 10, 2) := by decide +kernel
theorem dX9_numberAt_55 : decode cX9_numberAt 55 = .ok (.iload_n 3, 1) := by decide +kernel
theorem dX9_numberAt_56 : decode cX9_numberAt 56 = .ok (.imul, 1) := by decide +kernel
theorem dX9_numberAt_57 : decode cX9_numberAt 57 = .ok (.aload_n 0, 1) := by decide +kernel
theorem dX9_numberAt_58 : decode cX9_numberAt 58 = .ok (.getfield 9, 3) := by decide +kernel
theorem dX9_numberAt_61 : decode cX9_numberAt 61 = .ok (.iload 4, 2) := by decide +kernel
theorem dX9_numberAt_63 : decode cX9_numberAt 63 = .ok (.caload, 1) := by decide +kernel
theorem dX9_numberAt_64 : decode cX9_numberAt 64 = .ok (.bipush 48, 2) := by decide +kernel
theorem dX9_numberAt_66 : decode cX9_numberAt 66 = .ok (.isub, 1) := by decide +kernel
theorem dX9_numberAt_67 : decode cX9_numberAt 67 = .ok (.iadd, 1) := by decide +kernel
theorem dX9_numberAt_68 : decode cX9_numberAt 68 = .ok (.istore_n 3, 1) := by decide +kernel
theorem dX9_numberAt_69 : decode cX9_numberAt 69 = .ok (.iinc 4 1, 3) := by decide +kernel
theorem dX9_numberAt_72 : decode cX9_numberAt 72 = .ok (.goto (-51), 3) := by decide +kernel
theorem dX9_numberAt_75 : decode cX9_numberAt 75 = .ok (.iload_n 3, 1) := by decide +kernel
theorem dX9_numberAt_76 : decode cX9_numberAt 76 = .ok (.ireturn, 1) := by decide +kernel
theorem dX9_kindOfError_0 : decode cX9_kindOfError 0 = .ok (.aload_n 0, 1) := by decide +kernel
theorem dX9_kindOfError_1 : decode cX9_kindOfError 1 = .ok (.getfield 39, 3) := by decide +kernel
theorem dX9_kindOfError_4 : decode cX9_kindOfError 4 = .ok (.ifnonnull 5, 3) := by decide +kernel
theorem dX9_kindOfError_7 : decode cX9_kindOfError 7 = .ok (.iconst 1, 1) := by decide +kernel
theorem dX9_kindOfError_8 : decode cX9_kindOfError 8 = .ok (.ireturn, 1) := by decide +kernel
theorem dX9_kindOfError_9 : decode cX9_kindOfError 9 = .ok (.aload_n 0, 1) := by decide +kernel
theorem dX9_kindOfError_10 : decode cX9_kindOfError 10 = .ok (.getfield 43, 3) := by decide +kernel
theorem dX9_kindOfError_13 : decode cX9_kindOfError 13 = .ok (.iconst 1, 1) := by decide +kernel
theorem dX9_kindOfError_14 : decode cX9_kindOfError 14 = .ok (.isub, 1) := by decide +kernel
theorem dX9_kindOfError_15 : decode cX9_kindOfError 15 = .ok (.aload_n 0, 1) := by decide +kernel
theorem dX9_kindOfError_16 : decode cX9_kindOfError 16 = .ok (.getfield 39, 3) := by decide +kernel
theorem dX9_kindOfError_19 : decode cX9_kindOfError 19 = .ok (.getfield 90, 3) := by decide +kernel
theorem dX9_kindOfError_22 : decode cX9_kindOfError 22 = .ok (.if_icmp .eq 5, 3) := by decide +kernel
theorem dX9_kindOfError_25 : decode cX9_kindOfError 25 = .ok (.iconst 2, 1) := by decide +kernel
theorem dX9_kindOfError_26 : decode cX9_kindOfError 26 = .ok (.ireturn, 1) := by decide +kernel
theorem dX9_kindOfError_27 : decode cX9_kindOfError 27 = .ok (.aload_n 0, 1) := by decide +kernel
theorem dX9_kindOfError_28 : decode cX9_kindOfError 28 = .ok (.getfield 46, 3) := by decide +kernel
theorem dX9_kindOfError_31 : decode cX9_kindOfError 31 = .ok (.ifCond .eq 7, 3) := by decide +kernel
theorem dX9_kindOfError_34 : decode cX9_kindOfError 34 = .ok (.iconst 0, 1) := by decide +kernel
theorem dX9_kindOfError_35 : decode cX9_kindOfError 35 = .ok (.goto 4, 3) := by decide +kernel
theorem dX9_kindOfError_38 : decode cX9_kindOfError 38 = .ok (.iconst 3, 1) := by decide +kernel
theorem dX9_kindOfError_39 : decode cX9_kindOfError 39 = .ok (.ireturn, 1) := by decide +kernel
theorem dX10_init_0 : decode cX10_init 0 = .ok (.aload_n 0, 1) := by decide +kernel
theorem dX10_init_1 : decode cX10_init 1 = .ok (.invokespecial 3, 3) := by decide +kernel
theorem dX10_init_4 : decode cX10_init 4 = .ok (.aload_n 0, 1) := by decide +kernel
theorem dX10_init_5 : decode cX10_init 5 = .ok (.iconst 4, 1) := by decide +kernel
theorem dX10_init_6 : decode cX10_init 6 = .ok (.anewarray 9, 3) := by decide +kernel
theorem dX10_init_9 : decode cX10_init 9 = .ok (.putfield 11, 3) := by decide +kernel
theorem dX10_init_12 : decode cX10_init 12 = .ok (.aload_n 0, 1) := by decide +kernel
theorem dX10_init_13 : decode cX10_init 13 = .ok (.bipush 24, 2) := by decide +kernel
theorem dX10_init_15 : decode cX10_init 15 = .ok (.anewarray 17, 3) := by decide +kernel
theorem dX10_init_18 : decode cX10_init 18 = .ok (.putfield 19, 3) := by decide +kernel
theorem dX10_init_21 : decode cX10_init 21 = .ok (.aload_n 0, 1) := by decide +kernel
theorem dX10_init_22 : decode cX10_init 22 = .ok (.bipush 80, 2) := by decide +kernel
theorem dX10_init_24 : decode cX10_init 24 = .ok (.anewarray 23, 3) := by decide +kernel
theorem dX10_init_27 : decode cX10_init 27 = .ok (.putfield 25, 3) := by decide +kernel
theorem dX10_init_30 : decode cX10_init 30 = .ok (.aload_n 0, 1) := by decide +kernel
theorem dX10_init_31 : decode cX10_init 31 = .ok (.sipush 160, 3) := by decide +kernel
theorem dX10_init_34 : decode cX10_init 34 = .ok (.anewarray 29, 3) := by decide +kernel
theorem dX10_init_37 : decode cX10_init 37 = .ok (.putfield 31, 3) := by decide +kernel
theorem dX10_init_40 : decode cX10_init 40 = .ok (.aload_n 0, 1) := by decide +kernel
theorem dX10_init_41 : decode cX10_init 41 = .ok (.bipush 40, 2) := by decide +kernel
theorem dX10_init_43 : decode cX10_init 43 = .ok (.anewarray 35, 3) := by decide +kernel
theorem dX10_init_46 : decode cX10_init 46 = .ok (.putfield 37, 3) := by decide +kernel
theorem dX10_init_49 : decode cX10_init 49 = .ok (.aload_n 0, 1) := by decide +kernel
theorem dX10_init_50 : decode cX10_init 50 = .ok (.new 41, 3) := by decide +kernel
theorem dX10_init_53 : decode cX10_init 53 = .ok (.dup, 1) := by decide +kernel
theorem dX10_init_54 : decode cX10_init 54 = .ok (.invokespecial 43, 3) := by decide +kernel
theorem dX10_init_57 : decode cX10_init 57 = .ok (.putfield 44, 3) := by decide +kernel
theorem dX10_init_60 : decode cX10_init 60 = .ok (.aload_n 0, 1) := by decide +kernel
theorem dX10_init_61 : decode cX10_init 61 = .ok (.bipush 60, 2) := by decide +kernel
theorem dX10_init_63 : decode cX10_init 63 = .ok (.putfield 48, 3) := by decide +kernel
theorem dX10_init_66 : decode cX10_init 66 = .ok (.aload_n 0, 1) := by decide +kernel
theorem dX10_init_67 : decode cX10_init 67 = .ok (.bipush 10, 2) := by decide +kernel
theorem dX10_init_69 : decode cX10_init 69 = .ok (.putfield 52, 3) := by decide +kernel
theorem dX10_init_72 : decode cX10_init 72 = .ok (.iconst 0, 1) := by decide +kernel
theorem dX10_init_73 : decode cX10_init 73 = .ok (.istore_n 1, 1) := by decide +kernel
theorem dX10_init_74 : decode cX10_init 74 = .ok (.iload_n 1, 1) := by decide +kernel
theorem dX10_init_75 : decode cX10_init 75 = .ok (.aload_n 0, 1) := by decide +kernel
theorem dX10_init_76 : decode cX10_init 76 = .ok (.getfield 11, 3) := by decide +kernel
theorem dX10_init_79 : decode cX10_init 79 = .ok (.arraylength, 1) := by decide +kernel
theorem dX10_init_80 : decode cX10_init 80 = .ok (.if_icmp .ge 22, 3) := by decide +kernel
theorem dX10_init_83 : decode cX10_init 83 = .ok (.aload_n 0, 1) := by decide +kernel
theorem dX10_init_84 : decode cX10_init 84 = .ok (.getfield 11, 3) := by decide +kernel
theorem dX10_init_87 : decode cX10_init 87 = .ok (.iload_n 1, 1) := by decide +kernel
theorem dX10_init_88 : decode cX10_init 88 = .ok (.new 9, 3) := by decide +kernel
theorem dX10_init_91 : decode cX10_init 91 = .ok (.dup, 1) := by decide +kernel
theorem dX10_init_92 : decode cX10_init 92 = .ok (.invokespecial 55, 3) := by decide +kernel
theorem dX10_init_95 : decode cX10_init 95 = .ok (.aastore, 1) := by decide +kernel
theorem dX10_init_96 : decode cX10_init 96 = .ok (.iinc 1 1, 3) := by decide +kernel
theorem dX10_init_99 : decode cX10_init 99 = .ok (.goto (-25), 3) := by decide +kernel
theorem dX10_init_102 : decode cX10_init 102 = .ok (.iconst 0, 1) := by decide +kernel
theorem dX10_init_103 : decode cX10_init 103 = .ok (.istore_n 1, 1) := by decide +kernel
theorem dX10_init_104 : decode cX10_init 104 = .ok (.iload_n 1, 1) := by decide +kernel
theorem dX10_init_105 : decode cX10_init 105 = .ok (.aload_n 0, 1) := by decide +kernel
theorem dX10_init_106 : decode cX10_init 106 = .ok (.getfield 19, 3) := by decide +kernel
theorem dX10_init_109 : decode cX10_init 109 = .ok (.arraylength, 1) := by decide +kernel
theorem dX10_init_110 : decode cX10_init 110 = .ok (.if_icmp .ge 52, 3) := by decide +kernel
theorem dX10_init_113 : decode cX10_init 113 = .ok (.iload_n 1, 1) := by decide +kernel
theorem dX10_init_114 : decode cX10_init 114 = .ok (.bipush 8, 2) := by decide +kernel
theorem dX10_init_116 : decode cX10_init 116 = .ok (.idiv, 1) := by decide +kernel
theorem dX10_init_117 : decode cX10_init 117 = .ok (.iconst 2, 1) := by decide +kernel
theorem dX10_init_118 : decode cX10_init 118 = .ok (.if_icmp .ne 7, 3) := by decide +kernel
theorem dX10_init_121 : decode cX10_init 121 = .ok (.iconst 1, 1) := by decide +kernel
theorem dX10_init_122 : decode cX10_init 122 = .ok (.goto 4, 3) := by decide +kernel
theorem dX10_init_125 : decode cX10_init 125 = .ok (.iconst 0, 1) := by decide +kernel
theorem dX10_init_126 : decode cX10_init 126 = .ok (.istore_n 2, 1) := by decide +kernel
theorem dX10_init_127 : decode cX10_init 127 = .ok (.aload_n 0, 1) := by decide +kernel
theorem dX10_init_128 : decode cX10_init 128 = .ok (.getfield 19, 3) := by decide +kernel
theorem dX10_init_131 : decode cX10_init 131 = .ok (.iload_n 1, 1) := by decide +kernel
theorem dX10_init_132 : decode cX10_init 132 = .ok (.new 17, 3) := by decide +kernel
theorem dX10_init_135 : decode cX10_init 135 = .ok (.dup, 1) := by decide +kernel
theorem dX10_init_136 : decode cX10_init 136 = .ok (.iload_n 2, 1) := by decide +kernel
theorem dX10_init_137 : decode cX10_init 137 = .ok (.ifCond .eq 14, 3) := by decide +kernel
theorem dX10_init_140 : decode cX10_init 140 = .ok (.iconst 5, 1) := by decide +kernel
theorem dX10_init_141 : decode cX10_init 141 = .ok (.iload_n 1, 1) := by decide +kernel
theorem dX10_init_142 : decode cX10_init 142 = .ok (.bipush 8, 2) := by decide +kernel
theorem dX10_init_144 : decode cX10_init 144 = .ok (.irem, 1) := by decide +kernel
theorem dX10_init_145 : decode cX10_init 145 = .ok (.iconst 3, 1) := by decide +kernel
theorem dX10_init_146 : decode cX10_init 146 = .ok (.isub, 1) := by decide +kernel
theorem dX10_init_147 : decode cX10_init 147 = .ok (.imul, 1) := by decide +kernel
theorem dX10_init_148 : decode cX10_init 148 = .ok (.goto 4, 3) := by decide +kernel
theorem dX10_init_151 : decode cX10_init 151 = .ok (.iconst 0, 1) := by decide +kernel
theorem dX10_init_152 : decode cX10_init 152 = .ok (.invokespecial 56, 3) := by decide +kernel
theorem dX10_init_155 : decode cX10_init 155 = .ok (.aastore, 1) := by decide +kernel
theorem dX10_init_156 : decode cX10_init 156 = .ok (.iinc 1 1, 3) := by decide +kernel
theorem dX10_init_159 : decode cX10_init 159 = .ok (.goto (-55), 3) := by decide +kernel
theorem dX10_init_162 : decode cX10_init 162 = .ok (.iconst 0, 1) := by decide +kernel
theorem dX10_init_163 : decode cX10_init 163 = .ok (.istore_n 1, 1) := by decide +kernel
theorem dX10_init_164 : decode cX10_init 164 = .ok (.iload_n 1, 1) := by decide +kernel
theorem dX10_init_165 : decode cX10_init 165 = .ok (.aload_n 0, 1) := by decide +kernel
theorem dX10_init_166 : decode cX10_init 166 = .ok (.getfield 25, 3) := by decide +kernel
theorem dX10_init_169 : decode cX10_init 169 = .ok (.arraylength, 1) := by decide +kernel
theorem dX10_init_170 : decode cX10_init 170 = .ok (.if_icmp .ge 22, 3) := by decide +kernel
theorem dX10_init_173 : decode cX10_init 173 = .ok (.aload_n 0, 1) := by decide +kernel
theorem dX10_init_174 : decode cX10_init 174 = .ok (.getfield 25, 3) := by decide +kernel
theorem dX10_init_177 : decode cX10_init 177 = .ok (.iload_n 1, 1) := by decide +kernel
theorem dX10_init_178 : decode cX10_init 178 = .ok (.new 23, 3) := by decide +kernel
theorem dX10_init_181 : decode cX10_init 181 = .ok (.dup, 1) := by decide +kernel
theorem dX10_init_182 : decode cX10_init 182 = .ok (.invokespecial 59, 3) := by decide +kernel
theorem dX10_init_185 : decode cX10_init 185 = .ok (.aastore, 1) := by decide +kernel
theorem dX10_init_186 : decode cX10_init 186 = .ok (.iinc 1 1, 3) := by decide +kernel
theorem dX10_init_189 : decode cX10_init 189 = .ok (.goto (-25), 3) := by decide +kernel
theorem dX10_init_192 : decode cX10_init 192 = .ok (.iconst 0, 1) := by decide +kernel
theorem dX10_init_193 : decode cX10_init 193 = .ok (.istore_n 1, 1) := by decide +kernel
theorem dX10_init_194 : decode cX10_init 194 = .ok (.iload_n 1, 1) := by decide +kernel
theorem dX10_init_195 : decode cX10_init 195 = .ok (.aload_n 0, 1) := by decide +kernel
theorem dX10_init_196 : decode cX10_init 196 = .ok (.getfield 31, 3) := by decide +kernel
theorem dX10_init_199 : decode cX10_init 199 = .ok (.arraylength, 1) := by decide +kernel
theorem dX10_init_200 : decode cX10_init 200 = .ok (.if_icmp .ge 22, 3) := by decide +kernel
theorem dX10_init_203 : decode cX10_init 203 = .ok (.aload_n 0, 1) := by decide +kernel
theorem dX10_init_204 : decode cX10_init 204 = .ok (.getfield 31, 3) := by decide +kernel
theorem dX10_init_207 : decode cX10_init 207 = .ok (.iload_n 1, 1) := by decide +kernel
theorem dX10_init_208 : decode cX10_init 208 = .ok (.new 29, 3) := by decide +kernel
theorem dX10_init_211 : decode cX10_init 211 = .ok (.dup, 1) := by decide +kernel
theorem dX10_init_212 : decode cX10_init 212 = .ok (.invokespecial 60, 3) := by decide +kernel
theorem dX10_init_215 : decode cX10_init 215 = .ok (.aastore, 1) := by decide +kernel
theorem dX10_init_216 : decode cX10_init 216 = .ok (.iinc 1 1, 3) := by decide +kernel
theorem dX10_init_219 : decode cX10_init 219 = .ok (.goto (-25), 3) := by decide +kernel
theorem dX10_init_222 : decode cX10_init 222 = .ok (.iconst 0, 1) := by decide +kernel
theorem dX10_init_223 : decode cX10_init 223 = .ok (.istore_n 1, 1) := by decide +kernel
theorem dX10_init_224 : decode cX10_init 224 = .ok (.iload_n 1, 1) := by decide +kernel
theorem dX10_init_225 : decode cX10_init 225 = .ok (.aload_n 0, 1) := by decide +kernel
theorem dX10_init_226 : decode cX10_init 226 = .ok (.getfield 37, 3) := by decide +kernel
theorem dX10_init_229 : decode cX10_init 229 = .ok (.arraylength, 1) := by decide +kernel
theorem dX10_init_230 : decode cX10_init 230 = .ok (.if_icmp .ge 22, 3) := by decide +kernel
theorem dX10_init_233 : decode cX10_init 233 = .ok (.aload_n 0, 1) := by decide +kernel
theorem dX10_init_234 : decode cX10_init 234 = .ok (.getfield 37, 3) := by decide +kernel
theorem dX10_init_237 : decode cX10_init 237 = .ok (.iload_n 1, 1) := by decide +kernel
theorem dX10_init_238 : decode cX10_init 238 = .ok (.new 35, 3) := by decide +kernel
theorem dX10_init_241 : decode cX10_init 241 = .ok (.dup, 1) := by decide +kernel
theorem dX10_init_242 : decode cX10_init 242 = .ok (.invokespecial 61, 3) := by decide +kernel
theorem dX10_init_245 : decode cX10_init 245 = .ok (.aastore, 1) := by decide +kernel
theorem dX10_init_246 : decode cX10_init 246 = .ok (.iinc 1 1, 3) := by decide +kernel
theorem dX10_init_249 : decode cX10_init 249 = .ok (.goto (-25), 3) := by decide +kernel
theorem dX10_init_252 : decode cX10_init 252 = .ok (.return_, 1) := by decide +kernel
theorem dX10_copyFrom_0 : decode cX10_copyFrom 0 = .ok (.iconst 0, 1) := by decide +kernel
theorem dX10_copyFrom_1 : decode cX10_copyFrom 1 = .ok (.istore_n 2, 1) := by decide +kernel
theorem dX10_copyFrom_2 : decode cX10_copyFrom 2 = .ok (.iload_n 2, 1) := by decide +kernel
theorem dX10_copyFrom_3 : decode cX10_copyFrom 3 = .ok (.aload_n 0, 1) := by decide +kernel
theorem dX10_copyFrom_4 : decode cX10_copyFrom 4 = .ok (.getfield 11, 3) := by decide +kernel
theorem dX10_copyFrom_7 : decode cX10_copyFrom 7 = .ok (.arraylength, 1) := by decide +kernel
theorem dX10_copyFrom_8 : decode cX10_copyFrom 8 = .ok (.if_icmp .ge 24, 3) := by decide +kernel
theorem dX10_copyFrom_11 : decode cX10_copyFrom 11 = .ok (.aload_n 0, 1) := by decide +kernel
theorem dX10_copyFrom_12 : decode cX10_copyFrom 12 = .ok (.getfield 11, 3) := by decide +kernel
theorem dX10_copyFrom_15 : decode cX10_copyFrom 15 = .ok (.iload_n 2, 1) := by decide +kernel
theorem dX10_copyFrom_16 : decode cX10_copyFrom 16 = .ok (.aaload, 1) := by decide +kernel
theorem dX10_copyFrom_17 : decode cX10_copyFrom 17 = .ok (.aload_n 1, 1) := by decide +kernel
theorem dX10_copyFrom_18 : decode cX10_copyFrom 18 = .ok (.getfield 11, 3) := by decide +kernel
theorem dX10_copyFrom_21 : decode cX10_copyFrom 21 = .ok (.iload_n 2, 1) := by decide +kernel
theorem dX10_copyFrom_22 : decode cX10_copyFrom 22 = .ok (.aaload, 1) := by decide +kernel
theorem dX10_copyFrom_23 : decode cX10_copyFrom 23 = .ok (.invokevirtual 62, 3) := by decide +kernel
theorem dX10_copyFrom_26 : decode cX10_copyFrom 26 = .ok (.iinc 2 1, 3) := by decide +kernel
theorem dX10_copyFrom_29 : decode cX10_copyFrom 29 = .ok (.goto (-27), 3) := by decide +kernel
theorem dX10_copyFrom_32 : decode cX10_copyFrom 32 = .ok (.iconst 0, 1) := by decide +kernel
theorem dX10_copyFrom_33 : decode cX10_copyFrom 33 = .ok (.istore_n 2, 1) := by decide +kernel
theorem dX10_copyFrom_34 : decode cX10_copyFrom 34 = .ok (.iload_n 2, 1) := by decide +kernel
theorem dX10_copyFrom_35 : decode cX10_copyFrom 35 = .ok (.aload_n 0, 1) := by decide +kernel
theorem dX10_copyFrom_36 : decode cX10_copyFrom 36 = .ok (.getfield 19, 3) := by decide +kernel
theorem dX10_copyFrom_39 : decode cX10_copyFrom 39 = .ok (.arraylength, 1) := by decide +kernel
theorem dX10_copyFrom_40 : decode cX10_copyFrom 40 = .ok (.if_icmp .ge 24, 3) := by decide +kernel
theorem dX10_copyFrom_43 : decode cX10_copyFrom 43 = .ok (.aload_n 0, 1) := by decide +kernel
theorem dX10_copyFrom_44 : decode cX10_copyFrom 44 = .ok (.getfield 19, 3) := by decide +kernel
theorem dX10_copyFrom_47 : decode cX10_copyFrom 47 = .ok (.iload_n 2, 1) := by decide +kernel
theorem dX10_copyFrom_48 : decode cX10_copyFrom 48 = .ok (.aaload, 1) := by decide +kernel
theorem dX10_copyFrom_49 : decode cX10_copyFrom 49 = .ok (.aload_n 1, 1) := by decide +kernel
theorem dX10_copyFrom_50 : decode cX10_copyFrom 50 = .ok (.getfield 19, 3) := by decide +kernel
theorem dX10_copyFrom_53 : decode cX10_copyFrom 53 = .ok (.iload_n 2, 1) := by decide +kernel
theorem dX10_copyFrom_54 : decode cX10_copyFrom 54 = .ok (.aaload, 1) := by decide +kernel
theorem dX10_copyFrom_55 : decode cX10_copyFrom 55 = .ok (.invokevirtual 66, 3) := by decide +kernel
theorem dX10_copyFrom_58 : decode cX10_copyFrom 58 = .ok (.iinc 2 1, 3) := by decide +kernel
theorem dX10_copyFrom_61 : decode cX10_copyFrom 61 = .ok (.goto (-27), 3) := by decide +kernel
theorem dX10_copyFrom_64 : decode cX10_copyFrom 64 = .ok (.aload_n 0, 1) := by decide +kernel
theorem dX10_copyFrom_65 : decode cX10_copyFrom 65 = .ok (.aload_n 1, 1) := by decide +kernel
theorem dX10_copyFrom_66 : decode cX10_copyFrom 66 = .ok (.getfield 69, 3) := by decide +kernel
theorem dX10_copyFrom_69 : decode cX10_copyFrom 69 = .ok (.putfield 69, 3) := by decide +kernel
theorem dX10_copyFrom_72 : decode cX10_copyFrom 72 = .ok (.iconst 0, 1) := by decide +kernel
theorem dX10_copyFrom_73 : decode cX10_copyFrom 73 = .ok (.istore_n 2, 1) := by decide +kernel
theorem dX10_copyFrom_74 : decode cX10_copyFrom 74 = .ok (.iload_n 2, 1) := by decide +kernel
theorem dX10_copyFrom_75 : decode cX10_copyFrom 75 = .ok (.aload_n 0, 1) := by decide +kernel
theorem dX10_copyFrom_76 : decode cX10_copyFrom 76 = .ok (.getfield 69, 3) := by decide +kernel
theorem dX10_copyFrom_79 : decode cX10_copyFrom 79 = .ok (.if_icmp .ge 24, 3) := by decide +kernel
theorem dX10_copyFrom_82 : decode cX10_copyFrom 82 = .ok (.aload_n 0, 1) := by decide +kernel
theorem dX10_copyFrom_83 : decode cX10_copyFrom 83 = .ok (.getfield 25, 3) := by decide +kernel
theorem dX10_copyFrom_86 : decode cX10_copyFrom 86 = .ok (.iload_n 2, 1) := by decide +kernel
theorem dX10_copyFrom_87 : decode cX10_copyFrom 87 = .ok (.aaload, 1) := by decide +kernel
theorem dX10_copyFrom_88 : decode cX10_copyFrom 88 = .ok (.aload_n 1, 1) := by decide +kernel
theorem dX10_copyFrom_89 : decode cX10_copyFrom 89 = .ok (.getfield 25, 3) := by decide +kernel
theorem dX10_copyFrom_92 : decode cX10_copyFrom 92 = .ok (.iload_n 2, 1) := by decide +kernel
theorem dX10_copyFrom_93 : decode cX10_copyFrom 93 = .ok (.aaload, 1) := by decide +kernel
theorem dX10_copyFrom_94 : decode cX10_copyFrom 94 = .ok (.invokevirtual 72, 3) := by decide +kernel
theorem dX10_copyFrom_97 : decode cX10_copyFrom 97 = .ok (.iinc 2 1, 3) := by decide +kernel
theorem dX10_copyFrom_100 : decode cX10_copyFrom 100 = .ok (.goto (-26), 3) := by decide +kernel
theorem dX10_copyFrom_103 : decode cX10_copyFrom 103 = .ok (.aload_n 0, 1) := by decide +kernel
theorem dX10_copyFrom_104 : decode cX10_copyFrom 104 = .ok (.aload_n 1, 1) := by decide +kernel
theorem dX10_copyFrom_105 : decode cX10_copyFrom 105 = .ok (.getfield 75, 3) := by decide +kernel
theorem dX10_copyFrom_108 : decode cX10_copyFrom 108 = .ok (.putfield 75, 3) := by decide +kernel
theorem dX10_copyFrom_111 : decode cX10_copyFrom 111 = .ok (.iconst 0, 1) := by decide +kernel
theorem dX10_copyFrom_112 : decode cX10_copyFrom 112 = .ok (.istore_n 2, 1) := by decide +kernel
theorem dX10_copyFrom_113 : decode cX10_copyFrom 113 = .ok (.iload_n 2, 1) := by decide +kernel
theorem dX10_copyFrom_114 : decode cX10_copyFrom 114 = .ok (.aload_n 0, 1) := by decide +kernel
theorem dX10_copyFrom_115 : decode cX10_copyFrom 115 = .ok (.getfield 75, 3) := by decide +kernel
theorem dX10_copyFrom_118 : decode cX10_copyFrom 118 = .ok (.if_icmp .ge 24, 3) := by decide +kernel
theorem dX10_copyFrom_121 : decode cX10_copyFrom 121 = .ok (.aload_n 0, 1) := by decide +kernel
theorem dX10_copyFrom_122 : decode cX10_copyFrom 122 = .ok (.getfield 31, 3) := by decide +kernel
theorem dX10_copyFrom_125 : decode cX10_copyFrom 125 = .ok (.iload_n 2, 1) := by decide +kernel
theorem dX10_copyFrom_126 : decode cX10_copyFrom 126 = .ok (.aaload, 1) := by decide +kernel
theorem dX10_copyFrom_127 : decode cX10_copyFrom 127 = .ok (.aload_n 1, 1) := by decide +kernel
theorem dX10_copyFrom_128 : decode cX10_copyFrom 128 = .ok (.getfield 31, 3) := by decide +kernel
theorem dX10_copyFrom_131 : decode cX10_copyFrom 131 = .ok (.iload_n 2, 1) := by decide +kernel
theorem dX10_copyFrom_132 : decode cX10_copyFrom 132 = .ok (.aaload, 1) := by decide +kernel
theorem dX10_copyFrom_133 : decode cX10_copyFrom 133 = .ok (.invokevirtual 78, 3) := by decide +kernel
theorem dX10_copyFrom_136 : decode cX10_copyFrom 136 = .ok (.iinc 2 1, 3) := by decide +kernel
theorem dX10_copyFrom_139 : decode cX10_copyFrom 139 = .ok (.goto (-26), 3) := by decide +kernel
theorem dX10_copyFrom_142 : decode cX10_copyFrom 142 = .ok (.aload_n 0, 1) := by decide +kernel
theorem dX10_copyFrom_143 : decode cX10_copyFrom 143 = .ok (.aload_n 1, 1) := by decide +kernel
theorem dX10_copyFrom_144 : decode cX10_copyFrom 144 = .ok (.getfield 81, 3) := by decide +kernel
theorem dX10_copyFrom_147 : decode cX10_copyFrom 147 = .ok (.putfield 81, 3) := by decide +kernel
theorem dX10_copyFrom_150 : decode cX10_copyFrom 150 = .ok (.iconst 0, 1) := by decide +kernel
theorem dX10_copyFrom_151 : decode cX10_copyFrom 151 = .ok (.istore_n 2, 1) := by decide +kernel
theorem dX10_copyFrom_152 : decode cX10_copyFrom 152 = .ok (.iload_n 2, 1) := by decide +kernel
theorem dX10_copyFrom_153 : decode cX10_copyFrom 153 = .ok (.aload_n 0, 1) := by decide +kernel
theorem dX10_copyFrom_154 : decode cX10_copyFrom 154 = .ok (.getfield 81, 3) := by decide +kernel
theorem dX10_copyFrom_157 : decode cX10_copyFrom 157 = .ok (.if_icmp .ge 24, 3) := by decide +kernel
theorem dX10_copyFrom_160 : decode cX10_copyFrom 160 = .ok (.aload_n 0, 1) := by decide +kernel
theorem dX10_copyFrom_161 : decode cX10_copyFrom 161 = .ok (.getfield 37, 3) := by decide +kernel
theorem dX10_copyFrom_164 : decode cX10_copyFrom 164 = .ok (.iload_n 2, 1) := by decide +kernel
theorem dX10_copyFrom_165 : decode cX10_copyFrom 165 = .ok (.aaload, 1) := by decide +kernel
theorem dX10_copyFrom_166 : decode cX10_copyFrom 166 = .ok (.aload_n 1, 1) := by decide +kernel
theorem dX10_copyFrom_167 : decode cX10_copyFrom 167 = .ok (.getfield 37, 3) := by decide +kernel
theorem dX10_copyFrom_170 : decode cX10_copyFrom 170 = .ok (.iload_n 2, 1) := by decide +kernel
theorem dX10_copyFrom_171 : decode cX10_copyFrom 171 = .ok (.aaload, 1) := by decide +kernel
theorem dX10_copyFrom_172 : decode cX10_copyFrom 172 = .ok (.invokevirtual 84, 3) := by decide +kernel
theorem dX10_copyFrom_175 : decode cX10_copyFrom 175 = .ok (.iinc 2 1, 3) := by decide +kernel
theorem dX10_copyFrom_178 : decode cX10_copyFrom 178 = .ok (.goto (-26), 3) := by decide +kernel
theorem dX10_copyFrom_181 : decode cX10_copyFrom 181 = .ok (.aload_n 0, 1) := by decide +kernel
theorem dX10_copyFrom_182 : decode cX10_copyFrom 182 = .ok (.getfield 44, 3) := by decide +kernel
theorem dX10_copyFrom_185 : decode cX10_copyFrom 185 = .ok (.aload_n 1, 1) := by decide +kernel
theorem dX10_copyFrom_186 : decode cX10_copyFrom 186 = .ok (.getfield 44, 3) := by decide +kernel
theorem dX10_copyFrom_189 : decode cX10_copyFrom 189 = .ok (.invokevirtual 87, 3) := by decide +kernel
theorem dX10_copyFrom_192 : decode cX10_copyFrom 192 = .ok (.aload_n 0, 1) := by decide +kernel
theorem dX10_copyFrom_193 : decode cX10_copyFrom 193 = .ok (.aload_n 1, 1) := by decide +kernel
theorem dX10_copyFrom_194 : decode cX10_copyFrom 194 = .ok (.getfield 48, 3) := by decide +kernel
theorem dX10_copyFrom_197 : decode cX10_copyFrom 197 = .ok (.putfield 48, 3) := by decide +kernel
theorem dX10_copyFrom_200 : decode cX10_copyFrom 200 = .ok (.aload_n 0, 1) := by decide +kernel
theorem dX10_copyFrom_201 : decode cX10_copyFrom 201 = .ok (.aload_n 1, 1) := by decide +kernel
theorem dX10_copyFrom_202 : decode cX10_copyFrom 202 = .ok (.getfield 52, 3) := by decide +kernel
theorem dX10_copyFrom_205 : decode cX10_copyFrom 205 = .ok (.putfield 52, 3) := by decide +kernel
theorem dX10_copyFrom_208 : decode cX10_copyFrom 208 = .ok (.aload_n 0, 1) := by decide +kernel
theorem dX10_copyFrom_209 : decode cX10_copyFrom 209 = .ok (.aload_n 1, 1) := by decide +kernel
theorem dX10_copyFrom_210 : decode cX10_copyFrom 210 = .ok (.getfield 90, 3) := by decide +kernel
theorem dX10_copyFrom_213 : decode cX10_copyFrom 213 = .ok (.putfield 90, 3) := by decide +kernel
theorem dX10_copyFrom_216 : decode cX10_copyFrom 216 = .ok (.aload_n 0, 1) := by decide +kernel
theorem dX10_copyFrom_217 : decode cX10_copyFrom 217 = .ok (.aload_n 1, 1) := by decide +kernel
theorem dX10_copyFrom_218 : decode cX10_copyFrom 218 = .ok (.getfield 93, 3) := by decide +kernel
theorem dX10_copyFrom_221 : decode cX10_copyFrom 221 = .ok (.putfield 93, 3) := by decide +kernel
theorem dX10_copyFrom_224 : decode cX10_copyFrom 224 = .ok (.aload_n 0, 1) := by decide +kernel
theorem dX10_copyFrom_225 : decode cX10_copyFrom 225 = .ok (.aload_n 1, 1) := by decide +kernel
theorem dX10_copyFrom_226 : decode cX10_copyFrom 226 = .ok (.getfield 96, 3) := by decide +kernel
theorem dX10_copyFrom_229 : decode cX10_copyFrom 229 = .ok (.putfield 96, 3) := by decide +kernel
theorem dX10_copyFrom_232 : decode cX10_copyFrom 232 = .ok (.return_, 1) := by decide +kernel
theorem dX10_faultOfFiring_0 : decode cX10_faultOfFiring 0 = .ok (.iload_n 1, 1) := by decide +kernel
theorem dX10_faultOfFiring_1 : decode cX10_faultOfFiring 1 = .ok (.invokestatic 99, 3) := by decide +kernel
theorem dX10_faultOfFiring_4 : decode cX10_faultOfFiring 4 = .ok (.ifCond .eq 10, 3) := by decide +kernel
theorem dX10_faultOfFiring_7 : decode cX10_faultOfFiring 7 = .ok (.iload_n 2, 1) := by decide +kernel
theorem dX10_faultOfFiring_8 : decode cX10_faultOfFiring 8 = .ok (.invokestatic 103, 3) := by decide +kernel
theorem dX10_faultOfFiring_11 : decode cX10_faultOfFiring 11 = .ok (.ifCond .ne 7, 3) := by decide +kernel
theorem dX10_faultOfFiring_14 : decode cX10_faultOfFiring 14 = .ok (.getstatic 106, 3) := by decide +kernel
theorem dX10_faultOfFiring_17 : decode cX10_faultOfFiring 17 = .ok (.areturn, 1) := by decide +kernel
theorem dX10_faultOfFiring_18 : decode cX10_faultOfFiring 18 = .ok (.iload_n 3, 1) := by decide +kernel
theorem dX10_faultOfFiring_19 : decode cX10_faultOfFiring 19 = .ok (.invokestatic 112, 3) := by decide +kernel
theorem dX10_faultOfFiring_22 : decode cX10_faultOfFiring 22 = .ok (.ifCond .eq 14, 3) := by decide +kernel
theorem dX10_faultOfFiring_25 : decode cX10_faultOfFiring 25 = .ok (.iload 4, 2) := by decide +kernel
theorem dX10_faultOfFiring_27 : decode cX10_faultOfFiring 27 = .ok (.iconst 1, 1) := by decide +kernel
theorem dX10_faultOfFiring_28 : decode cX10_faultOfFiring 28 = .ok (.bipush 100, 2) := by decide +kernel
theorem dX10_faultOfFiring_30 : decode cX10_faultOfFiring 30 = .ok (.invokestatic 115, 3) := by decide +kernel
theorem dX10_faultOfFiring_33 : decode cX10_faultOfFiring 33 = .ok (.ifCond .ne 7, 3) := by decide +kernel
theorem dX10_faultOfFiring_36 : decode cX10_faultOfFiring 36 = .ok (.getstatic 119, 3) := by decide +kernel
theorem dX10_faultOfFiring_39 : decode cX10_faultOfFiring 39 = .ok (.areturn, 1) := by decide +kernel
theorem dX10_faultOfFiring_40 : decode cX10_faultOfFiring 40 = .ok (.aload_n 0, 1) := by decide +kernel
theorem dX10_faultOfFiring_41 : decode cX10_faultOfFiring 41 = .ok (.getfield 90, 3) := by decide +kernel
theorem dX10_faultOfFiring_44 : decode cX10_faultOfFiring 44 = .ok (.sipush 2000, 3) := by decide +kernel
theorem dX10_faultOfFiring_47 : decode cX10_faultOfFiring 47 = .ok (.if_icmp .ge 9, 3) := by decide +kernel
theorem dX10_faultOfFiring_50 : decode cX10_faultOfFiring 50 = .ok (.getstatic 122, 3) := by decide +kernel
theorem dX10_faultOfFiring_53 : decode cX10_faultOfFiring 53 = .ok (.goto 6, 3) := by decide +kernel
theorem dX10_faultOfFiring_56 : decode cX10_faultOfFiring 56 = .ok (.getstatic 125, 3) := by decide +kernel
theorem dX10_faultOfFiring_59 : decode cX10_faultOfFiring 59 = .ok (.areturn, 1) := by decide +kernel
theorem dX10_makeFiring_0 : decode cX10_makeFiring 0 = .ok (.iload_n 1, 1) := by decide +kernel
theorem dX10_makeFiring_1 : decode cX10_makeFiring 1 = .ok (.invokestatic 99, 3) := by decide +kernel
theorem dX10_makeFiring_4 : decode cX10_makeFiring 4 = .ok (.ifCond .eq 10, 3) := by decide +kernel
theorem dX10_makeFiring_7 : decode cX10_makeFiring 7 = .ok (.iload_n 2, 1) := by decide +kernel
theorem dX10_makeFiring_8 : decode cX10_makeFiring 8 = .ok (.invokestatic 103, 3) := by decide +kernel
theorem dX10_makeFiring_11 : decode cX10_makeFiring 11 = .ok (.ifCond .ne 5, 3) := by decide +kernel
theorem dX10_makeFiring_14 : decode cX10_makeFiring 14 = .ok (.iconst (-1), 1) := by decide +kernel
theorem dX10_makeFiring_15 : decode cX10_makeFiring 15 = .ok (.ireturn, 1) := by decide +kernel
theorem dX10_makeFiring_16 : decode cX10_makeFiring 16 = .ok (.aload_n 0, 1) := by decide +kernel
theorem dX10_makeFiring_17 : decode cX10_makeFiring 17 = .ok (.getfield 11, 3) := by decide +kernel
theorem dX10_makeFiring_20 : decode cX10_makeFiring 20 = .ok (.iload_n 2, 1) := by decide +kernel
theorem dX10_makeFiring_21 : decode cX10_makeFiring 21 = .ok (.aaload, 1) := by decide +kernel
theorem dX10_makeFiring_22 : decode cX10_makeFiring 22 = .ok (.astore 5, 2) := by decide +kernel
theorem dX10_makeFiring_24 : decode cX10_makeFiring 24 = .ok (.iconst 0, 1) := by decide +kernel
theorem dX10_makeFiring_25 : decode cX10_makeFiring 25 = .ok (.istore 6, 2) := by decide +kernel
theorem dX10_makeFiring_27 : decode cX10_makeFiring 27 = .ok (.iconst 0, 1) := by decide +kernel
theorem dX10_makeFiring_28 : decode cX10_makeFiring 28 = .ok (.istore 7, 2) := by decide +kernel
theorem dX10_makeFiring_30 : decode cX10_makeFiring 30 = .ok (.iload 7, 2) := by decide +kernel
theorem dX10_makeFiring_32 : decode cX10_makeFiring 32 = .ok (.bipush 8, 2) := by decide +kernel
theorem dX10_makeFiring_34 : decode cX10_makeFiring 34 = .ok (.if_icmp .ge 75, 3) := by decide +kernel
theorem dX10_makeFiring_37 : decode cX10_makeFiring 37 = .ok (.aload_n 0, 1) := by decide +kernel
theorem dX10_makeFiring_38 : decode cX10_makeFiring 38 = .ok (.getfield 19, 3) := by decide +kernel
theorem dX10_makeFiring_41 : decode cX10_makeFiring 41 = .ok (.iload_n 1, 1) := by decide +kernel
theorem dX10_makeFiring_42 : decode cX10_makeFiring 42 = .ok (.bipush 8, 2) := by decide +kernel
theorem dX10_makeFiring_44 : decode cX10_makeFiring 44 = .ok (.imul, 1) := by decide +kernel
theorem dX10_makeFiring_45 : decode cX10_makeFiring 45 = .ok (.iload 7, 2) := by decide +kernel
theorem dX10_makeFiring_47 : decode cX10_makeFiring 47 = .ok (.iadd, 1) := by decide +kernel
theorem dX10_makeFiring_48 : decode cX10_makeFiring 48 = .ok (.aaload, 1) := by decide +kernel
theorem dX10_makeFiring_49 : decode cX10_makeFiring 49 = .ok (.astore 8, 2) := by decide +kernel
theorem dX10_makeFiring_51 : decode cX10_makeFiring 51 = .ok (.aload 8, 2) := by decide +kernel
theorem dX10_makeFiring_53 : decode cX10_makeFiring 53 = .ok (.iload 4, 2) := by decide +kernel
theorem dX10_makeFiring_55 : decode cX10_makeFiring 55 = .ok (.invokevirtual 128, 3) := by decide +kernel
theorem dX10_makeFiring_58 : decode cX10_makeFiring 58 = .ok (.istore 9, 2) := by decide +kernel
theorem dX10_makeFiring_60 : decode cX10_makeFiring 60 = .ok (.iload 4, 2) := by decide +kernel
theorem dX10_makeFiring_62 : decode cX10_makeFiring 62 = .ok (.iload 9, 2) := by decide +kernel
theorem dX10_makeFiring_64 : decode cX10_makeFiring 64 = .ok (.isub, 1) := by decide +kernel
theorem dX10_makeFiring_65 : decode cX10_makeFiring 65 = .ok (.istore 10, 2) := by decide +kernel
theorem dX10_makeFiring_67 : decode cX10_makeFiring 67 = .ok (.aload_n 0, 1) := by decide +kernel
theorem dX10_makeFiring_68 : decode cX10_makeFiring 68 = .ok (.iload_n 2, 1) := by decide +kernel
theorem dX10_makeFiring_69 : decode cX10_makeFiring 69 = .ok (.aload 5, 2) := by decide +kernel
theorem dX10_makeFiring_71 : decode cX10_makeFiring 71 = .ok (.aload 8, 2) := by decide +kernel
theorem dX10_makeFiring_73 : decode cX10_makeFiring 73 = .ok (.iload_n 3, 1) := by decide +kernel
theorem dX10_makeFiring_74 : decode cX10_makeFiring 74 = .ok (.invokevirtual 132, 3) := by decide +kernel
theorem dX10_makeFiring_77 : decode cX10_makeFiring 77 = .ok (.invokevirtual 135, 3) := by decide +kernel
theorem dX10_makeFiring_80 : decode cX10_makeFiring 80 = .ok (.iload 10, 2) := by decide +kernel
theorem dX10_makeFiring_82 : decode cX10_makeFiring 82 = .ok (.iload 10, 2) := by decide +kernel
theorem dX10_makeFiring_84 : decode cX10_makeFiring 84 = .ok (.aload 5, 2) := by decide +kernel
theorem dX10_makeFiring_86 : decode cX10_makeFiring 86 = .ok (.getfield 138, 3) := by decide +kernel
theorem dX10_makeFiring_89 : decode cX10_makeFiring 89 = .ok (.imul, 1) := by decide +kernel
theorem dX10_makeFiring_90 : decode cX10_makeFiring 90 = .ok (.bipush 100, 2) := by decide +kernel
theorem dX10_makeFiring_92 : decode cX10_makeFiring 92 = .ok (.idiv, 1) := by decide +kernel
theorem dX10_makeFiring_93 : decode cX10_makeFiring 93 = .ok (.invokevirtual 141, 3) := by decide +kernel
theorem dX10_makeFiring_96 : decode cX10_makeFiring 96 = .ok (.iload 6, 2) := by decide +kernel
theorem dX10_makeFiring_98 : decode cX10_makeFiring 98 = .ok (.iload 9, 2) := by decide +kernel
theorem dX10_makeFiring_100 : decode cX10_makeFiring 100 = .ok (.iadd, 1) := by decide +kernel
theorem dX10_makeFiring_101 : decode cX10_makeFiring 101 = .ok (.istore 6, 2) := by decide +kernel
theorem dX10_makeFiring_103 : decode cX10_makeFiring 103 = .ok (.iinc 7 1, 3) := by decide +kernel
theorem dX10_makeFiring_106 : decode cX10_makeFiring 106 = .ok (.goto (-76), 3) := by decide +kernel
theorem dX10_makeFiring_109 : decode cX10_makeFiring 109 = .ok (.aload_n 0, 1) := by decide +kernel
theorem dX10_makeFiring_110 : decode cX10_makeFiring 110 = .ok (.dup, 1) := by decide +kernel
theorem dX10_makeFiring_111 : decode cX10_makeFiring 111 = .ok (.getfield 90, 3) := by decide +kernel
theorem dX10_makeFiring_114 : decode cX10_makeFiring 114 = .ok (.iconst 1, 1) := by decide +kernel
theorem dX10_makeFiring_115 : decode cX10_makeFiring 115 = .ok (.iadd, 1) := by decide +kernel
theorem dX10_makeFiring_116 : decode cX10_makeFiring 116 = .ok (.putfield 90, 3) := by decide +kernel
theorem dX10_makeFiring_119 : decode cX10_makeFiring 119 = .ok (.aload_n 0, 1) := by decide +kernel
theorem dX10_makeFiring_120 : decode cX10_makeFiring 120 = .ok (.dup, 1) := by decide +kernel
theorem dX10_makeFiring_121 : decode cX10_makeFiring 121 = .ok (.getfield 93, 3) := by decide +kernel
theorem dX10_makeFiring_124 : decode cX10_makeFiring 124 = .ok (.iload 4, 2) := by decide +kernel
theorem dX10_makeFiring_126 : decode cX10_makeFiring 126 = .ok (.bipush 8, 2) := by decide +kernel
theorem dX10_makeFiring_128 : decode cX10_makeFiring 128 = .ok (.imul, 1) := by decide +kernel
theorem dX10_makeFiring_129 : decode cX10_makeFiring 129 = .ok (.iadd, 1) := by decide +kernel
theorem dX10_makeFiring_130 : decode cX10_makeFiring 130 = .ok (.putfield 93, 3) := by decide +kernel
theorem dX10_makeFiring_133 : decode cX10_makeFiring 133 = .ok (.aload_n 0, 1) := by decide +kernel
theorem dX10_makeFiring_134 : decode cX10_makeFiring 134 = .ok (.dup, 1) := by decide +kernel
theorem dX10_makeFiring_135 : decode cX10_makeFiring 135 = .ok (.getfield 96, 3) := by decide +kernel
theorem dX10_makeFiring_138 : decode cX10_makeFiring 138 = .ok (.iload 6, 2) := by decide +kernel
theorem dX10_makeFiring_140 : decode cX10_makeFiring 140 = .ok (.iadd, 1) := by decide +kernel
theorem dX10_makeFiring_141 : decode cX10_makeFiring 141 = .ok (.putfield 96, 3) := by decide +kernel
theorem dX10_makeFiring_144 : decode cX10_makeFiring 144 = .ok (.aload_n 0, 1) := by decide +kernel
theorem dX10_makeFiring_145 : decode cX10_makeFiring 145 = .ok (.getfield 44, 3) := by decide +kernel
theorem dX10_makeFiring_148 : decode cX10_makeFiring 148 = .ok (.iconst 1, 1) := by decide +kernel
theorem dX10_makeFiring_149 : decode cX10_makeFiring 149 = .ok (.iload 6, 2) := by decide +kernel
theorem dX10_makeFiring_151 : decode cX10_makeFiring 151 = .ok (.invokevirtual 145, 3) := by decide +kernel
theorem dX10_makeFiring_154 : decode cX10_makeFiring 154 = .ok (.iload 6, 2) := by decide +kernel
theorem dX10_makeFiring_156 : decode cX10_makeFiring 156 = .ok (.ireturn, 1) := by decide +kernel
theorem dX10_addToBench_0 : decode cX10_addToBench 0 = .ok (.iload_n 3, 1) := by decide +kernel
theorem dX10_addToBench_1 : decode cX10_addToBench 1 = .ok (.ifCond .ne 4, 3) := by decide +kernel
theorem dX10_addToBench_4 : decode cX10_addToBench 4 = .ok (.return_, 1) := by decide +kernel
theorem dX10_addToBench_5 : decode cX10_addToBench 5 = .ok (.aload_n 0, 1) := by decide +kernel
theorem dX10_addToBench_6 : decode cX10_addToBench 6 = .ok (.iload_n 1, 1) := by decide +kernel
theorem dX10_addToBench_7 : decode cX10_addToBench 7 = .ok (.iload_n 2, 1) := by decide +kernel
theorem dX10_addToBench_8 : decode cX10_addToBench 8 = .ok (.invokevirtual 149, 3) := by decide +kernel
theorem dX10_addToBench_11 : decode cX10_addToBench 11 = .ok (.istore 5, 2) := by decide +kernel
theorem dX10_addToBench_13 : decode cX10_addToBench 13 = .ok (.iload 5, 2) := by decide +kernel
theorem dX10_addToBench_15 : decode cX10_addToBench 15 = .ok (.iconst (-1), 1) := by decide +kernel
theorem dX10_addToBench_16 : decode cX10_addToBench 16 = .ok (.if_icmp .ne 43, 3) := by decide +kernel
theorem dX10_addToBench_19 : decode cX10_addToBench 19 = .ok (.aload_n 0, 1) := by decide +kernel
theorem dX10_addToBench_20 : decode cX10_addToBench 20 = .ok (.getfield 69, 3) := by decide +kernel
theorem dX10_addToBench_23 : decode cX10_addToBench 23 = .ok (.aload_n 0, 1) := by decide +kernel
theorem dX10_addToBench_24 : decode cX10_addToBench 24 = .ok (.getfield 25, 3) := by decide +kernel
theorem dX10_addToBench_27 : decode cX10_addToBench 27 = .ok (.arraylength, 1) := by decide +kernel
theorem dX10_addToBench_28 : decode cX10_addToBench 28 = .ok (.if_icmp .ge 31, 3) := by decide +kernel
theorem dX10_addToBench_31 : decode cX10_addToBench 31 = .ok (.aload_n 0, 1) := by decide +kernel
theorem dX10_addToBench_32 : decode cX10_addToBench 32 = .ok (.getfield 69, 3) := by decide +kernel
theorem dX10_addToBench_35 : decode cX10_addToBench 35 = .ok (.istore 5, 2) := by decide +kernel
theorem dX10_addToBench_37 : decode cX10_addToBench 37 = .ok (.aload_n 0, 1) := by decide +kernel
theorem dX10_addToBench_38 : decode cX10_addToBench 38 = .ok (.dup, 1) := by decide +kernel
theorem dX10_addToBench_39 : decode cX10_addToBench 39 = .ok (.getfield 69, 3) := by decide +kernel
theorem dX10_addToBench_42 : decode cX10_addToBench 42 = .ok (.iconst 1, 1) := by decide +kernel
theorem dX10_addToBench_43 : decode cX10_addToBench 43 = .ok (.iadd, 1) := by decide +kernel
theorem dX10_addToBench_44 : decode cX10_addToBench 44 = .ok (.putfield 69, 3) := by decide +kernel
theorem dX10_addToBench_47 : decode cX10_addToBench 47 = .ok (.aload_n 0, 1) := by decide +kernel
theorem dX10_addToBench_48 : decode cX10_addToBench 48 = .ok (.getfield 25, 3) := by decide +kernel
theorem dX10_addToBench_51 : decode cX10_addToBench 51 = .ok (.iload 5, 2) := by decide +kernel
theorem dX10_addToBench_53 : decode cX10_addToBench 53 = .ok (.aaload, 1) := by decide +kernel
theorem dX10_addToBench_54 : decode cX10_addToBench 54 = .ok (.iload_n 1, 1) := by decide +kernel
theorem dX10_addToBench_55 : decode cX10_addToBench 55 = .ok (.iload_n 2, 1) := by decide +kernel
theorem dX10_addToBench_56 : decode cX10_addToBench 56 = .ok (.invokevirtual 153, 3) := by decide +kernel
theorem dX10_addToBench_59 : decode cX10_addToBench 59 = .ok (.aload_n 0, 1) := by decide +kernel
theorem dX10_addToBench_60 : decode cX10_addToBench 60 = .ok (.iload 5, 2) := by decide +kernel
theorem dX10_addToBench_62 : decode cX10_addToBench 62 = .ok (.invokevirtual 156, 3) := by decide +kernel
theorem dX10_addToBench_65 : decode cX10_addToBench 65 = .ok (.ifCond .eq 36, 3) := by decide +kernel
theorem dX10_addToBench_68 : decode cX10_addToBench 68 = .ok (.aload_n 0, 1) := by decide +kernel
theorem dX10_addToBench_69 : decode cX10_addToBench 69 = .ok (.getfield 25, 3) := by decide +kernel
theorem dX10_addToBench_72 : decode cX10_addToBench 72 = .ok (.iload 5, 2) := by decide +kernel
theorem dX10_addToBench_74 : decode cX10_addToBench 74 = .ok (.aaload, 1) := by decide +kernel
theorem dX10_addToBench_75 : decode cX10_addToBench 75 = .ok (.dup, 1) := by decide +kernel
theorem dX10_addToBench_76 : decode cX10_addToBench 76 = .ok (.getfield 159, 3) := by decide +kernel
theorem dX10_addToBench_79 : decode cX10_addToBench 79 = .ok (.iload_n 3, 1) := by decide +kernel
theorem dX10_addToBench_80 : decode cX10_addToBench 80 = .ok (.iadd, 1) := by decide +kernel
theorem dX10_addToBench_81 : decode cX10_addToBench 81 = .ok (.putfield 159, 3) := by decide +kernel
theorem dX10_addToBench_84 : decode cX10_addToBench 84 = .ok (.aload_n 0, 1) := by decide +kernel
theorem dX10_addToBench_85 : decode cX10_addToBench 85 = .ok (.getfield 25, 3) := by decide +kernel
theorem dX10_addToBench_88 : decode cX10_addToBench 88 = .ok (.iload 5, 2) := by decide +kernel
theorem dX10_addToBench_90 : decode cX10_addToBench 90 = .ok (.aaload, 1) := by decide +kernel
theorem dX10_addToBench_91 : decode cX10_addToBench 91 = .ok (.dup, 1) := by decide +kernel
theorem dX10_addToBench_92 : decode cX10_addToBench 92 = .ok (.getfield 162, 3) := by decide +kernel
theorem dX10_addToBench_95 : decode cX10_addToBench 95 = .ok (.iload 4, 2) := by decide +kernel
theorem dX10_addToBench_97 : decode cX10_addToBench 97 = .ok (.iadd, 1) := by decide +kernel
theorem dX10_addToBench_98 : decode cX10_addToBench 98 = .ok (.putfield 162, 3) := by decide +kernel
theorem dX10_addToBench_101 : decode cX10_addToBench 101 = .ok (.return_, 1) := by decide +kernel
theorem dX10_indexOfPile_0 : decode cX10_indexOfPile 0 = .ok (.iconst 0, 1) := by decide +kernel
theorem dX10_indexOfPile_1 : decode cX10_indexOfPile 1 = .ok (.istore_n 3, 1) := by decide +kernel
theorem dX10_indexOfPile_2 : decode cX10_indexOfPile 2 = .ok (.iload_n 3, 1) := by decide +kernel
theorem dX10_indexOfPile_3 : decode cX10_indexOfPile 3 = .ok (.aload_n 0, 1) := by decide +kernel
theorem dX10_indexOfPile_4 : decode cX10_indexOfPile 4 = .ok (.getfield 69, 3) := by decide +kernel
theorem dX10_indexOfPile_7 : decode cX10_indexOfPile 7 = .ok (.if_icmp .ge 25, 3) := by decide +kernel
theorem dX10_indexOfPile_10 : decode cX10_indexOfPile 10 = .ok (.aload_n 0, 1) := by decide +kernel
theorem dX10_indexOfPile_11 : decode cX10_indexOfPile 11 = .ok (.getfield 25, 3) := by decide +kernel
theorem dX10_indexOfPile_14 : decode cX10_indexOfPile 14 = .ok (.iload_n 3, 1) := by decide +kernel
theorem dX10_indexOfPile_15 : decode cX10_indexOfPile 15 = .ok (.aaload, 1) := by decide +kernel
theorem dX10_indexOfPile_16 : decode cX10_indexOfPile 16 = .ok (.iload_n 1, 1) := by decide +kernel
theorem dX10_indexOfPile_17 : decode cX10_indexOfPile 17 = .ok (.iload_n 2, 1) := by decide +kernel
theorem dX10_indexOfPile_18 : decode cX10_indexOfPile 18 = .ok (.invokevirtual 165, 3) := by decide +kernel
theorem dX10_indexOfPile_21 : decode cX10_indexOfPile 21 = .ok (.ifCond .eq 5, 3) := by decide +kernel
theorem dX10_indexOfPile_24 : decode cX10_indexOfPile 24 = .ok (.iload_n 3, 1) := by decide +kernel
theorem dX10_indexOfPile_25 : decode cX10_indexOfPile 25 = .ok (.ireturn, 1) := by decide +kernel
theorem dX10_indexOfPile_26 : decode cX10_indexOfPile 26 = .ok (.iinc 3 1, 3) := by decide +kernel
theorem dX10_indexOfPile_29 : decode cX10_indexOfPile 29 = .ok (.goto (-27), 3) := by decide +kernel
theorem dX10_indexOfPile_32 : decode cX10_indexOfPile 32 = .ok (.iconst (-1), 1) := by decide +kernel
theorem dX10_indexOfPile_33 : decode cX10_indexOfPile 33 = .ok (.ireturn, 1) := by decide +kernel
theorem dX10_hasPile_0 : decode cX10_hasPile 0 = .ok (.iload_n 1, 1) := by decide +kernel
theorem dX10_hasPile_1 : decode cX10_hasPile 1 = .ok (.ifCond .lt 24, 3) := by decide +kernel
theorem dX10_hasPile_4 : decode cX10_hasPile 4 = .ok (.iload_n 1, 1) := by decide +kernel
theorem dX10_hasPile_5 : decode cX10_hasPile 5 = .ok (.aload_n 0, 1) := by decide +kernel
theorem dX10_hasPile_6 : decode cX10_hasPile 6 = .ok (.getfield 69, 3) := by decide +kernel
theorem dX10_hasPile_9 : decode cX10_hasPile 9 = .ok (.if_icmp .ge 16, 3) := by decide +kernel
theorem dX10_hasPile_12 : decode cX10_hasPile 12 = .ok (.iload_n 1, 1) := by decide +kernel
theorem dX10_hasPile_13 : decode cX10_hasPile 13 = .ok (.aload_n 0, 1) := by decide +kernel
theorem dX10_hasPile_14 : decode cX10_hasPile 14 = .ok (.getfield 25, 3) := by decide +kernel
theorem dX10_hasPile_17 : decode cX10_hasPile 17 = .ok (.arraylength, 1) := by decide +kernel
theorem dX10_hasPile_18 : decode cX10_hasPile 18 = .ok (.if_icmp .ge 7, 3) := by decide +kernel
theorem dX10_hasPile_21 : decode cX10_hasPile 21 = .ok (.iconst 1, 1) := by decide +kernel
theorem dX10_hasPile_22 : decode cX10_hasPile 22 = .ok (.goto 4, 3) := by decide +kernel
theorem dX10_hasPile_25 : decode cX10_hasPile 25 = .ok (.iconst 0, 1) := by decide +kernel
theorem dX10_hasPile_26 : decode cX10_hasPile 26 = .ok (.ireturn, 1) := by decide +kernel
theorem dX10_positionsWithShade_0 : decode cX10_positionsWithShade 0 = .ok (.iload_n 1, 1) := by decide +kernel
theorem dX10_positionsWithShade_1 : decode cX10_positionsWithShade 1 = .ok (.invokestatic 99, 3) := by decide +kernel
theorem dX10_positionsWithShade_4 : decode cX10_positionsWithShade 4 = .ok (.ifCond .eq 10, 3) := by decide +kernel
theorem dX10_positionsWithShade_7 : decode cX10_positionsWithShade 7 = .ok (.iload_n 2, 1) := by decide +kernel
theorem dX10_positionsWithShade_8 : decode cX10_positionsWithShade 8 = .ok (.invokestatic 103, 3) := by decide +kernel
theorem dX10_positionsWithShade_11 : decode cX10_positionsWithShade 11 = .ok (.ifCond .ne 5, 3) := by decide +kernel
theorem dX10_positionsWithShade_14 : decode cX10_positionsWithShade 14 = .ok (.iconst 0, 1) := by decide +kernel
theorem dX10_positionsWithShade_15 : decode cX10_positionsWithShade 15 = .ok (.ireturn, 1) := by decide +kernel
theorem dX10_positionsWithShade_16 : decode cX10_positionsWithShade 16 = .ok (.iconst 0, 1) := by decide +kernel
theorem dX10_positionsWithShade_17 : decode cX10_positionsWithShade 17 = .ok (.istore 5, 2) := by decide +kernel
theorem dX10_positionsWithShade_19 : decode cX10_positionsWithShade 19 = .ok (.iconst 0, 1) := by decide +kernel
theorem dX10_positionsWithShade_20 : decode cX10_positionsWithShade 20 = .ok (.istore 6, 2) := by decide +kernel
theorem dX10_positionsWithShade_22 : decode cX10_positionsWithShade 22 = .ok (.iload 6, 2) := by decide +kernel
theorem dX10_positionsWithShade_24 : decode cX10_positionsWithShade 24 = .ok (.bipush 8, 2) := by decide +kernel
theorem dX10_positionsWithShade_26 : decode cX10_positionsWithShade 26 = .ok (.if_icmp .ge 46, 3) := by decide +kernel
theorem dX10_positionsWithShade_29 : decode cX10_positionsWithShade 29 = .ok (.aload_n 0, 1) := by decide +kernel
theorem dX10_positionsWithShade_30 : decode cX10_positionsWithShade 30 = .ok (.getfield 19, 3) := by decide +kernel
theorem dX10_positionsWithShade_33 : decode cX10_positionsWithShade 33 = .ok (.iload_n 1, 1) := by decide +kernel
theorem dX10_positionsWithShade_34 : decode cX10_positionsWithShade 34 = .ok (.bipush 8, 2) := by decide +kernel
theorem dX10_positionsWithShade_36 : decode cX10_positionsWithShade 36 = .ok (.imul, 1) := by decide +kernel
theorem dX10_positionsWithShade_37 : decode cX10_positionsWithShade 37 = .ok (.iload 6, 2) := by decide +kernel
theorem dX10_positionsWithShade_39 : decode cX10_positionsWithShade 39 = .ok (.iadd, 1) := by decide +kernel
theorem dX10_positionsWithShade_40 : decode cX10_positionsWithShade 40 = .ok (.aaload, 1) := by decide +kernel
theorem dX10_positionsWithShade_41 : decode cX10_positionsWithShade 41 = .ok (.iload_n 3, 1) := by decide +kernel
theorem dX10_positionsWithShade_42 : decode cX10_positionsWithShade 42 = .ok (.invokevirtual 132, 3) := by decide +kernel
theorem dX10_positionsWithShade_45 : decode cX10_positionsWithShade 45 = .ok (.istore 7, 2) := by decide +kernel
theorem dX10_positionsWithShade_47 : decode cX10_positionsWithShade 47 = .ok (.aload_n 0, 1) := by decide +kernel
theorem dX10_positionsWithShade_48 : decode cX10_positionsWithShade 48 = .ok (.getfield 11, 3) := by decide +kernel
theorem dX10_positionsWithShade_51 : decode cX10_positionsWithShade 51 = .ok (.iload_n 2, 1) := by decide +kernel
theorem dX10_positionsWithShade_52 : decode cX10_positionsWithShade 52 = .ok (.aaload, 1) := by decide +kernel
theorem dX10_positionsWithShade_53 : decode cX10_positionsWithShade 53 = .ok (.iload 7, 2) := by decide +kernel
theorem dX10_positionsWithShade_55 : decode cX10_positionsWithShade 55 = .ok (.invokevirtual 135, 3) := by decide +kernel
theorem dX10_positionsWithShade_58 : decode cX10_positionsWithShade 58 = .ok (.iload 4, 2) := by decide +kernel
theorem dX10_positionsWithShade_60 : decode cX10_positionsWithShade 60 = .ok (.if_icmp .ne 6, 3) := by decide +kernel
theorem dX10_positionsWithShade_63 : decode cX10_positionsWithShade 63 = .ok (.iinc 5 1, 3) := by decide +kernel
theorem dX10_positionsWithShade_66 : decode cX10_positionsWithShade 66 = .ok (.iinc 6 1, 3) := by decide +kernel
theorem dX10_positionsWithShade_69 : decode cX10_positionsWithShade 69 = .ok (.goto (-47), 3) := by decide +kernel
theorem dX10_positionsWithShade_72 : decode cX10_positionsWithShade 72 = .ok (.iload 5, 2) := by decide +kernel
theorem dX10_positionsWithShade_74 : decode cX10_positionsWithShade 74 = .ok (.ireturn, 1) := by decide +kernel
theorem dX10_faultOfGrading_0 : decode cX10_faultOfGrading 0 = .ok (.iload_n 1, 1) := by decide +kernel
theorem dX10_faultOfGrading_1 : decode cX10_faultOfGrading 1 = .ok (.iconst 1, 1) := by decide +kernel
theorem dX10_faultOfGrading_2 : decode cX10_faultOfGrading 2 = .ok (.bipush 10, 2) := by decide +kernel
theorem dX10_faultOfGrading_4 : decode cX10_faultOfGrading 4 = .ok (.invokestatic 115, 3) := by decide +kernel
theorem dX10_faultOfGrading_7 : decode cX10_faultOfGrading 7 = .ok (.ifCond .ne 7, 3) := by decide +kernel
theorem dX10_faultOfGrading_10 : decode cX10_faultOfGrading 10 = .ok (.getstatic 119, 3) := by decide +kernel
theorem dX10_faultOfGrading_13 : decode cX10_faultOfGrading 13 = .ok (.areturn, 1) := by decide +kernel
theorem dX10_faultOfGrading_14 : decode cX10_faultOfGrading 14 = .ok (.aload_n 0, 1) := by decide +kernel
theorem dX10_faultOfGrading_15 : decode cX10_faultOfGrading 15 = .ok (.getfield 69, 3) := by decide +kernel
theorem dX10_faultOfGrading_18 : decode cX10_faultOfGrading 18 = .ok (.ifCond .le 9, 3) := by decide +kernel
theorem dX10_faultOfGrading_21 : decode cX10_faultOfGrading 21 = .ok (.getstatic 122, 3) := by decide +kernel
theorem dX10_faultOfGrading_24 : decode cX10_faultOfGrading 24 = .ok (.goto 6, 3) := by decide +kernel
theorem dX10_faultOfGrading_27 : decode cX10_faultOfGrading 27 = .ok (.getstatic 125, 3) := by decide +kernel
theorem dX10_faultOfGrading_30 : decode cX10_faultOfGrading 30 = .ok (.areturn, 1) := by decide +kernel
theorem dX10_gradeBench_0 : decode cX10_gradeBench 0 = .ok (.iconst 0, 1) := by decide +kernel
theorem dX10_gradeBench_1 : decode cX10_gradeBench 1 = .ok (.istore_n 2, 1) := by decide +kernel
theorem dX10_gradeBench_2 : decode cX10_gradeBench 2 = .ok (.iconst 0, 1) := by decide +kernel
theorem dX10_gradeBench_3 : decode cX10_gradeBench 3 = .ok (.istore_n 3, 1) := by decide +kernel
theorem dX10_gradeBench_4 : decode cX10_gradeBench 4 = .ok (.iload_n 3, 1) := by decide +kernel
theorem dX10_gradeBench_5 : decode cX10_gradeBench 5 = .ok (.aload_n 0, 1) := by decide +kernel
theorem dX10_gradeBench_6 : decode cX10_gradeBench 6 = .ok (.getfield 69, 3) := by decide +kernel
theorem dX10_gradeBench_9 : decode cX10_gradeBench 9 = .ok (.if_icmp .ge 83, 3) := by decide +kernel
theorem dX10_gradeBench_12 : decode cX10_gradeBench 12 = .ok (.aload_n 0, 1) := by decide +kernel
theorem dX10_gradeBench_13 : decode cX10_gradeBench 13 = .ok (.getfield 25, 3) := by decide +kernel
theorem dX10_gradeBench_16 : decode cX10_gradeBench 16 = .ok (.iload_n 3, 1) := by decide +kernel
theorem dX10_gradeBench_17 : decode cX10_gradeBench 17 = .ok (.aaload, 1) := by decide +kernel
theorem dX10_gradeBench_18 : decode cX10_gradeBench 18 = .ok (.astore 4, 2) := by decide +kernel
theorem dX10_gradeBench_20 : decode cX10_gradeBench 20 = .ok (.aload 4, 2) := by decide +kernel
theorem dX10_gradeBench_22 : decode cX10_gradeBench 22 = .ok (.iload_n 1, 1) := by decide +kernel
theorem dX10_gradeBench_23 : decode cX10_gradeBench 23 = .ok (.aload_n 0, 1) := by decide +kernel
theorem dX10_gradeBench_24 : decode cX10_gradeBench 24 = .ok (.getfield 48, 3) := by decide +kernel
theorem dX10_gradeBench_27 : decode cX10_gradeBench 27 = .ok (.invokevirtual 169, 3) := by decide +kernel
theorem dX10_gradeBench_30 : decode cX10_gradeBench 30 = .ok (.istore 5, 2) := by decide +kernel
theorem dX10_gradeBench_32 : decode cX10_gradeBench 32 = .ok (.aload_n 0, 1) := by decide +kernel
theorem dX10_gradeBench_33 : decode cX10_gradeBench 33 = .ok (.aload 4, 2) := by decide +kernel
theorem dX10_gradeBench_35 : decode cX10_gradeBench 35 = .ok (.getfield 172, 3) := by decide +kernel
theorem dX10_gradeBench_38 : decode cX10_gradeBench 38 = .ok (.aload 4, 2) := by decide +kernel
theorem dX10_gradeBench_40 : decode cX10_gradeBench 40 = .ok (.getfield 175, 3) := by decide +kernel
theorem dX10_gradeBench_43 : decode cX10_gradeBench 43 = .ok (.iconst 1, 1) := by decide +kernel
theorem dX10_gradeBench_44 : decode cX10_gradeBench 44 = .ok (.aload 4, 2) := by decide +kernel
theorem dX10_gradeBench_46 : decode cX10_gradeBench 46 = .ok (.getfield 159, 3) := by decide +kernel
theorem dX10_gradeBench_49 : decode cX10_gradeBench 49 = .ok (.iload 5, 2) := by decide +kernel
theorem dX10_gradeBench_51 : decode cX10_gradeBench 51 = .ok (.isub, 1) := by decide +kernel
theorem dX10_gradeBench_52 : decode cX10_gradeBench 52 = .ok (.aload 4, 2) := by decide +kernel
theorem dX10_gradeBench_54 : decode cX10_gradeBench 54 = .ok (.getfield 162, 3) := by decide +kernel
theorem dX10_gradeBench_57 : decode cX10_gradeBench 57 = .ok (.iload 5, 2) := by decide +kernel
theorem dX10_gradeBench_59 : decode cX10_gradeBench 59 = .ok (.isub, 1) := by decide +kernel
theorem dX10_gradeBench_60 : decode cX10_gradeBench 60 = .ok (.invokevirtual 178, 3) := by decide +kernel
theorem dX10_gradeBench_63 : decode cX10_gradeBench 63 = .ok (.aload_n 0, 1) := by decide +kernel
theorem dX10_gradeBench_64 : decode cX10_gradeBench 64 = .ok (.aload 4, 2) := by decide +kernel
theorem dX10_gradeBench_66 : decode cX10_gradeBench 66 = .ok (.getfield 172, 3) := by decide +kernel
theorem dX10_gradeBench_69 : decode cX10_gradeBench 69 = .ok (.aload 4, 2) := by decide +kernel
theorem dX10_gradeBench_71 : decode cX10_gradeBench 71 = .ok (.getfield 175, 3) := by decide +kernel
theorem dX10_gradeBench_74 : decode cX10_gradeBench 74 = .ok (.iconst 2, 1) := by decide +kernel
theorem dX10_gradeBench_75 : decode cX10_gradeBench 75 = .ok (.iload 5, 2) := by decide +kernel
theorem dX10_gradeBench_77 : decode cX10_gradeBench 77 = .ok (.iconst 0, 1) := by decide +kernel
theorem dX10_gradeBench_78 : decode cX10_gradeBench 78 = .ok (.invokevirtual 178, 3) := by decide +kernel
theorem dX10_gradeBench_81 : decode cX10_gradeBench 81 = .ok (.iload_n 2, 1) := by decide +kernel
theorem dX10_gradeBench_82 : decode cX10_gradeBench 82 = .ok (.iload 5, 2) := by decide +kernel
theorem dX10_gradeBench_84 : decode cX10_gradeBench 84 = .ok (.iadd, 1) := by decide +kernel
theorem dX10_gradeBench_85 : decode cX10_gradeBench 85 = .ok (.istore_n 2, 1) := by decide +kernel
theorem dX10_gradeBench_86 : decode cX10_gradeBench 86 = .ok (.iinc 3 1, 3) := by decide +kernel
theorem dX10_gradeBench_89 : decode cX10_gradeBench 89 = .ok (.goto (-85), 3) := by decide +kernel
theorem dX10_gradeBench_92 : decode cX10_gradeBench 92 = .ok (.aload_n 0, 1) := by decide +kernel
theorem dX10_gradeBench_93 : decode cX10_gradeBench 93 = .ok (.iconst 0, 1) := by decide +kernel
theorem dX10_gradeBench_94 : decode cX10_gradeBench 94 = .ok (.putfield 69, 3) := by decide +kernel
theorem dX10_gradeBench_97 : decode cX10_gradeBench 97 = .ok (.aload_n 0, 1) := by decide +kernel
theorem dX10_gradeBench_98 : decode cX10_gradeBench 98 = .ok (.getfield 44, 3) := by decide +kernel
theorem dX10_gradeBench_101 : decode cX10_gradeBench 101 = .ok (.iconst 2, 1) := by decide +kernel
theorem dX10_gradeBench_102 : decode cX10_gradeBench 102 = .ok (.iload_n 2, 1) := by decide +kernel
theorem dX10_gradeBench_103 : decode cX10_gradeBench 103 = .ok (.invokevirtual 145, 3) := by decide +kernel
theorem dX10_gradeBench_106 : decode cX10_gradeBench 106 = .ok (.iload_n 2, 1) := by decide +kernel
theorem dX10_gradeBench_107 : decode cX10_gradeBench 107 = .ok (.ireturn, 1) := by decide +kernel
theorem dX10_hiddenAfter_0 : decode cX10_hiddenAfter 0 = .ok (.iconst 0, 1) := by decide +kernel
theorem dX10_hiddenAfter_1 : decode cX10_hiddenAfter 1 = .ok (.istore_n 2, 1) := by decide +kernel
theorem dX10_hiddenAfter_2 : decode cX10_hiddenAfter 2 = .ok (.iconst 0, 1) := by decide +kernel
theorem dX10_hiddenAfter_3 : decode cX10_hiddenAfter 3 = .ok (.istore_n 3, 1) := by decide +kernel
theorem dX10_hiddenAfter_4 : decode cX10_hiddenAfter 4 = .ok (.iload_n 3, 1) := by decide +kernel
theorem dX10_hiddenAfter_5 : decode cX10_hiddenAfter 5 = .ok (.aload_n 0, 1) := by decide +kernel
theorem dX10_hiddenAfter_6 : decode cX10_hiddenAfter 6 = .ok (.getfield 69, 3) := by decide +kernel
theorem dX10_hiddenAfter_9 : decode cX10_hiddenAfter 9 = .ok (.if_icmp .ge 36, 3) := by decide +kernel
theorem dX10_hiddenAfter_12 : decode cX10_hiddenAfter 12 = .ok (.iload_n 2, 1) := by decide +kernel
theorem dX10_hiddenAfter_13 : decode cX10_hiddenAfter 13 = .ok (.aload_n 0, 1) := by decide +kernel
theorem dX10_hiddenAfter_14 : decode cX10_hiddenAfter 14 = .ok (.getfield 25, 3) := by decide +kernel
theorem dX10_hiddenAfter_17 : decode cX10_hiddenAfter 17 = .ok (.iload_n 3, 1) := by decide +kernel
theorem dX10_hiddenAfter_18 : decode cX10_hiddenAfter 18 = .ok (.aaload, 1) := by decide +kernel
theorem dX10_hiddenAfter_19 : decode cX10_hiddenAfter 19 = .ok (.getfield 162, 3) := by decide +kernel
theorem dX10_hiddenAfter_22 : decode cX10_hiddenAfter 22 = .ok (.aload_n 0, 1) := by decide +kernel
theorem dX10_hiddenAfter_23 : decode cX10_hiddenAfter 23 = .ok (.getfield 25, 3) := by decide +kernel
theorem dX10_hiddenAfter_26 : decode cX10_hiddenAfter 26 = .ok (.iload_n 3, 1) := by decide +kernel
theorem dX10_hiddenAfter_27 : decode cX10_hiddenAfter 27 = .ok (.aaload, 1) := by decide +kernel
theorem dX10_hiddenAfter_28 : decode cX10_hiddenAfter 28 = .ok (.iload_n 1, 1) := by decide +kernel
theorem dX10_hiddenAfter_29 : decode cX10_hiddenAfter 29 = .ok (.aload_n 0, 1) := by decide +kernel
theorem dX10_hiddenAfter_30 : decode cX10_hiddenAfter 30 = .ok (.getfield 48, 3) := by decide +kernel
theorem dX10_hiddenAfter_33 : decode cX10_hiddenAfter 33 = .ok (.invokevirtual 169, 3) := by decide +kernel
theorem dX10_hiddenAfter_36 : decode cX10_hiddenAfter 36 = .ok (.isub, 1) := by decide +kernel
theorem dX10_hiddenAfter_37 : decode cX10_hiddenAfter 37 = .ok (.iadd, 1) := by decide +kernel
theorem dX10_hiddenAfter_38 : decode cX10_hiddenAfter 38 = .ok (.istore_n 2, 1) := by decide +kernel
theorem dX10_hiddenAfter_39 : decode cX10_hiddenAfter 39 = .ok (.iinc 3 1, 3) := by decide +kernel
theorem dX10_hiddenAfter_42 : decode cX10_hiddenAfter 42 = .ok (.goto (-38), 3) := by decide +kernel
theorem dX10_hiddenAfter_45 : decode cX10_hiddenAfter 45 = .ok (.iload_n 2, 1) := by decide +kernel
theorem dX10_hiddenAfter_46 : decode cX10_hiddenAfter 46 = .ok (.ireturn, 1) := by decide +kernel
theorem dX10_addLoose_0 : decode cX10_addLoose 0 = .ok (.iload 4, 2) := by decide +kernel
theorem dX10_addLoose_2 : decode cX10_addLoose 2 = .ok (.ifCond .ne 4, 3) := by decide +kernel
theorem dX10_addLoose_5 : decode cX10_addLoose 5 = .ok (.return_, 1) := by decide +kernel
theorem dX10_addLoose_6 : decode cX10_addLoose 6 = .ok (.aload_n 0, 1) := by decide +kernel
theorem dX10_addLoose_7 : decode cX10_addLoose 7 = .ok (.iload_n 1, 1) := by decide +kernel
theorem dX10_addLoose_8 : decode cX10_addLoose 8 = .ok (.iload_n 2, 1) := by decide +kernel
theorem dX10_addLoose_9 : decode cX10_addLoose 9 = .ok (.iload_n 3, 1) := by decide +kernel
theorem dX10_addLoose_10 : decode cX10_addLoose 10 = .ok (.invokevirtual 182, 3) := by decide +kernel
theorem dX10_addLoose_13 : decode cX10_addLoose 13 = .ok (.istore 6, 2) := by decide +kernel
theorem dX10_addLoose_15 : decode cX10_addLoose 15 = .ok (.iload 6, 2) := by decide +kernel
theorem dX10_addLoose_17 : decode cX10_addLoose 17 = .ok (.iconst (-1), 1) := by decide +kernel
theorem dX10_addLoose_18 : decode cX10_addLoose 18 = .ok (.if_icmp .ne 44, 3) := by decide +kernel
theorem dX10_addLoose_21 : decode cX10_addLoose 21 = .ok (.aload_n 0, 1) := by decide +kernel
theorem dX10_addLoose_22 : decode cX10_addLoose 22 = .ok (.getfield 75, 3) := by decide +kernel
theorem dX10_addLoose_25 : decode cX10_addLoose 25 = .ok (.aload_n 0, 1) := by decide +kernel
theorem dX10_addLoose_26 : decode cX10_addLoose 26 = .ok (.getfield 31, 3) := by decide +kernel
theorem dX10_addLoose_29 : decode cX10_addLoose 29 = .ok (.arraylength, 1) := by decide +kernel
theorem dX10_addLoose_30 : decode cX10_addLoose 30 = .ok (.if_icmp .ge 32, 3) := by decide +kernel
theorem dX10_addLoose_33 : decode cX10_addLoose 33 = .ok (.aload_n 0, 1) := by decide +kernel
theorem dX10_addLoose_34 : decode cX10_addLoose 34 = .ok (.getfield 75, 3) := by decide +kernel
theorem dX10_addLoose_37 : decode cX10_addLoose 37 = .ok (.istore 6, 2) := by decide +kernel
theorem dX10_addLoose_39 : decode cX10_addLoose 39 = .ok (.aload_n 0, 1) := by decide +kernel
theorem dX10_addLoose_40 : decode cX10_addLoose 40 = .ok (.dup, 1) := by decide +kernel
theorem dX10_addLoose_41 : decode cX10_addLoose 41 = .ok (.getfield 75, 3) := by decide +kernel
theorem dX10_addLoose_44 : decode cX10_addLoose 44 = .ok (.iconst 1, 1) := by decide +kernel
theorem dX10_addLoose_45 : decode cX10_addLoose 45 = .ok (.iadd, 1) := by decide +kernel
theorem dX10_addLoose_46 : decode cX10_addLoose 46 = .ok (.putfield 75, 3) := by decide +kernel
theorem dX10_addLoose_49 : decode cX10_addLoose 49 = .ok (.aload_n 0, 1) := by decide +kernel
theorem dX10_addLoose_50 : decode cX10_addLoose 50 = .ok (.getfield 31, 3) := by decide +kernel
theorem dX10_addLoose_53 : decode cX10_addLoose 53 = .ok (.iload 6, 2) := by decide +kernel
theorem dX10_addLoose_55 : decode cX10_addLoose 55 = .ok (.aaload, 1) := by decide +kernel
theorem dX10_addLoose_56 : decode cX10_addLoose 56 = .ok (.iload_n 1, 1) := by decide +kernel
theorem dX10_addLoose_57 : decode cX10_addLoose 57 = .ok (.iload_n 2, 1) := by decide +kernel
theorem dX10_addLoose_58 : decode cX10_addLoose 58 = .ok (.iload_n 3, 1) := by decide +kernel
theorem dX10_addLoose_59 : decode cX10_addLoose 59 = .ok (.invokevirtual 186, 3) := by decide +kernel
theorem dX10_addLoose_62 : decode cX10_addLoose 62 = .ok (.aload_n 0, 1) := by decide +kernel
theorem dX10_addLoose_63 : decode cX10_addLoose 63 = .ok (.iload 6, 2) := by decide +kernel
theorem dX10_addLoose_65 : decode cX10_addLoose 65 = .ok (.invokevirtual 189, 3) := by decide +kernel
theorem dX10_addLoose_68 : decode cX10_addLoose 68 = .ok (.ifCond .eq 37, 3) := by decide +kernel
theorem dX10_addLoose_71 : decode cX10_addLoose 71 = .ok (.aload_n 0, 1) := by decide +kernel
theorem dX10_addLoose_72 : decode cX10_addLoose 72 = .ok (.getfield 31, 3) := by decide +kernel
theorem dX10_addLoose_75 : decode cX10_addLoose 75 = .ok (.iload 6, 2) := by decide +kernel
theorem dX10_addLoose_77 : decode cX10_addLoose 77 = .ok (.aaload, 1) := by decide +kernel
theorem dX10_addLoose_78 : decode cX10_addLoose 78 = .ok (.dup, 1) := by decide +kernel
theorem dX10_addLoose_79 : decode cX10_addLoose 79 = .ok (.getfield 192, 3) := by decide +kernel
theorem dX10_addLoose_82 : decode cX10_addLoose 82 = .ok (.iload 4, 2) := by decide +kernel
theorem dX10_addLoose_84 : decode cX10_addLoose 84 = .ok (.iadd, 1) := by decide +kernel
theorem dX10_addLoose_85 : decode cX10_addLoose 85 = .ok (.putfield 192, 3) := by decide +kernel
theorem dX10_addLoose_88 : decode cX10_addLoose 88 = .ok (.aload_n 0, 1) := by decide +kernel
theorem dX10_addLoose_89 : decode cX10_addLoose 89 = .ok (.getfield 31, 3) := by decide +kernel
theorem dX10_addLoose_92 : decode cX10_addLoose 92 = .ok (.iload 6, 2) := by decide +kernel
theorem dX10_addLoose_94 : decode cX10_addLoose 94 = .ok (.aaload, 1) := by decide +kernel
theorem dX10_addLoose_95 : decode cX10_addLoose 95 = .ok (.dup, 1) := by decide +kernel
theorem dX10_addLoose_96 : decode cX10_addLoose 96 = .ok (.getfield 195, 3) := by decide +kernel
theorem dX10_addLoose_99 : decode cX10_addLoose 99 = .ok (.iload 5, 2) := by decide +kernel
theorem dX10_addLoose_101 : decode cX10_addLoose 101 = .ok (.iadd, 1) := by decide +kernel
theorem dX10_addLoose_102 : decode cX10_addLoose 102 = .ok (.putfield 195, 3) := by decide +kernel
theorem dX10_addLoose_105 : decode cX10_addLoose 105 = .ok (.return_, 1) := by decide +kernel
theorem dX10_indexOfLot_0 : decode cX10_indexOfLot 0 = .ok (.iconst 0, 1) := by decide +kernel
theorem dX10_indexOfLot_1 : decode cX10_indexOfLot 1 = .ok (.istore 4, 2) := by decide +kernel
theorem dX10_indexOfLot_3 : decode cX10_indexOfLot 3 = .ok (.iload 4, 2) := by decide +kernel
theorem dX10_indexOfLot_5 : decode cX10_indexOfLot 5 = .ok (.aload_n 0, 1) := by decide +kernel
theorem dX10_indexOfLot_6 : decode cX10_indexOfLot 6 = .ok (.getfield 75, 3) := by decide +kernel
theorem dX10_indexOfLot_9 : decode cX10_indexOfLot 9 = .ok (.if_icmp .ge 41, 3) := by decide +kernel
theorem dX10_indexOfLot_12 : decode cX10_indexOfLot 12 = .ok (.aload_n 0, 1) := by decide +kernel
theorem dX10_indexOfLot_13 : decode cX10_indexOfLot 13 = .ok (.getfield 31, 3) := by decide +kernel
theorem dX10_indexOfLot_16 : decode cX10_indexOfLot 16 = .ok (.iload 4, 2) := by decide +kernel
theorem dX10_indexOfLot_18 : decode cX10_indexOfLot 18 = .ok (.aaload, 1) := by decide +kernel
theorem dX10_indexOfLot_19 : decode cX10_indexOfLot 19 = .ok (.iload_n 1, 1) := by decide +kernel
theorem dX10_indexOfLot_20 : decode cX10_indexOfLot 20 = .ok (.iload_n 3, 1) := by decide +kernel
theorem dX10_indexOfLot_21 : decode cX10_indexOfLot 21 = .ok (.invokevirtual 196, 3) := by decide +kernel
theorem dX10_indexOfLot_24 : decode cX10_indexOfLot 24 = .ok (.ifCond .eq 20, 3) := by decide +kernel
theorem dX10_indexOfLot_27 : decode cX10_indexOfLot 27 = .ok (.aload_n 0, 1) := by decide +kernel
theorem dX10_indexOfLot_28 : decode cX10_indexOfLot 28 = .ok (.getfield 31, 3) := by decide +kernel
