theorem dX10_indexOfLot_31 : decode cX10_indexOfLot 31 = .ok (.iload 4, 2) := by decide +kernel
theorem dX10_indexOfLot_33 : decode cX10_indexOfLot 33 = .ok (.aaload, 1) := by decide +kernel
theorem dX10_indexOfLot_34 : decode cX10_indexOfLot 34 = .ok (.getfield 197, 3) := by decide +kernel
theorem dX10_indexOfLot_37 : decode cX10_indexOfLot 37 = .ok (.iload_n 2, 1) := by decide +kernel
theorem dX10_indexOfLot_38 : decode cX10_indexOfLot 38 = .ok (.if_icmp .ne 6, 3) := by decide +kernel
theorem dX10_indexOfLot_41 : decode cX10_indexOfLot 41 = .ok (.iload 4, 2) := by decide +kernel
theorem dX10_indexOfLot_43 : decode cX10_indexOfLot 43 = .ok (.ireturn, 1) := by decide +kernel
theorem dX10_indexOfLot_44 : decode cX10_indexOfLot 44 = .ok (.iinc 4 1, 3) := by decide +kernel
theorem dX10_indexOfLot_47 : decode cX10_indexOfLot 47 = .ok (.goto (-44), 3) := by decide +kernel
theorem dX10_indexOfLot_50 : decode cX10_indexOfLot 50 = .ok (.iconst (-1), 1) := by decide +kernel
theorem dX10_indexOfLot_51 : decode cX10_indexOfLot 51 = .ok (.ireturn, 1) := by decide +kernel
theorem dX10_hasLot_0 : decode cX10_hasLot 0 = .ok (.iload_n 1, 1) := by decide +kernel
theorem dX10_hasLot_1 : decode cX10_hasLot 1 = .ok (.ifCond .lt 24, 3) := by decide +kernel
theorem dX10_hasLot_4 : decode cX10_hasLot 4 = .ok (.iload_n 1, 1) := by decide +kernel
theorem dX10_hasLot_5 : decode cX10_hasLot 5 = .ok (.aload_n 0, 1) := by decide +kernel
theorem dX10_hasLot_6 : decode cX10_hasLot 6 = .ok (.getfield 75, 3) := by decide +kernel
theorem dX10_hasLot_9 : decode cX10_hasLot 9 = .ok (.if_icmp .ge 16, 3) := by decide +kernel
theorem dX10_hasLot_12 : decode cX10_hasLot 12 = .ok (.iload_n 1, 1) := by decide +kernel
theorem dX10_hasLot_13 : decode cX10_hasLot 13 = .ok (.aload_n 0, 1) := by decide +kernel
theorem dX10_hasLot_14 : decode cX10_hasLot 14 = .ok (.getfield 31, 3) := by decide +kernel
theorem dX10_hasLot_17 : decode cX10_hasLot 17 = .ok (.arraylength, 1) := by decide +kernel
theorem dX10_hasLot_18 : decode cX10_hasLot 18 = .ok (.if_icmp .ge 7, 3) := by decide +kernel
theorem dX10_hasLot_21 : decode cX10_hasLot 21 = .ok (.iconst 1, 1) := by decide +kernel
theorem dX10_hasLot_22 : decode cX10_hasLot 22 = .ok (.goto 4, 3) := by decide +kernel
theorem dX10_hasLot_25 : decode cX10_hasLot 25 = .ok (.iconst 0, 1) := by decide +kernel
theorem dX10_hasLot_26 : decode cX10_hasLot 26 = .ok (.ireturn, 1) := by decide +kernel
theorem dX10_contentOf_0 : decode cX10_contentOf 0 = .ok (.iconst 0, 1) := by decide +kernel
theorem dX10_contentOf_1 : decode cX10_contentOf 1 = .ok (.istore_n 3, 1) := by decide +kernel
theorem dX10_contentOf_2 : decode cX10_contentOf 2 = .ok (.iconst 0, 1) := by decide +kernel
theorem dX10_contentOf_3 : decode cX10_contentOf 3 = .ok (.istore 4, 2) := by decide +kernel
theorem dX10_contentOf_5 : decode cX10_contentOf 5 = .ok (.iload 4, 2) := by decide +kernel
theorem dX10_contentOf_7 : decode cX10_contentOf 7 = .ok (.aload_n 0, 1) := by decide +kernel
theorem dX10_contentOf_8 : decode cX10_contentOf 8 = .ok (.getfield 75, 3) := by decide +kernel
theorem dX10_contentOf_11 : decode cX10_contentOf 11 = .ok (.if_icmp .ge 41, 3) := by decide +kernel
theorem dX10_contentOf_14 : decode cX10_contentOf 14 = .ok (.aload_n 0, 1) := by decide +kernel
theorem dX10_contentOf_15 : decode cX10_contentOf 15 = .ok (.getfield 31, 3) := by decide +kernel
theorem dX10_contentOf_18 : decode cX10_contentOf 18 = .ok (.iload 4, 2) := by decide +kernel
theorem dX10_contentOf_20 : decode cX10_contentOf 20 = .ok (.aaload, 1) := by decide +kernel
theorem dX10_contentOf_21 : decode cX10_contentOf 21 = .ok (.iload_n 1, 1) := by decide +kernel
theorem dX10_contentOf_22 : decode cX10_contentOf 22 = .ok (.iload_n 2, 1) := by decide +kernel
theorem dX10_contentOf_23 : decode cX10_contentOf 23 = .ok (.invokevirtual 196, 3) := by decide +kernel
theorem dX10_contentOf_26 : decode cX10_contentOf 26 = .ok (.ifCond .eq 20, 3) := by decide +kernel
theorem dX10_contentOf_29 : decode cX10_contentOf 29 = .ok (.iload_n 3, 1) := by decide +kernel
theorem dX10_contentOf_30 : decode cX10_contentOf 30 = .ok (.aload_n 0, 1) := by decide +kernel
theorem dX10_contentOf_31 : decode cX10_contentOf 31 = .ok (.getfield 31, 3) := by decide +kernel
theorem dX10_contentOf_34 : decode cX10_contentOf 34 = .ok (.iload 4, 2) := by decide +kernel
theorem dX10_contentOf_36 : decode cX10_contentOf 36 = .ok (.aaload, 1) := by decide +kernel
theorem dX10_contentOf_37 : decode cX10_contentOf 37 = .ok (.aload_n 0, 1) := by decide +kernel
theorem dX10_contentOf_38 : decode cX10_contentOf 38 = .ok (.getfield 52, 3) := by decide +kernel
theorem dX10_contentOf_41 : decode cX10_contentOf 41 = .ok (.invokevirtual 199, 3) := by decide +kernel
theorem dX10_contentOf_44 : decode cX10_contentOf 44 = .ok (.iadd, 1) := by decide +kernel
theorem dX10_contentOf_45 : decode cX10_contentOf 45 = .ok (.istore_n 3, 1) := by decide +kernel
theorem dX10_contentOf_46 : decode cX10_contentOf 46 = .ok (.iinc 4 1, 3) := by decide +kernel
theorem dX10_contentOf_49 : decode cX10_contentOf 49 = .ok (.goto (-44), 3) := by decide +kernel
theorem dX10_contentOf_52 : decode cX10_contentOf 52 = .ok (.iload_n 3, 1) := by decide +kernel
theorem dX10_contentOf_53 : decode cX10_contentOf 53 = .ok (.ireturn, 1) := by decide +kernel
theorem dX10_packLots_0 : decode cX10_packLots 0 = .ok (.iconst 0, 1) := by decide +kernel
theorem dX10_packLots_1 : decode cX10_packLots 1 = .ok (.istore_n 1, 1) := by decide +kernel
theorem dX10_packLots_2 : decode cX10_packLots 2 = .ok (.iconst 0, 1) := by decide +kernel
theorem dX10_packLots_3 : decode cX10_packLots 3 = .ok (.istore_n 2, 1) := by decide +kernel
theorem dX10_packLots_4 : decode cX10_packLots 4 = .ok (.iload_n 2, 1) := by decide +kernel
theorem dX10_packLots_5 : decode cX10_packLots 5 = .ok (.aload_n 0, 1) := by decide +kernel
theorem dX10_packLots_6 : decode cX10_packLots 6 = .ok (.getfield 75, 3) := by decide +kernel
theorem dX10_packLots_9 : decode cX10_packLots 9 = .ok (.if_icmp .ge 25, 3) := by decide +kernel
theorem dX10_packLots_12 : decode cX10_packLots 12 = .ok (.iload_n 1, 1) := by decide +kernel
theorem dX10_packLots_13 : decode cX10_packLots 13 = .ok (.aload_n 0, 1) := by decide +kernel
theorem dX10_packLots_14 : decode cX10_packLots 14 = .ok (.getfield 31, 3) := by decide +kernel
theorem dX10_packLots_17 : decode cX10_packLots 17 = .ok (.iload_n 2, 1) := by decide +kernel
theorem dX10_packLots_18 : decode cX10_packLots 18 = .ok (.aaload, 1) := by decide +kernel
theorem dX10_packLots_19 : decode cX10_packLots 19 = .ok (.aload_n 0, 1) := by decide +kernel
theorem dX10_packLots_20 : decode cX10_packLots 20 = .ok (.getfield 52, 3) := by decide +kernel
theorem dX10_packLots_23 : decode cX10_packLots 23 = .ok (.invokevirtual 202, 3) := by decide +kernel
theorem dX10_packLots_26 : decode cX10_packLots 26 = .ok (.iadd, 1) := by decide +kernel
theorem dX10_packLots_27 : decode cX10_packLots 27 = .ok (.istore_n 1, 1) := by decide +kernel
theorem dX10_packLots_28 : decode cX10_packLots 28 = .ok (.iinc 2 1, 3) := by decide +kernel
theorem dX10_packLots_31 : decode cX10_packLots 31 = .ok (.goto (-27), 3) := by decide +kernel
theorem dX10_packLots_34 : decode cX10_packLots 34 = .ok (.iload_n 1, 1) := by decide +kernel
theorem dX10_packLots_35 : decode cX10_packLots 35 = .ok (.ireturn, 1) := by decide +kernel
theorem dX10_fullestLots_0 : decode cX10_fullestLots 0 = .ok (.iconst 3, 1) := by decide +kernel
theorem dX10_fullestLots_1 : decode cX10_fullestLots 1 = .ok (.newarray .int, 2) := by decide +kernel
theorem dX10_fullestLots_3 : decode cX10_fullestLots 3 = .ok (.astore_n 3, 1) := by decide +kernel
theorem dX10_fullestLots_4 : decode cX10_fullestLots 4 = .ok (.iconst 0, 1) := by decide +kernel
theorem dX10_fullestLots_5 : decode cX10_fullestLots 5 = .ok (.istore 4, 2) := by decide +kernel
theorem dX10_fullestLots_7 : decode cX10_fullestLots 7 = .ok (.iload 4, 2) := by decide +kernel
theorem dX10_fullestLots_9 : decode cX10_fullestLots 9 = .ok (.aload_n 0, 1) := by decide +kernel
theorem dX10_fullestLots_10 : decode cX10_fullestLots 10 = .ok (.getfield 75, 3) := by decide +kernel
theorem dX10_fullestLots_13 : decode cX10_fullestLots 13 = .ok (.if_icmp .ge 38, 3) := by decide +kernel
theorem dX10_fullestLots_16 : decode cX10_fullestLots 16 = .ok (.aload_n 0, 1) := by decide +kernel
theorem dX10_fullestLots_17 : decode cX10_fullestLots 17 = .ok (.getfield 31, 3) := by decide +kernel
theorem dX10_fullestLots_20 : decode cX10_fullestLots 20 = .ok (.iload 4, 2) := by decide +kernel
theorem dX10_fullestLots_22 : decode cX10_fullestLots 22 = .ok (.aaload, 1) := by decide +kernel
theorem dX10_fullestLots_23 : decode cX10_fullestLots 23 = .ok (.iload_n 1, 1) := by decide +kernel
theorem dX10_fullestLots_24 : decode cX10_fullestLots 24 = .ok (.iload_n 2, 1) := by decide +kernel
theorem dX10_fullestLots_25 : decode cX10_fullestLots 25 = .ok (.invokevirtual 196, 3) := by decide +kernel
theorem dX10_fullestLots_28 : decode cX10_fullestLots 28 = .ok (.ifCond .eq 17, 3) := by decide +kernel
theorem dX10_fullestLots_31 : decode cX10_fullestLots 31 = .ok (.aload_n 3, 1) := by decide +kernel
theorem dX10_fullestLots_32 : decode cX10_fullestLots 32 = .ok (.aload_n 0, 1) := by decide +kernel
theorem dX10_fullestLots_33 : decode cX10_fullestLots 33 = .ok (.getfield 31, 3) := by decide +kernel
theorem dX10_fullestLots_36 : decode cX10_fullestLots 36 = .ok (.iload 4, 2) := by decide +kernel
theorem dX10_fullestLots_38 : decode cX10_fullestLots 38 = .ok (.aaload, 1) := by decide +kernel
theorem dX10_fullestLots_39 : decode cX10_fullestLots 39 = .ok (.getfield 205, 3) := by decide +kernel
theorem dX10_fullestLots_42 : decode cX10_fullestLots 42 = .ok (.invokestatic 208, 3) := by decide +kernel
theorem dX10_fullestLots_45 : decode cX10_fullestLots 45 = .ok (.iinc 4 1, 3) := by decide +kernel
theorem dX10_fullestLots_48 : decode cX10_fullestLots 48 = .ok (.goto (-41), 3) := by decide +kernel
theorem dX10_fullestLots_51 : decode cX10_fullestLots 51 = .ok (.aload_n 3, 1) := by decide +kernel
theorem dX10_fullestLots_52 : decode cX10_fullestLots 52 = .ok (.areturn, 1) := by decide +kernel
theorem dX10_insert_0 : decode cX10_insert 0 = .ok (.iload_n 1, 1) := by decide +kernel
theorem dX10_insert_1 : decode cX10_insert 1 = .ok (.istore_n 2, 1) := by decide +kernel
theorem dX10_insert_2 : decode cX10_insert 2 = .ok (.iconst 0, 1) := by decide +kernel
theorem dX10_insert_3 : decode cX10_insert 3 = .ok (.istore_n 3, 1) := by decide +kernel
theorem dX10_insert_4 : decode cX10_insert 4 = .ok (.iload_n 3, 1) := by decide +kernel
theorem dX10_insert_5 : decode cX10_insert 5 = .ok (.aload_n 0, 1) := by decide +kernel
theorem dX10_insert_6 : decode cX10_insert 6 = .ok (.arraylength, 1) := by decide +kernel
theorem dX10_insert_7 : decode cX10_insert 7 = .ok (.if_icmp .ge 28, 3) := by decide +kernel
theorem dX10_insert_10 : decode cX10_insert 10 = .ok (.iload_n 2, 1) := by decide +kernel
theorem dX10_insert_11 : decode cX10_insert 11 = .ok (.aload_n 0, 1) := by decide +kernel
theorem dX10_insert_12 : decode cX10_insert 12 = .ok (.iload_n 3, 1) := by decide +kernel
theorem dX10_insert_13 : decode cX10_insert 13 = .ok (.iaload, 1) := by decide +kernel
theorem dX10_insert_14 : decode cX10_insert 14 = .ok (.if_icmp .le 15, 3) := by decide +kernel
theorem dX10_insert_17 : decode cX10_insert 17 = .ok (.aload_n 0, 1) := by decide +kernel
theorem dX10_insert_18 : decode cX10_insert 18 = .ok (.iload_n 3, 1) := by decide +kernel
theorem dX10_insert_19 : decode cX10_insert 19 = .ok (.iaload, 1) := by decide +kernel
theorem dX10_insert_20 : decode cX10_insert 20 = .ok (.istore 4, 2) := by decide +kernel
theorem dX10_insert_22 : decode cX10_insert 22 = .ok (.aload_n 0, 1) := by decide +kernel
theorem dX10_insert_23 : decode cX10_insert 23 = .ok (.iload_n 3, 1) := by decide +kernel
theorem dX10_insert_24 : decode cX10_insert 24 = .ok (.iload_n 2, 1) := by decide +kernel
theorem dX10_insert_25 : decode cX10_insert 25 = .ok (.iastore, 1) := by decide +kernel
theorem dX10_insert_26 : decode cX10_insert 26 = .ok (.iload 4, 2) := by decide +kernel
theorem dX10_insert_28 : decode cX10_insert 28 = .ok (.istore_n 2, 1) := by decide +kernel
theorem dX10_insert_29 : decode cX10_insert 29 = .ok (.iinc 3 1, 3) := by decide +kernel
theorem dX10_insert_32 : decode cX10_insert 32 = .ok (.goto (-28), 3) := by decide +kernel
theorem dX10_insert_35 : decode cX10_insert 35 = .ok (.return_, 1) := by decide +kernel
theorem dX10_hasDelivery_0 : decode cX10_hasDelivery 0 = .ok (.iload_n 1, 1) := by decide +kernel
theorem dX10_hasDelivery_1 : decode cX10_hasDelivery 1 = .ok (.ifCond .lt 24, 3) := by decide +kernel
theorem dX10_hasDelivery_4 : decode cX10_hasDelivery 4 = .ok (.iload_n 1, 1) := by decide +kernel
theorem dX10_hasDelivery_5 : decode cX10_hasDelivery 5 = .ok (.aload_n 0, 1) := by decide +kernel
theorem dX10_hasDelivery_6 : decode cX10_hasDelivery 6 = .ok (.getfield 81, 3) := by decide +kernel
theorem dX10_hasDelivery_9 : decode cX10_hasDelivery 9 = .ok (.if_icmp .ge 16, 3) := by decide +kernel
theorem dX10_hasDelivery_12 : decode cX10_hasDelivery 12 = .ok (.iload_n 1, 1) := by decide +kernel
theorem dX10_hasDelivery_13 : decode cX10_hasDelivery 13 = .ok (.aload_n 0, 1) := by decide +kernel
theorem dX10_hasDelivery_14 : decode cX10_hasDelivery 14 = .ok (.getfield 37, 3) := by decide +kernel
theorem dX10_hasDelivery_17 : decode cX10_hasDelivery 17 = .ok (.arraylength, 1) := by decide +kernel
theorem dX10_hasDelivery_18 : decode cX10_hasDelivery 18 = .ok (.if_icmp .ge 7, 3) := by decide +kernel
theorem dX10_hasDelivery_21 : decode cX10_hasDelivery 21 = .ok (.iconst 1, 1) := by decide +kernel
theorem dX10_hasDelivery_22 : decode cX10_hasDelivery 22 = .ok (.goto 4, 3) := by decide +kernel
theorem dX10_hasDelivery_25 : decode cX10_hasDelivery 25 = .ok (.iconst 0, 1) := by decide +kernel
theorem dX10_hasDelivery_26 : decode cX10_hasDelivery 26 = .ok (.ireturn, 1) := by decide +kernel
theorem dX10_faultOfDelivery_0 : decode cX10_faultOfDelivery 0 = .ok (.iload_n 1, 1) := by decide +kernel
theorem dX10_faultOfDelivery_1 : decode cX10_faultOfDelivery 1 = .ok (.invokestatic 103, 3) := by decide +kernel
theorem dX10_faultOfDelivery_4 : decode cX10_faultOfDelivery 4 = .ok (.ifCond .ne 7, 3) := by decide +kernel
theorem dX10_faultOfDelivery_7 : decode cX10_faultOfDelivery 7 = .ok (.getstatic 106, 3) := by decide +kernel
theorem dX10_faultOfDelivery_10 : decode cX10_faultOfDelivery 10 = .ok (.areturn, 1) := by decide +kernel
theorem dX10_faultOfDelivery_11 : decode cX10_faultOfDelivery 11 = .ok (.iload_n 2, 1) := by decide +kernel
theorem dX10_faultOfDelivery_12 : decode cX10_faultOfDelivery 12 = .ok (.invokestatic 212, 3) := by decide +kernel
theorem dX10_faultOfDelivery_15 : decode cX10_faultOfDelivery 15 = .ok (.ifCond .eq 10, 3) := by decide +kernel
theorem dX10_faultOfDelivery_18 : decode cX10_faultOfDelivery 18 = .ok (.iload_n 3, 1) := by decide +kernel
theorem dX10_faultOfDelivery_19 : decode cX10_faultOfDelivery 19 = .ok (.invokestatic 215, 3) := by decide +kernel
theorem dX10_faultOfDelivery_22 : decode cX10_faultOfDelivery 22 = .ok (.ifCond .ne 7, 3) := by decide +kernel
theorem dX10_faultOfDelivery_25 : decode cX10_faultOfDelivery 25 = .ok (.getstatic 119, 3) := by decide +kernel
theorem dX10_faultOfDelivery_28 : decode cX10_faultOfDelivery 28 = .ok (.areturn, 1) := by decide +kernel
theorem dX10_faultOfDelivery_29 : decode cX10_faultOfDelivery 29 = .ok (.aload_n 0, 1) := by decide +kernel
theorem dX10_faultOfDelivery_30 : decode cX10_faultOfDelivery 30 = .ok (.getfield 81, 3) := by decide +kernel
theorem dX10_faultOfDelivery_33 : decode cX10_faultOfDelivery 33 = .ok (.bipush 40, 2) := by decide +kernel
theorem dX10_faultOfDelivery_35 : decode cX10_faultOfDelivery 35 = .ok (.if_icmp .ge 7, 3) := by decide +kernel
theorem dX10_faultOfDelivery_38 : decode cX10_faultOfDelivery 38 = .ok (.iconst 1, 1) := by decide +kernel
theorem dX10_faultOfDelivery_39 : decode cX10_faultOfDelivery 39 = .ok (.goto 4, 3) := by decide +kernel
theorem dX10_faultOfDelivery_42 : decode cX10_faultOfDelivery 42 = .ok (.iconst 0, 1) := by decide +kernel
theorem dX10_faultOfDelivery_43 : decode cX10_faultOfDelivery 43 = .ok (.istore 4, 2) := by decide +kernel
theorem dX10_faultOfDelivery_45 : decode cX10_faultOfDelivery 45 = .ok (.iload 4, 2) := by decide +kernel
theorem dX10_faultOfDelivery_47 : decode cX10_faultOfDelivery 47 = .ok (.ifCond .eq 20, 3) := by decide +kernel
theorem dX10_faultOfDelivery_50 : decode cX10_faultOfDelivery 50 = .ok (.aload_n 0, 1) := by decide +kernel
theorem dX10_faultOfDelivery_51 : decode cX10_faultOfDelivery 51 = .ok (.iload_n 1, 1) := by decide +kernel
theorem dX10_faultOfDelivery_52 : decode cX10_faultOfDelivery 52 = .ok (.iload_n 2, 1) := by decide +kernel
theorem dX10_faultOfDelivery_53 : decode cX10_faultOfDelivery 53 = .ok (.iload_n 3, 1) := by decide +kernel
theorem dX10_faultOfDelivery_54 : decode cX10_faultOfDelivery 54 = .ok (.invokevirtual 218, 3) := by decide +kernel
theorem dX10_faultOfDelivery_57 : decode cX10_faultOfDelivery 57 = .ok (.iconst (-1), 1) := by decide +kernel
theorem dX10_faultOfDelivery_58 : decode cX10_faultOfDelivery 58 = .ok (.if_icmp .eq 9, 3) := by decide +kernel
theorem dX10_faultOfDelivery_61 : decode cX10_faultOfDelivery 61 = .ok (.getstatic 122, 3) := by decide +kernel
theorem dX10_faultOfDelivery_64 : decode cX10_faultOfDelivery 64 = .ok (.goto 6, 3) := by decide +kernel
theorem dX10_faultOfDelivery_67 : decode cX10_faultOfDelivery 67 = .ok (.getstatic 125, 3) := by decide +kernel
theorem dX10_faultOfDelivery_70 : decode cX10_faultOfDelivery 70 = .ok (.areturn, 1) := by decide +kernel
theorem dX10_lotToDeliver_0 : decode cX10_lotToDeliver 0 = .ok (.iconst (-1), 1) := by decide +kernel
theorem dX10_lotToDeliver_1 : decode cX10_lotToDeliver 1 = .ok (.istore 4, 2) := by decide +kernel
theorem dX10_lotToDeliver_3 : decode cX10_lotToDeliver 3 = .ok (.iconst 0, 1) := by decide +kernel
theorem dX10_lotToDeliver_4 : decode cX10_lotToDeliver 4 = .ok (.istore 5, 2) := by decide +kernel
theorem dX10_lotToDeliver_6 : decode cX10_lotToDeliver 6 = .ok (.iload 5, 2) := by decide +kernel
theorem dX10_lotToDeliver_8 : decode cX10_lotToDeliver 8 = .ok (.aload_n 0, 1) := by decide +kernel
theorem dX10_lotToDeliver_9 : decode cX10_lotToDeliver 9 = .ok (.getfield 75, 3) := by decide +kernel
theorem dX10_lotToDeliver_12 : decode cX10_lotToDeliver 12 = .ok (.if_icmp .ge 77, 3) := by decide +kernel
theorem dX10_lotToDeliver_15 : decode cX10_lotToDeliver 15 = .ok (.aload_n 0, 1) := by decide +kernel
theorem dX10_lotToDeliver_16 : decode cX10_lotToDeliver 16 = .ok (.getfield 31, 3) := by decide +kernel
theorem dX10_lotToDeliver_19 : decode cX10_lotToDeliver 19 = .ok (.iload 5, 2) := by decide +kernel
theorem dX10_lotToDeliver_21 : decode cX10_lotToDeliver 21 = .ok (.aaload, 1) := by decide +kernel
theorem dX10_lotToDeliver_22 : decode cX10_lotToDeliver 22 = .ok (.astore 6, 2) := by decide +kernel
theorem dX10_lotToDeliver_24 : decode cX10_lotToDeliver 24 = .ok (.aload 6, 2) := by decide +kernel
theorem dX10_lotToDeliver_26 : decode cX10_lotToDeliver 26 = .ok (.iload_n 1, 1) := by decide +kernel
theorem dX10_lotToDeliver_27 : decode cX10_lotToDeliver 27 = .ok (.iload_n 2, 1) := by decide +kernel
theorem dX10_lotToDeliver_28 : decode cX10_lotToDeliver 28 = .ok (.invokevirtual 196, 3) := by decide +kernel
theorem dX10_lotToDeliver_31 : decode cX10_lotToDeliver 31 = .ok (.ifCond .eq 16, 3) := by decide +kernel
theorem dX10_lotToDeliver_34 : decode cX10_lotToDeliver 34 = .ok (.aload 6, 2) := by decide +kernel
theorem dX10_lotToDeliver_36 : decode cX10_lotToDeliver 36 = .ok (.getfield 205, 3) := by decide +kernel
theorem dX10_lotToDeliver_39 : decode cX10_lotToDeliver 39 = .ok (.iload_n 3, 1) := by decide +kernel
theorem dX10_lotToDeliver_40 : decode cX10_lotToDeliver 40 = .ok (.if_icmp .lt 7, 3) := by decide +kernel
theorem dX10_lotToDeliver_43 : decode cX10_lotToDeliver 43 = .ok (.iconst 1, 1) := by decide +kernel
theorem dX10_lotToDeliver_44 : decode cX10_lotToDeliver 44 = .ok (.goto 4, 3) := by decide +kernel
theorem dX10_lotToDeliver_47 : decode cX10_lotToDeliver 47 = .ok (.iconst 0, 1) := by decide +kernel
theorem dX10_lotToDeliver_48 : decode cX10_lotToDeliver 48 = .ok (.istore 7, 2) := by decide +kernel
theorem dX10_lotToDeliver_50 : decode cX10_lotToDeliver 50 = .ok (.iload 7, 2) := by decide +kernel
theorem dX10_lotToDeliver_52 : decode cX10_lotToDeliver 52 = .ok (.ifCond .eq 31, 3) := by decide +kernel
theorem dX10_lotToDeliver_55 : decode cX10_lotToDeliver 55 = .ok (.aload_n 0, 1) := by decide +kernel
theorem dX10_lotToDeliver_56 : decode cX10_lotToDeliver 56 = .ok (.iload 4, 2) := by decide +kernel
theorem dX10_lotToDeliver_58 : decode cX10_lotToDeliver 58 = .ok (.invokevirtual 189, 3) := by decide +kernel
theorem dX10_lotToDeliver_61 : decode cX10_lotToDeliver 61 = .ok (.ifCond .eq 18, 3) := by decide +kernel
theorem dX10_lotToDeliver_64 : decode cX10_lotToDeliver 64 = .ok (.aload 6, 2) := by decide +kernel
theorem dX10_lotToDeliver_66 : decode cX10_lotToDeliver 66 = .ok (.aload_n 0, 1) := by decide +kernel
theorem dX10_lotToDeliver_67 : decode cX10_lotToDeliver 67 = .ok (.getfield 31, 3) := by decide +kernel
theorem dX10_lotToDeliver_70 : decode cX10_lotToDeliver 70 = .ok (.iload 4, 2) := by decide +kernel
theorem dX10_lotToDeliver_72 : decode cX10_lotToDeliver 72 = .ok (.aaload, 1) := by decide +kernel
theorem dX10_lotToDeliver_73 : decode cX10_lotToDeliver 73 = .ok (.invokestatic 221, 3) := by decide +kernel
theorem dX10_lotToDeliver_76 : decode cX10_lotToDeliver 76 = .ok (.ifCond .eq 7, 3) := by decide +kernel
theorem dX10_lotToDeliver_79 : decode cX10_lotToDeliver 79 = .ok (.iload 5, 2) := by decide +kernel
theorem dX10_lotToDeliver_81 : decode cX10_lotToDeliver 81 = .ok (.istore 4, 2) := by decide +kernel
theorem dX10_lotToDeliver_83 : decode cX10_lotToDeliver 83 = .ok (.iinc 5 1, 3) := by decide +kernel
theorem dX10_lotToDeliver_86 : decode cX10_lotToDeliver 86 = .ok (.goto (-80), 3) := by decide +kernel
theorem dX10_lotToDeliver_89 : decode cX10_lotToDeliver 89 = .ok (.iload 4, 2) := by decide +kernel
theorem dX10_lotToDeliver_91 : decode cX10_lotToDeliver 91 = .ok (.ireturn, 1) := by decide +kernel
theorem dX10_isBetter_0 : decode cX10_isBetter 0 = .ok (.aload_n 0, 1) := by decide +kernel
theorem dX10_isBetter_1 : decode cX10_isBetter 1 = .ok (.getfield 205, 3) := by decide +kernel
theorem dX10_isBetter_4 : decode cX10_isBetter 4 = .ok (.aload_n 1, 1) := by decide +kernel
theorem dX10_isBetter_5 : decode cX10_isBetter 5 = .ok (.getfield 205, 3) := by decide +kernel
theorem dX10_isBetter_8 : decode cX10_isBetter 8 = .ok (.if_icmp .lt 25, 3) := by decide +kernel
theorem dX10_isBetter_11 : decode cX10_isBetter 11 = .ok (.aload_n 0, 1) := by decide +kernel
theorem dX10_isBetter_12 : decode cX10_isBetter 12 = .ok (.getfield 205, 3) := by decide +kernel
theorem dX10_isBetter_15 : decode cX10_isBetter 15 = .ok (.aload_n 1, 1) := by decide +kernel
theorem dX10_isBetter_16 : decode cX10_isBetter 16 = .ok (.getfield 205, 3) := by decide +kernel
theorem dX10_isBetter_19 : decode cX10_isBetter 19 = .ok (.if_icmp .ne 18, 3) := by decide +kernel
theorem dX10_isBetter_22 : decode cX10_isBetter 22 = .ok (.aload_n 0, 1) := by decide +kernel
theorem dX10_isBetter_23 : decode cX10_isBetter 23 = .ok (.getfield 197, 3) := by decide +kernel
theorem dX10_isBetter_26 : decode cX10_isBetter 26 = .ok (.aload_n 1, 1) := by decide +kernel
theorem dX10_isBetter_27 : decode cX10_isBetter 27 = .ok (.getfield 197, 3) := by decide +kernel
theorem dX10_isBetter_30 : decode cX10_isBetter 30 = .ok (.if_icmp .ge 7, 3) := by decide +kernel
theorem dX10_isBetter_33 : decode cX10_isBetter 33 = .ok (.iconst 1, 1) := by decide +kernel
theorem dX10_isBetter_34 : decode cX10_isBetter 34 = .ok (.goto 4, 3) := by decide +kernel
theorem dX10_isBetter_37 : decode cX10_isBetter 37 = .ok (.iconst 0, 1) := by decide +kernel
theorem dX10_isBetter_38 : decode cX10_isBetter 38 = .ok (.ireturn, 1) := by decide +kernel
theorem dX10_makeDelivery_0 : decode cX10_makeDelivery 0 = .ok (.aload_n 0, 1) := by decide +kernel
theorem dX10_makeDelivery_1 : decode cX10_makeDelivery 1 = .ok (.iload_n 1, 1) := by decide +kernel
theorem dX10_makeDelivery_2 : decode cX10_makeDelivery 2 = .ok (.iload_n 2, 1) := by decide +kernel
theorem dX10_makeDelivery_3 : decode cX10_makeDelivery 3 = .ok (.iload_n 3, 1) := by decide +kernel
theorem dX10_makeDelivery_4 : decode cX10_makeDelivery 4 = .ok (.invokevirtual 218, 3) := by decide +kernel
theorem dX10_makeDelivery_7 : decode cX10_makeDelivery 7 = .ok (.istore 4, 2) := by decide +kernel
theorem dX10_makeDelivery_9 : decode cX10_makeDelivery 9 = .ok (.iload_n 1, 1) := by decide +kernel
theorem dX10_makeDelivery_10 : decode cX10_makeDelivery 10 = .ok (.invokestatic 103, 3) := by decide +kernel
theorem dX10_makeDelivery_13 : decode cX10_makeDelivery 13 = .ok (.ifCond .eq 24, 3) := by decide +kernel
theorem dX10_makeDelivery_16 : decode cX10_makeDelivery 16 = .ok (.aload_n 0, 1) := by decide +kernel
theorem dX10_makeDelivery_17 : decode cX10_makeDelivery 17 = .ok (.iload 4, 2) := by decide +kernel
theorem dX10_makeDelivery_19 : decode cX10_makeDelivery 19 = .ok (.invokevirtual 189, 3) := by decide +kernel
theorem dX10_makeDelivery_22 : decode cX10_makeDelivery 22 = .ok (.ifCond .eq 15, 3) := by decide +kernel
theorem dX10_makeDelivery_25 : decode cX10_makeDelivery 25 = .ok (.aload_n 0, 1) := by decide +kernel
theorem dX10_makeDelivery_26 : decode cX10_makeDelivery 26 = .ok (.getfield 81, 3) := by decide +kernel
theorem dX10_makeDelivery_29 : decode cX10_makeDelivery 29 = .ok (.aload_n 0, 1) := by decide +kernel
theorem dX10_makeDelivery_30 : decode cX10_makeDelivery 30 = .ok (.getfield 37, 3) := by decide +kernel
theorem dX10_makeDelivery_33 : decode cX10_makeDelivery 33 = .ok (.arraylength, 1) := by decide +kernel
theorem dX10_makeDelivery_34 : decode cX10_makeDelivery 34 = .ok (.if_icmp .lt 5, 3) := by decide +kernel
theorem dX10_makeDelivery_37 : decode cX10_makeDelivery 37 = .ok (.iconst (-1), 1) := by decide +kernel
theorem dX10_makeDelivery_38 : decode cX10_makeDelivery 38 = .ok (.ireturn, 1) := by decide +kernel
theorem dX10_makeDelivery_39 : decode cX10_makeDelivery 39 = .ok (.aload_n 0, 1) := by decide +kernel
theorem dX10_makeDelivery_40 : decode cX10_makeDelivery 40 = .ok (.getfield 81, 3) := by decide +kernel
theorem dX10_makeDelivery_43 : decode cX10_makeDelivery 43 = .ok (.istore 5, 2) := by decide +kernel
theorem dX10_makeDelivery_45 : decode cX10_makeDelivery 45 = .ok (.aload_n 0, 1) := by decide +kernel
theorem dX10_makeDelivery_46 : decode cX10_makeDelivery 46 = .ok (.dup, 1) := by decide +kernel
theorem dX10_makeDelivery_47 : decode cX10_makeDelivery 47 = .ok (.getfield 81, 3) := by decide +kernel
theorem dX10_makeDelivery_50 : decode cX10_makeDelivery 50 = .ok (.iconst 1, 1) := by decide +kernel
theorem dX10_makeDelivery_51 : decode cX10_makeDelivery 51 = .ok (.iadd, 1) := by decide +kernel
theorem dX10_makeDelivery_52 : decode cX10_makeDelivery 52 = .ok (.putfield 81, 3) := by decide +kernel
theorem dX10_makeDelivery_55 : decode cX10_makeDelivery 55 = .ok (.aload_n 0, 1) := by decide +kernel
theorem dX10_makeDelivery_56 : decode cX10_makeDelivery 56 = .ok (.getfield 37, 3) := by decide +kernel
theorem dX10_makeDelivery_59 : decode cX10_makeDelivery 59 = .ok (.iload 5, 2) := by decide +kernel
theorem dX10_makeDelivery_61 : decode cX10_makeDelivery 61 = .ok (.aaload, 1) := by decide +kernel
theorem dX10_makeDelivery_62 : decode cX10_makeDelivery 62 = .ok (.astore 6, 2) := by decide +kernel
theorem dX10_makeDelivery_64 : decode cX10_makeDelivery 64 = .ok (.aload 6, 2) := by decide +kernel
theorem dX10_makeDelivery_66 : decode cX10_makeDelivery 66 = .ok (.iload 4, 2) := by decide +kernel
theorem dX10_makeDelivery_68 : decode cX10_makeDelivery 68 = .ok (.putfield 225, 3) := by decide +kernel
theorem dX10_makeDelivery_71 : decode cX10_makeDelivery 71 = .ok (.aload 6, 2) := by decide +kernel
theorem dX10_makeDelivery_73 : decode cX10_makeDelivery 73 = .ok (.iload_n 3, 1) := by decide +kernel
theorem dX10_makeDelivery_74 : decode cX10_makeDelivery 74 = .ok (.putfield 228, 3) := by decide +kernel
theorem dX10_makeDelivery_77 : decode cX10_makeDelivery 77 = .ok (.aload 6, 2) := by decide +kernel
theorem dX10_makeDelivery_79 : decode cX10_makeDelivery 79 = .ok (.iload_n 3, 1) := by decide +kernel
theorem dX10_makeDelivery_80 : decode cX10_makeDelivery 80 = .ok (.putfield 229, 3) := by decide +kernel
theorem dX10_makeDelivery_83 : decode cX10_makeDelivery 83 = .ok (.aload 6, 2) := by decide +kernel
theorem dX10_makeDelivery_85 : decode cX10_makeDelivery 85 = .ok (.aload_n 0, 1) := by decide +kernel
theorem dX10_makeDelivery_86 : decode cX10_makeDelivery 86 = .ok (.getfield 31, 3) := by decide +kernel
theorem dX10_makeDelivery_89 : decode cX10_makeDelivery 89 = .ok (.iload 4, 2) := by decide +kernel
theorem dX10_makeDelivery_91 : decode cX10_makeDelivery 91 = .ok (.aaload, 1) := by decide +kernel
theorem dX10_makeDelivery_92 : decode cX10_makeDelivery 92 = .ok (.iload_n 3, 1) := by decide +kernel
theorem dX10_makeDelivery_93 : decode cX10_makeDelivery 93 = .ok (.aload_n 0, 1) := by decide +kernel
theorem dX10_makeDelivery_94 : decode cX10_makeDelivery 94 = .ok (.getfield 52, 3) := by decide +kernel
theorem dX10_makeDelivery_97 : decode cX10_makeDelivery 97 = .ok (.invokevirtual 232, 3) := by decide +kernel
theorem dX10_makeDelivery_100 : decode cX10_makeDelivery 100 = .ok (.putfield 235, 3) := by decide +kernel
theorem dX10_makeDelivery_103 : decode cX10_makeDelivery 103 = .ok (.aload 6, 2) := by decide +kernel
theorem dX10_makeDelivery_105 : decode cX10_makeDelivery 105 = .ok (.iload_n 3, 1) := by decide +kernel
theorem dX10_makeDelivery_106 : decode cX10_makeDelivery 106 = .ok (.i2l, 1) := by decide +kernel
theorem dX10_makeDelivery_107 : decode cX10_makeDelivery 107 = .ok (.aload_n 0, 1) := by decide +kernel
theorem dX10_makeDelivery_108 : decode cX10_makeDelivery 108 = .ok (.getfield 52, 3) := by decide +kernel
theorem dX10_makeDelivery_111 : decode cX10_makeDelivery 111 = .ok (.i2l, 1) := by decide +kernel
theorem dX10_makeDelivery_112 : decode cX10_makeDelivery 112 = .ok (.lmul, 1) := by decide +kernel
theorem dX10_makeDelivery_113 : decode cX10_makeDelivery 113 = .ok (.aload_n 0, 1) := by decide +kernel
theorem dX10_makeDelivery_114 : decode cX10_makeDelivery 114 = .ok (.getfield 11, 3) := by decide +kernel
theorem dX10_makeDelivery_117 : decode cX10_makeDelivery 117 = .ok (.iload_n 1, 1) := by decide +kernel
theorem dX10_makeDelivery_118 : decode cX10_makeDelivery 118 = .ok (.aaload, 1) := by decide +kernel
theorem dX10_makeDelivery_119 : decode cX10_makeDelivery 119 = .ok (.iload_n 2, 1) := by decide +kernel
theorem dX10_makeDelivery_120 : decode cX10_makeDelivery 120 = .ok (.invokevirtual 238, 3) := by decide +kernel
theorem dX10_makeDelivery_123 : decode cX10_makeDelivery 123 = .ok (.i2l, 1) := by decide +kernel
theorem dX10_makeDelivery_124 : decode cX10_makeDelivery 124 = .ok (.lmul, 1) := by decide +kernel
theorem dX10_makeDelivery_125 : decode cX10_makeDelivery 125 = .ok (.putfield 241, 3) := by decide +kernel
theorem dX10_makeDelivery_128 : decode cX10_makeDelivery 128 = .ok (.aload_n 0, 1) := by decide +kernel
theorem dX10_makeDelivery_129 : decode cX10_makeDelivery 129 = .ok (.getfield 44, 3) := by decide +kernel
theorem dX10_makeDelivery_132 : decode cX10_makeDelivery 132 = .ok (.iconst 3, 1) := by decide +kernel
theorem dX10_makeDelivery_133 : decode cX10_makeDelivery 133 = .ok (.iload 5, 2) := by decide +kernel
theorem dX10_makeDelivery_135 : decode cX10_makeDelivery 135 = .ok (.invokevirtual 145, 3) := by decide +kernel
theorem dX10_makeDelivery_138 : decode cX10_makeDelivery 138 = .ok (.iload 5, 2) := by decide +kernel
theorem dX10_makeDelivery_140 : decode cX10_makeDelivery 140 = .ok (.ireturn, 1) := by decide +kernel
theorem dX10_faultOfDropping_0 : decode cX10_faultOfDropping 0 = .ok (.aload_n 0, 1) := by decide +kernel
theorem dX10_faultOfDropping_1 : decode cX10_faultOfDropping 1 = .ok (.iload_n 1, 1) := by decide +kernel
theorem dX10_faultOfDropping_2 : decode cX10_faultOfDropping 2 = .ok (.iload_n 2, 1) := by decide +kernel
theorem dX10_faultOfDropping_3 : decode cX10_faultOfDropping 3 = .ok (.iload_n 3, 1) := by decide +kernel
theorem dX10_faultOfDropping_4 : decode cX10_faultOfDropping 4 = .ok (.invokevirtual 182, 3) := by decide +kernel
theorem dX10_faultOfDropping_7 : decode cX10_faultOfDropping 7 = .ok (.istore 5, 2) := by decide +kernel
theorem dX10_faultOfDropping_9 : decode cX10_faultOfDropping 9 = .ok (.aload_n 0, 1) := by decide +kernel
theorem dX10_faultOfDropping_10 : decode cX10_faultOfDropping 10 = .ok (.iload 5, 2) := by decide +kernel
theorem dX10_faultOfDropping_12 : decode cX10_faultOfDropping 12 = .ok (.invokevirtual 189, 3) := by decide +kernel
theorem dX10_faultOfDropping_15 : decode cX10_faultOfDropping 15 = .ok (.ifCond .ne 7, 3) := by decide +kernel
theorem dX10_faultOfDropping_18 : decode cX10_faultOfDropping 18 = .ok (.getstatic 106, 3) := by decide +kernel
theorem dX10_faultOfDropping_21 : decode cX10_faultOfDropping 21 = .ok (.areturn, 1) := by decide +kernel
theorem dX10_faultOfDropping_22 : decode cX10_faultOfDropping 22 = .ok (.iload 4, 2) := by decide +kernel
theorem dX10_faultOfDropping_24 : decode cX10_faultOfDropping 24 = .ok (.iconst 0, 1) := by decide +kernel
theorem dX10_faultOfDropping_25 : decode cX10_faultOfDropping 25 = .ok (.aload_n 0, 1) := by decide +kernel
theorem dX10_faultOfDropping_26 : decode cX10_faultOfDropping 26 = .ok (.getfield 52, 3) := by decide +kernel
theorem dX10_faultOfDropping_29 : decode cX10_faultOfDropping 29 = .ok (.invokestatic 115, 3) := by decide +kernel
theorem dX10_faultOfDropping_32 : decode cX10_faultOfDropping 32 = .ok (.ifCond .ne 7, 3) := by decide +kernel
theorem dX10_faultOfDropping_35 : decode cX10_faultOfDropping 35 = .ok (.getstatic 119, 3) := by decide +kernel
theorem dX10_faultOfDropping_38 : decode cX10_faultOfDropping 38 = .ok (.areturn, 1) := by decide +kernel
theorem dX10_faultOfDropping_39 : decode cX10_faultOfDropping 39 = .ok (.aload_n 0, 1) := by decide +kernel
theorem dX10_faultOfDropping_40 : decode cX10_faultOfDropping 40 = .ok (.getfield 31, 3) := by decide +kernel
theorem dX10_faultOfDropping_43 : decode cX10_faultOfDropping 43 = .ok (.iload 5, 2) := by decide +kernel
theorem dX10_faultOfDropping_45 : decode cX10_faultOfDropping 45 = .ok (.aaload, 1) := by decide +kernel
theorem dX10_faultOfDropping_46 : decode cX10_faultOfDropping 46 = .ok (.getfield 205, 3) := by decide +kernel
theorem dX10_faultOfDropping_49 : decode cX10_faultOfDropping 49 = .ok (.ifCond .le 9, 3) := by decide +kernel
theorem dX10_faultOfDropping_52 : decode cX10_faultOfDropping 52 = .ok (.getstatic 122, 3) := by decide +kernel
theorem dX10_faultOfDropping_55 : decode cX10_faultOfDropping 55 = .ok (.goto 6, 3) := by decide +kernel
theorem dX10_faultOfDropping_58 : decode cX10_faultOfDropping 58 = .ok (.getstatic 125, 3) := by decide +kernel
theorem dX10_faultOfDropping_61 : decode cX10_faultOfDropping 61 = .ok (.areturn, 1) := by decide +kernel
theorem dX10_dropBox_0 : decode cX10_dropBox 0 = .ok (.aload_n 0, 1) := by decide +kernel
theorem dX10_dropBox_1 : decode cX10_dropBox 1 = .ok (.iload_n 1, 1) := by decide +kernel
theorem dX10_dropBox_2 : decode cX10_dropBox 2 = .ok (.iload_n 2, 1) := by decide +kernel
theorem dX10_dropBox_3 : decode cX10_dropBox 3 = .ok (.iload_n 3, 1) := by decide +kernel
theorem dX10_dropBox_4 : decode cX10_dropBox 4 = .ok (.invokevirtual 182, 3) := by decide +kernel
theorem dX10_dropBox_7 : decode cX10_dropBox 7 = .ok (.istore 5, 2) := by decide +kernel
theorem dX10_dropBox_9 : decode cX10_dropBox 9 = .ok (.aload_n 0, 1) := by decide +kernel
theorem dX10_dropBox_10 : decode cX10_dropBox 10 = .ok (.iload 5, 2) := by decide +kernel
theorem dX10_dropBox_12 : decode cX10_dropBox 12 = .ok (.invokevirtual 189, 3) := by decide +kernel
theorem dX10_dropBox_15 : decode cX10_dropBox 15 = .ok (.ifCond .ne 5, 3) := by decide +kernel
theorem dX10_dropBox_18 : decode cX10_dropBox 18 = .ok (.iconst (-1), 1) := by decide +kernel
theorem dX10_dropBox_19 : decode cX10_dropBox 19 = .ok (.ireturn, 1) := by decide +kernel
theorem dX10_dropBox_20 : decode cX10_dropBox 20 = .ok (.aload_n 0, 1) := by decide +kernel
theorem dX10_dropBox_21 : decode cX10_dropBox 21 = .ok (.getfield 31, 3) := by decide +kernel
theorem dX10_dropBox_24 : decode cX10_dropBox 24 = .ok (.iload 5, 2) := by decide +kernel
theorem dX10_dropBox_26 : decode cX10_dropBox 26 = .ok (.aaload, 1) := by decide +kernel
theorem dX10_dropBox_27 : decode cX10_dropBox 27 = .ok (.astore 6, 2) := by decide +kernel
theorem dX10_dropBox_29 : decode cX10_dropBox 29 = .ok (.aload 6, 2) := by decide +kernel
theorem dX10_dropBox_31 : decode cX10_dropBox 31 = .ok (.dup, 1) := by decide +kernel
theorem dX10_dropBox_32 : decode cX10_dropBox 32 = .ok (.getfield 205, 3) := by decide +kernel
theorem dX10_dropBox_35 : decode cX10_dropBox 35 = .ok (.iconst 1, 1) := by decide +kernel
theorem dX10_dropBox_36 : decode cX10_dropBox 36 = .ok (.isub, 1) := by decide +kernel
theorem dX10_dropBox_37 : decode cX10_dropBox 37 = .ok (.putfield 205, 3) := by decide +kernel
theorem dX10_dropBox_40 : decode cX10_dropBox 40 = .ok (.aload 6, 2) := by decide +kernel
theorem dX10_dropBox_42 : decode cX10_dropBox 42 = .ok (.dup, 1) := by decide +kernel
theorem dX10_dropBox_43 : decode cX10_dropBox 43 = .ok (.getfield 192, 3) := by decide +kernel
theorem dX10_dropBox_46 : decode cX10_dropBox 46 = .ok (.aload_n 0, 1) := by decide +kernel
theorem dX10_dropBox_47 : decode cX10_dropBox 47 = .ok (.getfield 52, 3) := by decide +kernel
theorem dX10_dropBox_50 : decode cX10_dropBox 50 = .ok (.iload 4, 2) := by decide +kernel
theorem dX10_dropBox_52 : decode cX10_dropBox 52 = .ok (.isub, 1) := by decide +kernel
theorem dX10_dropBox_53 : decode cX10_dropBox 53 = .ok (.iadd, 1) := by decide +kernel
theorem dX10_dropBox_54 : decode cX10_dropBox 54 = .ok (.putfield 192, 3) := by decide +kernel
theorem dX10_dropBox_57 : decode cX10_dropBox 57 = .ok (.aload 6, 2) := by decide +kernel
theorem dX10_dropBox_59 : decode cX10_dropBox 59 = .ok (.aload_n 0, 1) := by decide +kernel
theorem dX10_dropBox_60 : decode cX10_dropBox 60 = .ok (.getfield 52, 3) := by decide +kernel
theorem dX10_dropBox_63 : decode cX10_dropBox 63 = .ok (.invokevirtual 245, 3) := by decide +kernel
theorem dX10_dropBox_66 : decode cX10_dropBox 66 = .ok (.aload_n 0, 1) := by decide +kernel
theorem dX10_dropBox_67 : decode cX10_dropBox 67 = .ok (.iload 4, 2) := by decide +kernel
theorem dX10_dropBox_69 : decode cX10_dropBox 69 = .ok (.invokevirtual 248, 3) := by decide +kernel
theorem dX10_dropBox_72 : decode cX10_dropBox 72 = .ok (.aload 6, 2) := by decide +kernel
theorem dX10_dropBox_74 : decode cX10_dropBox 74 = .ok (.getfield 205, 3) := by decide +kernel
theorem dX10_dropBox_77 : decode cX10_dropBox 77 = .ok (.ireturn, 1) := by decide +kernel
theorem dX10_breakOtherwise_0 : decode cX10_breakOtherwise 0 = .ok (.iload_n 1, 1) := by decide +kernel
theorem dX10_breakOtherwise_1 : decode cX10_breakOtherwise 1 = .ok (.ifCond .le 22, 3) := by decide +kernel
theorem dX10_breakOtherwise_4 : decode cX10_breakOtherwise 4 = .ok (.aload_n 0, 1) := by decide +kernel
theorem dX10_breakOtherwise_5 : decode cX10_breakOtherwise 5 = .ok (.dup, 1) := by decide +kernel
theorem dX10_breakOtherwise_6 : decode cX10_breakOtherwise 6 = .ok (.getfield 96, 3) := by decide +kernel
theorem dX10_breakOtherwise_9 : decode cX10_breakOtherwise 9 = .ok (.iload_n 1, 1) := by decide +kernel
theorem dX10_breakOtherwise_10 : decode cX10_breakOtherwise 10 = .ok (.iadd, 1) := by decide +kernel
theorem dX10_breakOtherwise_11 : decode cX10_breakOtherwise 11 = .ok (.putfield 96, 3) := by decide +kernel
theorem dX10_breakOtherwise_14 : decode cX10_breakOtherwise 14 = .ok (.aload_n 0, 1) := by decide +kernel
theorem dX10_breakOtherwise_15 : decode cX10_breakOtherwise 15 = .ok (.getfield 44, 3) := by decide +kernel
theorem dX10_breakOtherwise_18 : decode cX10_breakOtherwise 18 = .ok (.iconst 4, 1) := by decide +kernel
theorem dX10_breakOtherwise_19 : decode cX10_breakOtherwise 19 = .ok (.iload_n 1, 1) := by decide +kernel
theorem dX10_breakOtherwise_20 : decode cX10_breakOtherwise 20 = .ok (.invokevirtual 145, 3) := by decide +kernel
theorem dX10_breakOtherwise_23 : decode cX10_breakOtherwise 23 = .ok (.return_, 1) := by decide +kernel
theorem dX10_faultOfReturn_0 : decode cX10_faultOfReturn 0 = .ok (.aload_n 0, 1) := by decide +kernel
theorem dX10_faultOfReturn_1 : decode cX10_faultOfReturn 1 = .ok (.iload_n 1, 1) := by decide +kernel
theorem dX10_faultOfReturn_2 : decode cX10_faultOfReturn 2 = .ok (.invokevirtual 251, 3) := by decide +kernel
theorem dX10_faultOfReturn_5 : decode cX10_faultOfReturn 5 = .ok (.ifCond .ne 7, 3) := by decide +kernel
theorem dX10_faultOfReturn_8 : decode cX10_faultOfReturn 8 = .ok (.getstatic 106, 3) := by decide +kernel
theorem dX10_faultOfReturn_11 : decode cX10_faultOfReturn 11 = .ok (.areturn, 1) := by decide +kernel
theorem dX10_faultOfReturn_12 : decode cX10_faultOfReturn 12 = .ok (.iload_n 2, 1) := by decide +kernel
theorem dX10_faultOfReturn_13 : decode cX10_faultOfReturn 13 = .ok (.invokestatic 215, 3) := by decide +kernel
theorem dX10_faultOfReturn_16 : decode cX10_faultOfReturn 16 = .ok (.ifCond .eq 17, 3) := by decide +kernel
theorem dX10_faultOfReturn_19 : decode cX10_faultOfReturn 19 = .ok (.iload_n 3, 1) := by decide +kernel
theorem dX10_faultOfReturn_20 : decode cX10_faultOfReturn 20 = .ok (.iconst 0, 1) := by decide +kernel
theorem dX10_faultOfReturn_21 : decode cX10_faultOfReturn 21 = .ok (.iload_n 2, 1) := by decide +kernel
theorem dX10_faultOfReturn_22 : decode cX10_faultOfReturn 22 = .ok (.aload_n 0, 1) := by decide +kernel
theorem dX10_faultOfReturn_23 : decode cX10_faultOfReturn 23 = .ok (.getfield 52, 3) := by decide +kernel
theorem dX10_faultOfReturn_26 : decode cX10_faultOfReturn 26 = .ok (.imul, 1) := by decide +kernel
theorem dX10_faultOfReturn_27 : decode cX10_faultOfReturn 27 = .ok (.invokestatic 115, 3) := by decide +kernel
theorem dX10_faultOfReturn_30 : decode cX10_faultOfReturn 30 = .ok (.ifCond .ne 7, 3) := by decide +kernel
theorem dX10_faultOfReturn_33 : decode cX10_faultOfReturn 33 = .ok (.getstatic 119, 3) := by decide +kernel
theorem dX10_faultOfReturn_36 : decode cX10_faultOfReturn 36 = .ok (.areturn, 1) := by decide +kernel
theorem dX10_faultOfReturn_37 : decode cX10_faultOfReturn 37 = .ok (.iload_n 2, 1) := by decide +kernel
theorem dX10_faultOfReturn_38 : decode cX10_faultOfReturn 38 = .ok (.aload_n 0, 1) := by decide +kernel
theorem dX10_faultOfReturn_39 : decode cX10_faultOfReturn 39 = .ok (.getfield 37, 3) := by decide +kernel
theorem dX10_faultOfReturn_42 : decode cX10_faultOfReturn 42 = .ok (.iload_n 1, 1) := by decide +kernel
theorem dX10_faultOfReturn_43 : decode cX10_faultOfReturn 43 = .ok (.aaload, 1) := by decide +kernel
theorem dX10_faultOfReturn_44 : decode cX10_faultOfReturn 44 = .ok (.getfield 229, 3) := by decide +kernel
theorem dX10_faultOfReturn_47 : decode cX10_faultOfReturn 47 = .ok (.if_icmp .gt 9, 3) := by decide +kernel
theorem dX10_faultOfReturn_50 : decode cX10_faultOfReturn 50 = .ok (.getstatic 122, 3) := by decide +kernel
theorem dX10_faultOfReturn_53 : decode cX10_faultOfReturn 53 = .ok (.goto 6, 3) := by decide +kernel
theorem dX10_faultOfReturn_56 : decode cX10_faultOfReturn 56 = .ok (.getstatic 125, 3) := by decide +kernel
theorem dX10_faultOfReturn_59 : decode cX10_faultOfReturn 59 = .ok (.areturn, 1) := by decide +kernel
theorem dX10_openReturned_0 : decode cX10_openReturned 0 = .ok (.aload_n 0, 1) := by decide +kernel
theorem dX10_openReturned_1 : decode cX10_openReturned 1 = .ok (.iload_n 1, 1) := by decide +kernel
theorem dX10_openReturned_2 : decode cX10_openReturned 2 = .ok (.invokevirtual 251, 3) := by decide +kernel
theorem dX10_openReturned_5 : decode cX10_openReturned 5 = .ok (.ifCond .eq 19, 3) := by decide +kernel
theorem dX10_openReturned_8 : decode cX10_openReturned 8 = .ok (.aload_n 0, 1) := by decide +kernel
theorem dX10_openReturned_9 : decode cX10_openReturned 9 = .ok (.aload_n 0, 1) := by decide +kernel
theorem dX10_openReturned_10 : decode cX10_openReturned 10 = .ok (.getfield 37, 3) := by decide +kernel
theorem dX10_openReturned_13 : decode cX10_openReturned 13 = .ok (.iload_n 1, 1) := by decide +kernel
theorem dX10_openReturned_14 : decode cX10_openReturned 14 = .ok (.aaload, 1) := by decide +kernel
theorem dX10_openReturned_15 : decode cX10_openReturned 15 = .ok (.getfield 225, 3) := by decide +kernel
theorem dX10_openReturned_18 : decode cX10_openReturned 18 = .ok (.invokevirtual 189, 3) := by decide +kernel
theorem dX10_openReturned_21 : decode cX10_openReturned 21 = .ok (.ifCond .ne 5, 3) := by decide +kernel
theorem dX10_openReturned_24 : decode cX10_openReturned 24 = .ok (.iconst (-1), 1) := by decide +kernel
theorem dX10_openReturned_25 : decode cX10_openReturned 25 = .ok (.ireturn, 1) := by decide +kernel
theorem dX10_openReturned_26 : decode cX10_openReturned 26 = .ok (.aload_n 0, 1) := by decide +kernel
theorem dX10_openReturned_27 : decode cX10_openReturned 27 = .ok (.getfield 37, 3) := by decide +kernel
theorem dX10_openReturned_30 : decode cX10_openReturned 30 = .ok (.iload_n 1, 1) := by decide +kernel
theorem dX10_openReturned_31 : decode cX10_openReturned 31 = .ok (.aaload, 1) := by decide +kernel
theorem dX10_openReturned_32 : decode cX10_openReturned 32 = .ok (.astore 4, 2) := by decide +kernel
theorem dX10_openReturned_34 : decode cX10_openReturned 34 = .ok (.aload 4, 2) := by decide +kernel
theorem dX10_openReturned_36 : decode cX10_openReturned 36 = .ok (.dup, 1) := by decide +kernel
theorem dX10_openReturned_37 : decode cX10_openReturned 37 = .ok (.getfield 229, 3) := by decide +kernel
theorem dX10_openReturned_40 : decode cX10_openReturned 40 = .ok (.iload_n 2, 1) := by decide +kernel
theorem dX10_openReturned_41 : decode cX10_openReturned 41 = .ok (.isub, 1) := by decide +kernel
theorem dX10_openReturned_42 : decode cX10_openReturned 42 = .ok (.putfield 229, 3) := by decide +kernel
theorem dX10_openReturned_45 : decode cX10_openReturned 45 = .ok (.aload_n 0, 1) := by decide +kernel
theorem dX10_openReturned_46 : decode cX10_openReturned 46 = .ok (.getfield 31, 3) := by decide +kernel
theorem dX10_openReturned_49 : decode cX10_openReturned 49 = .ok (.aload 4, 2) := by decide +kernel
theorem dX10_openReturned_51 : decode cX10_openReturned 51 = .ok (.getfield 225, 3) := by decide +kernel
theorem dX10_openReturned_54 : decode cX10_openReturned 54 = .ok (.aaload, 1) := by decide +kernel
theorem dX10_openReturned_55 : decode cX10_openReturned 55 = .ok (.dup, 1) := by decide +kernel
theorem dX10_openReturned_56 : decode cX10_openReturned 56 = .ok (.getfield 192, 3) := by decide +kernel
theorem dX10_openReturned_59 : decode cX10_openReturned 59 = .ok (.iload_n 2, 1) := by decide +kernel
theorem dX10_openReturned_60 : decode cX10_openReturned 60 = .ok (.aload_n 0, 1) := by decide +kernel
theorem dX10_openReturned_61 : decode cX10_openReturned 61 = .ok (.getfield 52, 3) := by decide +kernel
theorem dX10_openReturned_64 : decode cX10_openReturned 64 = .ok (.imul, 1) := by decide +kernel
theorem dX10_openReturned_65 : decode cX10_openReturned 65 = .ok (.iload_n 3, 1) := by decide +kernel
theorem dX10_openReturned_66 : decode cX10_openReturned 66 = .ok (.isub, 1) := by decide +kernel
theorem dX10_openReturned_67 : decode cX10_openReturned 67 = .ok (.iadd, 1) := by decide +kernel
theorem dX10_openReturned_68 : decode cX10_openReturned 68 = .ok (.putfield 192, 3) := by decide +kernel
theorem dX10_openReturned_71 : decode cX10_openReturned 71 = .ok (.aload_n 0, 1) := by decide +kernel
theorem dX10_openReturned_72 : decode cX10_openReturned 72 = .ok (.iload_n 3, 1) := by decide +kernel
theorem dX10_openReturned_73 : decode cX10_openReturned 73 = .ok (.invokevirtual 248, 3) := by decide +kernel
theorem dX10_openReturned_76 : decode cX10_openReturned 76 = .ok (.aload 4, 2) := by decide +kernel
theorem dX10_openReturned_78 : decode cX10_openReturned 78 = .ok (.getfield 229, 3) := by decide +kernel
theorem dX10_openReturned_81 : decode cX10_openReturned 81 = .ok (.ireturn, 1) := by decide +kernel
theorem dX10_faultOfReplacing_0 : decode cX10_faultOfReplacing 0 = .ok (.aload_n 0, 1) := by decide +kernel
theorem dX10_faultOfReplacing_1 : decode cX10_faultOfReplacing 1 = .ok (.iload_n 1, 1) := by decide +kernel
theorem dX10_faultOfReplacing_2 : decode cX10_faultOfReplacing 2 = .ok (.invokevirtual 251, 3) := by decide +kernel
theorem dX10_faultOfReplacing_5 : decode cX10_faultOfReplacing 5 = .ok (.ifCond .ne 7, 3) := by decide +kernel
theorem dX10_faultOfReplacing_8 : decode cX10_faultOfReplacing 8 = .ok (.getstatic 106, 3) := by decide +kernel
theorem dX10_faultOfReplacing_11 : decode cX10_faultOfReplacing 11 = .ok (.areturn, 1) := by decide +kernel
theorem dX10_faultOfReplacing_12 : decode cX10_faultOfReplacing 12 = .ok (.aload_n 0, 1) := by decide +kernel
theorem dX10_faultOfReplacing_13 : decode cX10_faultOfReplacing 13 = .ok (.getfield 37, 3) := by decide +kernel
theorem dX10_faultOfReplacing_16 : decode cX10_faultOfReplacing 16 = .ok (.iload_n 1, 1) := by decide +kernel
theorem dX10_faultOfReplacing_17 : decode cX10_faultOfReplacing 17 = .ok (.aaload, 1) := by decide +kernel
theorem dX10_faultOfReplacing_18 : decode cX10_faultOfReplacing 18 = .ok (.astore_n 2, 1) := by decide +kernel
theorem dX10_faultOfReplacing_19 : decode cX10_faultOfReplacing 19 = .ok (.aload_n 0, 1) := by decide +kernel
theorem dX10_faultOfReplacing_20 : decode cX10_faultOfReplacing 20 = .ok (.aload_n 2, 1) := by decide +kernel
theorem dX10_faultOfReplacing_21 : decode cX10_faultOfReplacing 21 = .ok (.getfield 225, 3) := by decide +kernel
theorem dX10_faultOfReplacing_24 : decode cX10_faultOfReplacing 24 = .ok (.invokevirtual 189, 3) := by decide +kernel
theorem dX10_faultOfReplacing_27 : decode cX10_faultOfReplacing 27 = .ok (.ifCond .eq 26, 3) := by decide +kernel
theorem dX10_faultOfReplacing_30 : decode cX10_faultOfReplacing 30 = .ok (.aload_n 0, 1) := by decide +kernel
theorem dX10_faultOfReplacing_31 : decode cX10_faultOfReplacing 31 = .ok (.getfield 31, 3) := by decide +kernel
theorem dX10_faultOfReplacing_34 : decode cX10_faultOfReplacing 34 = .ok (.aload_n 2, 1) := by decide +kernel
theorem dX10_faultOfReplacing_35 : decode cX10_faultOfReplacing 35 = .ok (.getfield 225, 3) := by decide +kernel
theorem dX10_faultOfReplacing_38 : decode cX10_faultOfReplacing 38 = .ok (.aaload, 1) := by decide +kernel
theorem dX10_faultOfReplacing_39 : decode cX10_faultOfReplacing 39 = .ok (.getfield 192, 3) := by decide +kernel
theorem dX10_faultOfReplacing_42 : decode cX10_faultOfReplacing 42 = .ok (.aload_n 2, 1) := by decide +kernel
theorem dX10_faultOfReplacing_43 : decode cX10_faultOfReplacing 43 = .ok (.getfield 235, 3) := by decide +kernel
theorem dX10_faultOfReplacing_46 : decode cX10_faultOfReplacing 46 = .ok (.if_icmp .lt 7, 3) := by decide +kernel
theorem dX10_faultOfReplacing_49 : decode cX10_faultOfReplacing 49 = .ok (.iconst 1, 1) := by decide +kernel
theorem dX10_faultOfReplacing_50 : decode cX10_faultOfReplacing 50 = .ok (.goto 4, 3) := by decide +kernel
theorem dX10_faultOfReplacing_53 : decode cX10_faultOfReplacing 53 = .ok (.iconst 0, 1) := by decide +kernel
theorem dX10_faultOfReplacing_54 : decode cX10_faultOfReplacing 54 = .ok (.istore_n 3, 1) := by decide +kernel
theorem dX10_faultOfReplacing_55 : decode cX10_faultOfReplacing 55 = .ok (.aload_n 2, 1) := by decide +kernel
theorem dX10_faultOfReplacing_56 : decode cX10_faultOfReplacing 56 = .ok (.getfield 235, 3) := by decide +kernel
theorem dX10_faultOfReplacing_59 : decode cX10_faultOfReplacing 59 = .ok (.ifCond .le 13, 3) := by decide +kernel
theorem dX10_faultOfReplacing_62 : decode cX10_faultOfReplacing 62 = .ok (.iload_n 3, 1) := by decide +kernel
theorem dX10_faultOfReplacing_63 : decode cX10_faultOfReplacing 63 = .ok (.ifCond .eq 9, 3) := by decide +kernel
theorem dX10_faultOfReplacing_66 : decode cX10_faultOfReplacing 66 = .ok (.getstatic 122, 3) := by decide +kernel
theorem dX10_faultOfReplacing_69 : decode cX10_faultOfReplacing 69 = .ok (.goto 6, 3) := by decide +kernel
theorem dX10_faultOfReplacing_72 : decode cX10_faultOfReplacing 72 = .ok (.getstatic 125, 3) := by decide +kernel
theorem dX10_faultOfReplacing_75 : decode cX10_faultOfReplacing 75 = .ok (.areturn, 1) := by decide +kernel
theorem dX10_replaceComplaints_0 : decode cX10_replaceComplaints 0 = .ok (.aload_n 0, 1) := by decide +kernel
theorem dX10_replaceComplaints_1 : decode cX10_replaceComplaints 1 = .ok (.iload_n 1, 1) := by decide +kernel
theorem dX10_replaceComplaints_2 : decode cX10_replaceComplaints 2 = .ok (.invokevirtual 251, 3) := by decide +kernel
theorem dX10_replaceComplaints_5 : decode cX10_replaceComplaints 5 = .ok (.ifCond .eq 19, 3) := by decide +kernel
theorem dX10_replaceComplaints_8 : decode cX10_replaceComplaints 8 = .ok (.aload_n 0, 1) := by decide +kernel
theorem dX10_replaceComplaints_9 : decode cX10_replaceComplaints 9 = .ok (.aload_n 0, 1) := by decide +kernel
theorem dX10_replaceComplaints_10 : decode cX10_replaceComplaints 10 = .ok (.getfield 37, 3) := by decide +kernel
theorem dX10_replaceComplaints_13 : decode cX10_replaceComplaints 13 = .ok (.iload_n 1, 1) := by decide +kernel
theorem dX10_replaceComplaints_14 : decode cX10_replaceComplaints 14 = .ok (.aaload, 1) := by decide +kernel
theorem dX10_replaceComplaints_15 : decode cX10_replaceComplaints 15 = .ok (.getfield 225, 3) := by decide +kernel
theorem dX10_replaceComplaints_18 : decode cX10_replaceComplaints 18 = .ok (.invokevirtual 189, 3) := by decide +kernel
theorem dX10_replaceComplaints_21 : decode cX10_replaceComplaints 21 = .ok (.ifCond .ne 5, 3) := by decide +kernel
theorem dX10_replaceComplaints_24 : decode cX10_replaceComplaints 24 = .ok (.iconst (-1), 1) := by decide +kernel
theorem dX10_replaceComplaints_25 : decode cX10_replaceComplaints 25 = .ok (.ireturn, 1) := by decide +kernel
theorem dX10_replaceComplaints_26 : decode cX10_replaceComplaints 26 = .ok (.aload_n 0, 1) := by decide +kernel
theorem dX10_replaceComplaints_27 : decode cX10_replaceComplaints 27 = .ok (.getfield 37, 3) := by decide +kernel
theorem dX10_replaceComplaints_30 : decode cX10_replaceComplaints 30 = .ok (.iload_n 1, 1) := by decide +kernel
theorem dX10_replaceComplaints_31 : decode cX10_replaceComplaints 31 = .ok (.aaload, 1) := by decide +kernel
theorem dX10_replaceComplaints_32 : decode cX10_replaceComplaints 32 = .ok (.astore_n 2, 1) := by decide +kernel
theorem dX10_replaceComplaints_33 : decode cX10_replaceComplaints 33 = .ok (.aload_n 0, 1) := by decide +kernel
theorem dX10_replaceComplaints_34 : decode cX10_replaceComplaints 34 = .ok (.getfield 31, 3) := by decide +kernel
theorem dX10_replaceComplaints_37 : decode cX10_replaceComplaints 37 = .ok (.aload_n 2, 1) := by decide +kernel
theorem dX10_replaceComplaints_38 : decode cX10_replaceComplaints 38 = .ok (.getfield 225, 3) := by decide +kernel
theorem dX10_replaceComplaints_41 : decode cX10_replaceComplaints 41 = .ok (.aaload, 1) := by decide +kernel
theorem dX10_replaceComplaints_42 : decode cX10_replaceComplaints 42 = .ok (.astore_n 3, 1) := by decide +kernel
theorem dX10_replaceComplaints_43 : decode cX10_replaceComplaints 43 = .ok (.aload_n 2, 1) := by decide +kernel
theorem dX10_replaceComplaints_44 : decode cX10_replaceComplaints 44 = .ok (.getfield 235, 3) := by decide +kernel
theorem dX10_replaceComplaints_47 : decode cX10_replaceComplaints 47 = .ok (.istore 4, 2) := by decide +kernel
theorem dX10_replaceComplaints_49 : decode cX10_replaceComplaints 49 = .ok (.aload_n 2, 1) := by decide +kernel
theorem dX10_replaceComplaints_50 : decode cX10_replaceComplaints 50 = .ok (.iconst 0, 1) := by decide +kernel
theorem dX10_replaceComplaints_51 : decode cX10_replaceComplaints 51 = .ok (.putfield 235, 3) := by decide +kernel
theorem dX10_replaceComplaints_54 : decode cX10_replaceComplaints 54 = .ok (.aload_n 3, 1) := by decide +kernel
theorem dX10_replaceComplaints_55 : decode cX10_replaceComplaints 55 = .ok (.dup, 1) := by decide +kernel
theorem dX10_replaceComplaints_56 : decode cX10_replaceComplaints 56 = .ok (.getfield 192, 3) := by decide +kernel
theorem dX10_replaceComplaints_59 : decode cX10_replaceComplaints 59 = .ok (.iload 4, 2) := by decide +kernel
theorem dX10_replaceComplaints_61 : decode cX10_replaceComplaints 61 = .ok (.isub, 1) := by decide +kernel
theorem dX10_replaceComplaints_62 : decode cX10_replaceComplaints 62 = .ok (.putfield 192, 3) := by decide +kernel
theorem dX10_replaceComplaints_65 : decode cX10_replaceComplaints 65 = .ok (.aload_n 3, 1) := by decide +kernel
theorem dX10_replaceComplaints_66 : decode cX10_replaceComplaints 66 = .ok (.aload_n 0, 1) := by decide +kernel
theorem dX10_replaceComplaints_67 : decode cX10_replaceComplaints 67 = .ok (.getfield 52, 3) := by decide +kernel
theorem dX10_replaceComplaints_70 : decode cX10_replaceComplaints 70 = .ok (.invokevirtual 245, 3) := by decide +kernel
theorem dX10_replaceComplaints_73 : decode cX10_replaceComplaints 73 = .ok (.aload_n 0, 1) := by decide +kernel
theorem dX10_replaceComplaints_74 : decode cX10_replaceComplaints 74 = .ok (.iload 4, 2) := by decide +kernel
theorem dX10_replaceComplaints_76 : decode cX10_replaceComplaints 76 = .ok (.invokevirtual 248, 3) := by decide +kernel
theorem dX10_replaceComplaints_79 : decode cX10_replaceComplaints 79 = .ok (.iload 4, 2) := by decide +kernel
theorem dX10_replaceComplaints_81 : decode cX10_replaceComplaints 81 = .ok (.ireturn, 1) := by decide +kernel
theorem dX10_sum_0 : decode cX10_sum 0 = .ok (.iload_n 1, 1) := by decide +kernel
theorem dX10_sum_1 : decode cX10_sum 1 = .ok (.tableswitch 153 0 13 #[71, 77, 83, 89, 95, 101, 107, 113, 119, 130, 136, 142, 153, 148], 71) := by decide +kernel
theorem dX10_sum_72 : decode cX10_sum 72 = .ok (.aload_n 0, 1) := by decide +kernel
theorem dX10_sum_73 : decode cX10_sum 73 = .ok (.getfield 48, 3) := by decide +kernel
theorem dX10_sum_76 : decode cX10_sum 76 = .ok (.i2l, 1) := by decide +kernel
theorem dX10_sum_77 : decode cX10_sum 77 = .ok (.lreturn, 1) := by decide +kernel
theorem dX10_sum_78 : decode cX10_sum 78 = .ok (.aload_n 0, 1) := by decide +kernel
theorem dX10_sum_79 : decode cX10_sum 79 = .ok (.getfield 52, 3) := by decide +kernel
theorem dX10_sum_82 : decode cX10_sum 82 = .ok (.i2l, 1) := by decide +kernel
theorem dX10_sum_83 : decode cX10_sum 83 = .ok (.lreturn, 1) := by decide +kernel
theorem dX10_sum_84 : decode cX10_sum 84 = .ok (.aload_n 0, 1) := by decide +kernel
theorem dX10_sum_85 : decode cX10_sum 85 = .ok (.getfield 90, 3) := by decide +kernel
theorem dX10_sum_88 : decode cX10_sum 88 = .ok (.i2l, 1) := by decide +kernel
theorem dX10_sum_89 : decode cX10_sum 89 = .ok (.lreturn, 1) := by decide +kernel
theorem dX10_sum_90 : decode cX10_sum 90 = .ok (.aload_n 0, 1) := by decide +kernel
theorem dX10_sum_91 : decode cX10_sum 91 = .ok (.getfield 93, 3) := by decide +kernel
theorem dX10_sum_94 : decode cX10_sum 94 = .ok (.i2l, 1) := by decide +kernel
theorem dX10_sum_95 : decode cX10_sum 95 = .ok (.lreturn, 1) := by decide +kernel
theorem dX10_sum_96 : decode cX10_sum 96 = .ok (.aload_n 0, 1) := by decide +kernel
theorem dX10_sum_97 : decode cX10_sum 97 = .ok (.getfield 96, 3) := by decide +kernel
theorem dX10_sum_100 : decode cX10_sum 100 = .ok (.i2l, 1) := by decide +kernel
theorem dX10_sum_101 : decode cX10_sum 101 = .ok (.lreturn, 1) := by decide +kernel
theorem dX10_sum_102 : decode cX10_sum 102 = .ok (.aload_n 0, 1) := by decide +kernel
theorem dX10_sum_103 : decode cX10_sum 103 = .ok (.invokevirtual 254, 3) := by decide +kernel
theorem dX10_sum_106 : decode cX10_sum 106 = .ok (.i2l, 1) := by decide +kernel
theorem dX10_sum_107 : decode cX10_sum 107 = .ok (.lreturn, 1) := by decide +kernel
theorem dX10_sum_108 : decode cX10_sum 108 = .ok (.aload_n 0, 1) := by decide +kernel
theorem dX10_sum_109 : decode cX10_sum 109 = .ok (.invokevirtual 258, 3) := by decide +kernel
theorem dX10_sum_112 : decode cX10_sum 112 = .ok (.i2l, 1) := by decide +kernel
theorem dX10_sum_113 : decode cX10_sum 113 = .ok (.lreturn, 1) := by decide +kernel
theorem dX10_sum_114 : decode cX10_sum 114 = .ok (.aload_n 0, 1) := by decide +kernel
theorem dX10_sum_115 : decode cX10_sum 115 = .ok (.invokevirtual 261, 3) := by decide +kernel
theorem dX10_sum_118 : decode cX10_sum 118 = .ok (.i2l, 1) := by decide +kernel
theorem dX10_sum_119 : decode cX10_sum 119 = .ok (.lreturn, 1) := by decide +kernel
theorem dX10_sum_120 : decode cX10_sum 120 = .ok (.aload_n 0, 1) := by decide +kernel
theorem dX10_sum_121 : decode cX10_sum 121 = .ok (.invokevirtual 264, 3) := by decide +kernel
theorem dX10_sum_124 : decode cX10_sum 124 = .ok (.aload_n 0, 1) := by decide +kernel
theorem dX10_sum_125 : decode cX10_sum 125 = .ok (.getfield 52, 3) := by decide +kernel
theorem dX10_sum_128 : decode cX10_sum 128 = .ok (.imul, 1) := by decide +kernel
theorem dX10_sum_129 : decode cX10_sum 129 = .ok (.i2l, 1) := by decide +kernel
theorem dX10_sum_130 : decode cX10_sum 130 = .ok (.lreturn, 1) := by decide +kernel
theorem dX10_sum_131 : decode cX10_sum 131 = .ok (.aload_n 0, 1) := by decide +kernel
theorem dX10_sum_132 : decode cX10_sum 132 = .ok (.getfield 69, 3) := by decide +kernel
theorem dX10_sum_135 : decode cX10_sum 135 = .ok (.i2l, 1) := by decide +kernel
theorem dX10_sum_136 : decode cX10_sum 136 = .ok (.lreturn, 1) := by decide +kernel
theorem dX10_sum_137 : decode cX10_sum 137 = .ok (.aload_n 0, 1) := by decide +kernel
theorem dX10_sum_138 : decode cX10_sum 138 = .ok (.getfield 75, 3) := by decide +kernel
theorem dX10_sum_141 : decode cX10_sum 141 = .ok (.i2l, 1) := by decide +kernel
theorem dX10_sum_142 : decode cX10_sum 142 = .ok (.lreturn, 1) := by decide +kernel
theorem dX10_sum_143 : decode cX10_sum 143 = .ok (.aload_n 0, 1) := by decide +kernel
theorem dX10_sum_144 : decode cX10_sum 144 = .ok (.getfield 81, 3) := by decide +kernel
theorem dX10_sum_147 : decode cX10_sum 147 = .ok (.i2l, 1) := by decide +kernel
theorem dX10_sum_148 : decode cX10_sum 148 = .ok (.lreturn, 1) := by decide +kernel
theorem dX10_sum_149 : decode cX10_sum 149 = .ok (.aload_n 0, 1) := by decide +kernel
theorem dX10_sum_150 : decode cX10_sum 150 = .ok (.invokevirtual 267, 3) := by decide +kernel
theorem dX10_sum_153 : decode cX10_sum 153 = .ok (.lreturn, 1) := by decide +kernel
theorem dX10_sum_154 : decode cX10_sum 154 = .ok (.aload_n 0, 1) := by decide +kernel
theorem dX10_sum_155 : decode cX10_sum 155 = .ok (.invokevirtual 271, 3) := by decide +kernel
theorem dX10_sum_158 : decode cX10_sum 158 = .ok (.lreturn, 1) := by decide +kernel
theorem dX10_tilesOnBench_0 : decode cX10_tilesOnBench 0 = .ok (.iconst 0, 1) := by decide +kernel
theorem dX10_tilesOnBench_1 : decode cX10_tilesOnBench 1 = .ok (.istore_n 1, 1) := by decide +kernel
theorem dX10_tilesOnBench_2 : decode cX10_tilesOnBench 2 = .ok (.iconst 0, 1) := by decide +kernel
theorem dX10_tilesOnBench_3 : decode cX10_tilesOnBench 3 = .ok (.istore_n 2, 1) := by decide +kernel
theorem dX10_tilesOnBench_4 : decode cX10_tilesOnBench 4 = .ok (.iload_n 2, 1) := by decide +kernel
theorem dX10_tilesOnBench_5 : decode cX10_tilesOnBench 5 = .ok (.aload_n 0, 1) := by decide +kernel
theorem dX10_tilesOnBench_6 : decode cX10_tilesOnBench 6 = .ok (.getfield 69, 3) := by decide +kernel
theorem dX10_tilesOnBench_9 : decode cX10_tilesOnBench 9 = .ok (.if_icmp .ge 21, 3) := by decide +kernel
theorem dX10_tilesOnBench_12 : decode cX10_tilesOnBench 12 = .ok (.iload_n 1, 1) := by decide +kernel
theorem dX10_tilesOnBench_13 : decode cX10_tilesOnBench 13 = .ok (.aload_n 0, 1) := by decide +kernel
theorem dX10_tilesOnBench_14 : decode cX10_tilesOnBench 14 = .ok (.getfield 25, 3) := by decide +kernel
theorem dX10_tilesOnBench_17 : decode cX10_tilesOnBench 17 = .ok (.iload_n 2, 1) := by decide +kernel
theorem dX10_tilesOnBench_18 : decode cX10_tilesOnBench 18 = .ok (.aaload, 1) := by decide +kernel
theorem dX10_tilesOnBench_19 : decode cX10_tilesOnBench 19 = .ok (.getfield 159, 3) := by decide +kernel
theorem dX10_tilesOnBench_22 : decode cX10_tilesOnBench 22 = .ok (.iadd, 1) := by decide +kernel
theorem dX10_tilesOnBench_23 : decode cX10_tilesOnBench 23 = .ok (.istore_n 1, 1) := by decide +kernel
theorem dX10_tilesOnBench_24 : decode cX10_tilesOnBench 24 = .ok (.iinc 2 1, 3) := by decide +kernel
theorem dX10_tilesOnBench_27 : decode cX10_tilesOnBench 27 = .ok (.goto (-23), 3) := by decide +kernel
theorem dX10_tilesOnBench_30 : decode cX10_tilesOnBench 30 = .ok (.iload_n 1, 1) := by decide +kernel
theorem dX10_tilesOnBench_31 : decode cX10_tilesOnBench 31 = .ok (.ireturn, 1) := by decide +kernel
theorem dX10_looseTiles_0 : decode cX10_looseTiles 0 = .ok (.iconst 0, 1) := by decide +kernel
theorem dX10_looseTiles_1 : decode cX10_looseTiles 1 = .ok (.istore_n 1, 1) := by decide +kernel
theorem dX10_looseTiles_2 : decode cX10_looseTiles 2 = .ok (.iconst 0, 1) := by decide +kernel
theorem dX10_looseTiles_3 : decode cX10_looseTiles 3 = .ok (.istore_n 2, 1) := by decide +kernel
theorem dX10_looseTiles_4 : decode cX10_looseTiles 4 = .ok (.iload_n 2, 1) := by decide +kernel
theorem dX10_looseTiles_5 : decode cX10_looseTiles 5 = .ok (.aload_n 0, 1) := by decide +kernel
theorem dX10_looseTiles_6 : decode cX10_looseTiles 6 = .ok (.getfield 75, 3) := by decide +kernel
theorem dX10_looseTiles_9 : decode cX10_looseTiles 9 = .ok (.if_icmp .ge 21, 3) := by decide +kernel
theorem dX10_looseTiles_12 : decode cX10_looseTiles 12 = .ok (.iload_n 1, 1) := by decide +kernel
theorem dX10_looseTiles_13 : decode cX10_looseTiles 13 = .ok (.aload_n 0, 1) := by decide +kernel
theorem dX10_looseTiles_14 : decode cX10_looseTiles 14 = .ok (.getfield 31, 3) := by decide +kernel
theorem dX10_looseTiles_17 : decode cX10_looseTiles 17 = .ok (.iload_n 2, 1) := by decide +kernel
theorem dX10_looseTiles_18 : decode cX10_looseTiles 18 = .ok (.aaload, 1) := by decide +kernel
theorem dX10_looseTiles_19 : decode cX10_looseTiles 19 = .ok (.getfield 192, 3) := by decide +kernel
theorem dX10_looseTiles_22 : decode cX10_looseTiles 22 = .ok (.iadd, 1) := by decide +kernel
theorem dX10_looseTiles_23 : decode cX10_looseTiles 23 = .ok (.istore_n 1, 1) := by decide +kernel
theorem dX10_looseTiles_24 : decode cX10_looseTiles 24 = .ok (.iinc 2 1, 3) := by decide +kernel
theorem dX10_looseTiles_27 : decode cX10_looseTiles 27 = .ok (.goto (-23), 3) := by decide +kernel
theorem dX10_looseTiles_30 : decode cX10_looseTiles 30 = .ok (.iload_n 1, 1) := by decide +kernel
theorem dX10_looseTiles_31 : decode cX10_looseTiles 31 = .ok (.ireturn, 1) := by decide +kernel
theorem dX10_boxesInLots_0 : decode cX10_boxesInLots 0 = .ok (.iconst 0, 1) := by decide +kernel
theorem dX10_boxesInLots_1 : decode cX10_boxesInLots 1 = .ok (.istore_n 1, 1) := by decide +kernel
theorem dX10_boxesInLots_2 : decode cX10_boxesInLots 2 = .ok (.iconst 0, 1) := by decide +kernel
theorem dX10_boxesInLots_3 : decode cX10_boxesInLots 3 = .ok (.istore_n 2, 1) := by decide +kernel
theorem dX10_boxesInLots_4 : decode cX10_boxesInLots 4 = .ok (.iload_n 2, 1) := by decide +kernel
theorem dX10_boxesInLots_5 : decode cX10_boxesInLots 5 = .ok (.aload_n 0, 1) := by decide +kernel
theorem dX10_boxesInLots_6 : decode cX10_boxesInLots 6 = .ok (.getfield 75, 3) := by decide +kernel
theorem dX10_boxesInLots_9 : decode cX10_boxesInLots 9 = .ok (.if_icmp .ge 21, 3) := by decide +kernel
theorem dX10_boxesInLots_12 : decode cX10_boxesInLots 12 = .ok (.iload_n 1, 1) := by decide +kernel
theorem dX10_boxesInLots_13 : decode cX10_boxesInLots 13 = .ok (.aload_n 0, 1) := by decide +kernel
theorem dX10_boxesInLots_14 : decode cX10_boxesInLots 14 = .ok (.getfield 31, 3) := by decide +kernel
theorem dX10_boxesInLots_17 : decode cX10_boxesInLots 17 = .ok (.iload_n 2, 1) := by decide +kernel
theorem dX10_boxesInLots_18 : decode cX10_boxesInLots 18 = .ok (.aaload, 1) := by decide +kernel
theorem dX10_boxesInLots_19 : decode cX10_boxesInLots 19 = .ok (.getfield 205, 3) := by decide +kernel
theorem dX10_boxesInLots_22 : decode cX10_boxesInLots 22 = .ok (.iadd, 1) := by decide +kernel
theorem dX10_boxesInLots_23 : decode cX10_boxesInLots 23 = .ok (.istore_n 1, 1) := by decide +kernel
theorem dX10_boxesInLots_24 : decode cX10_boxesInLots 24 = .ok (.iinc 2 1, 3) := by decide +kernel
theorem dX10_boxesInLots_27 : decode cX10_boxesInLots 27 = .ok (.goto (-23), 3) := by decide +kernel
theorem dX10_boxesInLots_30 : decode cX10_boxesInLots 30 = .ok (.iload_n 1, 1) := by decide +kernel
theorem dX10_boxesInLots_31 : decode cX10_boxesInLots 31 = .ok (.ireturn, 1) := by decide +kernel
theorem dX10_boxesOut_0 : decode cX10_boxesOut 0 = .ok (.iconst 0, 1) := by decide +kernel
theorem dX10_boxesOut_1 : decode cX10_boxesOut 1 = .ok (.istore_n 1, 1) := by decide +kernel
theorem dX10_boxesOut_2 : decode cX10_boxesOut 2 = .ok (.iconst 0, 1) := by decide +kernel
theorem dX10_boxesOut_3 : decode cX10_boxesOut 3 = .ok (.istore_n 2, 1) := by decide +kernel
theorem dX10_boxesOut_4 : decode cX10_boxesOut 4 = .ok (.iload_n 2, 1) := by decide +kernel
theorem dX10_boxesOut_5 : decode cX10_boxesOut 5 = .ok (.aload_n 0, 1) := by decide +kernel
theorem dX10_boxesOut_6 : decode cX10_boxesOut 6 = .ok (.getfield 81, 3) := by decide +kernel
theorem dX10_boxesOut_9 : decode cX10_boxesOut 9 = .ok (.if_icmp .ge 21, 3) := by decide +kernel
theorem dX10_boxesOut_12 : decode cX10_boxesOut 12 = .ok (.iload_n 1, 1) := by decide +kernel
theorem dX10_boxesOut_13 : decode cX10_boxesOut 13 = .ok (.aload_n 0, 1) := by decide +kernel
theorem dX10_boxesOut_14 : decode cX10_boxesOut 14 = .ok (.getfield 37, 3) := by decide +kernel
theorem dX10_boxesOut_17 : decode cX10_boxesOut 17 = .ok (.iload_n 2, 1) := by decide +kernel
theorem dX10_boxesOut_18 : decode cX10_boxesOut 18 = .ok (.aaload, 1) := by decide +kernel
theorem dX10_boxesOut_19 : decode cX10_boxesOut 19 = .ok (.getfield 229, 3) := by decide +kernel
theorem dX10_boxesOut_22 : decode cX10_boxesOut 22 = .ok (.iadd, 1) := by decide +kernel
theorem dX10_boxesOut_23 : decode cX10_boxesOut 23 = .ok (.istore_n 1, 1) := by decide +kernel
theorem dX10_boxesOut_24 : decode cX10_boxesOut 24 = .ok (.iinc 2 1, 3) := by decide +kernel
theorem dX10_boxesOut_27 : decode cX10_boxesOut 27 = .ok (.goto (-23), 3) := by decide +kernel
theorem dX10_boxesOut_30 : decode cX10_boxesOut 30 = .ok (.iload_n 1, 1) := by decide +kernel
theorem dX10_boxesOut_31 : decode cX10_boxesOut 31 = .ok (.ireturn, 1) := by decide +kernel
theorem dX10_presentValue_0 : decode cX10_presentValue 0 = .ok (.lconst 0, 1) := by decide +kernel
theorem dX10_presentValue_1 : decode cX10_presentValue 1 = .ok (.lstore_n 1, 1) := by decide +kernel
theorem dX10_presentValue_2 : decode cX10_presentValue 2 = .ok (.iconst 0, 1) := by decide +kernel
theorem dX10_presentValue_3 : decode cX10_presentValue 3 = .ok (.istore_n 3, 1) := by decide +kernel
theorem dX10_presentValue_4 : decode cX10_presentValue 4 = .ok (.iload_n 3, 1) := by decide +kernel
theorem dX10_presentValue_5 : decode cX10_presentValue 5 = .ok (.aload_n 0, 1) := by decide +kernel
theorem dX10_presentValue_6 : decode cX10_presentValue 6 = .ok (.getfield 11, 3) := by decide +kernel
theorem dX10_presentValue_9 : decode cX10_presentValue 9 = .ok (.arraylength, 1) := by decide +kernel
theorem dX10_presentValue_10 : decode cX10_presentValue 10 = .ok (.if_icmp .ge 48, 3) := by decide +kernel
theorem dX10_presentValue_13 : decode cX10_presentValue 13 = .ok (.iconst 1, 1) := by decide +kernel
theorem dX10_presentValue_14 : decode cX10_presentValue 14 = .ok (.istore 4, 2) := by decide +kernel
theorem dX10_presentValue_16 : decode cX10_presentValue 16 = .ok (.iload 4, 2) := by decide +kernel
theorem dX10_presentValue_18 : decode cX10_presentValue 18 = .ok (.iconst 2, 1) := by decide +kernel
theorem dX10_presentValue_19 : decode cX10_presentValue 19 = .ok (.if_icmp .gt 33, 3) := by decide +kernel
theorem dX10_presentValue_22 : decode cX10_presentValue 22 = .ok (.lload_n 1, 1) := by decide +kernel
theorem dX10_presentValue_23 : decode cX10_presentValue 23 = .ok (.aload_n 0, 1) := by decide +kernel
theorem dX10_presentValue_24 : decode cX10_presentValue 24 = .ok (.iload_n 3, 1) := by decide +kernel
theorem dX10_presentValue_25 : decode cX10_presentValue 25 = .ok (.iload 4, 2) := by decide +kernel
theorem dX10_presentValue_27 : decode cX10_presentValue 27 = .ok (.invokevirtual 274, 3) := by decide +kernel
theorem dX10_presentValue_30 : decode cX10_presentValue 30 = .ok (.i2l, 1) := by decide +kernel
theorem dX10_presentValue_31 : decode cX10_presentValue 31 = .ok (.aload_n 0, 1) := by decide +kernel
theorem dX10_presentValue_32 : decode cX10_presentValue 32 = .ok (.getfield 11, 3) := by decide +kernel
theorem dX10_presentValue_35 : decode cX10_presentValue 35 = .ok (.iload_n 3, 1) := by decide +kernel
theorem dX10_presentValue_36 : decode cX10_presentValue 36 = .ok (.aaload, 1) := by decide +kernel
theorem dX10_presentValue_37 : decode cX10_presentValue 37 = .ok (.iload 4, 2) := by decide +kernel
theorem dX10_presentValue_39 : decode cX10_presentValue 39 = .ok (.invokevirtual 238, 3) := by decide +kernel
theorem dX10_presentValue_42 : decode cX10_presentValue 42 = .ok (.i2l, 1) := by decide +kernel
theorem dX10_presentValue_43 : decode cX10_presentValue 43 = .ok (.lmul, 1) := by decide +kernel
theorem dX10_presentValue_44 : decode cX10_presentValue 44 = .ok (.ladd, 1) := by decide +kernel
theorem dX10_presentValue_45 : decode cX10_presentValue 45 = .ok (.lstore_n 1, 1) := by decide +kernel
theorem dX10_presentValue_46 : decode cX10_presentValue 46 = .ok (.iinc 4 1, 3) := by decide +kernel
theorem dX10_presentValue_49 : decode cX10_presentValue 49 = .ok (.goto (-33), 3) := by decide +kernel
theorem dX10_presentValue_52 : decode cX10_presentValue 52 = .ok (.iinc 3 1, 3) := by decide +kernel
theorem dX10_presentValue_55 : decode cX10_presentValue 55 = .ok (.goto (-51), 3) := by decide +kernel
theorem dX10_presentValue_58 : decode cX10_presentValue 58 = .ok (.lload_n 1, 1) := by decide +kernel
theorem dX10_presentValue_59 : decode cX10_presentValue 59 = .ok (.lreturn, 1) := by decide +kernel
theorem dX10_deliveredValue_0 : decode cX10_deliveredValue 0 = .ok (.lconst 0, 1) := by decide +kernel
theorem dX10_deliveredValue_1 : decode cX10_deliveredValue 1 = .ok (.lstore_n 1, 1) := by decide +kernel
theorem dX10_deliveredValue_2 : decode cX10_deliveredValue 2 = .ok (.iconst 0, 1) := by decide +kernel
theorem dX10_deliveredValue_3 : decode cX10_deliveredValue 3 = .ok (.istore_n 3, 1) := by decide +kernel
theorem dX10_deliveredValue_4 : decode cX10_deliveredValue 4 = .ok (.iload_n 3, 1) := by decide +kernel
theorem dX10_deliveredValue_5 : decode cX10_deliveredValue 5 = .ok (.aload_n 0, 1) := by decide +kernel
theorem dX10_deliveredValue_6 : decode cX10_deliveredValue 6 = .ok (.getfield 81, 3) := by decide +kernel
theorem dX10_deliveredValue_9 : decode cX10_deliveredValue 9 = .ok (.if_icmp .ge 21, 3) := by decide +kernel
theorem dX10_deliveredValue_12 : decode cX10_deliveredValue 12 = .ok (.lload_n 1, 1) := by decide +kernel
theorem dX10_deliveredValue_13 : decode cX10_deliveredValue 13 = .ok (.aload_n 0, 1) := by decide +kernel
theorem dX10_deliveredValue_14 : decode cX10_deliveredValue 14 = .ok (.getfield 37, 3) := by decide +kernel
theorem dX10_deliveredValue_17 : decode cX10_deliveredValue 17 = .ok (.iload_n 3, 1) := by decide +kernel
theorem dX10_deliveredValue_18 : decode cX10_deliveredValue 18 = .ok (.aaload, 1) := by decide +kernel
theorem dX10_deliveredValue_19 : decode cX10_deliveredValue 19 = .ok (.getfield 241, 3) := by decide +kernel
theorem dX10_deliveredValue_22 : decode cX10_deliveredValue 22 = .ok (.ladd, 1) := by decide +kernel
theorem dX10_deliveredValue_23 : decode cX10_deliveredValue 23 = .ok (.lstore_n 1, 1) := by decide +kernel
theorem dX10_deliveredValue_24 : decode cX10_deliveredValue 24 = .ok (.iinc 3 1, 3) := by decide +kernel
theorem dX10_deliveredValue_27 : decode cX10_deliveredValue 27 = .ok (.goto (-23), 3) := by decide +kernel
theorem dX10_deliveredValue_30 : decode cX10_deliveredValue 30 = .ok (.lload_n 1, 1) := by decide +kernel
theorem dX10_deliveredValue_31 : decode cX10_deliveredValue 31 = .ok (.lreturn, 1) := by decide +kernel
theorem dX12_init_0 : decode cX12_init 0 = .ok (.aload_n 0, 1) := by decide +kernel
theorem dX12_init_1 : decode cX12_init 1 = .ok (.invokespecial 1, 3) := by decide +kernel
theorem dX12_init_4 : decode cX12_init 4 = .ok (.aload_n 0, 1) := by decide +kernel
theorem dX12_init_5 : decode cX12_init 5 = .ok (.new 7, 3) := by decide +kernel
theorem dX12_init_8 : decode cX12_init 8 = .ok (.dup, 1) := by decide +kernel
theorem dX12_init_9 : decode cX12_init 9 = .ok (.invokespecial 9, 3) := by decide +kernel
theorem dX12_init_12 : decode cX12_init 12 = .ok (.putfield 10, 3) := by decide +kernel
theorem dX12_init_15 : decode cX12_init 15 = .ok (.aload_n 0, 1) := by decide +kernel
theorem dX12_init_16 : decode cX12_init 16 = .ok (.new 16, 3) := by decide +kernel
theorem dX12_init_19 : decode cX12_init 19 = .ok (.dup, 1) := by decide +kernel
theorem dX12_init_20 : decode cX12_init 20 = .ok (.invokespecial 18, 3) := by decide +kernel
theorem dX12_init_23 : decode cX12_init 23 = .ok (.putfield 19, 3) := by decide +kernel
theorem dX12_init_26 : decode cX12_init 26 = .ok (.aload_n 0, 1) := by decide +kernel
theorem dX12_init_27 : decode cX12_init 27 = .ok (.new 23, 3) := by decide +kernel
theorem dX12_init_30 : decode cX12_init 30 = .ok (.dup, 1) := by decide +kernel
theorem dX12_init_31 : decode cX12_init 31 = .ok (.invokespecial 25, 3) := by decide +kernel
theorem dX12_init_34 : decode cX12_init 34 = .ok (.putfield 26, 3) := by decide +kernel
theorem dX12_init_37 : decode cX12_init 37 = .ok (.return_, 1) := by decide +kernel
theorem dX12_setGlaze_0 : decode cX12_setGlaze 0 = .ok (.iload_n 1, 1) := by decide +kernel
theorem dX12_setGlaze_1 : decode cX12_setGlaze 1 = .ok (.invokestatic 30, 3) := by decide +kernel
theorem dX12_setGlaze_4 : decode cX12_setGlaze 4 = .ok (.invokestatic 34, 3) := by decide +kernel
theorem dX12_setGlaze_7 : decode cX12_setGlaze 7 = .ok (.iload_n 2, 1) := by decide +kernel
theorem dX12_setGlaze_8 : decode cX12_setGlaze 8 = .ok (.iconst 0, 1) := by decide +kernel
theorem dX12_setGlaze_9 : decode cX12_setGlaze 9 = .ok (.bipush 19, 2) := by decide +kernel
theorem dX12_setGlaze_11 : decode cX12_setGlaze 11 = .ok (.invokestatic 38, 3) := by decide +kernel
theorem dX12_setGlaze_14 : decode cX12_setGlaze 14 = .ok (.ifCond .eq 17, 3) := by decide +kernel
theorem dX12_setGlaze_17 : decode cX12_setGlaze 17 = .ok (.iload_n 3, 1) := by decide +kernel
theorem dX12_setGlaze_18 : decode cX12_setGlaze 18 = .ok (.iconst 0, 1) := by decide +kernel
theorem dX12_setGlaze_19 : decode cX12_setGlaze 19 = .ok (.bipush 20, 2) := by decide +kernel
theorem dX12_setGlaze_21 : decode cX12_setGlaze 21 = .ok (.invokestatic 38, 3) := by decide +kernel
theorem dX12_setGlaze_24 : decode cX12_setGlaze 24 = .ok (.ifCond .eq 7, 3) := by decide +kernel
theorem dX12_setGlaze_27 : decode cX12_setGlaze 27 = .ok (.iconst 1, 1) := by decide +kernel
theorem dX12_setGlaze_28 : decode cX12_setGlaze 28 = .ok (.goto 4, 3) := by decide +kernel
theorem dX12_setGlaze_31 : decode cX12_setGlaze 31 = .ok (.iconst 0, 1) := by decide +kernel
theorem dX12_setGlaze_32 : decode cX12_setGlaze 32 = .ok (.invokestatic 42, 3) := by decide +kernel
theorem dX12_setGlaze_35 : decode cX12_setGlaze 35 = .ok (.aload_n 0, 1) := by decide +kernel
theorem dX12_setGlaze_36 : decode cX12_setGlaze 36 = .ok (.getfield 19, 3) := by decide +kernel
theorem dX12_setGlaze_39 : decode cX12_setGlaze 39 = .ok (.aload_n 0, 1) := by decide +kernel
theorem dX12_setGlaze_40 : decode cX12_setGlaze 40 = .ok (.getfield 10, 3) := by decide +kernel
theorem dX12_setGlaze_43 : decode cX12_setGlaze 43 = .ok (.invokevirtual 45, 3) := by decide +kernel
theorem dX12_setGlaze_46 : decode cX12_setGlaze 46 = .ok (.aload_n 0, 1) := by decide +kernel
theorem dX12_setGlaze_47 : decode cX12_setGlaze 47 = .ok (.getfield 10, 3) := by decide +kernel
theorem dX12_setGlaze_50 : decode cX12_setGlaze 50 = .ok (.getfield 49, 3) := by decide +kernel
theorem dX12_setGlaze_53 : decode cX12_setGlaze 53 = .ok (.iload_n 1, 1) := by decide +kernel
theorem dX12_setGlaze_54 : decode cX12_setGlaze 54 = .ok (.aaload, 1) := by decide +kernel
theorem dX12_setGlaze_55 : decode cX12_setGlaze 55 = .ok (.astore 4, 2) := by decide +kernel
theorem dX12_setGlaze_57 : decode cX12_setGlaze 57 = .ok (.aload 4, 2) := by decide +kernel
theorem dX12_setGlaze_59 : decode cX12_setGlaze 59 = .ok (.getfield 53, 3) := by decide +kernel
theorem dX12_setGlaze_62 : decode cX12_setGlaze 62 = .ok (.istore 5, 2) := by decide +kernel
theorem dX12_setGlaze_64 : decode cX12_setGlaze 64 = .ok (.aload 4, 2) := by decide +kernel
theorem dX12_setGlaze_66 : decode cX12_setGlaze 66 = .ok (.iload_n 2, 1) := by decide +kernel
theorem dX12_setGlaze_67 : decode cX12_setGlaze 67 = .ok (.putfield 53, 3) := by decide +kernel
theorem dX12_setGlaze_70 : decode cX12_setGlaze 70 = .ok (.aload 4, 2) := by decide +kernel
theorem dX12_setGlaze_72 : decode cX12_setGlaze 72 = .ok (.iload_n 3, 1) := by decide +kernel
theorem dX12_setGlaze_73 : decode cX12_setGlaze 73 = .ok (.putfield 59, 3) := by decide +kernel
theorem dX12_setGlaze_76 : decode cX12_setGlaze 76 = .ok (.iload 5, 2) := by decide +kernel
theorem dX12_setGlaze_78 : decode cX12_setGlaze 78 = .ok (.ireturn, 1) := by decide +kernel
theorem dX12_setQuality_0 : decode cX12_setQuality 0 = .ok (.iload_n 1, 1) := by decide +kernel
theorem dX12_setQuality_1 : decode cX12_setQuality 1 = .ok (.invokestatic 30, 3) := by decide +kernel
theorem dX12_setQuality_4 : decode cX12_setQuality 4 = .ok (.invokestatic 34, 3) := by decide +kernel
theorem dX12_setQuality_7 : decode cX12_setQuality 7 = .ok (.iload_n 2, 1) := by decide +kernel
theorem dX12_setQuality_8 : decode cX12_setQuality 8 = .ok (.invokestatic 62, 3) := by decide +kernel
theorem dX12_setQuality_11 : decode cX12_setQuality 11 = .ok (.ifCond .eq 18, 3) := by decide +kernel
theorem dX12_setQuality_14 : decode cX12_setQuality 14 = .ok (.iload_n 3, 1) := by decide +kernel
theorem dX12_setQuality_15 : decode cX12_setQuality 15 = .ok (.iconst 0, 1) := by decide +kernel
theorem dX12_setQuality_16 : decode cX12_setQuality 16 = .ok (.sipush 9999, 3) := by decide +kernel
theorem dX12_setQuality_19 : decode cX12_setQuality 19 = .ok (.invokestatic 38, 3) := by decide +kernel
theorem dX12_setQuality_22 : decode cX12_setQuality 22 = .ok (.ifCond .eq 7, 3) := by decide +kernel
theorem dX12_setQuality_25 : decode cX12_setQuality 25 = .ok (.iconst 1, 1) := by decide +kernel
theorem dX12_setQuality_26 : decode cX12_setQuality 26 = .ok (.goto 4, 3) := by decide +kernel
theorem dX12_setQuality_29 : decode cX12_setQuality 29 = .ok (.iconst 0, 1) := by decide +kernel
theorem dX12_setQuality_30 : decode cX12_setQuality 30 = .ok (.invokestatic 42, 3) := by decide +kernel
theorem dX12_setQuality_33 : decode cX12_setQuality 33 = .ok (.aload_n 0, 1) := by decide +kernel
theorem dX12_setQuality_34 : decode cX12_setQuality 34 = .ok (.getfield 19, 3) := by decide +kernel
theorem dX12_setQuality_37 : decode cX12_setQuality 37 = .ok (.aload_n 0, 1) := by decide +kernel
theorem dX12_setQuality_38 : decode cX12_setQuality 38 = .ok (.getfield 10, 3) := by decide +kernel
theorem dX12_setQuality_41 : decode cX12_setQuality 41 = .ok (.invokevirtual 45, 3) := by decide +kernel
theorem dX12_setQuality_44 : decode cX12_setQuality 44 = .ok (.aload_n 0, 1) := by decide +kernel
theorem dX12_setQuality_45 : decode cX12_setQuality 45 = .ok (.getfield 10, 3) := by decide +kernel
theorem dX12_setQuality_48 : decode cX12_setQuality 48 = .ok (.getfield 49, 3) := by decide +kernel
theorem dX12_setQuality_51 : decode cX12_setQuality 51 = .ok (.iload_n 1, 1) := by decide +kernel
theorem dX12_setQuality_52 : decode cX12_setQuality 52 = .ok (.aaload, 1) := by decide +kernel
theorem dX12_setQuality_53 : decode cX12_setQuality 53 = .ok (.astore 4, 2) := by decide +kernel
theorem dX12_setQuality_55 : decode cX12_setQuality 55 = .ok (.aload 4, 2) := by decide +kernel
theorem dX12_setQuality_57 : decode cX12_setQuality 57 = .ok (.getfield 65, 3) := by decide +kernel
theorem dX12_setQuality_60 : decode cX12_setQuality 60 = .ok (.istore 5, 2) := by decide +kernel
theorem dX12_setQuality_62 : decode cX12_setQuality 62 = .ok (.aload 4, 2) := by decide +kernel
theorem dX12_setQuality_64 : decode cX12_setQuality 64 = .ok (.iload_n 2, 1) := by decide +kernel
theorem dX12_setQuality_65 : decode cX12_setQuality 65 = .ok (.putfield 65, 3) := by decide +kernel
theorem dX12_setQuality_68 : decode cX12_setQuality 68 = .ok (.aload 4, 2) := by decide +kernel
theorem dX12_setQuality_70 : decode cX12_setQuality 70 = .ok (.iload_n 3, 1) := by decide +kernel
theorem dX12_setQuality_71 : decode cX12_setQuality 71 = .ok (.putfield 68, 3) := by decide +kernel
theorem dX12_setQuality_74 : decode cX12_setQuality 74 = .ok (.iload 5, 2) := by decide +kernel
theorem dX12_setQuality_76 : decode cX12_setQuality 76 = .ok (.ireturn, 1) := by decide +kernel
theorem dX12_setPosition_0 : decode cX12_setPosition 0 = .ok (.iload_n 1, 1) := by decide +kernel
theorem dX12_setPosition_1 : decode cX12_setPosition 1 = .ok (.invokestatic 71, 3) := by decide +kernel
theorem dX12_setPosition_4 : decode cX12_setPosition 4 = .ok (.ifCond .eq 14, 3) := by decide +kernel
theorem dX12_setPosition_7 : decode cX12_setPosition 7 = .ok (.iload_n 2, 1) := by decide +kernel
theorem dX12_setPosition_8 : decode cX12_setPosition 8 = .ok (.invokestatic 74, 3) := by decide +kernel
theorem dX12_setPosition_11 : decode cX12_setPosition 11 = .ok (.ifCond .eq 7, 3) := by decide +kernel
theorem dX12_setPosition_14 : decode cX12_setPosition 14 = .ok (.iconst 1, 1) := by decide +kernel
theorem dX12_setPosition_15 : decode cX12_setPosition 15 = .ok (.goto 4, 3) := by decide +kernel
theorem dX12_setPosition_18 : decode cX12_setPosition 18 = .ok (.iconst 0, 1) := by decide +kernel
theorem dX12_setPosition_19 : decode cX12_setPosition 19 = .ok (.invokestatic 34, 3) := by decide +kernel
theorem dX12_setPosition_22 : decode cX12_setPosition 22 = .ok (.iload_n 3, 1) := by decide +kernel
theorem dX12_setPosition_23 : decode cX12_setPosition 23 = .ok (.bipush (-40), 2) := by decide +kernel
theorem dX12_setPosition_25 : decode cX12_setPosition 25 = .ok (.bipush 40, 2) := by decide +kernel
theorem dX12_setPosition_27 : decode cX12_setPosition 27 = .ok (.invokestatic 38, 3) := by decide +kernel
theorem dX12_setPosition_30 : decode cX12_setPosition 30 = .ok (.ifCond .eq 15, 3) := by decide +kernel
theorem dX12_setPosition_33 : decode cX12_setPosition 33 = .ok (.iload 4, 2) := by decide +kernel
theorem dX12_setPosition_35 : decode cX12_setPosition 35 = .ok (.invokestatic 62, 3) := by decide +kernel
theorem dX12_setPosition_38 : decode cX12_setPosition 38 = .ok (.ifCond .eq 7, 3) := by decide +kernel
theorem dX12_setPosition_41 : decode cX12_setPosition 41 = .ok (.iconst 1, 1) := by decide +kernel
theorem dX12_setPosition_42 : decode cX12_setPosition 42 = .ok (.goto 4, 3) := by decide +kernel
theorem dX12_setPosition_45 : decode cX12_setPosition 45 = .ok (.iconst 0, 1) := by decide +kernel
theorem dX12_setPosition_46 : decode cX12_setPosition 46 = .ok (.invokestatic 42, 3) := by decide +kernel
theorem dX12_setPosition_49 : decode cX12_setPosition 49 = .ok (.aload_n 0, 1) := by decide +kernel
theorem dX12_setPosition_50 : decode cX12_setPosition 50 = .ok (.getfield 19, 3) := by decide +kernel
theorem dX12_setPosition_53 : decode cX12_setPosition 53 = .ok (.aload_n 0, 1) := by decide +kernel
theorem dX12_setPosition_54 : decode cX12_setPosition 54 = .ok (.getfield 10, 3) := by decide +kernel
theorem dX12_setPosition_57 : decode cX12_setPosition 57 = .ok (.invokevirtual 45, 3) := by decide +kernel
theorem dX12_setPosition_60 : decode cX12_setPosition 60 = .ok (.aload_n 0, 1) := by decide +kernel
theorem dX12_setPosition_61 : decode cX12_setPosition 61 = .ok (.getfield 10, 3) := by decide +kernel
theorem dX12_setPosition_64 : decode cX12_setPosition 64 = .ok (.getfield 77, 3) := by decide +kernel
theorem dX12_setPosition_67 : decode cX12_setPosition 67 = .ok (.iload_n 1, 1) := by decide +kernel
theorem dX12_setPosition_68 : decode cX12_setPosition 68 = .ok (.bipush 8, 2) := by decide +kernel
theorem dX12_setPosition_70 : decode cX12_setPosition 70 = .ok (.imul, 1) := by decide +kernel
theorem dX12_setPosition_71 : decode cX12_setPosition 71 = .ok (.iload_n 2, 1) := by decide +kernel
theorem dX12_setPosition_72 : decode cX12_setPosition 72 = .ok (.iadd, 1) := by decide +kernel
theorem dX12_setPosition_73 : decode cX12_setPosition 73 = .ok (.aaload, 1) := by decide +kernel
theorem dX12_setPosition_74 : decode cX12_setPosition 74 = .ok (.astore 5, 2) := by decide +kernel
theorem dX12_setPosition_76 : decode cX12_setPosition 76 = .ok (.aload 5, 2) := by decide +kernel
theorem dX12_setPosition_78 : decode cX12_setPosition 78 = .ok (.getfield 81, 3) := by decide +kernel
theorem dX12_setPosition_81 : decode cX12_setPosition 81 = .ok (.istore 6, 2) := by decide +kernel
theorem dX12_setPosition_83 : decode cX12_setPosition 83 = .ok (.aload 5, 2) := by decide +kernel
theorem dX12_setPosition_85 : decode cX12_setPosition 85 = .ok (.iload_n 3, 1) := by decide +kernel
theorem dX12_setPosition_86 : decode cX12_setPosition 86 = .ok (.putfield 81, 3) := by decide +kernel
theorem dX12_setPosition_89 : decode cX12_setPosition 89 = .ok (.aload 5, 2) := by decide +kernel
theorem dX12_setPosition_91 : decode cX12_setPosition 91 = .ok (.iload 4, 2) := by decide +kernel
theorem dX12_setPosition_93 : decode cX12_setPosition 93 = .ok (.putfield 86, 3) := by decide +kernel
theorem dX12_setPosition_96 : decode cX12_setPosition 96 = .ok (.iload 6, 2) := by decide +kernel
theorem dX12_setPosition_98 : decode cX12_setPosition 98 = .ok (.ireturn, 1) := by decide +kernel
theorem dX12_setSharpness_0 : decode cX12_setSharpness 0 = .ok (.iload_n 1, 1) := by decide +kernel
theorem dX12_setSharpness_1 : decode cX12_setSharpness 1 = .ok (.invokestatic 62, 3) := by decide +kernel
theorem dX12_setSharpness_4 : decode cX12_setSharpness 4 = .ok (.invokestatic 42, 3) := by decide +kernel
theorem dX12_setSharpness_7 : decode cX12_setSharpness 7 = .ok (.aload_n 0, 1) := by decide +kernel
theorem dX12_setSharpness_8 : decode cX12_setSharpness 8 = .ok (.getfield 19, 3) := by decide +kernel
theorem dX12_setSharpness_11 : decode cX12_setSharpness 11 = .ok (.aload_n 0, 1) := by decide +kernel
theorem dX12_setSharpness_12 : decode cX12_setSharpness 12 = .ok (.getfield 10, 3) := by decide +kernel
theorem dX12_setSharpness_15 : decode cX12_setSharpness 15 = .ok (.invokevirtual 45, 3) := by decide +kernel
theorem dX12_setSharpness_18 : decode cX12_setSharpness 18 = .ok (.aload_n 0, 1) := by decide +kernel
theorem dX12_setSharpness_19 : decode cX12_setSharpness 19 = .ok (.getfield 10, 3) := by decide +kernel
theorem dX12_setSharpness_22 : decode cX12_setSharpness 22 = .ok (.getfield 89, 3) := by decide +kernel
theorem dX12_setSharpness_25 : decode cX12_setSharpness 25 = .ok (.istore_n 2, 1) := by decide +kernel
theorem dX12_setSharpness_26 : decode cX12_setSharpness 26 = .ok (.aload_n 0, 1) := by decide +kernel
theorem dX12_setSharpness_27 : decode cX12_setSharpness 27 = .ok (.getfield 10, 3) := by decide +kernel
theorem dX12_setSharpness_30 : decode cX12_setSharpness 30 = .ok (.iload_n 1, 1) := by decide +kernel
theorem dX12_setSharpness_31 : decode cX12_setSharpness 31 = .ok (.putfield 89, 3) := by decide +kernel
theorem dX12_setSharpness_34 : decode cX12_setSharpness 34 = .ok (.iload_n 2, 1) := by decide +kernel
theorem dX12_setSharpness_35 : decode cX12_setSharpness 35 = .ok (.ireturn, 1) := by decide +kernel
theorem dX12_setBoxSize_0 : decode cX12_setBoxSize 0 = .ok (.iload_n 1, 1) := by decide +kernel
theorem dX12_setBoxSize_1 : decode cX12_setBoxSize 1 = .ok (.iconst 1, 1) := by decide +kernel
theorem dX12_setBoxSize_2 : decode cX12_setBoxSize 2 = .ok (.bipush 50, 2) := by decide +kernel
theorem dX12_setBoxSize_4 : decode cX12_setBoxSize 4 = .ok (.invokestatic 38, 3) := by decide +kernel
theorem dX12_setBoxSize_7 : decode cX12_setBoxSize 7 = .ok (.invokestatic 42, 3) := by decide +kernel
theorem dX12_setBoxSize_10 : decode cX12_setBoxSize 10 = .ok (.aload_n 0, 1) := by decide +kernel
theorem dX12_setBoxSize_11 : decode cX12_setBoxSize 11 = .ok (.getfield 10, 3) := by decide +kernel
theorem dX12_setBoxSize_14 : decode cX12_setBoxSize 14 = .ok (.invokevirtual 92, 3) := by decide +kernel
theorem dX12_setBoxSize_17 : decode cX12_setBoxSize 17 = .ok (.ifCond .ne 17, 3) := by decide +kernel
theorem dX12_setBoxSize_20 : decode cX12_setBoxSize 20 = .ok (.aload_n 0, 1) := by decide +kernel
theorem dX12_setBoxSize_21 : decode cX12_setBoxSize 21 = .ok (.getfield 10, 3) := by decide +kernel
theorem dX12_setBoxSize_24 : decode cX12_setBoxSize 24 = .ok (.invokevirtual 96, 3) := by decide +kernel
theorem dX12_setBoxSize_27 : decode cX12_setBoxSize 27 = .ok (.ifCond .ne 7, 3) := by decide +kernel
theorem dX12_setBoxSize_30 : decode cX12_setBoxSize 30 = .ok (.iconst 1, 1) := by decide +kernel
theorem dX12_setBoxSize_31 : decode cX12_setBoxSize 31 = .ok (.goto 4, 3) := by decide +kernel
theorem dX12_setBoxSize_34 : decode cX12_setBoxSize 34 = .ok (.iconst 0, 1) := by decide +kernel
theorem dX12_setBoxSize_35 : decode cX12_setBoxSize 35 = .ok (.invokestatic 99, 3) := by decide +kernel
theorem dX12_setBoxSize_38 : decode cX12_setBoxSize 38 = .ok (.aload_n 0, 1) := by decide +kernel
theorem dX12_setBoxSize_39 : decode cX12_setBoxSize 39 = .ok (.getfield 19, 3) := by decide +kernel
theorem dX12_setBoxSize_42 : decode cX12_setBoxSize 42 = .ok (.aload_n 0, 1) := by decide +kernel
theorem dX12_setBoxSize_43 : decode cX12_setBoxSize 43 = .ok (.getfield 10, 3) := by decide +kernel
theorem dX12_setBoxSize_46 : decode cX12_setBoxSize 46 = .ok (.invokevirtual 45, 3) := by decide +kernel
theorem dX12_setBoxSize_49 : decode cX12_setBoxSize 49 = .ok (.aload_n 0, 1) := by decide +kernel
theorem dX12_setBoxSize_50 : decode cX12_setBoxSize 50 = .ok (.getfield 10, 3) := by decide +kernel
theorem dX12_setBoxSize_53 : decode cX12_setBoxSize 53 = .ok (.getfield 102, 3) := by decide +kernel
theorem dX12_setBoxSize_56 : decode cX12_setBoxSize 56 = .ok (.istore_n 2, 1) := by decide +kernel
theorem dX12_setBoxSize_57 : decode cX12_setBoxSize 57 = .ok (.aload_n 0, 1) := by decide +kernel
theorem dX12_setBoxSize_58 : decode cX12_setBoxSize 58 = .ok (.getfield 10, 3) := by decide +kernel
theorem dX12_setBoxSize_61 : decode cX12_setBoxSize 61 = .ok (.iload_n 1, 1) := by decide +kernel
theorem dX12_setBoxSize_62 : decode cX12_setBoxSize 62 = .ok (.putfield 102, 3) := by decide +kernel
theorem dX12_setBoxSize_65 : decode cX12_setBoxSize 65 = .ok (.iload_n 2, 1) := by decide +kernel
theorem dX12_setBoxSize_66 : decode cX12_setBoxSize 66 = .ok (.ireturn, 1) := by decide +kernel
theorem dX12_fire_0 : decode cX12_fire 0 = .ok (.aload_n 0, 1) := by decide +kernel
theorem dX12_fire_1 : decode cX12_fire 1 = .ok (.getfield 10, 3) := by decide +kernel
theorem dX12_fire_4 : decode cX12_fire 4 = .ok (.iload_n 1, 1) := by decide +kernel
theorem dX12_fire_5 : decode cX12_fire 5 = .ok (.iload_n 2, 1) := by decide +kernel
theorem dX12_fire_6 : decode cX12_fire 6 = .ok (.iload_n 3, 1) := by decide +kernel
theorem dX12_fire_7 : decode cX12_fire 7 = .ok (.iload 4, 2) := by decide +kernel
theorem dX12_fire_9 : decode cX12_fire 9 = .ok (.invokevirtual 105, 3) := by decide +kernel
theorem dX12_fire_12 : decode cX12_fire 12 = .ok (.invokestatic 109, 3) := by decide +kernel
theorem dX12_fire_15 : decode cX12_fire 15 = .ok (.aload_n 0, 1) := by decide +kernel
theorem dX12_fire_16 : decode cX12_fire 16 = .ok (.getfield 19, 3) := by decide +kernel
theorem dX12_fire_19 : decode cX12_fire 19 = .ok (.aload_n 0, 1) := by decide +kernel
theorem dX12_fire_20 : decode cX12_fire 20 = .ok (.getfield 10, 3) := by decide +kernel
theorem dX12_fire_23 : decode cX12_fire 23 = .ok (.invokevirtual 45, 3) := by decide +kernel
theorem dX12_fire_26 : decode cX12_fire 26 = .ok (.aload_n 0, 1) := by decide +kernel
theorem dX12_fire_27 : decode cX12_fire 27 = .ok (.getfield 10, 3) := by decide +kernel
theorem dX12_fire_30 : decode cX12_fire 30 = .ok (.iload_n 1, 1) := by decide +kernel
theorem dX12_fire_31 : decode cX12_fire 31 = .ok (.iload_n 2, 1) := by decide +kernel
theorem dX12_fire_32 : decode cX12_fire 32 = .ok (.iload_n 3, 1) := by decide +kernel
theorem dX12_fire_33 : decode cX12_fire 33 = .ok (.iload 4, 2) := by decide +kernel
theorem dX12_fire_35 : decode cX12_fire 35 = .ok (.invokevirtual 113, 3) := by decide +kernel
theorem dX12_fire_38 : decode cX12_fire 38 = .ok (.ireturn, 1) := by decide +kernel
theorem dX12_grade_0 : decode cX12_grade 0 = .ok (.aload_n 0, 1) := by decide +kernel
theorem dX12_grade_1 : decode cX12_grade 1 = .ok (.getfield 10, 3) := by decide +kernel
theorem dX12_grade_4 : decode cX12_grade 4 = .ok (.iload_n 1, 1) := by decide +kernel
theorem dX12_grade_5 : decode cX12_grade 5 = .ok (.invokevirtual 117, 3) := by decide +kernel
theorem dX12_grade_8 : decode cX12_grade 8 = .ok (.invokestatic 109, 3) := by decide +kernel
theorem dX12_grade_11 : decode cX12_grade 11 = .ok (.aload_n 0, 1) := by decide +kernel
theorem dX12_grade_12 : decode cX12_grade 12 = .ok (.getfield 19, 3) := by decide +kernel
theorem dX12_grade_15 : decode cX12_grade 15 = .ok (.aload_n 0, 1) := by decide +kernel
theorem dX12_grade_16 : decode cX12_grade 16 = .ok (.getfield 10, 3) := by decide +kernel
theorem dX12_grade_19 : decode cX12_grade 19 = .ok (.invokevirtual 45, 3) := by decide +kernel
theorem dX12_grade_22 : decode cX12_grade 22 = .ok (.aload_n 0, 1) := by decide +kernel
theorem dX12_grade_23 : decode cX12_grade 23 = .ok (.getfield 10, 3) := by decide +kernel
theorem dX12_grade_26 : decode cX12_grade 26 = .ok (.iload_n 1, 1) := by decide +kernel
theorem dX12_grade_27 : decode cX12_grade 27 = .ok (.invokevirtual 121, 3) := by decide +kernel
theorem dX12_grade_30 : decode cX12_grade 30 = .ok (.ireturn, 1) := by decide +kernel
theorem dX12_pack_0 : decode cX12_pack 0 = .ok (.aload_n 0, 1) := by decide +kernel
theorem dX12_pack_1 : decode cX12_pack 1 = .ok (.getfield 19, 3) := by decide +kernel
theorem dX12_pack_4 : decode cX12_pack 4 = .ok (.aload_n 0, 1) := by decide +kernel
theorem dX12_pack_5 : decode cX12_pack 5 = .ok (.getfield 10, 3) := by decide +kernel
theorem dX12_pack_8 : decode cX12_pack 8 = .ok (.invokevirtual 45, 3) := by decide +kernel
theorem dX12_pack_11 : decode cX12_pack 11 = .ok (.aload_n 0, 1) := by decide +kernel
theorem dX12_pack_12 : decode cX12_pack 12 = .ok (.getfield 10, 3) := by decide +kernel
theorem dX12_pack_15 : decode cX12_pack 15 = .ok (.invokevirtual 125, 3) := by decide +kernel
theorem dX12_pack_18 : decode cX12_pack 18 = .ok (.ireturn, 1) := by decide +kernel
theorem dX12_deliver_0 : decode cX12_deliver 0 = .ok (.aload_n 0, 1) := by decide +kernel
theorem dX12_deliver_1 : decode cX12_deliver 1 = .ok (.getfield 10, 3) := by decide +kernel
theorem dX12_deliver_4 : decode cX12_deliver 4 = .ok (.iload_n 1, 1) := by decide +kernel
theorem dX12_deliver_5 : decode cX12_deliver 5 = .ok (.iload_n 2, 1) := by decide +kernel
theorem dX12_deliver_6 : decode cX12_deliver 6 = .ok (.iload_n 3, 1) := by decide +kernel
theorem dX12_deliver_7 : decode cX12_deliver 7 = .ok (.invokevirtual 128, 3) := by decide +kernel
theorem dX12_deliver_10 : decode cX12_deliver 10 = .ok (.invokestatic 109, 3) := by decide +kernel
theorem dX12_deliver_13 : decode cX12_deliver 13 = .ok (.aload_n 0, 1) := by decide +kernel
theorem dX12_deliver_14 : decode cX12_deliver 14 = .ok (.getfield 19, 3) := by decide +kernel
theorem dX12_deliver_17 : decode cX12_deliver 17 = .ok (.aload_n 0, 1) := by decide +kernel
theorem dX12_deliver_18 : decode cX12_deliver 18 = .ok (.getfield 10, 3) := by decide +kernel
theorem dX12_deliver_21 : decode cX12_deliver 21 = .ok (.invokevirtual 45, 3) := by decide +kernel
theorem dX12_deliver_24 : decode cX12_deliver 24 = .ok (.aload_n 0, 1) := by decide +kernel
theorem dX12_deliver_25 : decode cX12_deliver 25 = .ok (.getfield 10, 3) := by decide +kernel
theorem dX12_deliver_28 : decode cX12_deliver 28 = .ok (.iload_n 1, 1) := by decide +kernel
theorem dX12_deliver_29 : decode cX12_deliver 29 = .ok (.iload_n 2, 1) := by decide +kernel
theorem dX12_deliver_30 : decode cX12_deliver 30 = .ok (.iload_n 3, 1) := by decide +kernel
theorem dX12_deliver_31 : decode cX12_deliver 31 = .ok (.invokevirtual 132, 3) := by decide +kernel
theorem dX12_deliver_34 : decode cX12_deliver 34 = .ok (.ireturn, 1) := by decide +kernel
theorem dX12_drop_0 : decode cX12_drop 0 = .ok (.aload_n 0, 1) := by decide +kernel
theorem dX12_drop_1 : decode cX12_drop 1 = .ok (.getfield 10, 3) := by decide +kernel
theorem dX12_drop_4 : decode cX12_drop 4 = .ok (.iload_n 1, 1) := by decide +kernel
theorem dX12_drop_5 : decode cX12_drop 5 = .ok (.iload_n 2, 1) := by decide +kernel
theorem dX12_drop_6 : decode cX12_drop 6 = .ok (.iload_n 3, 1) := by decide +kernel
theorem dX12_drop_7 : decode cX12_drop 7 = .ok (.iload 4, 2) := by decide +kernel
theorem dX12_drop_9 : decode cX12_drop 9 = .ok (.invokevirtual 136, 3) := by decide +kernel
theorem dX12_drop_12 : decode cX12_drop 12 = .ok (.invokestatic 109, 3) := by decide +kernel
theorem dX12_drop_15 : decode cX12_drop 15 = .ok (.aload_n 0, 1) := by decide +kernel
theorem dX12_drop_16 : decode cX12_drop 16 = .ok (.getfield 19, 3) := by decide +kernel
theorem dX12_drop_19 : decode cX12_drop 19 = .ok (.aload_n 0, 1) := by decide +kernel
theorem dX12_drop_20 : decode cX12_drop 20 = .ok (.getfield 10, 3) := by decide +kernel
theorem dX12_drop_23 : decode cX12_drop 23 = .ok (.invokevirtual 45, 3) := by decide +kernel
theorem dX12_drop_26 : decode cX12_drop 26 = .ok (.aload_n 0, 1) := by decide +kernel
theorem dX12_drop_27 : decode cX12_drop 27 = .ok (.getfield 10, 3) := by decide +kernel
theorem dX12_drop_30 : decode cX12_drop 30 = .ok (.iload_n 1, 1) := by decide +kernel
theorem dX12_drop_31 : decode cX12_drop 31 = .ok (.iload_n 2, 1) := by decide +kernel
theorem dX12_drop_32 : decode cX12_drop 32 = .ok (.iload_n 3, 1) := by decide +kernel
theorem dX12_drop_33 : decode cX12_drop 33 = .ok (.iload 4, 2) := by decide +kernel
theorem dX12_drop_35 : decode cX12_drop 35 = .ok (.invokevirtual 139, 3) := by decide +kernel
theorem dX12_drop_38 : decode cX12_drop 38 = .ok (.ireturn, 1) := by decide +kernel
theorem dX12_takeBack_0 : decode cX12_takeBack 0 = .ok (.aload_n 0, 1) := by decide +kernel
theorem dX12_takeBack_1 : decode cX12_takeBack 1 = .ok (.getfield 10, 3) := by decide +kernel
theorem dX12_takeBack_4 : decode cX12_takeBack 4 = .ok (.iload_n 1, 1) := by decide +kernel
theorem dX12_takeBack_5 : decode cX12_takeBack 5 = .ok (.iload_n 2, 1) := by decide +kernel
theorem dX12_takeBack_6 : decode cX12_takeBack 6 = .ok (.iload_n 3, 1) := by decide +kernel
theorem dX12_takeBack_7 : decode cX12_takeBack 7 = .ok (.invokevirtual 142, 3) := by decide +kernel
theorem dX12_takeBack_10 : decode cX12_takeBack 10 = .ok (.invokestatic 109, 3) := by decide +kernel
theorem dX12_takeBack_13 : decode cX12_takeBack 13 = .ok (.aload_n 0, 1) := by decide +kernel
theorem dX12_takeBack_14 : decode cX12_takeBack 14 = .ok (.getfield 19, 3) := by decide +kernel
theorem dX12_takeBack_17 : decode cX12_takeBack 17 = .ok (.aload_n 0, 1) := by decide +kernel
theorem dX12_takeBack_18 : decode cX12_takeBack 18 = .ok (.getfield 10, 3) := by decide +kernel
theorem dX12_takeBack_21 : decode cX12_takeBack 21 = .ok (.invokevirtual 45, 3) := by decide +kernel
theorem dX12_takeBack_24 : decode cX12_takeBack 24 = .ok (.aload_n 0, 1) := by decide +kernel
theorem dX12_takeBack_25 : decode cX12_takeBack 25 = .ok (.getfield 10, 3) := by decide +kernel
theorem dX12_takeBack_28 : decode cX12_takeBack 28 = .ok (.iload_n 1, 1) := by decide +kernel
theorem dX12_takeBack_29 : decode cX12_takeBack 29 = .ok (.iload_n 2, 1) := by decide +kernel
theorem dX12_takeBack_30 : decode cX12_takeBack 30 = .ok (.iload_n 3, 1) := by decide +kernel
theorem dX12_takeBack_31 : decode cX12_takeBack 31 = .ok (.invokevirtual 145, 3) := by decide +kernel
theorem dX12_takeBack_34 : decode cX12_takeBack 34 = .ok (.ireturn, 1) := by decide +kernel
theorem dX12_replace_0 : decode cX12_replace 0 = .ok (.aload_n 0, 1) := by decide +kernel
theorem dX12_replace_1 : decode cX12_replace 1 = .ok (.getfield 10, 3) := by decide +kernel
theorem dX12_replace_4 : decode cX12_replace 4 = .ok (.iload_n 1, 1) := by decide +kernel
theorem dX12_replace_5 : decode cX12_replace 5 = .ok (.invokevirtual 148, 3) := by decide +kernel
theorem dX12_replace_8 : decode cX12_replace 8 = .ok (.invokestatic 109, 3) := by decide +kernel
theorem dX12_replace_11 : decode cX12_replace 11 = .ok (.aload_n 0, 1) := by decide +kernel
theorem dX12_replace_12 : decode cX12_replace 12 = .ok (.getfield 19, 3) := by decide +kernel
theorem dX12_replace_15 : decode cX12_replace 15 = .ok (.aload_n 0, 1) := by decide +kernel
theorem dX12_replace_16 : decode cX12_replace 16 = .ok (.getfield 10, 3) := by decide +kernel
theorem dX12_replace_19 : decode cX12_replace 19 = .ok (.invokevirtual 45, 3) := by decide +kernel
theorem dX12_replace_22 : decode cX12_replace 22 = .ok (.aload_n 0, 1) := by decide +kernel
theorem dX12_replace_23 : decode cX12_replace 23 = .ok (.getfield 10, 3) := by decide +kernel
theorem dX12_replace_26 : decode cX12_replace 26 = .ok (.iload_n 1, 1) := by decide +kernel
theorem dX12_replace_27 : decode cX12_replace 27 = .ok (.invokevirtual 151, 3) := by decide +kernel
theorem dX12_replace_30 : decode cX12_replace 30 = .ok (.ireturn, 1) := by decide +kernel
theorem dX12_undo_0 : decode cX12_undo 0 = .ok (.aload_n 0, 1) := by decide +kernel
theorem dX12_undo_1 : decode cX12_undo 1 = .ok (.getfield 19, 3) := by decide +kernel
theorem dX12_undo_4 : decode cX12_undo 4 = .ok (.getfield 154, 3) := by decide +kernel
theorem dX12_undo_7 : decode cX12_undo 7 = .ok (.ifCond .le 7, 3) := by decide +kernel
theorem dX12_undo_10 : decode cX12_undo 10 = .ok (.iconst 1, 1) := by decide +kernel
theorem dX12_undo_11 : decode cX12_undo 11 = .ok (.goto 4, 3) := by decide +kernel
theorem dX12_undo_14 : decode cX12_undo 14 = .ok (.iconst 0, 1) := by decide +kernel
theorem dX12_undo_15 : decode cX12_undo 15 = .ok (.invokestatic 99, 3) := by decide +kernel
theorem dX12_undo_18 : decode cX12_undo 18 = .ok (.aload_n 0, 1) := by decide +kernel
theorem dX12_undo_19 : decode cX12_undo 19 = .ok (.getfield 19, 3) := by decide +kernel
theorem dX12_undo_22 : decode cX12_undo 22 = .ok (.aload_n 0, 1) := by decide +kernel
theorem dX12_undo_23 : decode cX12_undo 23 = .ok (.getfield 10, 3) := by decide +kernel
theorem dX12_undo_26 : decode cX12_undo 26 = .ok (.invokevirtual 157, 3) := by decide +kernel
theorem dX12_undo_29 : decode cX12_undo 29 = .ok (.aload_n 0, 1) := by decide +kernel
theorem dX12_undo_30 : decode cX12_undo 30 = .ok (.getfield 19, 3) := by decide +kernel
theorem dX12_undo_33 : decode cX12_undo 33 = .ok (.getfield 154, 3) := by decide +kernel
theorem dX12_undo_36 : decode cX12_undo 36 = .ok (.ireturn, 1) := by decide +kernel
theorem dX12_lot_0 : decode cX12_lot 0 = .ok (.aload_n 0, 1) := by decide +kernel
theorem dX12_lot_1 : decode cX12_lot 1 = .ok (.getfield 10, 3) := by decide +kernel
theorem dX12_lot_4 : decode cX12_lot 4 = .ok (.iload_n 1, 1) := by decide +kernel
theorem dX12_lot_5 : decode cX12_lot 5 = .ok (.invokevirtual 181, 3) := by decide +kernel
theorem dX12_lot_8 : decode cX12_lot 8 = .ok (.invokestatic 34, 3) := by decide +kernel
theorem dX12_lot_11 : decode cX12_lot 11 = .ok (.iload_n 2, 1) := by decide +kernel
theorem dX12_lot_12 : decode cX12_lot 12 = .ok (.iconst 0, 1) := by decide +kernel
theorem dX12_lot_13 : decode cX12_lot 13 = .ok (.iconst 5, 1) := by decide +kernel
theorem dX12_lot_14 : decode cX12_lot 14 = .ok (.invokestatic 38, 3) := by decide +kernel
theorem dX12_lot_17 : decode cX12_lot 17 = .ok (.invokestatic 42, 3) := by decide +kernel
theorem dX12_lot_20 : decode cX12_lot 20 = .ok (.aload_n 0, 1) := by decide +kernel
theorem dX12_lot_21 : decode cX12_lot 21 = .ok (.getfield 10, 3) := by decide +kernel
theorem dX12_lot_24 : decode cX12_lot 24 = .ok (.getfield 184, 3) := by decide +kernel
theorem dX12_lot_27 : decode cX12_lot 27 = .ok (.iload_n 1, 1) := by decide +kernel
theorem dX12_lot_28 : decode cX12_lot 28 = .ok (.aaload, 1) := by decide +kernel
theorem dX12_lot_29 : decode cX12_lot 29 = .ok (.iload_n 2, 1) := by decide +kernel
theorem dX12_lot_30 : decode cX12_lot 30 = .ok (.invokevirtual 188, 3) := by decide +kernel
theorem dX12_lot_33 : decode cX12_lot 33 = .ok (.ireturn, 1) := by decide +kernel
theorem dX12_delivery_0 : decode cX12_delivery 0 = .ok (.aload_n 0, 1) := by decide +kernel
theorem dX12_delivery_1 : decode cX12_delivery 1 = .ok (.getfield 10, 3) := by decide +kernel
theorem dX12_delivery_4 : decode cX12_delivery 4 = .ok (.iload_n 1, 1) := by decide +kernel
theorem dX12_delivery_5 : decode cX12_delivery 5 = .ok (.invokevirtual 200, 3) := by decide +kernel
theorem dX12_delivery_8 : decode cX12_delivery 8 = .ok (.invokestatic 34, 3) := by decide +kernel
theorem dX12_delivery_11 : decode cX12_delivery 11 = .ok (.iload_n 2, 1) := by decide +kernel
theorem dX12_delivery_12 : decode cX12_delivery 12 = .ok (.iconst 0, 1) := by decide +kernel
theorem dX12_delivery_13 : decode cX12_delivery 13 = .ok (.iconst 4, 1) := by decide +kernel
theorem dX12_delivery_14 : decode cX12_delivery 14 = .ok (.invokestatic 38, 3) := by decide +kernel
theorem dX12_delivery_17 : decode cX12_delivery 17 = .ok (.invokestatic 42, 3) := by decide +kernel
theorem dX12_delivery_20 : decode cX12_delivery 20 = .ok (.aload_n 0, 1) := by decide +kernel
theorem dX12_delivery_21 : decode cX12_delivery 21 = .ok (.getfield 10, 3) := by decide +kernel
theorem dX12_delivery_24 : decode cX12_delivery 24 = .ok (.getfield 203, 3) := by decide +kernel
theorem dX12_delivery_27 : decode cX12_delivery 27 = .ok (.iload_n 1, 1) := by decide +kernel
theorem dX12_delivery_28 : decode cX12_delivery 28 = .ok (.aaload, 1) := by decide +kernel
theorem dX12_delivery_29 : decode cX12_delivery 29 = .ok (.iload_n 2, 1) := by decide +kernel
theorem dX12_delivery_30 : decode cX12_delivery 30 = .ok (.invokevirtual 207, 3) := by decide +kernel
theorem dX12_delivery_33 : decode cX12_delivery 33 = .ok (.lreturn, 1) := by decide +kernel
theorem dX12_event_0 : decode cX12_event 0 = .ok (.iload_n 1, 1) := by decide +kernel
theorem dX12_event_1 : decode cX12_event 1 = .ok (.ifCond .lt 16, 3) := by decide +kernel
theorem dX12_event_4 : decode cX12_event 4 = .ok (.iload_n 2, 1) := by decide +kernel
theorem dX12_event_5 : decode cX12_event 5 = .ok (.iconst 0, 1) := by decide +kernel
theorem dX12_event_6 : decode cX12_event 6 = .ok (.iconst 1, 1) := by decide +kernel
theorem dX12_event_7 : decode cX12_event 7 = .ok (.invokestatic 38, 3) := by decide +kernel
theorem dX12_event_10 : decode cX12_event 10 = .ok (.ifCond .eq 7, 3) := by decide +kernel
theorem dX12_event_13 : decode cX12_event 13 = .ok (.iconst 1, 1) := by decide +kernel
theorem dX12_event_14 : decode cX12_event 14 = .ok (.goto 4, 3) := by decide +kernel
theorem dX12_event_17 : decode cX12_event 17 = .ok (.iconst 0, 1) := by decide +kernel
theorem dX12_event_18 : decode cX12_event 18 = .ok (.invokestatic 42, 3) := by decide +kernel
theorem dX12_event_21 : decode cX12_event 21 = .ok (.iload_n 2, 1) := by decide +kernel
theorem dX12_event_22 : decode cX12_event 22 = .ok (.ifCond .ne 17, 3) := by decide +kernel
theorem dX12_event_25 : decode cX12_event 25 = .ok (.aload_n 0, 1) := by decide +kernel
theorem dX12_event_26 : decode cX12_event 26 = .ok (.getfield 10, 3) := by decide +kernel
theorem dX12_event_29 : decode cX12_event 29 = .ok (.getfield 212, 3) := by decide +kernel
theorem dX12_event_32 : decode cX12_event 32 = .ok (.iload_n 1, 1) := by decide +kernel
theorem dX12_event_33 : decode cX12_event 33 = .ok (.invokevirtual 216, 3) := by decide +kernel
theorem dX12_event_36 : decode cX12_event 36 = .ok (.goto 14, 3) := by decide +kernel
theorem dX12_event_39 : decode cX12_event 39 = .ok (.aload_n 0, 1) := by decide +kernel
theorem dX12_event_40 : decode cX12_event 40 = .ok (.getfield 10, 3) := by decide +kernel
theorem dX12_event_43 : decode cX12_event 43 = .ok (.getfield 212, 3) := by decide +kernel
theorem dX12_event_46 : decode cX12_event 46 = .ok (.iload_n 1, 1) := by decide +kernel
theorem dX12_event_47 : decode cX12_event 47 = .ok (.invokevirtual 221, 3) := by decide +kernel
theorem dX12_event_50 : decode cX12_event 50 = .ok (.ireturn, 1) := by decide +kernel
theorem dX12_total_0 : decode cX12_total 0 = .ok (.iload_n 1, 1) := by decide +kernel
theorem dX12_total_1 : decode cX12_total 1 = .ok (.iconst 0, 1) := by decide +kernel
theorem dX12_total_2 : decode cX12_total 2 = .ok (.bipush 15, 2) := by decide +kernel
theorem dX12_total_4 : decode cX12_total 4 = .ok (.invokestatic 38, 3) := by decide +kernel
theorem dX12_total_7 : decode cX12_total 7 = .ok (.invokestatic 42, 3) := by decide +kernel
theorem dX12_total_10 : decode cX12_total 10 = .ok (.iload_n 1, 1) := by decide +kernel
theorem dX12_total_11 : decode cX12_total 11 = .ok (.bipush 12, 2) := by decide +kernel
theorem dX12_total_13 : decode cX12_total 13 = .ok (.if_icmp .ne 12, 3) := by decide +kernel
theorem dX12_total_16 : decode cX12_total 16 = .ok (.aload_n 0, 1) := by decide +kernel
theorem dX12_total_17 : decode cX12_total 17 = .ok (.getfield 19, 3) := by decide +kernel
theorem dX12_total_20 : decode cX12_total 20 = .ok (.getfield 154, 3) := by decide +kernel
theorem dX12_total_23 : decode cX12_total 23 = .ok (.i2l, 1) := by decide +kernel
theorem dX12_total_24 : decode cX12_total 24 = .ok (.lreturn, 1) := by decide +kernel
theorem dX12_total_25 : decode cX12_total 25 = .ok (.iload_n 1, 1) := by decide +kernel
theorem dX12_total_26 : decode cX12_total 26 = .ok (.bipush 15, 2) := by decide +kernel
theorem dX12_total_28 : decode cX12_total 28 = .ok (.if_icmp .ne 12, 3) := by decide +kernel
theorem dX12_total_31 : decode cX12_total 31 = .ok (.aload_n 0, 1) := by decide +kernel
theorem dX12_total_32 : decode cX12_total 32 = .ok (.getfield 26, 3) := by decide +kernel
theorem dX12_total_35 : decode cX12_total 35 = .ok (.getfield 224, 3) := by decide +kernel
theorem dX12_total_38 : decode cX12_total 38 = .ok (.i2l, 1) := by decide +kernel
theorem dX12_total_39 : decode cX12_total 39 = .ok (.lreturn, 1) := by decide +kernel
theorem dX12_total_40 : decode cX12_total 40 = .ok (.aload_n 0, 1) := by decide +kernel
theorem dX12_total_41 : decode cX12_total 41 = .ok (.getfield 10, 3) := by decide +kernel
theorem dX12_total_44 : decode cX12_total 44 = .ok (.iload_n 1, 1) := by decide +kernel
theorem dX12_total_45 : decode cX12_total 45 = .ok (.invokevirtual 227, 3) := by decide +kernel
theorem dX12_total_48 : decode cX12_total 48 = .ok (.lreturn, 1) := by decide +kernel
theorem dX12_shadeAt_0 : decode cX12_shadeAt 0 = .ok (.iload_n 1, 1) := by decide +kernel
theorem dX12_shadeAt_1 : decode cX12_shadeAt 1 = .ok (.invokestatic 71, 3) := by decide +kernel
theorem dX12_shadeAt_4 : decode cX12_shadeAt 4 = .ok (.ifCond .eq 21, 3) := by decide +kernel
theorem dX12_shadeAt_7 : decode cX12_shadeAt 7 = .ok (.iload_n 2, 1) := by decide +kernel
theorem dX12_shadeAt_8 : decode cX12_shadeAt 8 = .ok (.invokestatic 74, 3) := by decide +kernel
theorem dX12_shadeAt_11 : decode cX12_shadeAt 11 = .ok (.ifCond .eq 14, 3) := by decide +kernel
theorem dX12_shadeAt_14 : decode cX12_shadeAt 14 = .ok (.iload_n 3, 1) := by decide +kernel
theorem dX12_shadeAt_15 : decode cX12_shadeAt 15 = .ok (.invokestatic 30, 3) := by decide +kernel
theorem dX12_shadeAt_18 : decode cX12_shadeAt 18 = .ok (.ifCond .eq 7, 3) := by decide +kernel
theorem dX12_shadeAt_21 : decode cX12_shadeAt 21 = .ok (.iconst 1, 1) := by decide +kernel
theorem dX12_shadeAt_22 : decode cX12_shadeAt 22 = .ok (.goto 4, 3) := by decide +kernel
theorem dX12_shadeAt_25 : decode cX12_shadeAt 25 = .ok (.iconst 0, 1) := by decide +kernel
theorem dX12_shadeAt_26 : decode cX12_shadeAt 26 = .ok (.invokestatic 34, 3) := by decide +kernel
theorem dX12_shadeAt_29 : decode cX12_shadeAt 29 = .ok (.iload 4, 2) := by decide +kernel
theorem dX12_shadeAt_31 : decode cX12_shadeAt 31 = .ok (.invokestatic 230, 3) := by decide +kernel
theorem dX12_shadeAt_34 : decode cX12_shadeAt 34 = .ok (.invokestatic 42, 3) := by decide +kernel
theorem dX12_shadeAt_37 : decode cX12_shadeAt 37 = .ok (.aload_n 0, 1) := by decide +kernel
theorem dX12_shadeAt_38 : decode cX12_shadeAt 38 = .ok (.getfield 10, 3) := by decide +kernel
theorem dX12_shadeAt_41 : decode cX12_shadeAt 41 = .ok (.getfield 77, 3) := by decide +kernel
theorem dX12_shadeAt_44 : decode cX12_shadeAt 44 = .ok (.iload_n 1, 1) := by decide +kernel
theorem dX12_shadeAt_45 : decode cX12_shadeAt 45 = .ok (.bipush 8, 2) := by decide +kernel
theorem dX12_shadeAt_47 : decode cX12_shadeAt 47 = .ok (.imul, 1) := by decide +kernel
theorem dX12_shadeAt_48 : decode cX12_shadeAt 48 = .ok (.iload_n 2, 1) := by decide +kernel
theorem dX12_shadeAt_49 : decode cX12_shadeAt 49 = .ok (.iadd, 1) := by decide +kernel
theorem dX12_shadeAt_50 : decode cX12_shadeAt 50 = .ok (.aaload, 1) := by decide +kernel
theorem dX12_shadeAt_51 : decode cX12_shadeAt 51 = .ok (.iload 4, 2) := by decide +kernel
theorem dX12_shadeAt_53 : decode cX12_shadeAt 53 = .ok (.invokevirtual 233, 3) := by decide +kernel
theorem dX12_shadeAt_56 : decode cX12_shadeAt 56 = .ok (.istore 5, 2) := by decide +kernel
theorem dX12_shadeAt_58 : decode cX12_shadeAt 58 = .ok (.aload_n 0, 1) := by decide +kernel
theorem dX12_shadeAt_59 : decode cX12_shadeAt 59 = .ok (.getfield 10, 3) := by decide +kernel
theorem dX12_shadeAt_62 : decode cX12_shadeAt 62 = .ok (.getfield 49, 3) := by decide +kernel
theorem dX12_shadeAt_65 : decode cX12_shadeAt 65 = .ok (.iload_n 3, 1) := by decide +kernel
theorem dX12_shadeAt_66 : decode cX12_shadeAt 66 = .ok (.aaload, 1) := by decide +kernel
theorem dX12_shadeAt_67 : decode cX12_shadeAt 67 = .ok (.iload 5, 2) := by decide +kernel
theorem dX12_shadeAt_69 : decode cX12_shadeAt 69 = .ok (.invokevirtual 236, 3) := by decide +kernel
theorem dX12_shadeAt_72 : decode cX12_shadeAt 72 = .ok (.ireturn, 1) := by decide +kernel
theorem dX12_bestPeak_0 : decode cX12_bestPeak 0 = .ok (.iload_n 1, 1) := by decide +kernel
theorem dX12_bestPeak_1 : decode cX12_bestPeak 1 = .ok (.invokestatic 71, 3) := by decide +kernel
theorem dX12_bestPeak_4 : decode cX12_bestPeak 4 = .ok (.ifCond .eq 14, 3) := by decide +kernel
theorem dX12_bestPeak_7 : decode cX12_bestPeak 7 = .ok (.iload_n 2, 1) := by decide +kernel
theorem dX12_bestPeak_8 : decode cX12_bestPeak 8 = .ok (.invokestatic 30, 3) := by decide +kernel
theorem dX12_bestPeak_11 : decode cX12_bestPeak 11 = .ok (.ifCond .eq 7, 3) := by decide +kernel
theorem dX12_bestPeak_14 : decode cX12_bestPeak 14 = .ok (.iconst 1, 1) := by decide +kernel
theorem dX12_bestPeak_15 : decode cX12_bestPeak 15 = .ok (.goto 4, 3) := by decide +kernel
theorem dX12_bestPeak_18 : decode cX12_bestPeak 18 = .ok (.iconst 0, 1) := by decide +kernel
theorem dX12_bestPeak_19 : decode cX12_bestPeak 19 = .ok (.invokestatic 34, 3) := by decide +kernel
theorem dX12_bestPeak_22 : decode cX12_bestPeak 22 = .ok (.iload_n 3, 1) := by decide +kernel
theorem dX12_bestPeak_23 : decode cX12_bestPeak 23 = .ok (.invokestatic 191, 3) := by decide +kernel
theorem dX12_bestPeak_26 : decode cX12_bestPeak 26 = .ok (.invokestatic 42, 3) := by decide +kernel
theorem dX12_bestPeak_29 : decode cX12_bestPeak 29 = .ok (.iconst (-1), 1) := by decide +kernel
theorem dX12_bestPeak_30 : decode cX12_bestPeak 30 = .ok (.istore 4, 2) := by decide +kernel
theorem dX12_bestPeak_32 : decode cX12_bestPeak 32 = .ok (.iconst 0, 1) := by decide +kernel
theorem dX12_bestPeak_33 : decode cX12_bestPeak 33 = .ok (.istore 5, 2) := by decide +kernel
theorem dX12_bestPeak_35 : decode cX12_bestPeak 35 = .ok (.sipush 800, 3) := by decide +kernel
theorem dX12_bestPeak_38 : decode cX12_bestPeak 38 = .ok (.istore 6, 2) := by decide +kernel
theorem dX12_bestPeak_40 : decode cX12_bestPeak 40 = .ok (.iload 6, 2) := by decide +kernel
theorem dX12_bestPeak_42 : decode cX12_bestPeak 42 = .ok (.sipush 1200, 3) := by decide +kernel
theorem dX12_bestPeak_45 : decode cX12_bestPeak 45 = .ok (.if_icmp .gt 38, 3) := by decide +kernel
theorem dX12_bestPeak_48 : decode cX12_bestPeak 48 = .ok (.aload_n 0, 1) := by decide +kernel
theorem dX12_bestPeak_49 : decode cX12_bestPeak 49 = .ok (.getfield 10, 3) := by decide +kernel
theorem dX12_bestPeak_52 : decode cX12_bestPeak 52 = .ok (.iload_n 1, 1) := by decide +kernel
theorem dX12_bestPeak_53 : decode cX12_bestPeak 53 = .ok (.iload_n 2, 1) := by decide +kernel
theorem dX12_bestPeak_54 : decode cX12_bestPeak 54 = .ok (.iload 6, 2) := by decide +kernel
theorem dX12_bestPeak_56 : decode cX12_bestPeak 56 = .ok (.iload_n 3, 1) := by decide +kernel
theorem dX12_bestPeak_57 : decode cX12_bestPeak 57 = .ok (.invokevirtual 239, 3) := by decide +kernel
theorem dX12_bestPeak_60 : decode cX12_bestPeak 60 = .ok (.istore 7, 2) := by decide +kernel
theorem dX12_bestPeak_62 : decode cX12_bestPeak 62 = .ok (.iload 7, 2) := by decide +kernel
theorem dX12_bestPeak_64 : decode cX12_bestPeak 64 = .ok (.iload 5, 2) := by decide +kernel
theorem dX12_bestPeak_66 : decode cX12_bestPeak 66 = .ok (.if_icmp .le 11, 3) := by decide +kernel
theorem dX12_bestPeak_69 : decode cX12_bestPeak 69 = .ok (.iload 7, 2) := by decide +kernel
theorem dX12_bestPeak_71 : decode cX12_bestPeak 71 = .ok (.istore 5, 2) := by decide +kernel
theorem dX12_bestPeak_73 : decode cX12_bestPeak 73 = .ok (.iload 6, 2) := by decide +kernel
theorem dX12_bestPeak_75 : decode cX12_bestPeak 75 = .ok (.istore 4, 2) := by decide +kernel
theorem dX12_bestPeak_77 : decode cX12_bestPeak 77 = .ok (.iinc 6 1, 3) := by decide +kernel
theorem dX12_bestPeak_80 : decode cX12_bestPeak 80 = .ok (.goto (-40), 3) := by decide +kernel
theorem dX12_bestPeak_83 : decode cX12_bestPeak 83 = .ok (.iload 4, 2) := by decide +kernel
theorem dX12_bestPeak_85 : decode cX12_bestPeak 85 = .ok (.ireturn, 1) := by decide +kernel
theorem dX12_largest_0 : decode cX12_largest 0 = .ok (.iload_n 1, 1) := by decide +kernel
theorem dX12_largest_1 : decode cX12_largest 1 = .ok (.invokestatic 30, 3) := by decide +kernel
theorem dX12_largest_4 : decode cX12_largest 4 = .ok (.invokestatic 34, 3) := by decide +kernel
theorem dX12_largest_7 : decode cX12_largest 7 = .ok (.iload_n 2, 1) := by decide +kernel
theorem dX12_largest_8 : decode cX12_largest 8 = .ok (.invokestatic 194, 3) := by decide +kernel
theorem dX12_largest_11 : decode cX12_largest 11 = .ok (.invokestatic 42, 3) := by decide +kernel
theorem dX12_largest_14 : decode cX12_largest 14 = .ok (.aload_n 0, 1) := by decide +kernel
theorem dX12_largest_15 : decode cX12_largest 15 = .ok (.getfield 10, 3) := by decide +kernel
theorem dX12_largest_18 : decode cX12_largest 18 = .ok (.iload_n 1, 1) := by decide +kernel
theorem dX12_largest_19 : decode cX12_largest 19 = .ok (.iload_n 2, 1) := by decide +kernel
theorem dX12_largest_20 : decode cX12_largest 20 = .ok (.invokevirtual 242, 3) := by decide +kernel
theorem dX12_largest_23 : decode cX12_largest 23 = .ok (.iconst 0, 1) := by decide +kernel
theorem dX12_largest_24 : decode cX12_largest 24 = .ok (.iaload, 1) := by decide +kernel
theorem dX12_largest_25 : decode cX12_largest 25 = .ok (.ireturn, 1) := by decide +kernel
theorem dX12_possible_0 : decode cX12_possible 0 = .ok (.iload_n 1, 1) := by decide +kernel
theorem dX12_possible_1 : decode cX12_possible 1 = .ok (.invokestatic 30, 3) := by decide +kernel
theorem dX12_possible_4 : decode cX12_possible 4 = .ok (.invokestatic 34, 3) := by decide +kernel
theorem dX12_possible_7 : decode cX12_possible 7 = .ok (.iload_n 2, 1) := by decide +kernel
theorem dX12_possible_8 : decode cX12_possible 8 = .ok (.invokestatic 194, 3) := by decide +kernel
theorem dX12_possible_11 : decode cX12_possible 11 = .ok (.ifCond .eq 30, 3) := by decide +kernel
theorem dX12_possible_14 : decode cX12_possible 14 = .ok (.iload_n 3, 1) := by decide +kernel
theorem dX12_possible_15 : decode cX12_possible 15 = .ok (.invokestatic 246, 3) := by decide +kernel
theorem dX12_possible_18 : decode cX12_possible 18 = .ok (.ifCond .eq 23, 3) := by decide +kernel
theorem dX12_possible_21 : decode cX12_possible 21 = .ok (.iload 4, 2) := by decide +kernel
theorem dX12_possible_23 : decode cX12_possible 23 = .ok (.invokestatic 246, 3) := by decide +kernel
theorem dX12_possible_26 : decode cX12_possible 26 = .ok (.ifCond .eq 15, 3) := by decide +kernel
theorem dX12_possible_29 : decode cX12_possible 29 = .ok (.iload 5, 2) := by decide +kernel
theorem dX12_possible_31 : decode cX12_possible 31 = .ok (.invokestatic 246, 3) := by decide +kernel
theorem dX12_possible_34 : decode cX12_possible 34 = .ok (.ifCond .eq 7, 3) := by decide +kernel
theorem dX12_possible_37 : decode cX12_possible 37 = .ok (.iconst 1, 1) := by decide +kernel
theorem dX12_possible_38 : decode cX12_possible 38 = .ok (.goto 4, 3) := by decide +kernel
theorem dX12_possible_41 : decode cX12_possible 41 = .ok (.iconst 0, 1) := by decide +kernel
theorem dX12_possible_42 : decode cX12_possible 42 = .ok (.invokestatic 42, 3) := by decide +kernel
theorem dX12_possible_45 : decode cX12_possible 45 = .ok (.iconst 3, 1) := by decide +kernel
theorem dX12_possible_46 : decode cX12_possible 46 = .ok (.newarray .int, 2) := by decide +kernel
theorem dX12_possible_48 : decode cX12_possible 48 = .ok (.dup, 1) := by decide +kernel
theorem dX12_possible_49 : decode cX12_possible 49 = .ok (.iconst 0, 1) := by decide +kernel
theorem dX12_possible_50 : decode cX12_possible 50 = .ok (.iload_n 3, 1) := by decide +kernel
theorem dX12_possible_51 : decode cX12_possible 51 = .ok (.iastore, 1) := by decide +kernel
theorem dX12_possible_52 : decode cX12_possible 52 = .ok (.dup, 1) := by decide +kernel
theorem dX12_possible_53 : decode cX12_possible 53 = .ok (.iconst 1, 1) := by decide +kernel
theorem dX12_possible_54 : decode cX12_possible 54 = .ok (.iload 4, 2) := by decide +kernel
theorem dX12_possible_56 : decode cX12_possible 56 = .ok (.iastore, 1) := by decide +kernel
theorem dX12_possible_57 : decode cX12_possible 57 = .ok (.dup, 1) := by decide +kernel
theorem dX12_possible_58 : decode cX12_possible 58 = .ok (.iconst 2, 1) := by decide +kernel
theorem dX12_possible_59 : decode cX12_possible 59 = .ok (.iload 5, 2) := by decide +kernel
theorem dX12_possible_61 : decode cX12_possible 61 = .ok (.iastore, 1) := by decide +kernel
theorem dX12_possible_62 : decode cX12_possible 62 = .ok (.astore 6, 2) := by decide +kernel
theorem dX12_possible_64 : decode cX12_possible 64 = .ok (.aload_n 0, 1) := by decide +kernel
theorem dX12_possible_65 : decode cX12_possible 65 = .ok (.getfield 10, 3) := by decide +kernel
theorem dX12_possible_68 : decode cX12_possible 68 = .ok (.iload_n 1, 1) := by decide +kernel
theorem dX12_possible_69 : decode cX12_possible 69 = .ok (.iload_n 2, 1) := by decide +kernel
theorem dX12_possible_70 : decode cX12_possible 70 = .ok (.invokevirtual 242, 3) := by decide +kernel
theorem dX12_possible_73 : decode cX12_possible 73 = .ok (.aload 6, 2) := by decide +kernel
theorem dX12_possible_75 : decode cX12_possible 75 = .ok (.iconst 0, 1) := by decide +kernel
theorem dX12_possible_76 : decode cX12_possible 76 = .ok (.invokestatic 249, 3) := by decide +kernel
theorem dX12_possible_79 : decode cX12_possible 79 = .ok (.ireturn, 1) := by decide +kernel
theorem dX12_wouldHide_0 : decode cX12_wouldHide 0 = .ok (.iload_n 1, 1) := by decide +kernel
theorem dX12_wouldHide_1 : decode cX12_wouldHide 1 = .ok (.iconst 1, 1) := by decide +kernel
theorem dX12_wouldHide_2 : decode cX12_wouldHide 2 = .ok (.bipush 10, 2) := by decide +kernel
theorem dX12_wouldHide_4 : decode cX12_wouldHide 4 = .ok (.invokestatic 38, 3) := by decide +kernel
theorem dX12_wouldHide_7 : decode cX12_wouldHide 7 = .ok (.invokestatic 42, 3) := by decide +kernel
theorem dX12_wouldHide_10 : decode cX12_wouldHide 10 = .ok (.aload_n 0, 1) := by decide +kernel
theorem dX12_wouldHide_11 : decode cX12_wouldHide 11 = .ok (.getfield 10, 3) := by decide +kernel
theorem dX12_wouldHide_14 : decode cX12_wouldHide 14 = .ok (.iload_n 1, 1) := by decide +kernel
theorem dX12_wouldHide_15 : decode cX12_wouldHide 15 = .ok (.invokevirtual 253, 3) := by decide +kernel
theorem dX12_wouldHide_18 : decode cX12_wouldHide 18 = .ok (.ireturn, 1) := by decide +kernel
theorem dX12_firstError_0 : decode cX12_firstError 0 = .ok (.aload_n 0, 1) := by decide +kernel
theorem dX12_firstError_1 : decode cX12_firstError 1 = .ok (.getfield 26, 3) := by decide +kernel
theorem dX12_firstError_4 : decode cX12_firstError 4 = .ok (.invokevirtual 260, 3) := by decide +kernel
theorem dX12_firstError_7 : decode cX12_firstError 7 = .ok (.ireturn, 1) := by decide +kernel
theorem dX12_mostPlaced_0 : decode cX12_mostPlaced 0 = .ok (.iload_n 2, 1) := by decide +kernel
theorem dX12_mostPlaced_1 : decode cX12_mostPlaced 1 = .ok (.ifCond .lt 9, 3) := by decide +kernel
theorem dX12_mostPlaced_4 : decode cX12_mostPlaced 4 = .ok (.iload_n 2, 1) := by decide +kernel
theorem dX12_mostPlaced_5 : decode cX12_mostPlaced 5 = .ok (.aload_n 1, 1) := by decide +kernel
theorem dX12_mostPlaced_6 : decode cX12_mostPlaced 6 = .ok (.arraylength, 1) := by decide +kernel
theorem dX12_mostPlaced_7 : decode cX12_mostPlaced 7 = .ok (.if_icmp .lt 5, 3) := by decide +kernel
theorem dX12_mostPlaced_10 : decode cX12_mostPlaced 10 = .ok (.iconst 0, 1) := by decide +kernel
theorem dX12_mostPlaced_11 : decode cX12_mostPlaced 11 = .ok (.ireturn, 1) := by decide +kernel
theorem dX12_mostPlaced_12 : decode cX12_mostPlaced 12 = .ok (.aload_n 1, 1) := by decide +kernel
theorem dX12_mostPlaced_13 : decode cX12_mostPlaced 13 = .ok (.iload_n 2, 1) := by decide +kernel
theorem dX12_mostPlaced_14 : decode cX12_mostPlaced 14 = .ok (.iaload, 1) := by decide +kernel
theorem dX12_mostPlaced_15 : decode cX12_mostPlaced 15 = .ok (.istore_n 3, 1) := by decide +kernel
theorem dX12_mostPlaced_16 : decode cX12_mostPlaced 16 = .ok (.aload_n 0, 1) := by decide +kernel
theorem dX12_mostPlaced_17 : decode cX12_mostPlaced 17 = .ok (.aload_n 1, 1) := by decide +kernel
theorem dX12_mostPlaced_18 : decode cX12_mostPlaced 18 = .ok (.iload_n 2, 1) := by decide +kernel
theorem dX12_mostPlaced_19 : decode cX12_mostPlaced 19 = .ok (.iconst 1, 1) := by decide +kernel
theorem dX12_mostPlaced_20 : decode cX12_mostPlaced 20 = .ok (.iadd, 1) := by decide +kernel
theorem dX12_mostPlaced_21 : decode cX12_mostPlaced 21 = .ok (.invokestatic 249, 3) := by decide +kernel
theorem dX12_mostPlaced_24 : decode cX12_mostPlaced 24 = .ok (.istore 4, 2) := by decide +kernel
theorem dX12_mostPlaced_26 : decode cX12_mostPlaced 26 = .ok (.iconst 0, 1) := by decide +kernel
theorem dX12_mostPlaced_27 : decode cX12_mostPlaced 27 = .ok (.istore 5, 2) := by decide +kernel
theorem dX12_mostPlaced_29 : decode cX12_mostPlaced 29 = .ok (.iload 5, 2) := by decide +kernel
theorem dX12_mostPlaced_31 : decode cX12_mostPlaced 31 = .ok (.aload_n 0, 1) := by decide +kernel
theorem dX12_mostPlaced_32 : decode cX12_mostPlaced 32 = .ok (.arraylength, 1) := by decide +kernel
theorem dX12_mostPlaced_33 : decode cX12_mostPlaced 33 = .ok (.if_icmp .ge 50, 3) := by decide +kernel
theorem dX12_mostPlaced_36 : decode cX12_mostPlaced 36 = .ok (.aload_n 0, 1) := by decide +kernel
theorem dX12_mostPlaced_37 : decode cX12_mostPlaced 37 = .ok (.iload 5, 2) := by decide +kernel
theorem dX12_mostPlaced_39 : decode cX12_mostPlaced 39 = .ok (.iaload, 1) := by decide +kernel
theorem dX12_mostPlaced_40 : decode cX12_mostPlaced 40 = .ok (.iload_n 3, 1) := by decide +kernel
theorem dX12_mostPlaced_41 : decode cX12_mostPlaced 41 = .ok (.if_icmp .lt 36, 3) := by decide +kernel
theorem dX12_mostPlaced_44 : decode cX12_mostPlaced 44 = .ok (.aload_n 0, 1) := by decide +kernel
theorem dX12_mostPlaced_45 : decode cX12_mostPlaced 45 = .ok (.iload 5, 2) := by decide +kernel
theorem dX12_mostPlaced_47 : decode cX12_mostPlaced 47 = .ok (.dup2, 1) := by decide +kernel
theorem dX12_mostPlaced_48 : decode cX12_mostPlaced 48 = .ok (.iaload, 1) := by decide +kernel
theorem dX12_mostPlaced_49 : decode cX12_mostPlaced 49 = .ok (.iload_n 3, 1) := by decide +kernel
theorem dX12_mostPlaced_50 : decode cX12_mostPlaced 50 = .ok (.isub, 1) := by decide +kernel
theorem dX12_mostPlaced_51 : decode cX12_mostPlaced 51 = .ok (.iastore, 1) := by decide +kernel
theorem dX12_mostPlaced_52 : decode cX12_mostPlaced 52 = .ok (.iload 4, 2) := by decide +kernel
theorem dX12_mostPlaced_54 : decode cX12_mostPlaced 54 = .ok (.iconst 1, 1) := by decide +kernel
theorem dX12_mostPlaced_55 : decode cX12_mostPlaced 55 = .ok (.aload_n 0, 1) := by decide +kernel
theorem dX12_mostPlaced_56 : decode cX12_mostPlaced 56 = .ok (.aload_n 1, 1) := by decide +kernel
theorem dX12_mostPlaced_57 : decode cX12_mostPlaced 57 = .ok (.iload_n 2, 1) := by decide +kernel
theorem dX12_mostPlaced_58 : decode cX12_mostPlaced 58 = .ok (.iconst 1, 1) := by decide +kernel
theorem dX12_mostPlaced_59 : decode cX12_mostPlaced 59 = .ok (.iadd, 1) := by decide +kernel
theorem dX12_mostPlaced_60 : decode cX12_mostPlaced 60 = .ok (.invokestatic 249, 3) := by decide +kernel
theorem dX12_mostPlaced_63 : decode cX12_mostPlaced 63 = .ok (.iadd, 1) := by decide +kernel
theorem dX12_mostPlaced_64 : decode cX12_mostPlaced 64 = .ok (.invokestatic 307, 3) := by decide +kernel
theorem dX12_mostPlaced_67 : decode cX12_mostPlaced 67 = .ok (.istore 4, 2) := by decide +kernel
theorem dX12_mostPlaced_69 : decode cX12_mostPlaced 69 = .ok (.aload_n 0, 1) := by decide +kernel
theorem dX12_mostPlaced_70 : decode cX12_mostPlaced 70 = .ok (.iload 5, 2) := by decide +kernel
theorem dX12_mostPlaced_72 : decode cX12_mostPlaced 72 = .ok (.dup2, 1) := by decide +kernel
theorem dX12_mostPlaced_73 : decode cX12_mostPlaced 73 = .ok (.iaload, 1) := by decide +kernel
theorem dX12_mostPlaced_74 : decode cX12_mostPlaced 74 = .ok (.iload_n 3, 1) := by decide +kernel
theorem dX12_mostPlaced_75 : decode cX12_mostPlaced 75 = .ok (.iadd, 1) := by decide +kernel
theorem dX12_mostPlaced_76 : decode cX12_mostPlaced 76 = .ok (.iastore, 1) := by decide +kernel
theorem dX12_mostPlaced_77 : decode cX12_mostPlaced 77 = .ok (.iinc 5 1, 3) := by decide +kernel
theorem dX12_mostPlaced_80 : decode cX12_mostPlaced 80 = .ok (.goto (-51), 3) := by decide +kernel
theorem dX12_mostPlaced_83 : decode cX12_mostPlaced 83 = .ok (.iload 4, 2) := by decide +kernel
theorem dX12_mostPlaced_85 : decode cX12_mostPlaced 85 = .ok (.ireturn, 1) := by decide +kernel
theorem dX12_isWithin_0 : decode cX12_isWithin 0 = .ok (.iload_n 0, 1) := by decide +kernel
theorem dX12_isWithin_1 : decode cX12_isWithin 1 = .ok (.iload_n 1, 1) := by decide +kernel
theorem dX12_isWithin_2 : decode cX12_isWithin 2 = .ok (.if_icmp .lt 12, 3) := by decide +kernel
theorem dX12_isWithin_5 : decode cX12_isWithin 5 = .ok (.iload_n 0, 1) := by decide +kernel
theorem dX12_isWithin_6 : decode cX12_isWithin 6 = .ok (.iload_n 2, 1) := by decide +kernel
theorem dX12_isWithin_7 : decode cX12_isWithin 7 = .ok (.if_icmp .gt 7, 3) := by decide +kernel
theorem dX12_isWithin_10 : decode cX12_isWithin 10 = .ok (.iconst 1, 1) := by decide +kernel
theorem dX12_isWithin_11 : decode cX12_isWithin 11 = .ok (.goto 4, 3) := by decide +kernel
theorem dX12_isWithin_14 : decode cX12_isWithin 14 = .ok (.iconst 0, 1) := by decide +kernel
theorem dX12_isWithin_15 : decode cX12_isWithin 15 = .ok (.ireturn, 1) := by decide +kernel
theorem dX12_isPercentage_0 : decode cX12_isPercentage 0 = .ok (.iload_n 0, 1) := by decide +kernel
theorem dX12_isPercentage_1 : decode cX12_isPercentage 1 = .ok (.iconst 0, 1) := by decide +kernel
theorem dX12_isPercentage_2 : decode cX12_isPercentage 2 = .ok (.bipush 100, 2) := by decide +kernel
theorem dX12_isPercentage_4 : decode cX12_isPercentage 4 = .ok (.invokestatic 38, 3) := by decide +kernel
theorem dX12_isPercentage_7 : decode cX12_isPercentage 7 = .ok (.ireturn, 1) := by decide +kernel
theorem dX12_isGlaze_0 : decode cX12_isGlaze 0 = .ok (.iload_n 0, 1) := by decide +kernel
theorem dX12_isGlaze_1 : decode cX12_isGlaze 1 = .ok (.iconst 0, 1) := by decide +kernel
theorem dX12_isGlaze_2 : decode cX12_isGlaze 2 = .ok (.iconst 3, 1) := by decide +kernel
theorem dX12_isGlaze_3 : decode cX12_isGlaze 3 = .ok (.invokestatic 38, 3) := by decide +kernel
theorem dX12_isGlaze_6 : decode cX12_isGlaze 6 = .ok (.ireturn, 1) := by decide +kernel
theorem dX12_isShade_0 : decode cX12_isShade 0 = .ok (.iload_n 0, 1) := by decide +kernel
theorem dX12_isShade_1 : decode cX12_isShade 1 = .ok (.iconst 0, 1) := by decide +kernel
theorem dX12_isShade_2 : decode cX12_isShade 2 = .ok (.bipush 19, 2) := by decide +kernel
theorem dX12_isShade_4 : decode cX12_isShade 4 = .ok (.invokestatic 38, 3) := by decide +kernel
theorem dX12_isShade_7 : decode cX12_isShade 7 = .ok (.ireturn, 1) := by decide +kernel
theorem dX12_isGrade_0 : decode cX12_isGrade 0 = .ok (.iload_n 0, 1) := by decide +kernel
theorem dX12_isGrade_1 : decode cX12_isGrade 1 = .ok (.iconst 1, 1) := by decide +kernel
theorem dX12_isGrade_2 : decode cX12_isGrade 2 = .ok (.iconst 2, 1) := by decide +kernel
theorem dX12_isGrade_3 : decode cX12_isGrade 3 = .ok (.invokestatic 38, 3) := by decide +kernel
theorem dX12_isGrade_6 : decode cX12_isGrade 6 = .ok (.ireturn, 1) := by decide +kernel
theorem dX12_isKiln_0 : decode cX12_isKiln 0 = .ok (.iload_n 0, 1) := by decide +kernel
theorem dX12_isKiln_1 : decode cX12_isKiln 1 = .ok (.iconst 0, 1) := by decide +kernel
theorem dX12_isKiln_2 : decode cX12_isKiln 2 = .ok (.iconst 2, 1) := by decide +kernel
theorem dX12_isKiln_3 : decode cX12_isKiln 3 = .ok (.invokestatic 38, 3) := by decide +kernel
theorem dX12_isKiln_6 : decode cX12_isKiln 6 = .ok (.ireturn, 1) := by decide +kernel
theorem dX12_isPosition_0 : decode cX12_isPosition 0 = .ok (.iload_n 0, 1) := by decide +kernel
theorem dX12_isPosition_1 : decode cX12_isPosition 1 = .ok (.iconst 0, 1) := by decide +kernel
theorem dX12_isPosition_2 : decode cX12_isPosition 2 = .ok (.bipush 7, 2) := by decide +kernel
theorem dX12_isPosition_4 : decode cX12_isPosition 4 = .ok (.invokestatic 38, 3) := by decide +kernel
theorem dX12_isPosition_7 : decode cX12_isPosition 7 = .ok (.ireturn, 1) := by decide +kernel
theorem dX12_isPeak_0 : decode cX12_isPeak 0 = .ok (.iload_n 0, 1) := by decide +kernel
theorem dX12_isPeak_1 : decode cX12_isPeak 1 = .ok (.sipush 800, 3) := by decide +kernel
theorem dX12_isPeak_4 : decode cX12_isPeak 4 = .ok (.sipush 1200, 3) := by decide +kernel
theorem dX12_isPeak_7 : decode cX12_isPeak 7 = .ok (.invokestatic 38, 3) := by decide +kernel
theorem dX12_isPeak_10 : decode cX12_isPeak 10 = .ok (.ireturn, 1) := by decide +kernel
theorem dX12_isBoxCount_0 : decode cX12_isBoxCount 0 = .ok (.iload_n 0, 1) := by decide +kernel
theorem dX12_isBoxCount_1 : decode cX12_isBoxCount 1 = .ok (.iconst 1, 1) := by decide +kernel
theorem dX12_isBoxCount_2 : decode cX12_isBoxCount 2 = .ok (.ldc_w 312, 3) := by decide +kernel
theorem dX12_isBoxCount_5 : decode cX12_isBoxCount 5 = .ok (.invokestatic 38, 3) := by decide +kernel
theorem dX12_isBoxCount_8 : decode cX12_isBoxCount 8 = .ok (.ireturn, 1) := by decide +kernel
theorem dX12_checkIndex_0 : decode cX12_checkIndex 0 = .ok (.iload_n 0, 1) := by decide +kernel
theorem dX12_checkIndex_1 : decode cX12_checkIndex 1 = .ok (.ifCond .ne 14, 3) := by decide +kernel
theorem dX12_checkIndex_4 : decode cX12_checkIndex 4 = .ok (.new 313, 3) := by decide +kernel
theorem dX12_checkIndex_7 : decode cX12_checkIndex 7 = .ok (.dup, 1) := by decide +kernel
theorem dX12_checkIndex_8 : decode cX12_checkIndex 8 = .ok (.ldc_w 315, 3) := by decide +kernel
theorem dX12_checkIndex_11 : decode cX12_checkIndex 11 = .ok (.invokespecial 317, 3) := by decide +kernel
theorem dX12_checkIndex_14 : decode cX12_checkIndex 14 = .ok (.athrow, 1) := by decide +kernel
theorem dX12_checkIndex_15 : decode cX12_checkIndex 15 = .ok (.return_, 1) := by decide +kernel
theorem dX12_checkArgument_0 : decode cX12_checkArgument 0 = .ok (.iload_n 0, 1) := by decide +kernel
theorem dX12_checkArgument_1 : decode cX12_checkArgument 1 = .ok (.ifCond .ne 14, 3) := by decide +kernel
theorem dX12_checkArgument_4 : decode cX12_checkArgument 4 = .ok (.new 320, 3) := by decide +kernel
theorem dX12_checkArgument_7 : decode cX12_checkArgument 7 = .ok (.dup, 1) := by decide +kernel
theorem dX12_checkArgument_8 : decode cX12_checkArgument 8 = .ok (.ldc_w 322, 3) := by decide +kernel
theorem dX12_checkArgument_11 : decode cX12_checkArgument 11 = .ok (.invokespecial 324, 3) := by decide +kernel
theorem dX12_checkArgument_14 : decode cX12_checkArgument 14 = .ok (.athrow, 1) := by decide +kernel
theorem dX12_checkArgument_15 : decode cX12_checkArgument 15 = .ok (.return_, 1) := by decide +kernel
theorem dX12_checkState_0 : decode cX12_checkState 0 = .ok (.iload_n 0, 1) := by decide +kernel
theorem dX12_checkState_1 : decode cX12_checkState 1 = .ok (.ifCond .ne 14, 3) := by decide +kernel
theorem dX12_checkState_4 : decode cX12_checkState 4 = .ok (.new 325, 3) := by decide +kernel
theorem dX12_checkState_7 : decode cX12_checkState 7 = .ok (.dup, 1) := by decide +kernel
theorem dX12_checkState_8 : decode cX12_checkState 8 = .ok (.ldc_w 327, 3) := by decide +kernel
theorem dX12_checkState_11 : decode cX12_checkState 11 = .ok (.invokespecial 329, 3) := by decide +kernel
theorem dX12_checkState_14 : decode cX12_checkState 14 = .ok (.athrow, 1) := by decide +kernel
theorem dX12_checkState_15 : decode cX12_checkState 15 = .ok (.return_, 1) := by decide +kernel
theorem dX12_refuse_0 : decode cX12_refuse 0 = .ok (.aload_n 0, 1) := by decide +kernel
theorem dX12_refuse_1 : decode cX12_refuse 1 = .ok (.getstatic 330, 3) := by decide +kernel
theorem dX12_refuse_4 : decode cX12_refuse 4 = .ok (.if_acmp .eq 7, 3) := by decide +kernel
theorem dX12_refuse_7 : decode cX12_refuse 7 = .ok (.iconst 1, 1) := by decide +kernel
theorem dX12_refuse_8 : decode cX12_refuse 8 = .ok (.goto 4, 3) := by decide +kernel
theorem dX12_refuse_11 : decode cX12_refuse 11 = .ok (.iconst 0, 1) := by decide +kernel
theorem dX12_refuse_12 : decode cX12_refuse 12 = .ok (.invokestatic 34, 3) := by decide +kernel
theorem dX12_refuse_15 : decode cX12_refuse 15 = .ok (.aload_n 0, 1) := by decide +kernel
theorem dX12_refuse_16 : decode cX12_refuse 16 = .ok (.getstatic 333, 3) := by decide +kernel
theorem dX12_refuse_19 : decode cX12_refuse 19 = .ok (.if_acmp .eq 7, 3) := by decide +kernel
theorem dX12_refuse_22 : decode cX12_refuse 22 = .ok (.iconst 1, 1) := by decide +kernel
theorem dX12_refuse_23 : decode cX12_refuse 23 = .ok (.goto 4, 3) := by decide +kernel
theorem dX12_refuse_26 : decode cX12_refuse 26 = .ok (.iconst 0, 1) := by decide +kernel
theorem dX12_refuse_27 : decode cX12_refuse 27 = .ok (.invokestatic 42, 3) := by decide +kernel
theorem dX12_refuse_30 : decode cX12_refuse 30 = .ok (.aload_n 0, 1) := by decide +kernel
theorem dX12_refuse_31 : decode cX12_refuse 31 = .ok (.getstatic 336, 3) := by decide +kernel
theorem dX12_refuse_34 : decode cX12_refuse 34 = .ok (.if_acmp .eq 7, 3) := by decide +kernel
theorem dX12_refuse_37 : decode cX12_refuse 37 = .ok (.iconst 1, 1) := by decide +kernel
theorem dX12_refuse_38 : decode cX12_refuse 38 = .ok (.goto 4, 3) := by decide +kernel
theorem dX12_refuse_41 : decode cX12_refuse 41 = .ok (.iconst 0, 1) := by decide +kernel
theorem dX12_refuse_42 : decode cX12_refuse 42 = .ok (.invokestatic 99, 3) := by decide +kernel
theorem dX12_refuse_45 : decode cX12_refuse 45 = .ok (.return_, 1) := by decide +kernel
theorem dJ9_floorDiv_7cf53_0 : decode cJ9_floorDiv_7cf53 0 = .ok (.iload_n 0, 1) := by decide +kernel
theorem dJ9_floorDiv_7cf53_1 : decode cJ9_floorDiv_7cf53 1 = .ok (.iload_n 1, 1) := by decide +kernel
theorem dJ9_floorDiv_7cf53_2 : decode cJ9_floorDiv_7cf53 2 = .ok (.idiv, 1) := by decide +kernel
theorem dJ9_floorDiv_7cf53_3 : decode cJ9_floorDiv_7cf53 3 = .ok (.istore_n 2, 1) := by decide +kernel
theorem dJ9_floorDiv_7cf53_4 : decode cJ9_floorDiv_7cf53 4 = .ok (.iload_n 0, 1) := by decide +kernel
theorem dJ9_floorDiv_7cf53_5 : decode cJ9_floorDiv_7cf53 5 = .ok (.iload_n 1, 1) := by decide +kernel
theorem dJ9_floorDiv_7cf53_6 : decode cJ9_floorDiv_7cf53 6 = .ok (.ixor, 1) := by decide +kernel
theorem dJ9_floorDiv_7cf53_7 : decode cJ9_floorDiv_7cf53 7 = .ok (.ifCond .ge 14, 3) := by decide +kernel
theorem dJ9_floorDiv_7cf53_10 : decode cJ9_floorDiv_7cf53 10 = .ok (.iload_n 2, 1) := by decide +kernel
theorem dJ9_floorDiv_7cf53_11 : decode cJ9_floorDiv_7cf53 11 = .ok (.iload_n 1, 1) := by decide +kernel
theorem dJ9_floorDiv_7cf53_12 : decode cJ9_floorDiv_7cf53 12 = .ok (.imul, 1) := by decide +kernel
theorem dJ9_floorDiv_7cf53_13 : decode cJ9_floorDiv_7cf53 13 = .ok (.iload_n 0, 1) := by decide +kernel
theorem dJ9_floorDiv_7cf53_14 : decode cJ9_floorDiv_7cf53 14 = .ok (.if_icmp .eq 7, 3) := by decide +kernel
theorem dJ9_floorDiv_7cf53_17 : decode cJ9_floorDiv_7cf53 17 = .ok (.iload_n 2, 1) := by decide +kernel
theorem dJ9_floorDiv_7cf53_18 : decode cJ9_floorDiv_7cf53 18 = .ok (.iconst 1, 1) := by decide +kernel
theorem dJ9_floorDiv_7cf53_19 : decode cJ9_floorDiv_7cf53 19 = .ok (.isub, 1) := by decide +kernel
theorem dJ9_floorDiv_7cf53_20 : decode cJ9_floorDiv_7cf53 20 = .ok (.ireturn, 1) := by decide +kernel
theorem dJ9_floorDiv_7cf53_21 : decode cJ9_floorDiv_7cf53 21 = .ok (.iload_n 2, 1) := by decide +kernel
theorem dJ9_floorDiv_7cf53_22 : decode cJ9_floorDiv_7cf53 22 = .ok (.ireturn, 1) := by decide +kernel
theorem dJ9_max_7cf53_0 : decode cJ9_max_7cf53 0 = .ok (.iload_n 0, 1) := by decide +kernel
theorem dJ9_max_7cf53_1 : decode cJ9_max_7cf53 1 = .ok (.iload_n 1, 1) := by decide +kernel
theorem dJ9_max_7cf53_2 : decode cJ9_max_7cf53 2 = .ok (.if_icmp .lt 7, 3) := by decide +kernel
theorem dJ9_max_7cf53_5 : decode cJ9_max_7cf53 5 = .ok (.iload_n 0, 1) := by decide +kernel
theorem dJ9_max_7cf53_6 : decode cJ9_max_7cf53 6 = .ok (.goto 4, 3) := by decide +kernel
theorem dJ9_max_7cf53_9 : decode cJ9_max_7cf53 9 = .ok (.iload_n 1, 1) := by decide +kernel
theorem dJ9_max_7cf53_10 : decode cJ9_max_7cf53 10 = .ok (.ireturn, 1) := by decide +kernel
theorem dJ9_min_7cf53_0 : decode cJ9_min_7cf53 0 = .ok (.iload_n 0, 1) := by decide +kernel
theorem dJ9_min_7cf53_1 : decode cJ9_min_7cf53 1 = .ok (.iload_n 1, 1) := by decide +kernel
theorem dJ9_min_7cf53_2 : decode cJ9_min_7cf53 2 = .ok (.if_icmp .gt 7, 3) := by decide +kernel
theorem dJ9_min_7cf53_5 : decode cJ9_min_7cf53 5 = .ok (.iload_n 0, 1) := by decide +kernel
theorem dJ9_min_7cf53_6 : decode cJ9_min_7cf53 6 = .ok (.goto 4, 3) := by decide +kernel
theorem dJ9_min_7cf53_9 : decode cJ9_min_7cf53 9 = .ok (.iload_n 1, 1) := by decide +kernel
theorem dJ9_min_7cf53_10 : decode cJ9_min_7cf53 10 = .ok (.ireturn, 1) := by decide +kernel
theorem dJ0_length_8abf5_0 : decode cJ0_length_8abf5 0 = .ok (.aload_n 0, 1) := by decide +kernel
theorem dJ0_length_8abf5_1 : decode cJ0_length_8abf5 1 = .ok (.getfield 9, 3) := by decide +kernel
theorem dJ0_length_8abf5_4 : decode cJ0_length_8abf5 4 = .ok (.arraylength, 1) := by decide +kernel
theorem dJ0_length_8abf5_5 : decode cJ0_length_8abf5 5 = .ok (.aload_n 0, 1) := by decide +kernel
theorem dJ0_length_8abf5_6 : decode cJ0_length_8abf5 6 = .ok (.invokevirtual 335, 3) := by decide +kernel
theorem dJ0_length_8abf5_9 : decode cJ0_length_8abf5 9 = .ok (.ishr, 1) := by decide +kernel
theorem dJ0_length_8abf5_10 : decode cJ0_length_8abf5 10 = .ok (.ireturn, 1) := by decide +kernel
theorem dJ0_charAt_5068e_0 : decode cJ0_charAt_5068e 0 = .ok (.aload_n 0, 1) := by decide +kernel
theorem dJ0_charAt_5068e_1 : decode cJ0_charAt_5068e 1 = .ok (.invokevirtual 492, 3) := by decide +kernel
theorem dJ0_charAt_5068e_4 : decode cJ0_charAt_5068e 4 = .ok (.ifCond .eq 12, 3) := by decide +kernel
theorem dJ0_charAt_5068e_7 : decode cJ0_charAt_5068e 7 = .ok (.aload_n 0, 1) := by decide +kernel
theorem dJ0_charAt_5068e_8 : decode cJ0_charAt_5068e 8 = .ok (.getfield 9, 3) := by decide +kernel
theorem dJ0_charAt_5068e_11 : decode cJ0_charAt_5068e 11 = .ok (.iload_n 1, 1) := by decide +kernel
theorem dJ0_charAt_5068e_12 : decode cJ0_charAt_5068e 12 = .ok (.invokestatic 495, 3) := by decide +kernel
theorem dJ0_charAt_5068e_15 : decode cJ0_charAt_5068e 15 = .ok (.ireturn, 1) := by decide +kernel
theorem dJ0_charAt_5068e_16 : decode cJ0_charAt_5068e 16 = .ok (.aload_n 0, 1) := by decide +kernel
theorem dJ0_charAt_5068e_17 : decode cJ0_charAt_5068e 17 = .ok (.getfield 9, 3) := by decide +kernel
theorem dJ0_charAt_5068e_20 : decode cJ0_charAt_5068e 20 = .ok (.iload_n 1, 1) := by decide +kernel
theorem dJ0_charAt_5068e_21 : decode cJ0_charAt_5068e 21 = .ok (.invokestatic 498, 3) := by decide +kernel
theorem dJ0_charAt_5068e_24 : decode cJ0_charAt_5068e 24 = .ok (.ireturn, 1) := by decide +kernel
theorem dJ0_coder_7d493_0 : decode cJ0_coder_7d493 0 = .ok (.getstatic 38, 3) := by decide +kernel
theorem dJ0_coder_7d493_3 : decode cJ0_coder_7d493 3 = .ok (.ifCond .eq 10, 3) := by decide +kernel
theorem dJ0_coder_7d493_6 : decode cJ0_coder_7d493 6 = .ok (.aload_n 0, 1) := by decide +kernel
theorem dJ0_coder_7d493_7 : decode cJ0_coder_7d493 7 = .ok (.getfield 15, 3) := by decide +kernel
theorem dJ0_coder_7d493_10 : decode cJ0_coder_7d493 10 = .ok (.goto 4, 3) := by decide +kernel
theorem dJ0_coder_7d493_13 : decode cJ0_coder_7d493 13 = .ok (.iconst 1, 1) := by decide +kernel
theorem dJ0_coder_7d493_14 : decode cJ0_coder_7d493 14 = .ok (.ireturn, 1) := by decide +kernel
theorem dJ0_isLatin1_aae02_0 : decode cJ0_isLatin1_aae02 0 = .ok (.getstatic 38, 3) := by decide +kernel
theorem dJ0_isLatin1_aae02_3 : decode cJ0_isLatin1_aae02 3 = .ok (.ifCond .eq 14, 3) := by decide +kernel
theorem dJ0_isLatin1_aae02_6 : decode cJ0_isLatin1_aae02 6 = .ok (.aload_n 0, 1) := by decide +kernel
theorem dJ0_isLatin1_aae02_7 : decode cJ0_isLatin1_aae02 7 = .ok (.getfield 15, 3) := by decide +kernel
theorem dJ0_isLatin1_aae02_10 : decode cJ0_isLatin1_aae02 10 = .ok (.ifCond .ne 7, 3) := by decide +kernel
theorem dJ0_isLatin1_aae02_13 : decode cJ0_isLatin1_aae02 13 = .ok (.iconst 1, 1) := by decide +kernel
theorem dJ0_isLatin1_aae02_14 : decode cJ0_isLatin1_aae02 14 = .ok (.goto 4, 3) := by decide +kernel
theorem dJ0_isLatin1_aae02_17 : decode cJ0_isLatin1_aae02 17 = .ok (.iconst 0, 1) := by decide +kernel
theorem dJ0_isLatin1_aae02_18 : decode cJ0_isLatin1_aae02 18 = .ok (.ireturn, 1) := by decide +kernel
theorem dJ0_checkIndex_df160_0 : decode cJ0_checkIndex_df160 0 = .ok (.iload_n 0, 1) := by decide +kernel
theorem dJ0_checkIndex_df160_1 : decode cJ0_checkIndex_df160 1 = .ok (.iload_n 1, 1) := by decide +kernel
theorem dJ0_checkIndex_df160_2 : decode cJ0_checkIndex_df160 2 = .ok (.getstatic 1053, 3) := by decide +kernel
theorem dJ0_checkIndex_df160_5 : decode cJ0_checkIndex_df160 5 = .ok (.invokestatic 1059, 3) := by decide +kernel
theorem dJ0_checkIndex_df160_8 : decode cJ0_checkIndex_df160 8 = .ok (.pop, 1) := by decide +kernel
theorem dJ0_checkIndex_df160_9 : decode cJ0_checkIndex_df160 9 = .ok (.return_, 1) := by decide +kernel
theorem dJ1_charAt_3b067_0 : decode cJ1_charAt_3b067 0 = .ok (.iload_n 1, 1) := by decide +kernel
theorem dJ1_charAt_3b067_1 : decode cJ1_charAt_3b067 1 = .ok (.aload_n 0, 1) := by decide +kernel
theorem dJ1_charAt_3b067_2 : decode cJ1_charAt_3b067 2 = .ok (.arraylength, 1) := by decide +kernel
theorem dJ1_charAt_3b067_3 : decode cJ1_charAt_3b067 3 = .ok (.invokestatic 9, 3) := by decide +kernel
theorem dJ1_charAt_3b067_6 : decode cJ1_charAt_3b067 6 = .ok (.aload_n 0, 1) := by decide +kernel
theorem dJ1_charAt_3b067_7 : decode cJ1_charAt_3b067 7 = .ok (.iload_n 1, 1) := by decide +kernel
theorem dJ1_charAt_3b067_8 : decode cJ1_charAt_3b067 8 = .ok (.baload, 1) := by decide +kernel
theorem dJ1_charAt_3b067_9 : decode cJ1_charAt_3b067 9 = .ok (.sipush 255, 3) := by decide +kernel
theorem dJ1_charAt_3b067_12 : decode cJ1_charAt_3b067 12 = .ok (.iand, 1) := by decide +kernel
theorem dJ1_charAt_3b067_13 : decode cJ1_charAt_3b067 13 = .ok (.i2c, 1) := by decide +kernel
theorem dJ1_charAt_3b067_14 : decode cJ1_charAt_3b067 14 = .ok (.ireturn, 1) := by decide +kernel
theorem dJ2_getChar_3b067_0 : decode cJ2_getChar_3b067 0 = .ok (.getstatic 44, 3) := by decide +kernel
theorem dJ2_getChar_3b067_3 : decode cJ2_getChar_3b067 3 = .ok (.ifCond .ne 25, 3) := by decide +kernel
theorem dJ2_getChar_3b067_6 : decode cJ2_getChar_3b067 6 = .ok (.iload_n 1, 1) := by decide +kernel
theorem dJ2_getChar_3b067_7 : decode cJ2_getChar_3b067 7 = .ok (.ifCond .lt 11, 3) := by decide +kernel
theorem dJ2_getChar_3b067_10 : decode cJ2_getChar_3b067 10 = .ok (.iload_n 1, 1) := by decide +kernel
theorem dJ2_getChar_3b067_11 : decode cJ2_getChar_3b067 11 = .ok (.aload_n 0, 1) := by decide +kernel
theorem dJ2_getChar_3b067_12 : decode cJ2_getChar_3b067 12 = .ok (.invokestatic 48, 3) := by decide +kernel
theorem dJ2_getChar_3b067_15 : decode cJ2_getChar_3b067 15 = .ok (.if_icmp .lt 13, 3) := by decide +kernel
theorem dJ2_getChar_3b067_18 : decode cJ2_getChar_3b067 18 = .ok (.new 52, 3) := by decide +kernel
theorem dJ2_getChar_3b067_21 : decode cJ2_getChar_3b067 21 = .ok (.dup, 1) := by decide +kernel
theorem dJ2_getChar_3b067_22 : decode cJ2_getChar_3b067 22 = .ok (.ldc 54, 2) := by decide +kernel
theorem dJ2_getChar_3b067_24 : decode cJ2_getChar_3b067 24 = .ok (.invokespecial 56, 3) := by decide +kernel
theorem dJ2_getChar_3b067_27 : decode cJ2_getChar_3b067 27 = .ok (.athrow, 1) := by decide +kernel
theorem dJ2_getChar_3b067_28 : decode cJ2_getChar_3b067 28 = .ok (.iload_n 1, 1) := by decide +kernel
theorem dJ2_getChar_3b067_29 : decode cJ2_getChar_3b067 29 = .ok (.iconst 1, 1) := by decide +kernel
theorem dJ2_getChar_3b067_30 : decode cJ2_getChar_3b067 30 = .ok (.ishl, 1) := by decide +kernel
theorem dJ2_getChar_3b067_31 : decode cJ2_getChar_3b067 31 = .ok (.istore_n 1, 1) := by decide +kernel
theorem dJ2_getChar_3b067_32 : decode cJ2_getChar_3b067 32 = .ok (.aload_n 0, 1) := by decide +kernel
theorem dJ2_getChar_3b067_33 : decode cJ2_getChar_3b067 33 = .ok (.iload_n 1, 1) := by decide +kernel
theorem dJ2_getChar_3b067_34 : decode cJ2_getChar_3b067 34 = .ok (.iinc 1 1, 3) := by decide +kernel
theorem dJ2_getChar_3b067_37 : decode cJ2_getChar_3b067 37 = .ok (.baload, 1) := by decide +kernel
theorem dJ2_getChar_3b067_38 : decode cJ2_getChar_3b067 38 = .ok (.sipush 255, 3) := by decide +kernel
theorem dJ2_getChar_3b067_41 : decode cJ2_getChar_3b067 41 = .ok (.iand, 1) := by decide +kernel
theorem dJ2_getChar_3b067_42 : decode cJ2_getChar_3b067 42 = .ok (.getstatic 59, 3) := by decide +kernel
theorem dJ2_getChar_3b067_45 : decode cJ2_getChar_3b067 45 = .ok (.ishl, 1) := by decide +kernel
theorem dJ2_getChar_3b067_46 : decode cJ2_getChar_3b067 46 = .ok (.aload_n 0, 1) := by decide +kernel
theorem dJ2_getChar_3b067_47 : decode cJ2_getChar_3b067 47 = .ok (.iload_n 1, 1) := by decide +kernel
theorem dJ2_getChar_3b067_48 : decode cJ2_getChar_3b067 48 = .ok (.baload, 1) := by decide +kernel
theorem dJ2_getChar_3b067_49 : decode cJ2_getChar_3b067 49 = .ok (.sipush 255, 3) := by decide +kernel
theorem dJ2_getChar_3b067_52 : decode cJ2_getChar_3b067 52 = .ok (.iand, 1) := by decide +kernel
theorem dJ2_getChar_3b067_53 : decode cJ2_getChar_3b067 53 = .ok (.getstatic 63, 3) := by decide +kernel
theorem dJ2_getChar_3b067_56 : decode cJ2_getChar_3b067 56 = .ok (.ishl, 1) := by decide +kernel
theorem dJ2_getChar_3b067_57 : decode cJ2_getChar_3b067 57 = .ok (.ior, 1) := by decide +kernel
