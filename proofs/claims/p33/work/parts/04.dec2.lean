theorem dJ2_getChar_3b067_58 : decode cJ2_getChar_3b067 58 = .ok (.i2c, 1) := by decide +kernel
theorem dJ2_getChar_3b067_59 : decode cJ2_getChar_3b067 59 = .ok (.ireturn, 1) := by decide +kernel
theorem dJ2_length_9d52b_0 : decode cJ2_length_9d52b 0 = .ok (.aload_n 0, 1) := by decide +kernel
theorem dJ2_length_9d52b_1 : decode cJ2_length_9d52b 1 = .ok (.arraylength, 1) := by decide +kernel
theorem dJ2_length_9d52b_2 : decode cJ2_length_9d52b 2 = .ok (.iconst 1, 1) := by decide +kernel
theorem dJ2_length_9d52b_3 : decode cJ2_length_9d52b 3 = .ok (.ishr, 1) := by decide +kernel
theorem dJ2_length_9d52b_4 : decode cJ2_length_9d52b 4 = .ok (.ireturn, 1) := by decide +kernel
theorem dJ2_charAt_3b067_0 : decode cJ2_charAt_3b067 0 = .ok (.iload_n 1, 1) := by decide +kernel
theorem dJ2_charAt_3b067_1 : decode cJ2_charAt_3b067 1 = .ok (.aload_n 0, 1) := by decide +kernel
theorem dJ2_charAt_3b067_2 : decode cJ2_charAt_3b067 2 = .ok (.invokestatic 67, 3) := by decide +kernel
theorem dJ2_charAt_3b067_5 : decode cJ2_charAt_3b067 5 = .ok (.aload_n 0, 1) := by decide +kernel
theorem dJ2_charAt_3b067_6 : decode cJ2_charAt_3b067 6 = .ok (.iload_n 1, 1) := by decide +kernel
theorem dJ2_charAt_3b067_7 : decode cJ2_charAt_3b067 7 = .ok (.invokestatic 71, 3) := by decide +kernel
theorem dJ2_charAt_3b067_10 : decode cJ2_charAt_3b067 10 = .ok (.ireturn, 1) := by decide +kernel
theorem dJ2_checkIndex_2214a_0 : decode cJ2_checkIndex_2214a 0 = .ok (.iload_n 0, 1) := by decide +kernel
theorem dJ2_checkIndex_2214a_1 : decode cJ2_checkIndex_2214a 1 = .ok (.aload_n 1, 1) := by decide +kernel
theorem dJ2_checkIndex_2214a_2 : decode cJ2_checkIndex_2214a 2 = .ok (.invokestatic 48, 3) := by decide +kernel
theorem dJ2_checkIndex_2214a_5 : decode cJ2_checkIndex_2214a 5 = .ok (.invokestatic 414, 3) := by decide +kernel
theorem dJ2_checkIndex_2214a_8 : decode cJ2_checkIndex_2214a 8 = .ok (.return_, 1) := by decide +kernel
theorem dJ3_checkIndex_8e157_0 : decode cJ3_checkIndex_8e157 0 = .ok (.iload_n 0, 1) := by decide +kernel
theorem dJ3_checkIndex_8e157_1 : decode cJ3_checkIndex_8e157 1 = .ok (.ifCond .lt 8, 3) := by decide +kernel
theorem dJ3_checkIndex_8e157_4 : decode cJ3_checkIndex_8e157 4 = .ok (.iload_n 0, 1) := by decide +kernel
theorem dJ3_checkIndex_8e157_5 : decode cJ3_checkIndex_8e157 5 = .ok (.iload_n 1, 1) := by decide +kernel
theorem dJ3_checkIndex_8e157_6 : decode cJ3_checkIndex_8e157 6 = .ok (.if_icmp .lt 10, 3) := by decide +kernel
theorem dJ3_checkIndex_8e157_9 : decode cJ3_checkIndex_8e157 9 = .ok (.aload_n 2, 1) := by decide +kernel
theorem dJ3_checkIndex_8e157_10 : decode cJ3_checkIndex_8e157 10 = .ok (.iload_n 0, 1) := by decide +kernel
theorem dJ3_checkIndex_8e157_11 : decode cJ3_checkIndex_8e157 11 = .ok (.iload_n 1, 1) := by decide +kernel
theorem dJ3_checkIndex_8e157_12 : decode cJ3_checkIndex_8e157 12 = .ok (.invokestatic 95, 3) := by decide +kernel
theorem dJ3_checkIndex_8e157_15 : decode cJ3_checkIndex_8e157 15 = .ok (.athrow, 1) := by decide +kernel
theorem dJ3_checkIndex_8e157_16 : decode cJ3_checkIndex_8e157 16 = .ok (.iload_n 0, 1) := by decide +kernel
theorem dJ3_checkIndex_8e157_17 : decode cJ3_checkIndex_8e157 17 = .ok (.ireturn, 1) := by decide +kernel
theorem dL_cell_0 : decode cL_cell 0 = .ok (.iload_n 1, 1) := by decide +kernel
theorem dL_cell_1 : decode cL_cell 1 = .ok (.aload_n 0, 1) := by decide +kernel
theorem dL_cell_2 : decode cL_cell 2 = .ok (.arraylength, 1) := by decide +kernel
theorem dL_cell_3 : decode cL_cell 3 = .ok (.if_icmp .ge 9, 3) := by decide +kernel
theorem dL_cell_6 : decode cL_cell 6 = .ok (.aload_n 0, 1) := by decide +kernel
theorem dL_cell_7 : decode cL_cell 7 = .ok (.iload_n 1, 1) := by decide +kernel
theorem dL_cell_8 : decode cL_cell 8 = .ok (.iaload, 1) := by decide +kernel
theorem dL_cell_9 : decode cL_cell 9 = .ok (.goto 9, 3) := by decide +kernel
theorem dL_cell_12 : decode cL_cell 12 = .ok (.ldc 7, 2) := by decide +kernel
theorem dL_cell_14 : decode cL_cell 14 = .ok (.iload_n 1, 1) := by decide +kernel
theorem dL_cell_15 : decode cL_cell 15 = .ok (.iconst 1, 1) := by decide +kernel
theorem dL_cell_16 : decode cL_cell 16 = .ok (.iadd, 1) := by decide +kernel
theorem dL_cell_17 : decode cL_cell 17 = .ok (.imul, 1) := by decide +kernel
theorem dL_cell_18 : decode cL_cell 18 = .ok (.ireturn, 1) := by decide +kernel
theorem dL_low_0 : decode cL_low 0 = .ok (.iload_n 0, 1) := by decide +kernel
theorem dL_low_1 : decode cL_low 1 = .ok (.ldc 8, 2) := by decide +kernel
theorem dL_low_3 : decode cL_low 3 = .ok (.iand, 1) := by decide +kernel
theorem dL_low_4 : decode cL_low 4 = .ok (.iload_n 1, 1) := by decide +kernel
theorem dL_low_5 : decode cL_low 5 = .ok (.irem, 1) := by decide +kernel
theorem dL_low_6 : decode cL_low 6 = .ok (.ireturn, 1) := by decide +kernel
theorem dL_setGlaze_0 : decode cL_setGlaze 0 = .ok (.aload_n 0, 1) := by decide +kernel
theorem dL_setGlaze_1 : decode cL_setGlaze 1 = .ok (.iload_n 1, 1) := by decide +kernel
theorem dL_setGlaze_2 : decode cL_setGlaze 2 = .ok (.iload_n 2, 1) := by decide +kernel
theorem dL_setGlaze_3 : decode cL_setGlaze 3 = .ok (.iload_n 3, 1) := by decide +kernel
theorem dL_setGlaze_4 : decode cL_setGlaze 4 = .ok (.invokevirtual 9, 3) := by decide +kernel
theorem dL_setGlaze_7 : decode cL_setGlaze 7 = .ok (.ireturn, 1) := by decide +kernel
theorem dL_setGlaze_8 : decode cL_setGlaze 8 = .ok (.astore 4, 2) := by decide +kernel
theorem dL_setGlaze_10 : decode cL_setGlaze 10 = .ok (.ldc 17, 2) := by decide +kernel
theorem dL_setGlaze_12 : decode cL_setGlaze 12 = .ok (.ireturn, 1) := by decide +kernel
theorem dL_setGlaze_13 : decode cL_setGlaze 13 = .ok (.astore 4, 2) := by decide +kernel
theorem dL_setGlaze_15 : decode cL_setGlaze 15 = .ok (.ldc 20, 2) := by decide +kernel
theorem dL_setGlaze_17 : decode cL_setGlaze 17 = .ok (.ireturn, 1) := by decide +kernel
theorem dL_setQuality_0 : decode cL_setQuality 0 = .ok (.aload_n 0, 1) := by decide +kernel
theorem dL_setQuality_1 : decode cL_setQuality 1 = .ok (.iload_n 1, 1) := by decide +kernel
theorem dL_setQuality_2 : decode cL_setQuality 2 = .ok (.iload_n 2, 1) := by decide +kernel
theorem dL_setQuality_3 : decode cL_setQuality 3 = .ok (.iload_n 3, 1) := by decide +kernel
theorem dL_setQuality_4 : decode cL_setQuality 4 = .ok (.invokevirtual 21, 3) := by decide +kernel
theorem dL_setQuality_7 : decode cL_setQuality 7 = .ok (.ireturn, 1) := by decide +kernel
theorem dL_setQuality_8 : decode cL_setQuality 8 = .ok (.astore 4, 2) := by decide +kernel
theorem dL_setQuality_10 : decode cL_setQuality 10 = .ok (.ldc 17, 2) := by decide +kernel
theorem dL_setQuality_12 : decode cL_setQuality 12 = .ok (.ireturn, 1) := by decide +kernel
theorem dL_setQuality_13 : decode cL_setQuality 13 = .ok (.astore 4, 2) := by decide +kernel
theorem dL_setQuality_15 : decode cL_setQuality 15 = .ok (.ldc 20, 2) := by decide +kernel
theorem dL_setQuality_17 : decode cL_setQuality 17 = .ok (.ireturn, 1) := by decide +kernel
theorem dL_setPosition_0 : decode cL_setPosition 0 = .ok (.aload_n 0, 1) := by decide +kernel
theorem dL_setPosition_1 : decode cL_setPosition 1 = .ok (.iload_n 1, 1) := by decide +kernel
theorem dL_setPosition_2 : decode cL_setPosition 2 = .ok (.iload_n 2, 1) := by decide +kernel
theorem dL_setPosition_3 : decode cL_setPosition 3 = .ok (.iload_n 3, 1) := by decide +kernel
theorem dL_setPosition_4 : decode cL_setPosition 4 = .ok (.iload 4, 2) := by decide +kernel
theorem dL_setPosition_6 : decode cL_setPosition 6 = .ok (.invokevirtual 24, 3) := by decide +kernel
theorem dL_setPosition_9 : decode cL_setPosition 9 = .ok (.ireturn, 1) := by decide +kernel
theorem dL_setPosition_10 : decode cL_setPosition 10 = .ok (.astore 5, 2) := by decide +kernel
theorem dL_setPosition_12 : decode cL_setPosition 12 = .ok (.ldc 17, 2) := by decide +kernel
theorem dL_setPosition_14 : decode cL_setPosition 14 = .ok (.ireturn, 1) := by decide +kernel
theorem dL_setPosition_15 : decode cL_setPosition 15 = .ok (.astore 5, 2) := by decide +kernel
theorem dL_setPosition_17 : decode cL_setPosition 17 = .ok (.ldc 20, 2) := by decide +kernel
theorem dL_setPosition_19 : decode cL_setPosition 19 = .ok (.ireturn, 1) := by decide +kernel
theorem dL_setSharpness_0 : decode cL_setSharpness 0 = .ok (.aload_n 0, 1) := by decide +kernel
theorem dL_setSharpness_1 : decode cL_setSharpness 1 = .ok (.iload_n 1, 1) := by decide +kernel
theorem dL_setSharpness_2 : decode cL_setSharpness 2 = .ok (.invokevirtual 28, 3) := by decide +kernel
theorem dL_setSharpness_5 : decode cL_setSharpness 5 = .ok (.ireturn, 1) := by decide +kernel
theorem dL_setSharpness_6 : decode cL_setSharpness 6 = .ok (.astore_n 2, 1) := by decide +kernel
theorem dL_setSharpness_7 : decode cL_setSharpness 7 = .ok (.ldc 20, 2) := by decide +kernel
theorem dL_setSharpness_9 : decode cL_setSharpness 9 = .ok (.ireturn, 1) := by decide +kernel
theorem dL_setBoxSize_0 : decode cL_setBoxSize 0 = .ok (.aload_n 0, 1) := by decide +kernel
theorem dL_setBoxSize_1 : decode cL_setBoxSize 1 = .ok (.iload_n 1, 1) := by decide +kernel
theorem dL_setBoxSize_2 : decode cL_setBoxSize 2 = .ok (.invokevirtual 32, 3) := by decide +kernel
theorem dL_setBoxSize_5 : decode cL_setBoxSize 5 = .ok (.ireturn, 1) := by decide +kernel
theorem dL_setBoxSize_6 : decode cL_setBoxSize 6 = .ok (.astore_n 2, 1) := by decide +kernel
theorem dL_setBoxSize_7 : decode cL_setBoxSize 7 = .ok (.ldc 20, 2) := by decide +kernel
theorem dL_setBoxSize_9 : decode cL_setBoxSize 9 = .ok (.ireturn, 1) := by decide +kernel
theorem dL_setBoxSize_10 : decode cL_setBoxSize 10 = .ok (.astore_n 2, 1) := by decide +kernel
theorem dL_setBoxSize_11 : decode cL_setBoxSize 11 = .ok (.ldc 37, 2) := by decide +kernel
theorem dL_setBoxSize_13 : decode cL_setBoxSize 13 = .ok (.ireturn, 1) := by decide +kernel
theorem dL_fire_0 : decode cL_fire 0 = .ok (.aload_n 0, 1) := by decide +kernel
theorem dL_fire_1 : decode cL_fire 1 = .ok (.iload_n 1, 1) := by decide +kernel
theorem dL_fire_2 : decode cL_fire 2 = .ok (.iload_n 2, 1) := by decide +kernel
theorem dL_fire_3 : decode cL_fire 3 = .ok (.iload_n 3, 1) := by decide +kernel
theorem dL_fire_4 : decode cL_fire 4 = .ok (.iload 4, 2) := by decide +kernel
theorem dL_fire_6 : decode cL_fire 6 = .ok (.invokevirtual 38, 3) := by decide +kernel
theorem dL_fire_9 : decode cL_fire 9 = .ok (.ireturn, 1) := by decide +kernel
theorem dL_fire_10 : decode cL_fire 10 = .ok (.astore 5, 2) := by decide +kernel
theorem dL_fire_12 : decode cL_fire 12 = .ok (.ldc 17, 2) := by decide +kernel
theorem dL_fire_14 : decode cL_fire 14 = .ok (.ireturn, 1) := by decide +kernel
theorem dL_fire_15 : decode cL_fire 15 = .ok (.astore 5, 2) := by decide +kernel
theorem dL_fire_17 : decode cL_fire 17 = .ok (.ldc 20, 2) := by decide +kernel
theorem dL_fire_19 : decode cL_fire 19 = .ok (.ireturn, 1) := by decide +kernel
theorem dL_fire_20 : decode cL_fire 20 = .ok (.astore 5, 2) := by decide +kernel
theorem dL_fire_22 : decode cL_fire 22 = .ok (.ldc 37, 2) := by decide +kernel
theorem dL_fire_24 : decode cL_fire 24 = .ok (.ireturn, 1) := by decide +kernel
theorem dL_grade_0 : decode cL_grade 0 = .ok (.aload_n 0, 1) := by decide +kernel
theorem dL_grade_1 : decode cL_grade 1 = .ok (.iload_n 1, 1) := by decide +kernel
theorem dL_grade_2 : decode cL_grade 2 = .ok (.invokevirtual 41, 3) := by decide +kernel
theorem dL_grade_5 : decode cL_grade 5 = .ok (.ireturn, 1) := by decide +kernel
theorem dL_grade_6 : decode cL_grade 6 = .ok (.astore_n 2, 1) := by decide +kernel
theorem dL_grade_7 : decode cL_grade 7 = .ok (.ldc 20, 2) := by decide +kernel
theorem dL_grade_9 : decode cL_grade 9 = .ok (.ireturn, 1) := by decide +kernel
theorem dL_grade_10 : decode cL_grade 10 = .ok (.astore_n 2, 1) := by decide +kernel
theorem dL_grade_11 : decode cL_grade 11 = .ok (.ldc 37, 2) := by decide +kernel
theorem dL_grade_13 : decode cL_grade 13 = .ok (.ireturn, 1) := by decide +kernel
theorem dL_deliver_0 : decode cL_deliver 0 = .ok (.aload_n 0, 1) := by decide +kernel
theorem dL_deliver_1 : decode cL_deliver 1 = .ok (.iload_n 1, 1) := by decide +kernel
theorem dL_deliver_2 : decode cL_deliver 2 = .ok (.iload_n 2, 1) := by decide +kernel
theorem dL_deliver_3 : decode cL_deliver 3 = .ok (.iload_n 3, 1) := by decide +kernel
theorem dL_deliver_4 : decode cL_deliver 4 = .ok (.invokevirtual 44, 3) := by decide +kernel
theorem dL_deliver_7 : decode cL_deliver 7 = .ok (.ireturn, 1) := by decide +kernel
theorem dL_deliver_8 : decode cL_deliver 8 = .ok (.astore 4, 2) := by decide +kernel
theorem dL_deliver_10 : decode cL_deliver 10 = .ok (.ldc 17, 2) := by decide +kernel
theorem dL_deliver_12 : decode cL_deliver 12 = .ok (.ireturn, 1) := by decide +kernel
theorem dL_deliver_13 : decode cL_deliver 13 = .ok (.astore 4, 2) := by decide +kernel
theorem dL_deliver_15 : decode cL_deliver 15 = .ok (.ldc 20, 2) := by decide +kernel
theorem dL_deliver_17 : decode cL_deliver 17 = .ok (.ireturn, 1) := by decide +kernel
theorem dL_deliver_18 : decode cL_deliver 18 = .ok (.astore 4, 2) := by decide +kernel
theorem dL_deliver_20 : decode cL_deliver 20 = .ok (.ldc 37, 2) := by decide +kernel
theorem dL_deliver_22 : decode cL_deliver 22 = .ok (.ireturn, 1) := by decide +kernel
theorem dL_drop_0 : decode cL_drop 0 = .ok (.aload_n 0, 1) := by decide +kernel
theorem dL_drop_1 : decode cL_drop 1 = .ok (.iload_n 1, 1) := by decide +kernel
theorem dL_drop_2 : decode cL_drop 2 = .ok (.iload_n 2, 1) := by decide +kernel
theorem dL_drop_3 : decode cL_drop 3 = .ok (.iload_n 3, 1) := by decide +kernel
theorem dL_drop_4 : decode cL_drop 4 = .ok (.iload 4, 2) := by decide +kernel
theorem dL_drop_6 : decode cL_drop 6 = .ok (.invokevirtual 47, 3) := by decide +kernel
theorem dL_drop_9 : decode cL_drop 9 = .ok (.ireturn, 1) := by decide +kernel
theorem dL_drop_10 : decode cL_drop 10 = .ok (.astore 5, 2) := by decide +kernel
theorem dL_drop_12 : decode cL_drop 12 = .ok (.ldc 17, 2) := by decide +kernel
theorem dL_drop_14 : decode cL_drop 14 = .ok (.ireturn, 1) := by decide +kernel
theorem dL_drop_15 : decode cL_drop 15 = .ok (.astore 5, 2) := by decide +kernel
theorem dL_drop_17 : decode cL_drop 17 = .ok (.ldc 20, 2) := by decide +kernel
theorem dL_drop_19 : decode cL_drop 19 = .ok (.ireturn, 1) := by decide +kernel
theorem dL_drop_20 : decode cL_drop 20 = .ok (.astore 5, 2) := by decide +kernel
theorem dL_drop_22 : decode cL_drop 22 = .ok (.ldc 37, 2) := by decide +kernel
theorem dL_drop_24 : decode cL_drop 24 = .ok (.ireturn, 1) := by decide +kernel
theorem dL_takeBack_0 : decode cL_takeBack 0 = .ok (.aload_n 0, 1) := by decide +kernel
theorem dL_takeBack_1 : decode cL_takeBack 1 = .ok (.iload_n 1, 1) := by decide +kernel
theorem dL_takeBack_2 : decode cL_takeBack 2 = .ok (.iload_n 2, 1) := by decide +kernel
theorem dL_takeBack_3 : decode cL_takeBack 3 = .ok (.iload_n 3, 1) := by decide +kernel
theorem dL_takeBack_4 : decode cL_takeBack 4 = .ok (.invokevirtual 50, 3) := by decide +kernel
theorem dL_takeBack_7 : decode cL_takeBack 7 = .ok (.ireturn, 1) := by decide +kernel
theorem dL_takeBack_8 : decode cL_takeBack 8 = .ok (.astore 4, 2) := by decide +kernel
theorem dL_takeBack_10 : decode cL_takeBack 10 = .ok (.ldc 17, 2) := by decide +kernel
theorem dL_takeBack_12 : decode cL_takeBack 12 = .ok (.ireturn, 1) := by decide +kernel
theorem dL_takeBack_13 : decode cL_takeBack 13 = .ok (.astore 4, 2) := by decide +kernel
theorem dL_takeBack_15 : decode cL_takeBack 15 = .ok (.ldc 20, 2) := by decide +kernel
theorem dL_takeBack_17 : decode cL_takeBack 17 = .ok (.ireturn, 1) := by decide +kernel
theorem dL_takeBack_18 : decode cL_takeBack 18 = .ok (.astore 4, 2) := by decide +kernel
theorem dL_takeBack_20 : decode cL_takeBack 20 = .ok (.ldc 37, 2) := by decide +kernel
theorem dL_takeBack_22 : decode cL_takeBack 22 = .ok (.ireturn, 1) := by decide +kernel
theorem dL_replace_0 : decode cL_replace 0 = .ok (.aload_n 0, 1) := by decide +kernel
theorem dL_replace_1 : decode cL_replace 1 = .ok (.iload_n 1, 1) := by decide +kernel
theorem dL_replace_2 : decode cL_replace 2 = .ok (.invokevirtual 53, 3) := by decide +kernel
theorem dL_replace_5 : decode cL_replace 5 = .ok (.ireturn, 1) := by decide +kernel
theorem dL_replace_6 : decode cL_replace 6 = .ok (.astore_n 2, 1) := by decide +kernel
theorem dL_replace_7 : decode cL_replace 7 = .ok (.ldc 17, 2) := by decide +kernel
theorem dL_replace_9 : decode cL_replace 9 = .ok (.ireturn, 1) := by decide +kernel
theorem dL_replace_10 : decode cL_replace 10 = .ok (.astore_n 2, 1) := by decide +kernel
theorem dL_replace_11 : decode cL_replace 11 = .ok (.ldc 37, 2) := by decide +kernel
theorem dL_replace_13 : decode cL_replace 13 = .ok (.ireturn, 1) := by decide +kernel
theorem dL_undo_0 : decode cL_undo 0 = .ok (.aload_n 0, 1) := by decide +kernel
theorem dL_undo_1 : decode cL_undo 1 = .ok (.invokevirtual 56, 3) := by decide +kernel
theorem dL_undo_4 : decode cL_undo 4 = .ok (.ireturn, 1) := by decide +kernel
theorem dL_undo_5 : decode cL_undo 5 = .ok (.astore_n 1, 1) := by decide +kernel
theorem dL_undo_6 : decode cL_undo 6 = .ok (.ldc 37, 2) := by decide +kernel
theorem dL_undo_8 : decode cL_undo 8 = .ok (.ireturn, 1) := by decide +kernel
theorem dL_lot_0 : decode cL_lot 0 = .ok (.aload_n 0, 1) := by decide +kernel
theorem dL_lot_1 : decode cL_lot 1 = .ok (.iload_n 1, 1) := by decide +kernel
theorem dL_lot_2 : decode cL_lot 2 = .ok (.iload_n 2, 1) := by decide +kernel
theorem dL_lot_3 : decode cL_lot 3 = .ok (.invokevirtual 60, 3) := by decide +kernel
theorem dL_lot_6 : decode cL_lot 6 = .ok (.ireturn, 1) := by decide +kernel
theorem dL_lot_7 : decode cL_lot 7 = .ok (.astore_n 3, 1) := by decide +kernel
theorem dL_lot_8 : decode cL_lot 8 = .ok (.ldc 17, 2) := by decide +kernel
theorem dL_lot_10 : decode cL_lot 10 = .ok (.ireturn, 1) := by decide +kernel
theorem dL_lot_11 : decode cL_lot 11 = .ok (.astore_n 3, 1) := by decide +kernel
theorem dL_lot_12 : decode cL_lot 12 = .ok (.ldc 20, 2) := by decide +kernel
theorem dL_lot_14 : decode cL_lot 14 = .ok (.ireturn, 1) := by decide +kernel
theorem dL_delivery_0 : decode cL_delivery 0 = .ok (.aload_n 0, 1) := by decide +kernel
theorem dL_delivery_1 : decode cL_delivery 1 = .ok (.iload_n 1, 1) := by decide +kernel
theorem dL_delivery_2 : decode cL_delivery 2 = .ok (.iload_n 2, 1) := by decide +kernel
theorem dL_delivery_3 : decode cL_delivery 3 = .ok (.invokevirtual 64, 3) := by decide +kernel
theorem dL_delivery_6 : decode cL_delivery 6 = .ok (.lreturn, 1) := by decide +kernel
theorem dL_delivery_7 : decode cL_delivery 7 = .ok (.astore_n 3, 1) := by decide +kernel
theorem dL_delivery_8 : decode cL_delivery 8 = .ok (.ldc2_w 68, 3) := by decide +kernel
theorem dL_delivery_11 : decode cL_delivery 11 = .ok (.lreturn, 1) := by decide +kernel
theorem dL_delivery_12 : decode cL_delivery 12 = .ok (.astore_n 3, 1) := by decide +kernel
theorem dL_delivery_13 : decode cL_delivery 13 = .ok (.ldc2_w 70, 3) := by decide +kernel
theorem dL_delivery_16 : decode cL_delivery 16 = .ok (.lreturn, 1) := by decide +kernel
theorem dL_event_0 : decode cL_event 0 = .ok (.aload_n 0, 1) := by decide +kernel
theorem dL_event_1 : decode cL_event 1 = .ok (.iload_n 1, 1) := by decide +kernel
theorem dL_event_2 : decode cL_event 2 = .ok (.iload_n 2, 1) := by decide +kernel
theorem dL_event_3 : decode cL_event 3 = .ok (.invokevirtual 72, 3) := by decide +kernel
theorem dL_event_6 : decode cL_event 6 = .ok (.ireturn, 1) := by decide +kernel
theorem dL_event_7 : decode cL_event 7 = .ok (.astore_n 3, 1) := by decide +kernel
theorem dL_event_8 : decode cL_event 8 = .ok (.ldc 20, 2) := by decide +kernel
theorem dL_event_10 : decode cL_event 10 = .ok (.ireturn, 1) := by decide +kernel
theorem dL_total_0 : decode cL_total 0 = .ok (.aload_n 0, 1) := by decide +kernel
theorem dL_total_1 : decode cL_total 1 = .ok (.iload_n 1, 1) := by decide +kernel
theorem dL_total_2 : decode cL_total 2 = .ok (.invokevirtual 75, 3) := by decide +kernel
theorem dL_total_5 : decode cL_total 5 = .ok (.lreturn, 1) := by decide +kernel
theorem dL_total_6 : decode cL_total 6 = .ok (.astore_n 2, 1) := by decide +kernel
theorem dL_total_7 : decode cL_total 7 = .ok (.ldc2_w 70, 3) := by decide +kernel
theorem dL_total_10 : decode cL_total 10 = .ok (.lreturn, 1) := by decide +kernel
theorem dL_shadeAt_0 : decode cL_shadeAt 0 = .ok (.aload_n 0, 1) := by decide +kernel
theorem dL_shadeAt_1 : decode cL_shadeAt 1 = .ok (.iload_n 1, 1) := by decide +kernel
theorem dL_shadeAt_2 : decode cL_shadeAt 2 = .ok (.iload_n 2, 1) := by decide +kernel
theorem dL_shadeAt_3 : decode cL_shadeAt 3 = .ok (.iload_n 3, 1) := by decide +kernel
theorem dL_shadeAt_4 : decode cL_shadeAt 4 = .ok (.iload 4, 2) := by decide +kernel
theorem dL_shadeAt_6 : decode cL_shadeAt 6 = .ok (.invokevirtual 79, 3) := by decide +kernel
theorem dL_shadeAt_9 : decode cL_shadeAt 9 = .ok (.ireturn, 1) := by decide +kernel
theorem dL_shadeAt_10 : decode cL_shadeAt 10 = .ok (.astore 5, 2) := by decide +kernel
theorem dL_shadeAt_12 : decode cL_shadeAt 12 = .ok (.ldc 17, 2) := by decide +kernel
theorem dL_shadeAt_14 : decode cL_shadeAt 14 = .ok (.ireturn, 1) := by decide +kernel
theorem dL_shadeAt_15 : decode cL_shadeAt 15 = .ok (.astore 5, 2) := by decide +kernel
theorem dL_shadeAt_17 : decode cL_shadeAt 17 = .ok (.ldc 20, 2) := by decide +kernel
theorem dL_shadeAt_19 : decode cL_shadeAt 19 = .ok (.ireturn, 1) := by decide +kernel
theorem dL_bestPeak_0 : decode cL_bestPeak 0 = .ok (.aload_n 0, 1) := by decide +kernel
theorem dL_bestPeak_1 : decode cL_bestPeak 1 = .ok (.iload_n 1, 1) := by decide +kernel
theorem dL_bestPeak_2 : decode cL_bestPeak 2 = .ok (.iload_n 2, 1) := by decide +kernel
theorem dL_bestPeak_3 : decode cL_bestPeak 3 = .ok (.iload_n 3, 1) := by decide +kernel
theorem dL_bestPeak_4 : decode cL_bestPeak 4 = .ok (.invokevirtual 82, 3) := by decide +kernel
theorem dL_bestPeak_7 : decode cL_bestPeak 7 = .ok (.ireturn, 1) := by decide +kernel
theorem dL_bestPeak_8 : decode cL_bestPeak 8 = .ok (.astore 4, 2) := by decide +kernel
theorem dL_bestPeak_10 : decode cL_bestPeak 10 = .ok (.ldc 17, 2) := by decide +kernel
theorem dL_bestPeak_12 : decode cL_bestPeak 12 = .ok (.ireturn, 1) := by decide +kernel
theorem dL_bestPeak_13 : decode cL_bestPeak 13 = .ok (.astore 4, 2) := by decide +kernel
theorem dL_bestPeak_15 : decode cL_bestPeak 15 = .ok (.ldc 20, 2) := by decide +kernel
theorem dL_bestPeak_17 : decode cL_bestPeak 17 = .ok (.ireturn, 1) := by decide +kernel
theorem dL_largest_0 : decode cL_largest 0 = .ok (.aload_n 0, 1) := by decide +kernel
theorem dL_largest_1 : decode cL_largest 1 = .ok (.iload_n 1, 1) := by decide +kernel
theorem dL_largest_2 : decode cL_largest 2 = .ok (.iload_n 2, 1) := by decide +kernel
theorem dL_largest_3 : decode cL_largest 3 = .ok (.invokevirtual 85, 3) := by decide +kernel
theorem dL_largest_6 : decode cL_largest 6 = .ok (.ireturn, 1) := by decide +kernel
theorem dL_largest_7 : decode cL_largest 7 = .ok (.astore_n 3, 1) := by decide +kernel
theorem dL_largest_8 : decode cL_largest 8 = .ok (.ldc 17, 2) := by decide +kernel
theorem dL_largest_10 : decode cL_largest 10 = .ok (.ireturn, 1) := by decide +kernel
theorem dL_largest_11 : decode cL_largest 11 = .ok (.astore_n 3, 1) := by decide +kernel
theorem dL_largest_12 : decode cL_largest 12 = .ok (.ldc 20, 2) := by decide +kernel
theorem dL_largest_14 : decode cL_largest 14 = .ok (.ireturn, 1) := by decide +kernel
theorem dL_possible_0 : decode cL_possible 0 = .ok (.aload_n 0, 1) := by decide +kernel
theorem dL_possible_1 : decode cL_possible 1 = .ok (.iload_n 1, 1) := by decide +kernel
theorem dL_possible_2 : decode cL_possible 2 = .ok (.iload_n 2, 1) := by decide +kernel
theorem dL_possible_3 : decode cL_possible 3 = .ok (.iload_n 3, 1) := by decide +kernel
theorem dL_possible_4 : decode cL_possible 4 = .ok (.iload 4, 2) := by decide +kernel
theorem dL_possible_6 : decode cL_possible 6 = .ok (.iload 5, 2) := by decide +kernel
theorem dL_possible_8 : decode cL_possible 8 = .ok (.invokevirtual 88, 3) := by decide +kernel
theorem dL_possible_11 : decode cL_possible 11 = .ok (.ireturn, 1) := by decide +kernel
theorem dL_possible_12 : decode cL_possible 12 = .ok (.astore 6, 2) := by decide +kernel
theorem dL_possible_14 : decode cL_possible 14 = .ok (.ldc 17, 2) := by decide +kernel
theorem dL_possible_16 : decode cL_possible 16 = .ok (.ireturn, 1) := by decide +kernel
theorem dL_possible_17 : decode cL_possible 17 = .ok (.astore 6, 2) := by decide +kernel
theorem dL_possible_19 : decode cL_possible 19 = .ok (.ldc 20, 2) := by decide +kernel
theorem dL_possible_21 : decode cL_possible 21 = .ok (.ireturn, 1) := by decide +kernel
theorem dL_wouldHide_0 : decode cL_wouldHide 0 = .ok (.aload_n 0, 1) := by decide +kernel
theorem dL_wouldHide_1 : decode cL_wouldHide 1 = .ok (.iload_n 1, 1) := by decide +kernel
theorem dL_wouldHide_2 : decode cL_wouldHide 2 = .ok (.invokevirtual 92, 3) := by decide +kernel
theorem dL_wouldHide_5 : decode cL_wouldHide 5 = .ok (.ireturn, 1) := by decide +kernel
theorem dL_wouldHide_6 : decode cL_wouldHide 6 = .ok (.astore_n 2, 1) := by decide +kernel
theorem dL_wouldHide_7 : decode cL_wouldHide 7 = .ok (.ldc 20, 2) := by decide +kernel
theorem dL_wouldHide_9 : decode cL_wouldHide 9 = .ok (.ireturn, 1) := by decide +kernel
theorem dL_change_0 : decode cL_change 0 = .ok (.iload_n 2, 1) := by decide +kernel
theorem dL_change_1 : decode cL_change 1 = .ok (.iconst 4, 1) := by decide +kernel
theorem dL_change_2 : decode cL_change 2 = .ok (.invokestatic 95, 3) := by decide +kernel
theorem dL_change_5 : decode cL_change 5 = .ok (.istore_n 3, 1) := by decide +kernel
theorem dL_change_6 : decode cL_change 6 = .ok (.iload_n 2, 1) := by decide +kernel
theorem dL_change_7 : decode cL_change 7 = .ok (.iconst 4, 1) := by decide +kernel
theorem dL_change_8 : decode cL_change 8 = .ok (.idiv, 1) := by decide +kernel
theorem dL_change_9 : decode cL_change 9 = .ok (.bipush 8, 2) := by decide +kernel
theorem dL_change_11 : decode cL_change 11 = .ok (.invokestatic 95, 3) := by decide +kernel
theorem dL_change_14 : decode cL_change 14 = .ok (.istore 4, 2) := by decide +kernel
theorem dL_change_16 : decode cL_change 16 = .ok (.iload_n 2, 1) := by decide +kernel
theorem dL_change_17 : decode cL_change 17 = .ok (.bipush 32, 2) := by decide +kernel
theorem dL_change_19 : decode cL_change 19 = .ok (.idiv, 1) := by decide +kernel
theorem dL_change_20 : decode cL_change 20 = .ok (.bipush 100, 2) := by decide +kernel
theorem dL_change_22 : decode cL_change 22 = .ok (.invokestatic 95, 3) := by decide +kernel
theorem dL_change_25 : decode cL_change 25 = .ok (.istore 5, 2) := by decide +kernel
theorem dL_change_27 : decode cL_change 27 = .ok (.iload_n 1, 1) := by decide +kernel
theorem dL_change_28 : decode cL_change 28 = .ok (.bipush 22, 2) := by decide +kernel
theorem dL_change_30 : decode cL_change 30 = .ok (.invokestatic 95, 3) := by decide +kernel
theorem dL_change_33 : decode cL_change 33 = .ok (.tableswitch 403 0 19 #[95, 118, 139, 181, 190, 201, 201, 201, 201, 265, 265, 276, 276, 281, 281, 312, 361, 380, 386, 391], 95) := by decide +kernel
theorem dL_change_128 : decode cL_change 128 = .ok (.aload_n 0, 1) := by decide +kernel
theorem dL_change_129 : decode cL_change 129 = .ok (.iload_n 3, 1) := by decide +kernel
theorem dL_change_130 : decode cL_change 130 = .ok (.iload_n 2, 1) := by decide +kernel
theorem dL_change_131 : decode cL_change 131 = .ok (.iconst 4, 1) := by decide +kernel
theorem dL_change_132 : decode cL_change 132 = .ok (.idiv, 1) := by decide +kernel
theorem dL_change_133 : decode cL_change 133 = .ok (.bipush 21, 2) := by decide +kernel
theorem dL_change_135 : decode cL_change 135 = .ok (.invokestatic 95, 3) := by decide +kernel
theorem dL_change_138 : decode cL_change 138 = .ok (.iload_n 2, 1) := by decide +kernel
theorem dL_change_139 : decode cL_change 139 = .ok (.bipush 84, 2) := by decide +kernel
theorem dL_change_141 : decode cL_change 141 = .ok (.idiv, 1) := by decide +kernel
theorem dL_change_142 : decode cL_change 142 = .ok (.bipush 22, 2) := by decide +kernel
theorem dL_change_144 : decode cL_change 144 = .ok (.invokestatic 95, 3) := by decide +kernel
theorem dL_change_147 : decode cL_change 147 = .ok (.invokestatic 100, 3) := by decide +kernel
theorem dL_change_150 : decode cL_change 150 = .ok (.ireturn, 1) := by decide +kernel
theorem dL_change_151 : decode cL_change 151 = .ok (.aload_n 0, 1) := by decide +kernel
theorem dL_change_152 : decode cL_change 152 = .ok (.iload_n 3, 1) := by decide +kernel
theorem dL_change_153 : decode cL_change 153 = .ok (.iload 5, 2) := by decide +kernel
theorem dL_change_155 : decode cL_change 155 = .ok (.iload 4, 2) := by decide +kernel
theorem dL_change_157 : decode cL_change 157 = .ok (.iadd, 1) := by decide +kernel
theorem dL_change_158 : decode cL_change 158 = .ok (.iload_n 2, 1) := by decide +kernel
theorem dL_change_159 : decode cL_change 159 = .ok (.bipush 99, 2) := by decide +kernel
theorem dL_change_161 : decode cL_change 161 = .ok (.idiv, 1) := by decide +kernel
theorem dL_change_162 : decode cL_change 162 = .ok (.sipush 10001, 3) := by decide +kernel
theorem dL_change_165 : decode cL_change 165 = .ok (.invokestatic 95, 3) := by decide +kernel
theorem dL_change_168 : decode cL_change 168 = .ok (.invokestatic 103, 3) := by decide +kernel
theorem dL_change_171 : decode cL_change 171 = .ok (.ireturn, 1) := by decide +kernel
theorem dL_change_172 : decode cL_change 172 = .ok (.aload_n 0, 1) := by decide +kernel
theorem dL_change_173 : decode cL_change 173 = .ok (.iload_n 3, 1) := by decide +kernel
theorem dL_change_174 : decode cL_change 174 = .ok (.iload 4, 2) := by decide +kernel
theorem dL_change_176 : decode cL_change 176 = .ok (.iload_n 2, 1) := by decide +kernel
theorem dL_change_177 : decode cL_change 177 = .ok (.bipush 32, 2) := by decide +kernel
theorem dL_change_179 : decode cL_change 179 = .ok (.idiv, 1) := by decide +kernel
theorem dL_change_180 : decode cL_change 180 = .ok (.bipush 82, 2) := by decide +kernel
theorem dL_change_182 : decode cL_change 182 = .ok (.invokestatic 95, 3) := by decide +kernel
theorem dL_change_185 : decode cL_change 185 = .ok (.bipush 41, 2) := by decide +kernel
theorem dL_change_187 : decode cL_change 187 = .ok (.isub, 1) := by decide +kernel
theorem dL_change_188 : decode cL_change 188 = .ok (.iload_n 2, 1) := by decide +kernel
theorem dL_change_189 : decode cL_change 189 = .ok (.bipush 99, 2) := by decide +kernel
theorem dL_change_191 : decode cL_change 191 = .ok (.idiv, 1) := by decide +kernel
theorem dL_change_192 : decode cL_change 192 = .ok (.iconst 4, 1) := by decide +kernel
theorem dL_change_193 : decode cL_change 193 = .ok (.invokestatic 95, 3) := by decide +kernel
theorem dL_change_196 : decode cL_change 196 = .ok (.ifCond .ne 10, 3) := by decide +kernel
theorem dL_change_199 : decode cL_change 199 = .ok (.iload 5, 2) := by decide +kernel
theorem dL_change_201 : decode cL_change 201 = .ok (.iconst 2, 1) := by decide +kernel
theorem dL_change_202 : decode cL_change 202 = .ok (.iadd, 1) := by decide +kernel
theorem dL_change_203 : decode cL_change 203 = .ok (.goto 7, 3) := by decide +kernel
theorem dL_change_206 : decode cL_change 206 = .ok (.iload 5, 2) := by decide +kernel
theorem dL_change_208 : decode cL_change 208 = .ok (.iconst 4, 1) := by decide +kernel
theorem dL_change_209 : decode cL_change 209 = .ok (.idiv, 1) := by decide +kernel
theorem dL_change_210 : decode cL_change 210 = .ok (.invokestatic 105, 3) := by decide +kernel
theorem dL_change_213 : decode cL_change 213 = .ok (.ireturn, 1) := by decide +kernel
theorem dL_change_214 : decode cL_change 214 = .ok (.aload_n 0, 1) := by decide +kernel
theorem dL_change_215 : decode cL_change 215 = .ok (.iload 5, 2) := by decide +kernel
theorem dL_change_217 : decode cL_change 217 = .ok (.iconst 2, 1) := by decide +kernel
theorem dL_change_218 : decode cL_change 218 = .ok (.iadd, 1) := by decide +kernel
theorem dL_change_219 : decode cL_change 219 = .ok (.invokestatic 108, 3) := by decide +kernel
theorem dL_change_222 : decode cL_change 222 = .ok (.ireturn, 1) := by decide +kernel
theorem dL_change_223 : decode cL_change 223 = .ok (.aload_n 0, 1) := by decide +kernel
theorem dL_change_224 : decode cL_change 224 = .ok (.iload_n 2, 1) := by decide +kernel
theorem dL_change_225 : decode cL_change 225 = .ok (.bipush 52, 2) := by decide +kernel
theorem dL_change_227 : decode cL_change 227 = .ok (.invokestatic 95, 3) := by decide +kernel
theorem dL_change_230 : decode cL_change 230 = .ok (.invokestatic 111, 3) := by decide +kernel
theorem dL_change_233 : decode cL_change 233 = .ok (.ireturn, 1) := by decide +kernel
theorem dL_change_234 : decode cL_change 234 = .ok (.aload_n 0, 1) := by decide +kernel
theorem dL_change_235 : decode cL_change 235 = .ok (.iload_n 2, 1) := by decide +kernel
theorem dL_change_236 : decode cL_change 236 = .ok (.bipush 9, 2) := by decide +kernel
theorem dL_change_238 : decode cL_change 238 = .ok (.invokestatic 95, 3) := by decide +kernel
theorem dL_change_241 : decode cL_change 241 = .ok (.ifCond .ne 7, 3) := by decide +kernel
theorem dL_change_244 : decode cL_change 244 = .ok (.iconst 3, 1) := by decide +kernel
theorem dL_change_245 : decode cL_change 245 = .ok (.goto 6, 3) := by decide +kernel
theorem dL_change_248 : decode cL_change 248 = .ok (.iload_n 3, 1) := by decide +kernel
theorem dL_change_249 : decode cL_change 249 = .ok (.iconst 3, 1) := by decide +kernel
theorem dL_change_250 : decode cL_change 250 = .ok (.irem, 1) := by decide +kernel
theorem dL_change_251 : decode cL_change 251 = .ok (.iload_n 2, 1) := by decide +kernel
theorem dL_change_252 : decode cL_change 252 = .ok (.iconst 3, 1) := by decide +kernel
theorem dL_change_253 : decode cL_change 253 = .ok (.idiv, 1) := by decide +kernel
theorem dL_change_254 : decode cL_change 254 = .ok (.iconst 5, 1) := by decide +kernel
theorem dL_change_255 : decode cL_change 255 = .ok (.invokestatic 95, 3) := by decide +kernel
theorem dL_change_258 : decode cL_change 258 = .ok (.ifCond .ne 7, 3) := by decide +kernel
theorem dL_change_261 : decode cL_change 261 = .ok (.iconst 4, 1) := by decide +kernel
theorem dL_change_262 : decode cL_change 262 = .ok (.goto 7, 3) := by decide +kernel
theorem dL_change_265 : decode cL_change 265 = .ok (.iload 4, 2) := by decide +kernel
theorem dL_change_267 : decode cL_change 267 = .ok (.iconst 4, 1) := by decide +kernel
theorem dL_change_268 : decode cL_change 268 = .ok (.irem, 1) := by decide +kernel
theorem dL_change_269 : decode cL_change 269 = .ok (.sipush 900, 3) := by decide +kernel
theorem dL_change_272 : decode cL_change 272 = .ok (.iconst 2, 1) := by decide +kernel
theorem dL_change_273 : decode cL_change 273 = .ok (.iload 5, 2) := by decide +kernel
theorem dL_change_275 : decode cL_change 275 = .ok (.imul, 1) := by decide +kernel
theorem dL_change_276 : decode cL_change 276 = .ok (.iadd, 1) := by decide +kernel
theorem dL_change_277 : decode cL_change 277 = .ok (.bipush 20, 2) := by decide +kernel
theorem dL_change_279 : decode cL_change 279 = .ok (.iload 4, 2) := by decide +kernel
theorem dL_change_281 : decode cL_change 281 = .ok (.imul, 1) := by decide +kernel
theorem dL_change_282 : decode cL_change 282 = .ok (.iadd, 1) := by decide +kernel
theorem dL_change_283 : decode cL_change 283 = .ok (.iconst 1, 1) := by decide +kernel
theorem dL_change_284 : decode cL_change 284 = .ok (.iload_n 2, 1) := by decide +kernel
theorem dL_change_285 : decode cL_change 285 = .ok (.bipush 9, 2) := by decide +kernel
theorem dL_change_287 : decode cL_change 287 = .ok (.idiv, 1) := by decide +kernel
theorem dL_change_288 : decode cL_change 288 = .ok (.bipush 101, 2) := by decide +kernel
theorem dL_change_290 : decode cL_change 290 = .ok (.invokestatic 95, 3) := by decide +kernel
theorem dL_change_293 : decode cL_change 293 = .ok (.iadd, 1) := by decide +kernel
theorem dL_change_294 : decode cL_change 294 = .ok (.invokestatic 113, 3) := by decide +kernel
theorem dL_change_297 : decode cL_change 297 = .ok (.ireturn, 1) := by decide +kernel
theorem dL_change_298 : decode cL_change 298 = .ok (.aload_n 0, 1) := by decide +kernel
theorem dL_change_299 : decode cL_change 299 = .ok (.iload_n 2, 1) := by decide +kernel
theorem dL_change_300 : decode cL_change 300 = .ok (.bipush 12, 2) := by decide +kernel
theorem dL_change_302 : decode cL_change 302 = .ok (.invokestatic 95, 3) := by decide +kernel
theorem dL_change_305 : decode cL_change 305 = .ok (.invokestatic 115, 3) := by decide +kernel
theorem dL_change_308 : decode cL_change 308 = .ok (.ireturn, 1) := by decide +kernel
theorem dL_change_309 : decode cL_change 309 = .ok (.aload_n 0, 1) := by decide +kernel
theorem dL_change_310 : decode cL_change 310 = .ok (.invokevirtual 117, 3) := by decide +kernel
theorem dL_change_313 : decode cL_change 313 = .ok (.ireturn, 1) := by decide +kernel
theorem dL_change_314 : decode cL_change 314 = .ok (.aload_n 0, 1) := by decide +kernel
theorem dL_change_315 : decode cL_change 315 = .ok (.iload_n 3, 1) := by decide +kernel
theorem dL_change_316 : decode cL_change 316 = .ok (.iload_n 2, 1) := by decide +kernel
theorem dL_change_317 : decode cL_change 317 = .ok (.iconst 4, 1) := by decide +kernel
theorem dL_change_318 : decode cL_change 318 = .ok (.idiv, 1) := by decide +kernel
theorem dL_change_319 : decode cL_change 319 = .ok (.bipush 9, 2) := by decide +kernel
theorem dL_change_321 : decode cL_change 321 = .ok (.invokestatic 95, 3) := by decide +kernel
theorem dL_change_324 : decode cL_change 324 = .ok (.ifCond .ne 7, 3) := by decide +kernel
theorem dL_change_327 : decode cL_change 327 = .ok (.iconst 2, 1) := by decide +kernel
theorem dL_change_328 : decode cL_change 328 = .ok (.goto 4, 3) := by decide +kernel
theorem dL_change_331 : decode cL_change 331 = .ok (.iconst 1, 1) := by decide +kernel
theorem dL_change_332 : decode cL_change 332 = .ok (.iload_n 2, 1) := by decide +kernel
theorem dL_change_333 : decode cL_change 333 = .ok (.bipush 36, 2) := by decide +kernel
theorem dL_change_335 : decode cL_change 335 = .ok (.idiv, 1) := by decide +kernel
theorem dL_change_336 : decode cL_change 336 = .ok (.bipush 12, 2) := by decide +kernel
theorem dL_change_338 : decode cL_change 338 = .ok (.invokestatic 95, 3) := by decide +kernel
theorem dL_change_341 : decode cL_change 341 = .ok (.invokestatic 120, 3) := by decide +kernel
theorem dL_change_344 : decode cL_change 344 = .ok (.ireturn, 1) := by decide +kernel
theorem dL_change_345 : decode cL_change 345 = .ok (.aload_n 0, 1) := by decide +kernel
theorem dL_change_346 : decode cL_change 346 = .ok (.iload 4, 2) := by decide +kernel
theorem dL_change_348 : decode cL_change 348 = .ok (.iconst 0, 1) := by decide +kernel
theorem dL_change_349 : decode cL_change 349 = .ok (.invokestatic 122, 3) := by decide +kernel
theorem dL_change_352 : decode cL_change 352 = .ok (.ifCond .ge 7, 3) := by decide +kernel
theorem dL_change_355 : decode cL_change 355 = .ok (.iconst 0, 1) := by decide +kernel
theorem dL_change_356 : decode cL_change 356 = .ok (.goto 37, 3) := by decide +kernel
theorem dL_change_359 : decode cL_change 359 = .ok (.aload_n 0, 1) := by decide +kernel
theorem dL_change_360 : decode cL_change 360 = .ok (.aload_n 0, 1) := by decide +kernel
theorem dL_change_361 : decode cL_change 361 = .ok (.iload 4, 2) := by decide +kernel
theorem dL_change_363 : decode cL_change 363 = .ok (.iconst 0, 1) := by decide +kernel
theorem dL_change_364 : decode cL_change 364 = .ok (.invokestatic 122, 3) := by decide +kernel
theorem dL_change_367 : decode cL_change 367 = .ok (.aload_n 0, 1) := by decide +kernel
theorem dL_change_368 : decode cL_change 368 = .ok (.iload 4, 2) := by decide +kernel
theorem dL_change_370 : decode cL_change 370 = .ok (.iconst 1, 1) := by decide +kernel
theorem dL_change_371 : decode cL_change 371 = .ok (.invokestatic 122, 3) := by decide +kernel
theorem dL_change_374 : decode cL_change 374 = .ok (.aload_n 0, 1) := by decide +kernel
theorem dL_change_375 : decode cL_change 375 = .ok (.iload 4, 2) := by decide +kernel
theorem dL_change_377 : decode cL_change 377 = .ok (.iconst 2, 1) := by decide +kernel
theorem dL_change_378 : decode cL_change 378 = .ok (.invokestatic 122, 3) := by decide +kernel
theorem dL_change_381 : decode cL_change 381 = .ok (.iload_n 2, 1) := by decide +kernel
theorem dL_change_382 : decode cL_change 382 = .ok (.bipush 32, 2) := by decide +kernel
theorem dL_change_384 : decode cL_change 384 = .ok (.idiv, 1) := by decide +kernel
theorem dL_change_385 : decode cL_change 385 = .ok (.bipush 14, 2) := by decide +kernel
theorem dL_change_387 : decode cL_change 387 = .ok (.invokestatic 95, 3) := by decide +kernel
theorem dL_change_390 : decode cL_change 390 = .ok (.invokestatic 125, 3) := by decide +kernel
theorem dL_change_393 : decode cL_change 393 = .ok (.ireturn, 1) := by decide +kernel
theorem dL_change_394 : decode cL_change 394 = .ok (.aload_n 0, 1) := by decide +kernel
theorem dL_change_395 : decode cL_change 395 = .ok (.iload_n 3, 1) := by decide +kernel
theorem dL_change_396 : decode cL_change 396 = .ok (.iconst 1, 1) := by decide +kernel
theorem dL_change_397 : decode cL_change 397 = .ok (.iload_n 2, 1) := by decide +kernel
theorem dL_change_398 : decode cL_change 398 = .ok (.iconst 4, 1) := by decide +kernel
theorem dL_change_399 : decode cL_change 399 = .ok (.idiv, 1) := by decide +kernel
theorem dL_change_400 : decode cL_change 400 = .ok (.iconst 4, 1) := by decide +kernel
theorem dL_change_401 : decode cL_change 401 = .ok (.invokestatic 95, 3) := by decide +kernel
theorem dL_change_404 : decode cL_change 404 = .ok (.iadd, 1) := by decide +kernel
theorem dL_change_405 : decode cL_change 405 = .ok (.iload 5, 2) := by decide +kernel
theorem dL_change_407 : decode cL_change 407 = .ok (.iconst 3, 1) := by decide +kernel
theorem dL_change_408 : decode cL_change 408 = .ok (.idiv, 1) := by decide +kernel
theorem dL_change_409 : decode cL_change 409 = .ok (.invokestatic 127, 3) := by decide +kernel
theorem dL_change_412 : decode cL_change 412 = .ok (.ireturn, 1) := by decide +kernel
theorem dL_change_413 : decode cL_change 413 = .ok (.aload_n 0, 1) := by decide +kernel
theorem dL_change_414 : decode cL_change 414 = .ok (.iload_n 3, 1) := by decide +kernel
theorem dL_change_415 : decode cL_change 415 = .ok (.invokestatic 129, 3) := by decide +kernel
theorem dL_change_418 : decode cL_change 418 = .ok (.ireturn, 1) := by decide +kernel
theorem dL_change_419 : decode cL_change 419 = .ok (.aload_n 0, 1) := by decide +kernel
theorem dL_change_420 : decode cL_change 420 = .ok (.invokestatic 131, 3) := by decide +kernel
theorem dL_change_423 : decode cL_change 423 = .ok (.ireturn, 1) := by decide +kernel
theorem dL_change_424 : decode cL_change 424 = .ok (.aload_n 0, 1) := by decide +kernel
theorem dL_change_425 : decode cL_change 425 = .ok (.iconst 0, 1) := by decide +kernel
theorem dL_change_426 : decode cL_change 426 = .ok (.iload_n 3, 1) := by decide +kernel
theorem dL_change_427 : decode cL_change 427 = .ok (.sipush 1000, 3) := by decide +kernel
theorem dL_change_430 : decode cL_change 430 = .ok (.iload 5, 2) := by decide +kernel
theorem dL_change_432 : decode cL_change 432 = .ok (.invokestatic 113, 3) := by decide +kernel
theorem dL_change_435 : decode cL_change 435 = .ok (.ireturn, 1) := by decide +kernel
theorem dL_change_436 : decode cL_change 436 = .ok (.aload_n 0, 1) := by decide +kernel
theorem dL_change_437 : decode cL_change 437 = .ok (.iconst 1, 1) := by decide +kernel
theorem dL_change_438 : decode cL_change 438 = .ok (.iload_n 2, 1) := by decide +kernel
theorem dL_change_439 : decode cL_change 439 = .ok (.bipush 10, 2) := by decide +kernel
theorem dL_change_441 : decode cL_change 441 = .ok (.invokestatic 95, 3) := by decide +kernel
theorem dL_change_444 : decode cL_change 444 = .ok (.iadd, 1) := by decide +kernel
theorem dL_change_445 : decode cL_change 445 = .ok (.invokestatic 115, 3) := by decide +kernel
theorem dL_change_448 : decode cL_change 448 = .ok (.ireturn, 1) := by decide +kernel
theorem dL_ask_0 : decode cL_ask 0 = .ok (.iload_n 2, 1) := by decide +kernel
theorem dL_ask_1 : decode cL_ask 1 = .ok (.iconst 4, 1) := by decide +kernel
theorem dL_ask_2 : decode cL_ask 2 = .ok (.invokestatic 95, 3) := by decide +kernel
theorem dL_ask_5 : decode cL_ask 5 = .ok (.istore_n 3, 1) := by decide +kernel
theorem dL_ask_6 : decode cL_ask 6 = .ok (.iload_n 1, 1) := by decide +kernel
theorem dL_ask_7 : decode cL_ask 7 = .ok (.bipush 7, 2) := by decide +kernel
theorem dL_ask_9 : decode cL_ask 9 = .ok (.invokestatic 95, 3) := by decide +kernel
theorem dL_ask_12 : decode cL_ask 12 = .ok (.tableswitch 176 0 5 #[40, 69, 93, 106, 144, 155], 40) := by decide +kernel
theorem dL_ask_52 : decode cL_ask 52 = .ok (.aload_n 0, 1) := by decide +kernel
theorem dL_ask_53 : decode cL_ask 53 = .ok (.iload_n 3, 1) := by decide +kernel
theorem dL_ask_54 : decode cL_ask 54 = .ok (.iload_n 2, 1) := by decide +kernel
theorem dL_ask_55 : decode cL_ask 55 = .ok (.iconst 4, 1) := by decide +kernel
theorem dL_ask_56 : decode cL_ask 56 = .ok (.idiv, 1) := by decide +kernel
theorem dL_ask_57 : decode cL_ask 57 = .ok (.bipush 9, 2) := by decide +kernel
theorem dL_ask_59 : decode cL_ask 59 = .ok (.invokestatic 95, 3) := by decide +kernel
theorem dL_ask_62 : decode cL_ask 62 = .ok (.iload_n 3, 1) := by decide +kernel
theorem dL_ask_63 : decode cL_ask 63 = .ok (.sipush 799, 3) := by decide +kernel
theorem dL_ask_66 : decode cL_ask 66 = .ok (.iload_n 2, 1) := by decide +kernel
theorem dL_ask_67 : decode cL_ask 67 = .ok (.bipush 36, 2) := by decide +kernel
theorem dL_ask_69 : decode cL_ask 69 = .ok (.idiv, 1) := by decide +kernel
theorem dL_ask_70 : decode cL_ask 70 = .ok (.sipush 403, 3) := by decide +kernel
theorem dL_ask_73 : decode cL_ask 73 = .ok (.invokestatic 95, 3) := by decide +kernel
theorem dL_ask_76 : decode cL_ask 76 = .ok (.iadd, 1) := by decide +kernel
theorem dL_ask_77 : decode cL_ask 77 = .ok (.invokestatic 134, 3) := by decide +kernel
theorem dL_ask_80 : decode cL_ask 80 = .ok (.ireturn, 1) := by decide +kernel
theorem dL_ask_81 : decode cL_ask 81 = .ok (.aload_n 0, 1) := by decide +kernel
theorem dL_ask_82 : decode cL_ask 82 = .ok (.iload_n 3, 1) := by decide +kernel
theorem dL_ask_83 : decode cL_ask 83 = .ok (.iconst 3, 1) := by decide +kernel
theorem dL_ask_84 : decode cL_ask 84 = .ok (.irem, 1) := by decide +kernel
theorem dL_ask_85 : decode cL_ask 85 = .ok (.iload_n 2, 1) := by decide +kernel
theorem dL_ask_86 : decode cL_ask 86 = .ok (.iconst 4, 1) := by decide +kernel
theorem dL_ask_87 : decode cL_ask 87 = .ok (.idiv, 1) := by decide +kernel
theorem dL_ask_88 : decode cL_ask 88 = .ok (.iconst 4, 1) := by decide +kernel
theorem dL_ask_89 : decode cL_ask 89 = .ok (.invokestatic 95, 3) := by decide +kernel
theorem dL_ask_92 : decode cL_ask 92 = .ok (.iload_n 2, 1) := by decide +kernel
theorem dL_ask_93 : decode cL_ask 93 = .ok (.bipush 16, 2) := by decide +kernel
theorem dL_ask_95 : decode cL_ask 95 = .ok (.idiv, 1) := by decide +kernel
theorem dL_ask_96 : decode cL_ask 96 = .ok (.bipush 21, 2) := by decide +kernel
theorem dL_ask_98 : decode cL_ask 98 = .ok (.invokestatic 95, 3) := by decide +kernel
theorem dL_ask_101 : decode cL_ask 101 = .ok (.invokestatic 136, 3) := by decide +kernel
theorem dL_ask_104 : decode cL_ask 104 = .ok (.ireturn, 1) := by decide +kernel
theorem dL_ask_105 : decode cL_ask 105 = .ok (.aload_n 0, 1) := by decide +kernel
theorem dL_ask_106 : decode cL_ask 106 = .ok (.iload_n 3, 1) := by decide +kernel
theorem dL_ask_107 : decode cL_ask 107 = .ok (.iload_n 2, 1) := by decide +kernel
theorem dL_ask_108 : decode cL_ask 108 = .ok (.iconst 4, 1) := by decide +kernel
theorem dL_ask_109 : decode cL_ask 109 = .ok (.idiv, 1) := by decide +kernel
theorem dL_ask_110 : decode cL_ask 110 = .ok (.iconst 3, 1) := by decide +kernel
theorem dL_ask_111 : decode cL_ask 111 = .ok (.invokestatic 95, 3) := by decide +kernel
theorem dL_ask_114 : decode cL_ask 114 = .ok (.invokestatic 138, 3) := by decide +kernel
theorem dL_ask_117 : decode cL_ask 117 = .ok (.ireturn, 1) := by decide +kernel
theorem dL_ask_118 : decode cL_ask 118 = .ok (.aload_n 0, 1) := by decide +kernel
theorem dL_ask_119 : decode cL_ask 119 = .ok (.iload_n 3, 1) := by decide +kernel
theorem dL_ask_120 : decode cL_ask 120 = .ok (.iconst 1, 1) := by decide +kernel
theorem dL_ask_121 : decode cL_ask 121 = .ok (.iconst 1, 1) := by decide +kernel
theorem dL_ask_122 : decode cL_ask 122 = .ok (.iload_n 2, 1) := by decide +kernel
theorem dL_ask_123 : decode cL_ask 123 = .ok (.iconst 4, 1) := by decide +kernel
theorem dL_ask_124 : decode cL_ask 124 = .ok (.idiv, 1) := by decide +kernel
theorem dL_ask_125 : decode cL_ask 125 = .ok (.bipush 9, 2) := by decide +kernel
theorem dL_ask_127 : decode cL_ask 127 = .ok (.invokestatic 95, 3) := by decide +kernel
theorem dL_ask_130 : decode cL_ask 130 = .ok (.iadd, 1) := by decide +kernel
theorem dL_ask_131 : decode cL_ask 131 = .ok (.iconst 1, 1) := by decide +kernel
theorem dL_ask_132 : decode cL_ask 132 = .ok (.iload_n 2, 1) := by decide +kernel
theorem dL_ask_133 : decode cL_ask 133 = .ok (.bipush 36, 2) := by decide +kernel
theorem dL_ask_135 : decode cL_ask 135 = .ok (.idiv, 1) := by decide +kernel
theorem dL_ask_136 : decode cL_ask 136 = .ok (.bipush 9, 2) := by decide +kernel
theorem dL_ask_138 : decode cL_ask 138 = .ok (.invokestatic 95, 3) := by decide +kernel
theorem dL_ask_141 : decode cL_ask 141 = .ok (.iadd, 1) := by decide +kernel
theorem dL_ask_142 : decode cL_ask 142 = .ok (.iload_n 2, 1) := by decide +kernel
theorem dL_ask_143 : decode cL_ask 143 = .ok (.sipush 324, 3) := by decide +kernel
theorem dL_ask_146 : decode cL_ask 146 = .ok (.idiv, 1) := by decide +kernel
theorem dL_ask_147 : decode cL_ask 147 = .ok (.bipush 9, 2) := by decide +kernel
theorem dL_ask_149 : decode cL_ask 149 = .ok (.invokestatic 95, 3) := by decide +kernel
theorem dL_ask_152 : decode cL_ask 152 = .ok (.invokestatic 140, 3) := by decide +kernel
theorem dL_ask_155 : decode cL_ask 155 = .ok (.ireturn, 1) := by decide +kernel
theorem dL_ask_156 : decode cL_ask 156 = .ok (.aload_n 0, 1) := by decide +kernel
theorem dL_ask_157 : decode cL_ask 157 = .ok (.iload_n 2, 1) := by decide +kernel
theorem dL_ask_158 : decode cL_ask 158 = .ok (.bipush 12, 2) := by decide +kernel
theorem dL_ask_160 : decode cL_ask 160 = .ok (.invokestatic 95, 3) := by decide +kernel
theorem dL_ask_163 : decode cL_ask 163 = .ok (.invokestatic 143, 3) := by decide +kernel
theorem dL_ask_166 : decode cL_ask 166 = .ok (.ireturn, 1) := by decide +kernel
theorem dL_ask_167 : decode cL_ask 167 = .ok (.aload_n 0, 1) := by decide +kernel
theorem dL_ask_168 : decode cL_ask 168 = .ok (.iload_n 2, 1) := by decide +kernel
theorem dL_ask_169 : decode cL_ask 169 = .ok (.bipush 22, 2) := by decide +kernel
theorem dL_ask_171 : decode cL_ask 171 = .ok (.invokestatic 95, 3) := by decide +kernel
theorem dL_ask_174 : decode cL_ask 174 = .ok (.iconst 1, 1) := by decide +kernel
theorem dL_ask_175 : decode cL_ask 175 = .ok (.isub, 1) := by decide +kernel
theorem dL_ask_176 : decode cL_ask 176 = .ok (.iload_n 2, 1) := by decide +kernel
theorem dL_ask_177 : decode cL_ask 177 = .ok (.bipush 22, 2) := by decide +kernel
theorem dL_ask_179 : decode cL_ask 179 = .ok (.idiv, 1) := by decide +kernel
theorem dL_ask_180 : decode cL_ask 180 = .ok (.iconst 3, 1) := by decide +kernel
theorem dL_ask_181 : decode cL_ask 181 = .ok (.invokestatic 95, 3) := by decide +kernel
theorem dL_ask_184 : decode cL_ask 184 = .ok (.invokestatic 145, 3) := by decide +kernel
theorem dL_ask_187 : decode cL_ask 187 = .ok (.ireturn, 1) := by decide +kernel
theorem dL_ask_188 : decode cL_ask 188 = .ok (.aload_n 0, 1) := by decide +kernel
theorem dL_ask_189 : decode cL_ask 189 = .ok (.invokevirtual 147, 3) := by decide +kernel
theorem dL_ask_192 : decode cL_ask 192 = .ok (.ireturn, 1) := by decide +kernel
theorem dL_isCounted_0 : decode cL_isCounted 0 = .ok (.aload_n 0, 1) := by decide +kernel
theorem dL_isCounted_1 : decode cL_isCounted 1 = .ok (.iconst 3, 1) := by decide +kernel
theorem dL_isCounted_2 : decode cL_isCounted 2 = .ok (.invokestatic 150, 3) := by decide +kernel
theorem dL_isCounted_5 : decode cL_isCounted 5 = .ok (.aload_n 0, 1) := by decide +kernel
theorem dL_isCounted_6 : decode cL_isCounted 6 = .ok (.iconst 4, 1) := by decide +kernel
theorem dL_isCounted_7 : decode cL_isCounted 7 = .ok (.invokestatic 150, 3) := by decide +kernel
theorem dL_isCounted_10 : decode cL_isCounted 10 = .ok (.aload_n 0, 1) := by decide +kernel
theorem dL_isCounted_11 : decode cL_isCounted 11 = .ok (.iconst 5, 1) := by decide +kernel
theorem dL_isCounted_12 : decode cL_isCounted 12 = .ok (.invokestatic 150, 3) := by decide +kernel
theorem dL_isCounted_15 : decode cL_isCounted 15 = .ok (.ladd, 1) := by decide +kernel
theorem dL_isCounted_16 : decode cL_isCounted 16 = .ok (.aload_n 0, 1) := by decide +kernel
theorem dL_isCounted_17 : decode cL_isCounted 17 = .ok (.bipush 6, 2) := by decide +kernel
theorem dL_isCounted_19 : decode cL_isCounted 19 = .ok (.invokestatic 150, 3) := by decide +kernel
theorem dL_isCounted_22 : decode cL_isCounted 22 = .ok (.ladd, 1) := by decide +kernel
theorem dL_isCounted_23 : decode cL_isCounted 23 = .ok (.aload_n 0, 1) := by decide +kernel
theorem dL_isCounted_24 : decode cL_isCounted 24 = .ok (.bipush 7, 2) := by decide +kernel
theorem dL_isCounted_26 : decode cL_isCounted 26 = .ok (.invokestatic 150, 3) := by decide +kernel
theorem dL_isCounted_29 : decode cL_isCounted 29 = .ok (.aload_n 0, 1) := by decide +kernel
theorem dL_isCounted_30 : decode cL_isCounted 30 = .ok (.iconst 1, 1) := by decide +kernel
theorem dL_isCounted_31 : decode cL_isCounted 31 = .ok (.invokestatic 150, 3) := by decide +kernel
theorem dL_isCounted_34 : decode cL_isCounted 34 = .ok (.lmul, 1) := by decide +kernel
theorem dL_isCounted_35 : decode cL_isCounted 35 = .ok (.ladd, 1) := by decide +kernel
theorem dL_isCounted_36 : decode cL_isCounted 36 = .ok (.aload_n 0, 1) := by decide +kernel
theorem dL_isCounted_37 : decode cL_isCounted 37 = .ok (.bipush 8, 2) := by decide +kernel
theorem dL_isCounted_39 : decode cL_isCounted 39 = .ok (.invokestatic 150, 3) := by decide +kernel
theorem dL_isCounted_42 : decode cL_isCounted 42 = .ok (.ladd, 1) := by decide +kernel
theorem dL_isCounted_43 : decode cL_isCounted 43 = .ok (.lcmp, 1) := by decide +kernel
theorem dL_isCounted_44 : decode cL_isCounted 44 = .ok (.ifCond .ne 7, 3) := by decide +kernel
theorem dL_isCounted_47 : decode cL_isCounted 47 = .ok (.iconst 1, 1) := by decide +kernel
theorem dL_isCounted_48 : decode cL_isCounted 48 = .ok (.goto 4, 3) := by decide +kernel
theorem dL_isCounted_51 : decode cL_isCounted 51 = .ok (.iconst 0, 1) := by decide +kernel
theorem dL_isCounted_52 : decode cL_isCounted 52 = .ok (.ireturn, 1) := by decide +kernel
theorem dL_areValues_0 : decode cL_areValues 0 = .ok (.lconst 0, 1) := by decide +kernel
theorem dL_areValues_1 : decode cL_areValues 1 = .ok (.lstore_n 1, 1) := by decide +kernel
theorem dL_areValues_2 : decode cL_areValues 2 = .ok (.lconst 0, 1) := by decide +kernel
theorem dL_areValues_3 : decode cL_areValues 3 = .ok (.lstore_n 3, 1) := by decide +kernel
theorem dL_areValues_4 : decode cL_areValues 4 = .ok (.iconst 0, 1) := by decide +kernel
theorem dL_areValues_5 : decode cL_areValues 5 = .ok (.istore 5, 2) := by decide +kernel
theorem dL_areValues_7 : decode cL_areValues 7 = .ok (.iload 5, 2) := by decide +kernel
theorem dL_areValues_9 : decode cL_areValues 9 = .ok (.aload_n 0, 1) := by decide +kernel
theorem dL_areValues_10 : decode cL_areValues 10 = .ok (.bipush 10, 2) := by decide +kernel
theorem dL_areValues_12 : decode cL_areValues 12 = .ok (.invokestatic 150, 3) := by decide +kernel
theorem dL_areValues_15 : decode cL_areValues 15 = .ok (.l2i, 1) := by decide +kernel
theorem dL_areValues_16 : decode cL_areValues 16 = .ok (.if_icmp .ge 101, 3) := by decide +kernel
theorem dL_areValues_19 : decode cL_areValues 19 = .ok (.lload_n 1, 1) := by decide +kernel
theorem dL_areValues_20 : decode cL_areValues 20 = .ok (.aload_n 0, 1) := by decide +kernel
theorem dL_areValues_21 : decode cL_areValues 21 = .ok (.iload 5, 2) := by decide +kernel
theorem dL_areValues_23 : decode cL_areValues 23 = .ok (.iconst 3, 1) := by decide +kernel
theorem dL_areValues_24 : decode cL_areValues 24 = .ok (.invokestatic 122, 3) := by decide +kernel
theorem dL_areValues_27 : decode cL_areValues 27 = .ok (.i2l, 1) := by decide +kernel
theorem dL_areValues_28 : decode cL_areValues 28 = .ok (.ladd, 1) := by decide +kernel
theorem dL_areValues_29 : decode cL_areValues 29 = .ok (.lstore_n 1, 1) := by decide +kernel
theorem dL_areValues_30 : decode cL_areValues 30 = .ok (.lload_n 3, 1) := by decide +kernel
theorem dL_areValues_31 : decode cL_areValues 31 = .ok (.aload_n 0, 1) := by decide +kernel
theorem dL_areValues_32 : decode cL_areValues 32 = .ok (.iload 5, 2) := by decide +kernel
theorem dL_areValues_34 : decode cL_areValues 34 = .ok (.iconst 4, 1) := by decide +kernel
theorem dL_areValues_35 : decode cL_areValues 35 = .ok (.invokestatic 122, 3) := by decide +kernel
theorem dL_areValues_38 : decode cL_areValues 38 = .ok (.i2l, 1) := by decide +kernel
theorem dL_areValues_39 : decode cL_areValues 39 = .ok (.ladd, 1) := by decide +kernel
theorem dL_areValues_40 : decode cL_areValues 40 = .ok (.lstore_n 3, 1) := by decide +kernel
theorem dL_areValues_41 : decode cL_areValues 41 = .ok (.aload_n 0, 1) := by decide +kernel
theorem dL_areValues_42 : decode cL_areValues 42 = .ok (.iload 5, 2) := by decide +kernel
theorem dL_areValues_44 : decode cL_areValues 44 = .ok (.iconst 5, 1) := by decide +kernel
theorem dL_areValues_45 : decode cL_areValues 45 = .ok (.invokestatic 122, 3) := by decide +kernel
theorem dL_areValues_48 : decode cL_areValues 48 = .ok (.i2l, 1) := by decide +kernel
theorem dL_areValues_49 : decode cL_areValues 49 = .ok (.aload_n 0, 1) := by decide +kernel
theorem dL_areValues_50 : decode cL_areValues 50 = .ok (.iload 5, 2) := by decide +kernel
theorem dL_areValues_52 : decode cL_areValues 52 = .ok (.iconst 3, 1) := by decide +kernel
theorem dL_areValues_53 : decode cL_areValues 53 = .ok (.invokestatic 122, 3) := by decide +kernel
theorem dL_areValues_56 : decode cL_areValues 56 = .ok (.i2l, 1) := by decide +kernel
theorem dL_areValues_57 : decode cL_areValues 57 = .ok (.aload_n 0, 1) := by decide +kernel
theorem dL_areValues_58 : decode cL_areValues 58 = .ok (.iload 5, 2) := by decide +kernel
theorem dL_areValues_60 : decode cL_areValues 60 = .ok (.iconst 4, 1) := by decide +kernel
theorem dL_areValues_61 : decode cL_areValues 61 = .ok (.invokestatic 122, 3) := by decide +kernel
theorem dL_areValues_64 : decode cL_areValues 64 = .ok (.i2l, 1) := by decide +kernel
theorem dL_areValues_65 : decode cL_areValues 65 = .ok (.aload_n 0, 1) := by decide +kernel
theorem dL_areValues_66 : decode cL_areValues 66 = .ok (.iconst 1, 1) := by decide +kernel
theorem dL_areValues_67 : decode cL_areValues 67 = .ok (.invokestatic 150, 3) := by decide +kernel
theorem dL_areValues_70 : decode cL_areValues 70 = .ok (.lmul, 1) := by decide +kernel
theorem dL_areValues_71 : decode cL_areValues 71 = .ok (.ladd, 1) := by decide +kernel
theorem dL_areValues_72 : decode cL_areValues 72 = .ok (.lcmp, 1) := by decide +kernel
theorem dL_areValues_73 : decode cL_areValues 73 = .ok (.ifCond .gt 28, 3) := by decide +kernel
theorem dL_areValues_76 : decode cL_areValues 76 = .ok (.aload_n 0, 1) := by decide +kernel
theorem dL_areValues_77 : decode cL_areValues 77 = .ok (.iload 5, 2) := by decide +kernel
theorem dL_areValues_79 : decode cL_areValues 79 = .ok (.iconst 2, 1) := by decide +kernel
theorem dL_areValues_80 : decode cL_areValues 80 = .ok (.invokestatic 122, 3) := by decide +kernel
theorem dL_areValues_83 : decode cL_areValues 83 = .ok (.iconst 1, 1) := by decide +kernel
theorem dL_areValues_84 : decode cL_areValues 84 = .ok (.if_icmp .eq 13, 3) := by decide +kernel
theorem dL_areValues_87 : decode cL_areValues 87 = .ok (.aload_n 0, 1) := by decide +kernel
theorem dL_areValues_88 : decode cL_areValues 88 = .ok (.iload 5, 2) := by decide +kernel
theorem dL_areValues_90 : decode cL_areValues 90 = .ok (.iconst 5, 1) := by decide +kernel
theorem dL_areValues_91 : decode cL_areValues 91 = .ok (.invokestatic 122, 3) := by decide +kernel
theorem dL_areValues_94 : decode cL_areValues 94 = .ok (.ifCond .ne 7, 3) := by decide +kernel
theorem dL_areValues_97 : decode cL_areValues 97 = .ok (.iconst 1, 1) := by decide +kernel
theorem dL_areValues_98 : decode cL_areValues 98 = .ok (.goto 4, 3) := by decide +kernel
theorem dL_areValues_101 : decode cL_areValues 101 = .ok (.iconst 0, 1) := by decide +kernel
theorem dL_areValues_102 : decode cL_areValues 102 = .ok (.istore 6, 2) := by decide +kernel
theorem dL_areValues_104 : decode cL_areValues 104 = .ok (.iload 6, 2) := by decide +kernel
theorem dL_areValues_106 : decode cL_areValues 106 = .ok (.ifCond .ne 5, 3) := by decide +kernel
theorem dL_areValues_109 : decode cL_areValues 109 = .ok (.iconst 0, 1) := by decide +kernel
theorem dL_areValues_110 : decode cL_areValues 110 = .ok (.ireturn, 1) := by decide +kernel
theorem dL_areValues_111 : decode cL_areValues 111 = .ok (.iinc 5 1, 3) := by decide +kernel
theorem dL_areValues_114 : decode cL_areValues 114 = .ok (.goto (-107), 3) := by decide +kernel
theorem dL_areValues_117 : decode cL_areValues 117 = .ok (.lconst 0, 1) := by decide +kernel
theorem dL_areValues_118 : decode cL_areValues 118 = .ok (.lstore 5, 2) := by decide +kernel
theorem dL_areValues_120 : decode cL_areValues 120 = .ok (.lconst 0, 1) := by decide +kernel
theorem dL_areValues_121 : decode cL_areValues 121 = .ok (.lstore 7, 2) := by decide +kernel
theorem dL_areValues_123 : decode cL_areValues 123 = .ok (.iconst 0, 1) := by decide +kernel
theorem dL_areValues_124 : decode cL_areValues 124 = .ok (.istore 9, 2) := by decide +kernel
theorem dL_areValues_126 : decode cL_areValues 126 = .ok (.iload 9, 2) := by decide +kernel
theorem dL_areValues_128 : decode cL_areValues 128 = .ok (.aload_n 0, 1) := by decide +kernel
theorem dL_areValues_129 : decode cL_areValues 129 = .ok (.bipush 11, 2) := by decide +kernel
theorem dL_areValues_131 : decode cL_areValues 131 = .ok (.invokestatic 150, 3) := by decide +kernel
theorem dL_areValues_134 : decode cL_areValues 134 = .ok (.l2i, 1) := by decide +kernel
theorem dL_areValues_135 : decode cL_areValues 135 = .ok (.if_icmp .ge 53, 3) := by decide +kernel
theorem dL_areValues_138 : decode cL_areValues 138 = .ok (.lload 5, 2) := by decide +kernel
theorem dL_areValues_140 : decode cL_areValues 140 = .ok (.aload_n 0, 1) := by decide +kernel
theorem dL_areValues_141 : decode cL_areValues 141 = .ok (.iload 9, 2) := by decide +kernel
theorem dL_areValues_143 : decode cL_areValues 143 = .ok (.iconst 2, 1) := by decide +kernel
theorem dL_areValues_144 : decode cL_areValues 144 = .ok (.invokestatic 153, 3) := by decide +kernel
theorem dL_areValues_147 : decode cL_areValues 147 = .ok (.ladd, 1) := by decide +kernel
theorem dL_areValues_148 : decode cL_areValues 148 = .ok (.lstore 5, 2) := by decide +kernel
theorem dL_areValues_150 : decode cL_areValues 150 = .ok (.lload 7, 2) := by decide +kernel
theorem dL_areValues_152 : decode cL_areValues 152 = .ok (.aload_n 0, 1) := by decide +kernel
theorem dL_areValues_153 : decode cL_areValues 153 = .ok (.iload 9, 2) := by decide +kernel
theorem dL_areValues_155 : decode cL_areValues 155 = .ok (.iconst 4, 1) := by decide +kernel
theorem dL_areValues_156 : decode cL_areValues 156 = .ok (.invokestatic 153, 3) := by decide +kernel
theorem dL_areValues_159 : decode cL_areValues 159 = .ok (.ladd, 1) := by decide +kernel
theorem dL_areValues_160 : decode cL_areValues 160 = .ok (.lstore 7, 2) := by decide +kernel
theorem dL_areValues_162 : decode cL_areValues 162 = .ok (.aload_n 0, 1) := by decide +kernel
theorem dL_areValues_163 : decode cL_areValues 163 = .ok (.iload 9, 2) := by decide +kernel
theorem dL_areValues_165 : decode cL_areValues 165 = .ok (.iconst 2, 1) := by decide +kernel
theorem dL_areValues_166 : decode cL_areValues 166 = .ok (.invokestatic 153, 3) := by decide +kernel
theorem dL_areValues_169 : decode cL_areValues 169 = .ok (.aload_n 0, 1) := by decide +kernel
theorem dL_areValues_170 : decode cL_areValues 170 = .ok (.iload 9, 2) := by decide +kernel
theorem dL_areValues_172 : decode cL_areValues 172 = .ok (.iconst 1, 1) := by decide +kernel
theorem dL_areValues_173 : decode cL_areValues 173 = .ok (.invokestatic 153, 3) := by decide +kernel
theorem dL_areValues_176 : decode cL_areValues 176 = .ok (.lcmp, 1) := by decide +kernel
theorem dL_areValues_177 : decode cL_areValues 177 = .ok (.ifCond .le 5, 3) := by decide +kernel
theorem dL_areValues_180 : decode cL_areValues 180 = .ok (.iconst 0, 1) := by decide +kernel
theorem dL_areValues_181 : decode cL_areValues 181 = .ok (.ireturn, 1) := by decide +kernel
theorem dL_areValues_182 : decode cL_areValues 182 = .ok (.iinc 9 1, 3) := by decide +kernel
theorem dL_areValues_185 : decode cL_areValues 185 = .ok (.goto (-59), 3) := by decide +kernel
theorem dL_areValues_188 : decode cL_areValues 188 = .ok (.lload_n 1, 1) := by decide +kernel
theorem dL_areValues_189 : decode cL_areValues 189 = .ok (.aload_n 0, 1) := by decide +kernel
theorem dL_areValues_190 : decode cL_areValues 190 = .ok (.bipush 6, 2) := by decide +kernel
theorem dL_areValues_192 : decode cL_areValues 192 = .ok (.invokestatic 150, 3) := by decide +kernel
theorem dL_areValues_195 : decode cL_areValues 195 = .ok (.lcmp, 1) := by decide +kernel
theorem dL_areValues_196 : decode cL_areValues 196 = .ok (.ifCond .ne 48, 3) := by decide +kernel
theorem dL_areValues_199 : decode cL_areValues 199 = .ok (.lload_n 3, 1) := by decide +kernel
theorem dL_areValues_200 : decode cL_areValues 200 = .ok (.aload_n 0, 1) := by decide +kernel
theorem dL_areValues_201 : decode cL_areValues 201 = .ok (.bipush 7, 2) := by decide +kernel
theorem dL_areValues_203 : decode cL_areValues 203 = .ok (.invokestatic 150, 3) := by decide +kernel
theorem dL_areValues_206 : decode cL_areValues 206 = .ok (.lcmp, 1) := by decide +kernel
theorem dL_areValues_207 : decode cL_areValues 207 = .ok (.ifCond .ne 37, 3) := by decide +kernel
theorem dL_areValues_210 : decode cL_areValues 210 = .ok (.lload 5, 2) := by decide +kernel
theorem dL_areValues_212 : decode cL_areValues 212 = .ok (.aload_n 0, 1) := by decide +kernel
theorem dL_areValues_213 : decode cL_areValues 213 = .ok (.iconst 1, 1) := by decide +kernel
theorem dL_areValues_214 : decode cL_areValues 214 = .ok (.invokestatic 150, 3) := by decide +kernel
theorem dL_areValues_217 : decode cL_areValues 217 = .ok (.lmul, 1) := by decide +kernel
theorem dL_areValues_218 : decode cL_areValues 218 = .ok (.aload_n 0, 1) := by decide +kernel
theorem dL_areValues_219 : decode cL_areValues 219 = .ok (.bipush 8, 2) := by decide +kernel
theorem dL_areValues_221 : decode cL_areValues 221 = .ok (.invokestatic 150, 3) := by decide +kernel
theorem dL_areValues_224 : decode cL_areValues 224 = .ok (.lcmp, 1) := by decide +kernel
theorem dL_areValues_225 : decode cL_areValues 225 = .ok (.ifCond .ne 19, 3) := by decide +kernel
theorem dL_areValues_228 : decode cL_areValues 228 = .ok (.lload 7, 2) := by decide +kernel
theorem dL_areValues_230 : decode cL_areValues 230 = .ok (.aload_n 0, 1) := by decide +kernel
theorem dL_areValues_231 : decode cL_areValues 231 = .ok (.bipush 14, 2) := by decide +kernel
theorem dL_areValues_233 : decode cL_areValues 233 = .ok (.invokestatic 150, 3) := by decide +kernel
theorem dL_areValues_236 : decode cL_areValues 236 = .ok (.lcmp, 1) := by decide +kernel
theorem dL_areValues_237 : decode cL_areValues 237 = .ok (.ifCond .ne 7, 3) := by decide +kernel
theorem dL_areValues_240 : decode cL_areValues 240 = .ok (.iconst 1, 1) := by decide +kernel
theorem dL_areValues_241 : decode cL_areValues 241 = .ok (.goto 4, 3) := by decide +kernel
theorem dL_areValues_244 : decode cL_areValues 244 = .ok (.iconst 0, 1) := by decide +kernel
theorem dL_areValues_245 : decode cL_areValues 245 = .ok (.ireturn, 1) := by decide +kernel
theorem dL_areAlike_0 : decode cL_areAlike 0 = .ok (.iconst 1, 1) := by decide +kernel
theorem dL_areAlike_1 : decode cL_areAlike 1 = .ok (.istore_n 2, 1) := by decide +kernel
theorem dL_areAlike_2 : decode cL_areAlike 2 = .ok (.iconst 0, 1) := by decide +kernel
theorem dL_areAlike_3 : decode cL_areAlike 3 = .ok (.istore_n 3, 1) := by decide +kernel
theorem dL_areAlike_4 : decode cL_areAlike 4 = .ok (.iload_n 3, 1) := by decide +kernel
theorem dL_areAlike_5 : decode cL_areAlike 5 = .ok (.bipush 16, 2) := by decide +kernel
theorem dL_areAlike_7 : decode cL_areAlike 7 = .ok (.if_icmp .ge 33, 3) := by decide +kernel
theorem dL_areAlike_10 : decode cL_areAlike 10 = .ok (.iload_n 2, 1) := by decide +kernel
theorem dL_areAlike_11 : decode cL_areAlike 11 = .ok (.ifCond .eq 21, 3) := by decide +kernel
theorem dL_areAlike_14 : decode cL_areAlike 14 = .ok (.aload_n 0, 1) := by decide +kernel
theorem dL_areAlike_15 : decode cL_areAlike 15 = .ok (.iload_n 3, 1) := by decide +kernel
theorem dL_areAlike_16 : decode cL_areAlike 16 = .ok (.invokestatic 150, 3) := by decide +kernel
theorem dL_areAlike_19 : decode cL_areAlike 19 = .ok (.aload_n 1, 1) := by decide +kernel
theorem dL_areAlike_20 : decode cL_areAlike 20 = .ok (.iload_n 3, 1) := by decide +kernel
theorem dL_areAlike_21 : decode cL_areAlike 21 = .ok (.invokestatic 150, 3) := by decide +kernel
theorem dL_areAlike_24 : decode cL_areAlike 24 = .ok (.lcmp, 1) := by decide +kernel
theorem dL_areAlike_25 : decode cL_areAlike 25 = .ok (.ifCond .ne 7, 3) := by decide +kernel
theorem dL_areAlike_28 : decode cL_areAlike 28 = .ok (.iconst 1, 1) := by decide +kernel
theorem dL_areAlike_29 : decode cL_areAlike 29 = .ok (.goto 4, 3) := by decide +kernel
theorem dL_areAlike_32 : decode cL_areAlike 32 = .ok (.iconst 0, 1) := by decide +kernel
theorem dL_areAlike_33 : decode cL_areAlike 33 = .ok (.istore_n 2, 1) := by decide +kernel
theorem dL_areAlike_34 : decode cL_areAlike 34 = .ok (.iinc 3 1, 3) := by decide +kernel
theorem dL_areAlike_37 : decode cL_areAlike 37 = .ok (.goto (-33), 3) := by decide +kernel
theorem dL_areAlike_40 : decode cL_areAlike 40 = .ok (.iconst 0, 1) := by decide +kernel
theorem dL_areAlike_41 : decode cL_areAlike 41 = .ok (.istore_n 3, 1) := by decide +kernel
theorem dL_areAlike_42 : decode cL_areAlike 42 = .ok (.iload_n 3, 1) := by decide +kernel
theorem dL_areAlike_43 : decode cL_areAlike 43 = .ok (.iconst 5, 1) := by decide +kernel
theorem dL_areAlike_44 : decode cL_areAlike 44 = .ok (.if_icmp .ge 79, 3) := by decide +kernel
theorem dL_areAlike_47 : decode cL_areAlike 47 = .ok (.iload_n 2, 1) := by decide +kernel
theorem dL_areAlike_48 : decode cL_areAlike 48 = .ok (.ifCond .eq 67, 3) := by decide +kernel
theorem dL_areAlike_51 : decode cL_areAlike 51 = .ok (.aload_n 0, 1) := by decide +kernel
theorem dL_areAlike_52 : decode cL_areAlike 52 = .ok (.iload_n 3, 1) := by decide +kernel
theorem dL_areAlike_53 : decode cL_areAlike 53 = .ok (.iconst 0, 1) := by decide +kernel
theorem dL_areAlike_54 : decode cL_areAlike 54 = .ok (.invokestatic 145, 3) := by decide +kernel
theorem dL_areAlike_57 : decode cL_areAlike 57 = .ok (.aload_n 1, 1) := by decide +kernel
theorem dL_areAlike_58 : decode cL_areAlike 58 = .ok (.iload_n 3, 1) := by decide +kernel
theorem dL_areAlike_59 : decode cL_areAlike 59 = .ok (.iconst 0, 1) := by decide +kernel
theorem dL_areAlike_60 : decode cL_areAlike 60 = .ok (.invokestatic 145, 3) := by decide +kernel
theorem dL_areAlike_63 : decode cL_areAlike 63 = .ok (.if_icmp .ne 52, 3) := by decide +kernel
theorem dL_areAlike_66 : decode cL_areAlike 66 = .ok (.aload_n 0, 1) := by decide +kernel
theorem dL_areAlike_67 : decode cL_areAlike 67 = .ok (.iload_n 3, 1) := by decide +kernel
theorem dL_areAlike_68 : decode cL_areAlike 68 = .ok (.iconst 1, 1) := by decide +kernel
theorem dL_areAlike_69 : decode cL_areAlike 69 = .ok (.invokestatic 145, 3) := by decide +kernel
theorem dL_areAlike_72 : decode cL_areAlike 72 = .ok (.aload_n 1, 1) := by decide +kernel
theorem dL_areAlike_73 : decode cL_areAlike 73 = .ok (.iload_n 3, 1) := by decide +kernel
theorem dL_areAlike_74 : decode cL_areAlike 74 = .ok (.iconst 1, 1) := by decide +kernel
theorem dL_areAlike_75 : decode cL_areAlike 75 = .ok (.invokestatic 145, 3) := by decide +kernel
theorem dL_areAlike_78 : decode cL_areAlike 78 = .ok (.if_icmp .ne 37, 3) := by decide +kernel
theorem dL_areAlike_81 : decode cL_areAlike 81 = .ok (.aload_n 0, 1) := by decide +kernel
theorem dL_areAlike_82 : decode cL_areAlike 82 = .ok (.iload_n 3, 1) := by decide +kernel
theorem dL_areAlike_83 : decode cL_areAlike 83 = .ok (.iconst 3, 1) := by decide +kernel
theorem dL_areAlike_84 : decode cL_areAlike 84 = .ok (.invokestatic 122, 3) := by decide +kernel
theorem dL_areAlike_87 : decode cL_areAlike 87 = .ok (.aload_n 1, 1) := by decide +kernel
theorem dL_areAlike_88 : decode cL_areAlike 88 = .ok (.iload_n 3, 1) := by decide +kernel
theorem dL_areAlike_89 : decode cL_areAlike 89 = .ok (.iconst 3, 1) := by decide +kernel
theorem dL_areAlike_90 : decode cL_areAlike 90 = .ok (.invokestatic 122, 3) := by decide +kernel
theorem dL_areAlike_93 : decode cL_areAlike 93 = .ok (.if_icmp .ne 22, 3) := by decide +kernel
theorem dL_areAlike_96 : decode cL_areAlike 96 = .ok (.aload_n 0, 1) := by decide +kernel
theorem dL_areAlike_97 : decode cL_areAlike 97 = .ok (.iload_n 3, 1) := by decide +kernel
theorem dL_areAlike_98 : decode cL_areAlike 98 = .ok (.iconst 5, 1) := by decide +kernel
theorem dL_areAlike_99 : decode cL_areAlike 99 = .ok (.invokestatic 122, 3) := by decide +kernel
theorem dL_areAlike_102 : decode cL_areAlike 102 = .ok (.aload_n 1, 1) := by decide +kernel
theorem dL_areAlike_103 : decode cL_areAlike 103 = .ok (.iload_n 3, 1) := by decide +kernel
theorem dL_areAlike_104 : decode cL_areAlike 104 = .ok (.iconst 5, 1) := by decide +kernel
theorem dL_areAlike_105 : decode cL_areAlike 105 = .ok (.invokestatic 122, 3) := by decide +kernel
theorem dL_areAlike_108 : decode cL_areAlike 108 = .ok (.if_icmp .ne 7, 3) := by decide +kernel
theorem dL_areAlike_111 : decode cL_areAlike 111 = .ok (.iconst 1, 1) := by decide +kernel
theorem dL_areAlike_112 : decode cL_areAlike 112 = .ok (.goto 4, 3) := by decide +kernel
theorem dL_areAlike_115 : decode cL_areAlike 115 = .ok (.iconst 0, 1) := by decide +kernel
theorem dL_areAlike_116 : decode cL_areAlike 116 = .ok (.istore_n 2, 1) := by decide +kernel
theorem dL_areAlike_117 : decode cL_areAlike 117 = .ok (.iinc 3 1, 3) := by decide +kernel
theorem dL_areAlike_120 : decode cL_areAlike 120 = .ok (.goto (-78), 3) := by decide +kernel
theorem dL_areAlike_123 : decode cL_areAlike 123 = .ok (.iload_n 2, 1) := by decide +kernel
theorem dL_areAlike_124 : decode cL_areAlike 124 = .ok (.ireturn, 1) := by decide +kernel
theorem dL_law_0 : decode cL_law 0 = .ok (.new 10, 3) := by decide +kernel
theorem dL_law_3 : decode cL_law 3 = .ok (.dup, 1) := by decide +kernel
theorem dL_law_4 : decode cL_law 4 = .ok (.invokespecial 156, 3) := by decide +kernel
theorem dL_law_7 : decode cL_law 7 = .ok (.astore_n 1, 1) := by decide +kernel
theorem dL_law_8 : decode cL_law 8 = .ok (.new 10, 3) := by decide +kernel
theorem dL_law_11 : decode cL_law 11 = .ok (.dup, 1) := by decide +kernel
theorem dL_law_12 : decode cL_law 12 = .ok (.invokespecial 156, 3) := by decide +kernel
theorem dL_law_15 : decode cL_law 15 = .ok (.astore_n 2, 1) := by decide +kernel
theorem dL_law_16 : decode cL_law 16 = .ok (.iconst 0, 1) := by decide +kernel
theorem dL_law_17 : decode cL_law 17 = .ok (.istore_n 3, 1) := by decide +kernel
theorem dL_law_18 : decode cL_law 18 = .ok (.iload_n 3, 1) := by decide +kernel
theorem dL_law_19 : decode cL_law 19 = .ok (.bipush 32, 2) := by decide +kernel
theorem dL_law_21 : decode cL_law 21 = .ok (.if_icmp .ge 74, 3) := by decide +kernel
theorem dL_law_24 : decode cL_law 24 = .ok (.aload_n 0, 1) := by decide +kernel
theorem dL_law_25 : decode cL_law 25 = .ok (.iconst 2, 1) := by decide +kernel
theorem dL_law_26 : decode cL_law 26 = .ok (.iload_n 3, 1) := by decide +kernel
theorem dL_law_27 : decode cL_law 27 = .ok (.imul, 1) := by decide +kernel
theorem dL_law_28 : decode cL_law 28 = .ok (.invokestatic 157, 3) := by decide +kernel
theorem dL_law_31 : decode cL_law 31 = .ok (.istore 4, 2) := by decide +kernel
theorem dL_law_33 : decode cL_law 33 = .ok (.aload_n 0, 1) := by decide +kernel
theorem dL_law_34 : decode cL_law 34 = .ok (.iconst 2, 1) := by decide +kernel
theorem dL_law_35 : decode cL_law 35 = .ok (.iload_n 3, 1) := by decide +kernel
theorem dL_law_36 : decode cL_law 36 = .ok (.imul, 1) := by decide +kernel
theorem dL_law_37 : decode cL_law 37 = .ok (.iconst 1, 1) := by decide +kernel
theorem dL_law_38 : decode cL_law 38 = .ok (.iadd, 1) := by decide +kernel
theorem dL_law_39 : decode cL_law 39 = .ok (.invokestatic 157, 3) := by decide +kernel
theorem dL_law_42 : decode cL_law 42 = .ok (.istore 5, 2) := by decide +kernel
theorem dL_law_44 : decode cL_law 44 = .ok (.aload_n 1, 1) := by decide +kernel
theorem dL_law_45 : decode cL_law 45 = .ok (.iload 5, 2) := by decide +kernel
theorem dL_law_47 : decode cL_law 47 = .ok (.iload 4, 2) := by decide +kernel
theorem dL_law_49 : decode cL_law 49 = .ok (.invokestatic 161, 3) := by decide +kernel
theorem dL_law_52 : decode cL_law 52 = .ok (.istore 6, 2) := by decide +kernel
theorem dL_law_54 : decode cL_law 54 = .ok (.aload_n 1, 1) := by decide +kernel
theorem dL_law_55 : decode cL_law 55 = .ok (.iload 4, 2) := by decide +kernel
theorem dL_law_57 : decode cL_law 57 = .ok (.iload 5, 2) := by decide +kernel
theorem dL_law_59 : decode cL_law 59 = .ok (.invokestatic 164, 3) := by decide +kernel
theorem dL_law_62 : decode cL_law 62 = .ok (.aload_n 2, 1) := by decide +kernel
theorem dL_law_63 : decode cL_law 63 = .ok (.iload 4, 2) := by decide +kernel
theorem dL_law_65 : decode cL_law 65 = .ok (.iload 5, 2) := by decide +kernel
theorem dL_law_67 : decode cL_law 67 = .ok (.invokestatic 164, 3) := by decide +kernel
theorem dL_law_70 : decode cL_law 70 = .ok (.if_icmp .ne 17, 3) := by decide +kernel
theorem dL_law_73 : decode cL_law 73 = .ok (.aload_n 1, 1) := by decide +kernel
theorem dL_law_74 : decode cL_law 74 = .ok (.invokestatic 167, 3) := by decide +kernel
theorem dL_law_77 : decode cL_law 77 = .ok (.ifCond .eq 10, 3) := by decide +kernel
theorem dL_law_80 : decode cL_law 80 = .ok (.aload_n 1, 1) := by decide +kernel
theorem dL_law_81 : decode cL_law 81 = .ok (.invokestatic 171, 3) := by decide +kernel
theorem dL_law_84 : decode cL_law 84 = .ok (.ifCond .ne 5, 3) := by decide +kernel
theorem dL_law_87 : decode cL_law 87 = .ok (.iconst 0, 1) := by decide +kernel
theorem dL_law_88 : decode cL_law 88 = .ok (.ireturn, 1) := by decide +kernel
theorem dL_law_89 : decode cL_law 89 = .ok (.iinc 3 1, 3) := by decide +kernel
theorem dL_law_92 : decode cL_law 92 = .ok (.goto (-74), 3) := by decide +kernel
theorem dL_law_95 : decode cL_law 95 = .ok (.aload_n 1, 1) := by decide +kernel
theorem dL_law_96 : decode cL_law 96 = .ok (.aload_n 2, 1) := by decide +kernel
theorem dL_law_97 : decode cL_law 97 = .ok (.invokestatic 174, 3) := by decide +kernel
theorem dL_law_100 : decode cL_law 100 = .ok (.ireturn, 1) := by decide +kernel
