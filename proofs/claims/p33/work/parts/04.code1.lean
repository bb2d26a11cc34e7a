theorem dX5_addBend_14 : decode cX5_addBend 14 = .ok (.ifCond .ne 13, 3) := by decide +kernel
theorem dX5_addBend_17 : decode cX5_addBend 17 = .ok (.new 45, 3) := by decide +kernel
theorem dX5_addBend_20 : decode cX5_addBend 20 = .ok (.dup, 1) := by decide +kernel
theorem dX5_addBend_21 : decode cX5_addBend 21 = .ok (.ldc 115, 2) := by decide +kernel
theorem dX5_addBend_23 : decode cX5_addBend 23 = .ok (.invokespecial 49, 3) := by decide +kernel
theorem dX5_addBend_26 : decode cX5_addBend 26 = .ok (.athrow, 1) := by decide +kernel
theorem dX5_addBend_27 : decode cX5_addBend 27 = .ok (.aload_n 0, 1) := by decide +kernel
theorem dX5_addBend_28 : decode cX5_addBend 28 = .ok (.getfield 12, 3) := by decide +kernel
theorem dX5_addBend_31 : decode cX5_addBend 31 = .ok (.getfield 55, 3) := by decide +kernel
theorem dX5_addBend_34 : decode cX5_addBend 34 = .ok (.invokevirtual 102, 3) := by decide +kernel
theorem dX5_addBend_37 : decode cX5_addBend 37 = .ok (.ifCond .eq 13, 3) := by decide +kernel
theorem dX5_addBend_40 : decode cX5_addBend 40 = .ok (.new 106, 3) := by decide +kernel
theorem dX5_addBend_43 : decode cX5_addBend 43 = .ok (.dup, 1) := by decide +kernel
theorem dX5_addBend_44 : decode cX5_addBend 44 = .ok (.ldc 108, 2) := by decide +kernel
theorem dX5_addBend_46 : decode cX5_addBend 46 = .ok (.invokespecial 110, 3) := by decide +kernel
theorem dX5_addBend_49 : decode cX5_addBend 49 = .ok (.athrow, 1) := by decide +kernel
theorem dX5_addBend_50 : decode cX5_addBend 50 = .ok (.aload_n 0, 1) := by decide +kernel
theorem dX5_addBend_51 : decode cX5_addBend 51 = .ok (.invokevirtual 52, 3) := by decide +kernel
theorem dX5_addBend_54 : decode cX5_addBend 54 = .ok (.aload_n 0, 1) := by decide +kernel
theorem dX5_addBend_55 : decode cX5_addBend 55 = .ok (.getfield 12, 3) := by decide +kernel
theorem dX5_addBend_58 : decode cX5_addBend 58 = .ok (.getfield 55, 3) := by decide +kernel
theorem dX5_addBend_61 : decode cX5_addBend 61 = .ok (.iconst 1, 1) := by decide +kernel
theorem dX5_addBend_62 : decode cX5_addBend 62 = .ok (.iload_n 1, 1) := by decide +kernel
theorem dX5_addBend_63 : decode cX5_addBend 63 = .ok (.iload_n 2, 1) := by decide +kernel
theorem dX5_addBend_64 : decode cX5_addBend 64 = .ok (.iload_n 3, 1) := by decide +kernel
theorem dX5_addBend_65 : decode cX5_addBend 65 = .ok (.iconst 1, 1) := by decide +kernel
theorem dX5_addBend_66 : decode cX5_addBend 66 = .ok (.invokevirtual 111, 3) := by decide +kernel
theorem dX5_addBend_69 : decode cX5_addBend 69 = .ok (.ireturn, 1) := by decide +kernel
theorem dX5_dropOperation_0 : decode cX5_dropOperation 0 = .ok (.aload_n 0, 1) := by decide +kernel
theorem dX5_dropOperation_1 : decode cX5_dropOperation 1 = .ok (.getfield 12, 3) := by decide +kernel
theorem dX5_dropOperation_4 : decode cX5_dropOperation 4 = .ok (.getfield 55, 3) := by decide +kernel
theorem dX5_dropOperation_7 : decode cX5_dropOperation 7 = .ok (.iload_n 1, 1) := by decide +kernel
theorem dX5_dropOperation_8 : decode cX5_dropOperation 8 = .ok (.invokevirtual 117, 3) := by decide +kernel
theorem dX5_dropOperation_11 : decode cX5_dropOperation 11 = .ok (.ifCond .ne 13, 3) := by decide +kernel
theorem dX5_dropOperation_14 : decode cX5_dropOperation 14 = .ok (.new 121, 3) := by decide +kernel
theorem dX5_dropOperation_17 : decode cX5_dropOperation 17 = .ok (.dup, 1) := by decide +kernel
theorem dX5_dropOperation_18 : decode cX5_dropOperation 18 = .ok (.ldc 123, 2) := by decide +kernel
theorem dX5_dropOperation_20 : decode cX5_dropOperation 20 = .ok (.invokespecial 125, 3) := by decide +kernel
theorem dX5_dropOperation_23 : decode cX5_dropOperation 23 = .ok (.athrow, 1) := by decide +kernel
theorem dX5_dropOperation_24 : decode cX5_dropOperation 24 = .ok (.aload_n 0, 1) := by decide +kernel
theorem dX5_dropOperation_25 : decode cX5_dropOperation 25 = .ok (.invokevirtual 52, 3) := by decide +kernel
theorem dX5_dropOperation_28 : decode cX5_dropOperation 28 = .ok (.aload_n 0, 1) := by decide +kernel
theorem dX5_dropOperation_29 : decode cX5_dropOperation 29 = .ok (.getfield 12, 3) := by decide +kernel
theorem dX5_dropOperation_32 : decode cX5_dropOperation 32 = .ok (.getfield 55, 3) := by decide +kernel
theorem dX5_dropOperation_35 : decode cX5_dropOperation 35 = .ok (.iload_n 1, 1) := by decide +kernel
theorem dX5_dropOperation_36 : decode cX5_dropOperation 36 = .ok (.invokevirtual 126, 3) := by decide +kernel
theorem dX5_dropOperation_39 : decode cX5_dropOperation 39 = .ok (.aload_n 0, 1) := by decide +kernel
theorem dX5_dropOperation_40 : decode cX5_dropOperation 40 = .ok (.getfield 12, 3) := by decide +kernel
theorem dX5_dropOperation_43 : decode cX5_dropOperation 43 = .ok (.getfield 130, 3) := by decide +kernel
theorem dX5_dropOperation_46 : decode cX5_dropOperation 46 = .ok (.iload_n 1, 1) := by decide +kernel
theorem dX5_dropOperation_47 : decode cX5_dropOperation 47 = .ok (.invokevirtual 133, 3) := by decide +kernel
theorem dX5_dropOperation_50 : decode cX5_dropOperation 50 = .ok (.aload_n 0, 1) := by decide +kernel
theorem dX5_dropOperation_51 : decode cX5_dropOperation 51 = .ok (.getfield 12, 3) := by decide +kernel
theorem dX5_dropOperation_54 : decode cX5_dropOperation 54 = .ok (.getfield 55, 3) := by decide +kernel
theorem dX5_dropOperation_57 : decode cX5_dropOperation 57 = .ok (.getfield 59, 3) := by decide +kernel
theorem dX5_dropOperation_60 : decode cX5_dropOperation 60 = .ok (.ireturn, 1) := by decide +kernel
theorem dX5_setStation_0 : decode cX5_setStation 0 = .ok (.aload_n 0, 1) := by decide +kernel
theorem dX5_setStation_1 : decode cX5_setStation 1 = .ok (.getfield 12, 3) := by decide +kernel
theorem dX5_setStation_4 : decode cX5_setStation 4 = .ok (.getfield 55, 3) := by decide +kernel
theorem dX5_setStation_7 : decode cX5_setStation 7 = .ok (.iload_n 1, 1) := by decide +kernel
theorem dX5_setStation_8 : decode cX5_setStation 8 = .ok (.invokevirtual 117, 3) := by decide +kernel
theorem dX5_setStation_11 : decode cX5_setStation 11 = .ok (.ifCond .ne 13, 3) := by decide +kernel
theorem dX5_setStation_14 : decode cX5_setStation 14 = .ok (.new 121, 3) := by decide +kernel
theorem dX5_setStation_17 : decode cX5_setStation 17 = .ok (.dup, 1) := by decide +kernel
theorem dX5_setStation_18 : decode cX5_setStation 18 = .ok (.ldc 123, 2) := by decide +kernel
theorem dX5_setStation_20 : decode cX5_setStation 20 = .ok (.invokespecial 125, 3) := by decide +kernel
theorem dX5_setStation_23 : decode cX5_setStation 23 = .ok (.athrow, 1) := by decide +kernel
theorem dX5_setStation_24 : decode cX5_setStation 24 = .ok (.iload_n 2, 1) := by decide +kernel
theorem dX5_setStation_25 : decode cX5_setStation 25 = .ok (.iconst (-1), 1) := by decide +kernel
theorem dX5_setStation_26 : decode cX5_setStation 26 = .ok (.if_icmp .eq 20, 3) := by decide +kernel
theorem dX5_setStation_29 : decode cX5_setStation 29 = .ok (.iload_n 2, 1) := by decide +kernel
theorem dX5_setStation_30 : decode cX5_setStation 30 = .ok (.invokestatic 136, 3) := by decide +kernel
theorem dX5_setStation_33 : decode cX5_setStation 33 = .ok (.ifCond .ne 13, 3) := by decide +kernel
theorem dX5_setStation_36 : decode cX5_setStation 36 = .ok (.new 45, 3) := by decide +kernel
theorem dX5_setStation_39 : decode cX5_setStation 39 = .ok (.dup, 1) := by decide +kernel
theorem dX5_setStation_40 : decode cX5_setStation 40 = .ok (.ldc 139, 2) := by decide +kernel
theorem dX5_setStation_42 : decode cX5_setStation 42 = .ok (.invokespecial 49, 3) := by decide +kernel
theorem dX5_setStation_45 : decode cX5_setStation 45 = .ok (.athrow, 1) := by decide +kernel
theorem dX5_setStation_46 : decode cX5_setStation 46 = .ok (.aload_n 0, 1) := by decide +kernel
theorem dX5_setStation_47 : decode cX5_setStation 47 = .ok (.invokevirtual 52, 3) := by decide +kernel
theorem dX5_setStation_50 : decode cX5_setStation 50 = .ok (.aload_n 0, 1) := by decide +kernel
theorem dX5_setStation_51 : decode cX5_setStation 51 = .ok (.getfield 12, 3) := by decide +kernel
theorem dX5_setStation_54 : decode cX5_setStation 54 = .ok (.getfield 55, 3) := by decide +kernel
theorem dX5_setStation_57 : decode cX5_setStation 57 = .ok (.iload_n 1, 1) := by decide +kernel
theorem dX5_setStation_58 : decode cX5_setStation 58 = .ok (.bipush 6, 2) := by decide +kernel
theorem dX5_setStation_60 : decode cX5_setStation 60 = .ok (.invokevirtual 141, 3) := by decide +kernel
theorem dX5_setStation_63 : decode cX5_setStation 63 = .ok (.istore_n 3, 1) := by decide +kernel
theorem dX5_setStation_64 : decode cX5_setStation 64 = .ok (.aload_n 0, 1) := by decide +kernel
theorem dX5_setStation_65 : decode cX5_setStation 65 = .ok (.getfield 12, 3) := by decide +kernel
theorem dX5_setStation_68 : decode cX5_setStation 68 = .ok (.getfield 55, 3) := by decide +kernel
theorem dX5_setStation_71 : decode cX5_setStation 71 = .ok (.iload_n 1, 1) := by decide +kernel
theorem dX5_setStation_72 : decode cX5_setStation 72 = .ok (.bipush 6, 2) := by decide +kernel
theorem dX5_setStation_74 : decode cX5_setStation 74 = .ok (.iload_n 2, 1) := by decide +kernel
theorem dX5_setStation_75 : decode cX5_setStation 75 = .ok (.invokevirtual 145, 3) := by decide +kernel
theorem dX5_setStation_78 : decode cX5_setStation 78 = .ok (.iload_n 3, 1) := by decide +kernel
theorem dX5_setStation_79 : decode cX5_setStation 79 = .ok (.ireturn, 1) := by decide +kernel
theorem dX5_usePlan_0 : decode cX5_usePlan 0 = .ok (.aload_n 0, 1) := by decide +kernel
theorem dX5_usePlan_1 : decode cX5_usePlan 1 = .ok (.getfield 30, 3) := by decide +kernel
theorem dX5_usePlan_4 : decode cX5_usePlan 4 = .ok (.aload_n 0, 1) := by decide +kernel
theorem dX5_usePlan_5 : decode cX5_usePlan 5 = .ok (.getfield 12, 3) := by decide +kernel
theorem dX5_usePlan_8 : decode cX5_usePlan 8 = .ok (.getfield 55, 3) := by decide +kernel
theorem dX5_usePlan_11 : decode cX5_usePlan 11 = .ok (.invokevirtual 149, 3) := by decide +kernel
theorem dX5_usePlan_14 : decode cX5_usePlan 14 = .ok (.istore_n 1, 1) := by decide +kernel
theorem dX5_usePlan_15 : decode cX5_usePlan 15 = .ok (.iload_n 1, 1) := by decide +kernel
theorem dX5_usePlan_16 : decode cX5_usePlan 16 = .ok (.iconst (-1), 1) := by decide +kernel
theorem dX5_usePlan_17 : decode cX5_usePlan 17 = .ok (.if_icmp .ne 13, 3) := by decide +kernel
theorem dX5_usePlan_20 : decode cX5_usePlan 20 = .ok (.new 106, 3) := by decide +kernel
theorem dX5_usePlan_23 : decode cX5_usePlan 23 = .ok (.dup, 1) := by decide +kernel
theorem dX5_usePlan_24 : decode cX5_usePlan 24 = .ok (.ldc 153, 2) := by decide +kernel
theorem dX5_usePlan_26 : decode cX5_usePlan 26 = .ok (.invokespecial 110, 3) := by decide +kernel
theorem dX5_usePlan_29 : decode cX5_usePlan 29 = .ok (.athrow, 1) := by decide +kernel
theorem dX5_usePlan_30 : decode cX5_usePlan 30 = .ok (.aload_n 0, 1) := by decide +kernel
theorem dX5_usePlan_31 : decode cX5_usePlan 31 = .ok (.invokevirtual 52, 3) := by decide +kernel
theorem dX5_usePlan_34 : decode cX5_usePlan 34 = .ok (.aload_n 0, 1) := by decide +kernel
theorem dX5_usePlan_35 : decode cX5_usePlan 35 = .ok (.getfield 30, 3) := by decide +kernel
theorem dX5_usePlan_38 : decode cX5_usePlan 38 = .ok (.aload_n 0, 1) := by decide +kernel
theorem dX5_usePlan_39 : decode cX5_usePlan 39 = .ok (.getfield 12, 3) := by decide +kernel
theorem dX5_usePlan_42 : decode cX5_usePlan 42 = .ok (.getfield 55, 3) := by decide +kernel
theorem dX5_usePlan_45 : decode cX5_usePlan 45 = .ok (.invokevirtual 155, 3) := by decide +kernel
theorem dX5_usePlan_48 : decode cX5_usePlan 48 = .ok (.iload_n 1, 1) := by decide +kernel
theorem dX5_usePlan_49 : decode cX5_usePlan 49 = .ok (.ireturn, 1) := by decide +kernel
theorem dX5_setPilot_0 : decode cX5_setPilot 0 = .ok (.iload_n 1, 1) := by decide +kernel
theorem dX5_setPilot_1 : decode cX5_setPilot 1 = .ok (.invokestatic 136, 3) := by decide +kernel
theorem dX5_setPilot_4 : decode cX5_setPilot 4 = .ok (.ifCond .ne 13, 3) := by decide +kernel
theorem dX5_setPilot_7 : decode cX5_setPilot 7 = .ok (.new 45, 3) := by decide +kernel
theorem dX5_setPilot_10 : decode cX5_setPilot 10 = .ok (.dup, 1) := by decide +kernel
theorem dX5_setPilot_11 : decode cX5_setPilot 11 = .ok (.ldc 159, 2) := by decide +kernel
theorem dX5_setPilot_13 : decode cX5_setPilot 13 = .ok (.invokespecial 49, 3) := by decide +kernel
theorem dX5_setPilot_16 : decode cX5_setPilot 16 = .ok (.athrow, 1) := by decide +kernel
theorem dX5_setPilot_17 : decode cX5_setPilot 17 = .ok (.aload_n 0, 1) := by decide +kernel
theorem dX5_setPilot_18 : decode cX5_setPilot 18 = .ok (.invokevirtual 52, 3) := by decide +kernel
theorem dX5_setPilot_21 : decode cX5_setPilot 21 = .ok (.aload_n 0, 1) := by decide +kernel
theorem dX5_setPilot_22 : decode cX5_setPilot 22 = .ok (.getfield 12, 3) := by decide +kernel
theorem dX5_setPilot_25 : decode cX5_setPilot 25 = .ok (.getfield 55, 3) := by decide +kernel
theorem dX5_setPilot_28 : decode cX5_setPilot 28 = .ok (.iload_n 1, 1) := by decide +kernel
theorem dX5_setPilot_29 : decode cX5_setPilot 29 = .ok (.iload_n 2, 1) := by decide +kernel
theorem dX5_setPilot_30 : decode cX5_setPilot 30 = .ok (.invokevirtual 161, 3) := by decide +kernel
theorem dX5_setPilot_33 : decode cX5_setPilot 33 = .ok (.aload_n 0, 1) := by decide +kernel
theorem dX5_setPilot_34 : decode cX5_setPilot 34 = .ok (.getfield 12, 3) := by decide +kernel
theorem dX5_setPilot_37 : decode cX5_setPilot 37 = .ok (.getfield 55, 3) := by decide +kernel
theorem dX5_setPilot_40 : decode cX5_setPilot 40 = .ok (.getfield 165, 3) := by decide +kernel
theorem dX5_setPilot_43 : decode cX5_setPilot 43 = .ok (.invokestatic 168, 3) := by decide +kernel
theorem dX5_setPilot_46 : decode cX5_setPilot 46 = .ok (.ireturn, 1) := by decide +kernel
theorem dX5_stroke_0 : decode cX5_stroke 0 = .ok (.aload_n 0, 1) := by decide +kernel
theorem dX5_stroke_1 : decode cX5_stroke 1 = .ok (.invokevirtual 52, 3) := by decide +kernel
theorem dX5_stroke_4 : decode cX5_stroke 4 = .ok (.aload_n 0, 1) := by decide +kernel
theorem dX5_stroke_5 : decode cX5_stroke 5 = .ok (.getfield 12, 3) := by decide +kernel
theorem dX5_stroke_8 : decode cX5_stroke 8 = .ok (.getfield 130, 3) := by decide +kernel
theorem dX5_stroke_11 : decode cX5_stroke 11 = .ok (.aload_n 0, 1) := by decide +kernel
theorem dX5_stroke_12 : decode cX5_stroke 12 = .ok (.getfield 12, 3) := by decide +kernel
theorem dX5_stroke_15 : decode cX5_stroke 15 = .ok (.getfield 55, 3) := by decide +kernel
theorem dX5_stroke_18 : decode cX5_stroke 18 = .ok (.invokevirtual 173, 3) := by decide +kernel
theorem dX5_stroke_21 : decode cX5_stroke 21 = .ok (.ireturn, 1) := by decide +kernel
theorem dX5_cellSet_0 : decode cX5_cellSet 0 = .ok (.iload_n 1, 1) := by decide +kernel
theorem dX5_cellSet_1 : decode cX5_cellSet 1 = .ok (.tableswitch 106 0 5 #[39, 50, 61, 72, 84, 95], 39) := by decide +kernel
theorem dX5_cellSet_40 : decode cX5_cellSet 40 = .ok (.aload_n 0, 1) := by decide +kernel
theorem dX5_cellSet_41 : decode cX5_cellSet 41 = .ok (.getfield 12, 3) := by decide +kernel
theorem dX5_cellSet_44 : decode cX5_cellSet 44 = .ok (.getfield 55, 3) := by decide +kernel
theorem dX5_cellSet_47 : decode cX5_cellSet 47 = .ok (.invokevirtual 183, 3) := by decide +kernel
theorem dX5_cellSet_50 : decode cX5_cellSet 50 = .ok (.lreturn, 1) := by decide +kernel
theorem dX5_cellSet_51 : decode cX5_cellSet 51 = .ok (.aload_n 0, 1) := by decide +kernel
theorem dX5_cellSet_52 : decode cX5_cellSet 52 = .ok (.getfield 12, 3) := by decide +kernel
theorem dX5_cellSet_55 : decode cX5_cellSet 55 = .ok (.getfield 55, 3) := by decide +kernel
theorem dX5_cellSet_58 : decode cX5_cellSet 58 = .ok (.invokevirtual 187, 3) := by decide +kernel
theorem dX5_cellSet_61 : decode cX5_cellSet 61 = .ok (.lreturn, 1) := by decide +kernel
theorem dX5_cellSet_62 : decode cX5_cellSet 62 = .ok (.aload_n 0, 1) := by decide +kernel
theorem dX5_cellSet_63 : decode cX5_cellSet 63 = .ok (.getfield 12, 3) := by decide +kernel
theorem dX5_cellSet_66 : decode cX5_cellSet 66 = .ok (.getfield 55, 3) := by decide +kernel
theorem dX5_cellSet_69 : decode cX5_cellSet 69 = .ok (.invokevirtual 190, 3) := by decide +kernel
theorem dX5_cellSet_72 : decode cX5_cellSet 72 = .ok (.lreturn, 1) := by decide +kernel
theorem dX5_cellSet_73 : decode cX5_cellSet 73 = .ok (.aload_n 0, 1) := by decide +kernel
theorem dX5_cellSet_74 : decode cX5_cellSet 74 = .ok (.getfield 12, 3) := by decide +kernel
theorem dX5_cellSet_77 : decode cX5_cellSet 77 = .ok (.getfield 55, 3) := by decide +kernel
theorem dX5_cellSet_80 : decode cX5_cellSet 80 = .ok (.iconst 0, 1) := by decide +kernel
theorem dX5_cellSet_81 : decode cX5_cellSet 81 = .ok (.invokevirtual 193, 3) := by decide +kernel
theorem dX5_cellSet_84 : decode cX5_cellSet 84 = .ok (.lreturn, 1) := by decide +kernel
theorem dX5_cellSet_85 : decode cX5_cellSet 85 = .ok (.aload_n 0, 1) := by decide +kernel
theorem dX5_cellSet_86 : decode cX5_cellSet 86 = .ok (.getfield 12, 3) := by decide +kernel
theorem dX5_cellSet_89 : decode cX5_cellSet 89 = .ok (.getfield 55, 3) := by decide +kernel
theorem dX5_cellSet_92 : decode cX5_cellSet 92 = .ok (.invokevirtual 197, 3) := by decide +kernel
theorem dX5_cellSet_95 : decode cX5_cellSet 95 = .ok (.lreturn, 1) := by decide +kernel
theorem dX5_cellSet_96 : decode cX5_cellSet 96 = .ok (.aload_n 0, 1) := by decide +kernel
theorem dX5_cellSet_97 : decode cX5_cellSet 97 = .ok (.getfield 12, 3) := by decide +kernel
theorem dX5_cellSet_100 : decode cX5_cellSet 100 = .ok (.getfield 55, 3) := by decide +kernel
theorem dX5_cellSet_103 : decode cX5_cellSet 103 = .ok (.invokevirtual 200, 3) := by decide +kernel
theorem dX5_cellSet_106 : decode cX5_cellSet 106 = .ok (.lreturn, 1) := by decide +kernel
theorem dX5_cellSet_107 : decode cX5_cellSet 107 = .ok (.new 45, 3) := by decide +kernel
theorem dX5_cellSet_110 : decode cX5_cellSet 110 = .ok (.dup, 1) := by decide +kernel
theorem dX5_cellSet_111 : decode cX5_cellSet 111 = .ok (.ldc 203, 2) := by decide +kernel
theorem dX5_cellSet_113 : decode cX5_cellSet 113 = .ok (.invokespecial 49, 3) := by decide +kernel
theorem dX5_cellSet_116 : decode cX5_cellSet 116 = .ok (.athrow, 1) := by decide +kernel
theorem dX5_operation_0 : decode cX5_operation 0 = .ok (.aload_n 0, 1) := by decide +kernel
theorem dX5_operation_1 : decode cX5_operation 1 = .ok (.getfield 12, 3) := by decide +kernel
theorem dX5_operation_4 : decode cX5_operation 4 = .ok (.getfield 55, 3) := by decide +kernel
theorem dX5_operation_7 : decode cX5_operation 7 = .ok (.iload_n 1, 1) := by decide +kernel
theorem dX5_operation_8 : decode cX5_operation 8 = .ok (.invokevirtual 117, 3) := by decide +kernel
theorem dX5_operation_11 : decode cX5_operation 11 = .ok (.ifCond .ne 13, 3) := by decide +kernel
theorem dX5_operation_14 : decode cX5_operation 14 = .ok (.new 121, 3) := by decide +kernel
theorem dX5_operation_17 : decode cX5_operation 17 = .ok (.dup, 1) := by decide +kernel
theorem dX5_operation_18 : decode cX5_operation 18 = .ok (.ldc 123, 2) := by decide +kernel
theorem dX5_operation_20 : decode cX5_operation 20 = .ok (.invokespecial 125, 3) := by decide +kernel
theorem dX5_operation_23 : decode cX5_operation 23 = .ok (.athrow, 1) := by decide +kernel
theorem dX5_operation_24 : decode cX5_operation 24 = .ok (.iload_n 2, 1) := by decide +kernel
theorem dX5_operation_25 : decode cX5_operation 25 = .ok (.ifCond .lt 9, 3) := by decide +kernel
theorem dX5_operation_28 : decode cX5_operation 28 = .ok (.iload_n 2, 1) := by decide +kernel
theorem dX5_operation_29 : decode cX5_operation 29 = .ok (.bipush 7, 2) := by decide +kernel
theorem dX5_operation_31 : decode cX5_operation 31 = .ok (.if_icmp .le 13, 3) := by decide +kernel
theorem dX5_operation_34 : decode cX5_operation 34 = .ok (.new 45, 3) := by decide +kernel
theorem dX5_operation_37 : decode cX5_operation 37 = .ok (.dup, 1) := by decide +kernel
theorem dX5_operation_38 : decode cX5_operation 38 = .ok (.ldc 205, 2) := by decide +kernel
theorem dX5_operation_40 : decode cX5_operation 40 = .ok (.invokespecial 49, 3) := by decide +kernel
theorem dX5_operation_43 : decode cX5_operation 43 = .ok (.athrow, 1) := by decide +kernel
theorem dX5_operation_44 : decode cX5_operation 44 = .ok (.iload_n 2, 1) := by decide +kernel
theorem dX5_operation_45 : decode cX5_operation 45 = .ok (.bipush 7, 2) := by decide +kernel
theorem dX5_operation_47 : decode cX5_operation 47 = .ok (.if_icmp .ne 17, 3) := by decide +kernel
theorem dX5_operation_50 : decode cX5_operation 50 = .ok (.aload_n 0, 1) := by decide +kernel
theorem dX5_operation_51 : decode cX5_operation 51 = .ok (.getfield 12, 3) := by decide +kernel
theorem dX5_operation_54 : decode cX5_operation 54 = .ok (.getfield 55, 3) := by decide +kernel
theorem dX5_operation_57 : decode cX5_operation 57 = .ok (.iload_n 1, 1) := by decide +kernel
theorem dX5_operation_58 : decode cX5_operation 58 = .ok (.invokevirtual 207, 3) := by decide +kernel
theorem dX5_operation_61 : decode cX5_operation 61 = .ok (.goto 15, 3) := by decide +kernel
theorem dX5_operation_64 : decode cX5_operation 64 = .ok (.aload_n 0, 1) := by decide +kernel
theorem dX5_operation_65 : decode cX5_operation 65 = .ok (.getfield 12, 3) := by decide +kernel
theorem dX5_operation_68 : decode cX5_operation 68 = .ok (.getfield 55, 3) := by decide +kernel
theorem dX5_operation_71 : decode cX5_operation 71 = .ok (.iload_n 1, 1) := by decide +kernel
theorem dX5_operation_72 : decode cX5_operation 72 = .ok (.iload_n 2, 1) := by decide +kernel
theorem dX5_operation_73 : decode cX5_operation 73 = .ok (.invokevirtual 141, 3) := by decide +kernel
theorem dX5_operation_76 : decode cX5_operation 76 = .ok (.ireturn, 1) := by decide +kernel
theorem dX5_station_0 : decode cX5_station 0 = .ok (.iload_n 1, 1) := by decide +kernel
theorem dX5_station_1 : decode cX5_station 1 = .ok (.invokestatic 136, 3) := by decide +kernel
theorem dX5_station_4 : decode cX5_station 4 = .ok (.ifCond .ne 13, 3) := by decide +kernel
theorem dX5_station_7 : decode cX5_station 7 = .ok (.new 45, 3) := by decide +kernel
theorem dX5_station_10 : decode cX5_station 10 = .ok (.dup, 1) := by decide +kernel
theorem dX5_station_11 : decode cX5_station 11 = .ok (.ldc 159, 2) := by decide +kernel
theorem dX5_station_13 : decode cX5_station 13 = .ok (.invokespecial 49, 3) := by decide +kernel
theorem dX5_station_16 : decode cX5_station 16 = .ok (.athrow, 1) := by decide +kernel
theorem dX5_station_17 : decode cX5_station 17 = .ok (.iload_n 2, 1) := by decide +kernel
theorem dX5_station_18 : decode cX5_station 18 = .ok (.tableswitch 94 0 3 #[30, 42, 54, 74], 30) := by decide +kernel
theorem dX5_station_48 : decode cX5_station 48 = .ok (.aload_n 0, 1) := by decide +kernel
theorem dX5_station_49 : decode cX5_station 49 = .ok (.getfield 12, 3) := by decide +kernel
theorem dX5_station_52 : decode cX5_station 52 = .ok (.getfield 55, 3) := by decide +kernel
theorem dX5_station_55 : decode cX5_station 55 = .ok (.iload_n 1, 1) := by decide +kernel
theorem dX5_station_56 : decode cX5_station 56 = .ok (.invokevirtual 210, 3) := by decide +kernel
theorem dX5_station_59 : decode cX5_station 59 = .ok (.ireturn, 1) := by decide +kernel
theorem dX5_station_60 : decode cX5_station 60 = .ok (.aload_n 0, 1) := by decide +kernel
theorem dX5_station_61 : decode cX5_station 61 = .ok (.getfield 12, 3) := by decide +kernel
theorem dX5_station_64 : decode cX5_station 64 = .ok (.getfield 55, 3) := by decide +kernel
theorem dX5_station_67 : decode cX5_station 67 = .ok (.iload_n 1, 1) := by decide +kernel
theorem dX5_station_68 : decode cX5_station 68 = .ok (.invokevirtual 213, 3) := by decide +kernel
theorem dX5_station_71 : decode cX5_station 71 = .ok (.ireturn, 1) := by decide +kernel
theorem dX5_station_72 : decode cX5_station 72 = .ok (.aload_n 0, 1) := by decide +kernel
theorem dX5_station_73 : decode cX5_station 73 = .ok (.getfield 12, 3) := by decide +kernel
theorem dX5_station_76 : decode cX5_station 76 = .ok (.getfield 55, 3) := by decide +kernel
theorem dX5_station_79 : decode cX5_station 79 = .ok (.iload_n 1, 1) := by decide +kernel
theorem dX5_station_80 : decode cX5_station 80 = .ok (.invokevirtual 216, 3) := by decide +kernel
theorem dX5_station_83 : decode cX5_station 83 = .ok (.ifCond .eq 7, 3) := by decide +kernel
theorem dX5_station_86 : decode cX5_station 86 = .ok (.iconst 1, 1) := by decide +kernel
theorem dX5_station_87 : decode cX5_station 87 = .ok (.goto 4, 3) := by decide +kernel
theorem dX5_station_90 : decode cX5_station 90 = .ok (.iconst 0, 1) := by decide +kernel
theorem dX5_station_91 : decode cX5_station 91 = .ok (.ireturn, 1) := by decide +kernel
theorem dX5_station_92 : decode cX5_station 92 = .ok (.aload_n 0, 1) := by decide +kernel
theorem dX5_station_93 : decode cX5_station 93 = .ok (.getfield 12, 3) := by decide +kernel
theorem dX5_station_96 : decode cX5_station 96 = .ok (.getfield 130, 3) := by decide +kernel
theorem dX5_station_99 : decode cX5_station 99 = .ok (.iload_n 1, 1) := by decide +kernel
theorem dX5_station_100 : decode cX5_station 100 = .ok (.invokevirtual 219, 3) := by decide +kernel
theorem dX5_station_103 : decode cX5_station 103 = .ok (.ifCond .eq 7, 3) := by decide +kernel
theorem dX5_station_106 : decode cX5_station 106 = .ok (.iconst 1, 1) := by decide +kernel
theorem dX5_station_107 : decode cX5_station 107 = .ok (.goto 4, 3) := by decide +kernel
theorem dX5_station_110 : decode cX5_station 110 = .ok (.iconst 0, 1) := by decide +kernel
theorem dX5_station_111 : decode cX5_station 111 = .ok (.ireturn, 1) := by decide +kernel
theorem dX5_station_112 : decode cX5_station 112 = .ok (.new 45, 3) := by decide +kernel
theorem dX5_station_115 : decode cX5_station 115 = .ok (.dup, 1) := by decide +kernel
theorem dX5_station_116 : decode cX5_station 116 = .ok (.ldc 222, 2) := by decide +kernel
theorem dX5_station_118 : decode cX5_station 118 = .ok (.invokespecial 49, 3) := by decide +kernel
theorem dX5_station_121 : decode cX5_station 121 = .ok (.athrow, 1) := by decide +kernel
theorem dX5_pitch_0 : decode cX5_pitch 0 = .ok (.iload_n 1, 1) := by decide +kernel
theorem dX5_pitch_1 : decode cX5_pitch 1 = .ok (.invokestatic 136, 3) := by decide +kernel
theorem dX5_pitch_4 : decode cX5_pitch 4 = .ok (.ifCond .eq 12, 3) := by decide +kernel
theorem dX5_pitch_7 : decode cX5_pitch 7 = .ok (.iload_n 2, 1) := by decide +kernel
theorem dX5_pitch_8 : decode cX5_pitch 8 = .ok (.ifCond .lt 8, 3) := by decide +kernel
theorem dX5_pitch_11 : decode cX5_pitch 11 = .ok (.iload_n 2, 1) := by decide +kernel
theorem dX5_pitch_12 : decode cX5_pitch 12 = .ok (.iconst 3, 1) := by decide +kernel
theorem dX5_pitch_13 : decode cX5_pitch 13 = .ok (.if_icmp .le 13, 3) := by decide +kernel
theorem dX5_pitch_16 : decode cX5_pitch 16 = .ok (.new 45, 3) := by decide +kernel
theorem dX5_pitch_19 : decode cX5_pitch 19 = .ok (.dup, 1) := by decide +kernel
theorem dX5_pitch_20 : decode cX5_pitch 20 = .ok (.ldc 224, 2) := by decide +kernel
theorem dX5_pitch_22 : decode cX5_pitch 22 = .ok (.invokespecial 49, 3) := by decide +kernel
theorem dX5_pitch_25 : decode cX5_pitch 25 = .ok (.athrow, 1) := by decide +kernel
theorem dX5_pitch_26 : decode cX5_pitch 26 = .ok (.aload_n 0, 1) := by decide +kernel
theorem dX5_pitch_27 : decode cX5_pitch 27 = .ok (.getfield 12, 3) := by decide +kernel
theorem dX5_pitch_30 : decode cX5_pitch 30 = .ok (.getfield 130, 3) := by decide +kernel
theorem dX5_pitch_33 : decode cX5_pitch 33 = .ok (.iload_n 1, 1) := by decide +kernel
theorem dX5_pitch_34 : decode cX5_pitch 34 = .ok (.invokevirtual 219, 3) := by decide +kernel
theorem dX5_pitch_37 : decode cX5_pitch 37 = .ok (.ifCond .eq 18, 3) := by decide +kernel
theorem dX5_pitch_40 : decode cX5_pitch 40 = .ok (.aload_n 0, 1) := by decide +kernel
theorem dX5_pitch_41 : decode cX5_pitch 41 = .ok (.getfield 12, 3) := by decide +kernel
theorem dX5_pitch_44 : decode cX5_pitch 44 = .ok (.getfield 130, 3) := by decide +kernel
theorem dX5_pitch_47 : decode cX5_pitch 47 = .ok (.iload_n 1, 1) := by decide +kernel
theorem dX5_pitch_48 : decode cX5_pitch 48 = .ok (.iload_n 2, 1) := by decide +kernel
theorem dX5_pitch_49 : decode cX5_pitch 49 = .ok (.invokevirtual 226, 3) := by decide +kernel
theorem dX5_pitch_52 : decode cX5_pitch 52 = .ok (.goto 4, 3) := by decide +kernel
theorem dX5_pitch_55 : decode cX5_pitch 55 = .ok (.iconst (-1), 1) := by decide +kernel
theorem dX5_pitch_56 : decode cX5_pitch 56 = .ok (.ireturn, 1) := by decide +kernel
theorem dX5_left_0 : decode cX5_left 0 = .ok (.iload_n 1, 1) := by decide +kernel
theorem dX5_left_1 : decode cX5_left 1 = .ok (.invokestatic 136, 3) := by decide +kernel
theorem dX5_left_4 : decode cX5_left 4 = .ok (.ifCond .ne 13, 3) := by decide +kernel
theorem dX5_left_7 : decode cX5_left 7 = .ok (.new 45, 3) := by decide +kernel
theorem dX5_left_10 : decode cX5_left 10 = .ok (.dup, 1) := by decide +kernel
theorem dX5_left_11 : decode cX5_left 11 = .ok (.ldc 159, 2) := by decide +kernel
theorem dX5_left_13 : decode cX5_left 13 = .ok (.invokespecial 49, 3) := by decide +kernel
theorem dX5_left_16 : decode cX5_left 16 = .ok (.athrow, 1) := by decide +kernel
theorem dX5_left_17 : decode cX5_left 17 = .ok (.aload_n 0, 1) := by decide +kernel
theorem dX5_left_18 : decode cX5_left 18 = .ok (.getfield 12, 3) := by decide +kernel
theorem dX5_left_21 : decode cX5_left 21 = .ok (.getfield 130, 3) := by decide +kernel
theorem dX5_left_24 : decode cX5_left 24 = .ok (.iload_n 1, 1) := by decide +kernel
theorem dX5_left_25 : decode cX5_left 25 = .ok (.invokevirtual 219, 3) := by decide +kernel
theorem dX5_left_28 : decode cX5_left 28 = .ok (.ifCond .eq 17, 3) := by decide +kernel
theorem dX5_left_31 : decode cX5_left 31 = .ok (.aload_n 0, 1) := by decide +kernel
theorem dX5_left_32 : decode cX5_left 32 = .ok (.getfield 12, 3) := by decide +kernel
theorem dX5_left_35 : decode cX5_left 35 = .ok (.getfield 130, 3) := by decide +kernel
theorem dX5_left_38 : decode cX5_left 38 = .ok (.iload_n 1, 1) := by decide +kernel
theorem dX5_left_39 : decode cX5_left 39 = .ok (.invokevirtual 229, 3) := by decide +kernel
theorem dX5_left_42 : decode cX5_left 42 = .ok (.goto 4, 3) := by decide +kernel
theorem dX5_left_45 : decode cX5_left 45 = .ok (.lconst 0, 1) := by decide +kernel
theorem dX5_left_46 : decode cX5_left 46 = .ok (.lreturn, 1) := by decide +kernel
theorem dX5_whole_0 : decode cX5_whole 0 = .ok (.iload_n 1, 1) := by decide +kernel
theorem dX5_whole_1 : decode cX5_whole 1 = .ok (.ifCond .lt 9, 3) := by decide +kernel
theorem dX5_whole_4 : decode cX5_whole 4 = .ok (.iload_n 1, 1) := by decide +kernel
theorem dX5_whole_5 : decode cX5_whole 5 = .ok (.bipush 16, 2) := by decide +kernel
theorem dX5_whole_7 : decode cX5_whole 7 = .ok (.if_icmp .le 13, 3) := by decide +kernel
theorem dX5_whole_10 : decode cX5_whole 10 = .ok (.new 45, 3) := by decide +kernel
theorem dX5_whole_13 : decode cX5_whole 13 = .ok (.dup, 1) := by decide +kernel
theorem dX5_whole_14 : decode cX5_whole 14 = .ok (.ldc 232, 2) := by decide +kernel
theorem dX5_whole_16 : decode cX5_whole 16 = .ok (.invokespecial 49, 3) := by decide +kernel
theorem dX5_whole_19 : decode cX5_whole 19 = .ok (.athrow, 1) := by decide +kernel
theorem dX5_whole_20 : decode cX5_whole 20 = .ok (.iload_n 1, 1) := by decide +kernel
theorem dX5_whole_21 : decode cX5_whole 21 = .ok (.bipush 10, 2) := by decide +kernel
theorem dX5_whole_23 : decode cX5_whole 23 = .ok (.if_icmp .ge 15, 3) := by decide +kernel
theorem dX5_whole_26 : decode cX5_whole 26 = .ok (.aload_n 0, 1) := by decide +kernel
theorem dX5_whole_27 : decode cX5_whole 27 = .ok (.getfield 12, 3) := by decide +kernel
theorem dX5_whole_30 : decode cX5_whole 30 = .ok (.getfield 55, 3) := by decide +kernel
theorem dX5_whole_33 : decode cX5_whole 33 = .ok (.iload_n 1, 1) := by decide +kernel
theorem dX5_whole_34 : decode cX5_whole 34 = .ok (.invokevirtual 234, 3) := by decide +kernel
theorem dX5_whole_37 : decode cX5_whole 37 = .ok (.ireturn, 1) := by decide +kernel
theorem dX5_whole_38 : decode cX5_whole 38 = .ok (.iload_n 1, 1) := by decide +kernel
theorem dX5_whole_39 : decode cX5_whole 39 = .ok (.bipush 15, 2) := by decide +kernel
theorem dX5_whole_41 : decode cX5_whole 41 = .ok (.if_icmp .ne 17, 3) := by decide +kernel
theorem dX5_whole_44 : decode cX5_whole 44 = .ok (.aload_n 0, 1) := by decide +kernel
theorem dX5_whole_45 : decode cX5_whole 45 = .ok (.getfield 12, 3) := by decide +kernel
theorem dX5_whole_48 : decode cX5_whole 48 = .ok (.getfield 55, 3) := by decide +kernel
theorem dX5_whole_51 : decode cX5_whole 51 = .ok (.getfield 165, 3) := by decide +kernel
theorem dX5_whole_54 : decode cX5_whole 54 = .ok (.invokestatic 168, 3) := by decide +kernel
theorem dX5_whole_57 : decode cX5_whole 57 = .ok (.ireturn, 1) := by decide +kernel
theorem dX5_whole_58 : decode cX5_whole 58 = .ok (.iload_n 1, 1) := by decide +kernel
theorem dX5_whole_59 : decode cX5_whole 59 = .ok (.bipush 16, 2) := by decide +kernel
theorem dX5_whole_61 : decode cX5_whole 61 = .ok (.if_icmp .ne 13, 3) := by decide +kernel
theorem dX5_whole_64 : decode cX5_whole 64 = .ok (.aload_n 0, 1) := by decide +kernel
theorem dX5_whole_65 : decode cX5_whole 65 = .ok (.getfield 37, 3) := by decide +kernel
theorem dX5_whole_68 : decode cX5_whole 68 = .ok (.getfield 237, 3) := by decide +kernel
theorem dX5_whole_71 : decode cX5_whole 71 = .ok (.goto 14, 3) := by decide +kernel
theorem dX5_whole_74 : decode cX5_whole 74 = .ok (.aload_n 0, 1) := by decide +kernel
theorem dX5_whole_75 : decode cX5_whole 75 = .ok (.getfield 12, 3) := by decide +kernel
theorem dX5_whole_78 : decode cX5_whole 78 = .ok (.getfield 130, 3) := by decide +kernel
theorem dX5_whole_81 : decode cX5_whole 81 = .ok (.iload_n 1, 1) := by decide +kernel
theorem dX5_whole_82 : decode cX5_whole 82 = .ok (.invokevirtual 240, 3) := by decide +kernel
theorem dX5_whole_85 : decode cX5_whole 85 = .ok (.ireturn, 1) := by decide +kernel
theorem dX5_dieFault_0 : decode cX5_dieFault 0 = .ok (.aload_n 0, 1) := by decide +kernel
theorem dX5_dieFault_1 : decode cX5_dieFault 1 = .ok (.getfield 12, 3) := by decide +kernel
theorem dX5_dieFault_4 : decode cX5_dieFault 4 = .ok (.getfield 55, 3) := by decide +kernel
theorem dX5_dieFault_7 : decode cX5_dieFault 7 = .ok (.invokevirtual 241, 3) := by decide +kernel
theorem dX5_dieFault_10 : decode cX5_dieFault 10 = .ok (.ireturn, 1) := by decide +kernel
theorem dX5_planFault_0 : decode cX5_planFault 0 = .ok (.aload_n 0, 1) := by decide +kernel
theorem dX5_planFault_1 : decode cX5_planFault 1 = .ok (.getfield 12, 3) := by decide +kernel
theorem dX5_planFault_4 : decode cX5_planFault 4 = .ok (.getfield 55, 3) := by decide +kernel
theorem dX5_planFault_7 : decode cX5_planFault 7 = .ok (.invokevirtual 244, 3) := by decide +kernel
theorem dX5_planFault_10 : decode cX5_planFault 10 = .ok (.ireturn, 1) := by decide +kernel
theorem dX5_planned_0 : decode cX5_planned 0 = .ok (.iload_n 1, 1) := by decide +kernel
theorem dX5_planned_1 : decode cX5_planned 1 = .ok (.iconst (-1), 1) := by decide +kernel
theorem dX5_planned_2 : decode cX5_planned 2 = .ok (.if_icmp .eq 27, 3) := by decide +kernel
theorem dX5_planned_5 : decode cX5_planned 5 = .ok (.aload_n 0, 1) := by decide +kernel
theorem dX5_planned_6 : decode cX5_planned 6 = .ok (.getfield 12, 3) := by decide +kernel
theorem dX5_planned_9 : decode cX5_planned 9 = .ok (.getfield 55, 3) := by decide +kernel
theorem dX5_planned_12 : decode cX5_planned 12 = .ok (.iload_n 1, 1) := by decide +kernel
theorem dX5_planned_13 : decode cX5_planned 13 = .ok (.invokevirtual 117, 3) := by decide +kernel
theorem dX5_planned_16 : decode cX5_planned 16 = .ok (.ifCond .ne 13, 3) := by decide +kernel
theorem dX5_planned_19 : decode cX5_planned 19 = .ok (.new 121, 3) := by decide +kernel
theorem dX5_planned_22 : decode cX5_planned 22 = .ok (.dup, 1) := by decide +kernel
theorem dX5_planned_23 : decode cX5_planned 23 = .ok (.ldc 123, 2) := by decide +kernel
theorem dX5_planned_25 : decode cX5_planned 25 = .ok (.invokespecial 125, 3) := by decide +kernel
theorem dX5_planned_28 : decode cX5_planned 28 = .ok (.athrow, 1) := by decide +kernel
theorem dX5_planned_29 : decode cX5_planned 29 = .ok (.aload_n 0, 1) := by decide +kernel
theorem dX5_planned_30 : decode cX5_planned 30 = .ok (.getfield 30, 3) := by decide +kernel
theorem dX5_planned_33 : decode cX5_planned 33 = .ok (.aload_n 0, 1) := by decide +kernel
theorem dX5_planned_34 : decode cX5_planned 34 = .ok (.getfield 12, 3) := by decide +kernel
theorem dX5_planned_37 : decode cX5_planned 37 = .ok (.getfield 55, 3) := by decide +kernel
theorem dX5_planned_40 : decode cX5_planned 40 = .ok (.invokevirtual 149, 3) := by decide +kernel
theorem dX5_planned_43 : decode cX5_planned 43 = .ok (.istore_n 2, 1) := by decide +kernel
theorem dX5_planned_44 : decode cX5_planned 44 = .ok (.iload_n 2, 1) := by decide +kernel
theorem dX5_planned_45 : decode cX5_planned 45 = .ok (.iconst (-1), 1) := by decide +kernel
theorem dX5_planned_46 : decode cX5_planned 46 = .ok (.if_icmp .eq 8, 3) := by decide +kernel
theorem dX5_planned_49 : decode cX5_planned 49 = .ok (.iload_n 1, 1) := by decide +kernel
theorem dX5_planned_50 : decode cX5_planned 50 = .ok (.iconst (-1), 1) := by decide +kernel
theorem dX5_planned_51 : decode cX5_planned 51 = .ok (.if_icmp .ne 5, 3) := by decide +kernel
theorem dX5_planned_54 : decode cX5_planned 54 = .ok (.iload_n 2, 1) := by decide +kernel
theorem dX5_planned_55 : decode cX5_planned 55 = .ok (.ireturn, 1) := by decide +kernel
theorem dX5_planned_56 : decode cX5_planned 56 = .ok (.aload_n 0, 1) := by decide +kernel
theorem dX5_planned_57 : decode cX5_planned 57 = .ok (.getfield 30, 3) := by decide +kernel
theorem dX5_planned_60 : decode cX5_planned 60 = .ok (.iload_n 1, 1) := by decide +kernel
theorem dX5_planned_61 : decode cX5_planned 61 = .ok (.invokevirtual 247, 3) := by decide +kernel
theorem dX5_planned_64 : decode cX5_planned 64 = .ok (.ireturn, 1) := by decide +kernel
theorem dX5_fitsTwice_0 : decode cX5_fitsTwice 0 = .ok (.aload_n 0, 1) := by decide +kernel
theorem dX5_fitsTwice_1 : decode cX5_fitsTwice 1 = .ok (.getfield 12, 3) := by decide +kernel
theorem dX5_fitsTwice_4 : decode cX5_fitsTwice 4 = .ok (.getfield 55, 3) := by decide +kernel
theorem dX5_fitsTwice_7 : decode cX5_fitsTwice 7 = .ok (.invokevirtual 253, 3) := by decide +kernel
theorem dX5_fitsTwice_10 : decode cX5_fitsTwice 10 = .ok (.ifCond .eq 7, 3) := by decide +kernel
theorem dX5_fitsTwice_13 : decode cX5_fitsTwice 13 = .ok (.iconst 1, 1) := by decide +kernel
theorem dX5_fitsTwice_14 : decode cX5_fitsTwice 14 = .ok (.goto 4, 3) := by decide +kernel
theorem dX5_fitsTwice_17 : decode cX5_fitsTwice 17 = .ok (.iconst 0, 1) := by decide +kernel
theorem dX5_fitsTwice_18 : decode cX5_fitsTwice 18 = .ok (.ireturn, 1) := by decide +kernel
theorem dX5_scrap_0 : decode cX5_scrap 0 = .ok (.aload_n 0, 1) := by decide +kernel
theorem dX5_scrap_1 : decode cX5_scrap 1 = .ok (.getfield 12, 3) := by decide +kernel
theorem dX5_scrap_4 : decode cX5_scrap 4 = .ok (.getfield 55, 3) := by decide +kernel
theorem dX5_scrap_7 : decode cX5_scrap 7 = .ok (.getfield 256, 3) := by decide +kernel
theorem dX5_scrap_10 : decode cX5_scrap 10 = .ok (.aload_n 0, 1) := by decide +kernel
theorem dX5_scrap_11 : decode cX5_scrap 11 = .ok (.getfield 12, 3) := by decide +kernel
theorem dX5_scrap_14 : decode cX5_scrap 14 = .ok (.getfield 55, 3) := by decide +kernel
theorem dX5_scrap_17 : decode cX5_scrap 17 = .ok (.getfield 259, 3) := by decide +kernel
theorem dX5_scrap_20 : decode cX5_scrap 20 = .ok (.imul, 1) := by decide +kernel
theorem dX5_scrap_21 : decode cX5_scrap 21 = .ok (.istore_n 2, 1) := by decide +kernel
theorem dX5_scrap_22 : decode cX5_scrap 22 = .ok (.iload_n 2, 1) := by decide +kernel
theorem dX5_scrap_23 : decode cX5_scrap 23 = .ok (.iconst 1, 1) := by decide +kernel
theorem dX5_scrap_24 : decode cX5_scrap 24 = .ok (.if_icmp .ge 5, 3) := by decide +kernel
theorem dX5_scrap_27 : decode cX5_scrap 27 = .ok (.iconst 0, 1) := by decide +kernel
theorem dX5_scrap_28 : decode cX5_scrap 28 = .ok (.ireturn, 1) := by decide +kernel
theorem dX5_scrap_29 : decode cX5_scrap 29 = .ok (.aload_n 0, 1) := by decide +kernel
theorem dX5_scrap_30 : decode cX5_scrap 30 = .ok (.getfield 12, 3) := by decide +kernel
theorem dX5_scrap_33 : decode cX5_scrap 33 = .ok (.getfield 55, 3) := by decide +kernel
theorem dX5_scrap_36 : decode cX5_scrap 36 = .ok (.invokevirtual 183, 3) := by decide +kernel
theorem dX5_scrap_39 : decode cX5_scrap 39 = .ok (.invokestatic 262, 3) := by decide +kernel
theorem dX5_scrap_42 : decode cX5_scrap 42 = .ok (.istore_n 3, 1) := by decide +kernel
theorem dX5_scrap_43 : decode cX5_scrap 43 = .ok (.iload_n 1, 1) := by decide +kernel
theorem dX5_scrap_44 : decode cX5_scrap 44 = .ok (.ifCond .eq 20, 3) := by decide +kernel
theorem dX5_scrap_47 : decode cX5_scrap 47 = .ok (.aload_n 0, 1) := by decide +kernel
theorem dX5_scrap_48 : decode cX5_scrap 48 = .ok (.getfield 12, 3) := by decide +kernel
theorem dX5_scrap_51 : decode cX5_scrap 51 = .ok (.getfield 55, 3) := by decide +kernel
theorem dX5_scrap_54 : decode cX5_scrap 54 = .ok (.invokevirtual 253, 3) := by decide +kernel
theorem dX5_scrap_57 : decode cX5_scrap 57 = .ok (.ifCond .eq 7, 3) := by decide +kernel
theorem dX5_scrap_60 : decode cX5_scrap 60 = .ok (.iconst 2, 1) := by decide +kernel
theorem dX5_scrap_61 : decode cX5_scrap 61 = .ok (.iload_n 3, 1) := by decide +kernel
theorem dX5_scrap_62 : decode cX5_scrap 62 = .ok (.imul, 1) := by decide +kernel
theorem dX5_scrap_63 : decode cX5_scrap 63 = .ok (.istore_n 3, 1) := by decide +kernel
theorem dX5_scrap_64 : decode cX5_scrap 64 = .ok (.sipush 1000, 3) := by decide +kernel
theorem dX5_scrap_67 : decode cX5_scrap 67 = .ok (.iload_n 2, 1) := by decide +kernel
theorem dX5_scrap_68 : decode cX5_scrap 68 = .ok (.iload_n 3, 1) := by decide +kernel
theorem dX5_scrap_69 : decode cX5_scrap 69 = .ok (.isub, 1) := by decide +kernel
theorem dX5_scrap_70 : decode cX5_scrap 70 = .ok (.imul, 1) := by decide +kernel
theorem dX5_scrap_71 : decode cX5_scrap 71 = .ok (.iload_n 2, 1) := by decide +kernel
theorem dX5_scrap_72 : decode cX5_scrap 72 = .ok (.idiv, 1) := by decide +kernel
theorem dX5_scrap_73 : decode cX5_scrap 73 = .ok (.ireturn, 1) := by decide +kernel
theorem dX5_strokesToGood_0 : decode cX5_strokesToGood 0 = .ok (.aload_n 0, 1) := by decide +kernel
theorem dX5_strokesToGood_1 : decode cX5_strokesToGood 1 = .ok (.getfield 23, 3) := by decide +kernel
theorem dX5_strokesToGood_4 : decode cX5_strokesToGood 4 = .ok (.aload_n 0, 1) := by decide +kernel
theorem dX5_strokesToGood_5 : decode cX5_strokesToGood 5 = .ok (.getfield 12, 3) := by decide +kernel
theorem dX5_strokesToGood_8 : decode cX5_strokesToGood 8 = .ok (.getfield 130, 3) := by decide +kernel
theorem dX5_strokesToGood_11 : decode cX5_strokesToGood 11 = .ok (.invokevirtual 267, 3) := by decide +kernel
theorem dX5_strokesToGood_14 : decode cX5_strokesToGood 14 = .ok (.iconst 1, 1) := by decide +kernel
theorem dX5_strokesToGood_15 : decode cX5_strokesToGood 15 = .ok (.istore_n 1, 1) := by decide +kernel
theorem dX5_strokesToGood_16 : decode cX5_strokesToGood 16 = .ok (.iload_n 1, 1) := by decide +kernel
theorem dX5_strokesToGood_17 : decode cX5_strokesToGood 17 = .ok (.bipush 60, 2) := by decide +kernel
theorem dX5_strokesToGood_19 : decode cX5_strokesToGood 19 = .ok (.if_icmp .gt 45, 3) := by decide +kernel
theorem dX5_strokesToGood_22 : decode cX5_strokesToGood 22 = .ok (.aload_n 0, 1) := by decide +kernel
theorem dX5_strokesToGood_23 : decode cX5_strokesToGood 23 = .ok (.getfield 23, 3) := by decide +kernel
theorem dX5_strokesToGood_26 : decode cX5_strokesToGood 26 = .ok (.getfield 271, 3) := by decide +kernel
theorem dX5_strokesToGood_29 : decode cX5_strokesToGood 29 = .ok (.istore_n 2, 1) := by decide +kernel
theorem dX5_strokesToGood_30 : decode cX5_strokesToGood 30 = .ok (.aload_n 0, 1) := by decide +kernel
theorem dX5_strokesToGood_31 : decode cX5_strokesToGood 31 = .ok (.getfield 23, 3) := by decide +kernel
theorem dX5_strokesToGood_34 : decode cX5_strokesToGood 34 = .ok (.aload_n 0, 1) := by decide +kernel
theorem dX5_strokesToGood_35 : decode cX5_strokesToGood 35 = .ok (.getfield 12, 3) := by decide +kernel
theorem dX5_strokesToGood_38 : decode cX5_strokesToGood 38 = .ok (.getfield 55, 3) := by decide +kernel
theorem dX5_strokesToGood_41 : decode cX5_strokesToGood 41 = .ok (.invokevirtual 173, 3) := by decide +kernel
theorem dX5_strokesToGood_44 : decode cX5_strokesToGood 44 = .ok (.pop, 1) := by decide +kernel
theorem dX5_strokesToGood_45 : decode cX5_strokesToGood 45 = .ok (.aload_n 0, 1) := by decide +kernel
theorem dX5_strokesToGood_46 : decode cX5_strokesToGood 46 = .ok (.getfield 23, 3) := by decide +kernel
theorem dX5_strokesToGood_49 : decode cX5_strokesToGood 49 = .ok (.getfield 271, 3) := by decide +kernel
theorem dX5_strokesToGood_52 : decode cX5_strokesToGood 52 = .ok (.iload_n 2, 1) := by decide +kernel
theorem dX5_strokesToGood_53 : decode cX5_strokesToGood 53 = .ok (.if_icmp .le 5, 3) := by decide +kernel
theorem dX5_strokesToGood_56 : decode cX5_strokesToGood 56 = .ok (.iload_n 1, 1) := by decide +kernel
theorem dX5_strokesToGood_57 : decode cX5_strokesToGood 57 = .ok (.ireturn, 1) := by decide +kernel
theorem dX5_strokesToGood_58 : decode cX5_strokesToGood 58 = .ok (.iinc 1 1, 3) := by decide +kernel
theorem dX5_strokesToGood_61 : decode cX5_strokesToGood 61 = .ok (.goto (-45), 3) := by decide +kernel
theorem dX5_strokesToGood_64 : decode cX5_strokesToGood 64 = .ok (.iconst (-1), 1) := by decide +kernel
theorem dX5_strokesToGood_65 : decode cX5_strokesToGood 65 = .ok (.ireturn, 1) := by decide +kernel
theorem dX5_undo_0 : decode cX5_undo 0 = .ok (.aload_n 0, 1) := by decide +kernel
theorem dX5_undo_1 : decode cX5_undo 1 = .ok (.getfield 295, 3) := by decide +kernel
theorem dX5_undo_4 : decode cX5_undo 4 = .ok (.iconst 1, 1) := by decide +kernel
theorem dX5_undo_5 : decode cX5_undo 5 = .ok (.if_icmp .ge 14, 3) := by decide +kernel
theorem dX5_undo_8 : decode cX5_undo 8 = .ok (.new 106, 3) := by decide +kernel
theorem dX5_undo_11 : decode cX5_undo 11 = .ok (.dup, 1) := by decide +kernel
theorem dX5_undo_12 : decode cX5_undo 12 = .ok (.ldc_w 298, 3) := by decide +kernel
theorem dX5_undo_15 : decode cX5_undo 15 = .ok (.invokespecial 110, 3) := by decide +kernel
theorem dX5_undo_18 : decode cX5_undo 18 = .ok (.athrow, 1) := by decide +kernel
theorem dX5_undo_19 : decode cX5_undo 19 = .ok (.aload_n 0, 1) := by decide +kernel
theorem dX5_undo_20 : decode cX5_undo 20 = .ok (.dup, 1) := by decide +kernel
theorem dX5_undo_21 : decode cX5_undo 21 = .ok (.getfield 295, 3) := by decide +kernel
theorem dX5_undo_24 : decode cX5_undo 24 = .ok (.iconst 1, 1) := by decide +kernel
theorem dX5_undo_25 : decode cX5_undo 25 = .ok (.isub, 1) := by decide +kernel
theorem dX5_undo_26 : decode cX5_undo 26 = .ok (.putfield 295, 3) := by decide +kernel
theorem dX5_undo_29 : decode cX5_undo 29 = .ok (.aload_n 0, 1) := by decide +kernel
theorem dX5_undo_30 : decode cX5_undo 30 = .ok (.aload_n 0, 1) := by decide +kernel
theorem dX5_undo_31 : decode cX5_undo 31 = .ok (.getfield 295, 3) := by decide +kernel
theorem dX5_undo_34 : decode cX5_undo 34 = .ok (.invokevirtual 300, 3) := by decide +kernel
theorem dX5_undo_37 : decode cX5_undo 37 = .ok (.astore_n 1, 1) := by decide +kernel
theorem dX5_undo_38 : decode cX5_undo 38 = .ok (.aload_n 1, 1) := by decide +kernel
theorem dX5_undo_39 : decode cX5_undo 39 = .ok (.ifnull 11, 3) := by decide +kernel
theorem dX5_undo_42 : decode cX5_undo 42 = .ok (.aload_n 0, 1) := by decide +kernel
theorem dX5_undo_43 : decode cX5_undo 43 = .ok (.getfield 12, 3) := by decide +kernel
theorem dX5_undo_46 : decode cX5_undo 46 = .ok (.aload_n 1, 1) := by decide +kernel
theorem dX5_undo_47 : decode cX5_undo 47 = .ok (.invokevirtual 304, 3) := by decide +kernel
theorem dX5_undo_50 : decode cX5_undo 50 = .ok (.aload_n 0, 1) := by decide +kernel
theorem dX5_undo_51 : decode cX5_undo 51 = .ok (.getfield 295, 3) := by decide +kernel
theorem dX5_undo_54 : decode cX5_undo 54 = .ok (.ireturn, 1) := by decide +kernel
theorem dX5_isPitchSize_0 : decode cX5_isPitchSize 0 = .ok (.iload_n 0, 1) := by decide +kernel
theorem dX5_isPitchSize_1 : decode cX5_isPitchSize 1 = .ok (.iconst 2, 1) := by decide +kernel
theorem dX5_isPitchSize_2 : decode cX5_isPitchSize 2 = .ok (.if_icmp .lt 24, 3) := by decide +kernel
theorem dX5_isPitchSize_5 : decode cX5_isPitchSize 5 = .ok (.iload_n 0, 1) := by decide +kernel
theorem dX5_isPitchSize_6 : decode cX5_isPitchSize 6 = .ok (.bipush 10, 2) := by decide +kernel
theorem dX5_isPitchSize_8 : decode cX5_isPitchSize 8 = .ok (.if_icmp .gt 18, 3) := by decide +kernel
theorem dX5_isPitchSize_11 : decode cX5_isPitchSize 11 = .ok (.iload_n 1, 1) := by decide +kernel
theorem dX5_isPitchSize_12 : decode cX5_isPitchSize 12 = .ok (.iconst 2, 1) := by decide +kernel
theorem dX5_isPitchSize_13 : decode cX5_isPitchSize 13 = .ok (.if_icmp .lt 13, 3) := by decide +kernel
theorem dX5_isPitchSize_16 : decode cX5_isPitchSize 16 = .ok (.iload_n 1, 1) := by decide +kernel
theorem dX5_isPitchSize_17 : decode cX5_isPitchSize 17 = .ok (.bipush 6, 2) := by decide +kernel
theorem dX5_isPitchSize_19 : decode cX5_isPitchSize 19 = .ok (.if_icmp .gt 7, 3) := by decide +kernel
theorem dX5_isPitchSize_22 : decode cX5_isPitchSize 22 = .ok (.iconst 1, 1) := by decide +kernel
theorem dX5_isPitchSize_23 : decode cX5_isPitchSize 23 = .ok (.goto 4, 3) := by decide +kernel
theorem dX5_isPitchSize_26 : decode cX5_isPitchSize 26 = .ok (.iconst 0, 1) := by decide +kernel
theorem dX5_isPitchSize_27 : decode cX5_isPitchSize 27 = .ok (.ireturn, 1) := by decide +kernel
theorem dX5_isStation_0 : decode cX5_isStation 0 = .ok (.iload_n 0, 1) := by decide +kernel
theorem dX5_isStation_1 : decode cX5_isStation 1 = .ok (.ifCond .lt 13, 3) := by decide +kernel
theorem dX5_isStation_4 : decode cX5_isStation 4 = .ok (.iload_n 0, 1) := by decide +kernel
theorem dX5_isStation_5 : decode cX5_isStation 5 = .ok (.bipush 8, 2) := by decide +kernel
theorem dX5_isStation_7 : decode cX5_isStation 7 = .ok (.if_icmp .ge 7, 3) := by decide +kernel
theorem dX5_isStation_10 : decode cX5_isStation 10 = .ok (.iconst 1, 1) := by decide +kernel
theorem dX5_isStation_11 : decode cX5_isStation 11 = .ok (.goto 4, 3) := by decide +kernel
theorem dX5_isStation_14 : decode cX5_isStation 14 = .ok (.iconst 0, 1) := by decide +kernel
theorem dX5_isStation_15 : decode cX5_isStation 15 = .ok (.ireturn, 1) := by decide +kernel
theorem dX5_isSettingValue_0 : decode cX5_isSettingValue 0 = .ok (.iload_n 0, 1) := by decide +kernel
theorem dX5_isSettingValue_1 : decode cX5_isSettingValue 1 = .ok (.tableswitch 100 0 4 #[35, 53, 68, 84, 84], 35) := by decide +kernel
theorem dX5_isSettingValue_36 : decode cX5_isSettingValue 36 = .ok (.iload_n 1, 1) := by decide +kernel
theorem dX5_isSettingValue_37 : decode cX5_isSettingValue 37 = .ok (.iconst 1, 1) := by decide +kernel
theorem dX5_isSettingValue_38 : decode cX5_isSettingValue 38 = .ok (.if_icmp .lt 14, 3) := by decide +kernel
theorem dX5_isSettingValue_41 : decode cX5_isSettingValue 41 = .ok (.iload_n 1, 1) := by decide +kernel
theorem dX5_isSettingValue_42 : decode cX5_isSettingValue 42 = .ok (.sipush 999, 3) := by decide +kernel
theorem dX5_isSettingValue_45 : decode cX5_isSettingValue 45 = .ok (.if_icmp .gt 7, 3) := by decide +kernel
theorem dX5_isSettingValue_48 : decode cX5_isSettingValue 48 = .ok (.iconst 1, 1) := by decide +kernel
theorem dX5_isSettingValue_49 : decode cX5_isSettingValue 49 = .ok (.goto 4, 3) := by decide +kernel
theorem dX5_isSettingValue_52 : decode cX5_isSettingValue 52 = .ok (.iconst 0, 1) := by decide +kernel
theorem dX5_isSettingValue_53 : decode cX5_isSettingValue 53 = .ok (.ireturn, 1) := by decide +kernel
theorem dX5_isSettingValue_54 : decode cX5_isSettingValue 54 = .ok (.iload_n 1, 1) := by decide +kernel
theorem dX5_isSettingValue_55 : decode cX5_isSettingValue 55 = .ok (.ifCond .lt 12, 3) := by decide +kernel
theorem dX5_isSettingValue_58 : decode cX5_isSettingValue 58 = .ok (.iload_n 1, 1) := by decide +kernel
theorem dX5_isSettingValue_59 : decode cX5_isSettingValue 59 = .ok (.iconst 3, 1) := by decide +kernel
theorem dX5_isSettingValue_60 : decode cX5_isSettingValue 60 = .ok (.if_icmp .gt 7, 3) := by decide +kernel
theorem dX5_isSettingValue_63 : decode cX5_isSettingValue 63 = .ok (.iconst 1, 1) := by decide +kernel
theorem dX5_isSettingValue_64 : decode cX5_isSettingValue 64 = .ok (.goto 4, 3) := by decide +kernel
theorem dX5_isSettingValue_67 : decode cX5_isSettingValue 67 = .ok (.iconst 0, 1) := by decide +kernel
theorem dX5_isSettingValue_68 : decode cX5_isSettingValue 68 = .ok (.ireturn, 1) := by decide +kernel
theorem dX5_isSettingValue_69 : decode cX5_isSettingValue 69 = .ok (.iload_n 1, 1) := by decide +kernel
theorem dX5_isSettingValue_70 : decode cX5_isSettingValue 70 = .ok (.ifCond .lt 13, 3) := by decide +kernel
theorem dX5_isSettingValue_73 : decode cX5_isSettingValue 73 = .ok (.iload_n 1, 1) := by decide +kernel
theorem dX5_isSettingValue_74 : decode cX5_isSettingValue 74 = .ok (.bipush 9, 2) := by decide +kernel
theorem dX5_isSettingValue_76 : decode cX5_isSettingValue 76 = .ok (.if_icmp .gt 7, 3) := by decide +kernel
theorem dX5_isSettingValue_79 : decode cX5_isSettingValue 79 = .ok (.iconst 1, 1) := by decide +kernel
theorem dX5_isSettingValue_80 : decode cX5_isSettingValue 80 = .ok (.goto 4, 3) := by decide +kernel
theorem dX5_isSettingValue_83 : decode cX5_isSettingValue 83 = .ok (.iconst 0, 1) := by decide +kernel
theorem dX5_isSettingValue_84 : decode cX5_isSettingValue 84 = .ok (.ireturn, 1) := by decide +kernel
theorem dX5_isSettingValue_85 : decode cX5_isSettingValue 85 = .ok (.iload_n 1, 1) := by decide +kernel
theorem dX5_isSettingValue_86 : decode cX5_isSettingValue 86 = .ok (.ifCond .lt 13, 3) := by decide +kernel
theorem dX5_isSettingValue_89 : decode cX5_isSettingValue 89 = .ok (.iload_n 1, 1) := by decide +kernel
theorem dX5_isSettingValue_90 : decode cX5_isSettingValue 90 = .ok (.bipush 50, 2) := by decide +kernel
theorem dX5_isSettingValue_92 : decode cX5_isSettingValue 92 = .ok (.if_icmp .gt 7, 3) := by decide +kernel
theorem dX5_isSettingValue_95 : decode cX5_isSettingValue 95 = .ok (.iconst 1, 1) := by decide +kernel
theorem dX5_isSettingValue_96 : decode cX5_isSettingValue 96 = .ok (.goto 4, 3) := by decide +kernel
theorem dX5_isSettingValue_99 : decode cX5_isSettingValue 99 = .ok (.iconst 0, 1) := by decide +kernel
theorem dX5_isSettingValue_100 : decode cX5_isSettingValue 100 = .ok (.ireturn, 1) := by decide +kernel
theorem dX5_isSettingValue_101 : decode cX5_isSettingValue 101 = .ok (.iconst 0, 1) := by decide +kernel
theorem dX5_isSettingValue_102 : decode cX5_isSettingValue 102 = .ok (.ireturn, 1) := by decide +kernel
theorem dX5_startOver_0 : decode cX5_startOver 0 = .ok (.aload_n 0, 1) := by decide +kernel
theorem dX5_startOver_1 : decode cX5_startOver 1 = .ok (.getfield 12, 3) := by decide +kernel
theorem dX5_startOver_4 : decode cX5_startOver 4 = .ok (.getfield 55, 3) := by decide +kernel
theorem dX5_startOver_7 : decode cX5_startOver 7 = .ok (.iload_n 1, 1) := by decide +kernel
theorem dX5_startOver_8 : decode cX5_startOver 8 = .ok (.iload_n 2, 1) := by decide +kernel
theorem dX5_startOver_9 : decode cX5_startOver 9 = .ok (.invokevirtual 349, 3) := by decide +kernel
theorem dX5_startOver_12 : decode cX5_startOver 12 = .ok (.aload_n 0, 1) := by decide +kernel
theorem dX5_startOver_13 : decode cX5_startOver 13 = .ok (.getfield 12, 3) := by decide +kernel
theorem dX5_startOver_16 : decode cX5_startOver 16 = .ok (.getfield 130, 3) := by decide +kernel
theorem dX5_startOver_19 : decode cX5_startOver 19 = .ok (.invokevirtual 350, 3) := by decide +kernel
theorem dX5_startOver_22 : decode cX5_startOver 22 = .ok (.return_, 1) := by decide +kernel
theorem dX5_savedState_0 : decode cX5_savedState 0 = .ok (.aload_n 0, 1) := by decide +kernel
theorem dX5_savedState_1 : decode cX5_savedState 1 = .ok (.getfield 352, 3) := by decide +kernel
theorem dX5_savedState_4 : decode cX5_savedState 4 = .ok (.iload_n 1, 1) := by decide +kernel
theorem dX5_savedState_5 : decode cX5_savedState 5 = .ok (.iadd, 1) := by decide +kernel
theorem dX5_savedState_6 : decode cX5_savedState 6 = .ok (.iconst 4, 1) := by decide +kernel
theorem dX5_savedState_7 : decode cX5_savedState 7 = .ok (.irem, 1) := by decide +kernel
theorem dX5_savedState_8 : decode cX5_savedState 8 = .ok (.istore_n 2, 1) := by decide +kernel
theorem dX5_savedState_9 : decode cX5_savedState 9 = .ok (.iload_n 2, 1) := by decide +kernel
theorem dX5_savedState_10 : decode cX5_savedState 10 = .ok (.ifCond .lt 21, 3) := by decide +kernel
theorem dX5_savedState_13 : decode cX5_savedState 13 = .ok (.iload_n 2, 1) := by decide +kernel
theorem dX5_savedState_14 : decode cX5_savedState 14 = .ok (.aload_n 0, 1) := by decide +kernel
theorem dX5_savedState_15 : decode cX5_savedState 15 = .ok (.getfield 16, 3) := by decide +kernel
theorem dX5_savedState_18 : decode cX5_savedState 18 = .ok (.arraylength, 1) := by decide +kernel
theorem dX5_savedState_19 : decode cX5_savedState 19 = .ok (.if_icmp .ge 12, 3) := by decide +kernel
theorem dX5_savedState_22 : decode cX5_savedState 22 = .ok (.aload_n 0, 1) := by decide +kernel
theorem dX5_savedState_23 : decode cX5_savedState 23 = .ok (.getfield 16, 3) := by decide +kernel
theorem dX5_savedState_26 : decode cX5_savedState 26 = .ok (.iload_n 2, 1) := by decide +kernel
theorem dX5_savedState_27 : decode cX5_savedState 27 = .ok (.aaload, 1) := by decide +kernel
theorem dX5_savedState_28 : decode cX5_savedState 28 = .ok (.goto 4, 3) := by decide +kernel
theorem dX5_savedState_31 : decode cX5_savedState 31 = .ok (.aconst_null, 1) := by decide +kernel
theorem dX5_savedState_32 : decode cX5_savedState 32 = .ok (.areturn, 1) := by decide +kernel
theorem dX5_save_0 : decode cX5_save 0 = .ok (.aload_n 0, 1) := by decide +kernel
theorem dX5_save_1 : decode cX5_save 1 = .ok (.getfield 295, 3) := by decide +kernel
theorem dX5_save_4 : decode cX5_save 4 = .ok (.iconst 4, 1) := by decide +kernel
theorem dX5_save_5 : decode cX5_save 5 = .ok (.if_icmp .lt 25, 3) := by decide +kernel
theorem dX5_save_8 : decode cX5_save 8 = .ok (.aload_n 0, 1) := by decide +kernel
theorem dX5_save_9 : decode cX5_save 9 = .ok (.aload_n 0, 1) := by decide +kernel
theorem dX5_save_10 : decode cX5_save 10 = .ok (.getfield 352, 3) := by decide +kernel
theorem dX5_save_13 : decode cX5_save 13 = .ok (.iconst 1, 1) := by decide +kernel
theorem dX5_save_14 : decode cX5_save 14 = .ok (.iadd, 1) := by decide +kernel
theorem dX5_save_15 : decode cX5_save 15 = .ok (.iconst 4, 1) := by decide +kernel
theorem dX5_save_16 : decode cX5_save 16 = .ok (.irem, 1) := by decide +kernel
theorem dX5_save_17 : decode cX5_save 17 = .ok (.putfield 352, 3) := by decide +kernel
theorem dX5_save_20 : decode cX5_save 20 = .ok (.aload_n 0, 1) := by decide +kernel
theorem dX5_save_21 : decode cX5_save 21 = .ok (.dup, 1) := by decide +kernel
theorem dX5_save_22 : decode cX5_save 22 = .ok (.getfield 295, 3) := by decide +kernel
theorem dX5_save_25 : decode cX5_save 25 = .ok (.iconst 1, 1) := by decide +kernel
theorem dX5_save_26 : decode cX5_save 26 = .ok (.isub, 1) := by decide +kernel
theorem dX5_save_27 : decode cX5_save 27 = .ok (.putfield 295, 3) := by decide +kernel
theorem dX5_save_30 : decode cX5_save 30 = .ok (.aload_n 0, 1) := by decide +kernel
theorem dX5_save_31 : decode cX5_save 31 = .ok (.aload_n 0, 1) := by decide +kernel
theorem dX5_save_32 : decode cX5_save 32 = .ok (.getfield 295, 3) := by decide +kernel
theorem dX5_save_35 : decode cX5_save 35 = .ok (.invokevirtual 300, 3) := by decide +kernel
theorem dX5_save_38 : decode cX5_save 38 = .ok (.astore_n 1, 1) := by decide +kernel
theorem dX5_save_39 : decode cX5_save 39 = .ok (.aload_n 1, 1) := by decide +kernel
theorem dX5_save_40 : decode cX5_save 40 = .ok (.ifnull 21, 3) := by decide +kernel
theorem dX5_save_43 : decode cX5_save 43 = .ok (.aload_n 1, 1) := by decide +kernel
theorem dX5_save_44 : decode cX5_save 44 = .ok (.aload_n 0, 1) := by decide +kernel
theorem dX5_save_45 : decode cX5_save 45 = .ok (.getfield 12, 3) := by decide +kernel
theorem dX5_save_48 : decode cX5_save 48 = .ok (.invokevirtual 304, 3) := by decide +kernel
theorem dX5_save_51 : decode cX5_save 51 = .ok (.aload_n 0, 1) := by decide +kernel
theorem dX5_save_52 : decode cX5_save 52 = .ok (.dup, 1) := by decide +kernel
theorem dX5_save_53 : decode cX5_save 53 = .ok (.getfield 295, 3) := by decide +kernel
theorem dX5_save_56 : decode cX5_save 56 = .ok (.iconst 1, 1) := by decide +kernel
theorem dX5_save_57 : decode cX5_save 57 = .ok (.iadd, 1) := by decide +kernel
theorem dX5_save_58 : decode cX5_save 58 = .ok (.putfield 295, 3) := by decide +kernel
theorem dX5_save_61 : decode cX5_save 61 = .ok (.return_, 1) := by decide +kernel
theorem dX5_isIn_0 : decode cX5_isIn 0 = .ok (.iload_n 0, 1) := by decide +kernel
theorem dX5_isIn_1 : decode cX5_isIn 1 = .ok (.iload_n 1, 1) := by decide +kernel
theorem dX5_isIn_2 : decode cX5_isIn 2 = .ok (.ishr, 1) := by decide +kernel
theorem dX5_isIn_3 : decode cX5_isIn 3 = .ok (.iconst 1, 1) := by decide +kernel
theorem dX5_isIn_4 : decode cX5_isIn 4 = .ok (.iand, 1) := by decide +kernel
theorem dX5_isIn_5 : decode cX5_isIn 5 = .ok (.ifCond .eq 7, 3) := by decide +kernel
theorem dX5_isIn_8 : decode cX5_isIn 8 = .ok (.iconst 1, 1) := by decide +kernel
theorem dX5_isIn_9 : decode cX5_isIn 9 = .ok (.goto 4, 3) := by decide +kernel
theorem dX5_isIn_12 : decode cX5_isIn 12 = .ok (.iconst 0, 1) := by decide +kernel
theorem dX5_isIn_13 : decode cX5_isIn 13 = .ok (.ireturn, 1) := by decide +kernel
theorem dX5_copyInts_0 : decode cX5_copyInts 0 = .ok (.iconst 0, 1) := by decide +kernel
theorem dX5_copyInts_1 : decode cX5_copyInts 1 = .ok (.istore_n 2, 1) := by decide +kernel
theorem dX5_copyInts_2 : decode cX5_copyInts 2 = .ok (.iload_n 2, 1) := by decide +kernel
theorem dX5_copyInts_3 : decode cX5_copyInts 3 = .ok (.aload_n 0, 1) := by decide +kernel
theorem dX5_copyInts_4 : decode cX5_copyInts 4 = .ok (.arraylength, 1) := by decide +kernel
theorem dX5_copyInts_5 : decode cX5_copyInts 5 = .ok (.if_icmp .ge 21, 3) := by decide +kernel
theorem dX5_copyInts_8 : decode cX5_copyInts 8 = .ok (.iload_n 2, 1) := by decide +kernel
theorem dX5_copyInts_9 : decode cX5_copyInts 9 = .ok (.aload_n 1, 1) := by decide +kernel
theorem dX5_copyInts_10 : decode cX5_copyInts 10 = .ok (.arraylength, 1) := by decide +kernel
theorem dX5_copyInts_11 : decode cX5_copyInts 11 = .ok (.if_icmp .ge 15, 3) := by decide +kernel
theorem dX5_copyInts_14 : decode cX5_copyInts 14 = .ok (.aload_n 1, 1) := by decide +kernel
theorem dX5_copyInts_15 : decode cX5_copyInts 15 = .ok (.iload_n 2, 1) := by decide +kernel
theorem dX5_copyInts_16 : decode cX5_copyInts 16 = .ok (.aload_n 0, 1) := by decide +kernel
theorem dX5_copyInts_17 : decode cX5_copyInts 17 = .ok (.iload_n 2, 1) := by decide +kernel
theorem dX5_copyInts_18 : decode cX5_copyInts 18 = .ok (.iaload, 1) := by decide +kernel
theorem dX5_copyInts_19 : decode cX5_copyInts 19 = .ok (.iastore, 1) := by decide +kernel
theorem dX5_copyInts_20 : decode cX5_copyInts 20 = .ok (.iinc 2 1, 3) := by decide +kernel
theorem dX5_copyInts_23 : decode cX5_copyInts 23 = .ok (.goto (-21), 3) := by decide +kernel
theorem dX5_copyInts_26 : decode cX5_copyInts 26 = .ok (.return_, 1) := by decide +kernel
theorem dX5_copyLongs_0 : decode cX5_copyLongs 0 = .ok (.iconst 0, 1) := by decide +kernel
theorem dX5_copyLongs_1 : decode cX5_copyLongs 1 = .ok (.istore_n 2, 1) := by decide +kernel
theorem dX5_copyLongs_2 : decode cX5_copyLongs 2 = .ok (.iload_n 2, 1) := by decide +kernel
theorem dX5_copyLongs_3 : decode cX5_copyLongs 3 = .ok (.aload_n 0, 1) := by decide +kernel
theorem dX5_copyLongs_4 : decode cX5_copyLongs 4 = .ok (.arraylength, 1) := by decide +kernel
theorem dX5_copyLongs_5 : decode cX5_copyLongs 5 = .ok (.if_icmp .ge 21, 3) := by decide +kernel
theorem dX5_copyLongs_8 : decode cX5_copyLongs 8 = .ok (.iload_n 2, 1) := by decide +kernel
theorem dX5_copyLongs_9 : decode cX5_copyLongs 9 = .ok (.aload_n 1, 1) := by decide +kernel
theorem dX5_copyLongs_10 : decode cX5_copyLongs 10 = .ok (.arraylength, 1) := by decide +kernel
theorem dX5_copyLongs_11 : decode cX5_copyLongs 11 = .ok (.if_icmp .ge 15, 3) := by decide +kernel
theorem dX5_copyLongs_14 : decode cX5_copyLongs 14 = .ok (.aload_n 1, 1) := by decide +kernel
theorem dX5_copyLongs_15 : decode cX5_copyLongs 15 = .ok (.iload_n 2, 1) := by decide +kernel
theorem dX5_copyLongs_16 : decode cX5_copyLongs 16 = .ok (.aload_n 0, 1) := by decide +kernel
theorem dX5_copyLongs_17 : decode cX5_copyLongs 17 = .ok (.iload_n 2, 1) := by decide +kernel
theorem dX5_copyLongs_18 : decode cX5_copyLongs 18 = .ok (.laload, 1) := by decide +kernel
theorem dX5_copyLongs_19 : decode cX5_copyLongs 19 = .ok (.lastore, 1) := by decide +kernel
theorem dX5_copyLongs_20 : decode cX5_copyLongs 20 = .ok (.iinc 2 1, 3) := by decide +kernel
theorem dX5_copyLongs_23 : decode cX5_copyLongs 23 = .ok (.goto (-21), 3) := by decide +kernel
theorem dX5_copyLongs_26 : decode cX5_copyLongs 26 = .ok (.return_, 1) := by decide +kernel
theorem dJ6_bitCount_0f7a4_0 : decode cJ6_bitCount_0f7a4 0 = .ok (.iload_n 0, 1) := by decide +kernel
theorem dJ6_bitCount_0f7a4_1 : decode cJ6_bitCount_0f7a4 1 = .ok (.iload_n 0, 1) := by decide +kernel
theorem dJ6_bitCount_0f7a4_2 : decode cJ6_bitCount_0f7a4 2 = .ok (.iconst 1, 1) := by decide +kernel
theorem dJ6_bitCount_0f7a4_3 : decode cJ6_bitCount_0f7a4 3 = .ok (.iushr, 1) := by decide +kernel
theorem dJ6_bitCount_0f7a4_4 : decode cJ6_bitCount_0f7a4 4 = .ok (.ldc_w 265, 3) := by decide +kernel
theorem dJ6_bitCount_0f7a4_7 : decode cJ6_bitCount_0f7a4 7 = .ok (.iand, 1) := by decide +kernel
theorem dJ6_bitCount_0f7a4_8 : decode cJ6_bitCount_0f7a4 8 = .ok (.isub, 1) := by decide +kernel
theorem dJ6_bitCount_0f7a4_9 : decode cJ6_bitCount_0f7a4 9 = .ok (.istore_n 0, 1) := by decide +kernel
theorem dJ6_bitCount_0f7a4_10 : decode cJ6_bitCount_0f7a4 10 = .ok (.iload_n 0, 1) := by decide +kernel
theorem dJ6_bitCount_0f7a4_11 : decode cJ6_bitCount_0f7a4 11 = .ok (.ldc_w 266, 3) := by decide +kernel
theorem dJ6_bitCount_0f7a4_14 : decode cJ6_bitCount_0f7a4 14 = .ok (.iand, 1) := by decide +kernel
theorem dJ6_bitCount_0f7a4_15 : decode cJ6_bitCount_0f7a4 15 = .ok (.iload_n 0, 1) := by decide +kernel
theorem dJ6_bitCount_0f7a4_16 : decode cJ6_bitCount_0f7a4 16 = .ok (.iconst 2, 1) := by decide +kernel
theorem dJ6_bitCount_0f7a4_17 : decode cJ6_bitCount_0f7a4 17 = .ok (.iushr, 1) := by decide +kernel
theorem dJ6_bitCount_0f7a4_18 : decode cJ6_bitCount_0f7a4 18 = .ok (.ldc_w 266, 3) := by decide +kernel
theorem dJ6_bitCount_0f7a4_21 : decode cJ6_bitCount_0f7a4 21 = .ok (.iand, 1) := by decide +kernel
theorem dJ6_bitCount_0f7a4_22 : decode cJ6_bitCount_0f7a4 22 = .ok (.iadd, 1) := by decide +kernel
theorem dJ6_bitCount_0f7a4_23 : decode cJ6_bitCount_0f7a4 23 = .ok (.istore_n 0, 1) := by decide +kernel
theorem dJ6_bitCount_0f7a4_24 : decode cJ6_bitCount_0f7a4 24 = .ok (.iload_n 0, 1) := by decide +kernel
theorem dJ6_bitCount_0f7a4_25 : decode cJ6_bitCount_0f7a4 25 = .ok (.iload_n 0, 1) := by decide +kernel
theorem dJ6_bitCount_0f7a4_26 : decode cJ6_bitCount_0f7a4 26 = .ok (.iconst 4, 1) := by decide +kernel
theorem dJ6_bitCount_0f7a4_27 : decode cJ6_bitCount_0f7a4 27 = .ok (.iushr, 1) := by decide +kernel
theorem dJ6_bitCount_0f7a4_28 : decode cJ6_bitCount_0f7a4 28 = .ok (.iadd, 1) := by decide +kernel
theorem dJ6_bitCount_0f7a4_29 : decode cJ6_bitCount_0f7a4 29 = .ok (.ldc_w 267, 3) := by decide +kernel
theorem dJ6_bitCount_0f7a4_32 : decode cJ6_bitCount_0f7a4 32 = .ok (.iand, 1) := by decide +kernel
theorem dJ6_bitCount_0f7a4_33 : decode cJ6_bitCount_0f7a4 33 = .ok (.istore_n 0, 1) := by decide +kernel
theorem dJ6_bitCount_0f7a4_34 : decode cJ6_bitCount_0f7a4 34 = .ok (.iload_n 0, 1) := by decide +kernel
theorem dJ6_bitCount_0f7a4_35 : decode cJ6_bitCount_0f7a4 35 = .ok (.iload_n 0, 1) := by decide +kernel
theorem dJ6_bitCount_0f7a4_36 : decode cJ6_bitCount_0f7a4 36 = .ok (.bipush 8, 2) := by decide +kernel
theorem dJ6_bitCount_0f7a4_38 : decode cJ6_bitCount_0f7a4 38 = .ok (.iushr, 1) := by decide +kernel
theorem dJ6_bitCount_0f7a4_39 : decode cJ6_bitCount_0f7a4 39 = .ok (.iadd, 1) := by decide +kernel
theorem dJ6_bitCount_0f7a4_40 : decode cJ6_bitCount_0f7a4 40 = .ok (.istore_n 0, 1) := by decide +kernel
theorem dJ6_bitCount_0f7a4_41 : decode cJ6_bitCount_0f7a4 41 = .ok (.iload_n 0, 1) := by decide +kernel
theorem dJ6_bitCount_0f7a4_42 : decode cJ6_bitCount_0f7a4 42 = .ok (.iload_n 0, 1) := by decide +kernel
theorem dJ6_bitCount_0f7a4_43 : decode cJ6_bitCount_0f7a4 43 = .ok (.bipush 16, 2) := by decide +kernel
theorem dJ6_bitCount_0f7a4_45 : decode cJ6_bitCount_0f7a4 45 = .ok (.iushr, 1) := by decide +kernel
theorem dJ6_bitCount_0f7a4_46 : decode cJ6_bitCount_0f7a4 46 = .ok (.iadd, 1) := by decide +kernel
theorem dJ6_bitCount_0f7a4_47 : decode cJ6_bitCount_0f7a4 47 = .ok (.istore_n 0, 1) := by decide +kernel
theorem dJ6_bitCount_0f7a4_48 : decode cJ6_bitCount_0f7a4 48 = .ok (.iload_n 0, 1) := by decide +kernel
theorem dJ6_bitCount_0f7a4_49 : decode cJ6_bitCount_0f7a4 49 = .ok (.bipush 63, 2) := by decide +kernel
theorem dJ6_bitCount_0f7a4_51 : decode cJ6_bitCount_0f7a4 51 = .ok (.iand, 1) := by decide +kernel
theorem dJ6_bitCount_0f7a4_52 : decode cJ6_bitCount_0f7a4 52 = .ok (.ireturn, 1) := by decide +kernel
theorem dJ13_bitCount_95d88_0 : decode cJ13_bitCount_95d88 0 = .ok (.lload_n 0, 1) := by decide +kernel
theorem dJ13_bitCount_95d88_1 : decode cJ13_bitCount_95d88 1 = .ok (.lload_n 0, 1) := by decide +kernel
theorem dJ13_bitCount_95d88_2 : decode cJ13_bitCount_95d88 2 = .ok (.iconst 1, 1) := by decide +kernel
theorem dJ13_bitCount_95d88_3 : decode cJ13_bitCount_95d88 3 = .ok (.lushr, 1) := by decide +kernel
theorem dJ13_bitCount_95d88_4 : decode cJ13_bitCount_95d88 4 = .ok (.ldc2_w 314, 3) := by decide +kernel
theorem dJ13_bitCount_95d88_7 : decode cJ13_bitCount_95d88 7 = .ok (.land, 1) := by decide +kernel
theorem dJ13_bitCount_95d88_8 : decode cJ13_bitCount_95d88 8 = .ok (.lsub, 1) := by decide +kernel
theorem dJ13_bitCount_95d88_9 : decode cJ13_bitCount_95d88 9 = .ok (.lstore_n 0, 1) := by decide +kernel
theorem dJ13_bitCount_95d88_10 : decode cJ13_bitCount_95d88 10 = .ok (.lload_n 0, 1) := by decide +kernel
theorem dJ13_bitCount_95d88_11 : decode cJ13_bitCount_95d88 11 = .ok (.ldc2_w 316, 3) := by decide +kernel
theorem dJ13_bitCount_95d88_14 : decode cJ13_bitCount_95d88 14 = .ok (.land, 1) := by decide +kernel
theorem dJ13_bitCount_95d88_15 : decode cJ13_bitCount_95d88 15 = .ok (.lload_n 0, 1) := by decide +kernel
theorem dJ13_bitCount_95d88_16 : decode cJ13_bitCount_95d88 16 = .ok (.iconst 2, 1) := by decide +kernel
theorem dJ13_bitCount_95d88_17 : decode cJ13_bitCount_95d88 17 = .ok (.lushr, 1) := by decide +kernel
theorem dJ13_bitCount_95d88_18 : decode cJ13_bitCount_95d88 18 = .ok (.ldc2_w 316, 3) := by decide +kernel
theorem dJ13_bitCount_95d88_21 : decode cJ13_bitCount_95d88 21 = .ok (.land, 1) := by decide +kernel
theorem dJ13_bitCount_95d88_22 : decode cJ13_bitCount_95d88 22 = .ok (.ladd, 1) := by decide +kernel
theorem dJ13_bitCount_95d88_23 : decode cJ13_bitCount_95d88 23 = .ok (.lstore_n 0, 1) := by decide +kernel
theorem dJ13_bitCount_95d88_24 : decode cJ13_bitCount_95d88 24 = .ok (.lload_n 0, 1) := by decide +kernel
theorem dJ13_bitCount_95d88_25 : decode cJ13_bitCount_95d88 25 = .ok (.lload_n 0, 1) := by decide +kernel
theorem dJ13_bitCount_95d88_26 : decode cJ13_bitCount_95d88 26 = .ok (.iconst 4, 1) := by decide +kernel
theorem dJ13_bitCount_95d88_27 : decode cJ13_bitCount_95d88 27 = .ok (.lushr, 1) := by decide +kernel
theorem dJ13_bitCount_95d88_28 : decode cJ13_bitCount_95d88 28 = .ok (.ladd, 1) := by decide +kernel
theorem dJ13_bitCount_95d88_29 : decode cJ13_bitCount_95d88 29 = .ok (.ldc2_w 318, 3) := by decide +kernel
theorem dJ13_bitCount_95d88_32 : decode cJ13_bitCount_95d88 32 = .ok (.land, 1) := by decide +kernel
theorem dJ13_bitCount_95d88_33 : decode cJ13_bitCount_95d88 33 = .ok (.lstore_n 0, 1) := by decide +kernel
theorem dJ13_bitCount_95d88_34 : decode cJ13_bitCount_95d88 34 = .ok (.lload_n 0, 1) := by decide +kernel
theorem dJ13_bitCount_95d88_35 : decode cJ13_bitCount_95d88 35 = .ok (.lload_n 0, 1) := by decide +kernel
theorem dJ13_bitCount_95d88_36 : decode cJ13_bitCount_95d88 36 = .ok (.bipush 8, 2) := by decide +kernel
theorem dJ13_bitCount_95d88_38 : decode cJ13_bitCount_95d88 38 = .ok (.lushr, 1) := by decide +kernel
theorem dJ13_bitCount_95d88_39 : decode cJ13_bitCount_95d88 39 = .ok (.ladd, 1) := by decide +kernel
theorem dJ13_bitCount_95d88_40 : decode cJ13_bitCount_95d88 40 = .ok (.lstore_n 0, 1) := by decide +kernel
theorem dJ13_bitCount_95d88_41 : decode cJ13_bitCount_95d88 41 = .ok (.lload_n 0, 1) := by decide +kernel
theorem dJ13_bitCount_95d88_42 : decode cJ13_bitCount_95d88 42 = .ok (.lload_n 0, 1) := by decide +kernel
theorem dJ13_bitCount_95d88_43 : decode cJ13_bitCount_95d88 43 = .ok (.bipush 16, 2) := by decide +kernel
theorem dJ13_bitCount_95d88_45 : decode cJ13_bitCount_95d88 45 = .ok (.lushr, 1) := by decide +kernel
theorem dJ13_bitCount_95d88_46 : decode cJ13_bitCount_95d88 46 = .ok (.ladd, 1) := by decide +kernel
theorem dJ13_bitCount_95d88_47 : decode cJ13_bitCount_95d88 47 = .ok (.lstore_n 0, 1) := by decide +kernel
theorem dJ13_bitCount_95d88_48 : decode cJ13_bitCount_95d88 48 = .ok (.lload_n 0, 1) := by decide +kernel
theorem dJ13_bitCount_95d88_49 : decode cJ13_bitCount_95d88 49 = .ok (.lload_n 0, 1) := by decide +kernel
theorem dJ13_bitCount_95d88_50 : decode cJ13_bitCount_95d88 50 = .ok (.bipush 32, 2) := by decide +kernel
theorem dJ13_bitCount_95d88_52 : decode cJ13_bitCount_95d88 52 = .ok (.lushr, 1) := by decide +kernel
theorem dJ13_bitCount_95d88_53 : decode cJ13_bitCount_95d88 53 = .ok (.ladd, 1) := by decide +kernel
theorem dJ13_bitCount_95d88_54 : decode cJ13_bitCount_95d88 54 = .ok (.lstore_n 0, 1) := by decide +kernel
theorem dJ13_bitCount_95d88_55 : decode cJ13_bitCount_95d88 55 = .ok (.lload_n 0, 1) := by decide +kernel
theorem dJ13_bitCount_95d88_56 : decode cJ13_bitCount_95d88 56 = .ok (.l2i, 1) := by decide +kernel
theorem dJ13_bitCount_95d88_57 : decode cJ13_bitCount_95d88 57 = .ok (.bipush 127, 2) := by decide +kernel
theorem dJ13_bitCount_95d88_59 : decode cJ13_bitCount_95d88 59 = .ok (.iand, 1) := by decide +kernel
theorem dJ13_bitCount_95d88_60 : decode cJ13_bitCount_95d88 60 = .ok (.ireturn, 1) := by decide +kernel
theorem dJ9_max_7cf53_0 : decode cJ9_max_7cf53 0 = .ok (.iload_n 0, 1) := by decide +kernel
theorem dJ9_max_7cf53_1 : decode cJ9_max_7cf53 1 = .ok (.iload_n 1, 1) := by decide +kernel
theorem dJ9_max_7cf53_2 : decode cJ9_max_7cf53 2 = .ok (.if_icmp .lt 7, 3) := by decide +kernel
theorem dJ9_max_7cf53_5 : decode cJ9_max_7cf53 5 = .ok (.iload_n 0, 1) := by decide +kernel
theorem dJ9_max_7cf53_6 : decode cJ9_max_7cf53 6 = .ok (.goto 4, 3) := by decide +kernel
theorem dJ9_max_7cf53_9 : decode cJ9_max_7cf53 9 = .ok (.iload_n 1, 1) := by decide +kernel
theorem dJ9_max_7cf53_10 : decode cJ9_max_7cf53 10 = .ok (.ireturn, 1) := by decide +kernel
theorem dJ9_min_7cf53_0 : decode cJ9_min_7cf53 0 = .ok (.iload_n 0, 1) := by decide +kernel
theorem dJ9_min_7cf53_1 : decode cJ9_min_7cf53 1 = .ok (.iload_n 1, 1) := by decide +kernel
theorem dJ9_min_7cf53_2 : decode cJ9_min_7cf53 2 = .ok (.if_icmp .gt 7, 3) := by decide +kernel
theorem dJ9_min_7cf53_5 : decode cJ9_min_7cf53 5 = .ok (.iload_n 0, 1) := by decide +kernel
theorem dJ9_min_7cf53_6 : decode cJ9_min_7cf53 6 = .ok (.goto 4, 3) := by decide +kernel
theorem dJ9_min_7cf53_9 : decode cJ9_min_7cf53 9 = .ok (.iload_n 1, 1) := by decide +kernel
theorem dJ9_min_7cf53_10 : decode cJ9_min_7cf53 10 = .ok (.ireturn, 1) := by decide +kernel
theorem dL_low_0 : decode cL_low 0 = .ok (.iload_n 0, 1) := by decide +kernel
theorem dL_low_1 : decode cL_low 1 = .ok (.ldc 7, 2) := by decide +kernel
theorem dL_low_3 : decode cL_low 3 = .ok (.iand, 1) := by decide +kernel
theorem dL_low_4 : decode cL_low 4 = .ok (.iload_n 1, 1) := by decide +kernel
theorem dL_low_5 : decode cL_low 5 = .ok (.irem, 1) := by decide +kernel
theorem dL_low_6 : decode cL_low 6 = .ok (.ireturn, 1) := by decide +kernel
theorem dL_cell_0 : decode cL_cell 0 = .ok (.iload_n 1, 1) := by decide +kernel
theorem dL_cell_1 : decode cL_cell 1 = .ok (.aload_n 0, 1) := by decide +kernel
theorem dL_cell_2 : decode cL_cell 2 = .ok (.arraylength, 1) := by decide +kernel
theorem dL_cell_3 : decode cL_cell 3 = .ok (.if_icmp .ge 9, 3) := by decide +kernel
theorem dL_cell_6 : decode cL_cell 6 = .ok (.aload_n 0, 1) := by decide +kernel
theorem dL_cell_7 : decode cL_cell 7 = .ok (.iload_n 1, 1) := by decide +kernel
theorem dL_cell_8 : decode cL_cell 8 = .ok (.iaload, 1) := by decide +kernel
theorem dL_cell_9 : decode cL_cell 9 = .ok (.goto 11, 3) := by decide +kernel
theorem dL_cell_12 : decode cL_cell 12 = .ok (.ldc 8, 2) := by decide +kernel
theorem dL_cell_14 : decode cL_cell 14 = .ok (.iload_n 1, 1) := by decide +kernel
theorem dL_cell_15 : decode cL_cell 15 = .ok (.imul, 1) := by decide +kernel
theorem dL_cell_16 : decode cL_cell 16 = .ok (.sipush 977, 3) := by decide +kernel
theorem dL_cell_19 : decode cL_cell 19 = .ok (.iadd, 1) := by decide +kernel
theorem dL_cell_20 : decode cL_cell 20 = .ok (.ireturn, 1) := by decide +kernel
theorem dL_mark_0 : decode cL_mark 0 = .ok (.aload_n 0, 1) := by decide +kernel
theorem dL_mark_1 : decode cL_mark 1 = .ok (.iload_n 1, 1) := by decide +kernel
theorem dL_mark_2 : decode cL_mark 2 = .ok (.iload_n 2, 1) := by decide +kernel
theorem dL_mark_3 : decode cL_mark 3 = .ok (.iload_n 3, 1) := by decide +kernel
theorem dL_mark_4 : decode cL_mark 4 = .ok (.iload 4, 2) := by decide +kernel
theorem dL_mark_6 : decode cL_mark 6 = .ok (.iload 5, 2) := by decide +kernel
theorem dL_mark_8 : decode cL_mark 8 = .ok (.invokevirtual 9, 3) := by decide +kernel
theorem dL_mark_11 : decode cL_mark 11 = .ok (.ireturn, 1) := by decide +kernel
theorem dL_mark_12 : decode cL_mark 12 = .ok (.astore 6, 2) := by decide +kernel
theorem dL_mark_14 : decode cL_mark 14 = .ok (.bipush (-2), 2) := by decide +kernel
theorem dL_mark_16 : decode cL_mark 16 = .ok (.ireturn, 1) := by decide +kernel
theorem dL_punch_0 : decode cL_punch 0 = .ok (.aload_n 0, 1) := by decide +kernel
theorem dL_punch_1 : decode cL_punch 1 = .ok (.iload_n 1, 1) := by decide +kernel
theorem dL_punch_2 : decode cL_punch 2 = .ok (.iload_n 2, 1) := by decide +kernel
theorem dL_punch_3 : decode cL_punch 3 = .ok (.iload_n 3, 1) := by decide +kernel
theorem dL_punch_4 : decode cL_punch 4 = .ok (.iload 4, 2) := by decide +kernel
theorem dL_punch_6 : decode cL_punch 6 = .ok (.invokevirtual 17, 3) := by decide +kernel
theorem dL_punch_9 : decode cL_punch 9 = .ok (.ireturn, 1) := by decide +kernel
theorem dL_punch_10 : decode cL_punch 10 = .ok (.astore 5, 2) := by decide +kernel
theorem dL_punch_12 : decode cL_punch 12 = .ok (.bipush (-2), 2) := by decide +kernel
theorem dL_punch_14 : decode cL_punch 14 = .ok (.ireturn, 1) := by decide +kernel
theorem dL_punch_15 : decode cL_punch 15 = .ok (.astore 5, 2) := by decide +kernel
theorem dL_punch_17 : decode cL_punch 17 = .ok (.bipush (-3), 2) := by decide +kernel
theorem dL_punch_19 : decode cL_punch 19 = .ok (.ireturn, 1) := by decide +kernel
theorem dL_bend_0 : decode cL_bend 0 = .ok (.aload_n 0, 1) := by decide +kernel
theorem dL_bend_1 : decode cL_bend 1 = .ok (.iload_n 1, 1) := by decide +kernel
theorem dL_bend_2 : decode cL_bend 2 = .ok (.iload_n 2, 1) := by decide +kernel
theorem dL_bend_3 : decode cL_bend 3 = .ok (.iload_n 3, 1) := by decide +kernel
theorem dL_bend_4 : decode cL_bend 4 = .ok (.invokevirtual 23, 3) := by decide +kernel
theorem dL_bend_7 : decode cL_bend 7 = .ok (.ireturn, 1) := by decide +kernel
theorem dL_bend_8 : decode cL_bend 8 = .ok (.astore 4, 2) := by decide +kernel
theorem dL_bend_10 : decode cL_bend 10 = .ok (.bipush (-2), 2) := by decide +kernel
theorem dL_bend_12 : decode cL_bend 12 = .ok (.ireturn, 1) := by decide +kernel
theorem dL_bend_13 : decode cL_bend 13 = .ok (.astore 4, 2) := by decide +kernel
theorem dL_bend_15 : decode cL_bend 15 = .ok (.bipush (-3), 2) := by decide +kernel
theorem dL_bend_17 : decode cL_bend 17 = .ok (.ireturn, 1) := by decide +kernel
theorem dL_place_0 : decode cL_place 0 = .ok (.aload_n 0, 1) := by decide +kernel
theorem dL_place_1 : decode cL_place 1 = .ok (.iload_n 1, 1) := by decide +kernel
theorem dL_place_2 : decode cL_place 2 = .ok (.iload_n 2, 1) := by decide +kernel
theorem dL_place_3 : decode cL_place 3 = .ok (.invokevirtual 27, 3) := by decide +kernel
theorem dL_place_6 : decode cL_place 6 = .ok (.ireturn, 1) := by decide +kernel
theorem dL_place_7 : decode cL_place 7 = .ok (.astore_n 3, 1) := by decide +kernel
theorem dL_place_8 : decode cL_place 8 = .ok (.bipush (-4), 2) := by decide +kernel
theorem dL_place_10 : decode cL_place 10 = .ok (.ireturn, 1) := by decide +kernel
theorem dL_place_11 : decode cL_place 11 = .ok (.astore_n 3, 1) := by decide +kernel
theorem dL_place_12 : decode cL_place 12 = .ok (.bipush (-2), 2) := by decide +kernel
theorem dL_place_14 : decode cL_place 14 = .ok (.ireturn, 1) := by decide +kernel
theorem dL_usePlan_0 : decode cL_usePlan 0 = .ok (.aload_n 0, 1) := by decide +kernel
theorem dL_usePlan_1 : decode cL_usePlan 1 = .ok (.invokevirtual 33, 3) := by decide +kernel
theorem dL_usePlan_4 : decode cL_usePlan 4 = .ok (.ireturn, 1) := by decide +kernel
theorem dL_usePlan_5 : decode cL_usePlan 5 = .ok (.astore_n 1, 1) := by decide +kernel
theorem dL_usePlan_6 : decode cL_usePlan 6 = .ok (.bipush (-3), 2) := by decide +kernel
theorem dL_usePlan_8 : decode cL_usePlan 8 = .ok (.ireturn, 1) := by decide +kernel
theorem dL_undo_0 : decode cL_undo 0 = .ok (.aload_n 0, 1) := by decide +kernel
theorem dL_undo_1 : decode cL_undo 1 = .ok (.invokevirtual 37, 3) := by decide +kernel
theorem dL_undo_4 : decode cL_undo 4 = .ok (.ireturn, 1) := by decide +kernel
theorem dL_undo_5 : decode cL_undo 5 = .ok (.astore_n 1, 1) := by decide +kernel
theorem dL_undo_6 : decode cL_undo 6 = .ok (.bipush (-3), 2) := by decide +kernel
theorem dL_undo_8 : decode cL_undo 8 = .ok (.ireturn, 1) := by decide +kernel
theorem dL_ones_0 : decode cL_ones 0 = .ok (.iconst 0, 1) := by decide +kernel
theorem dL_ones_1 : decode cL_ones 1 = .ok (.istore_n 2, 1) := by decide +kernel
theorem dL_ones_2 : decode cL_ones 2 = .ok (.lload_n 0, 1) := by decide +kernel
theorem dL_ones_3 : decode cL_ones 3 = .ok (.lstore_n 3, 1) := by decide +kernel
theorem dL_ones_4 : decode cL_ones 4 = .ok (.lload_n 3, 1) := by decide +kernel
theorem dL_ones_5 : decode cL_ones 5 = .ok (.lconst 0, 1) := by decide +kernel
theorem dL_ones_6 : decode cL_ones 6 = .ok (.lcmp, 1) := by decide +kernel
theorem dL_ones_7 : decode cL_ones 7 = .ok (.ifCond .eq 15, 3) := by decide +kernel
theorem dL_ones_10 : decode cL_ones 10 = .ok (.iinc 2 1, 3) := by decide +kernel
theorem dL_ones_13 : decode cL_ones 13 = .ok (.lload_n 3, 1) := by decide +kernel
theorem dL_ones_14 : decode cL_ones 14 = .ok (.lload_n 3, 1) := by decide +kernel
theorem dL_ones_15 : decode cL_ones 15 = .ok (.lconst 1, 1) := by decide +kernel
theorem dL_ones_16 : decode cL_ones 16 = .ok (.lsub, 1) := by decide +kernel
theorem dL_ones_17 : decode cL_ones 17 = .ok (.land, 1) := by decide +kernel
theorem dL_ones_18 : decode cL_ones 18 = .ok (.lstore_n 3, 1) := by decide +kernel
theorem dL_ones_19 : decode cL_ones 19 = .ok (.goto (-15), 3) := by decide +kernel
theorem dL_ones_22 : decode cL_ones 22 = .ok (.iload_n 2, 1) := by decide +kernel
theorem dL_ones_23 : decode cL_ones 23 = .ok (.ireturn, 1) := by decide +kernel
theorem dL_bends_0 : decode cL_bends 0 = .ok (.lconst 0, 1) := by decide +kernel
theorem dL_bends_1 : decode cL_bends 1 = .ok (.lstore_n 1, 1) := by decide +kernel
theorem dL_bends_2 : decode cL_bends 2 = .ok (.iconst 0, 1) := by decide +kernel
theorem dL_bends_3 : decode cL_bends 3 = .ok (.istore_n 3, 1) := by decide +kernel
theorem dL_bends_4 : decode cL_bends 4 = .ok (.iload_n 3, 1) := by decide +kernel
theorem dL_bends_5 : decode cL_bends 5 = .ok (.aload_n 0, 1) := by decide +kernel
theorem dL_bends_6 : decode cL_bends 6 = .ok (.bipush 8, 2) := by decide +kernel
theorem dL_bends_8 : decode cL_bends 8 = .ok (.invokevirtual 40, 3) := by decide +kernel
theorem dL_bends_11 : decode cL_bends 11 = .ok (.if_icmp .ge 66, 3) := by decide +kernel
theorem dL_bends_14 : decode cL_bends 14 = .ok (.iconst 0, 1) := by decide +kernel
theorem dL_bends_15 : decode cL_bends 15 = .ok (.istore 4, 2) := by decide +kernel
theorem dL_bends_17 : decode cL_bends 17 = .ok (.iload 4, 2) := by decide +kernel
theorem dL_bends_19 : decode cL_bends 19 = .ok (.aload_n 0, 1) := by decide +kernel
theorem dL_bends_20 : decode cL_bends 20 = .ok (.iload_n 3, 1) := by decide +kernel
theorem dL_bends_21 : decode cL_bends 21 = .ok (.iconst 3, 1) := by decide +kernel
theorem dL_bends_22 : decode cL_bends 22 = .ok (.invokevirtual 44, 3) := by decide +kernel
theorem dL_bends_25 : decode cL_bends 25 = .ok (.if_icmp .ge 46, 3) := by decide +kernel
theorem dL_bends_28 : decode cL_bends 28 = .ok (.aload_n 0, 1) := by decide +kernel
theorem dL_bends_29 : decode cL_bends 29 = .ok (.iload_n 3, 1) := by decide +kernel
theorem dL_bends_30 : decode cL_bends 30 = .ok (.iconst 0, 1) := by decide +kernel
theorem dL_bends_31 : decode cL_bends 31 = .ok (.invokevirtual 44, 3) := by decide +kernel
theorem dL_bends_34 : decode cL_bends 34 = .ok (.iconst 1, 1) := by decide +kernel
theorem dL_bends_35 : decode cL_bends 35 = .ok (.if_icmp .ne 36, 3) := by decide +kernel
theorem dL_bends_38 : decode cL_bends 38 = .ok (.lload_n 1, 1) := by decide +kernel
theorem dL_bends_39 : decode cL_bends 39 = .ok (.lconst 1, 1) := by decide +kernel
theorem dL_bends_40 : decode cL_bends 40 = .ok (.aload_n 0, 1) := by decide +kernel
theorem dL_bends_41 : decode cL_bends 41 = .ok (.iload_n 3, 1) := by decide +kernel
theorem dL_bends_42 : decode cL_bends 42 = .ok (.iconst 2, 1) := by decide +kernel
theorem dL_bends_43 : decode cL_bends 43 = .ok (.invokevirtual 44, 3) := by decide +kernel
theorem dL_bends_46 : decode cL_bends 46 = .ok (.aload_n 0, 1) := by decide +kernel
theorem dL_bends_47 : decode cL_bends 47 = .ok (.iconst 0, 1) := by decide +kernel
theorem dL_bends_48 : decode cL_bends 48 = .ok (.invokevirtual 40, 3) := by decide +kernel
theorem dL_bends_51 : decode cL_bends 51 = .ok (.imul, 1) := by decide +kernel
theorem dL_bends_52 : decode cL_bends 52 = .ok (.aload_n 0, 1) := by decide +kernel
theorem dL_bends_53 : decode cL_bends 53 = .ok (.iload_n 3, 1) := by decide +kernel
theorem dL_bends_54 : decode cL_bends 54 = .ok (.iconst 1, 1) := by decide +kernel
theorem dL_bends_55 : decode cL_bends 55 = .ok (.invokevirtual 44, 3) := by decide +kernel
theorem dL_bends_58 : decode cL_bends 58 = .ok (.iadd, 1) := by decide +kernel
theorem dL_bends_59 : decode cL_bends 59 = .ok (.iload 4, 2) := by decide +kernel
theorem dL_bends_61 : decode cL_bends 61 = .ok (.iadd, 1) := by decide +kernel
theorem dL_bends_62 : decode cL_bends 62 = .ok (.lshl, 1) := by decide +kernel
theorem dL_bends_63 : decode cL_bends 63 = .ok (.lor, 1) := by decide +kernel
theorem dL_bends_64 : decode cL_bends 64 = .ok (.lstore_n 1, 1) := by decide +kernel
theorem dL_bends_65 : decode cL_bends 65 = .ok (.iinc 4 1, 3) := by decide +kernel
theorem dL_bends_68 : decode cL_bends 68 = .ok (.goto (-51), 3) := by decide +kernel
theorem dL_bends_71 : decode cL_bends 71 = .ok (.iinc 3 1, 3) := by decide +kernel
theorem dL_bends_74 : decode cL_bends 74 = .ok (.goto (-70), 3) := by decide +kernel
theorem dL_bends_77 : decode cL_bends 77 = .ok (.lload_n 1, 1) := by decide +kernel
theorem dL_bends_78 : decode cL_bends 78 = .ok (.lreturn, 1) := by decide +kernel
theorem dL_die_0 : decode cL_die 0 = .ok (.aload_n 0, 1) := by decide +kernel
theorem dL_die_1 : decode cL_die 1 = .ok (.iconst 0, 1) := by decide +kernel
theorem dL_die_2 : decode cL_die 2 = .ok (.invokevirtual 47, 3) := by decide +kernel
theorem dL_die_5 : decode cL_die 5 = .ok (.lstore_n 1, 1) := by decide +kernel
theorem dL_die_6 : decode cL_die 6 = .ok (.aload_n 0, 1) := by decide +kernel
theorem dL_die_7 : decode cL_die 7 = .ok (.iconst 1, 1) := by decide +kernel
theorem dL_die_8 : decode cL_die 8 = .ok (.invokevirtual 47, 3) := by decide +kernel
theorem dL_die_11 : decode cL_die 11 = .ok (.lstore_n 3, 1) := by decide +kernel
theorem dL_die_12 : decode cL_die 12 = .ok (.aload_n 0, 1) := by decide +kernel
theorem dL_die_13 : decode cL_die 13 = .ok (.iconst 2, 1) := by decide +kernel
theorem dL_die_14 : decode cL_die 14 = .ok (.invokevirtual 47, 3) := by decide +kernel
theorem dL_die_17 : decode cL_die 17 = .ok (.lstore 5, 2) := by decide +kernel
theorem dL_die_19 : decode cL_die 19 = .ok (.aload_n 0, 1) := by decide +kernel
theorem dL_die_20 : decode cL_die 20 = .ok (.iconst 0, 1) := by decide +kernel
theorem dL_die_21 : decode cL_die 21 = .ok (.invokevirtual 40, 3) := by decide +kernel
theorem dL_die_24 : decode cL_die 24 = .ok (.aload_n 0, 1) := by decide +kernel
theorem dL_die_25 : decode cL_die 25 = .ok (.iconst 1, 1) := by decide +kernel
theorem dL_die_26 : decode cL_die 26 = .ok (.invokevirtual 40, 3) := by decide +kernel
theorem dL_die_29 : decode cL_die 29 = .ok (.imul, 1) := by decide +kernel
theorem dL_die_30 : decode cL_die 30 = .ok (.istore 7, 2) := by decide +kernel
theorem dL_die_32 : decode cL_die 32 = .ok (.lload_n 1, 1) := by decide +kernel
theorem dL_die_33 : decode cL_die 33 = .ok (.lload_n 3, 1) := by decide +kernel
theorem dL_die_34 : decode cL_die 34 = .ok (.land, 1) := by decide +kernel
theorem dL_die_35 : decode cL_die 35 = .ok (.lconst 0, 1) := by decide +kernel
theorem dL_die_36 : decode cL_die 36 = .ok (.lcmp, 1) := by decide +kernel
theorem dL_die_37 : decode cL_die 37 = .ok (.ifCond .ne 25, 3) := by decide +kernel
theorem dL_die_40 : decode cL_die 40 = .ok (.lload_n 1, 1) := by decide +kernel
theorem dL_die_41 : decode cL_die 41 = .ok (.lload 5, 2) := by decide +kernel
theorem dL_die_43 : decode cL_die 43 = .ok (.land, 1) := by decide +kernel
theorem dL_die_44 : decode cL_die 44 = .ok (.lconst 0, 1) := by decide +kernel
theorem dL_die_45 : decode cL_die 45 = .ok (.lcmp, 1) := by decide +kernel
theorem dL_die_46 : decode cL_die 46 = .ok (.ifCond .ne 16, 3) := by decide +kernel
theorem dL_die_49 : decode cL_die 49 = .ok (.lload_n 3, 1) := by decide +kernel
theorem dL_die_50 : decode cL_die 50 = .ok (.lload 5, 2) := by decide +kernel
theorem dL_die_52 : decode cL_die 52 = .ok (.land, 1) := by decide +kernel
theorem dL_die_53 : decode cL_die 53 = .ok (.lconst 0, 1) := by decide +kernel
theorem dL_die_54 : decode cL_die 54 = .ok (.lcmp, 1) := by decide +kernel
theorem dL_die_55 : decode cL_die 55 = .ok (.ifCond .ne 7, 3) := by decide +kernel
theorem dL_die_58 : decode cL_die 58 = .ok (.iconst 1, 1) := by decide +kernel
theorem dL_die_59 : decode cL_die 59 = .ok (.goto 4, 3) := by decide +kernel
theorem dL_die_62 : decode cL_die 62 = .ok (.iconst 0, 1) := by decide +kernel
theorem dL_die_63 : decode cL_die 63 = .ok (.istore 8, 2) := by decide +kernel
theorem dL_die_65 : decode cL_die 65 = .ok (.iload 8, 2) := by decide +kernel
theorem dL_die_67 : decode cL_die 67 = .ok (.ifCond .eq 63, 3) := by decide +kernel
theorem dL_die_70 : decode cL_die 70 = .ok (.lload 5, 2) := by decide +kernel
theorem dL_die_72 : decode cL_die 72 = .ok (.invokestatic 51, 3) := by decide +kernel
theorem dL_die_75 : decode cL_die 75 = .ok (.aload_n 0, 1) := by decide +kernel
theorem dL_die_76 : decode cL_die 76 = .ok (.iconst 2, 1) := by decide +kernel
theorem dL_die_77 : decode cL_die 77 = .ok (.invokevirtual 40, 3) := by decide +kernel
theorem dL_die_80 : decode cL_die 80 = .ok (.iconst 2, 1) := by decide +kernel
theorem dL_die_81 : decode cL_die 81 = .ok (.if_icmp .ne 7, 3) := by decide +kernel
theorem dL_die_84 : decode cL_die 84 = .ok (.iconst 2, 1) := by decide +kernel
theorem dL_die_85 : decode cL_die 85 = .ok (.goto 4, 3) := by decide +kernel
theorem dL_die_88 : decode cL_die 88 = .ok (.iconst 1, 1) := by decide +kernel
theorem dL_die_89 : decode cL_die 89 = .ok (.aload_n 0, 1) := by decide +kernel
theorem dL_die_90 : decode cL_die 90 = .ok (.iconst 0, 1) := by decide +kernel
theorem dL_die_91 : decode cL_die 91 = .ok (.invokevirtual 40, 3) := by decide +kernel
theorem dL_die_94 : decode cL_die 94 = .ok (.imul, 1) := by decide +kernel
theorem dL_die_95 : decode cL_die 95 = .ok (.if_icmp .ne 35, 3) := by decide +kernel
theorem dL_die_98 : decode cL_die 98 = .ok (.lload_n 1, 1) := by decide +kernel
theorem dL_die_99 : decode cL_die 99 = .ok (.lload_n 3, 1) := by decide +kernel
theorem dL_die_100 : decode cL_die 100 = .ok (.lor, 1) := by decide +kernel
theorem dL_die_101 : decode cL_die 101 = .ok (.lload 5, 2) := by decide +kernel
theorem dL_die_103 : decode cL_die 103 = .ok (.lor, 1) := by decide +kernel
theorem dL_die_104 : decode cL_die 104 = .ok (.aload_n 0, 1) := by decide +kernel
theorem dL_die_105 : decode cL_die 105 = .ok (.iconst 3, 1) := by decide +kernel
theorem dL_die_106 : decode cL_die 106 = .ok (.invokevirtual 47, 3) := by decide +kernel
theorem dL_die_109 : decode cL_die 109 = .ok (.lor, 1) := by decide +kernel
theorem dL_die_110 : decode cL_die 110 = .ok (.aload_n 0, 1) := by decide +kernel
theorem dL_die_111 : decode cL_die 111 = .ok (.iconst 4, 1) := by decide +kernel
theorem dL_die_112 : decode cL_die 112 = .ok (.invokevirtual 47, 3) := by decide +kernel
theorem dL_die_115 : decode cL_die 115 = .ok (.lor, 1) := by decide +kernel
theorem dL_die_116 : decode cL_die 116 = .ok (.lconst 1, 1) := by decide +kernel
theorem dL_die_117 : decode cL_die 117 = .ok (.iload 7, 2) := by decide +kernel
theorem dL_die_119 : decode cL_die 119 = .ok (.lshl, 1) := by decide +kernel
theorem dL_die_120 : decode cL_die 120 = .ok (.lconst 1, 1) := by decide +kernel
theorem dL_die_121 : decode cL_die 121 = .ok (.lsub, 1) := by decide +kernel
theorem dL_die_122 : decode cL_die 122 = .ok (.lcmp, 1) := by decide +kernel
theorem dL_die_123 : decode cL_die 123 = .ok (.ifCond .ne 7, 3) := by decide +kernel
theorem dL_die_126 : decode cL_die 126 = .ok (.iconst 1, 1) := by decide +kernel
theorem dL_die_127 : decode cL_die 127 = .ok (.goto 4, 3) := by decide +kernel
theorem dL_die_130 : decode cL_die 130 = .ok (.iconst 0, 1) := by decide +kernel
theorem dL_die_131 : decode cL_die 131 = .ok (.istore 8, 2) := by decide +kernel
theorem dL_die_133 : decode cL_die 133 = .ok (.aload_n 0, 1) := by decide +kernel
theorem dL_die_134 : decode cL_die 134 = .ok (.iconst 4, 1) := by decide +kernel
theorem dL_die_135 : decode cL_die 135 = .ok (.invokevirtual 47, 3) := by decide +kernel
theorem dL_die_138 : decode cL_die 138 = .ok (.lconst 0, 1) := by decide +kernel
theorem dL_die_139 : decode cL_die 139 = .ok (.lcmp, 1) := by decide +kernel
theorem dL_die_140 : decode cL_die 140 = .ok (.ifCond .eq 7, 3) := by decide +kernel
theorem dL_die_143 : decode cL_die 143 = .ok (.iconst 5, 1) := by decide +kernel
theorem dL_die_144 : decode cL_die 144 = .ok (.goto 19, 3) := by decide +kernel
theorem dL_die_147 : decode cL_die 147 = .ok (.aload_n 0, 1) := by decide +kernel
theorem dL_die_148 : decode cL_die 148 = .ok (.iconst 5, 1) := by decide +kernel
theorem dL_die_149 : decode cL_die 149 = .ok (.invokevirtual 47, 3) := by decide +kernel
theorem dL_die_152 : decode cL_die 152 = .ok (.lconst 0, 1) := by decide +kernel
theorem dL_die_153 : decode cL_die 153 = .ok (.lcmp, 1) := by decide +kernel
theorem dL_die_154 : decode cL_die 154 = .ok (.ifCond .eq 8, 3) := by decide +kernel
theorem dL_die_157 : decode cL_die 157 = .ok (.bipush 6, 2) := by decide +kernel
theorem dL_die_159 : decode cL_die 159 = .ok (.goto 4, 3) := by decide +kernel
theorem dL_die_162 : decode cL_die 162 = .ok (.iconst 0, 1) := by decide +kernel
theorem dL_die_163 : decode cL_die 163 = .ok (.istore 9, 2) := by decide +kernel
theorem dL_die_165 : decode cL_die 165 = .ok (.aload_n 0, 1) := by decide +kernel
theorem dL_die_166 : decode cL_die 166 = .ok (.invokestatic 57, 3) := by decide +kernel
theorem dL_die_169 : decode cL_die 169 = .ok (.lload_n 1, 1) := by decide +kernel
theorem dL_die_170 : decode cL_die 170 = .ok (.ldc2_w 61, 3) := by decide +kernel
theorem dL_die_173 : decode cL_die 173 = .ok (.lxor, 1) := by decide +kernel
theorem dL_die_174 : decode cL_die 174 = .ok (.land, 1) := by decide +kernel
theorem dL_die_175 : decode cL_die 175 = .ok (.lconst 0, 1) := by decide +kernel
theorem dL_die_176 : decode cL_die 176 = .ok (.lcmp, 1) := by decide +kernel
theorem dL_die_177 : decode cL_die 177 = .ok (.ifCond .eq 7, 3) := by decide +kernel
theorem dL_die_180 : decode cL_die 180 = .ok (.iconst 4, 1) := by decide +kernel
theorem dL_die_181 : decode cL_die 181 = .ok (.goto 5, 3) := by decide +kernel
theorem dL_die_184 : decode cL_die 184 = .ok (.iload 9, 2) := by decide +kernel
theorem dL_die_186 : decode cL_die 186 = .ok (.istore 9, 2) := by decide +kernel
theorem dL_die_188 : decode cL_die 188 = .ok (.aload_n 0, 1) := by decide +kernel
theorem dL_die_189 : decode cL_die 189 = .ok (.iconst 3, 1) := by decide +kernel
theorem dL_die_190 : decode cL_die 190 = .ok (.invokevirtual 47, 3) := by decide +kernel
theorem dL_die_193 : decode cL_die 193 = .ok (.lload 5, 2) := by decide +kernel
theorem dL_die_195 : decode cL_die 195 = .ok (.land, 1) := by decide +kernel
theorem dL_die_196 : decode cL_die 196 = .ok (.lconst 0, 1) := by decide +kernel
theorem dL_die_197 : decode cL_die 197 = .ok (.lcmp, 1) := by decide +kernel
theorem dL_die_198 : decode cL_die 198 = .ok (.ifCond .eq 7, 3) := by decide +kernel
theorem dL_die_201 : decode cL_die 201 = .ok (.iconst 3, 1) := by decide +kernel
theorem dL_die_202 : decode cL_die 202 = .ok (.goto 5, 3) := by decide +kernel
theorem dL_die_205 : decode cL_die 205 = .ok (.iload 9, 2) := by decide +kernel
theorem dL_die_207 : decode cL_die 207 = .ok (.istore 9, 2) := by decide +kernel
theorem dL_die_209 : decode cL_die 209 = .ok (.aload_n 0, 1) := by decide +kernel
theorem dL_die_210 : decode cL_die 210 = .ok (.iconst 3, 1) := by decide +kernel
theorem dL_die_211 : decode cL_die 211 = .ok (.invokevirtual 47, 3) := by decide +kernel
theorem dL_die_214 : decode cL_die 214 = .ok (.lload_n 1, 1) := by decide +kernel
theorem dL_die_215 : decode cL_die 215 = .ok (.lload_n 3, 1) := by decide +kernel
theorem dL_die_216 : decode cL_die 216 = .ok (.lor, 1) := by decide +kernel
theorem dL_die_217 : decode cL_die 217 = .ok (.land, 1) := by decide +kernel
theorem dL_die_218 : decode cL_die 218 = .ok (.lconst 0, 1) := by decide +kernel
theorem dL_die_219 : decode cL_die 219 = .ok (.lcmp, 1) := by decide +kernel
theorem dL_die_220 : decode cL_die 220 = .ok (.ifCond .eq 7, 3) := by decide +kernel
theorem dL_die_223 : decode cL_die 223 = .ok (.iconst 2, 1) := by decide +kernel
theorem dL_die_224 : decode cL_die 224 = .ok (.goto 5, 3) := by decide +kernel
theorem dL_die_227 : decode cL_die 227 = .ok (.iload 9, 2) := by decide +kernel
theorem dL_die_229 : decode cL_die 229 = .ok (.istore 9, 2) := by decide +kernel
theorem dL_die_231 : decode cL_die 231 = .ok (.lload_n 1, 1) := by decide +kernel
theorem dL_die_232 : decode cL_die 232 = .ok (.lconst 0, 1) := by decide +kernel
theorem dL_die_233 : decode cL_die 233 = .ok (.lcmp, 1) := by decide +kernel
theorem dL_die_234 : decode cL_die 234 = .ok (.ifCond .ne 7, 3) := by decide +kernel
theorem dL_die_237 : decode cL_die 237 = .ok (.iconst 1, 1) := by decide +kernel
theorem dL_die_238 : decode cL_die 238 = .ok (.goto 5, 3) := by decide +kernel
theorem dL_die_241 : decode cL_die 241 = .ok (.iload 9, 2) := by decide +kernel
theorem dL_die_243 : decode cL_die 243 = .ok (.istore 9, 2) := by decide +kernel
theorem dL_die_245 : decode cL_die 245 = .ok (.iload 8, 2) := by decide +kernel
theorem dL_die_247 : decode cL_die 247 = .ok (.ifCond .eq 32, 3) := by decide +kernel
theorem dL_die_250 : decode cL_die 250 = .ok (.aload_n 0, 1) := by decide +kernel
theorem dL_die_251 : decode cL_die 251 = .ok (.invokevirtual 63, 3) := by decide +kernel
theorem dL_die_254 : decode cL_die 254 = .ok (.iload 9, 2) := by decide +kernel
theorem dL_die_256 : decode cL_die 256 = .ok (.if_icmp .ne 23, 3) := by decide +kernel
theorem dL_die_259 : decode cL_die 259 = .ok (.aload_n 0, 1) := by decide +kernel
theorem dL_die_260 : decode cL_die 260 = .ok (.iconst 5, 1) := by decide +kernel
theorem dL_die_261 : decode cL_die 261 = .ok (.invokevirtual 47, 3) := by decide +kernel
theorem dL_die_264 : decode cL_die 264 = .ok (.lload_n 1, 1) := by decide +kernel
theorem dL_die_265 : decode cL_die 265 = .ok (.ldc2_w 61, 3) := by decide +kernel
theorem dL_die_268 : decode cL_die 268 = .ok (.lxor, 1) := by decide +kernel
theorem dL_die_269 : decode cL_die 269 = .ok (.land, 1) := by decide +kernel
theorem dL_die_270 : decode cL_die 270 = .ok (.lconst 0, 1) := by decide +kernel
theorem dL_die_271 : decode cL_die 271 = .ok (.lcmp, 1) := by decide +kernel
theorem dL_die_272 : decode cL_die 272 = .ok (.ifCond .ne 7, 3) := by decide +kernel
theorem dL_die_275 : decode cL_die 275 = .ok (.iconst 1, 1) := by decide +kernel
theorem dL_die_276 : decode cL_die 276 = .ok (.goto 4, 3) := by decide +kernel
theorem dL_die_279 : decode cL_die 279 = .ok (.iconst 0, 1) := by decide +kernel
theorem dL_die_280 : decode cL_die 280 = .ok (.istore 8, 2) := by decide +kernel
theorem dL_die_282 : decode cL_die 282 = .ok (.iload 8, 2) := by decide +kernel
theorem dL_die_284 : decode cL_die 284 = .ok (.ifCond .eq 50, 3) := by decide +kernel
theorem dL_die_287 : decode cL_die 287 = .ok (.aload_n 0, 1) := by decide +kernel
theorem dL_die_288 : decode cL_die 288 = .ok (.iconst 0, 1) := by decide +kernel
theorem dL_die_289 : decode cL_die 289 = .ok (.invokevirtual 66, 3) := by decide +kernel
theorem dL_die_292 : decode cL_die 292 = .ok (.sipush 1000, 3) := by decide +kernel
theorem dL_die_295 : decode cL_die 295 = .ok (.iload 7, 2) := by decide +kernel
theorem dL_die_297 : decode cL_die 297 = .ok (.lload_n 1, 1) := by decide +kernel
theorem dL_die_298 : decode cL_die 298 = .ok (.invokestatic 51, 3) := by decide +kernel
theorem dL_die_301 : decode cL_die 301 = .ok (.isub, 1) := by decide +kernel
theorem dL_die_302 : decode cL_die 302 = .ok (.imul, 1) := by decide +kernel
theorem dL_die_303 : decode cL_die 303 = .ok (.iload 7, 2) := by decide +kernel
theorem dL_die_305 : decode cL_die 305 = .ok (.idiv, 1) := by decide +kernel
theorem dL_die_306 : decode cL_die 306 = .ok (.if_icmp .ne 28, 3) := by decide +kernel
theorem dL_die_309 : decode cL_die 309 = .ok (.aload_n 0, 1) := by decide +kernel
theorem dL_die_310 : decode cL_die 310 = .ok (.invokevirtual 70, 3) := by decide +kernel
theorem dL_die_313 : decode cL_die 313 = .ok (.iconst 1, 1) := by decide +kernel
theorem dL_die_314 : decode cL_die 314 = .ok (.if_icmp .eq 16, 3) := by decide +kernel
theorem dL_die_317 : decode cL_die 317 = .ok (.aload_n 0, 1) := by decide +kernel
theorem dL_die_318 : decode cL_die 318 = .ok (.iconst 1, 1) := by decide +kernel
theorem dL_die_319 : decode cL_die 319 = .ok (.invokevirtual 66, 3) := by decide +kernel
theorem dL_die_322 : decode cL_die 322 = .ok (.aload_n 0, 1) := by decide +kernel
theorem dL_die_323 : decode cL_die 323 = .ok (.iconst 0, 1) := by decide +kernel
theorem dL_die_324 : decode cL_die 324 = .ok (.invokevirtual 66, 3) := by decide +kernel
theorem dL_die_327 : decode cL_die 327 = .ok (.if_icmp .ne 7, 3) := by decide +kernel
theorem dL_die_330 : decode cL_die 330 = .ok (.iconst 1, 1) := by decide +kernel
theorem dL_die_331 : decode cL_die 331 = .ok (.goto 4, 3) := by decide +kernel
theorem dL_die_334 : decode cL_die 334 = .ok (.iconst 0, 1) := by decide +kernel
theorem dL_die_335 : decode cL_die 335 = .ok (.ireturn, 1) := by decide +kernel
theorem dL_plan_0 : decode cL_plan 0 = .ok (.aload_n 0, 1) := by decide +kernel
theorem dL_plan_1 : decode cL_plan 1 = .ok (.bipush 8, 2) := by decide +kernel
theorem dL_plan_3 : decode cL_plan 3 = .ok (.invokevirtual 40, 3) := by decide +kernel
theorem dL_plan_6 : decode cL_plan 6 = .ok (.istore_n 1, 1) := by decide +kernel
theorem dL_plan_7 : decode cL_plan 7 = .ok (.iconst (-1), 1) := by decide +kernel
theorem dL_plan_8 : decode cL_plan 8 = .ok (.istore_n 2, 1) := by decide +kernel
theorem dL_plan_9 : decode cL_plan 9 = .ok (.iconst 0, 1) := by decide +kernel
theorem dL_plan_10 : decode cL_plan 10 = .ok (.istore_n 3, 1) := by decide +kernel
theorem dL_plan_11 : decode cL_plan 11 = .ok (.iconst 0, 1) := by decide +kernel
theorem dL_plan_12 : decode cL_plan 12 = .ok (.istore 4, 2) := by decide +kernel
theorem dL_plan_14 : decode cL_plan 14 = .ok (.iconst 0, 1) := by decide +kernel
theorem dL_plan_15 : decode cL_plan 15 = .ok (.istore 5, 2) := by decide +kernel
theorem dL_plan_17 : decode cL_plan 17 = .ok (.iconst 0, 1) := by decide +kernel
theorem dL_plan_18 : decode cL_plan 18 = .ok (.istore 6, 2) := by decide +kernel
theorem dL_plan_20 : decode cL_plan 20 = .ok (.iload_n 1, 1) := by decide +kernel
theorem dL_plan_21 : decode cL_plan 21 = .ok (.bipush 6, 2) := by decide +kernel
theorem dL_plan_23 : decode cL_plan 23 = .ok (.if_icmp .gt 7, 3) := by decide +kernel
theorem dL_plan_26 : decode cL_plan 26 = .ok (.iconst 1, 1) := by decide +kernel
theorem dL_plan_27 : decode cL_plan 27 = .ok (.goto 4, 3) := by decide +kernel
theorem dL_plan_30 : decode cL_plan 30 = .ok (.iconst 0, 1) := by decide +kernel
theorem dL_plan_31 : decode cL_plan 31 = .ok (.istore 7, 2) := by decide +kernel
theorem dL_plan_33 : decode cL_plan 33 = .ok (.iconst 0, 1) := by decide +kernel
theorem dL_plan_34 : decode cL_plan 34 = .ok (.istore 8, 2) := by decide +kernel
theorem dL_plan_36 : decode cL_plan 36 = .ok (.iload 8, 2) := by decide +kernel
theorem dL_plan_38 : decode cL_plan 38 = .ok (.iload_n 1, 1) := by decide +kernel
theorem dL_plan_39 : decode cL_plan 39 = .ok (.if_icmp .ge 259, 3) := by decide +kernel
theorem dL_plan_42 : decode cL_plan 42 = .ok (.iload 7, 2) := by decide +kernel
theorem dL_plan_44 : decode cL_plan 44 = .ok (.ifCond .eq 254, 3) := by decide +kernel
theorem dL_plan_47 : decode cL_plan 47 = .ok (.aload_n 0, 1) := by decide +kernel
theorem dL_plan_48 : decode cL_plan 48 = .ok (.iload 8, 2) := by decide +kernel
theorem dL_plan_50 : decode cL_plan 50 = .ok (.bipush 6, 2) := by decide +kernel
theorem dL_plan_52 : decode cL_plan 52 = .ok (.invokevirtual 44, 3) := by decide +kernel
theorem dL_plan_55 : decode cL_plan 55 = .ok (.istore 9, 2) := by decide +kernel
theorem dL_plan_57 : decode cL_plan 57 = .ok (.iload 9, 2) := by decide +kernel
theorem dL_plan_59 : decode cL_plan 59 = .ok (.iload_n 2, 1) := by decide +kernel
theorem dL_plan_60 : decode cL_plan 60 = .ok (.if_icmp .le 8, 3) := by decide +kernel
theorem dL_plan_63 : decode cL_plan 63 = .ok (.iload 9, 2) := by decide +kernel
theorem dL_plan_65 : decode cL_plan 65 = .ok (.goto 4, 3) := by decide +kernel
theorem dL_plan_68 : decode cL_plan 68 = .ok (.iload_n 2, 1) := by decide +kernel
theorem dL_plan_69 : decode cL_plan 69 = .ok (.istore_n 2, 1) := by decide +kernel
theorem dL_plan_70 : decode cL_plan 70 = .ok (.iload_n 3, 1) := by decide +kernel
theorem dL_plan_71 : decode cL_plan 71 = .ok (.ifCond .ne 9, 3) := by decide +kernel
theorem dL_plan_74 : decode cL_plan 74 = .ok (.iload 9, 2) := by decide +kernel
theorem dL_plan_76 : decode cL_plan 76 = .ok (.iconst (-1), 1) := by decide +kernel
theorem dL_plan_77 : decode cL_plan 77 = .ok (.if_icmp .ne 7, 3) := by decide +kernel
theorem dL_plan_80 : decode cL_plan 80 = .ok (.iconst 1, 1) := by decide +kernel
theorem dL_plan_81 : decode cL_plan 81 = .ok (.goto 4, 3) := by decide +kernel
theorem dL_plan_84 : decode cL_plan 84 = .ok (.iconst 0, 1) := by decide +kernel
theorem dL_plan_85 : decode cL_plan 85 = .ok (.istore_n 3, 1) := by decide +kernel
theorem dL_plan_86 : decode cL_plan 86 = .ok (.iload 9, 2) := by decide +kernel
theorem dL_plan_88 : decode cL_plan 88 = .ok (.iconst (-1), 1) := by decide +kernel
theorem dL_plan_89 : decode cL_plan 89 = .ok (.if_icmp .eq 19, 3) := by decide +kernel
theorem dL_plan_92 : decode cL_plan 92 = .ok (.aload_n 0, 1) := by decide +kernel
theorem dL_plan_93 : decode cL_plan 93 = .ok (.iload 9, 2) := by decide +kernel
theorem dL_plan_95 : decode cL_plan 95 = .ok (.iconst 0, 1) := by decide +kernel
theorem dL_plan_96 : decode cL_plan 96 = .ok (.invokevirtual 73, 3) := by decide +kernel
theorem dL_plan_99 : decode cL_plan 99 = .ok (.iload 8, 2) := by decide +kernel
theorem dL_plan_101 : decode cL_plan 101 = .ok (.ishr, 1) := by decide +kernel
theorem dL_plan_102 : decode cL_plan 102 = .ok (.iconst 1, 1) := by decide +kernel
theorem dL_plan_103 : decode cL_plan 103 = .ok (.iand, 1) := by decide +kernel
theorem dL_plan_104 : decode cL_plan 104 = .ok (.iconst 1, 1) := by decide +kernel
theorem dL_plan_105 : decode cL_plan 105 = .ok (.if_icmp .ne 7, 3) := by decide +kernel
theorem dL_plan_108 : decode cL_plan 108 = .ok (.iconst 1, 1) := by decide +kernel
theorem dL_plan_109 : decode cL_plan 109 = .ok (.goto 4, 3) := by decide +kernel
theorem dL_plan_112 : decode cL_plan 112 = .ok (.iconst 0, 1) := by decide +kernel
theorem dL_plan_113 : decode cL_plan 113 = .ok (.istore 7, 2) := by decide +kernel
theorem dL_plan_115 : decode cL_plan 115 = .ok (.iconst 0, 1) := by decide +kernel
theorem dL_plan_116 : decode cL_plan 116 = .ok (.istore 10, 2) := by decide +kernel
theorem dL_plan_118 : decode cL_plan 118 = .ok (.iload 10, 2) := by decide +kernel
theorem dL_plan_120 : decode cL_plan 120 = .ok (.iload_n 1, 1) := by decide +kernel
theorem dL_plan_121 : decode cL_plan 121 = .ok (.if_icmp .ge 171, 3) := by decide +kernel
theorem dL_plan_124 : decode cL_plan 124 = .ok (.iload 7, 2) := by decide +kernel
theorem dL_plan_126 : decode cL_plan 126 = .ok (.ifCond .eq 166, 3) := by decide +kernel
theorem dL_plan_129 : decode cL_plan 129 = .ok (.aload_n 0, 1) := by decide +kernel
theorem dL_plan_130 : decode cL_plan 130 = .ok (.iload 8, 2) := by decide +kernel
theorem dL_plan_132 : decode cL_plan 132 = .ok (.bipush 7, 2) := by decide +kernel
theorem dL_plan_134 : decode cL_plan 134 = .ok (.invokevirtual 44, 3) := by decide +kernel
theorem dL_plan_137 : decode cL_plan 137 = .ok (.iload 10, 2) := by decide +kernel
theorem dL_plan_139 : decode cL_plan 139 = .ok (.ishr, 1) := by decide +kernel
theorem dL_plan_140 : decode cL_plan 140 = .ok (.iconst 1, 1) := by decide +kernel
theorem dL_plan_141 : decode cL_plan 141 = .ok (.iand, 1) := by decide +kernel
theorem dL_plan_142 : decode cL_plan 142 = .ok (.iconst 1, 1) := by decide +kernel
theorem dL_plan_143 : decode cL_plan 143 = .ok (.if_icmp .ne 7, 3) := by decide +kernel
theorem dL_plan_146 : decode cL_plan 146 = .ok (.iconst 1, 1) := by decide +kernel
theorem dL_plan_147 : decode cL_plan 147 = .ok (.goto 4, 3) := by decide +kernel
theorem dL_plan_150 : decode cL_plan 150 = .ok (.iconst 0, 1) := by decide +kernel
theorem dL_plan_151 : decode cL_plan 151 = .ok (.istore 11, 2) := by decide +kernel
theorem dL_plan_153 : decode cL_plan 153 = .ok (.aload_n 0, 1) := by decide +kernel
theorem dL_plan_154 : decode cL_plan 154 = .ok (.iload 10, 2) := by decide +kernel
theorem dL_plan_156 : decode cL_plan 156 = .ok (.bipush 6, 2) := by decide +kernel
theorem dL_plan_158 : decode cL_plan 158 = .ok (.invokevirtual 44, 3) := by decide +kernel
theorem dL_plan_161 : decode cL_plan 161 = .ok (.istore 12, 2) := by decide +kernel
theorem dL_plan_163 : decode cL_plan 163 = .ok (.iload 11, 2) := by decide +kernel
theorem dL_plan_165 : decode cL_plan 165 = .ok (.aload_n 0, 1) := by decide +kernel
theorem dL_plan_166 : decode cL_plan 166 = .ok (.iload 10, 2) := by decide +kernel
theorem dL_plan_168 : decode cL_plan 168 = .ok (.bipush 7, 2) := by decide +kernel
theorem dL_plan_170 : decode cL_plan 170 = .ok (.invokevirtual 44, 3) := by decide +kernel
theorem dL_plan_173 : decode cL_plan 173 = .ok (.iload 8, 2) := by decide +kernel
theorem dL_plan_175 : decode cL_plan 175 = .ok (.ishr, 1) := by decide +kernel
theorem dL_plan_176 : decode cL_plan 176 = .ok (.iconst 1, 1) := by decide +kernel
theorem dL_plan_177 : decode cL_plan 177 = .ok (.iand, 1) := by decide +kernel
theorem dL_plan_178 : decode cL_plan 178 = .ok (.iconst 1, 1) := by decide +kernel
theorem dL_plan_179 : decode cL_plan 179 = .ok (.if_icmp .ne 7, 3) := by decide +kernel
theorem dL_plan_182 : decode cL_plan 182 = .ok (.iconst 1, 1) := by decide +kernel
theorem dL_plan_183 : decode cL_plan 183 = .ok (.goto 4, 3) := by decide +kernel
theorem dL_plan_186 : decode cL_plan 186 = .ok (.iconst 0, 1) := by decide +kernel
theorem dL_plan_187 : decode cL_plan 187 = .ok (.if_icmp .ne 19, 3) := by decide +kernel
theorem dL_plan_190 : decode cL_plan 190 = .ok (.iload 8, 2) := by decide +kernel
theorem dL_plan_192 : decode cL_plan 192 = .ok (.iload 10, 2) := by decide +kernel
theorem dL_plan_194 : decode cL_plan 194 = .ok (.if_icmp .ne 8, 3) := by decide +kernel
theorem dL_plan_197 : decode cL_plan 197 = .ok (.iload 11, 2) := by decide +kernel
theorem dL_plan_199 : decode cL_plan 199 = .ok (.ifCond .ne 7, 3) := by decide +kernel
theorem dL_plan_202 : decode cL_plan 202 = .ok (.iconst 1, 1) := by decide +kernel
theorem dL_plan_203 : decode cL_plan 203 = .ok (.goto 4, 3) := by decide +kernel
theorem dL_plan_206 : decode cL_plan 206 = .ok (.iconst 0, 1) := by decide +kernel
theorem dL_plan_207 : decode cL_plan 207 = .ok (.istore 7, 2) := by decide +kernel
theorem dL_plan_209 : decode cL_plan 209 = .ok (.iload 4, 2) := by decide +kernel
theorem dL_plan_211 : decode cL_plan 211 = .ok (.ifCond .ne 15, 3) := by decide +kernel
theorem dL_plan_214 : decode cL_plan 214 = .ok (.iload 11, 2) := by decide +kernel
theorem dL_plan_216 : decode cL_plan 216 = .ok (.ifCond .eq 14, 3) := by decide +kernel
theorem dL_plan_219 : decode cL_plan 219 = .ok (.iload 9, 2) := by decide +kernel
theorem dL_plan_221 : decode cL_plan 221 = .ok (.iload 12, 2) := by decide +kernel
theorem dL_plan_223 : decode cL_plan 223 = .ok (.if_icmp .ne 7, 3) := by decide +kernel
theorem dL_plan_226 : decode cL_plan 226 = .ok (.iconst 1, 1) := by decide +kernel
theorem dL_plan_227 : decode cL_plan 227 = .ok (.goto 4, 3) := by decide +kernel
theorem dL_plan_230 : decode cL_plan 230 = .ok (.iconst 0, 1) := by decide +kernel
theorem dL_plan_231 : decode cL_plan 231 = .ok (.istore 4, 2) := by decide +kernel
theorem dL_plan_233 : decode cL_plan 233 = .ok (.iload 5, 2) := by decide +kernel
theorem dL_plan_235 : decode cL_plan 235 = .ok (.ifCond .ne 44, 3) := by decide +kernel
theorem dL_plan_238 : decode cL_plan 238 = .ok (.iload 11, 2) := by decide +kernel
theorem dL_plan_240 : decode cL_plan 240 = .ok (.ifCond .eq 43, 3) := by decide +kernel
theorem dL_plan_243 : decode cL_plan 243 = .ok (.aload_n 0, 1) := by decide +kernel
theorem dL_plan_244 : decode cL_plan 244 = .ok (.iload 8, 2) := by decide +kernel
theorem dL_plan_246 : decode cL_plan 246 = .ok (.iconst 0, 1) := by decide +kernel
theorem dL_plan_247 : decode cL_plan 247 = .ok (.invokevirtual 44, 3) := by decide +kernel
theorem dL_plan_250 : decode cL_plan 250 = .ok (.iconst 1, 1) := by decide +kernel
theorem dL_plan_251 : decode cL_plan 251 = .ok (.if_icmp .ne 32, 3) := by decide +kernel
theorem dL_plan_254 : decode cL_plan 254 = .ok (.aload_n 0, 1) := by decide +kernel
theorem dL_plan_255 : decode cL_plan 255 = .ok (.iload 10, 2) := by decide +kernel
theorem dL_plan_257 : decode cL_plan 257 = .ok (.iconst 0, 1) := by decide +kernel
theorem dL_plan_258 : decode cL_plan 258 = .ok (.invokevirtual 44, 3) := by decide +kernel
theorem dL_plan_261 : decode cL_plan 261 = .ok (.ifCond .ne 22, 3) := by decide +kernel
theorem dL_plan_264 : decode cL_plan 264 = .ok (.iload 9, 2) := by decide +kernel
theorem dL_plan_266 : decode cL_plan 266 = .ok (.iload 12, 2) := by decide +kernel
theorem dL_plan_268 : decode cL_plan 268 = .ok (.isub, 1) := by decide +kernel
theorem dL_plan_269 : decode cL_plan 269 = .ok (.iconst 1, 1) := by decide +kernel
theorem dL_plan_270 : decode cL_plan 270 = .ok (.aload_n 0, 1) := by decide +kernel
theorem dL_plan_271 : decode cL_plan 271 = .ok (.iconst 4, 1) := by decide +kernel
theorem dL_plan_272 : decode cL_plan 272 = .ok (.invokevirtual 40, 3) := by decide +kernel
theorem dL_plan_275 : decode cL_plan 275 = .ok (.iadd, 1) := by decide +kernel
theorem dL_plan_276 : decode cL_plan 276 = .ok (.if_icmp .ge 7, 3) := by decide +kernel
theorem dL_plan_279 : decode cL_plan 279 = .ok (.iconst 1, 1) := by decide +kernel
theorem dL_plan_280 : decode cL_plan 280 = .ok (.goto 4, 3) := by decide +kernel
theorem dL_plan_283 : decode cL_plan 283 = .ok (.iconst 0, 1) := by decide +kernel
theorem dL_plan_284 : decode cL_plan 284 = .ok (.istore 5, 2) := by decide +kernel
theorem dL_plan_286 : decode cL_plan 286 = .ok (.iinc 10 1, 3) := by decide +kernel
theorem dL_plan_289 : decode cL_plan 289 = .ok (.goto (-171), 3) := by decide +kernel
theorem dL_plan_292 : decode cL_plan 292 = .ok (.iinc 8 1, 3) := by decide +kernel
theorem dL_plan_295 : decode cL_plan 295 = .ok (.goto (-259), 3) := by decide +kernel
theorem dL_plan_298 : decode cL_plan 298 = .ok (.iconst 0, 1) := by decide +kernel
theorem dL_plan_299 : decode cL_plan 299 = .ok (.istore 8, 2) := by decide +kernel
theorem dL_plan_301 : decode cL_plan 301 = .ok (.iload 8, 2) := by decide +kernel
theorem dL_plan_303 : decode cL_plan 303 = .ok (.bipush 8, 2) := by decide +kernel
theorem dL_plan_305 : decode cL_plan 305 = .ok (.if_icmp .ge 98, 3) := by decide +kernel
theorem dL_plan_308 : decode cL_plan 308 = .ok (.iload 7, 2) := by decide +kernel
theorem dL_plan_310 : decode cL_plan 310 = .ok (.ifCond .eq 93, 3) := by decide +kernel
theorem dL_plan_313 : decode cL_plan 313 = .ok (.iconst 0, 1) := by decide +kernel
theorem dL_plan_314 : decode cL_plan 314 = .ok (.istore 9, 2) := by decide +kernel
theorem dL_plan_316 : decode cL_plan 316 = .ok (.iconst 0, 1) := by decide +kernel
theorem dL_plan_317 : decode cL_plan 317 = .ok (.istore 10, 2) := by decide +kernel
theorem dL_plan_319 : decode cL_plan 319 = .ok (.iload 10, 2) := by decide +kernel
theorem dL_plan_321 : decode cL_plan 321 = .ok (.iload_n 1, 1) := by decide +kernel
theorem dL_plan_322 : decode cL_plan 322 = .ok (.if_icmp .ge 34, 3) := by decide +kernel
theorem dL_plan_325 : decode cL_plan 325 = .ok (.iload 9, 2) := by decide +kernel
theorem dL_plan_327 : decode cL_plan 327 = .ok (.aload_n 0, 1) := by decide +kernel
theorem dL_plan_328 : decode cL_plan 328 = .ok (.iload 8, 2) := by decide +kernel
theorem dL_plan_330 : decode cL_plan 330 = .ok (.iconst 0, 1) := by decide +kernel
theorem dL_plan_331 : decode cL_plan 331 = .ok (.invokevirtual 73, 3) := by decide +kernel
theorem dL_plan_334 : decode cL_plan 334 = .ok (.iload 10, 2) := by decide +kernel
theorem dL_plan_336 : decode cL_plan 336 = .ok (.ishr, 1) := by decide +kernel
theorem dL_plan_337 : decode cL_plan 337 = .ok (.iconst 1, 1) := by decide +kernel
theorem dL_plan_338 : decode cL_plan 338 = .ok (.iand, 1) := by decide +kernel
theorem dL_plan_339 : decode cL_plan 339 = .ok (.aload_n 0, 1) := by decide +kernel
theorem dL_plan_340 : decode cL_plan 340 = .ok (.iload 10, 2) := by decide +kernel
theorem dL_plan_342 : decode cL_plan 342 = .ok (.iconst 5, 1) := by decide +kernel
theorem dL_plan_343 : decode cL_plan 343 = .ok (.invokevirtual 44, 3) := by decide +kernel
theorem dL_plan_346 : decode cL_plan 346 = .ok (.imul, 1) := by decide +kernel
theorem dL_plan_347 : decode cL_plan 347 = .ok (.iadd, 1) := by decide +kernel
theorem dL_plan_348 : decode cL_plan 348 = .ok (.istore 9, 2) := by decide +kernel
theorem dL_plan_350 : decode cL_plan 350 = .ok (.iinc 10 1, 3) := by decide +kernel
theorem dL_plan_353 : decode cL_plan 353 = .ok (.goto (-34), 3) := by decide +kernel
theorem dL_plan_356 : decode cL_plan 356 = .ok (.aload_n 0, 1) := by decide +kernel
theorem dL_plan_357 : decode cL_plan 357 = .ok (.iload 8, 2) := by decide +kernel
theorem dL_plan_359 : decode cL_plan 359 = .ok (.iconst 1, 1) := by decide +kernel
theorem dL_plan_360 : decode cL_plan 360 = .ok (.invokevirtual 73, 3) := by decide +kernel
theorem dL_plan_363 : decode cL_plan 363 = .ok (.iload 9, 2) := by decide +kernel
theorem dL_plan_365 : decode cL_plan 365 = .ok (.if_icmp .ne 7, 3) := by decide +kernel
theorem dL_plan_368 : decode cL_plan 368 = .ok (.iconst 1, 1) := by decide +kernel
theorem dL_plan_369 : decode cL_plan 369 = .ok (.goto 4, 3) := by decide +kernel
theorem dL_plan_372 : decode cL_plan 372 = .ok (.iconst 0, 1) := by decide +kernel
theorem dL_plan_373 : decode cL_plan 373 = .ok (.istore 7, 2) := by decide +kernel
theorem dL_plan_375 : decode cL_plan 375 = .ok (.iload 6, 2) := by decide +kernel
theorem dL_plan_377 : decode cL_plan 377 = .ok (.ifCond .ne 13, 3) := by decide +kernel
theorem dL_plan_380 : decode cL_plan 380 = .ok (.iload 9, 2) := by decide +kernel
theorem dL_plan_382 : decode cL_plan 382 = .ok (.aload_n 0, 1) := by decide +kernel
theorem dL_plan_383 : decode cL_plan 383 = .ok (.iconst 3, 1) := by decide +kernel
theorem dL_plan_384 : decode cL_plan 384 = .ok (.invokevirtual 40, 3) := by decide +kernel
theorem dL_plan_387 : decode cL_plan 387 = .ok (.if_icmp .le 7, 3) := by decide +kernel
theorem dL_plan_390 : decode cL_plan 390 = .ok (.iconst 1, 1) := by decide +kernel
theorem dL_plan_391 : decode cL_plan 391 = .ok (.goto 4, 3) := by decide +kernel
theorem dL_plan_394 : decode cL_plan 394 = .ok (.iconst 0, 1) := by decide +kernel
theorem dL_plan_395 : decode cL_plan 395 = .ok (.istore 6, 2) := by decide +kernel
theorem dL_plan_397 : decode cL_plan 397 = .ok (.iinc 8 1, 3) := by decide +kernel
theorem dL_plan_400 : decode cL_plan 400 = .ok (.goto (-99), 3) := by decide +kernel
theorem dL_plan_403 : decode cL_plan 403 = .ok (.iload_n 3, 1) := by decide +kernel
theorem dL_plan_404 : decode cL_plan 404 = .ok (.ifCond .eq 7, 3) := by decide +kernel
theorem dL_plan_407 : decode cL_plan 407 = .ok (.iconst 1, 1) := by decide +kernel
theorem dL_plan_408 : decode cL_plan 408 = .ok (.goto 31, 3) := by decide +kernel
theorem dL_plan_411 : decode cL_plan 411 = .ok (.iload 6, 2) := by decide +kernel
theorem dL_plan_413 : decode cL_plan 413 = .ok (.ifCond .eq 7, 3) := by decide +kernel
theorem dL_plan_416 : decode cL_plan 416 = .ok (.iconst 2, 1) := by decide +kernel
theorem dL_plan_417 : decode cL_plan 417 = .ok (.goto 22, 3) := by decide +kernel
theorem dL_plan_420 : decode cL_plan 420 = .ok (.iload 4, 2) := by decide +kernel
theorem dL_plan_422 : decode cL_plan 422 = .ok (.ifCond .eq 7, 3) := by decide +kernel
theorem dL_plan_425 : decode cL_plan 425 = .ok (.iconst 3, 1) := by decide +kernel
theorem dL_plan_426 : decode cL_plan 426 = .ok (.goto 13, 3) := by decide +kernel
theorem dL_plan_429 : decode cL_plan 429 = .ok (.iload 5, 2) := by decide +kernel
theorem dL_plan_431 : decode cL_plan 431 = .ok (.ifCond .eq 7, 3) := by decide +kernel
theorem dL_plan_434 : decode cL_plan 434 = .ok (.iconst 4, 1) := by decide +kernel
theorem dL_plan_435 : decode cL_plan 435 = .ok (.goto 4, 3) := by decide +kernel
theorem dL_plan_438 : decode cL_plan 438 = .ok (.iconst 0, 1) := by decide +kernel
theorem dL_plan_439 : decode cL_plan 439 = .ok (.istore 8, 2) := by decide +kernel
theorem dL_plan_441 : decode cL_plan 441 = .ok (.iload 7, 2) := by decide +kernel
theorem dL_plan_443 : decode cL_plan 443 = .ok (.ifCond .eq 53, 3) := by decide +kernel
theorem dL_plan_446 : decode cL_plan 446 = .ok (.aload_n 0, 1) := by decide +kernel
theorem dL_plan_447 : decode cL_plan 447 = .ok (.bipush 9, 2) := by decide +kernel
theorem dL_plan_449 : decode cL_plan 449 = .ok (.invokevirtual 40, 3) := by decide +kernel
theorem dL_plan_452 : decode cL_plan 452 = .ok (.iload_n 2, 1) := by decide +kernel
theorem dL_plan_453 : decode cL_plan 453 = .ok (.iconst 1, 1) := by decide +kernel
theorem dL_plan_454 : decode cL_plan 454 = .ok (.iadd, 1) := by decide +kernel
theorem dL_plan_455 : decode cL_plan 455 = .ok (.if_icmp .ne 41, 3) := by decide +kernel
theorem dL_plan_458 : decode cL_plan 458 = .ok (.aload_n 0, 1) := by decide +kernel
theorem dL_plan_459 : decode cL_plan 459 = .ok (.invokevirtual 76, 3) := by decide +kernel
theorem dL_plan_462 : decode cL_plan 462 = .ok (.iload 8, 2) := by decide +kernel
theorem dL_plan_464 : decode cL_plan 464 = .ok (.if_icmp .ne 32, 3) := by decide +kernel
theorem dL_plan_467 : decode cL_plan 467 = .ok (.iload 8, 2) := by decide +kernel
theorem dL_plan_469 : decode cL_plan 469 = .ok (.ifCond .ne 23, 3) := by decide +kernel
theorem dL_plan_472 : decode cL_plan 472 = .ok (.aload_n 0, 1) := by decide +kernel
theorem dL_plan_473 : decode cL_plan 473 = .ok (.iconst (-1), 1) := by decide +kernel
theorem dL_plan_474 : decode cL_plan 474 = .ok (.invokevirtual 79, 3) := by decide +kernel
theorem dL_plan_477 : decode cL_plan 477 = .ok (.iconst (-1), 1) := by decide +kernel
theorem dL_plan_478 : decode cL_plan 478 = .ok (.if_icmp .eq 18, 3) := by decide +kernel
theorem dL_plan_481 : decode cL_plan 481 = .ok (.aload_n 0, 1) := by decide +kernel
theorem dL_plan_482 : decode cL_plan 482 = .ok (.iconst (-1), 1) := by decide +kernel
theorem dL_plan_483 : decode cL_plan 483 = .ok (.invokevirtual 79, 3) := by decide +kernel
theorem dL_plan_486 : decode cL_plan 486 = .ok (.iload_n 2, 1) := by decide +kernel
theorem dL_plan_487 : decode cL_plan 487 = .ok (.iconst 1, 1) := by decide +kernel
theorem dL_plan_488 : decode cL_plan 488 = .ok (.iadd, 1) := by decide +kernel
theorem dL_plan_489 : decode cL_plan 489 = .ok (.if_icmp .gt 7, 3) := by decide +kernel
theorem dL_plan_492 : decode cL_plan 492 = .ok (.iconst 1, 1) := by decide +kernel
theorem dL_plan_493 : decode cL_plan 493 = .ok (.goto 4, 3) := by decide +kernel
theorem dL_plan_496 : decode cL_plan 496 = .ok (.iconst 0, 1) := by decide +kernel
theorem dL_plan_497 : decode cL_plan 497 = .ok (.ireturn, 1) := by decide +kernel
theorem dL_press_0 : decode cL_press 0 = .ok (.iconst 0, 1) := by decide +kernel
theorem dL_press_1 : decode cL_press 1 = .ok (.istore_n 1, 1) := by decide +kernel
theorem dL_press_2 : decode cL_press 2 = .ok (.iconst 1, 1) := by decide +kernel
theorem dL_press_3 : decode cL_press 3 = .ok (.istore_n 2, 1) := by decide +kernel
theorem dL_press_4 : decode cL_press 4 = .ok (.iconst 0, 1) := by decide +kernel
theorem dL_press_5 : decode cL_press 5 = .ok (.istore_n 3, 1) := by decide +kernel
theorem dL_press_6 : decode cL_press 6 = .ok (.iload_n 3, 1) := by decide +kernel
theorem dL_press_7 : decode cL_press 7 = .ok (.bipush 8, 2) := by decide +kernel
theorem dL_press_9 : decode cL_press 9 = .ok (.if_icmp .ge 91, 3) := by decide +kernel
theorem dL_press_12 : decode cL_press 12 = .ok (.iload_n 2, 1) := by decide +kernel
theorem dL_press_13 : decode cL_press 13 = .ok (.ifCond .eq 87, 3) := by decide +kernel
theorem dL_press_16 : decode cL_press 16 = .ok (.aload_n 0, 1) := by decide +kernel
theorem dL_press_17 : decode cL_press 17 = .ok (.iload_n 3, 1) := by decide +kernel
theorem dL_press_18 : decode cL_press 18 = .ok (.iconst 3, 1) := by decide +kernel
theorem dL_press_19 : decode cL_press 19 = .ok (.invokevirtual 73, 3) := by decide +kernel
theorem dL_press_22 : decode cL_press 22 = .ok (.istore 4, 2) := by decide +kernel
theorem dL_press_24 : decode cL_press 24 = .ok (.iload_n 1, 1) := by decide +kernel
theorem dL_press_25 : decode cL_press 25 = .ok (.iload 4, 2) := by decide +kernel
theorem dL_press_27 : decode cL_press 27 = .ok (.iadd, 1) := by decide +kernel
theorem dL_press_28 : decode cL_press 28 = .ok (.istore_n 1, 1) := by decide +kernel
theorem dL_press_29 : decode cL_press 29 = .ok (.iload 4, 2) := by decide +kernel
theorem dL_press_31 : decode cL_press 31 = .ok (.ifCond .ne 31, 3) := by decide +kernel
theorem dL_press_34 : decode cL_press 34 = .ok (.aload_n 0, 1) := by decide +kernel
theorem dL_press_35 : decode cL_press 35 = .ok (.iload_n 3, 1) := by decide +kernel
theorem dL_press_36 : decode cL_press 36 = .ok (.invokevirtual 82, 3) := by decide +kernel
theorem dL_press_39 : decode cL_press 39 = .ok (.lconst 0, 1) := by decide +kernel
theorem dL_press_40 : decode cL_press 40 = .ok (.lcmp, 1) := by decide +kernel
theorem dL_press_41 : decode cL_press 41 = .ok (.ifCond .ne 17, 3) := by decide +kernel
theorem dL_press_44 : decode cL_press 44 = .ok (.aload_n 0, 1) := by decide +kernel
theorem dL_press_45 : decode cL_press 45 = .ok (.iload_n 3, 1) := by decide +kernel
theorem dL_press_46 : decode cL_press 46 = .ok (.iconst 0, 1) := by decide +kernel
theorem dL_press_47 : decode cL_press 47 = .ok (.invokevirtual 85, 3) := by decide +kernel
theorem dL_press_50 : decode cL_press 50 = .ok (.iconst (-1), 1) := by decide +kernel
theorem dL_press_51 : decode cL_press 51 = .ok (.if_icmp .ne 7, 3) := by decide +kernel
theorem dL_press_54 : decode cL_press 54 = .ok (.iconst 1, 1) := by decide +kernel
theorem dL_press_55 : decode cL_press 55 = .ok (.goto 38, 3) := by decide +kernel
theorem dL_press_58 : decode cL_press 58 = .ok (.iconst 0, 1) := by decide +kernel
theorem dL_press_59 : decode cL_press 59 = .ok (.goto 34, 3) := by decide +kernel
theorem dL_press_62 : decode cL_press 62 = .ok (.aload_n 0, 1) := by decide +kernel
theorem dL_press_63 : decode cL_press 63 = .ok (.iload_n 3, 1) := by decide +kernel
theorem dL_press_64 : decode cL_press 64 = .ok (.iconst 3, 1) := by decide +kernel
theorem dL_press_65 : decode cL_press 65 = .ok (.invokevirtual 85, 3) := by decide +kernel
theorem dL_press_68 : decode cL_press 68 = .ok (.aload_n 0, 1) := by decide +kernel
theorem dL_press_69 : decode cL_press 69 = .ok (.iload_n 3, 1) := by decide +kernel
theorem dL_press_70 : decode cL_press 70 = .ok (.invokevirtual 82, 3) := by decide +kernel
theorem dL_press_73 : decode cL_press 73 = .ok (.invokestatic 51, 3) := by decide +kernel
theorem dL_press_76 : decode cL_press 76 = .ok (.if_icmp .ne 16, 3) := by decide +kernel
theorem dL_press_79 : decode cL_press 79 = .ok (.aload_n 0, 1) := by decide +kernel
theorem dL_press_80 : decode cL_press 80 = .ok (.iload_n 3, 1) := by decide +kernel
theorem dL_press_81 : decode cL_press 81 = .ok (.iconst 1, 1) := by decide +kernel
theorem dL_press_82 : decode cL_press 82 = .ok (.invokevirtual 85, 3) := by decide +kernel
theorem dL_press_85 : decode cL_press 85 = .ok (.ifCond .lt 7, 3) := by decide +kernel
theorem dL_press_88 : decode cL_press 88 = .ok (.iconst 1, 1) := by decide +kernel
theorem dL_press_89 : decode cL_press 89 = .ok (.goto 4, 3) := by decide +kernel
theorem dL_press_92 : decode cL_press 92 = .ok (.iconst 0, 1) := by decide +kernel
theorem dL_press_93 : decode cL_press 93 = .ok (.istore_n 2, 1) := by decide +kernel
theorem dL_press_94 : decode cL_press 94 = .ok (.iinc 3 1, 3) := by decide +kernel
theorem dL_press_97 : decode cL_press 97 = .ok (.goto (-91), 3) := by decide +kernel
theorem dL_press_100 : decode cL_press 100 = .ok (.iload_n 2, 1) := by decide +kernel
theorem dL_press_101 : decode cL_press 101 = .ok (.ifCond .eq 41, 3) := by decide +kernel
theorem dL_press_104 : decode cL_press 104 = .ok (.iload_n 1, 1) := by decide +kernel
theorem dL_press_105 : decode cL_press 105 = .ok (.aload_n 0, 1) := by decide +kernel
theorem dL_press_106 : decode cL_press 106 = .ok (.bipush 10, 2) := by decide +kernel
theorem dL_press_108 : decode cL_press 108 = .ok (.invokevirtual 40, 3) := by decide +kernel
theorem dL_press_111 : decode cL_press 111 = .ok (.if_icmp .ne 31, 3) := by decide +kernel
theorem dL_press_114 : decode cL_press 114 = .ok (.aload_n 0, 1) := by decide +kernel
theorem dL_press_115 : decode cL_press 115 = .ok (.bipush 12, 2) := by decide +kernel
theorem dL_press_117 : decode cL_press 117 = .ok (.invokevirtual 40, 3) := by decide +kernel
theorem dL_press_120 : decode cL_press 120 = .ok (.aload_n 0, 1) := by decide +kernel
theorem dL_press_121 : decode cL_press 121 = .ok (.bipush 13, 2) := by decide +kernel
theorem dL_press_123 : decode cL_press 123 = .ok (.invokevirtual 40, 3) := by decide +kernel
theorem dL_press_126 : decode cL_press 126 = .ok (.iadd, 1) := by decide +kernel
theorem dL_press_127 : decode cL_press 127 = .ok (.iload_n 1, 1) := by decide +kernel
theorem dL_press_128 : decode cL_press 128 = .ok (.iadd, 1) := by decide +kernel
theorem dL_press_129 : decode cL_press 129 = .ok (.aload_n 0, 1) := by decide +kernel
theorem dL_press_130 : decode cL_press 130 = .ok (.bipush 11, 2) := by decide +kernel
theorem dL_press_132 : decode cL_press 132 = .ok (.invokevirtual 40, 3) := by decide +kernel
theorem dL_press_135 : decode cL_press 135 = .ok (.if_icmp .ne 7, 3) := by decide +kernel
theorem dL_press_138 : decode cL_press 138 = .ok (.iconst 1, 1) := by decide +kernel
theorem dL_press_139 : decode cL_press 139 = .ok (.goto 4, 3) := by decide +kernel
theorem dL_press_142 : decode cL_press 142 = .ok (.iconst 0, 1) := by decide +kernel
theorem dL_press_143 : decode cL_press 143 = .ok (.ireturn, 1) := by decide +kernel
theorem dL_holds_0 : decode cL_holds 0 = .ok (.aload_n 0, 1) := by decide +kernel
theorem dL_holds_1 : decode cL_holds 1 = .ok (.invokestatic 88, 3) := by decide +kernel
theorem dL_holds_4 : decode cL_holds 4 = .ok (.ifCond .eq 21, 3) := by decide +kernel
theorem dL_holds_7 : decode cL_holds 7 = .ok (.aload_n 0, 1) := by decide +kernel
theorem dL_holds_8 : decode cL_holds 8 = .ok (.invokestatic 92, 3) := by decide +kernel
theorem dL_holds_11 : decode cL_holds 11 = .ok (.ifCond .eq 14, 3) := by decide +kernel
theorem dL_holds_14 : decode cL_holds 14 = .ok (.aload_n 0, 1) := by decide +kernel
theorem dL_holds_15 : decode cL_holds 15 = .ok (.invokestatic 95, 3) := by decide +kernel
theorem dL_holds_18 : decode cL_holds 18 = .ok (.ifCond .eq 7, 3) := by decide +kernel
theorem dL_holds_21 : decode cL_holds 21 = .ok (.iconst 1, 1) := by decide +kernel
theorem dL_holds_22 : decode cL_holds 22 = .ok (.goto 4, 3) := by decide +kernel
theorem dL_holds_25 : decode cL_holds 25 = .ok (.iconst 0, 1) := by decide +kernel
theorem dL_holds_26 : decode cL_holds 26 = .ok (.ireturn, 1) := by decide +kernel
theorem dL_marks_0 : decode cL_marks 0 = .ok (.iload_n 1, 1) := by decide +kernel
theorem dL_marks_1 : decode cL_marks 1 = .ok (.aload_n 0, 1) := by decide +kernel
theorem dL_marks_2 : decode cL_marks 2 = .ok (.iconst 0, 1) := by decide +kernel
theorem dL_marks_3 : decode cL_marks 3 = .ok (.invokevirtual 40, 3) := by decide +kernel
theorem dL_marks_6 : decode cL_marks 6 = .ok (.invokestatic 98, 3) := by decide +kernel
theorem dL_marks_9 : decode cL_marks 9 = .ok (.istore_n 3, 1) := by decide +kernel
theorem dL_marks_10 : decode cL_marks 10 = .ok (.iload_n 1, 1) := by decide +kernel
theorem dL_marks_11 : decode cL_marks 11 = .ok (.bipush 16, 2) := by decide +kernel
theorem dL_marks_13 : decode cL_marks 13 = .ok (.idiv, 1) := by decide +kernel
theorem dL_marks_14 : decode cL_marks 14 = .ok (.aload_n 0, 1) := by decide +kernel
theorem dL_marks_15 : decode cL_marks 15 = .ok (.iconst 1, 1) := by decide +kernel
theorem dL_marks_16 : decode cL_marks 16 = .ok (.invokevirtual 40, 3) := by decide +kernel
theorem dL_marks_19 : decode cL_marks 19 = .ok (.invokestatic 98, 3) := by decide +kernel
theorem dL_marks_22 : decode cL_marks 22 = .ok (.istore 4, 2) := by decide +kernel
theorem dL_marks_24 : decode cL_marks 24 = .ok (.iconst 1, 1) := by decide +kernel
theorem dL_marks_25 : decode cL_marks 25 = .ok (.iload_n 2, 1) := by decide +kernel
theorem dL_marks_26 : decode cL_marks 26 = .ok (.aload_n 0, 1) := by decide +kernel
theorem dL_marks_27 : decode cL_marks 27 = .ok (.iconst 0, 1) := by decide +kernel
theorem dL_marks_28 : decode cL_marks 28 = .ok (.invokevirtual 40, 3) := by decide +kernel
theorem dL_marks_31 : decode cL_marks 31 = .ok (.iload_n 3, 1) := by decide +kernel
theorem dL_marks_32 : decode cL_marks 32 = .ok (.isub, 1) := by decide +kernel
theorem dL_marks_33 : decode cL_marks 33 = .ok (.invokestatic 98, 3) := by decide +kernel
theorem dL_marks_36 : decode cL_marks 36 = .ok (.iadd, 1) := by decide +kernel
theorem dL_marks_37 : decode cL_marks 37 = .ok (.istore 5, 2) := by decide +kernel
theorem dL_marks_39 : decode cL_marks 39 = .ok (.iconst 1, 1) := by decide +kernel
theorem dL_marks_40 : decode cL_marks 40 = .ok (.iload_n 2, 1) := by decide +kernel
theorem dL_marks_41 : decode cL_marks 41 = .ok (.bipush 16, 2) := by decide +kernel
theorem dL_marks_43 : decode cL_marks 43 = .ok (.idiv, 1) := by decide +kernel
theorem dL_marks_44 : decode cL_marks 44 = .ok (.aload_n 0, 1) := by decide +kernel
theorem dL_marks_45 : decode cL_marks 45 = .ok (.iconst 1, 1) := by decide +kernel
theorem dL_marks_46 : decode cL_marks 46 = .ok (.invokevirtual 40, 3) := by decide +kernel
theorem dL_marks_49 : decode cL_marks 49 = .ok (.iload 4, 2) := by decide +kernel
theorem dL_marks_51 : decode cL_marks 51 = .ok (.isub, 1) := by decide +kernel
theorem dL_marks_52 : decode cL_marks 52 = .ok (.invokestatic 98, 3) := by decide +kernel
theorem dL_marks_55 : decode cL_marks 55 = .ok (.iadd, 1) := by decide +kernel
theorem dL_marks_56 : decode cL_marks 56 = .ok (.istore 6, 2) := by decide +kernel
theorem dL_marks_58 : decode cL_marks 58 = .ok (.iload_n 2, 1) := by decide +kernel
theorem dL_marks_59 : decode cL_marks 59 = .ok (.sipush 256, 3) := by decide +kernel
theorem dL_marks_62 : decode cL_marks 62 = .ok (.idiv, 1) := by decide +kernel
theorem dL_marks_63 : decode cL_marks 63 = .ok (.iconst 3, 1) := by decide +kernel
theorem dL_marks_64 : decode cL_marks 64 = .ok (.invokestatic 98, 3) := by decide +kernel
theorem dL_marks_67 : decode cL_marks 67 = .ok (.istore 7, 2) := by decide +kernel
theorem dL_marks_69 : decode cL_marks 69 = .ok (.aload_n 0, 1) := by decide +kernel
theorem dL_marks_70 : decode cL_marks 70 = .ok (.iload_n 3, 1) := by decide +kernel
theorem dL_marks_71 : decode cL_marks 71 = .ok (.iload 4, 2) := by decide +kernel
theorem dL_marks_73 : decode cL_marks 73 = .ok (.iload 5, 2) := by decide +kernel
theorem dL_marks_75 : decode cL_marks 75 = .ok (.iload 6, 2) := by decide +kernel
theorem dL_marks_77 : decode cL_marks 77 = .ok (.iload 7, 2) := by decide +kernel
theorem dL_marks_79 : decode cL_marks 79 = .ok (.invokestatic 101, 3) := by decide +kernel
theorem dL_marks_82 : decode cL_marks 82 = .ok (.istore 8, 2) := by decide +kernel
theorem dL_marks_84 : decode cL_marks 84 = .ok (.iload 8, 2) := by decide +kernel
theorem dL_marks_86 : decode cL_marks 86 = .ok (.ifCond .lt 57, 3) := by decide +kernel
theorem dL_marks_89 : decode cL_marks 89 = .ok (.iload 8, 2) := by decide +kernel
theorem dL_marks_91 : decode cL_marks 91 = .ok (.iload 5, 2) := by decide +kernel
theorem dL_marks_93 : decode cL_marks 93 = .ok (.iload 6, 2) := by decide +kernel
theorem dL_marks_95 : decode cL_marks 95 = .ok (.imul, 1) := by decide +kernel
theorem dL_marks_96 : decode cL_marks 96 = .ok (.if_icmp .gt 47, 3) := by decide +kernel
theorem dL_marks_99 : decode cL_marks 99 = .ok (.aload_n 0, 1) := by decide +kernel
theorem dL_marks_100 : decode cL_marks 100 = .ok (.iload_n 3, 1) := by decide +kernel
theorem dL_marks_101 : decode cL_marks 101 = .ok (.iload 4, 2) := by decide +kernel
theorem dL_marks_103 : decode cL_marks 103 = .ok (.iload 5, 2) := by decide +kernel
theorem dL_marks_105 : decode cL_marks 105 = .ok (.iload 6, 2) := by decide +kernel
theorem dL_marks_107 : decode cL_marks 107 = .ok (.iload 7, 2) := by decide +kernel
theorem dL_marks_109 : decode cL_marks 109 = .ok (.invokestatic 101, 3) := by decide +kernel
theorem dL_marks_112 : decode cL_marks 112 = .ok (.ifCond .ne 31, 3) := by decide +kernel
theorem dL_marks_115 : decode cL_marks 115 = .ok (.aload_n 0, 1) := by decide +kernel
theorem dL_marks_116 : decode cL_marks 116 = .ok (.iload_n 3, 1) := by decide +kernel
theorem dL_marks_117 : decode cL_marks 117 = .ok (.iload 4, 2) := by decide +kernel
theorem dL_marks_119 : decode cL_marks 119 = .ok (.iload 5, 2) := by decide +kernel
theorem dL_marks_121 : decode cL_marks 121 = .ok (.aload_n 0, 1) := by decide +kernel
theorem dL_marks_122 : decode cL_marks 122 = .ok (.iconst 0, 1) := by decide +kernel
theorem dL_marks_123 : decode cL_marks 123 = .ok (.invokevirtual 40, 3) := by decide +kernel
theorem dL_marks_126 : decode cL_marks 126 = .ok (.iadd, 1) := by decide +kernel
theorem dL_marks_127 : decode cL_marks 127 = .ok (.iload 6, 2) := by decide +kernel
theorem dL_marks_129 : decode cL_marks 129 = .ok (.iload 7, 2) := by decide +kernel
theorem dL_marks_131 : decode cL_marks 131 = .ok (.invokestatic 101, 3) := by decide +kernel
theorem dL_marks_134 : decode cL_marks 134 = .ok (.bipush (-2), 2) := by decide +kernel
theorem dL_marks_136 : decode cL_marks 136 = .ok (.if_icmp .ne 7, 3) := by decide +kernel
theorem dL_marks_139 : decode cL_marks 139 = .ok (.iconst 1, 1) := by decide +kernel
theorem dL_marks_140 : decode cL_marks 140 = .ok (.goto 4, 3) := by decide +kernel
theorem dL_marks_143 : decode cL_marks 143 = .ok (.iconst 0, 1) := by decide +kernel
theorem dL_marks_144 : decode cL_marks 144 = .ok (.ireturn, 1) := by decide +kernel
theorem dL_adds_0 : decode cL_adds 0 = .ok (.iload_n 1, 1) := by decide +kernel
theorem dL_adds_1 : decode cL_adds 1 = .ok (.aload_n 0, 1) := by decide +kernel
theorem dL_adds_2 : decode cL_adds 2 = .ok (.iconst 0, 1) := by decide +kernel
theorem dL_adds_3 : decode cL_adds 3 = .ok (.invokevirtual 40, 3) := by decide +kernel
theorem dL_adds_6 : decode cL_adds 6 = .ok (.invokestatic 98, 3) := by decide +kernel
theorem dL_adds_9 : decode cL_adds 9 = .ok (.istore_n 3, 1) := by decide +kernel
theorem dL_adds_10 : decode cL_adds 10 = .ok (.iload_n 1, 1) := by decide +kernel
theorem dL_adds_11 : decode cL_adds 11 = .ok (.bipush 16, 2) := by decide +kernel
theorem dL_adds_13 : decode cL_adds 13 = .ok (.idiv, 1) := by decide +kernel
theorem dL_adds_14 : decode cL_adds 14 = .ok (.aload_n 0, 1) := by decide +kernel
theorem dL_adds_15 : decode cL_adds 15 = .ok (.iconst 1, 1) := by decide +kernel
theorem dL_adds_16 : decode cL_adds 16 = .ok (.invokevirtual 40, 3) := by decide +kernel
theorem dL_adds_19 : decode cL_adds 19 = .ok (.invokestatic 98, 3) := by decide +kernel
theorem dL_adds_22 : decode cL_adds 22 = .ok (.istore 4, 2) := by decide +kernel
theorem dL_adds_24 : decode cL_adds 24 = .ok (.iconst 1, 1) := by decide +kernel
theorem dL_adds_25 : decode cL_adds 25 = .ok (.iload_n 2, 1) := by decide +kernel
theorem dL_adds_26 : decode cL_adds 26 = .ok (.aload_n 0, 1) := by decide +kernel
theorem dL_adds_27 : decode cL_adds 27 = .ok (.iconst 0, 1) := by decide +kernel
theorem dL_adds_28 : decode cL_adds 28 = .ok (.invokevirtual 40, 3) := by decide +kernel
theorem dL_adds_31 : decode cL_adds 31 = .ok (.iload_n 3, 1) := by decide +kernel
theorem dL_adds_32 : decode cL_adds 32 = .ok (.isub, 1) := by decide +kernel
theorem dL_adds_33 : decode cL_adds 33 = .ok (.invokestatic 98, 3) := by decide +kernel
theorem dL_adds_36 : decode cL_adds 36 = .ok (.iadd, 1) := by decide +kernel
theorem dL_adds_37 : decode cL_adds 37 = .ok (.istore 5, 2) := by decide +kernel
theorem dL_adds_39 : decode cL_adds 39 = .ok (.iconst 1, 1) := by decide +kernel
theorem dL_adds_40 : decode cL_adds 40 = .ok (.iload_n 2, 1) := by decide +kernel
theorem dL_adds_41 : decode cL_adds 41 = .ok (.bipush 16, 2) := by decide +kernel
theorem dL_adds_43 : decode cL_adds 43 = .ok (.idiv, 1) := by decide +kernel
theorem dL_adds_44 : decode cL_adds 44 = .ok (.aload_n 0, 1) := by decide +kernel
theorem dL_adds_45 : decode cL_adds 45 = .ok (.iconst 1, 1) := by decide +kernel
theorem dL_adds_46 : decode cL_adds 46 = .ok (.invokevirtual 40, 3) := by decide +kernel
theorem dL_adds_49 : decode cL_adds 49 = .ok (.iload 4, 2) := by decide +kernel
theorem dL_adds_51 : decode cL_adds 51 = .ok (.isub, 1) := by decide +kernel
theorem dL_adds_52 : decode cL_adds 52 = .ok (.invokestatic 98, 3) := by decide +kernel
theorem dL_adds_55 : decode cL_adds 55 = .ok (.iadd, 1) := by decide +kernel
theorem dL_adds_56 : decode cL_adds 56 = .ok (.istore 6, 2) := by decide +kernel
theorem dL_adds_58 : decode cL_adds 58 = .ok (.iload 5, 2) := by decide +kernel
theorem dL_adds_60 : decode cL_adds 60 = .ok (.iconst 3, 1) := by decide +kernel
theorem dL_adds_61 : decode cL_adds 61 = .ok (.if_icmp .le 7, 3) := by decide +kernel
theorem dL_adds_64 : decode cL_adds 64 = .ok (.iconst 3, 1) := by decide +kernel
theorem dL_adds_65 : decode cL_adds 65 = .ok (.goto 5, 3) := by decide +kernel
theorem dL_adds_68 : decode cL_adds 68 = .ok (.iload 5, 2) := by decide +kernel
theorem dL_adds_70 : decode cL_adds 70 = .ok (.istore 5, 2) := by decide +kernel
theorem dL_adds_72 : decode cL_adds 72 = .ok (.iload 6, 2) := by decide +kernel
theorem dL_adds_74 : decode cL_adds 74 = .ok (.iconst 2, 1) := by decide +kernel
theorem dL_adds_75 : decode cL_adds 75 = .ok (.if_icmp .le 7, 3) := by decide +kernel
theorem dL_adds_78 : decode cL_adds 78 = .ok (.iconst 2, 1) := by decide +kernel
theorem dL_adds_79 : decode cL_adds 79 = .ok (.goto 5, 3) := by decide +kernel
theorem dL_adds_82 : decode cL_adds 82 = .ok (.iload 6, 2) := by decide +kernel
theorem dL_adds_84 : decode cL_adds 84 = .ok (.istore 6, 2) := by decide +kernel
theorem dL_adds_86 : decode cL_adds 86 = .ok (.aload_n 0, 1) := by decide +kernel
theorem dL_adds_87 : decode cL_adds 87 = .ok (.bipush 8, 2) := by decide +kernel
theorem dL_adds_89 : decode cL_adds 89 = .ok (.invokevirtual 40, 3) := by decide +kernel
theorem dL_adds_92 : decode cL_adds 92 = .ok (.istore 7, 2) := by decide +kernel
theorem dL_adds_94 : decode cL_adds 94 = .ok (.iload_n 2, 1) := by decide +kernel
theorem dL_adds_95 : decode cL_adds 95 = .ok (.sipush 256, 3) := by decide +kernel
theorem dL_adds_98 : decode cL_adds 98 = .ok (.idiv, 1) := by decide +kernel
theorem dL_adds_99 : decode cL_adds 99 = .ok (.iconst 4, 1) := by decide +kernel
theorem dL_adds_100 : decode cL_adds 100 = .ok (.invokestatic 98, 3) := by decide +kernel
theorem dL_adds_103 : decode cL_adds 103 = .ok (.ifCond .ne 15, 3) := by decide +kernel
theorem dL_adds_106 : decode cL_adds 106 = .ok (.aload_n 0, 1) := by decide +kernel
theorem dL_adds_107 : decode cL_adds 107 = .ok (.iload_n 3, 1) := by decide +kernel
theorem dL_adds_108 : decode cL_adds 108 = .ok (.iload 4, 2) := by decide +kernel
theorem dL_adds_110 : decode cL_adds 110 = .ok (.iload 5, 2) := by decide +kernel
theorem dL_adds_112 : decode cL_adds 112 = .ok (.invokestatic 104, 3) := by decide +kernel
theorem dL_adds_115 : decode cL_adds 115 = .ok (.goto 14, 3) := by decide +kernel
theorem dL_adds_118 : decode cL_adds 118 = .ok (.aload_n 0, 1) := by decide +kernel
theorem dL_adds_119 : decode cL_adds 119 = .ok (.iload_n 3, 1) := by decide +kernel
theorem dL_adds_120 : decode cL_adds 120 = .ok (.iload 4, 2) := by decide +kernel
theorem dL_adds_122 : decode cL_adds 122 = .ok (.iload 5, 2) := by decide +kernel
theorem dL_adds_124 : decode cL_adds 124 = .ok (.iload 6, 2) := by decide +kernel
theorem dL_adds_126 : decode cL_adds 126 = .ok (.invokestatic 108, 3) := by decide +kernel
theorem dL_adds_129 : decode cL_adds 129 = .ok (.istore 8, 2) := by decide +kernel
theorem dL_adds_131 : decode cL_adds 131 = .ok (.iload 8, 2) := by decide +kernel
theorem dL_adds_133 : decode cL_adds 133 = .ok (.iload 7, 2) := by decide +kernel
theorem dL_adds_135 : decode cL_adds 135 = .ok (.bipush 6, 2) := by decide +kernel
theorem dL_adds_137 : decode cL_adds 137 = .ok (.if_icmp .ne 8, 3) := by decide +kernel
theorem dL_adds_140 : decode cL_adds 140 = .ok (.bipush (-3), 2) := by decide +kernel
theorem dL_adds_142 : decode cL_adds 142 = .ok (.goto 5, 3) := by decide +kernel
theorem dL_adds_145 : decode cL_adds 145 = .ok (.iload 7, 2) := by decide +kernel
theorem dL_adds_147 : decode cL_adds 147 = .ok (.if_icmp .ne 61, 3) := by decide +kernel
theorem dL_adds_150 : decode cL_adds 150 = .ok (.iload 7, 2) := by decide +kernel
theorem dL_adds_152 : decode cL_adds 152 = .ok (.bipush 6, 2) := by decide +kernel
theorem dL_adds_154 : decode cL_adds 154 = .ok (.if_icmp .eq 50, 3) := by decide +kernel
theorem dL_adds_157 : decode cL_adds 157 = .ok (.aload_n 0, 1) := by decide +kernel
theorem dL_adds_158 : decode cL_adds 158 = .ok (.iload 7, 2) := by decide +kernel
theorem dL_adds_160 : decode cL_adds 160 = .ok (.bipush 6, 2) := by decide +kernel
theorem dL_adds_162 : decode cL_adds 162 = .ok (.invokevirtual 44, 3) := by decide +kernel
theorem dL_adds_165 : decode cL_adds 165 = .ok (.iconst (-1), 1) := by decide +kernel
theorem dL_adds_166 : decode cL_adds 166 = .ok (.if_icmp .ne 42, 3) := by decide +kernel
theorem dL_adds_169 : decode cL_adds 169 = .ok (.aload_n 0, 1) := by decide +kernel
theorem dL_adds_170 : decode cL_adds 170 = .ok (.iload 7, 2) := by decide +kernel
theorem dL_adds_172 : decode cL_adds 172 = .ok (.iconst 1, 1) := by decide +kernel
theorem dL_adds_173 : decode cL_adds 173 = .ok (.invokevirtual 44, 3) := by decide +kernel
theorem dL_adds_176 : decode cL_adds 176 = .ok (.iload_n 3, 1) := by decide +kernel
theorem dL_adds_177 : decode cL_adds 177 = .ok (.if_icmp .ne 31, 3) := by decide +kernel
theorem dL_adds_180 : decode cL_adds 180 = .ok (.aload_n 0, 1) := by decide +kernel
theorem dL_adds_181 : decode cL_adds 181 = .ok (.iload 7, 2) := by decide +kernel
theorem dL_adds_183 : decode cL_adds 183 = .ok (.iconst 2, 1) := by decide +kernel
theorem dL_adds_184 : decode cL_adds 184 = .ok (.invokevirtual 44, 3) := by decide +kernel
theorem dL_adds_187 : decode cL_adds 187 = .ok (.iload 4, 2) := by decide +kernel
theorem dL_adds_189 : decode cL_adds 189 = .ok (.if_icmp .ne 19, 3) := by decide +kernel
theorem dL_adds_192 : decode cL_adds 192 = .ok (.aload_n 0, 1) := by decide +kernel
theorem dL_adds_193 : decode cL_adds 193 = .ok (.iload 7, 2) := by decide +kernel
theorem dL_adds_195 : decode cL_adds 195 = .ok (.iconst 3, 1) := by decide +kernel
theorem dL_adds_196 : decode cL_adds 196 = .ok (.invokevirtual 44, 3) := by decide +kernel
theorem dL_adds_199 : decode cL_adds 199 = .ok (.iload 5, 2) := by decide +kernel
theorem dL_adds_201 : decode cL_adds 201 = .ok (.if_icmp .ne 7, 3) := by decide +kernel
theorem dL_adds_204 : decode cL_adds 204 = .ok (.iconst 1, 1) := by decide +kernel
theorem dL_adds_205 : decode cL_adds 205 = .ok (.goto 4, 3) := by decide +kernel
theorem dL_adds_208 : decode cL_adds 208 = .ok (.iconst 0, 1) := by decide +kernel
theorem dL_adds_209 : decode cL_adds 209 = .ok (.ireturn, 1) := by decide +kernel
theorem dL_strokes_0 : decode cL_strokes 0 = .ok (.aload_n 0, 1) := by decide +kernel
theorem dL_strokes_1 : decode cL_strokes 1 = .ok (.invokevirtual 112, 3) := by decide +kernel
theorem dL_strokes_4 : decode cL_strokes 4 = .ok (.istore_n 1, 1) := by decide +kernel
theorem dL_strokes_5 : decode cL_strokes 5 = .ok (.aload_n 0, 1) := by decide +kernel
theorem dL_strokes_6 : decode cL_strokes 6 = .ok (.bipush 12, 2) := by decide +kernel
theorem dL_strokes_8 : decode cL_strokes 8 = .ok (.invokevirtual 40, 3) := by decide +kernel
theorem dL_strokes_11 : decode cL_strokes 11 = .ok (.istore_n 2, 1) := by decide +kernel
theorem dL_strokes_12 : decode cL_strokes 12 = .ok (.aload_n 0, 1) := by decide +kernel
theorem dL_strokes_13 : decode cL_strokes 13 = .ok (.bipush 13, 2) := by decide +kernel
theorem dL_strokes_15 : decode cL_strokes 15 = .ok (.invokevirtual 40, 3) := by decide +kernel
theorem dL_strokes_18 : decode cL_strokes 18 = .ok (.istore_n 3, 1) := by decide +kernel
theorem dL_strokes_19 : decode cL_strokes 19 = .ok (.aload_n 0, 1) := by decide +kernel
theorem dL_strokes_20 : decode cL_strokes 20 = .ok (.invokevirtual 115, 3) := by decide +kernel
theorem dL_strokes_23 : decode cL_strokes 23 = .ok (.istore 4, 2) := by decide +kernel
theorem dL_strokes_25 : decode cL_strokes 25 = .ok (.aload_n 0, 1) := by decide +kernel
theorem dL_strokes_26 : decode cL_strokes 26 = .ok (.bipush 12, 2) := by decide +kernel
theorem dL_strokes_28 : decode cL_strokes 28 = .ok (.invokevirtual 40, 3) := by decide +kernel
theorem dL_strokes_31 : decode cL_strokes 31 = .ok (.iload_n 2, 1) := by decide +kernel
theorem dL_strokes_32 : decode cL_strokes 32 = .ok (.isub, 1) := by decide +kernel
theorem dL_strokes_33 : decode cL_strokes 33 = .ok (.istore 5, 2) := by decide +kernel
theorem dL_strokes_35 : decode cL_strokes 35 = .ok (.aload_n 0, 1) := by decide +kernel
theorem dL_strokes_36 : decode cL_strokes 36 = .ok (.bipush 13, 2) := by decide +kernel
theorem dL_strokes_38 : decode cL_strokes 38 = .ok (.invokevirtual 40, 3) := by decide +kernel
theorem dL_strokes_41 : decode cL_strokes 41 = .ok (.iload_n 3, 1) := by decide +kernel
theorem dL_strokes_42 : decode cL_strokes 42 = .ok (.isub, 1) := by decide +kernel
theorem dL_strokes_43 : decode cL_strokes 43 = .ok (.istore 6, 2) := by decide +kernel
theorem dL_strokes_45 : decode cL_strokes 45 = .ok (.iload 4, 2) := by decide +kernel
theorem dL_strokes_47 : decode cL_strokes 47 = .ok (.iload 5, 2) := by decide +kernel
theorem dL_strokes_49 : decode cL_strokes 49 = .ok (.iload 6, 2) := by decide +kernel
theorem dL_strokes_51 : decode cL_strokes 51 = .ok (.iadd, 1) := by decide +kernel
theorem dL_strokes_52 : decode cL_strokes 52 = .ok (.ifCond .ne 7, 3) := by decide +kernel
theorem dL_strokes_55 : decode cL_strokes 55 = .ok (.iconst 0, 1) := by decide +kernel
theorem dL_strokes_56 : decode cL_strokes 56 = .ok (.goto 13, 3) := by decide +kernel
theorem dL_strokes_59 : decode cL_strokes 59 = .ok (.iload 6, 2) := by decide +kernel
theorem dL_strokes_61 : decode cL_strokes 61 = .ok (.ifCond .ne 7, 3) := by decide +kernel
theorem dL_strokes_64 : decode cL_strokes 64 = .ok (.iconst 1, 1) := by decide +kernel
theorem dL_strokes_65 : decode cL_strokes 65 = .ok (.goto 4, 3) := by decide +kernel
theorem dL_strokes_68 : decode cL_strokes 68 = .ok (.iconst 2, 1) := by decide +kernel
theorem dL_strokes_69 : decode cL_strokes 69 = .ok (.if_icmp .ne 30, 3) := by decide +kernel
theorem dL_strokes_72 : decode cL_strokes 72 = .ok (.iload_n 1, 1) := by decide +kernel
theorem dL_strokes_73 : decode cL_strokes 73 = .ok (.iconst 1, 1) := by decide +kernel
theorem dL_strokes_74 : decode cL_strokes 74 = .ok (.if_icmp .ne 7, 3) := by decide +kernel
theorem dL_strokes_77 : decode cL_strokes 77 = .ok (.iconst 1, 1) := by decide +kernel
theorem dL_strokes_78 : decode cL_strokes 78 = .ok (.goto 4, 3) := by decide +kernel
theorem dL_strokes_81 : decode cL_strokes 81 = .ok (.iconst 0, 1) := by decide +kernel
theorem dL_strokes_82 : decode cL_strokes 82 = .ok (.iload 5, 2) := by decide +kernel
theorem dL_strokes_84 : decode cL_strokes 84 = .ok (.ifCond .le 7, 3) := by decide +kernel
theorem dL_strokes_87 : decode cL_strokes 87 = .ok (.iconst 1, 1) := by decide +kernel
theorem dL_strokes_88 : decode cL_strokes 88 = .ok (.goto 4, 3) := by decide +kernel
theorem dL_strokes_91 : decode cL_strokes 91 = .ok (.iconst 0, 1) := by decide +kernel
theorem dL_strokes_92 : decode cL_strokes 92 = .ok (.if_icmp .ne 7, 3) := by decide +kernel
theorem dL_strokes_95 : decode cL_strokes 95 = .ok (.iconst 1, 1) := by decide +kernel
theorem dL_strokes_96 : decode cL_strokes 96 = .ok (.goto 4, 3) := by decide +kernel
theorem dL_strokes_99 : decode cL_strokes 99 = .ok (.iconst 0, 1) := by decide +kernel
theorem dL_strokes_100 : decode cL_strokes 100 = .ok (.istore 7, 2) := by decide +kernel
theorem dL_strokes_102 : decode cL_strokes 102 = .ok (.iload 7, 2) := by decide +kernel
theorem dL_strokes_104 : decode cL_strokes 104 = .ok (.ifCond .eq 22, 3) := by decide +kernel
theorem dL_strokes_107 : decode cL_strokes 107 = .ok (.iload_n 1, 1) := by decide +kernel
theorem dL_strokes_108 : decode cL_strokes 108 = .ok (.iconst 2, 1) := by decide +kernel
theorem dL_strokes_109 : decode cL_strokes 109 = .ok (.if_icmp .lt 13, 3) := by decide +kernel
theorem dL_strokes_112 : decode cL_strokes 112 = .ok (.aload_n 0, 1) := by decide +kernel
theorem dL_strokes_113 : decode cL_strokes 113 = .ok (.invokevirtual 112, 3) := by decide +kernel
theorem dL_strokes_116 : decode cL_strokes 116 = .ok (.iload_n 1, 1) := by decide +kernel
theorem dL_strokes_117 : decode cL_strokes 117 = .ok (.iconst 1, 1) := by decide +kernel
theorem dL_strokes_118 : decode cL_strokes 118 = .ok (.isub, 1) := by decide +kernel
theorem dL_strokes_119 : decode cL_strokes 119 = .ok (.if_icmp .ne 7, 3) := by decide +kernel
theorem dL_strokes_122 : decode cL_strokes 122 = .ok (.iconst 1, 1) := by decide +kernel
theorem dL_strokes_123 : decode cL_strokes 123 = .ok (.goto 4, 3) := by decide +kernel
theorem dL_strokes_126 : decode cL_strokes 126 = .ok (.iconst 0, 1) := by decide +kernel
theorem dL_strokes_127 : decode cL_strokes 127 = .ok (.ireturn, 1) := by decide +kernel
theorem dL_acts_0 : decode cL_acts 0 = .ok (.iload_n 1, 1) := by decide +kernel
theorem dL_acts_1 : decode cL_acts 1 = .ok (.bipush 18, 2) := by decide +kernel
theorem dL_acts_3 : decode cL_acts 3 = .ok (.invokestatic 98, 3) := by decide +kernel
theorem dL_acts_6 : decode cL_acts 6 = .ok (.istore 4, 2) := by decide +kernel
theorem dL_acts_8 : decode cL_acts 8 = .ok (.aload_n 0, 1) := by decide +kernel
theorem dL_acts_9 : decode cL_acts 9 = .ok (.bipush 8, 2) := by decide +kernel
theorem dL_acts_11 : decode cL_acts 11 = .ok (.invokevirtual 40, 3) := by decide +kernel
theorem dL_acts_14 : decode cL_acts 14 = .ok (.istore 5, 2) := by decide +kernel
theorem dL_acts_16 : decode cL_acts 16 = .ok (.iconst 1, 1) := by decide +kernel
theorem dL_acts_17 : decode cL_acts 17 = .ok (.istore 6, 2) := by decide +kernel
theorem dL_acts_19 : decode cL_acts 19 = .ok (.iload 4, 2) := by decide +kernel
theorem dL_acts_21 : decode cL_acts 21 = .ok (.iconst 3, 1) := by decide +kernel
theorem dL_acts_22 : decode cL_acts 22 = .ok (.if_icmp .ge 14, 3) := by decide +kernel
theorem dL_acts_25 : decode cL_acts 25 = .ok (.aload_n 0, 1) := by decide +kernel
theorem dL_acts_26 : decode cL_acts 26 = .ok (.iload_n 2, 1) := by decide +kernel
theorem dL_acts_27 : decode cL_acts 27 = .ok (.iload_n 3, 1) := by decide +kernel
theorem dL_acts_28 : decode cL_acts 28 = .ok (.invokestatic 118, 3) := by decide +kernel
theorem dL_acts_31 : decode cL_acts 31 = .ok (.istore 6, 2) := by decide +kernel
theorem dL_acts_33 : decode cL_acts 33 = .ok (.goto 407, 3) := by decide +kernel
theorem dL_acts_36 : decode cL_acts 36 = .ok (.iload 4, 2) := by decide +kernel
theorem dL_acts_38 : decode cL_acts 38 = .ok (.bipush 6, 2) := by decide +kernel
theorem dL_acts_40 : decode cL_acts 40 = .ok (.if_icmp .ge 14, 3) := by decide +kernel
theorem dL_acts_43 : decode cL_acts 43 = .ok (.aload_n 0, 1) := by decide +kernel
theorem dL_acts_44 : decode cL_acts 44 = .ok (.iload_n 2, 1) := by decide +kernel
theorem dL_acts_45 : decode cL_acts 45 = .ok (.iload_n 3, 1) := by decide +kernel
theorem dL_acts_46 : decode cL_acts 46 = .ok (.invokestatic 122, 3) := by decide +kernel
theorem dL_acts_49 : decode cL_acts 49 = .ok (.istore 6, 2) := by decide +kernel
theorem dL_acts_51 : decode cL_acts 51 = .ok (.goto 389, 3) := by decide +kernel
theorem dL_acts_54 : decode cL_acts 54 = .ok (.iload 4, 2) := by decide +kernel
theorem dL_acts_56 : decode cL_acts 56 = .ok (.bipush 9, 2) := by decide +kernel
theorem dL_acts_58 : decode cL_acts 58 = .ok (.if_icmp .ge 82, 3) := by decide +kernel
theorem dL_acts_61 : decode cL_acts 61 = .ok (.iload_n 2, 1) := by decide +kernel
theorem dL_acts_62 : decode cL_acts 62 = .ok (.bipush 7, 2) := by decide +kernel
theorem dL_acts_64 : decode cL_acts 64 = .ok (.invokestatic 98, 3) := by decide +kernel
theorem dL_acts_67 : decode cL_acts 67 = .ok (.istore 7, 2) := by decide +kernel
theorem dL_acts_69 : decode cL_acts 69 = .ok (.iload_n 3, 1) := by decide +kernel
theorem dL_acts_70 : decode cL_acts 70 = .ok (.bipush 9, 2) := by decide +kernel
theorem dL_acts_72 : decode cL_acts 72 = .ok (.invokestatic 98, 3) := by decide +kernel
theorem dL_acts_75 : decode cL_acts 75 = .ok (.iconst 1, 1) := by decide +kernel
theorem dL_acts_76 : decode cL_acts 76 = .ok (.isub, 1) := by decide +kernel
theorem dL_acts_77 : decode cL_acts 77 = .ok (.istore 8, 2) := by decide +kernel
theorem dL_acts_79 : decode cL_acts 79 = .ok (.aload_n 0, 1) := by decide +kernel
theorem dL_acts_80 : decode cL_acts 80 = .ok (.iload 7, 2) := by decide +kernel
theorem dL_acts_82 : decode cL_acts 82 = .ok (.iload 8, 2) := by decide +kernel
theorem dL_acts_84 : decode cL_acts 84 = .ok (.invokestatic 125, 3) := by decide +kernel
theorem dL_acts_87 : decode cL_acts 87 = .ok (.istore 9, 2) := by decide +kernel
theorem dL_acts_89 : decode cL_acts 89 = .ok (.iload 7, 2) := by decide +kernel
theorem dL_acts_91 : decode cL_acts 91 = .ok (.iload 5, 2) := by decide +kernel
theorem dL_acts_93 : decode cL_acts 93 = .ok (.if_icmp .lt 18, 3) := by decide +kernel
theorem dL_acts_96 : decode cL_acts 96 = .ok (.iload 9, 2) := by decide +kernel
theorem dL_acts_98 : decode cL_acts 98 = .ok (.bipush (-4), 2) := by decide +kernel
theorem dL_acts_100 : decode cL_acts 100 = .ok (.if_icmp .ne 7, 3) := by decide +kernel
theorem dL_acts_103 : decode cL_acts 103 = .ok (.iconst 1, 1) := by decide +kernel
theorem dL_acts_104 : decode cL_acts 104 = .ok (.goto 31, 3) := by decide +kernel
theorem dL_acts_107 : decode cL_acts 107 = .ok (.iconst 0, 1) := by decide +kernel
theorem dL_acts_108 : decode cL_acts 108 = .ok (.goto 27, 3) := by decide +kernel
theorem dL_acts_111 : decode cL_acts 111 = .ok (.iload 9, 2) := by decide +kernel
theorem dL_acts_113 : decode cL_acts 113 = .ok (.iconst (-1), 1) := by decide +kernel
theorem dL_acts_114 : decode cL_acts 114 = .ok (.if_icmp .lt 20, 3) := by decide +kernel
theorem dL_acts_117 : decode cL_acts 117 = .ok (.aload_n 0, 1) := by decide +kernel
theorem dL_acts_118 : decode cL_acts 118 = .ok (.iload 7, 2) := by decide +kernel
theorem dL_acts_120 : decode cL_acts 120 = .ok (.bipush 6, 2) := by decide +kernel
theorem dL_acts_122 : decode cL_acts 122 = .ok (.invokevirtual 44, 3) := by decide +kernel
theorem dL_acts_125 : decode cL_acts 125 = .ok (.iload 8, 2) := by decide +kernel
theorem dL_acts_127 : decode cL_acts 127 = .ok (.if_icmp .ne 7, 3) := by decide +kernel
theorem dL_acts_130 : decode cL_acts 130 = .ok (.iconst 1, 1) := by decide +kernel
theorem dL_acts_131 : decode cL_acts 131 = .ok (.goto 4, 3) := by decide +kernel
theorem dL_acts_134 : decode cL_acts 134 = .ok (.iconst 0, 1) := by decide +kernel
theorem dL_acts_135 : decode cL_acts 135 = .ok (.istore 6, 2) := by decide +kernel
theorem dL_acts_137 : decode cL_acts 137 = .ok (.goto 303, 3) := by decide +kernel
theorem dL_acts_140 : decode cL_acts 140 = .ok (.iload 4, 2) := by decide +kernel
theorem dL_acts_142 : decode cL_acts 142 = .ok (.bipush 9, 2) := by decide +kernel
theorem dL_acts_144 : decode cL_acts 144 = .ok (.if_icmp .ne 64, 3) := by decide +kernel
theorem dL_acts_147 : decode cL_acts 147 = .ok (.aload_n 0, 1) := by decide +kernel
theorem dL_acts_148 : decode cL_acts 148 = .ok (.iconst (-1), 1) := by decide +kernel
theorem dL_acts_149 : decode cL_acts 149 = .ok (.invokevirtual 79, 3) := by decide +kernel
theorem dL_acts_152 : decode cL_acts 152 = .ok (.istore 7, 2) := by decide +kernel
theorem dL_acts_154 : decode cL_acts 154 = .ok (.aload_n 0, 1) := by decide +kernel
theorem dL_acts_155 : decode cL_acts 155 = .ok (.invokestatic 129, 3) := by decide +kernel
theorem dL_acts_158 : decode cL_acts 158 = .ok (.iload 7, 2) := by decide +kernel
theorem dL_acts_160 : decode cL_acts 160 = .ok (.iconst (-1), 1) := by decide +kernel
theorem dL_acts_161 : decode cL_acts 161 = .ok (.if_icmp .ne 8, 3) := by decide +kernel
theorem dL_acts_164 : decode cL_acts 164 = .ok (.bipush (-3), 2) := by decide +kernel
theorem dL_acts_166 : decode cL_acts 166 = .ok (.goto 5, 3) := by decide +kernel
theorem dL_acts_169 : decode cL_acts 169 = .ok (.iload 7, 2) := by decide +kernel
theorem dL_acts_171 : decode cL_acts 171 = .ok (.if_icmp .ne 31, 3) := by decide +kernel
theorem dL_acts_174 : decode cL_acts 174 = .ok (.iload 7, 2) := by decide +kernel
theorem dL_acts_176 : decode cL_acts 176 = .ok (.iconst (-1), 1) := by decide +kernel
theorem dL_acts_177 : decode cL_acts 177 = .ok (.if_icmp .eq 21, 3) := by decide +kernel
theorem dL_acts_180 : decode cL_acts 180 = .ok (.aload_n 0, 1) := by decide +kernel
theorem dL_acts_181 : decode cL_acts 181 = .ok (.invokevirtual 76, 3) := by decide +kernel
theorem dL_acts_184 : decode cL_acts 184 = .ok (.ifCond .ne 18, 3) := by decide +kernel
theorem dL_acts_187 : decode cL_acts 187 = .ok (.aload_n 0, 1) := by decide +kernel
theorem dL_acts_188 : decode cL_acts 188 = .ok (.bipush 9, 2) := by decide +kernel
theorem dL_acts_190 : decode cL_acts 190 = .ok (.invokevirtual 40, 3) := by decide +kernel
theorem dL_acts_193 : decode cL_acts 193 = .ok (.iload 7, 2) := by decide +kernel
theorem dL_acts_195 : decode cL_acts 195 = .ok (.if_icmp .ne 7, 3) := by decide +kernel
theorem dL_acts_198 : decode cL_acts 198 = .ok (.iconst 1, 1) := by decide +kernel
theorem dL_acts_199 : decode cL_acts 199 = .ok (.goto 4, 3) := by decide +kernel
theorem dL_acts_202 : decode cL_acts 202 = .ok (.iconst 0, 1) := by decide +kernel
theorem dL_acts_203 : decode cL_acts 203 = .ok (.istore 6, 2) := by decide +kernel
theorem dL_acts_205 : decode cL_acts 205 = .ok (.goto 235, 3) := by decide +kernel
theorem dL_acts_208 : decode cL_acts 208 = .ok (.iload 4, 2) := by decide +kernel
theorem dL_acts_210 : decode cL_acts 210 = .ok (.bipush 10, 2) := by decide +kernel
theorem dL_acts_212 : decode cL_acts 212 = .ok (.if_icmp .ne 50, 3) := by decide +kernel
theorem dL_acts_215 : decode cL_acts 215 = .ok (.aload_n 0, 1) := by decide +kernel
theorem dL_acts_216 : decode cL_acts 216 = .ok (.iload_n 2, 1) := by decide +kernel
theorem dL_acts_217 : decode cL_acts 217 = .ok (.iconst 5, 1) := by decide +kernel
theorem dL_acts_218 : decode cL_acts 218 = .ok (.invokestatic 98, 3) := by decide +kernel
theorem dL_acts_221 : decode cL_acts 221 = .ok (.iconst 1, 1) := by decide +kernel
theorem dL_acts_222 : decode cL_acts 222 = .ok (.iload_n 3, 1) := by decide +kernel
theorem dL_acts_223 : decode cL_acts 223 = .ok (.iconst 3, 1) := by decide +kernel
theorem dL_acts_224 : decode cL_acts 224 = .ok (.invokestatic 98, 3) := by decide +kernel
theorem dL_acts_227 : decode cL_acts 227 = .ok (.iadd, 1) := by decide +kernel
theorem dL_acts_228 : decode cL_acts 228 = .ok (.invokevirtual 132, 3) := by decide +kernel
theorem dL_acts_231 : decode cL_acts 231 = .ok (.ifCond .lt 25, 3) := by decide +kernel
theorem dL_acts_234 : decode cL_acts 234 = .ok (.aload_n 0, 1) := by decide +kernel
theorem dL_acts_235 : decode cL_acts 235 = .ok (.iconst 0, 1) := by decide +kernel
theorem dL_acts_236 : decode cL_acts 236 = .ok (.bipush 20, 2) := by decide +kernel
theorem dL_acts_238 : decode cL_acts 238 = .ok (.iload_n 2, 1) := by decide +kernel
theorem dL_acts_239 : decode cL_acts 239 = .ok (.bipush 40, 2) := by decide +kernel
theorem dL_acts_241 : decode cL_acts 241 = .ok (.invokestatic 98, 3) := by decide +kernel
theorem dL_acts_244 : decode cL_acts 244 = .ok (.iadd, 1) := by decide +kernel
theorem dL_acts_245 : decode cL_acts 245 = .ok (.invokevirtual 132, 3) := by decide +kernel
theorem dL_acts_248 : decode cL_acts 248 = .ok (.iconst 1, 1) := by decide +kernel
theorem dL_acts_249 : decode cL_acts 249 = .ok (.if_icmp .lt 7, 3) := by decide +kernel
theorem dL_acts_252 : decode cL_acts 252 = .ok (.iconst 1, 1) := by decide +kernel
theorem dL_acts_253 : decode cL_acts 253 = .ok (.goto 4, 3) := by decide +kernel
theorem dL_acts_256 : decode cL_acts 256 = .ok (.iconst 0, 1) := by decide +kernel
theorem dL_acts_257 : decode cL_acts 257 = .ok (.istore 6, 2) := by decide +kernel
theorem dL_acts_259 : decode cL_acts 259 = .ok (.goto 181, 3) := by decide +kernel
theorem dL_acts_262 : decode cL_acts 262 = .ok (.iload 4, 2) := by decide +kernel
theorem dL_acts_264 : decode cL_acts 264 = .ok (.bipush 11, 2) := by decide +kernel
theorem dL_acts_266 : decode cL_acts 266 = .ok (.if_icmp .ne 38, 3) := by decide +kernel
theorem dL_acts_269 : decode cL_acts 269 = .ok (.aload_n 0, 1) := by decide +kernel
theorem dL_acts_270 : decode cL_acts 270 = .ok (.iload_n 2, 1) := by decide +kernel
theorem dL_acts_271 : decode cL_acts 271 = .ok (.iconst 3, 1) := by decide +kernel
theorem dL_acts_272 : decode cL_acts 272 = .ok (.invokestatic 98, 3) := by decide +kernel
theorem dL_acts_275 : decode cL_acts 275 = .ok (.invokevirtual 135, 3) := by decide +kernel
theorem dL_acts_278 : decode cL_acts 278 = .ok (.ifCond .lt 20, 3) := by decide +kernel
theorem dL_acts_281 : decode cL_acts 281 = .ok (.aload_n 0, 1) := by decide +kernel
theorem dL_acts_282 : decode cL_acts 282 = .ok (.iconst 2, 1) := by decide +kernel
theorem dL_acts_283 : decode cL_acts 283 = .ok (.invokevirtual 40, 3) := by decide +kernel
theorem dL_acts_286 : decode cL_acts 286 = .ok (.iload_n 2, 1) := by decide +kernel
theorem dL_acts_287 : decode cL_acts 287 = .ok (.iconst 3, 1) := by decide +kernel
theorem dL_acts_288 : decode cL_acts 288 = .ok (.invokestatic 98, 3) := by decide +kernel
theorem dL_acts_291 : decode cL_acts 291 = .ok (.if_icmp .ne 7, 3) := by decide +kernel
theorem dL_acts_294 : decode cL_acts 294 = .ok (.iconst 1, 1) := by decide +kernel
theorem dL_acts_295 : decode cL_acts 295 = .ok (.goto 4, 3) := by decide +kernel
theorem dL_acts_298 : decode cL_acts 298 = .ok (.iconst 0, 1) := by decide +kernel
theorem dL_acts_299 : decode cL_acts 299 = .ok (.istore 6, 2) := by decide +kernel
theorem dL_acts_301 : decode cL_acts 301 = .ok (.goto 139, 3) := by decide +kernel
theorem dL_acts_304 : decode cL_acts 304 = .ok (.iload 4, 2) := by decide +kernel
theorem dL_acts_306 : decode cL_acts 306 = .ok (.bipush 12, 2) := by decide +kernel
theorem dL_acts_308 : decode cL_acts 308 = .ok (.if_icmp .ne 72, 3) := by decide +kernel
theorem dL_acts_311 : decode cL_acts 311 = .ok (.aload_n 0, 1) := by decide +kernel
theorem dL_acts_312 : decode cL_acts 312 = .ok (.iload_n 2, 1) := by decide +kernel
theorem dL_acts_313 : decode cL_acts 313 = .ok (.bipush 8, 2) := by decide +kernel
theorem dL_acts_315 : decode cL_acts 315 = .ok (.invokestatic 98, 3) := by decide +kernel
theorem dL_acts_318 : decode cL_acts 318 = .ok (.iload_n 3, 1) := by decide +kernel
theorem dL_acts_319 : decode cL_acts 319 = .ok (.iconst 2, 1) := by decide +kernel
theorem dL_acts_320 : decode cL_acts 320 = .ok (.invokestatic 98, 3) := by decide +kernel
theorem dL_acts_323 : decode cL_acts 323 = .ok (.ifCond .ne 7, 3) := by decide +kernel
theorem dL_acts_326 : decode cL_acts 326 = .ok (.iconst 1, 1) := by decide +kernel
theorem dL_acts_327 : decode cL_acts 327 = .ok (.goto 4, 3) := by decide +kernel
theorem dL_acts_330 : decode cL_acts 330 = .ok (.iconst 0, 1) := by decide +kernel
theorem dL_acts_331 : decode cL_acts 331 = .ok (.invokevirtual 138, 3) := by decide +kernel
theorem dL_acts_334 : decode cL_acts 334 = .ok (.aload_n 0, 1) := by decide +kernel
theorem dL_acts_335 : decode cL_acts 335 = .ok (.bipush 15, 2) := by decide +kernel
theorem dL_acts_337 : decode cL_acts 337 = .ok (.invokevirtual 40, 3) := by decide +kernel
theorem dL_acts_340 : decode cL_acts 340 = .ok (.if_icmp .ne 34, 3) := by decide +kernel
theorem dL_acts_343 : decode cL_acts 343 = .ok (.aload_n 0, 1) := by decide +kernel
theorem dL_acts_344 : decode cL_acts 344 = .ok (.iload_n 2, 1) := by decide +kernel
theorem dL_acts_345 : decode cL_acts 345 = .ok (.bipush 8, 2) := by decide +kernel
theorem dL_acts_347 : decode cL_acts 347 = .ok (.invokestatic 98, 3) := by decide +kernel
theorem dL_acts_350 : decode cL_acts 350 = .ok (.iconst 2, 1) := by decide +kernel
theorem dL_acts_351 : decode cL_acts 351 = .ok (.invokevirtual 73, 3) := by decide +kernel
theorem dL_acts_354 : decode cL_acts 354 = .ok (.iload_n 3, 1) := by decide +kernel
theorem dL_acts_355 : decode cL_acts 355 = .ok (.iconst 2, 1) := by decide +kernel
theorem dL_acts_356 : decode cL_acts 356 = .ok (.invokestatic 98, 3) := by decide +kernel
theorem dL_acts_359 : decode cL_acts 359 = .ok (.ifCond .ne 7, 3) := by decide +kernel
theorem dL_acts_362 : decode cL_acts 362 = .ok (.iconst 1, 1) := by decide +kernel
theorem dL_acts_363 : decode cL_acts 363 = .ok (.goto 4, 3) := by decide +kernel
theorem dL_acts_366 : decode cL_acts 366 = .ok (.iconst 0, 1) := by decide +kernel
theorem dL_acts_367 : decode cL_acts 367 = .ok (.if_icmp .ne 7, 3) := by decide +kernel
theorem dL_acts_370 : decode cL_acts 370 = .ok (.iconst 1, 1) := by decide +kernel
theorem dL_acts_371 : decode cL_acts 371 = .ok (.goto 4, 3) := by decide +kernel
theorem dL_acts_374 : decode cL_acts 374 = .ok (.iconst 0, 1) := by decide +kernel
theorem dL_acts_375 : decode cL_acts 375 = .ok (.istore 6, 2) := by decide +kernel
theorem dL_acts_377 : decode cL_acts 377 = .ok (.goto 63, 3) := by decide +kernel
theorem dL_acts_380 : decode cL_acts 380 = .ok (.iload 4, 2) := by decide +kernel
theorem dL_acts_382 : decode cL_acts 382 = .ok (.bipush 13, 2) := by decide +kernel
theorem dL_acts_384 : decode cL_acts 384 = .ok (.if_icmp .ne 11, 3) := by decide +kernel
theorem dL_acts_387 : decode cL_acts 387 = .ok (.aload_n 0, 1) := by decide +kernel
theorem dL_acts_388 : decode cL_acts 388 = .ok (.invokestatic 142, 3) := by decide +kernel
theorem dL_acts_391 : decode cL_acts 391 = .ok (.pop, 1) := by decide +kernel
theorem dL_acts_392 : decode cL_acts 392 = .ok (.goto 48, 3) := by decide +kernel
theorem dL_acts_395 : decode cL_acts 395 = .ok (.iload 4, 2) := by decide +kernel
theorem dL_acts_397 : decode cL_acts 397 = .ok (.bipush 14, 2) := by decide +kernel
theorem dL_acts_399 : decode cL_acts 399 = .ok (.if_icmp .ne 35, 3) := by decide +kernel
theorem dL_acts_402 : decode cL_acts 402 = .ok (.iload 5, 2) := by decide +kernel
theorem dL_acts_404 : decode cL_acts 404 = .ok (.ifCond .eq 20, 3) := by decide +kernel
theorem dL_acts_407 : decode cL_acts 407 = .ok (.aload_n 0, 1) := by decide +kernel
theorem dL_acts_408 : decode cL_acts 408 = .ok (.iload_n 2, 1) := by decide +kernel
theorem dL_acts_409 : decode cL_acts 409 = .ok (.iload 5, 2) := by decide +kernel
theorem dL_acts_411 : decode cL_acts 411 = .ok (.invokestatic 98, 3) := by decide +kernel
theorem dL_acts_414 : decode cL_acts 414 = .ok (.invokevirtual 144, 3) := by decide +kernel
theorem dL_acts_417 : decode cL_acts 417 = .ok (.iload 5, 2) := by decide +kernel
theorem dL_acts_419 : decode cL_acts 419 = .ok (.iconst 1, 1) := by decide +kernel
theorem dL_acts_420 : decode cL_acts 420 = .ok (.isub, 1) := by decide +kernel
theorem dL_acts_421 : decode cL_acts 421 = .ok (.if_icmp .ne 7, 3) := by decide +kernel
theorem dL_acts_424 : decode cL_acts 424 = .ok (.iconst 1, 1) := by decide +kernel
theorem dL_acts_425 : decode cL_acts 425 = .ok (.goto 4, 3) := by decide +kernel
theorem dL_acts_428 : decode cL_acts 428 = .ok (.iconst 0, 1) := by decide +kernel
theorem dL_acts_429 : decode cL_acts 429 = .ok (.istore 6, 2) := by decide +kernel
theorem dL_acts_431 : decode cL_acts 431 = .ok (.goto 9, 3) := by decide +kernel
theorem dL_acts_434 : decode cL_acts 434 = .ok (.aload_n 0, 1) := by decide +kernel
theorem dL_acts_435 : decode cL_acts 435 = .ok (.invokestatic 147, 3) := by decide +kernel
theorem dL_acts_438 : decode cL_acts 438 = .ok (.istore 6, 2) := by decide +kernel
theorem dL_acts_440 : decode cL_acts 440 = .ok (.iload 6, 2) := by decide +kernel
theorem dL_acts_442 : decode cL_acts 442 = .ok (.ireturn, 1) := by decide +kernel
theorem dL_law_0 : decode cL_law 0 = .ok (.new 10, 3) := by decide +kernel
theorem dL_law_3 : decode cL_law 3 = .ok (.dup, 1) := by decide +kernel
theorem dL_law_4 : decode cL_law 4 = .ok (.invokespecial 150, 3) := by decide +kernel
theorem dL_law_7 : decode cL_law 7 = .ok (.astore_n 1, 1) := by decide +kernel
theorem dL_law_8 : decode cL_law 8 = .ok (.aload_n 1, 1) := by decide +kernel
theorem dL_law_9 : decode cL_law 9 = .ok (.iconst 2, 1) := by decide +kernel
theorem dL_law_10 : decode cL_law 10 = .ok (.aload_n 0, 1) := by decide +kernel
theorem dL_law_11 : decode cL_law 11 = .ok (.sipush 190, 3) := by decide +kernel
theorem dL_law_14 : decode cL_law 14 = .ok (.invokestatic 151, 3) := by decide +kernel
theorem dL_law_17 : decode cL_law 17 = .ok (.bipush 6, 2) := by decide +kernel
theorem dL_law_19 : decode cL_law 19 = .ok (.invokestatic 98, 3) := by decide +kernel
theorem dL_law_22 : decode cL_law 22 = .ok (.iadd, 1) := by decide +kernel
theorem dL_law_23 : decode cL_law 23 = .ok (.iconst 2, 1) := by decide +kernel
theorem dL_law_24 : decode cL_law 24 = .ok (.aload_n 0, 1) := by decide +kernel
theorem dL_law_25 : decode cL_law 25 = .ok (.sipush 191, 3) := by decide +kernel
theorem dL_law_28 : decode cL_law 28 = .ok (.invokestatic 151, 3) := by decide +kernel
theorem dL_law_31 : decode cL_law 31 = .ok (.iconst 4, 1) := by decide +kernel
theorem dL_law_32 : decode cL_law 32 = .ok (.invokestatic 98, 3) := by decide +kernel
theorem dL_law_35 : decode cL_law 35 = .ok (.iadd, 1) := by decide +kernel
theorem dL_law_36 : decode cL_law 36 = .ok (.invokevirtual 155, 3) := by decide +kernel
theorem dL_law_39 : decode cL_law 39 = .ok (.pop, 1) := by decide +kernel
theorem dL_law_40 : decode cL_law 40 = .ok (.aload_n 1, 1) := by decide +kernel
theorem dL_law_41 : decode cL_law 41 = .ok (.invokestatic 158, 3) := by decide +kernel
theorem dL_law_44 : decode cL_law 44 = .ok (.istore_n 2, 1) := by decide +kernel
theorem dL_law_45 : decode cL_law 45 = .ok (.iconst 0, 1) := by decide +kernel
theorem dL_law_46 : decode cL_law 46 = .ok (.istore_n 3, 1) := by decide +kernel
theorem dL_law_47 : decode cL_law 47 = .ok (.iload_n 3, 1) := by decide +kernel
theorem dL_law_48 : decode cL_law 48 = .ok (.bipush 6, 2) := by decide +kernel
theorem dL_law_50 : decode cL_law 50 = .ok (.if_icmp .ge 66, 3) := by decide +kernel
theorem dL_law_53 : decode cL_law 53 = .ok (.iload_n 2, 1) := by decide +kernel
theorem dL_law_54 : decode cL_law 54 = .ok (.ifCond .eq 62, 3) := by decide +kernel
theorem dL_law_57 : decode cL_law 57 = .ok (.iload_n 3, 1) := by decide +kernel
theorem dL_law_58 : decode cL_law 58 = .ok (.iconst 3, 1) := by decide +kernel
theorem dL_law_59 : decode cL_law 59 = .ok (.if_icmp .ge 28, 3) := by decide +kernel
theorem dL_law_62 : decode cL_law 62 = .ok (.aload_n 1, 1) := by decide +kernel
theorem dL_law_63 : decode cL_law 63 = .ok (.aload_n 0, 1) := by decide +kernel
theorem dL_law_64 : decode cL_law 64 = .ok (.sipush 200, 3) := by decide +kernel
theorem dL_law_67 : decode cL_law 67 = .ok (.iload_n 3, 1) := by decide +kernel
theorem dL_law_68 : decode cL_law 68 = .ok (.iadd, 1) := by decide +kernel
theorem dL_law_69 : decode cL_law 69 = .ok (.invokestatic 151, 3) := by decide +kernel
theorem dL_law_72 : decode cL_law 72 = .ok (.aload_n 0, 1) := by decide +kernel
theorem dL_law_73 : decode cL_law 73 = .ok (.sipush 220, 3) := by decide +kernel
theorem dL_law_76 : decode cL_law 76 = .ok (.iload_n 3, 1) := by decide +kernel
theorem dL_law_77 : decode cL_law 77 = .ok (.iadd, 1) := by decide +kernel
theorem dL_law_78 : decode cL_law 78 = .ok (.invokestatic 151, 3) := by decide +kernel
theorem dL_law_81 : decode cL_law 81 = .ok (.invokestatic 118, 3) := by decide +kernel
theorem dL_law_84 : decode cL_law 84 = .ok (.goto 25, 3) := by decide +kernel
theorem dL_law_87 : decode cL_law 87 = .ok (.aload_n 1, 1) := by decide +kernel
theorem dL_law_88 : decode cL_law 88 = .ok (.aload_n 0, 1) := by decide +kernel
theorem dL_law_89 : decode cL_law 89 = .ok (.sipush 200, 3) := by decide +kernel
theorem dL_law_92 : decode cL_law 92 = .ok (.iload_n 3, 1) := by decide +kernel
theorem dL_law_93 : decode cL_law 93 = .ok (.iadd, 1) := by decide +kernel
theorem dL_law_94 : decode cL_law 94 = .ok (.invokestatic 151, 3) := by decide +kernel
theorem dL_law_97 : decode cL_law 97 = .ok (.aload_n 0, 1) := by decide +kernel
theorem dL_law_98 : decode cL_law 98 = .ok (.sipush 220, 3) := by decide +kernel
theorem dL_law_101 : decode cL_law 101 = .ok (.iload_n 3, 1) := by decide +kernel
theorem dL_law_102 : decode cL_law 102 = .ok (.iadd, 1) := by decide +kernel
theorem dL_law_103 : decode cL_law 103 = .ok (.invokestatic 151, 3) := by decide +kernel
theorem dL_law_106 : decode cL_law 106 = .ok (.invokestatic 122, 3) := by decide +kernel
theorem dL_law_109 : decode cL_law 109 = .ok (.istore_n 2, 1) := by decide +kernel
theorem dL_law_110 : decode cL_law 110 = .ok (.iinc 3 1, 3) := by decide +kernel
theorem dL_law_113 : decode cL_law 113 = .ok (.goto (-66), 3) := by decide +kernel
theorem dL_law_116 : decode cL_law 116 = .ok (.iconst 0, 1) := by decide +kernel
theorem dL_law_117 : decode cL_law 117 = .ok (.istore_n 3, 1) := by decide +kernel
theorem dL_law_118 : decode cL_law 118 = .ok (.iload_n 3, 1) := by decide +kernel
theorem dL_law_119 : decode cL_law 119 = .ok (.bipush 30, 2) := by decide +kernel
theorem dL_law_121 : decode cL_law 121 = .ok (.if_icmp .ge 58, 3) := by decide +kernel
theorem dL_law_124 : decode cL_law 124 = .ok (.iload_n 2, 1) := by decide +kernel
theorem dL_law_125 : decode cL_law 125 = .ok (.ifCond .eq 54, 3) := by decide +kernel
theorem dL_law_128 : decode cL_law 128 = .ok (.aload_n 1, 1) := by decide +kernel
theorem dL_law_129 : decode cL_law 129 = .ok (.aload_n 0, 1) := by decide +kernel
theorem dL_law_130 : decode cL_law 130 = .ok (.iconst 3, 1) := by decide +kernel
theorem dL_law_131 : decode cL_law 131 = .ok (.iload_n 3, 1) := by decide +kernel
theorem dL_law_132 : decode cL_law 132 = .ok (.imul, 1) := by decide +kernel
theorem dL_law_133 : decode cL_law 133 = .ok (.invokestatic 151, 3) := by decide +kernel
theorem dL_law_136 : decode cL_law 136 = .ok (.aload_n 0, 1) := by decide +kernel
theorem dL_law_137 : decode cL_law 137 = .ok (.iconst 3, 1) := by decide +kernel
theorem dL_law_138 : decode cL_law 138 = .ok (.iload_n 3, 1) := by decide +kernel
theorem dL_law_139 : decode cL_law 139 = .ok (.imul, 1) := by decide +kernel
theorem dL_law_140 : decode cL_law 140 = .ok (.iconst 1, 1) := by decide +kernel
theorem dL_law_141 : decode cL_law 141 = .ok (.iadd, 1) := by decide +kernel
theorem dL_law_142 : decode cL_law 142 = .ok (.invokestatic 151, 3) := by decide +kernel
theorem dL_law_145 : decode cL_law 145 = .ok (.aload_n 0, 1) := by decide +kernel
theorem dL_law_146 : decode cL_law 146 = .ok (.iconst 3, 1) := by decide +kernel
theorem dL_law_147 : decode cL_law 147 = .ok (.iload_n 3, 1) := by decide +kernel
theorem dL_law_148 : decode cL_law 148 = .ok (.imul, 1) := by decide +kernel
theorem dL_law_149 : decode cL_law 149 = .ok (.iconst 2, 1) := by decide +kernel
theorem dL_law_150 : decode cL_law 150 = .ok (.iadd, 1) := by decide +kernel
theorem dL_law_151 : decode cL_law 151 = .ok (.invokestatic 151, 3) := by decide +kernel
theorem dL_law_154 : decode cL_law 154 = .ok (.invokestatic 161, 3) := by decide +kernel
theorem dL_law_157 : decode cL_law 157 = .ok (.ifCond .eq 14, 3) := by decide +kernel
theorem dL_law_160 : decode cL_law 160 = .ok (.aload_n 1, 1) := by decide +kernel
theorem dL_law_161 : decode cL_law 161 = .ok (.invokestatic 158, 3) := by decide +kernel
theorem dL_law_164 : decode cL_law 164 = .ok (.ifCond .eq 7, 3) := by decide +kernel
theorem dL_law_167 : decode cL_law 167 = .ok (.iconst 1, 1) := by decide +kernel
theorem dL_law_168 : decode cL_law 168 = .ok (.goto 4, 3) := by decide +kernel
theorem dL_law_171 : decode cL_law 171 = .ok (.iconst 0, 1) := by decide +kernel
theorem dL_law_172 : decode cL_law 172 = .ok (.istore_n 2, 1) := by decide +kernel
theorem dL_law_173 : decode cL_law 173 = .ok (.iinc 3 1, 3) := by decide +kernel
theorem dL_law_176 : decode cL_law 176 = .ok (.goto (-58), 3) := by decide +kernel
theorem dL_law_179 : decode cL_law 179 = .ok (.iload_n 2, 1) := by decide +kernel
theorem dL_law_180 : decode cL_law 180 = .ok (.ireturn, 1) := by decide +kernel
