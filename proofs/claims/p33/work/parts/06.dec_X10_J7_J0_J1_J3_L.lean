theorem dX10_isAmount_6 : decode cX10_isAmount 6 = .ok (.sipush 600, 3) := by decide +kernel
theorem dX10_isAmount_9 : decode cX10_isAmount 9 = .ok (.if_icmp .gt 7, 3) := by decide +kernel
theorem dX10_isAmount_12 : decode cX10_isAmount 12 = .ok (.iconst 1, 1) := by decide +kernel
theorem dX10_isAmount_13 : decode cX10_isAmount 13 = .ok (.goto 4, 3) := by decide +kernel
theorem dX10_isAmount_16 : decode cX10_isAmount 16 = .ok (.iconst 0, 1) := by decide +kernel
theorem dX10_isAmount_17 : decode cX10_isAmount 17 = .ok (.ireturn, 1) := by decide +kernel
theorem dJ7_fill_53178_0 : decode cJ7_fill_53178 0 = .ok (.iconst 0, 1) := by decide +kernel
theorem dJ7_fill_53178_1 : decode cJ7_fill_53178 1 = .ok (.istore_n 2, 1) := by decide +kernel
theorem dJ7_fill_53178_2 : decode cJ7_fill_53178 2 = .ok (.aload_n 0, 1) := by decide +kernel
theorem dJ7_fill_53178_3 : decode cJ7_fill_53178 3 = .ok (.arraylength, 1) := by decide +kernel
theorem dJ7_fill_53178_4 : decode cJ7_fill_53178 4 = .ok (.istore_n 3, 1) := by decide +kernel
theorem dJ7_fill_53178_5 : decode cJ7_fill_53178 5 = .ok (.iload_n 2, 1) := by decide +kernel
theorem dJ7_fill_53178_6 : decode cJ7_fill_53178 6 = .ok (.iload_n 3, 1) := by decide +kernel
theorem dJ7_fill_53178_7 : decode cJ7_fill_53178 7 = .ok (.if_icmp .ge 13, 3) := by decide +kernel
theorem dJ7_fill_53178_10 : decode cJ7_fill_53178 10 = .ok (.aload_n 0, 1) := by decide +kernel
theorem dJ7_fill_53178_11 : decode cJ7_fill_53178 11 = .ok (.iload_n 2, 1) := by decide +kernel
theorem dJ7_fill_53178_12 : decode cJ7_fill_53178 12 = .ok (.iload_n 1, 1) := by decide +kernel
theorem dJ7_fill_53178_13 : decode cJ7_fill_53178 13 = .ok (.iastore, 1) := by decide +kernel
theorem dJ7_fill_53178_14 : decode cJ7_fill_53178 14 = .ok (.iinc 2 1, 3) := by decide +kernel
theorem dJ7_fill_53178_17 : decode cJ7_fill_53178 17 = .ok (.goto (-12), 3) := by decide +kernel
theorem dJ7_fill_53178_20 : decode cJ7_fill_53178 20 = .ok (.return_, 1) := by decide +kernel
theorem dJ0_length_8abf5_0 : decode cJ0_length_8abf5 0 = .ok (.aload_n 0, 1) := by decide +kernel
theorem dJ0_length_8abf5_1 : decode cJ0_length_8abf5 1 = .ok (.getfield 9, 3) := by decide +kernel
theorem dJ0_length_8abf5_4 : decode cJ0_length_8abf5 4 = .ok (.arraylength, 1) := by decide +kernel
theorem dJ0_length_8abf5_5 : decode cJ0_length_8abf5 5 = .ok (.aload_n 0, 1) := by decide +kernel
theorem dJ0_length_8abf5_6 : decode cJ0_length_8abf5 6 = .ok (.invokevirtual 335, 3) := by decide +kernel
theorem dJ0_length_8abf5_9 : decode cJ0_length_8abf5 9 = .ok (.ishr, 1) := by decide +kernel
theorem dJ0_length_8abf5_10 : decode cJ0_length_8abf5 10 = .ok (.ireturn, 1) := by decide +kernel
theorem dJ0_charAt_5068e_0 : decode cJ0_charAt_5068e 0 = .ok (.aload_n 0, 1) := by decide +kernel
theorem dJ0_charAt_5068e_1 : decode cJ0_charAt_5068e 1 = .ok (.invokevirtual 492, 3) := by decide +kernel
theorem dJ0_charAt_5068e_4 : decode cJ0_charAt_5068e 4 = .ok (.ifCond .eq 12, 3) := by decide +kernel
theorem dJ0_charAt_5068e_7 : decode cJ0_charAt_5068e 7 = .ok (.aload_n 0, 1) := by decide +kernel
theorem dJ0_charAt_5068e_8 : decode cJ0_charAt_5068e 8 = .ok (.getfield 9, 3) := by decide +kernel
theorem dJ0_charAt_5068e_11 : decode cJ0_charAt_5068e 11 = .ok (.iload_n 1, 1) := by decide +kernel
theorem dJ0_charAt_5068e_12 : decode cJ0_charAt_5068e 12 = .ok (.invokestatic 495, 3) := by decide +kernel
theorem dJ0_charAt_5068e_15 : decode cJ0_charAt_5068e 15 = .ok (.ireturn, 1) := by decide +kernel
theorem dJ0_charAt_5068e_16 : decode cJ0_charAt_5068e 16 = .ok (.aload_n 0, 1) := by decide +kernel
theorem dJ0_charAt_5068e_17 : decode cJ0_charAt_5068e 17 = .ok (.getfield 9, 3) := by decide +kernel
theorem dJ0_charAt_5068e_20 : decode cJ0_charAt_5068e 20 = .ok (.iload_n 1, 1) := by decide +kernel
theorem dJ0_charAt_5068e_21 : decode cJ0_charAt_5068e 21 = .ok (.invokestatic 498, 3) := by decide +kernel
theorem dJ0_charAt_5068e_24 : decode cJ0_charAt_5068e 24 = .ok (.ireturn, 1) := by decide +kernel
theorem dJ0_coder_7d493_0 : decode cJ0_coder_7d493 0 = .ok (.getstatic 38, 3) := by decide +kernel
theorem dJ0_coder_7d493_3 : decode cJ0_coder_7d493 3 = .ok (.ifCond .eq 10, 3) := by decide +kernel
theorem dJ0_coder_7d493_6 : decode cJ0_coder_7d493 6 = .ok (.aload_n 0, 1) := by decide +kernel
theorem dJ0_coder_7d493_7 : decode cJ0_coder_7d493 7 = .ok (.getfield 15, 3) := by decide +kernel
theorem dJ0_coder_7d493_10 : decode cJ0_coder_7d493 10 = .ok (.goto 4, 3) := by decide +kernel
theorem dJ0_coder_7d493_13 : decode cJ0_coder_7d493 13 = .ok (.iconst 1, 1) := by decide +kernel
theorem dJ0_coder_7d493_14 : decode cJ0_coder_7d493 14 = .ok (.ireturn, 1) := by decide +kernel
theorem dJ0_isLatin1_aae02_0 : decode cJ0_isLatin1_aae02 0 = .ok (.getstatic 38, 3) := by decide +kernel
theorem dJ0_isLatin1_aae02_3 : decode cJ0_isLatin1_aae02 3 = .ok (.ifCond .eq 14, 3) := by decide +kernel
theorem dJ0_isLatin1_aae02_6 : decode cJ0_isLatin1_aae02 6 = .ok (.aload_n 0, 1) := by decide +kernel
theorem dJ0_isLatin1_aae02_7 : decode cJ0_isLatin1_aae02 7 = .ok (.getfield 15, 3) := by decide +kernel
theorem dJ0_isLatin1_aae02_10 : decode cJ0_isLatin1_aae02 10 = .ok (.ifCond .ne 7, 3) := by decide +kernel
theorem dJ0_isLatin1_aae02_13 : decode cJ0_isLatin1_aae02 13 = .ok (.iconst 1, 1) := by decide +kernel
theorem dJ0_isLatin1_aae02_14 : decode cJ0_isLatin1_aae02 14 = .ok (.goto 4, 3) := by decide +kernel
theorem dJ0_isLatin1_aae02_17 : decode cJ0_isLatin1_aae02 17 = .ok (.iconst 0, 1) := by decide +kernel
theorem dJ0_isLatin1_aae02_18 : decode cJ0_isLatin1_aae02 18 = .ok (.ireturn, 1) := by decide +kernel
theorem dJ0_checkIndex_df160_0 : decode cJ0_checkIndex_df160 0 = .ok (.iload_n 0, 1) := by decide +kernel
theorem dJ0_checkIndex_df160_1 : decode cJ0_checkIndex_df160 1 = .ok (.iload_n 1, 1) := by decide +kernel
theorem dJ0_checkIndex_df160_2 : decode cJ0_checkIndex_df160 2 = .ok (.getstatic 1053, 3) := by decide +kernel
theorem dJ0_checkIndex_df160_5 : decode cJ0_checkIndex_df160 5 = .ok (.invokestatic 1059, 3) := by decide +kernel
theorem dJ0_checkIndex_df160_8 : decode cJ0_checkIndex_df160 8 = .ok (.pop, 1) := by decide +kernel
theorem dJ0_checkIndex_df160_9 : decode cJ0_checkIndex_df160 9 = .ok (.return_, 1) := by decide +kernel
theorem dJ1_charAt_3b067_0 : decode cJ1_charAt_3b067 0 = .ok (.iload_n 1, 1) := by decide +kernel
theorem dJ1_charAt_3b067_1 : decode cJ1_charAt_3b067 1 = .ok (.aload_n 0, 1) := by decide +kernel
theorem dJ1_charAt_3b067_2 : decode cJ1_charAt_3b067 2 = .ok (.arraylength, 1) := by decide +kernel
theorem dJ1_charAt_3b067_3 : decode cJ1_charAt_3b067 3 = .ok (.invokestatic 9, 3) := by decide +kernel
theorem dJ1_charAt_3b067_6 : decode cJ1_charAt_3b067 6 = .ok (.aload_n 0, 1) := by decide +kernel
theorem dJ1_charAt_3b067_7 : decode cJ1_charAt_3b067 7 = .ok (.iload_n 1, 1) := by decide +kernel
theorem dJ1_charAt_3b067_8 : decode cJ1_charAt_3b067 8 = .ok (.baload, 1) := by decide +kernel
theorem dJ1_charAt_3b067_9 : decode cJ1_charAt_3b067 9 = .ok (.sipush 255, 3) := by decide +kernel
theorem dJ1_charAt_3b067_12 : decode cJ1_charAt_3b067 12 = .ok (.iand, 1) := by decide +kernel
theorem dJ1_charAt_3b067_13 : decode cJ1_charAt_3b067 13 = .ok (.i2c, 1) := by decide +kernel
theorem dJ1_charAt_3b067_14 : decode cJ1_charAt_3b067 14 = .ok (.ireturn, 1) := by decide +kernel
theorem dJ3_checkIndex_8e157_0 : decode cJ3_checkIndex_8e157 0 = .ok (.iload_n 0, 1) := by decide +kernel
theorem dJ3_checkIndex_8e157_1 : decode cJ3_checkIndex_8e157 1 = .ok (.ifCond .lt 8, 3) := by decide +kernel
theorem dJ3_checkIndex_8e157_4 : decode cJ3_checkIndex_8e157 4 = .ok (.iload_n 0, 1) := by decide +kernel
theorem dJ3_checkIndex_8e157_5 : decode cJ3_checkIndex_8e157 5 = .ok (.iload_n 1, 1) := by decide +kernel
theorem dJ3_checkIndex_8e157_6 : decode cJ3_checkIndex_8e157 6 = .ok (.if_icmp .lt 10, 3) := by decide +kernel
theorem dJ3_checkIndex_8e157_9 : decode cJ3_checkIndex_8e157 9 = .ok (.aload_n 2, 1) := by decide +kernel
theorem dJ3_checkIndex_8e157_10 : decode cJ3_checkIndex_8e157 10 = .ok (.iload_n 0, 1) := by decide +kernel
theorem dJ3_checkIndex_8e157_11 : decode cJ3_checkIndex_8e157 11 = .ok (.iload_n 1, 1) := by decide +kernel
theorem dJ3_checkIndex_8e157_12 : decode cJ3_checkIndex_8e157 12 = .ok (.invokestatic 95, 3) := by decide +kernel
theorem dJ3_checkIndex_8e157_15 : decode cJ3_checkIndex_8e157 15 = .ok (.athrow, 1) := by decide +kernel
theorem dJ3_checkIndex_8e157_16 : decode cJ3_checkIndex_8e157 16 = .ok (.iload_n 0, 1) := by decide +kernel
theorem dJ3_checkIndex_8e157_17 : decode cJ3_checkIndex_8e157 17 = .ok (.ireturn, 1) := by decide +kernel
theorem dL_at_0 : decode cL_at 0 = .ok (.iload_n 1, 1) := by decide +kernel
theorem dL_at_1 : decode cL_at 1 = .ok (.aload_n 0, 1) := by decide +kernel
theorem dL_at_2 : decode cL_at 2 = .ok (.arraylength, 1) := by decide +kernel
theorem dL_at_3 : decode cL_at 3 = .ok (.if_icmp .ge 9, 3) := by decide +kernel
theorem dL_at_6 : decode cL_at 6 = .ok (.aload_n 0, 1) := by decide +kernel
theorem dL_at_7 : decode cL_at 7 = .ok (.iload_n 1, 1) := by decide +kernel
theorem dL_at_8 : decode cL_at 8 = .ok (.iaload, 1) := by decide +kernel
theorem dL_at_9 : decode cL_at 9 = .ok (.goto 12, 3) := by decide +kernel
theorem dL_at_12 : decode cL_at 12 = .ok (.ldc 7, 2) := by decide +kernel
theorem dL_at_14 : decode cL_at 14 = .ok (.iload_n 1, 1) := by decide +kernel
theorem dL_at_15 : decode cL_at 15 = .ok (.iconst 1, 1) := by decide +kernel
theorem dL_at_16 : decode cL_at 16 = .ok (.iadd, 1) := by decide +kernel
theorem dL_at_17 : decode cL_at 17 = .ok (.imul, 1) := by decide +kernel
theorem dL_at_18 : decode cL_at 18 = .ok (.ldc 8, 2) := by decide +kernel
theorem dL_at_20 : decode cL_at 20 = .ok (.iadd, 1) := by decide +kernel
theorem dL_at_21 : decode cL_at 21 = .ok (.ireturn, 1) := by decide +kernel
theorem dL_low_0 : decode cL_low 0 = .ok (.iload_n 0, 1) := by decide +kernel
theorem dL_low_1 : decode cL_low 1 = .ok (.ldc 9, 2) := by decide +kernel
theorem dL_low_3 : decode cL_low 3 = .ok (.iand, 1) := by decide +kernel
theorem dL_low_4 : decode cL_low 4 = .ok (.iload_n 1, 1) := by decide +kernel
theorem dL_low_5 : decode cL_low 5 = .ok (.irem, 1) := by decide +kernel
theorem dL_low_6 : decode cL_low 6 = .ok (.ireturn, 1) := by decide +kernel
theorem dL_node_0 : decode cL_node 0 = .ok (.aload_n 0, 1) := by decide +kernel
theorem dL_node_1 : decode cL_node 1 = .ok (.iload_n 1, 1) := by decide +kernel
theorem dL_node_2 : decode cL_node 2 = .ok (.iload_n 2, 1) := by decide +kernel
theorem dL_node_3 : decode cL_node 3 = .ok (.iload_n 3, 1) := by decide +kernel
theorem dL_node_4 : decode cL_node 4 = .ok (.iload 4, 2) := by decide +kernel
theorem dL_node_6 : decode cL_node 6 = .ok (.invokevirtual 10, 3) := by decide +kernel
theorem dL_node_9 : decode cL_node 9 = .ok (.ireturn, 1) := by decide +kernel
theorem dL_node_10 : decode cL_node 10 = .ok (.astore 5, 2) := by decide +kernel
theorem dL_node_12 : decode cL_node 12 = .ok (.ldc 18, 2) := by decide +kernel
theorem dL_node_14 : decode cL_node 14 = .ok (.ireturn, 1) := by decide +kernel
theorem dL_node_15 : decode cL_node 15 = .ok (.astore 5, 2) := by decide +kernel
theorem dL_node_17 : decode cL_node 17 = .ok (.ldc 21, 2) := by decide +kernel
theorem dL_node_19 : decode cL_node 19 = .ok (.ireturn, 1) := by decide +kernel
theorem dL_node_20 : decode cL_node 20 = .ok (.astore 5, 2) := by decide +kernel
theorem dL_node_22 : decode cL_node 22 = .ok (.ldc 24, 2) := by decide +kernel
theorem dL_node_24 : decode cL_node 24 = .ok (.ireturn, 1) := by decide +kernel
theorem dL_define_0 : decode cL_define 0 = .ok (.aload_n 0, 1) := by decide +kernel
theorem dL_define_1 : decode cL_define 1 = .ok (.iload_n 1, 1) := by decide +kernel
theorem dL_define_2 : decode cL_define 2 = .ok (.iload_n 2, 1) := by decide +kernel
theorem dL_define_3 : decode cL_define 3 = .ok (.iload_n 3, 1) := by decide +kernel
theorem dL_define_4 : decode cL_define 4 = .ok (.iload 4, 2) := by decide +kernel
theorem dL_define_6 : decode cL_define 6 = .ok (.invokevirtual 25, 3) := by decide +kernel
theorem dL_define_9 : decode cL_define 9 = .ok (.ireturn, 1) := by decide +kernel
theorem dL_define_10 : decode cL_define 10 = .ok (.astore 5, 2) := by decide +kernel
theorem dL_define_12 : decode cL_define 12 = .ok (.ldc 18, 2) := by decide +kernel
theorem dL_define_14 : decode cL_define 14 = .ok (.ireturn, 1) := by decide +kernel
theorem dL_define_15 : decode cL_define 15 = .ok (.astore 5, 2) := by decide +kernel
theorem dL_define_17 : decode cL_define 17 = .ok (.ldc 21, 2) := by decide +kernel
theorem dL_define_19 : decode cL_define 19 = .ok (.ireturn, 1) := by decide +kernel
theorem dL_define_20 : decode cL_define 20 = .ok (.astore 5, 2) := by decide +kernel
theorem dL_define_22 : decode cL_define 22 = .ok (.ldc 24, 2) := by decide +kernel
theorem dL_define_24 : decode cL_define 24 = .ok (.ireturn, 1) := by decide +kernel
theorem dL_size_0 : decode cL_size 0 = .ok (.aload_n 0, 1) := by decide +kernel
theorem dL_size_1 : decode cL_size 1 = .ok (.iload_n 1, 1) := by decide +kernel
theorem dL_size_2 : decode cL_size 2 = .ok (.invokevirtual 28, 3) := by decide +kernel
theorem dL_size_5 : decode cL_size 5 = .ok (.ireturn, 1) := by decide +kernel
theorem dL_size_6 : decode cL_size 6 = .ok (.astore_n 2, 1) := by decide +kernel
theorem dL_size_7 : decode cL_size 7 = .ok (.ldc 18, 2) := by decide +kernel
theorem dL_size_9 : decode cL_size 9 = .ok (.ireturn, 1) := by decide +kernel
theorem dL_setOption_0 : decode cL_setOption 0 = .ok (.aload_n 0, 1) := by decide +kernel
theorem dL_setOption_1 : decode cL_setOption 1 = .ok (.iload_n 1, 1) := by decide +kernel
theorem dL_setOption_2 : decode cL_setOption 2 = .ok (.iload_n 2, 1) := by decide +kernel
theorem dL_setOption_3 : decode cL_setOption 3 = .ok (.invokevirtual 32, 3) := by decide +kernel
theorem dL_setOption_6 : decode cL_setOption 6 = .ok (.ireturn, 1) := by decide +kernel
theorem dL_setOption_7 : decode cL_setOption 7 = .ok (.astore_n 3, 1) := by decide +kernel
theorem dL_setOption_8 : decode cL_setOption 8 = .ok (.ldc 18, 2) := by decide +kernel
theorem dL_setOption_10 : decode cL_setOption 10 = .ok (.ireturn, 1) := by decide +kernel
theorem dL_setOption_11 : decode cL_setOption 11 = .ok (.astore_n 3, 1) := by decide +kernel
theorem dL_setOption_12 : decode cL_setOption 12 = .ok (.ldc 21, 2) := by decide +kernel
theorem dL_setOption_14 : decode cL_setOption 14 = .ok (.ireturn, 1) := by decide +kernel
theorem dL_setOption_15 : decode cL_setOption 15 = .ok (.astore_n 3, 1) := by decide +kernel
theorem dL_setOption_16 : decode cL_setOption 16 = .ok (.ldc 24, 2) := by decide +kernel
theorem dL_setOption_18 : decode cL_setOption 18 = .ok (.ireturn, 1) := by decide +kernel
theorem dL_setBudget_0 : decode cL_setBudget 0 = .ok (.aload_n 0, 1) := by decide +kernel
theorem dL_setBudget_1 : decode cL_setBudget 1 = .ok (.iload_n 1, 1) := by decide +kernel
theorem dL_setBudget_2 : decode cL_setBudget 2 = .ok (.invokevirtual 36, 3) := by decide +kernel
theorem dL_setBudget_5 : decode cL_setBudget 5 = .ok (.ireturn, 1) := by decide +kernel
theorem dL_setBudget_6 : decode cL_setBudget 6 = .ok (.astore_n 2, 1) := by decide +kernel
theorem dL_setBudget_7 : decode cL_setBudget 7 = .ok (.ldc 21, 2) := by decide +kernel
theorem dL_setBudget_9 : decode cL_setBudget 9 = .ok (.ireturn, 1) := by decide +kernel
theorem dL_write_0 : decode cL_write 0 = .ok (.aload_n 0, 1) := by decide +kernel
theorem dL_write_1 : decode cL_write 1 = .ok (.iload_n 1, 1) := by decide +kernel
theorem dL_write_2 : decode cL_write 2 = .ok (.iload_n 2, 1) := by decide +kernel
theorem dL_write_3 : decode cL_write 3 = .ok (.invokevirtual 39, 3) := by decide +kernel
theorem dL_write_6 : decode cL_write 6 = .ok (.ireturn, 1) := by decide +kernel
theorem dL_write_7 : decode cL_write 7 = .ok (.astore_n 3, 1) := by decide +kernel
theorem dL_write_8 : decode cL_write 8 = .ok (.ldc 18, 2) := by decide +kernel
theorem dL_write_10 : decode cL_write 10 = .ok (.ireturn, 1) := by decide +kernel
theorem dL_write_11 : decode cL_write 11 = .ok (.astore_n 3, 1) := by decide +kernel
theorem dL_write_12 : decode cL_write 12 = .ok (.ldc 21, 2) := by decide +kernel
theorem dL_write_14 : decode cL_write 14 = .ok (.ireturn, 1) := by decide +kernel
theorem dL_write_15 : decode cL_write 15 = .ok (.astore_n 3, 1) := by decide +kernel
theorem dL_write_16 : decode cL_write 16 = .ok (.ldc 24, 2) := by decide +kernel
theorem dL_write_18 : decode cL_write 18 = .ok (.ireturn, 1) := by decide +kernel
theorem dL_run_0 : decode cL_run 0 = .ok (.aload_n 0, 1) := by decide +kernel
theorem dL_run_1 : decode cL_run 1 = .ok (.iload_n 1, 1) := by decide +kernel
theorem dL_run_2 : decode cL_run 2 = .ok (.invokevirtual 42, 3) := by decide +kernel
theorem dL_run_5 : decode cL_run 5 = .ok (.ireturn, 1) := by decide +kernel
theorem dL_run_6 : decode cL_run 6 = .ok (.astore_n 2, 1) := by decide +kernel
theorem dL_run_7 : decode cL_run 7 = .ok (.ldc 18, 2) := by decide +kernel
theorem dL_run_9 : decode cL_run 9 = .ok (.ireturn, 1) := by decide +kernel
theorem dL_run_10 : decode cL_run 10 = .ok (.astore_n 2, 1) := by decide +kernel
theorem dL_run_11 : decode cL_run 11 = .ok (.ldc 24, 2) := by decide +kernel
theorem dL_run_13 : decode cL_run 13 = .ok (.ireturn, 1) := by decide +kernel
theorem dL_tried_0 : decode cL_tried 0 = .ok (.aload_n 0, 1) := by decide +kernel
theorem dL_tried_1 : decode cL_tried 1 = .ok (.iload_n 1, 1) := by decide +kernel
theorem dL_tried_2 : decode cL_tried 2 = .ok (.invokevirtual 45, 3) := by decide +kernel
theorem dL_tried_5 : decode cL_tried 5 = .ok (.ireturn, 1) := by decide +kernel
theorem dL_tried_6 : decode cL_tried 6 = .ok (.astore_n 2, 1) := by decide +kernel
theorem dL_tried_7 : decode cL_tried 7 = .ok (.ldc 18, 2) := by decide +kernel
theorem dL_tried_9 : decode cL_tried 9 = .ok (.ireturn, 1) := by decide +kernel
theorem dL_tried_10 : decode cL_tried 10 = .ok (.astore_n 2, 1) := by decide +kernel
theorem dL_tried_11 : decode cL_tried 11 = .ok (.ldc 24, 2) := by decide +kernel
theorem dL_tried_13 : decode cL_tried 13 = .ok (.ireturn, 1) := by decide +kernel
theorem dL_triedSteps_0 : decode cL_triedSteps 0 = .ok (.aload_n 0, 1) := by decide +kernel
theorem dL_triedSteps_1 : decode cL_triedSteps 1 = .ok (.iload_n 1, 1) := by decide +kernel
theorem dL_triedSteps_2 : decode cL_triedSteps 2 = .ok (.invokevirtual 48, 3) := by decide +kernel
theorem dL_triedSteps_5 : decode cL_triedSteps 5 = .ok (.ireturn, 1) := by decide +kernel
theorem dL_triedSteps_6 : decode cL_triedSteps 6 = .ok (.astore_n 2, 1) := by decide +kernel
theorem dL_triedSteps_7 : decode cL_triedSteps 7 = .ok (.ldc 18, 2) := by decide +kernel
theorem dL_triedSteps_9 : decode cL_triedSteps 9 = .ok (.ireturn, 1) := by decide +kernel
theorem dL_triedSteps_10 : decode cL_triedSteps 10 = .ok (.astore_n 2, 1) := by decide +kernel
theorem dL_triedSteps_11 : decode cL_triedSteps 11 = .ok (.ldc 24, 2) := by decide +kernel
theorem dL_triedSteps_13 : decode cL_triedSteps 13 = .ok (.ireturn, 1) := by decide +kernel
theorem dL_start_0 : decode cL_start 0 = .ok (.aload_n 0, 1) := by decide +kernel
theorem dL_start_1 : decode cL_start 1 = .ok (.iload_n 1, 1) := by decide +kernel
theorem dL_start_2 : decode cL_start 2 = .ok (.invokevirtual 51, 3) := by decide +kernel
theorem dL_start_5 : decode cL_start 5 = .ok (.iconst 0, 1) := by decide +kernel
theorem dL_start_6 : decode cL_start 6 = .ok (.ireturn, 1) := by decide +kernel
theorem dL_start_7 : decode cL_start 7 = .ok (.astore_n 2, 1) := by decide +kernel
theorem dL_start_8 : decode cL_start 8 = .ok (.ldc 18, 2) := by decide +kernel
theorem dL_start_10 : decode cL_start 10 = .ok (.ireturn, 1) := by decide +kernel
theorem dL_start_11 : decode cL_start 11 = .ok (.astore_n 2, 1) := by decide +kernel
theorem dL_start_12 : decode cL_start 12 = .ok (.ldc 24, 2) := by decide +kernel
theorem dL_start_14 : decode cL_start 14 = .ok (.ireturn, 1) := by decide +kernel
theorem dL_step_0 : decode cL_step 0 = .ok (.aload_n 0, 1) := by decide +kernel
theorem dL_step_1 : decode cL_step 1 = .ok (.iload_n 1, 1) := by decide +kernel
theorem dL_step_2 : decode cL_step 2 = .ok (.invokevirtual 55, 3) := by decide +kernel
theorem dL_step_5 : decode cL_step 5 = .ok (.ireturn, 1) := by decide +kernel
theorem dL_step_6 : decode cL_step 6 = .ok (.astore_n 2, 1) := by decide +kernel
theorem dL_step_7 : decode cL_step 7 = .ok (.ldc 21, 2) := by decide +kernel
theorem dL_step_9 : decode cL_step 9 = .ok (.ireturn, 1) := by decide +kernel
theorem dL_step_10 : decode cL_step 10 = .ok (.astore_n 2, 1) := by decide +kernel
theorem dL_step_11 : decode cL_step 11 = .ok (.ldc 24, 2) := by decide +kernel
theorem dL_step_13 : decode cL_step 13 = .ok (.ireturn, 1) := by decide +kernel
theorem dL_giveUp_0 : decode cL_giveUp 0 = .ok (.aload_n 0, 1) := by decide +kernel
theorem dL_giveUp_1 : decode cL_giveUp 1 = .ok (.invokevirtual 58, 3) := by decide +kernel
theorem dL_giveUp_4 : decode cL_giveUp 4 = .ok (.ireturn, 1) := by decide +kernel
theorem dL_giveUp_5 : decode cL_giveUp 5 = .ok (.astore_n 1, 1) := by decide +kernel
theorem dL_giveUp_6 : decode cL_giveUp 6 = .ok (.ldc 24, 2) := by decide +kernel
theorem dL_giveUp_8 : decode cL_giveUp 8 = .ok (.ireturn, 1) := by decide +kernel
theorem dL_breakAt_0 : decode cL_breakAt 0 = .ok (.aload_n 0, 1) := by decide +kernel
theorem dL_breakAt_1 : decode cL_breakAt 1 = .ok (.iload_n 1, 1) := by decide +kernel
theorem dL_breakAt_2 : decode cL_breakAt 2 = .ok (.iload_n 2, 1) := by decide +kernel
theorem dL_breakAt_3 : decode cL_breakAt 3 = .ok (.invokevirtual 62, 3) := by decide +kernel
theorem dL_breakAt_6 : decode cL_breakAt 6 = .ok (.ifCond .eq 7, 3) := by decide +kernel
theorem dL_breakAt_9 : decode cL_breakAt 9 = .ok (.iconst 1, 1) := by decide +kernel
theorem dL_breakAt_10 : decode cL_breakAt 10 = .ok (.goto 4, 3) := by decide +kernel
theorem dL_breakAt_13 : decode cL_breakAt 13 = .ok (.iconst 0, 1) := by decide +kernel
theorem dL_breakAt_14 : decode cL_breakAt 14 = .ok (.ireturn, 1) := by decide +kernel
theorem dL_breakAt_15 : decode cL_breakAt 15 = .ok (.astore_n 3, 1) := by decide +kernel
theorem dL_breakAt_16 : decode cL_breakAt 16 = .ok (.ldc 18, 2) := by decide +kernel
theorem dL_breakAt_18 : decode cL_breakAt 18 = .ok (.ireturn, 1) := by decide +kernel
theorem dL_look_0 : decode cL_look 0 = .ok (.aload_n 0, 1) := by decide +kernel
theorem dL_look_1 : decode cL_look 1 = .ok (.iload_n 1, 1) := by decide +kernel
theorem dL_look_2 : decode cL_look 2 = .ok (.invokevirtual 66, 3) := by decide +kernel
theorem dL_look_5 : decode cL_look 5 = .ok (.ireturn, 1) := by decide +kernel
theorem dL_look_6 : decode cL_look 6 = .ok (.astore_n 2, 1) := by decide +kernel
theorem dL_look_7 : decode cL_look 7 = .ok (.ldc 18, 2) := by decide +kernel
theorem dL_look_9 : decode cL_look 9 = .ok (.ireturn, 1) := by decide +kernel
theorem dL_look_10 : decode cL_look 10 = .ok (.astore_n 2, 1) := by decide +kernel
theorem dL_look_11 : decode cL_look 11 = .ok (.ldc 24, 2) := by decide +kernel
theorem dL_look_13 : decode cL_look 13 = .ok (.ireturn, 1) := by decide +kernel
theorem dL_traceAt_0 : decode cL_traceAt 0 = .ok (.aload_n 0, 1) := by decide +kernel
theorem dL_traceAt_1 : decode cL_traceAt 1 = .ok (.iload_n 1, 1) := by decide +kernel
theorem dL_traceAt_2 : decode cL_traceAt 2 = .ok (.invokevirtual 69, 3) := by decide +kernel
theorem dL_traceAt_5 : decode cL_traceAt 5 = .ok (.ireturn, 1) := by decide +kernel
theorem dL_traceAt_6 : decode cL_traceAt 6 = .ok (.astore_n 2, 1) := by decide +kernel
theorem dL_traceAt_7 : decode cL_traceAt 7 = .ok (.ldc 18, 2) := by decide +kernel
theorem dL_traceAt_9 : decode cL_traceAt 9 = .ok (.ireturn, 1) := by decide +kernel
theorem dL_length_0 : decode cL_length 0 = .ok (.aload_n 0, 1) := by decide +kernel
theorem dL_length_1 : decode cL_length 1 = .ok (.iload_n 1, 1) := by decide +kernel
theorem dL_length_2 : decode cL_length 2 = .ok (.invokevirtual 72, 3) := by decide +kernel
theorem dL_length_5 : decode cL_length 5 = .ok (.ireturn, 1) := by decide +kernel
theorem dL_length_6 : decode cL_length 6 = .ok (.astore_n 2, 1) := by decide +kernel
theorem dL_length_7 : decode cL_length 7 = .ok (.ldc 18, 2) := by decide +kernel
theorem dL_length_9 : decode cL_length 9 = .ok (.ireturn, 1) := by decide +kernel
theorem dL_letter_0 : decode cL_letter 0 = .ok (.aload_n 0, 1) := by decide +kernel
theorem dL_letter_1 : decode cL_letter 1 = .ok (.iload_n 1, 1) := by decide +kernel
theorem dL_letter_2 : decode cL_letter 2 = .ok (.iload_n 2, 1) := by decide +kernel
theorem dL_letter_3 : decode cL_letter 3 = .ok (.invokevirtual 75, 3) := by decide +kernel
theorem dL_letter_6 : decode cL_letter 6 = .ok (.ireturn, 1) := by decide +kernel
theorem dL_letter_7 : decode cL_letter 7 = .ok (.astore_n 3, 1) := by decide +kernel
theorem dL_letter_8 : decode cL_letter 8 = .ok (.ldc 18, 2) := by decide +kernel
theorem dL_letter_10 : decode cL_letter 10 = .ok (.ireturn, 1) := by decide +kernel
theorem dL_cursor_0 : decode cL_cursor 0 = .ok (.aload_n 0, 1) := by decide +kernel
theorem dL_cursor_1 : decode cL_cursor 1 = .ok (.iload_n 1, 1) := by decide +kernel
theorem dL_cursor_2 : decode cL_cursor 2 = .ok (.iload_n 2, 1) := by decide +kernel
theorem dL_cursor_3 : decode cL_cursor 3 = .ok (.invokevirtual 78, 3) := by decide +kernel
theorem dL_cursor_6 : decode cL_cursor 6 = .ok (.ireturn, 1) := by decide +kernel
theorem dL_cursor_7 : decode cL_cursor 7 = .ok (.astore_n 3, 1) := by decide +kernel
theorem dL_cursor_8 : decode cL_cursor 8 = .ok (.ldc 18, 2) := by decide +kernel
theorem dL_cursor_10 : decode cL_cursor 10 = .ok (.ireturn, 1) := by decide +kernel
theorem dL_activeCursor_0 : decode cL_activeCursor 0 = .ok (.aload_n 0, 1) := by decide +kernel
theorem dL_activeCursor_1 : decode cL_activeCursor 1 = .ok (.iload_n 1, 1) := by decide +kernel
theorem dL_activeCursor_2 : decode cL_activeCursor 2 = .ok (.invokevirtual 81, 3) := by decide +kernel
theorem dL_activeCursor_5 : decode cL_activeCursor 5 = .ok (.ireturn, 1) := by decide +kernel
theorem dL_activeCursor_6 : decode cL_activeCursor 6 = .ok (.astore_n 2, 1) := by decide +kernel
theorem dL_activeCursor_7 : decode cL_activeCursor 7 = .ok (.ldc 18, 2) := by decide +kernel
theorem dL_activeCursor_9 : decode cL_activeCursor 9 = .ok (.ireturn, 1) := by decide +kernel
theorem dL_option_0 : decode cL_option 0 = .ok (.aload_n 0, 1) := by decide +kernel
theorem dL_option_1 : decode cL_option 1 = .ok (.iload_n 1, 1) := by decide +kernel
theorem dL_option_2 : decode cL_option 2 = .ok (.invokevirtual 84, 3) := by decide +kernel
theorem dL_option_5 : decode cL_option 5 = .ok (.ireturn, 1) := by decide +kernel
theorem dL_option_6 : decode cL_option 6 = .ok (.astore_n 2, 1) := by decide +kernel
theorem dL_option_7 : decode cL_option 7 = .ok (.ldc 18, 2) := by decide +kernel
theorem dL_option_9 : decode cL_option 9 = .ok (.ireturn, 1) := by decide +kernel
theorem dL_register_0 : decode cL_register 0 = .ok (.aload_n 0, 1) := by decide +kernel
theorem dL_register_1 : decode cL_register 1 = .ok (.iload_n 1, 1) := by decide +kernel
theorem dL_register_2 : decode cL_register 2 = .ok (.invokevirtual 87, 3) := by decide +kernel
theorem dL_register_5 : decode cL_register 5 = .ok (.ireturn, 1) := by decide +kernel
theorem dL_register_6 : decode cL_register 6 = .ok (.astore_n 2, 1) := by decide +kernel
theorem dL_register_7 : decode cL_register 7 = .ok (.ldc 18, 2) := by decide +kernel
theorem dL_register_9 : decode cL_register 9 = .ok (.ireturn, 1) := by decide +kernel
theorem dL_body_0 : decode cL_body 0 = .ok (.aload_n 0, 1) := by decide +kernel
theorem dL_body_1 : decode cL_body 1 = .ok (.iload_n 1, 1) := by decide +kernel
theorem dL_body_2 : decode cL_body 2 = .ok (.invokevirtual 90, 3) := by decide +kernel
theorem dL_body_5 : decode cL_body 5 = .ok (.ireturn, 1) := by decide +kernel
theorem dL_body_6 : decode cL_body 6 = .ok (.astore_n 2, 1) := by decide +kernel
theorem dL_body_7 : decode cL_body 7 = .ok (.ldc 18, 2) := by decide +kernel
theorem dL_body_9 : decode cL_body 9 = .ok (.ireturn, 1) := by decide +kernel
theorem dL_part_0 : decode cL_part 0 = .ok (.aload_n 0, 1) := by decide +kernel
theorem dL_part_1 : decode cL_part 1 = .ok (.iconst 0, 1) := by decide +kernel
theorem dL_part_2 : decode cL_part 2 = .ok (.iaload, 1) := by decide +kernel
theorem dL_part_3 : decode cL_part 3 = .ok (.istore_n 2, 1) := by decide +kernel
theorem dL_part_4 : decode cL_part 4 = .ok (.iload_n 1, 1) := by decide +kernel
theorem dL_part_5 : decode cL_part 5 = .ok (.iconst 4, 1) := by decide +kernel
theorem dL_part_6 : decode cL_part 6 = .ok (.invokestatic 93, 3) := by decide +kernel
theorem dL_part_9 : decode cL_part 9 = .ok (.ifCond .ne 13, 3) := by decide +kernel
theorem dL_part_12 : decode cL_part 12 = .ok (.iload_n 1, 1) := by decide +kernel
theorem dL_part_13 : decode cL_part 13 = .ok (.iconst 2, 1) := by decide +kernel
theorem dL_part_14 : decode cL_part 14 = .ok (.ishr, 1) := by decide +kernel
theorem dL_part_15 : decode cL_part 15 = .ok (.iload_n 2, 1) := by decide +kernel
theorem dL_part_16 : decode cL_part 16 = .ok (.invokestatic 93, 3) := by decide +kernel
theorem dL_part_19 : decode cL_part 19 = .ok (.goto 25, 3) := by decide +kernel
theorem dL_part_22 : decode cL_part 22 = .ok (.iload_n 2, 1) := by decide +kernel
theorem dL_part_23 : decode cL_part 23 = .ok (.iconst 1, 1) := by decide +kernel
theorem dL_part_24 : decode cL_part 24 = .ok (.isub, 1) := by decide +kernel
theorem dL_part_25 : decode cL_part 25 = .ok (.iload_n 1, 1) := by decide +kernel
theorem dL_part_26 : decode cL_part 26 = .ok (.iconst 2, 1) := by decide +kernel
theorem dL_part_27 : decode cL_part 27 = .ok (.ishr, 1) := by decide +kernel
theorem dL_part_28 : decode cL_part 28 = .ok (.iload_n 2, 1) := by decide +kernel
theorem dL_part_29 : decode cL_part 29 = .ok (.bipush 9, 2) := by decide +kernel
theorem dL_part_31 : decode cL_part 31 = .ok (.if_icmp .ge 7, 3) := by decide +kernel
theorem dL_part_34 : decode cL_part 34 = .ok (.iload_n 2, 1) := by decide +kernel
theorem dL_part_35 : decode cL_part 35 = .ok (.goto 5, 3) := by decide +kernel
theorem dL_part_38 : decode cL_part 38 = .ok (.bipush 9, 2) := by decide +kernel
theorem dL_part_40 : decode cL_part 40 = .ok (.invokestatic 93, 3) := by decide +kernel
theorem dL_part_43 : decode cL_part 43 = .ok (.isub, 1) := by decide +kernel
theorem dL_part_44 : decode cL_part 44 = .ok (.ireturn, 1) := by decide +kernel
theorem dL_firstOf_0 : decode cL_firstOf 0 = .ok (.iload_n 0, 1) := by decide +kernel
theorem dL_firstOf_1 : decode cL_firstOf 1 = .ok (.ifCond .ne 38, 3) := by decide +kernel
theorem dL_firstOf_4 : decode cL_firstOf 4 = .ok (.iload_n 2, 1) := by decide +kernel
theorem dL_firstOf_5 : decode cL_firstOf 5 = .ok (.iconst 5, 1) := by decide +kernel
theorem dL_firstOf_6 : decode cL_firstOf 6 = .ok (.invokestatic 93, 3) := by decide +kernel
theorem dL_firstOf_9 : decode cL_firstOf 9 = .ok (.ifCond .ne 19, 3) := by decide +kernel
theorem dL_firstOf_12 : decode cL_firstOf 12 = .ok (.sipush 5000, 3) := by decide +kernel
theorem dL_firstOf_15 : decode cL_firstOf 15 = .ok (.iload_n 2, 1) := by decide +kernel
theorem dL_firstOf_16 : decode cL_firstOf 16 = .ok (.iconst 3, 1) := by decide +kernel
theorem dL_firstOf_17 : decode cL_firstOf 17 = .ok (.ishr, 1) := by decide +kernel
theorem dL_firstOf_18 : decode cL_firstOf 18 = .ok (.sipush 4000, 3) := by decide +kernel
theorem dL_firstOf_21 : decode cL_firstOf 21 = .ok (.invokestatic 93, 3) := by decide +kernel
theorem dL_firstOf_24 : decode cL_firstOf 24 = .ok (.iadd, 1) := by decide +kernel
theorem dL_firstOf_25 : decode cL_firstOf 25 = .ok (.goto 13, 3) := by decide +kernel
theorem dL_firstOf_28 : decode cL_firstOf 28 = .ok (.iload_n 2, 1) := by decide +kernel
theorem dL_firstOf_29 : decode cL_firstOf 29 = .ok (.iconst 3, 1) := by decide +kernel
theorem dL_firstOf_30 : decode cL_firstOf 30 = .ok (.ishr, 1) := by decide +kernel
theorem dL_firstOf_31 : decode cL_firstOf 31 = .ok (.bipush 9, 2) := by decide +kernel
theorem dL_firstOf_33 : decode cL_firstOf 33 = .ok (.invokestatic 93, 3) := by decide +kernel
theorem dL_firstOf_36 : decode cL_firstOf 36 = .ok (.iconst 2, 1) := by decide +kernel
theorem dL_firstOf_37 : decode cL_firstOf 37 = .ok (.isub, 1) := by decide +kernel
theorem dL_firstOf_38 : decode cL_firstOf 38 = .ok (.ireturn, 1) := by decide +kernel
theorem dL_firstOf_39 : decode cL_firstOf 39 = .ok (.iload_n 0, 1) := by decide +kernel
theorem dL_firstOf_40 : decode cL_firstOf 40 = .ok (.iconst 1, 1) := by decide +kernel
theorem dL_firstOf_41 : decode cL_firstOf 41 = .ok (.if_icmp .eq 25, 3) := by decide +kernel
theorem dL_firstOf_44 : decode cL_firstOf 44 = .ok (.iload_n 0, 1) := by decide +kernel
theorem dL_firstOf_45 : decode cL_firstOf 45 = .ok (.iconst 2, 1) := by decide +kernel
theorem dL_firstOf_46 : decode cL_firstOf 46 = .ok (.if_icmp .eq 20, 3) := by decide +kernel
theorem dL_firstOf_49 : decode cL_firstOf 49 = .ok (.iload_n 0, 1) := by decide +kernel
theorem dL_firstOf_50 : decode cL_firstOf 50 = .ok (.iconst 3, 1) := by decide +kernel
theorem dL_firstOf_51 : decode cL_firstOf 51 = .ok (.if_icmp .eq 15, 3) := by decide +kernel
theorem dL_firstOf_54 : decode cL_firstOf 54 = .ok (.iload_n 0, 1) := by decide +kernel
theorem dL_firstOf_55 : decode cL_firstOf 55 = .ok (.bipush 16, 2) := by decide +kernel
theorem dL_firstOf_57 : decode cL_firstOf 57 = .ok (.if_icmp .eq 9, 3) := by decide +kernel
theorem dL_firstOf_60 : decode cL_firstOf 60 = .ok (.iload_n 0, 1) := by decide +kernel
theorem dL_firstOf_61 : decode cL_firstOf 61 = .ok (.bipush 20, 2) := by decide +kernel
theorem dL_firstOf_63 : decode cL_firstOf 63 = .ok (.if_icmp .ne 9, 3) := by decide +kernel
theorem dL_firstOf_66 : decode cL_firstOf 66 = .ok (.iload_n 2, 1) := by decide +kernel
theorem dL_firstOf_67 : decode cL_firstOf 67 = .ok (.iconst 3, 1) := by decide +kernel
theorem dL_firstOf_68 : decode cL_firstOf 68 = .ok (.invokestatic 93, 3) := by decide +kernel
theorem dL_firstOf_71 : decode cL_firstOf 71 = .ok (.ireturn, 1) := by decide +kernel
theorem dL_firstOf_72 : decode cL_firstOf 72 = .ok (.iload_n 0, 1) := by decide +kernel
theorem dL_firstOf_73 : decode cL_firstOf 73 = .ok (.bipush 13, 2) := by decide +kernel
theorem dL_firstOf_75 : decode cL_firstOf 75 = .ok (.if_icmp .eq 33, 3) := by decide +kernel
theorem dL_firstOf_78 : decode cL_firstOf 78 = .ok (.iload_n 0, 1) := by decide +kernel
theorem dL_firstOf_79 : decode cL_firstOf 79 = .ok (.bipush 14, 2) := by decide +kernel
theorem dL_firstOf_81 : decode cL_firstOf 81 = .ok (.if_icmp .eq 27, 3) := by decide +kernel
theorem dL_firstOf_84 : decode cL_firstOf 84 = .ok (.iload_n 0, 1) := by decide +kernel
theorem dL_firstOf_85 : decode cL_firstOf 85 = .ok (.bipush 15, 2) := by decide +kernel
theorem dL_firstOf_87 : decode cL_firstOf 87 = .ok (.if_icmp .eq 21, 3) := by decide +kernel
theorem dL_firstOf_90 : decode cL_firstOf 90 = .ok (.iload_n 0, 1) := by decide +kernel
theorem dL_firstOf_91 : decode cL_firstOf 91 = .ok (.bipush 26, 2) := by decide +kernel
theorem dL_firstOf_93 : decode cL_firstOf 93 = .ok (.if_icmp .eq 15, 3) := by decide +kernel
theorem dL_firstOf_96 : decode cL_firstOf 96 = .ok (.iload_n 0, 1) := by decide +kernel
theorem dL_firstOf_97 : decode cL_firstOf 97 = .ok (.bipush 27, 2) := by decide +kernel
theorem dL_firstOf_99 : decode cL_firstOf 99 = .ok (.if_icmp .eq 9, 3) := by decide +kernel
theorem dL_firstOf_102 : decode cL_firstOf 102 = .ok (.iload_n 0, 1) := by decide +kernel
theorem dL_firstOf_103 : decode cL_firstOf 103 = .ok (.bipush 28, 2) := by decide +kernel
theorem dL_firstOf_105 : decode cL_firstOf 105 = .ok (.if_icmp .ne 9, 3) := by decide +kernel
theorem dL_firstOf_108 : decode cL_firstOf 108 = .ok (.iload_n 2, 1) := by decide +kernel
theorem dL_firstOf_109 : decode cL_firstOf 109 = .ok (.iconst 2, 1) := by decide +kernel
theorem dL_firstOf_110 : decode cL_firstOf 110 = .ok (.invokestatic 93, 3) := by decide +kernel
theorem dL_firstOf_113 : decode cL_firstOf 113 = .ok (.ireturn, 1) := by decide +kernel
theorem dL_firstOf_114 : decode cL_firstOf 114 = .ok (.iload_n 0, 1) := by decide +kernel
theorem dL_firstOf_115 : decode cL_firstOf 115 = .ok (.bipush 18, 2) := by decide +kernel
theorem dL_firstOf_117 : decode cL_firstOf 117 = .ok (.if_icmp .eq 9, 3) := by decide +kernel
theorem dL_firstOf_120 : decode cL_firstOf 120 = .ok (.iload_n 0, 1) := by decide +kernel
theorem dL_firstOf_121 : decode cL_firstOf 121 = .ok (.bipush 38, 2) := by decide +kernel
theorem dL_firstOf_123 : decode cL_firstOf 123 = .ok (.if_icmp .ne 9, 3) := by decide +kernel
theorem dL_firstOf_126 : decode cL_firstOf 126 = .ok (.iload_n 2, 1) := by decide +kernel
theorem dL_firstOf_127 : decode cL_firstOf 127 = .ok (.iconst 3, 1) := by decide +kernel
theorem dL_firstOf_128 : decode cL_firstOf 128 = .ok (.invokestatic 93, 3) := by decide +kernel
theorem dL_firstOf_131 : decode cL_firstOf 131 = .ok (.ireturn, 1) := by decide +kernel
theorem dL_firstOf_132 : decode cL_firstOf 132 = .ok (.iload_n 0, 1) := by decide +kernel
theorem dL_firstOf_133 : decode cL_firstOf 133 = .ok (.bipush 39, 2) := by decide +kernel
theorem dL_firstOf_135 : decode cL_firstOf 135 = .ok (.if_icmp .ne 11, 3) := by decide +kernel
theorem dL_firstOf_138 : decode cL_firstOf 138 = .ok (.iload_n 2, 1) := by decide +kernel
theorem dL_firstOf_139 : decode cL_firstOf 139 = .ok (.iconst 4, 1) := by decide +kernel
theorem dL_firstOf_140 : decode cL_firstOf 140 = .ok (.invokestatic 93, 3) := by decide +kernel
theorem dL_firstOf_143 : decode cL_firstOf 143 = .ok (.iconst 1, 1) := by decide +kernel
theorem dL_firstOf_144 : decode cL_firstOf 144 = .ok (.isub, 1) := by decide +kernel
theorem dL_firstOf_145 : decode cL_firstOf 145 = .ok (.ireturn, 1) := by decide +kernel
theorem dL_firstOf_146 : decode cL_firstOf 146 = .ok (.iload_n 0, 1) := by decide +kernel
theorem dL_firstOf_147 : decode cL_firstOf 147 = .ok (.bipush 30, 2) := by decide +kernel
theorem dL_firstOf_149 : decode cL_firstOf 149 = .ok (.if_icmp .eq 21, 3) := by decide +kernel
theorem dL_firstOf_152 : decode cL_firstOf 152 = .ok (.iload_n 0, 1) := by decide +kernel
theorem dL_firstOf_153 : decode cL_firstOf 153 = .ok (.bipush 32, 2) := by decide +kernel
theorem dL_firstOf_155 : decode cL_firstOf 155 = .ok (.if_icmp .eq 15, 3) := by decide +kernel
theorem dL_firstOf_158 : decode cL_firstOf 158 = .ok (.iload_n 0, 1) := by decide +kernel
theorem dL_firstOf_159 : decode cL_firstOf 159 = .ok (.bipush 33, 2) := by decide +kernel
theorem dL_firstOf_161 : decode cL_firstOf 161 = .ok (.if_icmp .eq 9, 3) := by decide +kernel
theorem dL_firstOf_164 : decode cL_firstOf 164 = .ok (.iload_n 0, 1) := by decide +kernel
theorem dL_firstOf_165 : decode cL_firstOf 165 = .ok (.bipush 34, 2) := by decide +kernel
theorem dL_firstOf_167 : decode cL_firstOf 167 = .ok (.if_icmp .ne 7, 3) := by decide +kernel
theorem dL_firstOf_170 : decode cL_firstOf 170 = .ok (.iconst (-1), 1) := by decide +kernel
theorem dL_firstOf_171 : decode cL_firstOf 171 = .ok (.goto 8, 3) := by decide +kernel
theorem dL_firstOf_174 : decode cL_firstOf 174 = .ok (.aload_n 1, 1) := by decide +kernel
theorem dL_firstOf_175 : decode cL_firstOf 175 = .ok (.iload_n 2, 1) := by decide +kernel
theorem dL_firstOf_176 : decode cL_firstOf 176 = .ok (.invokestatic 98, 3) := by decide +kernel
theorem dL_firstOf_179 : decode cL_firstOf 179 = .ok (.ireturn, 1) := by decide +kernel
theorem dL_hasSecond_0 : decode cL_hasSecond 0 = .ok (.iload_n 0, 1) := by decide +kernel
theorem dL_hasSecond_1 : decode cL_hasSecond 1 = .ok (.iconst 2, 1) := by decide +kernel
theorem dL_hasSecond_2 : decode cL_hasSecond 2 = .ok (.if_icmp .eq 73, 3) := by decide +kernel
theorem dL_hasSecond_5 : decode cL_hasSecond 5 = .ok (.iload_n 0, 1) := by decide +kernel
theorem dL_hasSecond_6 : decode cL_hasSecond 6 = .ok (.iconst 3, 1) := by decide +kernel
theorem dL_hasSecond_7 : decode cL_hasSecond 7 = .ok (.if_icmp .eq 68, 3) := by decide +kernel
theorem dL_hasSecond_10 : decode cL_hasSecond 10 = .ok (.iload_n 0, 1) := by decide +kernel
theorem dL_hasSecond_11 : decode cL_hasSecond 11 = .ok (.iconst 3, 1) := by decide +kernel
theorem dL_hasSecond_12 : decode cL_hasSecond 12 = .ok (.if_icmp .le 9, 3) := by decide +kernel
theorem dL_hasSecond_15 : decode cL_hasSecond 15 = .ok (.iload_n 0, 1) := by decide +kernel
theorem dL_hasSecond_16 : decode cL_hasSecond 16 = .ok (.bipush 12, 2) := by decide +kernel
theorem dL_hasSecond_18 : decode cL_hasSecond 18 = .ok (.if_icmp .lt 57, 3) := by decide +kernel
theorem dL_hasSecond_21 : decode cL_hasSecond 21 = .ok (.iload_n 0, 1) := by decide +kernel
theorem dL_hasSecond_22 : decode cL_hasSecond 22 = .ok (.bipush 13, 2) := by decide +kernel
theorem dL_hasSecond_24 : decode cL_hasSecond 24 = .ok (.if_icmp .eq 51, 3) := by decide +kernel
theorem dL_hasSecond_27 : decode cL_hasSecond 27 = .ok (.iload_n 0, 1) := by decide +kernel
theorem dL_hasSecond_28 : decode cL_hasSecond 28 = .ok (.bipush 14, 2) := by decide +kernel
theorem dL_hasSecond_30 : decode cL_hasSecond 30 = .ok (.if_icmp .eq 45, 3) := by decide +kernel
theorem dL_hasSecond_33 : decode cL_hasSecond 33 = .ok (.iload_n 0, 1) := by decide +kernel
theorem dL_hasSecond_34 : decode cL_hasSecond 34 = .ok (.bipush 16, 2) := by decide +kernel
theorem dL_hasSecond_36 : decode cL_hasSecond 36 = .ok (.if_icmp .eq 39, 3) := by decide +kernel
theorem dL_hasSecond_39 : decode cL_hasSecond 39 = .ok (.iload_n 0, 1) := by decide +kernel
theorem dL_hasSecond_40 : decode cL_hasSecond 40 = .ok (.bipush 17, 2) := by decide +kernel
theorem dL_hasSecond_42 : decode cL_hasSecond 42 = .ok (.if_icmp .eq 33, 3) := by decide +kernel
theorem dL_hasSecond_45 : decode cL_hasSecond 45 = .ok (.iload_n 0, 1) := by decide +kernel
theorem dL_hasSecond_46 : decode cL_hasSecond 46 = .ok (.bipush 20, 2) := by decide +kernel
theorem dL_hasSecond_48 : decode cL_hasSecond 48 = .ok (.if_icmp .eq 27, 3) := by decide +kernel
theorem dL_hasSecond_51 : decode cL_hasSecond 51 = .ok (.iload_n 0, 1) := by decide +kernel
theorem dL_hasSecond_52 : decode cL_hasSecond 52 = .ok (.bipush 21, 2) := by decide +kernel
theorem dL_hasSecond_54 : decode cL_hasSecond 54 = .ok (.if_icmp .eq 21, 3) := by decide +kernel
theorem dL_hasSecond_57 : decode cL_hasSecond 57 = .ok (.iload_n 0, 1) := by decide +kernel
theorem dL_hasSecond_58 : decode cL_hasSecond 58 = .ok (.bipush 26, 2) := by decide +kernel
theorem dL_hasSecond_60 : decode cL_hasSecond 60 = .ok (.if_icmp .eq 15, 3) := by decide +kernel
theorem dL_hasSecond_63 : decode cL_hasSecond 63 = .ok (.iload_n 0, 1) := by decide +kernel
theorem dL_hasSecond_64 : decode cL_hasSecond 64 = .ok (.bipush 28, 2) := by decide +kernel
theorem dL_hasSecond_66 : decode cL_hasSecond 66 = .ok (.if_icmp .eq 9, 3) := by decide +kernel
theorem dL_hasSecond_69 : decode cL_hasSecond 69 = .ok (.iload_n 0, 1) := by decide +kernel
theorem dL_hasSecond_70 : decode cL_hasSecond 70 = .ok (.bipush 38, 2) := by decide +kernel
theorem dL_hasSecond_72 : decode cL_hasSecond 72 = .ok (.if_icmp .ne 7, 3) := by decide +kernel
theorem dL_hasSecond_75 : decode cL_hasSecond 75 = .ok (.iconst 1, 1) := by decide +kernel
theorem dL_hasSecond_76 : decode cL_hasSecond 76 = .ok (.goto 4, 3) := by decide +kernel
theorem dL_hasSecond_79 : decode cL_hasSecond 79 = .ok (.iconst 0, 1) := by decide +kernel
theorem dL_hasSecond_80 : decode cL_hasSecond 80 = .ok (.ireturn, 1) := by decide +kernel
theorem dL_makes_0 : decode cL_makes 0 = .ok (.aload_n 2, 1) := by decide +kernel
theorem dL_makes_1 : decode cL_makes 1 = .ok (.iconst 0, 1) := by decide +kernel
theorem dL_makes_2 : decode cL_makes 2 = .ok (.iaload, 1) := by decide +kernel
theorem dL_makes_3 : decode cL_makes 3 = .ok (.ifCond .eq 13, 3) := by decide +kernel
theorem dL_makes_6 : decode cL_makes 6 = .ok (.iload_n 3, 1) := by decide +kernel
theorem dL_makes_7 : decode cL_makes 7 = .ok (.bipush 9, 2) := by decide +kernel
theorem dL_makes_9 : decode cL_makes 9 = .ok (.invokestatic 93, 3) := by decide +kernel
theorem dL_makes_12 : decode cL_makes 12 = .ok (.iconst 2, 1) := by decide +kernel
theorem dL_makes_13 : decode cL_makes 13 = .ok (.if_icmp .ge 7, 3) := by decide +kernel
theorem dL_makes_16 : decode cL_makes 16 = .ok (.iconst 0, 1) := by decide +kernel
theorem dL_makes_17 : decode cL_makes 17 = .ok (.goto 26, 3) := by decide +kernel
theorem dL_makes_20 : decode cL_makes 20 = .ok (.iload_n 3, 1) := by decide +kernel
theorem dL_makes_21 : decode cL_makes 21 = .ok (.bipush 9, 2) := by decide +kernel
theorem dL_makes_23 : decode cL_makes 23 = .ok (.invokestatic 93, 3) := by decide +kernel
theorem dL_makes_26 : decode cL_makes 26 = .ok (.iconst 2, 1) := by decide +kernel
theorem dL_makes_27 : decode cL_makes 27 = .ok (.if_icmp .ne 8, 3) := by decide +kernel
theorem dL_makes_30 : decode cL_makes 30 = .ok (.bipush 29, 2) := by decide +kernel
theorem dL_makes_32 : decode cL_makes 32 = .ok (.goto 11, 3) := by decide +kernel
theorem dL_makes_35 : decode cL_makes 35 = .ok (.iload_n 3, 1) := by decide +kernel
theorem dL_makes_36 : decode cL_makes 36 = .ok (.iconst 4, 1) := by decide +kernel
theorem dL_makes_37 : decode cL_makes 37 = .ok (.ishr, 1) := by decide +kernel
theorem dL_makes_38 : decode cL_makes 38 = .ok (.bipush 40, 2) := by decide +kernel
theorem dL_makes_40 : decode cL_makes 40 = .ok (.invokestatic 93, 3) := by decide +kernel
theorem dL_makes_43 : decode cL_makes 43 = .ok (.istore 5, 2) := by decide +kernel
theorem dL_makes_45 : decode cL_makes 45 = .ok (.iload 5, 2) := by decide +kernel
theorem dL_makes_47 : decode cL_makes 47 = .ok (.aload_n 2, 1) := by decide +kernel
theorem dL_makes_48 : decode cL_makes 48 = .ok (.iload 4, 2) := by decide +kernel
theorem dL_makes_50 : decode cL_makes 50 = .ok (.invokestatic 102, 3) := by decide +kernel
theorem dL_makes_53 : decode cL_makes 53 = .ok (.istore 6, 2) := by decide +kernel
theorem dL_makes_55 : decode cL_makes 55 = .ok (.iload 5, 2) := by decide +kernel
theorem dL_makes_57 : decode cL_makes 57 = .ok (.invokestatic 106, 3) := by decide +kernel
theorem dL_makes_60 : decode cL_makes 60 = .ok (.ifCond .ne 21, 3) := by decide +kernel
theorem dL_makes_63 : decode cL_makes 63 = .ok (.iload 5, 2) := by decide +kernel
theorem dL_makes_65 : decode cL_makes 65 = .ok (.bipush 18, 2) := by decide +kernel
theorem dL_makes_67 : decode cL_makes 67 = .ok (.if_icmp .ne 25, 3) := by decide +kernel
theorem dL_makes_70 : decode cL_makes 70 = .ok (.iload 4, 2) := by decide +kernel
theorem dL_makes_72 : decode cL_makes 72 = .ok (.iconst 3, 1) := by decide +kernel
theorem dL_makes_73 : decode cL_makes 73 = .ok (.ishr, 1) := by decide +kernel
theorem dL_makes_74 : decode cL_makes 74 = .ok (.iconst 3, 1) := by decide +kernel
theorem dL_makes_75 : decode cL_makes 75 = .ok (.invokestatic 93, 3) := by decide +kernel
theorem dL_makes_78 : decode cL_makes 78 = .ok (.ifCond .le 14, 3) := by decide +kernel
theorem dL_makes_81 : decode cL_makes 81 = .ok (.aload_n 2, 1) := by decide +kernel
theorem dL_makes_82 : decode cL_makes 82 = .ok (.iload 4, 2) := by decide +kernel
theorem dL_makes_84 : decode cL_makes 84 = .ok (.iconst 5, 1) := by decide +kernel
theorem dL_makes_85 : decode cL_makes 85 = .ok (.ishr, 1) := by decide +kernel
theorem dL_makes_86 : decode cL_makes 86 = .ok (.invokestatic 98, 3) := by decide +kernel
theorem dL_makes_89 : decode cL_makes 89 = .ok (.goto 4, 3) := by decide +kernel
theorem dL_makes_92 : decode cL_makes 92 = .ok (.iconst (-1), 1) := by decide +kernel
theorem dL_makes_93 : decode cL_makes 93 = .ok (.istore 7, 2) := by decide +kernel
theorem dL_makes_95 : decode cL_makes 95 = .ok (.iload 5, 2) := by decide +kernel
theorem dL_makes_97 : decode cL_makes 97 = .ok (.bipush 10, 2) := by decide +kernel
theorem dL_makes_99 : decode cL_makes 99 = .ok (.if_icmp .eq 40, 3) := by decide +kernel
theorem dL_makes_102 : decode cL_makes 102 = .ok (.iload 5, 2) := by decide +kernel
theorem dL_makes_104 : decode cL_makes 104 = .ok (.bipush 20, 2) := by decide +kernel
theorem dL_makes_106 : decode cL_makes 106 = .ok (.if_icmp .eq 33, 3) := by decide +kernel
theorem dL_makes_109 : decode cL_makes 109 = .ok (.iload 5, 2) := by decide +kernel
theorem dL_makes_111 : decode cL_makes 111 = .ok (.bipush 26, 2) := by decide +kernel
theorem dL_makes_113 : decode cL_makes 113 = .ok (.if_icmp .eq 26, 3) := by decide +kernel
theorem dL_makes_116 : decode cL_makes 116 = .ok (.iload 5, 2) := by decide +kernel
theorem dL_makes_118 : decode cL_makes 118 = .ok (.bipush 18, 2) := by decide +kernel
theorem dL_makes_120 : decode cL_makes 120 = .ok (.if_icmp .ne 31, 3) := by decide +kernel
theorem dL_makes_123 : decode cL_makes 123 = .ok (.iload 7, 2) := by decide +kernel
theorem dL_makes_125 : decode cL_makes 125 = .ok (.ifCond .lt 26, 3) := by decide +kernel
theorem dL_makes_128 : decode cL_makes 128 = .ok (.iload 4, 2) := by decide +kernel
theorem dL_makes_130 : decode cL_makes 130 = .ok (.iconst 4, 1) := by decide +kernel
theorem dL_makes_131 : decode cL_makes 131 = .ok (.ishr, 1) := by decide +kernel
theorem dL_makes_132 : decode cL_makes 132 = .ok (.iconst 3, 1) := by decide +kernel
theorem dL_makes_133 : decode cL_makes 133 = .ok (.invokestatic 93, 3) := by decide +kernel
theorem dL_makes_136 : decode cL_makes 136 = .ok (.ifCond .ne 15, 3) := by decide +kernel
theorem dL_makes_139 : decode cL_makes 139 = .ok (.aload_n 2, 1) := by decide +kernel
theorem dL_makes_140 : decode cL_makes 140 = .ok (.iload 4, 2) := by decide +kernel
theorem dL_makes_142 : decode cL_makes 142 = .ok (.bipush 11, 2) := by decide +kernel
theorem dL_makes_144 : decode cL_makes 144 = .ok (.ishr, 1) := by decide +kernel
theorem dL_makes_145 : decode cL_makes 145 = .ok (.invokestatic 98, 3) := by decide +kernel
theorem dL_makes_148 : decode cL_makes 148 = .ok (.goto 4, 3) := by decide +kernel
theorem dL_makes_151 : decode cL_makes 151 = .ok (.iconst (-1), 1) := by decide +kernel
theorem dL_makes_152 : decode cL_makes 152 = .ok (.istore 8, 2) := by decide +kernel
theorem dL_makes_154 : decode cL_makes 154 = .ok (.iload 5, 2) := by decide +kernel
theorem dL_makes_156 : decode cL_makes 156 = .ok (.iconst 3, 1) := by decide +kernel
theorem dL_makes_157 : decode cL_makes 157 = .ok (.if_icmp .le 10, 3) := by decide +kernel
theorem dL_makes_160 : decode cL_makes 160 = .ok (.iload 5, 2) := by decide +kernel
theorem dL_makes_162 : decode cL_makes 162 = .ok (.bipush 13, 2) := by decide +kernel
theorem dL_makes_164 : decode cL_makes 164 = .ok (.if_icmp .lt 59, 3) := by decide +kernel
theorem dL_makes_167 : decode cL_makes 167 = .ok (.iload 5, 2) := by decide +kernel
theorem dL_makes_169 : decode cL_makes 169 = .ok (.bipush 17, 2) := by decide +kernel
theorem dL_makes_171 : decode cL_makes 171 = .ok (.if_icmp .eq 52, 3) := by decide +kernel
theorem dL_makes_174 : decode cL_makes 174 = .ok (.iload 5, 2) := by decide +kernel
theorem dL_makes_176 : decode cL_makes 176 = .ok (.bipush 19, 2) := by decide +kernel
theorem dL_makes_178 : decode cL_makes 178 = .ok (.if_icmp .eq 45, 3) := by decide +kernel
theorem dL_makes_181 : decode cL_makes 181 = .ok (.iload 5, 2) := by decide +kernel
theorem dL_makes_183 : decode cL_makes 183 = .ok (.bipush 20, 2) := by decide +kernel
theorem dL_makes_185 : decode cL_makes 185 = .ok (.if_icmp .le 10, 3) := by decide +kernel
theorem dL_makes_188 : decode cL_makes 188 = .ok (.iload 5, 2) := by decide +kernel
theorem dL_makes_190 : decode cL_makes 190 = .ok (.bipush 26, 2) := by decide +kernel
theorem dL_makes_192 : decode cL_makes 192 = .ok (.if_icmp .lt 31, 3) := by decide +kernel
theorem dL_makes_195 : decode cL_makes 195 = .ok (.iload 5, 2) := by decide +kernel
theorem dL_makes_197 : decode cL_makes 197 = .ok (.bipush 29, 2) := by decide +kernel
theorem dL_makes_199 : decode cL_makes 199 = .ok (.if_icmp .eq 24, 3) := by decide +kernel
theorem dL_makes_202 : decode cL_makes 202 = .ok (.iload 5, 2) := by decide +kernel
theorem dL_makes_204 : decode cL_makes 204 = .ok (.bipush 31, 2) := by decide +kernel
theorem dL_makes_206 : decode cL_makes 206 = .ok (.if_icmp .eq 17, 3) := by decide +kernel
theorem dL_makes_209 : decode cL_makes 209 = .ok (.iload 5, 2) := by decide +kernel
theorem dL_makes_211 : decode cL_makes 211 = .ok (.bipush 34, 2) := by decide +kernel
theorem dL_makes_213 : decode cL_makes 213 = .ok (.if_icmp .le 14, 3) := by decide +kernel
theorem dL_makes_216 : decode cL_makes 216 = .ok (.iload 5, 2) := by decide +kernel
theorem dL_makes_218 : decode cL_makes 218 = .ok (.bipush 38, 2) := by decide +kernel
theorem dL_makes_220 : decode cL_makes 220 = .ok (.if_icmp .ge 7, 3) := by decide +kernel
theorem dL_makes_223 : decode cL_makes 223 = .ok (.iconst 1, 1) := by decide +kernel
theorem dL_makes_224 : decode cL_makes 224 = .ok (.goto 4, 3) := by decide +kernel
theorem dL_makes_227 : decode cL_makes 227 = .ok (.iconst 0, 1) := by decide +kernel
theorem dL_makes_228 : decode cL_makes 228 = .ok (.istore 9, 2) := by decide +kernel
theorem dL_makes_230 : decode cL_makes 230 = .ok (.iconst 1, 1) := by decide +kernel
theorem dL_makes_231 : decode cL_makes 231 = .ok (.iload 9, 2) := by decide +kernel
theorem dL_makes_233 : decode cL_makes 233 = .ok (.ifCond .eq 15, 3) := by decide +kernel
theorem dL_makes_236 : decode cL_makes 236 = .ok (.iload 6, 2) := by decide +kernel
theorem dL_makes_238 : decode cL_makes 238 = .ok (.ifCond .lt 10, 3) := by decide +kernel
theorem dL_makes_241 : decode cL_makes 241 = .ok (.aload_n 1, 1) := by decide +kernel
theorem dL_makes_242 : decode cL_makes 242 = .ok (.iload 6, 2) := by decide +kernel
theorem dL_makes_244 : decode cL_makes 244 = .ok (.iaload, 1) := by decide +kernel
theorem dL_makes_245 : decode cL_makes 245 = .ok (.goto 4, 3) := by decide +kernel
theorem dL_makes_248 : decode cL_makes 248 = .ok (.iconst 0, 1) := by decide +kernel
theorem dL_makes_249 : decode cL_makes 249 = .ok (.iadd, 1) := by decide +kernel
theorem dL_makes_250 : decode cL_makes 250 = .ok (.iload 7, 2) := by decide +kernel
theorem dL_makes_252 : decode cL_makes 252 = .ok (.ifCond .lt 17, 3) := by decide +kernel
theorem dL_makes_255 : decode cL_makes 255 = .ok (.iload 5, 2) := by decide +kernel
theorem dL_makes_257 : decode cL_makes 257 = .ok (.bipush 38, 2) := by decide +kernel
theorem dL_makes_259 : decode cL_makes 259 = .ok (.if_icmp .eq 10, 3) := by decide +kernel
theorem dL_makes_262 : decode cL_makes 262 = .ok (.aload_n 1, 1) := by decide +kernel
theorem dL_makes_263 : decode cL_makes 263 = .ok (.iload 7, 2) := by decide +kernel
theorem dL_makes_265 : decode cL_makes 265 = .ok (.iaload, 1) := by decide +kernel
theorem dL_makes_266 : decode cL_makes 266 = .ok (.goto 4, 3) := by decide +kernel
theorem dL_makes_269 : decode cL_makes 269 = .ok (.iconst 0, 1) := by decide +kernel
theorem dL_makes_270 : decode cL_makes 270 = .ok (.iadd, 1) := by decide +kernel
theorem dL_makes_271 : decode cL_makes 271 = .ok (.iload 8, 2) := by decide +kernel
theorem dL_makes_273 : decode cL_makes 273 = .ok (.ifCond .lt 10, 3) := by decide +kernel
theorem dL_makes_276 : decode cL_makes 276 = .ok (.aload_n 1, 1) := by decide +kernel
theorem dL_makes_277 : decode cL_makes 277 = .ok (.iload 8, 2) := by decide +kernel
theorem dL_makes_279 : decode cL_makes 279 = .ok (.iaload, 1) := by decide +kernel
theorem dL_makes_280 : decode cL_makes 280 = .ok (.goto 4, 3) := by decide +kernel
theorem dL_makes_283 : decode cL_makes 283 = .ok (.iconst 0, 1) := by decide +kernel
theorem dL_makes_284 : decode cL_makes 284 = .ok (.iadd, 1) := by decide +kernel
theorem dL_makes_285 : decode cL_makes 285 = .ok (.istore 10, 2) := by decide +kernel
theorem dL_makes_287 : decode cL_makes 287 = .ok (.iload 10, 2) := by decide +kernel
theorem dL_makes_289 : decode cL_makes 289 = .ok (.sipush 150, 3) := by decide +kernel
theorem dL_makes_292 : decode cL_makes 292 = .ok (.if_icmp .gt 7, 3) := by decide +kernel
theorem dL_makes_295 : decode cL_makes 295 = .ok (.iconst 1, 1) := by decide +kernel
theorem dL_makes_296 : decode cL_makes 296 = .ok (.goto 4, 3) := by decide +kernel
theorem dL_makes_299 : decode cL_makes 299 = .ok (.iconst 0, 1) := by decide +kernel
theorem dL_makes_300 : decode cL_makes 300 = .ok (.istore 11, 2) := by decide +kernel
theorem dL_makes_302 : decode cL_makes 302 = .ok (.aload_n 0, 1) := by decide +kernel
theorem dL_makes_303 : decode cL_makes 303 = .ok (.iload 5, 2) := by decide +kernel
theorem dL_makes_305 : decode cL_makes 305 = .ok (.iload 6, 2) := by decide +kernel
theorem dL_makes_307 : decode cL_makes 307 = .ok (.iload 7, 2) := by decide +kernel
theorem dL_makes_309 : decode cL_makes 309 = .ok (.iload 8, 2) := by decide +kernel
theorem dL_makes_311 : decode cL_makes 311 = .ok (.invokestatic 110, 3) := by decide +kernel
theorem dL_makes_314 : decode cL_makes 314 = .ok (.istore 12, 2) := by decide +kernel
theorem dL_makes_316 : decode cL_makes 316 = .ok (.iload 11, 2) := by decide +kernel
theorem dL_makes_318 : decode cL_makes 318 = .ok (.ifCond .eq 17, 3) := by decide +kernel
theorem dL_makes_321 : decode cL_makes 321 = .ok (.aload_n 1, 1) := by decide +kernel
theorem dL_makes_322 : decode cL_makes 322 = .ok (.aload_n 2, 1) := by decide +kernel
theorem dL_makes_323 : decode cL_makes 323 = .ok (.iconst 0, 1) := by decide +kernel
theorem dL_makes_324 : decode cL_makes 324 = .ok (.iaload, 1) := by decide +kernel
theorem dL_makes_325 : decode cL_makes 325 = .ok (.iload 10, 2) := by decide +kernel
theorem dL_makes_327 : decode cL_makes 327 = .ok (.iastore, 1) := by decide +kernel
theorem dL_makes_328 : decode cL_makes 328 = .ok (.aload_n 2, 1) := by decide +kernel
theorem dL_makes_329 : decode cL_makes 329 = .ok (.iconst 0, 1) := by decide +kernel
theorem dL_makes_330 : decode cL_makes 330 = .ok (.dup2, 1) := by decide +kernel
theorem dL_makes_331 : decode cL_makes 331 = .ok (.iaload, 1) := by decide +kernel
theorem dL_makes_332 : decode cL_makes 332 = .ok (.iconst 1, 1) := by decide +kernel
theorem dL_makes_333 : decode cL_makes 333 = .ok (.iadd, 1) := by decide +kernel
theorem dL_makes_334 : decode cL_makes 334 = .ok (.iastore, 1) := by decide +kernel
theorem dL_makes_335 : decode cL_makes 335 = .ok (.iload 12, 2) := by decide +kernel
theorem dL_makes_337 : decode cL_makes 337 = .ok (.iload 11, 2) := by decide +kernel
theorem dL_makes_339 : decode cL_makes 339 = .ok (.ifCond .eq 11, 3) := by decide +kernel
theorem dL_makes_342 : decode cL_makes 342 = .ok (.aload_n 2, 1) := by decide +kernel
theorem dL_makes_343 : decode cL_makes 343 = .ok (.iconst 0, 1) := by decide +kernel
theorem dL_makes_344 : decode cL_makes 344 = .ok (.iaload, 1) := by decide +kernel
theorem dL_makes_345 : decode cL_makes 345 = .ok (.iconst 1, 1) := by decide +kernel
theorem dL_makes_346 : decode cL_makes 346 = .ok (.isub, 1) := by decide +kernel
theorem dL_makes_347 : decode cL_makes 347 = .ok (.goto 5, 3) := by decide +kernel
theorem dL_makes_350 : decode cL_makes 350 = .ok (.ldc 24, 2) := by decide +kernel
theorem dL_makes_352 : decode cL_makes 352 = .ok (.if_icmp .ne 78, 3) := by decide +kernel
theorem dL_makes_355 : decode cL_makes 355 = .ok (.iload 11, 2) := by decide +kernel
theorem dL_makes_357 : decode cL_makes 357 = .ok (.ifCond .eq 14, 3) := by decide +kernel
theorem dL_makes_360 : decode cL_makes 360 = .ok (.aload_n 0, 1) := by decide +kernel
theorem dL_makes_361 : decode cL_makes 361 = .ok (.iload 12, 2) := by decide +kernel
theorem dL_makes_363 : decode cL_makes 363 = .ok (.invokestatic 113, 3) := by decide +kernel
theorem dL_makes_366 : decode cL_makes 366 = .ok (.iload 10, 2) := by decide +kernel
theorem dL_makes_368 : decode cL_makes 368 = .ok (.if_icmp .ne 62, 3) := by decide +kernel
theorem dL_makes_371 : decode cL_makes 371 = .ok (.aload_n 0, 1) := by decide +kernel
theorem dL_makes_372 : decode cL_makes 372 = .ok (.aload_n 2, 1) := by decide +kernel
theorem dL_makes_373 : decode cL_makes 373 = .ok (.iconst 0, 1) := by decide +kernel
theorem dL_makes_374 : decode cL_makes 374 = .ok (.iaload, 1) := by decide +kernel
theorem dL_makes_375 : decode cL_makes 375 = .ok (.invokestatic 113, 3) := by decide +kernel
theorem dL_makes_378 : decode cL_makes 378 = .ok (.ldc 18, 2) := by decide +kernel
theorem dL_makes_380 : decode cL_makes 380 = .ok (.if_icmp .ne 50, 3) := by decide +kernel
theorem dL_makes_383 : decode cL_makes 383 = .ok (.aload_n 0, 1) := by decide +kernel
theorem dL_makes_384 : decode cL_makes 384 = .ok (.bipush 40, 2) := by decide +kernel
theorem dL_makes_386 : decode cL_makes 386 = .ok (.iconst 0, 1) := by decide +kernel
theorem dL_makes_387 : decode cL_makes 387 = .ok (.iconst 0, 1) := by decide +kernel
theorem dL_makes_388 : decode cL_makes 388 = .ok (.iconst 0, 1) := by decide +kernel
theorem dL_makes_389 : decode cL_makes 389 = .ok (.invokestatic 110, 3) := by decide +kernel
theorem dL_makes_392 : decode cL_makes 392 = .ok (.ldc 21, 2) := by decide +kernel
theorem dL_makes_394 : decode cL_makes 394 = .ok (.if_icmp .ne 36, 3) := by decide +kernel
theorem dL_makes_397 : decode cL_makes 397 = .ok (.aload_n 0, 1) := by decide +kernel
theorem dL_makes_398 : decode cL_makes 398 = .ok (.iconst 4, 1) := by decide +kernel
theorem dL_makes_399 : decode cL_makes 399 = .ok (.aload_n 2, 1) := by decide +kernel
theorem dL_makes_400 : decode cL_makes 400 = .ok (.iconst 0, 1) := by decide +kernel
theorem dL_makes_401 : decode cL_makes 401 = .ok (.iaload, 1) := by decide +kernel
theorem dL_makes_402 : decode cL_makes 402 = .ok (.iconst 0, 1) := by decide +kernel
theorem dL_makes_403 : decode cL_makes 403 = .ok (.iconst (-1), 1) := by decide +kernel
theorem dL_makes_404 : decode cL_makes 404 = .ok (.invokestatic 110, 3) := by decide +kernel
theorem dL_makes_407 : decode cL_makes 407 = .ok (.ldc 18, 2) := by decide +kernel
theorem dL_makes_409 : decode cL_makes 409 = .ok (.if_icmp .ne 21, 3) := by decide +kernel
theorem dL_makes_412 : decode cL_makes 412 = .ok (.aload_n 0, 1) := by decide +kernel
theorem dL_makes_413 : decode cL_makes 413 = .ok (.iconst 1, 1) := by decide +kernel
theorem dL_makes_414 : decode cL_makes 414 = .ok (.bipush 8, 2) := by decide +kernel
theorem dL_makes_416 : decode cL_makes 416 = .ok (.iconst (-1), 1) := by decide +kernel
theorem dL_makes_417 : decode cL_makes 417 = .ok (.iconst (-1), 1) := by decide +kernel
theorem dL_makes_418 : decode cL_makes 418 = .ok (.invokestatic 110, 3) := by decide +kernel
theorem dL_makes_421 : decode cL_makes 421 = .ok (.ldc 21, 2) := by decide +kernel
theorem dL_makes_423 : decode cL_makes 423 = .ok (.if_icmp .ne 7, 3) := by decide +kernel
theorem dL_makes_426 : decode cL_makes 426 = .ok (.iconst 1, 1) := by decide +kernel
theorem dL_makes_427 : decode cL_makes 427 = .ok (.goto 4, 3) := by decide +kernel
theorem dL_makes_430 : decode cL_makes 430 = .ok (.iconst 0, 1) := by decide +kernel
theorem dL_makes_431 : decode cL_makes 431 = .ok (.ireturn, 1) := by decide +kernel
theorem dL_notes_0 : decode cL_notes 0 = .ok (.iconst 1, 1) := by decide +kernel
theorem dL_notes_1 : decode cL_notes 1 = .ok (.istore_n 2, 1) := by decide +kernel
theorem dL_notes_2 : decode cL_notes 2 = .ok (.iconst 0, 1) := by decide +kernel
theorem dL_notes_3 : decode cL_notes 3 = .ok (.istore_n 3, 1) := by decide +kernel
theorem dL_notes_4 : decode cL_notes 4 = .ok (.iload_n 3, 1) := by decide +kernel
theorem dL_notes_5 : decode cL_notes 5 = .ok (.iconst 2, 1) := by decide +kernel
theorem dL_notes_6 : decode cL_notes 6 = .ok (.if_icmp .ge 158, 3) := by decide +kernel
theorem dL_notes_9 : decode cL_notes 9 = .ok (.aload_n 0, 1) := by decide +kernel
theorem dL_notes_10 : decode cL_notes 10 = .ok (.iload_n 3, 1) := by decide +kernel
theorem dL_notes_11 : decode cL_notes 11 = .ok (.invokestatic 116, 3) := by decide +kernel
theorem dL_notes_14 : decode cL_notes 14 = .ok (.istore 4, 2) := by decide +kernel
theorem dL_notes_16 : decode cL_notes 16 = .ok (.aload_n 1, 1) := by decide +kernel
theorem dL_notes_17 : decode cL_notes 17 = .ok (.iload_n 3, 1) := by decide +kernel
theorem dL_notes_18 : decode cL_notes 18 = .ok (.iload 4, 2) := by decide +kernel
theorem dL_notes_20 : decode cL_notes 20 = .ok (.iastore, 1) := by decide +kernel
theorem dL_notes_21 : decode cL_notes 21 = .ok (.iconst 0, 1) := by decide +kernel
theorem dL_notes_22 : decode cL_notes 22 = .ok (.istore 5, 2) := by decide +kernel
theorem dL_notes_24 : decode cL_notes 24 = .ok (.iload 5, 2) := by decide +kernel
theorem dL_notes_26 : decode cL_notes 26 = .ok (.iconst 4, 1) := by decide +kernel
theorem dL_notes_27 : decode cL_notes 27 = .ok (.if_icmp .ge 53, 3) := by decide +kernel
theorem dL_notes_30 : decode cL_notes 30 = .ok (.aload_n 0, 1) := by decide +kernel
theorem dL_notes_31 : decode cL_notes 31 = .ok (.iload_n 3, 1) := by decide +kernel
theorem dL_notes_32 : decode cL_notes 32 = .ok (.iload 5, 2) := by decide +kernel
theorem dL_notes_34 : decode cL_notes 34 = .ok (.invokestatic 118, 3) := by decide +kernel
theorem dL_notes_37 : decode cL_notes 37 = .ok (.istore 6, 2) := by decide +kernel
theorem dL_notes_39 : decode cL_notes 39 = .ok (.aload_n 1, 1) := by decide +kernel
theorem dL_notes_40 : decode cL_notes 40 = .ok (.iconst 2, 1) := by decide +kernel
theorem dL_notes_41 : decode cL_notes 41 = .ok (.iconst 4, 1) := by decide +kernel
theorem dL_notes_42 : decode cL_notes 42 = .ok (.iload_n 3, 1) := by decide +kernel
theorem dL_notes_43 : decode cL_notes 43 = .ok (.imul, 1) := by decide +kernel
theorem dL_notes_44 : decode cL_notes 44 = .ok (.iadd, 1) := by decide +kernel
theorem dL_notes_45 : decode cL_notes 45 = .ok (.iload 5, 2) := by decide +kernel
theorem dL_notes_47 : decode cL_notes 47 = .ok (.iadd, 1) := by decide +kernel
theorem dL_notes_48 : decode cL_notes 48 = .ok (.iload 6, 2) := by decide +kernel
theorem dL_notes_50 : decode cL_notes 50 = .ok (.iastore, 1) := by decide +kernel
theorem dL_notes_51 : decode cL_notes 51 = .ok (.iload_n 2, 1) := by decide +kernel
theorem dL_notes_52 : decode cL_notes 52 = .ok (.ifCond .eq 20, 3) := by decide +kernel
theorem dL_notes_55 : decode cL_notes 55 = .ok (.iload 6, 2) := by decide +kernel
theorem dL_notes_57 : decode cL_notes 57 = .ok (.iconst (-1), 1) := by decide +kernel
theorem dL_notes_58 : decode cL_notes 58 = .ok (.if_icmp .lt 14, 3) := by decide +kernel
theorem dL_notes_61 : decode cL_notes 61 = .ok (.iload 6, 2) := by decide +kernel
theorem dL_notes_63 : decode cL_notes 63 = .ok (.iload 4, 2) := by decide +kernel
theorem dL_notes_65 : decode cL_notes 65 = .ok (.if_icmp .gt 7, 3) := by decide +kernel
theorem dL_notes_68 : decode cL_notes 68 = .ok (.iconst 1, 1) := by decide +kernel
theorem dL_notes_69 : decode cL_notes 69 = .ok (.goto 4, 3) := by decide +kernel
theorem dL_notes_72 : decode cL_notes 72 = .ok (.iconst 0, 1) := by decide +kernel
theorem dL_notes_73 : decode cL_notes 73 = .ok (.istore_n 2, 1) := by decide +kernel
theorem dL_notes_74 : decode cL_notes 74 = .ok (.iinc 5 1, 3) := by decide +kernel
theorem dL_notes_77 : decode cL_notes 77 = .ok (.goto (-53), 3) := by decide +kernel
theorem dL_notes_80 : decode cL_notes 80 = .ok (.aload_n 1, 1) := by decide +kernel
theorem dL_notes_81 : decode cL_notes 81 = .ok (.bipush 10, 2) := by decide +kernel
theorem dL_notes_83 : decode cL_notes 83 = .ok (.iload_n 3, 1) := by decide +kernel
theorem dL_notes_84 : decode cL_notes 84 = .ok (.iadd, 1) := by decide +kernel
theorem dL_notes_85 : decode cL_notes 85 = .ok (.aload_n 0, 1) := by decide +kernel
theorem dL_notes_86 : decode cL_notes 86 = .ok (.iload_n 3, 1) := by decide +kernel
theorem dL_notes_87 : decode cL_notes 87 = .ok (.invokestatic 121, 3) := by decide +kernel
theorem dL_notes_90 : decode cL_notes 90 = .ok (.iastore, 1) := by decide +kernel
theorem dL_notes_91 : decode cL_notes 91 = .ok (.iload_n 2, 1) := by decide +kernel
theorem dL_notes_92 : decode cL_notes 92 = .ok (.ifCond .eq 64, 3) := by decide +kernel
theorem dL_notes_95 : decode cL_notes 95 = .ok (.iload 4, 2) := by decide +kernel
theorem dL_notes_97 : decode cL_notes 97 = .ok (.ifCond .lt 59, 3) := by decide +kernel
theorem dL_notes_100 : decode cL_notes 100 = .ok (.iload 4, 2) := by decide +kernel
theorem dL_notes_102 : decode cL_notes 102 = .ok (.bipush 41, 2) := by decide +kernel
theorem dL_notes_104 : decode cL_notes 104 = .ok (.if_icmp .ge 52, 3) := by decide +kernel
theorem dL_notes_107 : decode cL_notes 107 = .ok (.aload_n 1, 1) := by decide +kernel
theorem dL_notes_108 : decode cL_notes 108 = .ok (.bipush 10, 2) := by decide +kernel
theorem dL_notes_110 : decode cL_notes 110 = .ok (.iload_n 3, 1) := by decide +kernel
theorem dL_notes_111 : decode cL_notes 111 = .ok (.iadd, 1) := by decide +kernel
theorem dL_notes_112 : decode cL_notes 112 = .ok (.iaload, 1) := by decide +kernel
theorem dL_notes_113 : decode cL_notes 113 = .ok (.ifCond .lt 43, 3) := by decide +kernel
theorem dL_notes_116 : decode cL_notes 116 = .ok (.aload_n 1, 1) := by decide +kernel
theorem dL_notes_117 : decode cL_notes 117 = .ok (.bipush 10, 2) := by decide +kernel
theorem dL_notes_119 : decode cL_notes 119 = .ok (.iload_n 3, 1) := by decide +kernel
theorem dL_notes_120 : decode cL_notes 120 = .ok (.iadd, 1) := by decide +kernel
theorem dL_notes_121 : decode cL_notes 121 = .ok (.iaload, 1) := by decide +kernel
theorem dL_notes_122 : decode cL_notes 122 = .ok (.iconst 4, 1) := by decide +kernel
theorem dL_notes_123 : decode cL_notes 123 = .ok (.if_icmp .ge 33, 3) := by decide +kernel
theorem dL_notes_126 : decode cL_notes 126 = .ok (.aload_n 0, 1) := by decide +kernel
theorem dL_notes_127 : decode cL_notes 127 = .ok (.iload_n 3, 1) := by decide +kernel
theorem dL_notes_128 : decode cL_notes 128 = .ok (.aload_n 1, 1) := by decide +kernel
theorem dL_notes_129 : decode cL_notes 129 = .ok (.bipush 10, 2) := by decide +kernel
theorem dL_notes_131 : decode cL_notes 131 = .ok (.iload_n 3, 1) := by decide +kernel
theorem dL_notes_132 : decode cL_notes 132 = .ok (.iadd, 1) := by decide +kernel
theorem dL_notes_133 : decode cL_notes 133 = .ok (.iaload, 1) := by decide +kernel
theorem dL_notes_134 : decode cL_notes 134 = .ok (.invokestatic 118, 3) := by decide +kernel
theorem dL_notes_137 : decode cL_notes 137 = .ok (.ifCond .lt 19, 3) := by decide +kernel
theorem dL_notes_140 : decode cL_notes 140 = .ok (.aload_n 0, 1) := by decide +kernel
theorem dL_notes_141 : decode cL_notes 141 = .ok (.iload_n 3, 1) := by decide +kernel
theorem dL_notes_142 : decode cL_notes 142 = .ok (.iload 4, 2) := by decide +kernel
theorem dL_notes_144 : decode cL_notes 144 = .ok (.invokestatic 123, 3) := by decide +kernel
theorem dL_notes_147 : decode cL_notes 147 = .ok (.ldc 18, 2) := by decide +kernel
theorem dL_notes_149 : decode cL_notes 149 = .ok (.if_icmp .ne 7, 3) := by decide +kernel
theorem dL_notes_152 : decode cL_notes 152 = .ok (.iconst 1, 1) := by decide +kernel
theorem dL_notes_153 : decode cL_notes 153 = .ok (.goto 4, 3) := by decide +kernel
theorem dL_notes_156 : decode cL_notes 156 = .ok (.iconst 0, 1) := by decide +kernel
theorem dL_notes_157 : decode cL_notes 157 = .ok (.istore_n 2, 1) := by decide +kernel
theorem dL_notes_158 : decode cL_notes 158 = .ok (.iinc 3 1, 3) := by decide +kernel
theorem dL_notes_161 : decode cL_notes 161 = .ok (.goto (-157), 3) := by decide +kernel
theorem dL_notes_164 : decode cL_notes 164 = .ok (.iconst 0, 1) := by decide +kernel
theorem dL_notes_165 : decode cL_notes 165 = .ok (.istore_n 3, 1) := by decide +kernel
theorem dL_notes_166 : decode cL_notes 166 = .ok (.iload_n 3, 1) := by decide +kernel
theorem dL_notes_167 : decode cL_notes 167 = .ok (.bipush 6, 2) := by decide +kernel
theorem dL_notes_169 : decode cL_notes 169 = .ok (.if_icmp .ge 40, 3) := by decide +kernel
theorem dL_notes_172 : decode cL_notes 172 = .ok (.aload_n 1, 1) := by decide +kernel
theorem dL_notes_173 : decode cL_notes 173 = .ok (.bipush 12, 2) := by decide +kernel
theorem dL_notes_175 : decode cL_notes 175 = .ok (.iload_n 3, 1) := by decide +kernel
theorem dL_notes_176 : decode cL_notes 176 = .ok (.iadd, 1) := by decide +kernel
theorem dL_notes_177 : decode cL_notes 177 = .ok (.iload_n 3, 1) := by decide +kernel
theorem dL_notes_178 : decode cL_notes 178 = .ok (.iconst 4, 1) := by decide +kernel
theorem dL_notes_179 : decode cL_notes 179 = .ok (.if_icmp .ge 11, 3) := by decide +kernel
theorem dL_notes_182 : decode cL_notes 182 = .ok (.aload_n 0, 1) := by decide +kernel
theorem dL_notes_183 : decode cL_notes 183 = .ok (.iload_n 3, 1) := by decide +kernel
theorem dL_notes_184 : decode cL_notes 184 = .ok (.invokestatic 125, 3) := by decide +kernel
theorem dL_notes_187 : decode cL_notes 187 = .ok (.goto 4, 3) := by decide +kernel
theorem dL_notes_190 : decode cL_notes 190 = .ok (.iconst 0, 1) := by decide +kernel
theorem dL_notes_191 : decode cL_notes 191 = .ok (.iastore, 1) := by decide +kernel
theorem dL_notes_192 : decode cL_notes 192 = .ok (.aload_n 1, 1) := by decide +kernel
theorem dL_notes_193 : decode cL_notes 193 = .ok (.bipush 18, 2) := by decide +kernel
theorem dL_notes_195 : decode cL_notes 195 = .ok (.iload_n 3, 1) := by decide +kernel
theorem dL_notes_196 : decode cL_notes 196 = .ok (.iadd, 1) := by decide +kernel
theorem dL_notes_197 : decode cL_notes 197 = .ok (.aload_n 0, 1) := by decide +kernel
theorem dL_notes_198 : decode cL_notes 198 = .ok (.iload_n 3, 1) := by decide +kernel
theorem dL_notes_199 : decode cL_notes 199 = .ok (.invokestatic 127, 3) := by decide +kernel
theorem dL_notes_202 : decode cL_notes 202 = .ok (.iastore, 1) := by decide +kernel
theorem dL_notes_203 : decode cL_notes 203 = .ok (.iinc 3 1, 3) := by decide +kernel
theorem dL_notes_206 : decode cL_notes 206 = .ok (.goto (-40), 3) := by decide +kernel
theorem dL_notes_209 : decode cL_notes 209 = .ok (.aload_n 1, 1) := by decide +kernel
theorem dL_notes_210 : decode cL_notes 210 = .ok (.bipush 24, 2) := by decide +kernel
theorem dL_notes_212 : decode cL_notes 212 = .ok (.aload_n 0, 1) := by decide +kernel
theorem dL_notes_213 : decode cL_notes 213 = .ok (.invokevirtual 129, 3) := by decide +kernel
theorem dL_notes_216 : decode cL_notes 216 = .ok (.iastore, 1) := by decide +kernel
theorem dL_notes_217 : decode cL_notes 217 = .ok (.aload_n 1, 1) := by decide +kernel
theorem dL_notes_218 : decode cL_notes 218 = .ok (.bipush 25, 2) := by decide +kernel
theorem dL_notes_220 : decode cL_notes 220 = .ok (.aload_n 0, 1) := by decide +kernel
theorem dL_notes_221 : decode cL_notes 221 = .ok (.invokevirtual 132, 3) := by decide +kernel
theorem dL_notes_224 : decode cL_notes 224 = .ok (.iastore, 1) := by decide +kernel
theorem dL_notes_225 : decode cL_notes 225 = .ok (.iload_n 2, 1) := by decide +kernel
theorem dL_notes_226 : decode cL_notes 226 = .ok (.ifCond .eq 22, 3) := by decide +kernel
theorem dL_notes_229 : decode cL_notes 229 = .ok (.aload_n 1, 1) := by decide +kernel
theorem dL_notes_230 : decode cL_notes 230 = .ok (.bipush 25, 2) := by decide +kernel
theorem dL_notes_232 : decode cL_notes 232 = .ok (.iaload, 1) := by decide +kernel
theorem dL_notes_233 : decode cL_notes 233 = .ok (.ifCond .eq 11, 3) := by decide +kernel
theorem dL_notes_236 : decode cL_notes 236 = .ok (.aload_n 1, 1) := by decide +kernel
theorem dL_notes_237 : decode cL_notes 237 = .ok (.bipush 25, 2) := by decide +kernel
theorem dL_notes_239 : decode cL_notes 239 = .ok (.iaload, 1) := by decide +kernel
theorem dL_notes_240 : decode cL_notes 240 = .ok (.iconst 1, 1) := by decide +kernel
theorem dL_notes_241 : decode cL_notes 241 = .ok (.if_icmp .ne 7, 3) := by decide +kernel
theorem dL_notes_244 : decode cL_notes 244 = .ok (.iconst 1, 1) := by decide +kernel
theorem dL_notes_245 : decode cL_notes 245 = .ok (.goto 4, 3) := by decide +kernel
theorem dL_notes_248 : decode cL_notes 248 = .ok (.iconst 0, 1) := by decide +kernel
theorem dL_notes_249 : decode cL_notes 249 = .ok (.ireturn, 1) := by decide +kernel
theorem dL_letters_0 : decode cL_letters 0 = .ok (.iconst 1, 1) := by decide +kernel
theorem dL_letters_1 : decode cL_letters 1 = .ok (.istore_n 3, 1) := by decide +kernel
theorem dL_letters_2 : decode cL_letters 2 = .ok (.iconst 0, 1) := by decide +kernel
theorem dL_letters_3 : decode cL_letters 3 = .ok (.istore 4, 2) := by decide +kernel
theorem dL_letters_5 : decode cL_letters 5 = .ok (.iload 4, 2) := by decide +kernel
theorem dL_letters_7 : decode cL_letters 7 = .ok (.iconst 2, 1) := by decide +kernel
theorem dL_letters_8 : decode cL_letters 8 = .ok (.if_icmp .ge 99, 3) := by decide +kernel
theorem dL_letters_11 : decode cL_letters 11 = .ok (.iconst 0, 1) := by decide +kernel
theorem dL_letters_12 : decode cL_letters 12 = .ok (.istore 5, 2) := by decide +kernel
theorem dL_letters_14 : decode cL_letters 14 = .ok (.iload 5, 2) := by decide +kernel
theorem dL_letters_16 : decode cL_letters 16 = .ok (.aload_n 0, 1) := by decide +kernel
theorem dL_letters_17 : decode cL_letters 17 = .ok (.iload 4, 2) := by decide +kernel
theorem dL_letters_19 : decode cL_letters 19 = .ok (.invokestatic 116, 3) := by decide +kernel
theorem dL_letters_22 : decode cL_letters 22 = .ok (.if_icmp .ge 79, 3) := by decide +kernel
theorem dL_letters_25 : decode cL_letters 25 = .ok (.iload 5, 2) := by decide +kernel
theorem dL_letters_27 : decode cL_letters 27 = .ok (.bipush 31, 2) := by decide +kernel
theorem dL_letters_29 : decode cL_letters 29 = .ok (.if_icmp .ge 72, 3) := by decide +kernel
theorem dL_letters_32 : decode cL_letters 32 = .ok (.aload_n 0, 1) := by decide +kernel
theorem dL_letters_33 : decode cL_letters 33 = .ok (.iload 4, 2) := by decide +kernel
theorem dL_letters_35 : decode cL_letters 35 = .ok (.iload 5, 2) := by decide +kernel
theorem dL_letters_37 : decode cL_letters 37 = .ok (.invokestatic 123, 3) := by decide +kernel
theorem dL_letters_40 : decode cL_letters 40 = .ok (.istore 6, 2) := by decide +kernel
theorem dL_letters_42 : decode cL_letters 42 = .ok (.iload_n 3, 1) := by decide +kernel
theorem dL_letters_43 : decode cL_letters 43 = .ok (.ifCond .eq 38, 3) := by decide +kernel
theorem dL_letters_46 : decode cL_letters 46 = .ok (.iload 6, 2) := by decide +kernel
theorem dL_letters_48 : decode cL_letters 48 = .ok (.ifCond .lt 33, 3) := by decide +kernel
theorem dL_letters_51 : decode cL_letters 51 = .ok (.iload 6, 2) := by decide +kernel
theorem dL_letters_53 : decode cL_letters 53 = .ok (.bipush 26, 2) := by decide +kernel
theorem dL_letters_55 : decode cL_letters 55 = .ok (.if_icmp .ge 26, 3) := by decide +kernel
theorem dL_letters_58 : decode cL_letters 58 = .ok (.iload_n 2, 1) := by decide +kernel
theorem dL_letters_59 : decode cL_letters 59 = .ok (.ifCond .ne 18, 3) := by decide +kernel
theorem dL_letters_62 : decode cL_letters 62 = .ok (.aload_n 1, 1) := by decide +kernel
theorem dL_letters_63 : decode cL_letters 63 = .ok (.bipush 31, 2) := by decide +kernel
theorem dL_letters_65 : decode cL_letters 65 = .ok (.iload 4, 2) := by decide +kernel
theorem dL_letters_67 : decode cL_letters 67 = .ok (.imul, 1) := by decide +kernel
theorem dL_letters_68 : decode cL_letters 68 = .ok (.iload 5, 2) := by decide +kernel
theorem dL_letters_70 : decode cL_letters 70 = .ok (.iadd, 1) := by decide +kernel
theorem dL_letters_71 : decode cL_letters 71 = .ok (.iaload, 1) := by decide +kernel
theorem dL_letters_72 : decode cL_letters 72 = .ok (.iload 6, 2) := by decide +kernel
theorem dL_letters_74 : decode cL_letters 74 = .ok (.if_icmp .ne 7, 3) := by decide +kernel
theorem dL_letters_77 : decode cL_letters 77 = .ok (.iconst 1, 1) := by decide +kernel
theorem dL_letters_78 : decode cL_letters 78 = .ok (.goto 4, 3) := by decide +kernel
theorem dL_letters_81 : decode cL_letters 81 = .ok (.iconst 0, 1) := by decide +kernel
theorem dL_letters_82 : decode cL_letters 82 = .ok (.istore_n 3, 1) := by decide +kernel
theorem dL_letters_83 : decode cL_letters 83 = .ok (.aload_n 1, 1) := by decide +kernel
theorem dL_letters_84 : decode cL_letters 84 = .ok (.bipush 31, 2) := by decide +kernel
theorem dL_letters_86 : decode cL_letters 86 = .ok (.iload 4, 2) := by decide +kernel
theorem dL_letters_88 : decode cL_letters 88 = .ok (.imul, 1) := by decide +kernel
theorem dL_letters_89 : decode cL_letters 89 = .ok (.iload 5, 2) := by decide +kernel
theorem dL_letters_91 : decode cL_letters 91 = .ok (.iadd, 1) := by decide +kernel
theorem dL_letters_92 : decode cL_letters 92 = .ok (.iload 6, 2) := by decide +kernel
theorem dL_letters_94 : decode cL_letters 94 = .ok (.iastore, 1) := by decide +kernel
theorem dL_letters_95 : decode cL_letters 95 = .ok (.iinc 5 1, 3) := by decide +kernel
theorem dL_letters_98 : decode cL_letters 98 = .ok (.goto (-84), 3) := by decide +kernel
theorem dL_letters_101 : decode cL_letters 101 = .ok (.iinc 4 1, 3) := by decide +kernel
theorem dL_letters_104 : decode cL_letters 104 = .ok (.goto (-99), 3) := by decide +kernel
theorem dL_letters_107 : decode cL_letters 107 = .ok (.iload_n 3, 1) := by decide +kernel
theorem dL_letters_108 : decode cL_letters 108 = .ok (.ireturn, 1) := by decide +kernel
theorem dL_same_0 : decode cL_same 0 = .ok (.bipush 26, 2) := by decide +kernel
theorem dL_same_2 : decode cL_same 2 = .ok (.newarray .int, 2) := by decide +kernel
theorem dL_same_4 : decode cL_same 4 = .ok (.astore_n 3, 1) := by decide +kernel
theorem dL_same_5 : decode cL_same 5 = .ok (.aload_n 0, 1) := by decide +kernel
theorem dL_same_6 : decode cL_same 6 = .ok (.aload_n 3, 1) := by decide +kernel
theorem dL_same_7 : decode cL_same 7 = .ok (.invokestatic 135, 3) := by decide +kernel
theorem dL_same_10 : decode cL_same 10 = .ok (.istore 4, 2) := by decide +kernel
theorem dL_same_12 : decode cL_same 12 = .ok (.iconst 0, 1) := by decide +kernel
theorem dL_same_13 : decode cL_same 13 = .ok (.istore 5, 2) := by decide +kernel
theorem dL_same_15 : decode cL_same 15 = .ok (.iload 5, 2) := by decide +kernel
theorem dL_same_17 : decode cL_same 17 = .ok (.bipush 26, 2) := by decide +kernel
theorem dL_same_19 : decode cL_same 19 = .ok (.if_icmp .ge 32, 3) := by decide +kernel
theorem dL_same_22 : decode cL_same 22 = .ok (.iload 4, 2) := by decide +kernel
theorem dL_same_24 : decode cL_same 24 = .ok (.ifCond .eq 18, 3) := by decide +kernel
theorem dL_same_27 : decode cL_same 27 = .ok (.aload_n 3, 1) := by decide +kernel
theorem dL_same_28 : decode cL_same 28 = .ok (.iload 5, 2) := by decide +kernel
theorem dL_same_30 : decode cL_same 30 = .ok (.iaload, 1) := by decide +kernel
theorem dL_same_31 : decode cL_same 31 = .ok (.aload_n 1, 1) := by decide +kernel
theorem dL_same_32 : decode cL_same 32 = .ok (.iload 5, 2) := by decide +kernel
theorem dL_same_34 : decode cL_same 34 = .ok (.iaload, 1) := by decide +kernel
theorem dL_same_35 : decode cL_same 35 = .ok (.if_icmp .ne 7, 3) := by decide +kernel
theorem dL_same_38 : decode cL_same 38 = .ok (.iconst 1, 1) := by decide +kernel
theorem dL_same_39 : decode cL_same 39 = .ok (.goto 4, 3) := by decide +kernel
theorem dL_same_42 : decode cL_same 42 = .ok (.iconst 0, 1) := by decide +kernel
theorem dL_same_43 : decode cL_same 43 = .ok (.istore 4, 2) := by decide +kernel
theorem dL_same_45 : decode cL_same 45 = .ok (.iinc 5 1, 3) := by decide +kernel
theorem dL_same_48 : decode cL_same 48 = .ok (.goto (-33), 3) := by decide +kernel
theorem dL_same_51 : decode cL_same 51 = .ok (.iload 4, 2) := by decide +kernel
theorem dL_same_53 : decode cL_same 53 = .ok (.ifCond .eq 16, 3) := by decide +kernel
theorem dL_same_56 : decode cL_same 56 = .ok (.aload_n 0, 1) := by decide +kernel
theorem dL_same_57 : decode cL_same 57 = .ok (.aload_n 2, 1) := by decide +kernel
theorem dL_same_58 : decode cL_same 58 = .ok (.iconst 0, 1) := by decide +kernel
theorem dL_same_59 : decode cL_same 59 = .ok (.invokestatic 139, 3) := by decide +kernel
theorem dL_same_62 : decode cL_same 62 = .ok (.ifCond .eq 7, 3) := by decide +kernel
theorem dL_same_65 : decode cL_same 65 = .ok (.iconst 1, 1) := by decide +kernel
theorem dL_same_66 : decode cL_same 66 = .ok (.goto 4, 3) := by decide +kernel
theorem dL_same_69 : decode cL_same 69 = .ok (.iconst 0, 1) := by decide +kernel
theorem dL_same_70 : decode cL_same 70 = .ok (.ireturn, 1) := by decide +kernel
theorem dL_isOutcome_0 : decode cL_isOutcome 0 = .ok (.iload_n 0, 1) := by decide +kernel
theorem dL_isOutcome_1 : decode cL_isOutcome 1 = .ok (.sipush (-9999), 3) := by decide +kernel
theorem dL_isOutcome_4 : decode cL_isOutcome 4 = .ok (.if_icmp .lt 10, 3) := by decide +kernel
theorem dL_isOutcome_7 : decode cL_isOutcome 7 = .ok (.iload_n 0, 1) := by decide +kernel
theorem dL_isOutcome_8 : decode cL_isOutcome 8 = .ok (.sipush 9999, 3) := by decide +kernel
theorem dL_isOutcome_11 : decode cL_isOutcome 11 = .ok (.if_icmp .le 43, 3) := by decide +kernel
theorem dL_isOutcome_14 : decode cL_isOutcome 14 = .ok (.iload_n 0, 1) := by decide +kernel
theorem dL_isOutcome_15 : decode cL_isOutcome 15 = .ok (.sipush 20000, 3) := by decide +kernel
theorem dL_isOutcome_18 : decode cL_isOutcome 18 = .ok (.if_icmp .lt 10, 3) := by decide +kernel
theorem dL_isOutcome_21 : decode cL_isOutcome 21 = .ok (.iload_n 0, 1) := by decide +kernel
theorem dL_isOutcome_22 : decode cL_isOutcome 22 = .ok (.sipush 20600, 3) := by decide +kernel
theorem dL_isOutcome_25 : decode cL_isOutcome 25 = .ok (.if_icmp .lt 29, 3) := by decide +kernel
theorem dL_isOutcome_28 : decode cL_isOutcome 28 = .ok (.iload_n 0, 1) := by decide +kernel
theorem dL_isOutcome_29 : decode cL_isOutcome 29 = .ok (.sipush 30000, 3) := by decide +kernel
theorem dL_isOutcome_32 : decode cL_isOutcome 32 = .ok (.if_icmp .lt 10, 3) := by decide +kernel
theorem dL_isOutcome_35 : decode cL_isOutcome 35 = .ok (.iload_n 0, 1) := by decide +kernel
theorem dL_isOutcome_36 : decode cL_isOutcome 36 = .ok (.sipush 30600, 3) := by decide +kernel
theorem dL_isOutcome_39 : decode cL_isOutcome 39 = .ok (.if_icmp .lt 15, 3) := by decide +kernel
theorem dL_isOutcome_42 : decode cL_isOutcome 42 = .ok (.iload_n 0, 1) := by decide +kernel
theorem dL_isOutcome_43 : decode cL_isOutcome 43 = .ok (.ldc 143, 2) := by decide +kernel
theorem dL_isOutcome_45 : decode cL_isOutcome 45 = .ok (.if_icmp .lt 13, 3) := by decide +kernel
theorem dL_isOutcome_48 : decode cL_isOutcome 48 = .ok (.iload_n 0, 1) := by decide +kernel
theorem dL_isOutcome_49 : decode cL_isOutcome 49 = .ok (.ldc 144, 2) := by decide +kernel
theorem dL_isOutcome_51 : decode cL_isOutcome 51 = .ok (.if_icmp .ge 7, 3) := by decide +kernel
theorem dL_isOutcome_54 : decode cL_isOutcome 54 = .ok (.iconst 1, 1) := by decide +kernel
theorem dL_isOutcome_55 : decode cL_isOutcome 55 = .ok (.goto 4, 3) := by decide +kernel
theorem dL_isOutcome_58 : decode cL_isOutcome 58 = .ok (.iconst 0, 1) := by decide +kernel
theorem dL_isOutcome_59 : decode cL_isOutcome 59 = .ok (.ireturn, 1) := by decide +kernel
theorem dL_told_0 : decode cL_told 0 = .ok (.aload_n 1, 1) := by decide +kernel
theorem dL_told_1 : decode cL_told 1 = .ok (.iconst 2, 1) := by decide +kernel
theorem dL_told_2 : decode cL_told 2 = .ok (.iaload, 1) := by decide +kernel
theorem dL_told_3 : decode cL_told 3 = .ok (.ldc 145, 2) := by decide +kernel
theorem dL_told_5 : decode cL_told 5 = .ok (.if_icmp .le 7, 3) := by decide +kernel
theorem dL_told_8 : decode cL_told 8 = .ok (.iconst 1, 1) := by decide +kernel
theorem dL_told_9 : decode cL_told 9 = .ok (.goto 4, 3) := by decide +kernel
theorem dL_told_12 : decode cL_told 12 = .ok (.iconst 0, 1) := by decide +kernel
theorem dL_told_13 : decode cL_told 13 = .ok (.istore_n 2, 1) := by decide +kernel
theorem dL_told_14 : decode cL_told 14 = .ok (.aload_n 0, 1) := by decide +kernel
theorem dL_told_15 : decode cL_told 15 = .ok (.invokevirtual 146, 3) := by decide +kernel
theorem dL_told_18 : decode cL_told 18 = .ok (.aload_n 1, 1) := by decide +kernel
theorem dL_told_19 : decode cL_told 19 = .ok (.iconst 2, 1) := by decide +kernel
theorem dL_told_20 : decode cL_told 20 = .ok (.iaload, 1) := by decide +kernel
theorem dL_told_21 : decode cL_told 21 = .ok (.if_icmp .ne 109, 3) := by decide +kernel
theorem dL_told_24 : decode cL_told 24 = .ok (.aload_n 0, 1) := by decide +kernel
theorem dL_told_25 : decode cL_told 25 = .ok (.invokevirtual 149, 3) := by decide +kernel
theorem dL_told_28 : decode cL_told 28 = .ok (.aload_n 1, 1) := by decide +kernel
theorem dL_told_29 : decode cL_told 29 = .ok (.iconst 3, 1) := by decide +kernel
theorem dL_told_30 : decode cL_told 30 = .ok (.iaload, 1) := by decide +kernel
theorem dL_told_31 : decode cL_told 31 = .ok (.if_icmp .ne 99, 3) := by decide +kernel
theorem dL_told_34 : decode cL_told 34 = .ok (.aload_n 0, 1) := by decide +kernel
theorem dL_told_35 : decode cL_told 35 = .ok (.invokevirtual 152, 3) := by decide +kernel
theorem dL_told_38 : decode cL_told 38 = .ok (.aload_n 1, 1) := by decide +kernel
theorem dL_told_39 : decode cL_told 39 = .ok (.iconst 4, 1) := by decide +kernel
theorem dL_told_40 : decode cL_told 40 = .ok (.iaload, 1) := by decide +kernel
theorem dL_told_41 : decode cL_told 41 = .ok (.if_icmp .ne 89, 3) := by decide +kernel
theorem dL_told_44 : decode cL_told 44 = .ok (.aload_n 0, 1) := by decide +kernel
theorem dL_told_45 : decode cL_told 45 = .ok (.invokevirtual 155, 3) := by decide +kernel
theorem dL_told_48 : decode cL_told 48 = .ok (.aload_n 1, 1) := by decide +kernel
theorem dL_told_49 : decode cL_told 49 = .ok (.iconst 5, 1) := by decide +kernel
theorem dL_told_50 : decode cL_told 50 = .ok (.iaload, 1) := by decide +kernel
theorem dL_told_51 : decode cL_told 51 = .ok (.if_icmp .ne 79, 3) := by decide +kernel
theorem dL_told_54 : decode cL_told 54 = .ok (.iload_n 2, 1) := by decide +kernel
theorem dL_told_55 : decode cL_told 55 = .ok (.ifCond .eq 20, 3) := by decide +kernel
theorem dL_told_58 : decode cL_told 58 = .ok (.aload_n 1, 1) := by decide +kernel
theorem dL_told_59 : decode cL_told 59 = .ok (.iconst 5, 1) := by decide +kernel
theorem dL_told_60 : decode cL_told 60 = .ok (.iaload, 1) := by decide +kernel
theorem dL_told_61 : decode cL_told 61 = .ok (.ifCond .le 69, 3) := by decide +kernel
theorem dL_told_64 : decode cL_told 64 = .ok (.aload_n 1, 1) := by decide +kernel
theorem dL_told_65 : decode cL_told 65 = .ok (.iconst 5, 1) := by decide +kernel
theorem dL_told_66 : decode cL_told 66 = .ok (.iaload, 1) := by decide +kernel
theorem dL_told_67 : decode cL_told 67 = .ok (.bipush 14, 2) := by decide +kernel
theorem dL_told_69 : decode cL_told 69 = .ok (.if_icmp .ge 61, 3) := by decide +kernel
theorem dL_told_72 : decode cL_told 72 = .ok (.goto 17, 3) := by decide +kernel
theorem dL_told_75 : decode cL_told 75 = .ok (.aload_n 1, 1) := by decide +kernel
theorem dL_told_76 : decode cL_told 76 = .ok (.iconst 5, 1) := by decide +kernel
theorem dL_told_77 : decode cL_told 77 = .ok (.iaload, 1) := by decide +kernel
theorem dL_told_78 : decode cL_told 78 = .ok (.ifCond .ne 52, 3) := by decide +kernel
theorem dL_told_81 : decode cL_told 81 = .ok (.aload_n 1, 1) := by decide +kernel
theorem dL_told_82 : decode cL_told 82 = .ok (.iconst 4, 1) := by decide +kernel
theorem dL_told_83 : decode cL_told 83 = .ok (.iaload, 1) := by decide +kernel
theorem dL_told_84 : decode cL_told 84 = .ok (.ldc 158, 2) := by decide +kernel
theorem dL_told_86 : decode cL_told 86 = .ok (.if_icmp .ne 44, 3) := by decide +kernel
theorem dL_told_89 : decode cL_told 89 = .ok (.aload_n 0, 1) := by decide +kernel
theorem dL_told_90 : decode cL_told 90 = .ok (.invokevirtual 159, 3) := by decide +kernel
theorem dL_told_93 : decode cL_told 93 = .ok (.iconst (-1), 1) := by decide +kernel
theorem dL_told_94 : decode cL_told 94 = .ok (.if_icmp .ne 36, 3) := by decide +kernel
theorem dL_told_97 : decode cL_told 97 = .ok (.aload_n 0, 1) := by decide +kernel
theorem dL_told_98 : decode cL_told 98 = .ok (.invokevirtual 162, 3) := by decide +kernel
theorem dL_told_101 : decode cL_told 101 = .ok (.ifCond .ne 29, 3) := by decide +kernel
theorem dL_told_104 : decode cL_told 104 = .ok (.aload_n 0, 1) := by decide +kernel
theorem dL_told_105 : decode cL_told 105 = .ok (.aload_n 1, 1) := by decide +kernel
theorem dL_told_106 : decode cL_told 106 = .ok (.iconst 5, 1) := by decide +kernel
theorem dL_told_107 : decode cL_told 107 = .ok (.iaload, 1) := by decide +kernel
theorem dL_told_108 : decode cL_told 108 = .ok (.invokestatic 165, 3) := by decide +kernel
theorem dL_told_111 : decode cL_told 111 = .ok (.ldc 18, 2) := by decide +kernel
theorem dL_told_113 : decode cL_told 113 = .ok (.if_icmp .ne 17, 3) := by decide +kernel
theorem dL_told_116 : decode cL_told 116 = .ok (.aload_n 0, 1) := by decide +kernel
theorem dL_told_117 : decode cL_told 117 = .ok (.iconst (-1), 1) := by decide +kernel
theorem dL_told_118 : decode cL_told 118 = .ok (.invokestatic 165, 3) := by decide +kernel
theorem dL_told_121 : decode cL_told 121 = .ok (.ldc 18, 2) := by decide +kernel
theorem dL_told_123 : decode cL_told 123 = .ok (.if_icmp .ne 7, 3) := by decide +kernel
theorem dL_told_126 : decode cL_told 126 = .ok (.iconst 1, 1) := by decide +kernel
theorem dL_told_127 : decode cL_told 127 = .ok (.goto 4, 3) := by decide +kernel
theorem dL_told_130 : decode cL_told 130 = .ok (.iconst 0, 1) := by decide +kernel
theorem dL_told_131 : decode cL_told 131 = .ok (.istore_n 3, 1) := by decide +kernel
theorem dL_told_132 : decode cL_told 132 = .ok (.iconst 0, 1) := by decide +kernel
theorem dL_told_133 : decode cL_told 133 = .ok (.istore 4, 2) := by decide +kernel
theorem dL_told_135 : decode cL_told 135 = .ok (.iload 4, 2) := by decide +kernel
theorem dL_told_137 : decode cL_told 137 = .ok (.aload_n 1, 1) := by decide +kernel
theorem dL_told_138 : decode cL_told 138 = .ok (.iconst 5, 1) := by decide +kernel
theorem dL_told_139 : decode cL_told 139 = .ok (.iaload, 1) := by decide +kernel
theorem dL_told_140 : decode cL_told 140 = .ok (.if_icmp .ge 40, 3) := by decide +kernel
theorem dL_told_143 : decode cL_told 143 = .ok (.iload_n 3, 1) := by decide +kernel
theorem dL_told_144 : decode cL_told 144 = .ok (.ifCond .eq 28, 3) := by decide +kernel
theorem dL_told_147 : decode cL_told 147 = .ok (.aload_n 0, 1) := by decide +kernel
theorem dL_told_148 : decode cL_told 148 = .ok (.iload 4, 2) := by decide +kernel
theorem dL_told_150 : decode cL_told 150 = .ok (.invokestatic 165, 3) := by decide +kernel
theorem dL_told_153 : decode cL_told 153 = .ok (.ifCond .lt 19, 3) := by decide +kernel
theorem dL_told_156 : decode cL_told 156 = .ok (.aload_n 0, 1) := by decide +kernel
theorem dL_told_157 : decode cL_told 157 = .ok (.iload 4, 2) := by decide +kernel
theorem dL_told_159 : decode cL_told 159 = .ok (.invokestatic 165, 3) := by decide +kernel
theorem dL_told_162 : decode cL_told 162 = .ok (.aload_n 1, 1) := by decide +kernel
theorem dL_told_163 : decode cL_told 163 = .ok (.iconst 0, 1) := by decide +kernel
theorem dL_told_164 : decode cL_told 164 = .ok (.iaload, 1) := by decide +kernel
theorem dL_told_165 : decode cL_told 165 = .ok (.if_icmp .ge 7, 3) := by decide +kernel
theorem dL_told_168 : decode cL_told 168 = .ok (.iconst 1, 1) := by decide +kernel
theorem dL_told_169 : decode cL_told 169 = .ok (.goto 4, 3) := by decide +kernel
theorem dL_told_172 : decode cL_told 172 = .ok (.iconst 0, 1) := by decide +kernel
theorem dL_told_173 : decode cL_told 173 = .ok (.istore_n 3, 1) := by decide +kernel
theorem dL_told_174 : decode cL_told 174 = .ok (.iinc 4 1, 3) := by decide +kernel
theorem dL_told_177 : decode cL_told 177 = .ok (.goto (-42), 3) := by decide +kernel
theorem dL_told_180 : decode cL_told 180 = .ok (.iload_n 3, 1) := by decide +kernel
theorem dL_told_181 : decode cL_told 181 = .ok (.ireturn, 1) := by decide +kernel
theorem dL_runs_0 : decode cL_runs 0 = .ok (.iconst 4, 1) := by decide +kernel
theorem dL_runs_1 : decode cL_runs 1 = .ok (.newarray .int, 2) := by decide +kernel
theorem dL_runs_3 : decode cL_runs 3 = .ok (.astore 7, 2) := by decide +kernel
theorem dL_runs_5 : decode cL_runs 5 = .ok (.aload_n 0, 1) := by decide +kernel
theorem dL_runs_6 : decode cL_runs 6 = .ok (.aload_n 2, 1) := by decide +kernel
theorem dL_runs_7 : decode cL_runs 7 = .ok (.invokestatic 135, 3) := by decide +kernel
theorem dL_runs_10 : decode cL_runs 10 = .ok (.ifCond .eq 16, 3) := by decide +kernel
theorem dL_runs_13 : decode cL_runs 13 = .ok (.aload_n 0, 1) := by decide +kernel
theorem dL_runs_14 : decode cL_runs 14 = .ok (.aload_n 3, 1) := by decide +kernel
theorem dL_runs_15 : decode cL_runs 15 = .ok (.iconst 1, 1) := by decide +kernel
theorem dL_runs_16 : decode cL_runs 16 = .ok (.invokestatic 139, 3) := by decide +kernel
theorem dL_runs_19 : decode cL_runs 19 = .ok (.ifCond .eq 7, 3) := by decide +kernel
theorem dL_runs_22 : decode cL_runs 22 = .ok (.iconst 1, 1) := by decide +kernel
theorem dL_runs_23 : decode cL_runs 23 = .ok (.goto 4, 3) := by decide +kernel
theorem dL_runs_26 : decode cL_runs 26 = .ok (.iconst 0, 1) := by decide +kernel
theorem dL_runs_27 : decode cL_runs 27 = .ok (.istore 8, 2) := by decide +kernel
theorem dL_runs_29 : decode cL_runs 29 = .ok (.iconst 0, 1) := by decide +kernel
theorem dL_runs_30 : decode cL_runs 30 = .ok (.istore 9, 2) := by decide +kernel
theorem dL_runs_32 : decode cL_runs 32 = .ok (.iload 9, 2) := by decide +kernel
theorem dL_runs_34 : decode cL_runs 34 = .ok (.iconst 4, 1) := by decide +kernel
theorem dL_runs_35 : decode cL_runs 35 = .ok (.if_icmp .ge 20, 3) := by decide +kernel
theorem dL_runs_38 : decode cL_runs 38 = .ok (.aload 7, 2) := by decide +kernel
theorem dL_runs_40 : decode cL_runs 40 = .ok (.iload 9, 2) := by decide +kernel
theorem dL_runs_42 : decode cL_runs 42 = .ok (.aload_n 0, 1) := by decide +kernel
theorem dL_runs_43 : decode cL_runs 43 = .ok (.iload 9, 2) := by decide +kernel
theorem dL_runs_45 : decode cL_runs 45 = .ok (.invokestatic 167, 3) := by decide +kernel
theorem dL_runs_48 : decode cL_runs 48 = .ok (.iastore, 1) := by decide +kernel
theorem dL_runs_49 : decode cL_runs 49 = .ok (.iinc 9 1, 3) := by decide +kernel
theorem dL_runs_52 : decode cL_runs 52 = .ok (.goto (-20), 3) := by decide +kernel
theorem dL_runs_55 : decode cL_runs 55 = .ok (.aload_n 0, 1) := by decide +kernel
theorem dL_runs_56 : decode cL_runs 56 = .ok (.iload 4, 2) := by decide +kernel
theorem dL_runs_58 : decode cL_runs 58 = .ok (.invokestatic 169, 3) := by decide +kernel
theorem dL_runs_61 : decode cL_runs 61 = .ok (.istore 9, 2) := by decide +kernel
theorem dL_runs_63 : decode cL_runs 63 = .ok (.aload_n 0, 1) := by decide +kernel
theorem dL_runs_64 : decode cL_runs 64 = .ok (.iload 4, 2) := by decide +kernel
theorem dL_runs_66 : decode cL_runs 66 = .ok (.invokestatic 171, 3) := by decide +kernel
theorem dL_runs_69 : decode cL_runs 69 = .ok (.istore 10, 2) := by decide +kernel
theorem dL_runs_71 : decode cL_runs 71 = .ok (.iconst 0, 1) := by decide +kernel
theorem dL_runs_72 : decode cL_runs 72 = .ok (.istore 11, 2) := by decide +kernel
theorem dL_runs_74 : decode cL_runs 74 = .ok (.iload 11, 2) := by decide +kernel
theorem dL_runs_76 : decode cL_runs 76 = .ok (.iconst 4, 1) := by decide +kernel
theorem dL_runs_77 : decode cL_runs 77 = .ok (.if_icmp .ge 35, 3) := by decide +kernel
theorem dL_runs_80 : decode cL_runs 80 = .ok (.iload 8, 2) := by decide +kernel
theorem dL_runs_82 : decode cL_runs 82 = .ok (.ifCond .eq 21, 3) := by decide +kernel
theorem dL_runs_85 : decode cL_runs 85 = .ok (.aload_n 0, 1) := by decide +kernel
theorem dL_runs_86 : decode cL_runs 86 = .ok (.iload 11, 2) := by decide +kernel
theorem dL_runs_88 : decode cL_runs 88 = .ok (.invokestatic 167, 3) := by decide +kernel
theorem dL_runs_91 : decode cL_runs 91 = .ok (.aload 7, 2) := by decide +kernel
theorem dL_runs_93 : decode cL_runs 93 = .ok (.iload 11, 2) := by decide +kernel
theorem dL_runs_95 : decode cL_runs 95 = .ok (.iaload, 1) := by decide +kernel
theorem dL_runs_96 : decode cL_runs 96 = .ok (.if_icmp .ne 7, 3) := by decide +kernel
theorem dL_runs_99 : decode cL_runs 99 = .ok (.iconst 1, 1) := by decide +kernel
theorem dL_runs_100 : decode cL_runs 100 = .ok (.goto 4, 3) := by decide +kernel
theorem dL_runs_103 : decode cL_runs 103 = .ok (.iconst 0, 1) := by decide +kernel
theorem dL_runs_104 : decode cL_runs 104 = .ok (.istore 8, 2) := by decide +kernel
theorem dL_runs_106 : decode cL_runs 106 = .ok (.iinc 11 1, 3) := by decide +kernel
theorem dL_runs_109 : decode cL_runs 109 = .ok (.goto (-35), 3) := by decide +kernel
theorem dL_runs_112 : decode cL_runs 112 = .ok (.iload 8, 2) := by decide +kernel
theorem dL_runs_114 : decode cL_runs 114 = .ok (.ifCond .eq 45, 3) := by decide +kernel
theorem dL_runs_117 : decode cL_runs 117 = .ok (.iload 9, 2) := by decide +kernel
theorem dL_runs_119 : decode cL_runs 119 = .ok (.invokestatic 173, 3) := by decide +kernel
theorem dL_runs_122 : decode cL_runs 122 = .ok (.ifCond .eq 37, 3) := by decide +kernel
theorem dL_runs_125 : decode cL_runs 125 = .ok (.iload 10, 2) := by decide +kernel
theorem dL_runs_127 : decode cL_runs 127 = .ok (.ifCond .le 32, 3) := by decide +kernel
theorem dL_runs_130 : decode cL_runs 130 = .ok (.iload 10, 2) := by decide +kernel
theorem dL_runs_132 : decode cL_runs 132 = .ok (.aload_n 1, 1) := by decide +kernel
theorem dL_runs_133 : decode cL_runs 133 = .ok (.iconst 1, 1) := by decide +kernel
theorem dL_runs_134 : decode cL_runs 134 = .ok (.iaload, 1) := by decide +kernel
theorem dL_runs_135 : decode cL_runs 135 = .ok (.if_icmp .gt 24, 3) := by decide +kernel
theorem dL_runs_138 : decode cL_runs 138 = .ok (.aload_n 0, 1) := by decide +kernel
theorem dL_runs_139 : decode cL_runs 139 = .ok (.aload_n 1, 1) := by decide +kernel
theorem dL_runs_140 : decode cL_runs 140 = .ok (.invokestatic 176, 3) := by decide +kernel
theorem dL_runs_143 : decode cL_runs 143 = .ok (.ifCond .eq 16, 3) := by decide +kernel
theorem dL_runs_146 : decode cL_runs 146 = .ok (.aload_n 0, 1) := by decide +kernel
theorem dL_runs_147 : decode cL_runs 147 = .ok (.aload_n 2, 1) := by decide +kernel
theorem dL_runs_148 : decode cL_runs 148 = .ok (.aload_n 3, 1) := by decide +kernel
theorem dL_runs_149 : decode cL_runs 149 = .ok (.invokestatic 179, 3) := by decide +kernel
theorem dL_runs_152 : decode cL_runs 152 = .ok (.ifCond .eq 7, 3) := by decide +kernel
theorem dL_runs_155 : decode cL_runs 155 = .ok (.iconst 1, 1) := by decide +kernel
theorem dL_runs_156 : decode cL_runs 156 = .ok (.goto 4, 3) := by decide +kernel
theorem dL_runs_159 : decode cL_runs 159 = .ok (.iconst 0, 1) := by decide +kernel
theorem dL_runs_160 : decode cL_runs 160 = .ok (.istore 8, 2) := by decide +kernel
theorem dL_runs_162 : decode cL_runs 162 = .ok (.iload 5, 2) := by decide +kernel
theorem dL_runs_164 : decode cL_runs 164 = .ok (.ifCond .ne 29, 3) := by decide +kernel
theorem dL_runs_167 : decode cL_runs 167 = .ok (.iload 8, 2) := by decide +kernel
theorem dL_runs_169 : decode cL_runs 169 = .ok (.ifCond .eq 18, 3) := by decide +kernel
theorem dL_runs_172 : decode cL_runs 172 = .ok (.aload_n 0, 1) := by decide +kernel
theorem dL_runs_173 : decode cL_runs 173 = .ok (.iload 4, 2) := by decide +kernel
theorem dL_runs_175 : decode cL_runs 175 = .ok (.invokestatic 183, 3) := by decide +kernel
theorem dL_runs_178 : decode cL_runs 178 = .ok (.iload 9, 2) := by decide +kernel
theorem dL_runs_180 : decode cL_runs 180 = .ok (.if_icmp .ne 7, 3) := by decide +kernel
theorem dL_runs_183 : decode cL_runs 183 = .ok (.iconst 1, 1) := by decide +kernel
theorem dL_runs_184 : decode cL_runs 184 = .ok (.goto 4, 3) := by decide +kernel
theorem dL_runs_187 : decode cL_runs 187 = .ok (.iconst 0, 1) := by decide +kernel
theorem dL_runs_188 : decode cL_runs 188 = .ok (.istore 8, 2) := by decide +kernel
theorem dL_runs_190 : decode cL_runs 190 = .ok (.goto 237, 3) := by decide +kernel
theorem dL_runs_193 : decode cL_runs 193 = .ok (.iconst 0, 1) := by decide +kernel
theorem dL_runs_194 : decode cL_runs 194 = .ok (.istore 11, 2) := by decide +kernel
theorem dL_runs_196 : decode cL_runs 196 = .ok (.iload 8, 2) := by decide +kernel
theorem dL_runs_198 : decode cL_runs 198 = .ok (.ifCond .eq 103, 3) := by decide +kernel
theorem dL_runs_201 : decode cL_runs 201 = .ok (.aload_n 0, 1) := by decide +kernel
theorem dL_runs_202 : decode cL_runs 202 = .ok (.iload 4, 2) := by decide +kernel
theorem dL_runs_204 : decode cL_runs 204 = .ok (.invokestatic 185, 3) := by decide +kernel
theorem dL_runs_207 : decode cL_runs 207 = .ok (.ifCond .ne 94, 3) := by decide +kernel
theorem dL_runs_210 : decode cL_runs 210 = .ok (.aload_n 0, 1) := by decide +kernel
theorem dL_runs_211 : decode cL_runs 211 = .ok (.invokevirtual 159, 3) := by decide +kernel
theorem dL_runs_214 : decode cL_runs 214 = .ok (.iload 4, 2) := by decide +kernel
theorem dL_runs_216 : decode cL_runs 216 = .ok (.if_icmp .ne 85, 3) := by decide +kernel
theorem dL_runs_219 : decode cL_runs 219 = .ok (.aload_n 0, 1) := by decide +kernel
theorem dL_runs_220 : decode cL_runs 220 = .ok (.iconst 0, 1) := by decide +kernel
theorem dL_runs_221 : decode cL_runs 221 = .ok (.invokestatic 187, 3) := by decide +kernel
theorem dL_runs_224 : decode cL_runs 224 = .ok (.ldc 189, 2) := by decide +kernel
theorem dL_runs_226 : decode cL_runs 226 = .ok (.if_icmp .ne 75, 3) := by decide +kernel
theorem dL_runs_229 : decode cL_runs 229 = .ok (.aload_n 0, 1) := by decide +kernel
theorem dL_runs_230 : decode cL_runs 230 = .ok (.iload 4, 2) := by decide +kernel
theorem dL_runs_232 : decode cL_runs 232 = .ok (.invokestatic 185, 3) := by decide +kernel
theorem dL_runs_235 : decode cL_runs 235 = .ok (.ldc 24, 2) := by decide +kernel
theorem dL_runs_237 : decode cL_runs 237 = .ok (.if_icmp .ne 64, 3) := by decide +kernel
theorem dL_runs_240 : decode cL_runs 240 = .ok (.aload_n 0, 1) := by decide +kernel
theorem dL_runs_241 : decode cL_runs 241 = .ok (.iload 4, 2) := by decide +kernel
theorem dL_runs_243 : decode cL_runs 243 = .ok (.invokestatic 183, 3) := by decide +kernel
theorem dL_runs_246 : decode cL_runs 246 = .ok (.ldc 24, 2) := by decide +kernel
theorem dL_runs_248 : decode cL_runs 248 = .ok (.if_icmp .ne 53, 3) := by decide +kernel
theorem dL_runs_251 : decode cL_runs 251 = .ok (.aload_n 0, 1) := by decide +kernel
theorem dL_runs_252 : decode cL_runs 252 = .ok (.iload 4, 2) := by decide +kernel
theorem dL_runs_254 : decode cL_runs 254 = .ok (.invokestatic 169, 3) := by decide +kernel
theorem dL_runs_257 : decode cL_runs 257 = .ok (.ldc 24, 2) := by decide +kernel
theorem dL_runs_259 : decode cL_runs 259 = .ok (.if_icmp .ne 42, 3) := by decide +kernel
theorem dL_runs_262 : decode cL_runs 262 = .ok (.aload_n 0, 1) := by decide +kernel
theorem dL_runs_263 : decode cL_runs 263 = .ok (.iconst 0, 1) := by decide +kernel
theorem dL_runs_264 : decode cL_runs 264 = .ok (.iconst 0, 1) := by decide +kernel
theorem dL_runs_265 : decode cL_runs 265 = .ok (.invokestatic 190, 3) := by decide +kernel
theorem dL_runs_268 : decode cL_runs 268 = .ok (.ldc 24, 2) := by decide +kernel
theorem dL_runs_270 : decode cL_runs 270 = .ok (.if_icmp .ne 31, 3) := by decide +kernel
theorem dL_runs_273 : decode cL_runs 273 = .ok (.aload_n 0, 1) := by decide +kernel
theorem dL_runs_274 : decode cL_runs 274 = .ok (.iconst 0, 1) := by decide +kernel
theorem dL_runs_275 : decode cL_runs 275 = .ok (.iconst 0, 1) := by decide +kernel
theorem dL_runs_276 : decode cL_runs 276 = .ok (.invokestatic 192, 3) := by decide +kernel
theorem dL_runs_279 : decode cL_runs 279 = .ok (.ldc 24, 2) := by decide +kernel
theorem dL_runs_281 : decode cL_runs 281 = .ok (.if_icmp .ne 20, 3) := by decide +kernel
theorem dL_runs_284 : decode cL_runs 284 = .ok (.aload_n 0, 1) := by decide +kernel
theorem dL_runs_285 : decode cL_runs 285 = .ok (.iconst 0, 1) := by decide +kernel
theorem dL_runs_286 : decode cL_runs 286 = .ok (.iconst 0, 1) := by decide +kernel
theorem dL_runs_287 : decode cL_runs 287 = .ok (.iconst 0, 1) := by decide +kernel
theorem dL_runs_288 : decode cL_runs 288 = .ok (.iconst (-1), 1) := by decide +kernel
theorem dL_runs_289 : decode cL_runs 289 = .ok (.invokestatic 194, 3) := by decide +kernel
theorem dL_runs_292 : decode cL_runs 292 = .ok (.ldc 24, 2) := by decide +kernel
theorem dL_runs_294 : decode cL_runs 294 = .ok (.if_icmp .ne 7, 3) := by decide +kernel
theorem dL_runs_297 : decode cL_runs 297 = .ok (.iconst 1, 1) := by decide +kernel
theorem dL_runs_298 : decode cL_runs 298 = .ok (.goto 4, 3) := by decide +kernel
theorem dL_runs_301 : decode cL_runs 301 = .ok (.iconst 0, 1) := by decide +kernel
theorem dL_runs_302 : decode cL_runs 302 = .ok (.istore 8, 2) := by decide +kernel
theorem dL_runs_304 : decode cL_runs 304 = .ok (.iload 8, 2) := by decide +kernel
theorem dL_runs_306 : decode cL_runs 306 = .ok (.ifCond .eq 73, 3) := by decide +kernel
theorem dL_runs_309 : decode cL_runs 309 = .ok (.aload_n 0, 1) := by decide +kernel
theorem dL_runs_310 : decode cL_runs 310 = .ok (.invokevirtual 159, 3) := by decide +kernel
theorem dL_runs_313 : decode cL_runs 313 = .ok (.ifCond .lt 66, 3) := by decide +kernel
theorem dL_runs_316 : decode cL_runs 316 = .ok (.aload_n 0, 1) := by decide +kernel
theorem dL_runs_317 : decode cL_runs 317 = .ok (.iload 6, 2) := by decide +kernel
theorem dL_runs_319 : decode cL_runs 319 = .ok (.invokestatic 196, 3) := by decide +kernel
theorem dL_runs_322 : decode cL_runs 322 = .ok (.istore 12, 2) := by decide +kernel
theorem dL_runs_324 : decode cL_runs 324 = .ok (.iload 11, 2) := by decide +kernel
theorem dL_runs_326 : decode cL_runs 326 = .ok (.iload 12, 2) := by decide +kernel
theorem dL_runs_328 : decode cL_runs 328 = .ok (.iadd, 1) := by decide +kernel
theorem dL_runs_329 : decode cL_runs 329 = .ok (.istore 11, 2) := by decide +kernel
theorem dL_runs_331 : decode cL_runs 331 = .ok (.iload 12, 2) := by decide +kernel
theorem dL_runs_333 : decode cL_runs 333 = .ok (.ifCond .lt 40, 3) := by decide +kernel
theorem dL_runs_336 : decode cL_runs 336 = .ok (.iload 12, 2) := by decide +kernel
theorem dL_runs_338 : decode cL_runs 338 = .ok (.iload 6, 2) := by decide +kernel
theorem dL_runs_340 : decode cL_runs 340 = .ok (.if_icmp .gt 33, 3) := by decide +kernel
theorem dL_runs_343 : decode cL_runs 343 = .ok (.aload_n 0, 1) := by decide +kernel
theorem dL_runs_344 : decode cL_runs 344 = .ok (.invokevirtual 162, 3) := by decide +kernel
theorem dL_runs_347 : decode cL_runs 347 = .ok (.ifCond .lt 26, 3) := by decide +kernel
theorem dL_runs_350 : decode cL_runs 350 = .ok (.aload_n 0, 1) := by decide +kernel
theorem dL_runs_351 : decode cL_runs 351 = .ok (.invokevirtual 162, 3) := by decide +kernel
theorem dL_runs_354 : decode cL_runs 354 = .ok (.bipush 13, 2) := by decide +kernel
theorem dL_runs_356 : decode cL_runs 356 = .ok (.if_icmp .ge 17, 3) := by decide +kernel
theorem dL_runs_359 : decode cL_runs 359 = .ok (.aload_n 0, 1) := by decide +kernel
theorem dL_runs_360 : decode cL_runs 360 = .ok (.invokevirtual 159, 3) := by decide +kernel
theorem dL_runs_363 : decode cL_runs 363 = .ok (.aload_n 1, 1) := by decide +kernel
theorem dL_runs_364 : decode cL_runs 364 = .ok (.iconst 0, 1) := by decide +kernel
theorem dL_runs_365 : decode cL_runs 365 = .ok (.iaload, 1) := by decide +kernel
theorem dL_runs_366 : decode cL_runs 366 = .ok (.if_icmp .ge 7, 3) := by decide +kernel
theorem dL_runs_369 : decode cL_runs 369 = .ok (.iconst 1, 1) := by decide +kernel
theorem dL_runs_370 : decode cL_runs 370 = .ok (.goto 4, 3) := by decide +kernel
theorem dL_runs_373 : decode cL_runs 373 = .ok (.iconst 0, 1) := by decide +kernel
theorem dL_runs_374 : decode cL_runs 374 = .ok (.istore 8, 2) := by decide +kernel
theorem dL_runs_376 : decode cL_runs 376 = .ok (.goto (-72), 3) := by decide +kernel
theorem dL_runs_379 : decode cL_runs 379 = .ok (.iload 8, 2) := by decide +kernel
theorem dL_runs_381 : decode cL_runs 381 = .ok (.ifCond .eq 43, 3) := by decide +kernel
theorem dL_runs_384 : decode cL_runs 384 = .ok (.iload 11, 2) := by decide +kernel
theorem dL_runs_386 : decode cL_runs 386 = .ok (.iload 10, 2) := by decide +kernel
theorem dL_runs_388 : decode cL_runs 388 = .ok (.if_icmp .ne 36, 3) := by decide +kernel
theorem dL_runs_391 : decode cL_runs 391 = .ok (.aload_n 0, 1) := by decide +kernel
theorem dL_runs_392 : decode cL_runs 392 = .ok (.iconst 1, 1) := by decide +kernel
theorem dL_runs_393 : decode cL_runs 393 = .ok (.invokestatic 196, 3) := by decide +kernel
theorem dL_runs_396 : decode cL_runs 396 = .ok (.ldc 24, 2) := by decide +kernel
theorem dL_runs_398 : decode cL_runs 398 = .ok (.if_icmp .ne 26, 3) := by decide +kernel
theorem dL_runs_401 : decode cL_runs 401 = .ok (.aload_n 0, 1) := by decide +kernel
theorem dL_runs_402 : decode cL_runs 402 = .ok (.invokestatic 198, 3) := by decide +kernel
theorem dL_runs_405 : decode cL_runs 405 = .ok (.ldc 24, 2) := by decide +kernel
theorem dL_runs_407 : decode cL_runs 407 = .ok (.if_icmp .ne 17, 3) := by decide +kernel
theorem dL_runs_410 : decode cL_runs 410 = .ok (.aload_n 0, 1) := by decide +kernel
theorem dL_runs_411 : decode cL_runs 411 = .ok (.iconst 0, 1) := by decide +kernel
theorem dL_runs_412 : decode cL_runs 412 = .ok (.invokestatic 187, 3) := by decide +kernel
theorem dL_runs_415 : decode cL_runs 415 = .ok (.ldc 24, 2) := by decide +kernel
theorem dL_runs_417 : decode cL_runs 417 = .ok (.if_icmp .ne 7, 3) := by decide +kernel
theorem dL_runs_420 : decode cL_runs 420 = .ok (.iconst 1, 1) := by decide +kernel
theorem dL_runs_421 : decode cL_runs 421 = .ok (.goto 4, 3) := by decide +kernel
theorem dL_runs_424 : decode cL_runs 424 = .ok (.iconst 0, 1) := by decide +kernel
theorem dL_runs_425 : decode cL_runs 425 = .ok (.istore 8, 2) := by decide +kernel
theorem dL_runs_427 : decode cL_runs 427 = .ok (.aload_n 1, 1) := by decide +kernel
theorem dL_runs_428 : decode cL_runs 428 = .ok (.iconst 2, 1) := by decide +kernel
theorem dL_runs_429 : decode cL_runs 429 = .ok (.iload 9, 2) := by decide +kernel
theorem dL_runs_431 : decode cL_runs 431 = .ok (.iastore, 1) := by decide +kernel
theorem dL_runs_432 : decode cL_runs 432 = .ok (.aload_n 1, 1) := by decide +kernel
theorem dL_runs_433 : decode cL_runs 433 = .ok (.iconst 3, 1) := by decide +kernel
theorem dL_runs_434 : decode cL_runs 434 = .ok (.iload 10, 2) := by decide +kernel
theorem dL_runs_436 : decode cL_runs 436 = .ok (.iastore, 1) := by decide +kernel
theorem dL_runs_437 : decode cL_runs 437 = .ok (.aload_n 1, 1) := by decide +kernel
theorem dL_runs_438 : decode cL_runs 438 = .ok (.iconst 4, 1) := by decide +kernel
theorem dL_runs_439 : decode cL_runs 439 = .ok (.aload_n 0, 1) := by decide +kernel
theorem dL_runs_440 : decode cL_runs 440 = .ok (.invokevirtual 152, 3) := by decide +kernel
theorem dL_runs_443 : decode cL_runs 443 = .ok (.iastore, 1) := by decide +kernel
theorem dL_runs_444 : decode cL_runs 444 = .ok (.aload_n 1, 1) := by decide +kernel
theorem dL_runs_445 : decode cL_runs 445 = .ok (.iconst 5, 1) := by decide +kernel
theorem dL_runs_446 : decode cL_runs 446 = .ok (.aload_n 0, 1) := by decide +kernel
theorem dL_runs_447 : decode cL_runs 447 = .ok (.invokevirtual 155, 3) := by decide +kernel
theorem dL_runs_450 : decode cL_runs 450 = .ok (.iastore, 1) := by decide +kernel
theorem dL_runs_451 : decode cL_runs 451 = .ok (.iload 8, 2) := by decide +kernel
theorem dL_runs_453 : decode cL_runs 453 = .ok (.ifCond .eq 31, 3) := by decide +kernel
theorem dL_runs_456 : decode cL_runs 456 = .ok (.aload_n 0, 1) := by decide +kernel
theorem dL_runs_457 : decode cL_runs 457 = .ok (.aload_n 1, 1) := by decide +kernel
theorem dL_runs_458 : decode cL_runs 458 = .ok (.invokestatic 176, 3) := by decide +kernel
theorem dL_runs_461 : decode cL_runs 461 = .ok (.ifCond .eq 23, 3) := by decide +kernel
theorem dL_runs_464 : decode cL_runs 464 = .ok (.iload 9, 2) := by decide +kernel
theorem dL_runs_466 : decode cL_runs 466 = .ok (.ldc 201, 2) := by decide +kernel
theorem dL_runs_468 : decode cL_runs 468 = .ok (.if_icmp .lt 12, 3) := by decide +kernel
theorem dL_runs_471 : decode cL_runs 471 = .ok (.aload_n 0, 1) := by decide +kernel
theorem dL_runs_472 : decode cL_runs 472 = .ok (.aload_n 2, 1) := by decide +kernel
theorem dL_runs_473 : decode cL_runs 473 = .ok (.aload_n 3, 1) := by decide +kernel
theorem dL_runs_474 : decode cL_runs 474 = .ok (.invokestatic 179, 3) := by decide +kernel
theorem dL_runs_477 : decode cL_runs 477 = .ok (.ifCond .eq 7, 3) := by decide +kernel
theorem dL_runs_480 : decode cL_runs 480 = .ok (.iconst 1, 1) := by decide +kernel
theorem dL_runs_481 : decode cL_runs 481 = .ok (.goto 4, 3) := by decide +kernel
theorem dL_runs_484 : decode cL_runs 484 = .ok (.iconst 0, 1) := by decide +kernel
theorem dL_runs_485 : decode cL_runs 485 = .ok (.ireturn, 1) := by decide +kernel
theorem dL_budgets_0 : decode cL_budgets 0 = .ok (.aload_n 0, 1) := by decide +kernel
theorem dL_budgets_1 : decode cL_budgets 1 = .ok (.iload_n 2, 1) := by decide +kernel
theorem dL_budgets_2 : decode cL_budgets 2 = .ok (.invokestatic 169, 3) := by decide +kernel
theorem dL_budgets_5 : decode cL_budgets 5 = .ok (.istore_n 3, 1) := by decide +kernel
theorem dL_budgets_6 : decode cL_budgets 6 = .ok (.aload_n 0, 1) := by decide +kernel
theorem dL_budgets_7 : decode cL_budgets 7 = .ok (.iload_n 2, 1) := by decide +kernel
theorem dL_budgets_8 : decode cL_budgets 8 = .ok (.invokestatic 171, 3) := by decide +kernel
theorem dL_budgets_11 : decode cL_budgets 11 = .ok (.istore 4, 2) := by decide +kernel
theorem dL_budgets_13 : decode cL_budgets 13 = .ok (.aload_n 0, 1) := by decide +kernel
theorem dL_budgets_14 : decode cL_budgets 14 = .ok (.iload 4, 2) := by decide +kernel
theorem dL_budgets_16 : decode cL_budgets 16 = .ok (.invokestatic 202, 3) := by decide +kernel
theorem dL_budgets_19 : decode cL_budgets 19 = .ok (.aload_n 1, 1) := by decide +kernel
theorem dL_budgets_20 : decode cL_budgets 20 = .ok (.iconst 1, 1) := by decide +kernel
theorem dL_budgets_21 : decode cL_budgets 21 = .ok (.iaload, 1) := by decide +kernel
theorem dL_budgets_22 : decode cL_budgets 22 = .ok (.if_icmp .ne 26, 3) := by decide +kernel
theorem dL_budgets_25 : decode cL_budgets 25 = .ok (.aload_n 0, 1) := by decide +kernel
theorem dL_budgets_26 : decode cL_budgets 26 = .ok (.iload_n 2, 1) := by decide +kernel
theorem dL_budgets_27 : decode cL_budgets 27 = .ok (.invokestatic 169, 3) := by decide +kernel
theorem dL_budgets_30 : decode cL_budgets 30 = .ok (.iload_n 3, 1) := by decide +kernel
theorem dL_budgets_31 : decode cL_budgets 31 = .ok (.if_icmp .ne 17, 3) := by decide +kernel
theorem dL_budgets_34 : decode cL_budgets 34 = .ok (.aload_n 0, 1) := by decide +kernel
theorem dL_budgets_35 : decode cL_budgets 35 = .ok (.iload_n 2, 1) := by decide +kernel
theorem dL_budgets_36 : decode cL_budgets 36 = .ok (.invokestatic 171, 3) := by decide +kernel
theorem dL_budgets_39 : decode cL_budgets 39 = .ok (.iload 4, 2) := by decide +kernel
theorem dL_budgets_41 : decode cL_budgets 41 = .ok (.if_icmp .ne 7, 3) := by decide +kernel
theorem dL_budgets_44 : decode cL_budgets 44 = .ok (.iconst 1, 1) := by decide +kernel
theorem dL_budgets_45 : decode cL_budgets 45 = .ok (.goto 4, 3) := by decide +kernel
theorem dL_budgets_48 : decode cL_budgets 48 = .ok (.iconst 0, 1) := by decide +kernel
theorem dL_budgets_49 : decode cL_budgets 49 = .ok (.istore 5, 2) := by decide +kernel
theorem dL_budgets_51 : decode cL_budgets 51 = .ok (.iload 4, 2) := by decide +kernel
theorem dL_budgets_53 : decode cL_budgets 53 = .ok (.iconst 1, 1) := by decide +kernel
theorem dL_budgets_54 : decode cL_budgets 54 = .ok (.if_icmp .le 67, 3) := by decide +kernel
theorem dL_budgets_57 : decode cL_budgets 57 = .ok (.iload 5, 2) := by decide +kernel
theorem dL_budgets_59 : decode cL_budgets 59 = .ok (.ifCond .eq 56, 3) := by decide +kernel
theorem dL_budgets_62 : decode cL_budgets 62 = .ok (.aload_n 0, 1) := by decide +kernel
theorem dL_budgets_63 : decode cL_budgets 63 = .ok (.iload 4, 2) := by decide +kernel
theorem dL_budgets_65 : decode cL_budgets 65 = .ok (.iconst 1, 1) := by decide +kernel
theorem dL_budgets_66 : decode cL_budgets 66 = .ok (.isub, 1) := by decide +kernel
theorem dL_budgets_67 : decode cL_budgets 67 = .ok (.invokestatic 202, 3) := by decide +kernel
theorem dL_budgets_70 : decode cL_budgets 70 = .ok (.iload 4, 2) := by decide +kernel
theorem dL_budgets_72 : decode cL_budgets 72 = .ok (.if_icmp .ne 43, 3) := by decide +kernel
theorem dL_budgets_75 : decode cL_budgets 75 = .ok (.aload_n 0, 1) := by decide +kernel
theorem dL_budgets_76 : decode cL_budgets 76 = .ok (.iload_n 2, 1) := by decide +kernel
theorem dL_budgets_77 : decode cL_budgets 77 = .ok (.invokestatic 169, 3) := by decide +kernel
theorem dL_budgets_80 : decode cL_budgets 80 = .ok (.ldc 204, 2) := by decide +kernel
theorem dL_budgets_82 : decode cL_budgets 82 = .ok (.if_icmp .ne 33, 3) := by decide +kernel
theorem dL_budgets_85 : decode cL_budgets 85 = .ok (.aload_n 0, 1) := by decide +kernel
theorem dL_budgets_86 : decode cL_budgets 86 = .ok (.iload_n 2, 1) := by decide +kernel
theorem dL_budgets_87 : decode cL_budgets 87 = .ok (.invokestatic 171, 3) := by decide +kernel
theorem dL_budgets_90 : decode cL_budgets 90 = .ok (.iload 4, 2) := by decide +kernel
theorem dL_budgets_92 : decode cL_budgets 92 = .ok (.iconst 1, 1) := by decide +kernel
theorem dL_budgets_93 : decode cL_budgets 93 = .ok (.isub, 1) := by decide +kernel
theorem dL_budgets_94 : decode cL_budgets 94 = .ok (.if_icmp .ne 21, 3) := by decide +kernel
theorem dL_budgets_97 : decode cL_budgets 97 = .ok (.aload_n 0, 1) := by decide +kernel
theorem dL_budgets_98 : decode cL_budgets 98 = .ok (.aload_n 1, 1) := by decide +kernel
theorem dL_budgets_99 : decode cL_budgets 99 = .ok (.iconst 1, 1) := by decide +kernel
theorem dL_budgets_100 : decode cL_budgets 100 = .ok (.iaload, 1) := by decide +kernel
theorem dL_budgets_101 : decode cL_budgets 101 = .ok (.invokestatic 202, 3) := by decide +kernel
theorem dL_budgets_104 : decode cL_budgets 104 = .ok (.iload 4, 2) := by decide +kernel
theorem dL_budgets_106 : decode cL_budgets 106 = .ok (.iconst 1, 1) := by decide +kernel
theorem dL_budgets_107 : decode cL_budgets 107 = .ok (.isub, 1) := by decide +kernel
theorem dL_budgets_108 : decode cL_budgets 108 = .ok (.if_icmp .ne 7, 3) := by decide +kernel
theorem dL_budgets_111 : decode cL_budgets 111 = .ok (.iconst 1, 1) := by decide +kernel
theorem dL_budgets_112 : decode cL_budgets 112 = .ok (.goto 4, 3) := by decide +kernel
theorem dL_budgets_115 : decode cL_budgets 115 = .ok (.iconst 0, 1) := by decide +kernel
theorem dL_budgets_116 : decode cL_budgets 116 = .ok (.istore 5, 2) := by decide +kernel
theorem dL_budgets_118 : decode cL_budgets 118 = .ok (.goto 27, 3) := by decide +kernel
theorem dL_budgets_121 : decode cL_budgets 121 = .ok (.iload 5, 2) := by decide +kernel
theorem dL_budgets_123 : decode cL_budgets 123 = .ok (.ifCond .eq 19, 3) := by decide +kernel
theorem dL_budgets_126 : decode cL_budgets 126 = .ok (.aload_n 0, 1) := by decide +kernel
theorem dL_budgets_127 : decode cL_budgets 127 = .ok (.aload_n 1, 1) := by decide +kernel
theorem dL_budgets_128 : decode cL_budgets 128 = .ok (.iconst 1, 1) := by decide +kernel
theorem dL_budgets_129 : decode cL_budgets 129 = .ok (.iaload, 1) := by decide +kernel
theorem dL_budgets_130 : decode cL_budgets 130 = .ok (.invokestatic 202, 3) := by decide +kernel
theorem dL_budgets_133 : decode cL_budgets 133 = .ok (.iload 4, 2) := by decide +kernel
theorem dL_budgets_135 : decode cL_budgets 135 = .ok (.if_icmp .ne 7, 3) := by decide +kernel
theorem dL_budgets_138 : decode cL_budgets 138 = .ok (.iconst 1, 1) := by decide +kernel
theorem dL_budgets_139 : decode cL_budgets 139 = .ok (.goto 4, 3) := by decide +kernel
theorem dL_budgets_142 : decode cL_budgets 142 = .ok (.iconst 0, 1) := by decide +kernel
theorem dL_budgets_143 : decode cL_budgets 143 = .ok (.istore 5, 2) := by decide +kernel
theorem dL_budgets_145 : decode cL_budgets 145 = .ok (.iload 5, 2) := by decide +kernel
theorem dL_budgets_147 : decode cL_budgets 147 = .ok (.ifCond .eq 29, 3) := by decide +kernel
theorem dL_budgets_150 : decode cL_budgets 150 = .ok (.aload_n 0, 1) := by decide +kernel
theorem dL_budgets_151 : decode cL_budgets 151 = .ok (.iconst 0, 1) := by decide +kernel
theorem dL_budgets_152 : decode cL_budgets 152 = .ok (.invokestatic 202, 3) := by decide +kernel
theorem dL_budgets_155 : decode cL_budgets 155 = .ok (.ldc 21, 2) := by decide +kernel
theorem dL_budgets_157 : decode cL_budgets 157 = .ok (.if_icmp .ne 19, 3) := by decide +kernel
theorem dL_budgets_160 : decode cL_budgets 160 = .ok (.aload_n 0, 1) := by decide +kernel
theorem dL_budgets_161 : decode cL_budgets 161 = .ok (.sipush 601, 3) := by decide +kernel
theorem dL_budgets_164 : decode cL_budgets 164 = .ok (.invokestatic 202, 3) := by decide +kernel
theorem dL_budgets_167 : decode cL_budgets 167 = .ok (.ldc 21, 2) := by decide +kernel
theorem dL_budgets_169 : decode cL_budgets 169 = .ok (.if_icmp .ne 7, 3) := by decide +kernel
theorem dL_budgets_172 : decode cL_budgets 172 = .ok (.iconst 1, 1) := by decide +kernel
theorem dL_budgets_173 : decode cL_budgets 173 = .ok (.goto 4, 3) := by decide +kernel
theorem dL_budgets_176 : decode cL_budgets 176 = .ok (.iconst 0, 1) := by decide +kernel
theorem dL_budgets_177 : decode cL_budgets 177 = .ok (.ireturn, 1) := by decide +kernel
theorem dL_gives_0 : decode cL_gives 0 = .ok (.aload_n 0, 1) := by decide +kernel
theorem dL_gives_1 : decode cL_gives 1 = .ok (.aload_n 2, 1) := by decide +kernel
theorem dL_gives_2 : decode cL_gives 2 = .ok (.invokestatic 135, 3) := by decide +kernel
theorem dL_gives_5 : decode cL_gives 5 = .ok (.ifCond .eq 16, 3) := by decide +kernel
theorem dL_gives_8 : decode cL_gives 8 = .ok (.aload_n 0, 1) := by decide +kernel
theorem dL_gives_9 : decode cL_gives 9 = .ok (.aload_n 3, 1) := by decide +kernel
theorem dL_gives_10 : decode cL_gives 10 = .ok (.iconst 1, 1) := by decide +kernel
theorem dL_gives_11 : decode cL_gives 11 = .ok (.invokestatic 139, 3) := by decide +kernel
theorem dL_gives_14 : decode cL_gives 14 = .ok (.ifCond .eq 7, 3) := by decide +kernel
theorem dL_gives_17 : decode cL_gives 17 = .ok (.iconst 1, 1) := by decide +kernel
theorem dL_gives_18 : decode cL_gives 18 = .ok (.goto 4, 3) := by decide +kernel
theorem dL_gives_21 : decode cL_gives 21 = .ok (.iconst 0, 1) := by decide +kernel
theorem dL_gives_22 : decode cL_gives 22 = .ok (.istore 6, 2) := by decide +kernel
theorem dL_gives_24 : decode cL_gives 24 = .ok (.aload_n 0, 1) := by decide +kernel
theorem dL_gives_25 : decode cL_gives 25 = .ok (.iload 4, 2) := by decide +kernel
theorem dL_gives_27 : decode cL_gives 27 = .ok (.invokestatic 171, 3) := by decide +kernel
theorem dL_gives_30 : decode cL_gives 30 = .ok (.istore 7, 2) := by decide +kernel
theorem dL_gives_32 : decode cL_gives 32 = .ok (.iconst 1, 1) := by decide +kernel
theorem dL_gives_33 : decode cL_gives 33 = .ok (.iload 5, 2) := by decide +kernel
theorem dL_gives_35 : decode cL_gives 35 = .ok (.bipush 12, 2) := by decide +kernel
theorem dL_gives_37 : decode cL_gives 37 = .ok (.invokestatic 93, 3) := by decide +kernel
theorem dL_gives_40 : decode cL_gives 40 = .ok (.iadd, 1) := by decide +kernel
theorem dL_gives_41 : decode cL_gives 41 = .ok (.istore 8, 2) := by decide +kernel
theorem dL_gives_43 : decode cL_gives 43 = .ok (.iload 6, 2) := by decide +kernel
theorem dL_gives_45 : decode cL_gives 45 = .ok (.ifCond .eq 26, 3) := by decide +kernel
theorem dL_gives_48 : decode cL_gives 48 = .ok (.aload_n 0, 1) := by decide +kernel
theorem dL_gives_49 : decode cL_gives 49 = .ok (.iload 4, 2) := by decide +kernel
theorem dL_gives_51 : decode cL_gives 51 = .ok (.invokestatic 185, 3) := by decide +kernel
theorem dL_gives_54 : decode cL_gives 54 = .ok (.ifCond .ne 17, 3) := by decide +kernel
theorem dL_gives_57 : decode cL_gives 57 = .ok (.aload_n 0, 1) := by decide +kernel
theorem dL_gives_58 : decode cL_gives 58 = .ok (.iload 4, 2) := by decide +kernel
theorem dL_gives_60 : decode cL_gives 60 = .ok (.iconst 1, 1) := by decide +kernel
theorem dL_gives_61 : decode cL_gives 61 = .ok (.invokestatic 205, 3) := by decide +kernel
theorem dL_gives_64 : decode cL_gives 64 = .ok (.ifCond .ne 7, 3) := by decide +kernel
theorem dL_gives_67 : decode cL_gives 67 = .ok (.iconst 1, 1) := by decide +kernel
theorem dL_gives_68 : decode cL_gives 68 = .ok (.goto 4, 3) := by decide +kernel
theorem dL_gives_71 : decode cL_gives 71 = .ok (.iconst 0, 1) := by decide +kernel
theorem dL_gives_72 : decode cL_gives 72 = .ok (.istore 6, 2) := by decide +kernel
theorem dL_gives_74 : decode cL_gives 74 = .ok (.aload_n 0, 1) := by decide +kernel
theorem dL_gives_75 : decode cL_gives 75 = .ok (.iload 8, 2) := by decide +kernel
theorem dL_gives_77 : decode cL_gives 77 = .ok (.invokestatic 196, 3) := by decide +kernel
theorem dL_gives_80 : decode cL_gives 80 = .ok (.istore 9, 2) := by decide +kernel
theorem dL_gives_82 : decode cL_gives 82 = .ok (.iload 6, 2) := by decide +kernel
theorem dL_gives_84 : decode cL_gives 84 = .ok (.ifCond .eq 30, 3) := by decide +kernel
theorem dL_gives_87 : decode cL_gives 87 = .ok (.iload 9, 2) := by decide +kernel
theorem dL_gives_89 : decode cL_gives 89 = .ok (.ifCond .le 25, 3) := by decide +kernel
theorem dL_gives_92 : decode cL_gives 92 = .ok (.iload 9, 2) := by decide +kernel
theorem dL_gives_94 : decode cL_gives 94 = .ok (.iload 8, 2) := by decide +kernel
theorem dL_gives_96 : decode cL_gives 96 = .ok (.if_icmp .gt 18, 3) := by decide +kernel
theorem dL_gives_99 : decode cL_gives 99 = .ok (.aload_n 0, 1) := by decide +kernel
theorem dL_gives_100 : decode cL_gives 100 = .ok (.iload 4, 2) := by decide +kernel
theorem dL_gives_102 : decode cL_gives 102 = .ok (.iconst 0, 1) := by decide +kernel
theorem dL_gives_103 : decode cL_gives 103 = .ok (.invokestatic 205, 3) := by decide +kernel
theorem dL_gives_106 : decode cL_gives 106 = .ok (.iconst 1, 1) := by decide +kernel
theorem dL_gives_107 : decode cL_gives 107 = .ok (.if_icmp .ne 7, 3) := by decide +kernel
theorem dL_gives_110 : decode cL_gives 110 = .ok (.iconst 1, 1) := by decide +kernel
theorem dL_gives_111 : decode cL_gives 111 = .ok (.goto 4, 3) := by decide +kernel
theorem dL_gives_114 : decode cL_gives 114 = .ok (.iconst 0, 1) := by decide +kernel
theorem dL_gives_115 : decode cL_gives 115 = .ok (.istore 6, 2) := by decide +kernel
theorem dL_gives_117 : decode cL_gives 117 = .ok (.aload_n 0, 1) := by decide +kernel
theorem dL_gives_118 : decode cL_gives 118 = .ok (.invokevirtual 159, 3) := by decide +kernel
theorem dL_gives_121 : decode cL_gives 121 = .ok (.ifCond .ge 57, 3) := by decide +kernel
theorem dL_gives_124 : decode cL_gives 124 = .ok (.aload_n 1, 1) := by decide +kernel
theorem dL_gives_125 : decode cL_gives 125 = .ok (.iconst 2, 1) := by decide +kernel
theorem dL_gives_126 : decode cL_gives 126 = .ok (.aload_n 0, 1) := by decide +kernel
theorem dL_gives_127 : decode cL_gives 127 = .ok (.invokevirtual 146, 3) := by decide +kernel
theorem dL_gives_130 : decode cL_gives 130 = .ok (.iastore, 1) := by decide +kernel
theorem dL_gives_131 : decode cL_gives 131 = .ok (.aload_n 1, 1) := by decide +kernel
theorem dL_gives_132 : decode cL_gives 132 = .ok (.iconst 3, 1) := by decide +kernel
theorem dL_gives_133 : decode cL_gives 133 = .ok (.aload_n 0, 1) := by decide +kernel
theorem dL_gives_134 : decode cL_gives 134 = .ok (.invokevirtual 149, 3) := by decide +kernel
theorem dL_gives_137 : decode cL_gives 137 = .ok (.iastore, 1) := by decide +kernel
theorem dL_gives_138 : decode cL_gives 138 = .ok (.aload_n 1, 1) := by decide +kernel
theorem dL_gives_139 : decode cL_gives 139 = .ok (.iconst 4, 1) := by decide +kernel
theorem dL_gives_140 : decode cL_gives 140 = .ok (.aload_n 0, 1) := by decide +kernel
theorem dL_gives_141 : decode cL_gives 141 = .ok (.invokevirtual 152, 3) := by decide +kernel
theorem dL_gives_144 : decode cL_gives 144 = .ok (.iastore, 1) := by decide +kernel
theorem dL_gives_145 : decode cL_gives 145 = .ok (.aload_n 1, 1) := by decide +kernel
theorem dL_gives_146 : decode cL_gives 146 = .ok (.iconst 5, 1) := by decide +kernel
theorem dL_gives_147 : decode cL_gives 147 = .ok (.aload_n 0, 1) := by decide +kernel
theorem dL_gives_148 : decode cL_gives 148 = .ok (.invokevirtual 155, 3) := by decide +kernel
theorem dL_gives_151 : decode cL_gives 151 = .ok (.iastore, 1) := by decide +kernel
theorem dL_gives_152 : decode cL_gives 152 = .ok (.iload 6, 2) := by decide +kernel
theorem dL_gives_154 : decode cL_gives 154 = .ok (.ifCond .eq 22, 3) := by decide +kernel
theorem dL_gives_157 : decode cL_gives 157 = .ok (.iload 9, 2) := by decide +kernel
theorem dL_gives_159 : decode cL_gives 159 = .ok (.iload 7, 2) := by decide +kernel
theorem dL_gives_161 : decode cL_gives 161 = .ok (.if_icmp .ne 15, 3) := by decide +kernel
theorem dL_gives_164 : decode cL_gives 164 = .ok (.aload_n 0, 1) := by decide +kernel
theorem dL_gives_165 : decode cL_gives 165 = .ok (.aload_n 1, 1) := by decide +kernel
theorem dL_gives_166 : decode cL_gives 166 = .ok (.invokestatic 176, 3) := by decide +kernel
theorem dL_gives_169 : decode cL_gives 169 = .ok (.ifCond .eq 7, 3) := by decide +kernel
theorem dL_gives_172 : decode cL_gives 172 = .ok (.iconst 1, 1) := by decide +kernel
theorem dL_gives_173 : decode cL_gives 173 = .ok (.goto 4, 3) := by decide +kernel
theorem dL_gives_176 : decode cL_gives 176 = .ok (.iconst 0, 1) := by decide +kernel
theorem dL_gives_177 : decode cL_gives 177 = .ok (.ireturn, 1) := by decide +kernel
theorem dL_gives_178 : decode cL_gives 178 = .ok (.iload 6, 2) := by decide +kernel
theorem dL_gives_180 : decode cL_gives 180 = .ok (.ifCond .eq 40, 3) := by decide +kernel
theorem dL_gives_183 : decode cL_gives 183 = .ok (.iload 9, 2) := by decide +kernel
theorem dL_gives_185 : decode cL_gives 185 = .ok (.iload 7, 2) := by decide +kernel
theorem dL_gives_187 : decode cL_gives 187 = .ok (.if_icmp .gt 33, 3) := by decide +kernel
theorem dL_gives_190 : decode cL_gives 190 = .ok (.aload_n 0, 1) := by decide +kernel
theorem dL_gives_191 : decode cL_gives 191 = .ok (.invokestatic 198, 3) := by decide +kernel
theorem dL_gives_194 : decode cL_gives 194 = .ok (.iload 9, 2) := by decide +kernel
theorem dL_gives_196 : decode cL_gives 196 = .ok (.if_icmp .ne 24, 3) := by decide +kernel
theorem dL_gives_199 : decode cL_gives 199 = .ok (.aload_n 0, 1) := by decide +kernel
theorem dL_gives_200 : decode cL_gives 200 = .ok (.aload_n 2, 1) := by decide +kernel
theorem dL_gives_201 : decode cL_gives 201 = .ok (.aload_n 3, 1) := by decide +kernel
theorem dL_gives_202 : decode cL_gives 202 = .ok (.invokestatic 179, 3) := by decide +kernel
theorem dL_gives_205 : decode cL_gives 205 = .ok (.ifCond .eq 15, 3) := by decide +kernel
theorem dL_gives_208 : decode cL_gives 208 = .ok (.aload_n 0, 1) := by decide +kernel
theorem dL_gives_209 : decode cL_gives 209 = .ok (.aload_n 1, 1) := by decide +kernel
theorem dL_gives_210 : decode cL_gives 210 = .ok (.invokestatic 176, 3) := by decide +kernel
theorem dL_gives_213 : decode cL_gives 213 = .ok (.ifCond .eq 7, 3) := by decide +kernel
theorem dL_gives_216 : decode cL_gives 216 = .ok (.iconst 1, 1) := by decide +kernel
theorem dL_gives_217 : decode cL_gives 217 = .ok (.goto 4, 3) := by decide +kernel
theorem dL_gives_220 : decode cL_gives 220 = .ok (.iconst 0, 1) := by decide +kernel
theorem dL_gives_221 : decode cL_gives 221 = .ok (.ireturn, 1) := by decide +kernel
theorem dL_acts_0 : decode cL_acts 0 = .ok (.iload 5, 2) := by decide +kernel
theorem dL_acts_2 : decode cL_acts 2 = .ok (.bipush 16, 2) := by decide +kernel
theorem dL_acts_4 : decode cL_acts 4 = .ok (.invokestatic 93, 3) := by decide +kernel
theorem dL_acts_7 : decode cL_acts 7 = .ok (.istore 7, 2) := by decide +kernel
theorem dL_acts_9 : decode cL_acts 9 = .ok (.aload_n 2, 1) := by decide +kernel
theorem dL_acts_10 : decode cL_acts 10 = .ok (.iconst 0, 1) := by decide +kernel
theorem dL_acts_11 : decode cL_acts 11 = .ok (.iaload, 1) := by decide +kernel
theorem dL_acts_12 : decode cL_acts 12 = .ok (.bipush 6, 2) := by decide +kernel
theorem dL_acts_14 : decode cL_acts 14 = .ok (.if_icmp .lt 18, 3) := by decide +kernel
theorem dL_acts_17 : decode cL_acts 17 = .ok (.iload 7, 2) := by decide +kernel
theorem dL_acts_19 : decode cL_acts 19 = .ok (.bipush 9, 2) := by decide +kernel
theorem dL_acts_21 : decode cL_acts 21 = .ok (.if_icmp .ge 24, 3) := by decide +kernel
theorem dL_acts_24 : decode cL_acts 24 = .ok (.aload_n 2, 1) := by decide +kernel
theorem dL_acts_25 : decode cL_acts 25 = .ok (.iconst 0, 1) := by decide +kernel
theorem dL_acts_26 : decode cL_acts 26 = .ok (.iaload, 1) := by decide +kernel
theorem dL_acts_27 : decode cL_acts 27 = .ok (.bipush 58, 2) := by decide +kernel
theorem dL_acts_29 : decode cL_acts 29 = .ok (.if_icmp .ge 16, 3) := by decide +kernel
theorem dL_acts_32 : decode cL_acts 32 = .ok (.aload_n 0, 1) := by decide +kernel
theorem dL_acts_33 : decode cL_acts 33 = .ok (.aload_n 1, 1) := by decide +kernel
theorem dL_acts_34 : decode cL_acts 34 = .ok (.aload_n 2, 1) := by decide +kernel
theorem dL_acts_35 : decode cL_acts 35 = .ok (.iload 5, 2) := by decide +kernel
theorem dL_acts_37 : decode cL_acts 37 = .ok (.iconst 4, 1) := by decide +kernel
theorem dL_acts_38 : decode cL_acts 38 = .ok (.ishr, 1) := by decide +kernel
theorem dL_acts_39 : decode cL_acts 39 = .ok (.iload 6, 2) := by decide +kernel
theorem dL_acts_41 : decode cL_acts 41 = .ok (.invokestatic 208, 3) := by decide +kernel
theorem dL_acts_44 : decode cL_acts 44 = .ok (.ireturn, 1) := by decide +kernel
theorem dL_acts_45 : decode cL_acts 45 = .ok (.aload_n 2, 1) := by decide +kernel
theorem dL_acts_46 : decode cL_acts 46 = .ok (.iconst 0, 1) := by decide +kernel
theorem dL_acts_47 : decode cL_acts 47 = .ok (.iaload, 1) := by decide +kernel
theorem dL_acts_48 : decode cL_acts 48 = .ok (.iconst 1, 1) := by decide +kernel
theorem dL_acts_49 : decode cL_acts 49 = .ok (.isub, 1) := by decide +kernel
theorem dL_acts_50 : decode cL_acts 50 = .ok (.iload 6, 2) := by decide +kernel
theorem dL_acts_52 : decode cL_acts 52 = .ok (.aload_n 2, 1) := by decide +kernel
theorem dL_acts_53 : decode cL_acts 53 = .ok (.iconst 0, 1) := by decide +kernel
theorem dL_acts_54 : decode cL_acts 54 = .ok (.iaload, 1) := by decide +kernel
theorem dL_acts_55 : decode cL_acts 55 = .ok (.bipush 12, 2) := by decide +kernel
theorem dL_acts_57 : decode cL_acts 57 = .ok (.if_icmp .ge 9, 3) := by decide +kernel
theorem dL_acts_60 : decode cL_acts 60 = .ok (.aload_n 2, 1) := by decide +kernel
theorem dL_acts_61 : decode cL_acts 61 = .ok (.iconst 0, 1) := by decide +kernel
theorem dL_acts_62 : decode cL_acts 62 = .ok (.iaload, 1) := by decide +kernel
theorem dL_acts_63 : decode cL_acts 63 = .ok (.goto 5, 3) := by decide +kernel
theorem dL_acts_66 : decode cL_acts 66 = .ok (.bipush 12, 2) := by decide +kernel
theorem dL_acts_68 : decode cL_acts 68 = .ok (.invokestatic 93, 3) := by decide +kernel
theorem dL_acts_71 : decode cL_acts 71 = .ok (.isub, 1) := by decide +kernel
theorem dL_acts_72 : decode cL_acts 72 = .ok (.istore 8, 2) := by decide +kernel
theorem dL_acts_74 : decode cL_acts 74 = .ok (.iload 7, 2) := by decide +kernel
theorem dL_acts_76 : decode cL_acts 76 = .ok (.bipush 14, 2) := by decide +kernel
theorem dL_acts_78 : decode cL_acts 78 = .ok (.if_icmp .ge 38, 3) := by decide +kernel
theorem dL_acts_81 : decode cL_acts 81 = .ok (.aload_n 2, 1) := by decide +kernel
theorem dL_acts_82 : decode cL_acts 82 = .ok (.bipush 6, 2) := by decide +kernel
theorem dL_acts_84 : decode cL_acts 84 = .ok (.dup2, 1) := by decide +kernel
theorem dL_acts_85 : decode cL_acts 85 = .ok (.iaload, 1) := by decide +kernel
theorem dL_acts_86 : decode cL_acts 86 = .ok (.iload 7, 2) := by decide +kernel
theorem dL_acts_88 : decode cL_acts 88 = .ok (.bipush 12, 2) := by decide +kernel
theorem dL_acts_90 : decode cL_acts 90 = .ok (.if_icmp .ne 8, 3) := by decide +kernel
theorem dL_acts_93 : decode cL_acts 93 = .ok (.bipush 6, 2) := by decide +kernel
theorem dL_acts_95 : decode cL_acts 95 = .ok (.goto 4, 3) := by decide +kernel
theorem dL_acts_98 : decode cL_acts 98 = .ok (.iconst 1, 1) := by decide +kernel
theorem dL_acts_99 : decode cL_acts 99 = .ok (.iadd, 1) := by decide +kernel
theorem dL_acts_100 : decode cL_acts 100 = .ok (.iastore, 1) := by decide +kernel
theorem dL_acts_101 : decode cL_acts 101 = .ok (.aload_n 2, 1) := by decide +kernel
theorem dL_acts_102 : decode cL_acts 102 = .ok (.bipush 6, 2) := by decide +kernel
theorem dL_acts_104 : decode cL_acts 104 = .ok (.iaload, 1) := by decide +kernel
theorem dL_acts_105 : decode cL_acts 105 = .ok (.bipush 30, 2) := by decide +kernel
theorem dL_acts_107 : decode cL_acts 107 = .ok (.if_icmp .le 9, 3) := by decide +kernel
theorem dL_acts_110 : decode cL_acts 110 = .ok (.aload_n 0, 1) := by decide +kernel
theorem dL_acts_111 : decode cL_acts 111 = .ok (.aload_n 2, 1) := by decide +kernel
theorem dL_acts_112 : decode cL_acts 112 = .ok (.invokestatic 176, 3) := by decide +kernel
theorem dL_acts_115 : decode cL_acts 115 = .ok (.ireturn, 1) := by decide +kernel
theorem dL_acts_116 : decode cL_acts 116 = .ok (.iload 7, 2) := by decide +kernel
theorem dL_acts_118 : decode cL_acts 118 = .ok (.bipush 12, 2) := by decide +kernel
theorem dL_acts_120 : decode cL_acts 120 = .ok (.if_icmp .ge 41, 3) := by decide +kernel
theorem dL_acts_123 : decode cL_acts 123 = .ok (.aload_n 0, 1) := by decide +kernel
theorem dL_acts_124 : decode cL_acts 124 = .ok (.aload_n 2, 1) := by decide +kernel
theorem dL_acts_125 : decode cL_acts 125 = .ok (.aload_n 3, 1) := by decide +kernel
theorem dL_acts_126 : decode cL_acts 126 = .ok (.aload 4, 2) := by decide +kernel
theorem dL_acts_128 : decode cL_acts 128 = .ok (.iload 8, 2) := by decide +kernel
theorem dL_acts_130 : decode cL_acts 130 = .ok (.iload 5, 2) := by decide +kernel
theorem dL_acts_132 : decode cL_acts 132 = .ok (.iconst 4, 1) := by decide +kernel
theorem dL_acts_133 : decode cL_acts 133 = .ok (.ishr, 1) := by decide +kernel
theorem dL_acts_134 : decode cL_acts 134 = .ok (.iconst 2, 1) := by decide +kernel
theorem dL_acts_135 : decode cL_acts 135 = .ok (.invokestatic 93, 3) := by decide +kernel
theorem dL_acts_138 : decode cL_acts 138 = .ok (.ifCond .ne 7, 3) := by decide +kernel
theorem dL_acts_141 : decode cL_acts 141 = .ok (.iconst 1, 1) := by decide +kernel
theorem dL_acts_142 : decode cL_acts 142 = .ok (.goto 4, 3) := by decide +kernel
theorem dL_acts_145 : decode cL_acts 145 = .ok (.iconst 0, 1) := by decide +kernel
theorem dL_acts_146 : decode cL_acts 146 = .ok (.iconst 1, 1) := by decide +kernel
theorem dL_acts_147 : decode cL_acts 147 = .ok (.iload 5, 2) := by decide +kernel
theorem dL_acts_149 : decode cL_acts 149 = .ok (.iconst 5, 1) := by decide +kernel
theorem dL_acts_150 : decode cL_acts 150 = .ok (.ishr, 1) := by decide +kernel
theorem dL_acts_151 : decode cL_acts 151 = .ok (.bipush 9, 2) := by decide +kernel
theorem dL_acts_153 : decode cL_acts 153 = .ok (.invokestatic 93, 3) := by decide +kernel
theorem dL_acts_156 : decode cL_acts 156 = .ok (.iadd, 1) := by decide +kernel
theorem dL_acts_157 : decode cL_acts 157 = .ok (.invokestatic 212, 3) := by decide +kernel
theorem dL_acts_160 : decode cL_acts 160 = .ok (.ireturn, 1) := by decide +kernel
theorem dL_acts_161 : decode cL_acts 161 = .ok (.iload 7, 2) := by decide +kernel
theorem dL_acts_163 : decode cL_acts 163 = .ok (.bipush 12, 2) := by decide +kernel
theorem dL_acts_165 : decode cL_acts 165 = .ok (.if_icmp .ne 11, 3) := by decide +kernel
theorem dL_acts_168 : decode cL_acts 168 = .ok (.aload_n 0, 1) := by decide +kernel
theorem dL_acts_169 : decode cL_acts 169 = .ok (.aload_n 2, 1) := by decide +kernel
theorem dL_acts_170 : decode cL_acts 170 = .ok (.iload 8, 2) := by decide +kernel
theorem dL_acts_172 : decode cL_acts 172 = .ok (.invokestatic 216, 3) := by decide +kernel
theorem dL_acts_175 : decode cL_acts 175 = .ok (.ireturn, 1) := by decide +kernel
theorem dL_acts_176 : decode cL_acts 176 = .ok (.iload 7, 2) := by decide +kernel
theorem dL_acts_178 : decode cL_acts 178 = .ok (.bipush 13, 2) := by decide +kernel
theorem dL_acts_180 : decode cL_acts 180 = .ok (.if_icmp .ne 18, 3) := by decide +kernel
theorem dL_acts_183 : decode cL_acts 183 = .ok (.aload_n 0, 1) := by decide +kernel
theorem dL_acts_184 : decode cL_acts 184 = .ok (.aload_n 2, 1) := by decide +kernel
theorem dL_acts_185 : decode cL_acts 185 = .ok (.aload_n 3, 1) := by decide +kernel
theorem dL_acts_186 : decode cL_acts 186 = .ok (.aload 4, 2) := by decide +kernel
theorem dL_acts_188 : decode cL_acts 188 = .ok (.iload 8, 2) := by decide +kernel
theorem dL_acts_190 : decode cL_acts 190 = .ok (.iload 5, 2) := by decide +kernel
theorem dL_acts_192 : decode cL_acts 192 = .ok (.iconst 4, 1) := by decide +kernel
theorem dL_acts_193 : decode cL_acts 193 = .ok (.ishr, 1) := by decide +kernel
theorem dL_acts_194 : decode cL_acts 194 = .ok (.invokestatic 220, 3) := by decide +kernel
theorem dL_acts_197 : decode cL_acts 197 = .ok (.ireturn, 1) := by decide +kernel
theorem dL_acts_198 : decode cL_acts 198 = .ok (.iload 7, 2) := by decide +kernel
theorem dL_acts_200 : decode cL_acts 200 = .ok (.bipush 14, 2) := by decide +kernel
theorem dL_acts_202 : decode cL_acts 202 = .ok (.if_icmp .ne 140, 3) := by decide +kernel
theorem dL_acts_205 : decode cL_acts 205 = .ok (.iload 6, 2) := by decide +kernel
theorem dL_acts_207 : decode cL_acts 207 = .ok (.iconst 3, 1) := by decide +kernel
theorem dL_acts_208 : decode cL_acts 208 = .ok (.invokestatic 93, 3) := by decide +kernel
theorem dL_acts_211 : decode cL_acts 211 = .ok (.istore 9, 2) := by decide +kernel
theorem dL_acts_213 : decode cL_acts 213 = .ok (.iload 6, 2) := by decide +kernel
theorem dL_acts_215 : decode cL_acts 215 = .ok (.iconst 2, 1) := by decide +kernel
theorem dL_acts_216 : decode cL_acts 216 = .ok (.ishr, 1) := by decide +kernel
theorem dL_acts_217 : decode cL_acts 217 = .ok (.iconst 3, 1) := by decide +kernel
theorem dL_acts_218 : decode cL_acts 218 = .ok (.invokestatic 93, 3) := by decide +kernel
theorem dL_acts_221 : decode cL_acts 221 = .ok (.istore 10, 2) := by decide +kernel
theorem dL_acts_223 : decode cL_acts 223 = .ok (.iload 6, 2) := by decide +kernel
theorem dL_acts_225 : decode cL_acts 225 = .ok (.iconst 4, 1) := by decide +kernel
theorem dL_acts_226 : decode cL_acts 226 = .ok (.ishr, 1) := by decide +kernel
theorem dL_acts_227 : decode cL_acts 227 = .ok (.aload_n 2, 1) := by decide +kernel
theorem dL_acts_228 : decode cL_acts 228 = .ok (.iconst 0, 1) := by decide +kernel
theorem dL_acts_229 : decode cL_acts 229 = .ok (.iaload, 1) := by decide +kernel
theorem dL_acts_230 : decode cL_acts 230 = .ok (.invokestatic 93, 3) := by decide +kernel
theorem dL_acts_233 : decode cL_acts 233 = .ok (.istore 11, 2) := by decide +kernel
theorem dL_acts_235 : decode cL_acts 235 = .ok (.aload_n 0, 1) := by decide +kernel
theorem dL_acts_236 : decode cL_acts 236 = .ok (.iload 9, 2) := by decide +kernel
theorem dL_acts_238 : decode cL_acts 238 = .ok (.invokestatic 127, 3) := by decide +kernel
theorem dL_acts_241 : decode cL_acts 241 = .ok (.istore 12, 2) := by decide +kernel
theorem dL_acts_243 : decode cL_acts 243 = .ok (.aload_n 0, 1) := by decide +kernel
theorem dL_acts_244 : decode cL_acts 244 = .ok (.iload 9, 2) := by decide +kernel
theorem dL_acts_246 : decode cL_acts 246 = .ok (.iload 10, 2) := by decide +kernel
theorem dL_acts_248 : decode cL_acts 248 = .ok (.iload 11, 2) := by decide +kernel
theorem dL_acts_250 : decode cL_acts 250 = .ok (.iload 10, 2) := by decide +kernel
theorem dL_acts_252 : decode cL_acts 252 = .ok (.iconst 2, 1) := by decide +kernel
theorem dL_acts_253 : decode cL_acts 253 = .ok (.if_icmp .ne 23, 3) := by decide +kernel
theorem dL_acts_256 : decode cL_acts 256 = .ok (.iload 6, 2) := by decide +kernel
theorem dL_acts_258 : decode cL_acts 258 = .ok (.iconst 5, 1) := by decide +kernel
theorem dL_acts_259 : decode cL_acts 259 = .ok (.ishr, 1) := by decide +kernel
theorem dL_acts_260 : decode cL_acts 260 = .ok (.iconst 3, 1) := by decide +kernel
theorem dL_acts_261 : decode cL_acts 261 = .ok (.invokestatic 93, 3) := by decide +kernel
theorem dL_acts_264 : decode cL_acts 264 = .ok (.ifCond .ne 8, 3) := by decide +kernel
theorem dL_acts_267 : decode cL_acts 267 = .ok (.iload 8, 2) := by decide +kernel
theorem dL_acts_269 : decode cL_acts 269 = .ok (.goto 8, 3) := by decide +kernel
theorem dL_acts_272 : decode cL_acts 272 = .ok (.iconst (-1), 1) := by decide +kernel
theorem dL_acts_273 : decode cL_acts 273 = .ok (.goto 4, 3) := by decide +kernel
theorem dL_acts_276 : decode cL_acts 276 = .ok (.iconst (-1), 1) := by decide +kernel
theorem dL_acts_277 : decode cL_acts 277 = .ok (.invokestatic 194, 3) := by decide +kernel
theorem dL_acts_280 : decode cL_acts 280 = .ok (.iload 12, 2) := by decide +kernel
theorem dL_acts_282 : decode cL_acts 282 = .ok (.if_icmp .ne 58, 3) := by decide +kernel
theorem dL_acts_285 : decode cL_acts 285 = .ok (.aload_n 0, 1) := by decide +kernel
theorem dL_acts_286 : decode cL_acts 286 = .ok (.iload 9, 2) := by decide +kernel
theorem dL_acts_288 : decode cL_acts 288 = .ok (.invokestatic 127, 3) := by decide +kernel
theorem dL_acts_291 : decode cL_acts 291 = .ok (.iload 11, 2) := by decide +kernel
theorem dL_acts_293 : decode cL_acts 293 = .ok (.if_icmp .ne 47, 3) := by decide +kernel
theorem dL_acts_296 : decode cL_acts 296 = .ok (.aload_n 0, 1) := by decide +kernel
theorem dL_acts_297 : decode cL_acts 297 = .ok (.bipush 6, 2) := by decide +kernel
theorem dL_acts_299 : decode cL_acts 299 = .ok (.iconst 0, 1) := by decide +kernel
theorem dL_acts_300 : decode cL_acts 300 = .ok (.iconst 0, 1) := by decide +kernel
theorem dL_acts_301 : decode cL_acts 301 = .ok (.iconst (-1), 1) := by decide +kernel
theorem dL_acts_302 : decode cL_acts 302 = .ok (.invokestatic 194, 3) := by decide +kernel
theorem dL_acts_305 : decode cL_acts 305 = .ok (.ldc 18, 2) := by decide +kernel
theorem dL_acts_307 : decode cL_acts 307 = .ok (.if_icmp .ne 33, 3) := by decide +kernel
theorem dL_acts_310 : decode cL_acts 310 = .ok (.aload_n 0, 1) := by decide +kernel
theorem dL_acts_311 : decode cL_acts 311 = .ok (.iconst 0, 1) := by decide +kernel
theorem dL_acts_312 : decode cL_acts 312 = .ok (.iconst 1, 1) := by decide +kernel
theorem dL_acts_313 : decode cL_acts 313 = .ok (.iconst 0, 1) := by decide +kernel
theorem dL_acts_314 : decode cL_acts 314 = .ok (.iconst 0, 1) := by decide +kernel
theorem dL_acts_315 : decode cL_acts 315 = .ok (.invokestatic 194, 3) := by decide +kernel
theorem dL_acts_318 : decode cL_acts 318 = .ok (.ldc 21, 2) := by decide +kernel
theorem dL_acts_320 : decode cL_acts 320 = .ok (.if_icmp .ne 20, 3) := by decide +kernel
theorem dL_acts_323 : decode cL_acts 323 = .ok (.aload_n 0, 1) := by decide +kernel
theorem dL_acts_324 : decode cL_acts 324 = .ok (.iconst 0, 1) := by decide +kernel
theorem dL_acts_325 : decode cL_acts 325 = .ok (.iconst 3, 1) := by decide +kernel
theorem dL_acts_326 : decode cL_acts 326 = .ok (.iconst 0, 1) := by decide +kernel
theorem dL_acts_327 : decode cL_acts 327 = .ok (.iconst (-1), 1) := by decide +kernel
theorem dL_acts_328 : decode cL_acts 328 = .ok (.invokestatic 194, 3) := by decide +kernel
theorem dL_acts_331 : decode cL_acts 331 = .ok (.ldc 21, 2) := by decide +kernel
theorem dL_acts_333 : decode cL_acts 333 = .ok (.if_icmp .ne 7, 3) := by decide +kernel
theorem dL_acts_336 : decode cL_acts 336 = .ok (.iconst 1, 1) := by decide +kernel
theorem dL_acts_337 : decode cL_acts 337 = .ok (.goto 4, 3) := by decide +kernel
theorem dL_acts_340 : decode cL_acts 340 = .ok (.iconst 0, 1) := by decide +kernel
theorem dL_acts_341 : decode cL_acts 341 = .ok (.ireturn, 1) := by decide +kernel
theorem dL_acts_342 : decode cL_acts 342 = .ok (.iload 6, 2) := by decide +kernel
theorem dL_acts_344 : decode cL_acts 344 = .ok (.iconst 2, 1) := by decide +kernel
theorem dL_acts_345 : decode cL_acts 345 = .ok (.invokestatic 93, 3) := by decide +kernel
theorem dL_acts_348 : decode cL_acts 348 = .ok (.istore 9, 2) := by decide +kernel
theorem dL_acts_350 : decode cL_acts 350 = .ok (.aload_n 0, 1) := by decide +kernel
theorem dL_acts_351 : decode cL_acts 351 = .ok (.iload 9, 2) := by decide +kernel
theorem dL_acts_353 : decode cL_acts 353 = .ok (.invokestatic 116, 3) := by decide +kernel
theorem dL_acts_356 : decode cL_acts 356 = .ok (.istore 10, 2) := by decide +kernel
theorem dL_acts_358 : decode cL_acts 358 = .ok (.iload 6, 2) := by decide +kernel
theorem dL_acts_360 : decode cL_acts 360 = .ok (.iconst 1, 1) := by decide +kernel
theorem dL_acts_361 : decode cL_acts 361 = .ok (.ishr, 1) := by decide +kernel
theorem dL_acts_362 : decode cL_acts 362 = .ok (.iconst 3, 1) := by decide +kernel
theorem dL_acts_363 : decode cL_acts 363 = .ok (.invokestatic 93, 3) := by decide +kernel
theorem dL_acts_366 : decode cL_acts 366 = .ok (.ifCond .ne 52, 3) := by decide +kernel
theorem dL_acts_369 : decode cL_acts 369 = .ok (.aload_n 0, 1) := by decide +kernel
theorem dL_acts_370 : decode cL_acts 370 = .ok (.iload 9, 2) := by decide +kernel
theorem dL_acts_372 : decode cL_acts 372 = .ok (.invokestatic 125, 3) := by decide +kernel
theorem dL_acts_375 : decode cL_acts 375 = .ok (.istore 11, 2) := by decide +kernel
theorem dL_acts_377 : decode cL_acts 377 = .ok (.iload 6, 2) := by decide +kernel
theorem dL_acts_379 : decode cL_acts 379 = .ok (.iconst 3, 1) := by decide +kernel
theorem dL_acts_380 : decode cL_acts 380 = .ok (.ishr, 1) := by decide +kernel
theorem dL_acts_381 : decode cL_acts 381 = .ok (.bipush 99, 2) := by decide +kernel
theorem dL_acts_383 : decode cL_acts 383 = .ok (.invokestatic 93, 3) := by decide +kernel
theorem dL_acts_386 : decode cL_acts 386 = .ok (.istore 12, 2) := by decide +kernel
theorem dL_acts_388 : decode cL_acts 388 = .ok (.aload_n 0, 1) := by decide +kernel
theorem dL_acts_389 : decode cL_acts 389 = .ok (.iload 9, 2) := by decide +kernel
theorem dL_acts_391 : decode cL_acts 391 = .ok (.iload 12, 2) := by decide +kernel
theorem dL_acts_393 : decode cL_acts 393 = .ok (.invokestatic 190, 3) := by decide +kernel
theorem dL_acts_396 : decode cL_acts 396 = .ok (.iload 11, 2) := by decide +kernel
theorem dL_acts_398 : decode cL_acts 398 = .ok (.if_icmp .ne 18, 3) := by decide +kernel
theorem dL_acts_401 : decode cL_acts 401 = .ok (.aload_n 0, 1) := by decide +kernel
theorem dL_acts_402 : decode cL_acts 402 = .ok (.iload 9, 2) := by decide +kernel
theorem dL_acts_404 : decode cL_acts 404 = .ok (.invokestatic 125, 3) := by decide +kernel
theorem dL_acts_407 : decode cL_acts 407 = .ok (.iload 12, 2) := by decide +kernel
theorem dL_acts_409 : decode cL_acts 409 = .ok (.if_icmp .ne 7, 3) := by decide +kernel
theorem dL_acts_412 : decode cL_acts 412 = .ok (.iconst 1, 1) := by decide +kernel
theorem dL_acts_413 : decode cL_acts 413 = .ok (.goto 4, 3) := by decide +kernel
theorem dL_acts_416 : decode cL_acts 416 = .ok (.iconst 0, 1) := by decide +kernel
theorem dL_acts_417 : decode cL_acts 417 = .ok (.ireturn, 1) := by decide +kernel
theorem dL_acts_418 : decode cL_acts 418 = .ok (.aload_n 0, 1) := by decide +kernel
theorem dL_acts_419 : decode cL_acts 419 = .ok (.iload 9, 2) := by decide +kernel
theorem dL_acts_421 : decode cL_acts 421 = .ok (.iload 6, 2) := by decide +kernel
theorem dL_acts_423 : decode cL_acts 423 = .ok (.iconst 3, 1) := by decide +kernel
theorem dL_acts_424 : decode cL_acts 424 = .ok (.ishr, 1) := by decide +kernel
theorem dL_acts_425 : decode cL_acts 425 = .ok (.bipush 26, 2) := by decide +kernel
theorem dL_acts_427 : decode cL_acts 427 = .ok (.invokestatic 93, 3) := by decide +kernel
theorem dL_acts_430 : decode cL_acts 430 = .ok (.invokestatic 192, 3) := by decide +kernel
theorem dL_acts_433 : decode cL_acts 433 = .ok (.iload 10, 2) := by decide +kernel
theorem dL_acts_435 : decode cL_acts 435 = .ok (.bipush 40, 2) := by decide +kernel
theorem dL_acts_437 : decode cL_acts 437 = .ok (.if_icmp .ne 8, 3) := by decide +kernel
theorem dL_acts_440 : decode cL_acts 440 = .ok (.ldc 24, 2) := by decide +kernel
theorem dL_acts_442 : decode cL_acts 442 = .ok (.goto 7, 3) := by decide +kernel
theorem dL_acts_445 : decode cL_acts 445 = .ok (.iload 10, 2) := by decide +kernel
theorem dL_acts_447 : decode cL_acts 447 = .ok (.iconst 1, 1) := by decide +kernel
theorem dL_acts_448 : decode cL_acts 448 = .ok (.iadd, 1) := by decide +kernel
theorem dL_acts_449 : decode cL_acts 449 = .ok (.if_icmp .ne 57, 3) := by decide +kernel
theorem dL_acts_452 : decode cL_acts 452 = .ok (.iload 10, 2) := by decide +kernel
theorem dL_acts_454 : decode cL_acts 454 = .ok (.bipush 40, 2) := by decide +kernel
theorem dL_acts_456 : decode cL_acts 456 = .ok (.if_icmp .eq 23, 3) := by decide +kernel
theorem dL_acts_459 : decode cL_acts 459 = .ok (.aload_n 0, 1) := by decide +kernel
theorem dL_acts_460 : decode cL_acts 460 = .ok (.iload 9, 2) := by decide +kernel
theorem dL_acts_462 : decode cL_acts 462 = .ok (.iload 10, 2) := by decide +kernel
theorem dL_acts_464 : decode cL_acts 464 = .ok (.invokestatic 123, 3) := by decide +kernel
theorem dL_acts_467 : decode cL_acts 467 = .ok (.iload 6, 2) := by decide +kernel
theorem dL_acts_469 : decode cL_acts 469 = .ok (.iconst 3, 1) := by decide +kernel
theorem dL_acts_470 : decode cL_acts 470 = .ok (.ishr, 1) := by decide +kernel
theorem dL_acts_471 : decode cL_acts 471 = .ok (.bipush 26, 2) := by decide +kernel
theorem dL_acts_473 : decode cL_acts 473 = .ok (.invokestatic 93, 3) := by decide +kernel
theorem dL_acts_476 : decode cL_acts 476 = .ok (.if_icmp .ne 30, 3) := by decide +kernel
theorem dL_acts_479 : decode cL_acts 479 = .ok (.aload_n 0, 1) := by decide +kernel
theorem dL_acts_480 : decode cL_acts 480 = .ok (.iconst 2, 1) := by decide +kernel
theorem dL_acts_481 : decode cL_acts 481 = .ok (.iconst 0, 1) := by decide +kernel
theorem dL_acts_482 : decode cL_acts 482 = .ok (.invokestatic 192, 3) := by decide +kernel
theorem dL_acts_485 : decode cL_acts 485 = .ok (.ldc 18, 2) := by decide +kernel
theorem dL_acts_487 : decode cL_acts 487 = .ok (.if_icmp .ne 19, 3) := by decide +kernel
theorem dL_acts_490 : decode cL_acts 490 = .ok (.aload_n 0, 1) := by decide +kernel
theorem dL_acts_491 : decode cL_acts 491 = .ok (.iconst 0, 1) := by decide +kernel
theorem dL_acts_492 : decode cL_acts 492 = .ok (.bipush 26, 2) := by decide +kernel
theorem dL_acts_494 : decode cL_acts 494 = .ok (.invokestatic 192, 3) := by decide +kernel
theorem dL_acts_497 : decode cL_acts 497 = .ok (.ldc 21, 2) := by decide +kernel
theorem dL_acts_499 : decode cL_acts 499 = .ok (.if_icmp .ne 7, 3) := by decide +kernel
theorem dL_acts_502 : decode cL_acts 502 = .ok (.iconst 1, 1) := by decide +kernel
theorem dL_acts_503 : decode cL_acts 503 = .ok (.goto 4, 3) := by decide +kernel
theorem dL_acts_506 : decode cL_acts 506 = .ok (.iconst 0, 1) := by decide +kernel
theorem dL_acts_507 : decode cL_acts 507 = .ok (.ireturn, 1) := by decide +kernel
theorem dL_law_0 : decode cL_law 0 = .ok (.new 11, 3) := by decide +kernel
theorem dL_law_3 : decode cL_law 3 = .ok (.dup, 1) := by decide +kernel
theorem dL_law_4 : decode cL_law 4 = .ok (.invokespecial 224, 3) := by decide +kernel
theorem dL_law_7 : decode cL_law 7 = .ok (.astore_n 1, 1) := by decide +kernel
theorem dL_law_8 : decode cL_law 8 = .ok (.bipush 60, 2) := by decide +kernel
theorem dL_law_10 : decode cL_law 10 = .ok (.newarray .int, 2) := by decide +kernel
theorem dL_law_12 : decode cL_law 12 = .ok (.astore_n 2, 1) := by decide +kernel
theorem dL_law_13 : decode cL_law 13 = .ok (.bipush 7, 2) := by decide +kernel
theorem dL_law_15 : decode cL_law 15 = .ok (.newarray .int, 2) := by decide +kernel
theorem dL_law_17 : decode cL_law 17 = .ok (.astore_n 3, 1) := by decide +kernel
theorem dL_law_18 : decode cL_law 18 = .ok (.bipush 26, 2) := by decide +kernel
theorem dL_law_20 : decode cL_law 20 = .ok (.newarray .int, 2) := by decide +kernel
theorem dL_law_22 : decode cL_law 22 = .ok (.astore 4, 2) := by decide +kernel
theorem dL_law_24 : decode cL_law 24 = .ok (.bipush 62, 2) := by decide +kernel
theorem dL_law_26 : decode cL_law 26 = .ok (.newarray .int, 2) := by decide +kernel
theorem dL_law_28 : decode cL_law 28 = .ok (.astore 5, 2) := by decide +kernel
theorem dL_law_30 : decode cL_law 30 = .ok (.aload_n 3, 1) := by decide +kernel
theorem dL_law_31 : decode cL_law 31 = .ok (.iconst 1, 1) := by decide +kernel
theorem dL_law_32 : decode cL_law 32 = .ok (.sipush 300, 3) := by decide +kernel
theorem dL_law_35 : decode cL_law 35 = .ok (.iastore, 1) := by decide +kernel
theorem dL_law_36 : decode cL_law 36 = .ok (.aload_n 3, 1) := by decide +kernel
theorem dL_law_37 : decode cL_law 37 = .ok (.iconst 4, 1) := by decide +kernel
theorem dL_law_38 : decode cL_law 38 = .ok (.ldc 158, 2) := by decide +kernel
theorem dL_law_40 : decode cL_law 40 = .ok (.iastore, 1) := by decide +kernel
theorem dL_law_41 : decode cL_law 41 = .ok (.aload_n 1, 1) := by decide +kernel
theorem dL_law_42 : decode cL_law 42 = .ok (.aload 4, 2) := by decide +kernel
theorem dL_law_44 : decode cL_law 44 = .ok (.invokestatic 135, 3) := by decide +kernel
theorem dL_law_47 : decode cL_law 47 = .ok (.istore 6, 2) := by decide +kernel
theorem dL_law_49 : decode cL_law 49 = .ok (.iconst 0, 1) := by decide +kernel
theorem dL_law_50 : decode cL_law 50 = .ok (.istore 7, 2) := by decide +kernel
theorem dL_law_52 : decode cL_law 52 = .ok (.iload 7, 2) := by decide +kernel
theorem dL_law_54 : decode cL_law 54 = .ok (.bipush 110, 2) := by decide +kernel
theorem dL_law_56 : decode cL_law 56 = .ok (.if_icmp .ge 44, 3) := by decide +kernel
theorem dL_law_59 : decode cL_law 59 = .ok (.iload 6, 2) := by decide +kernel
theorem dL_law_61 : decode cL_law 61 = .ok (.ifCond .eq 39, 3) := by decide +kernel
theorem dL_law_64 : decode cL_law 64 = .ok (.aload_n 1, 1) := by decide +kernel
theorem dL_law_65 : decode cL_law 65 = .ok (.aload_n 2, 1) := by decide +kernel
theorem dL_law_66 : decode cL_law 66 = .ok (.aload_n 3, 1) := by decide +kernel
theorem dL_law_67 : decode cL_law 67 = .ok (.aload 4, 2) := by decide +kernel
theorem dL_law_69 : decode cL_law 69 = .ok (.aload 5, 2) := by decide +kernel
theorem dL_law_71 : decode cL_law 71 = .ok (.aload_n 0, 1) := by decide +kernel
theorem dL_law_72 : decode cL_law 72 = .ok (.iconst 2, 1) := by decide +kernel
theorem dL_law_73 : decode cL_law 73 = .ok (.iload 7, 2) := by decide +kernel
theorem dL_law_75 : decode cL_law 75 = .ok (.imul, 1) := by decide +kernel
theorem dL_law_76 : decode cL_law 76 = .ok (.invokestatic 225, 3) := by decide +kernel
theorem dL_law_79 : decode cL_law 79 = .ok (.aload_n 0, 1) := by decide +kernel
theorem dL_law_80 : decode cL_law 80 = .ok (.iconst 2, 1) := by decide +kernel
theorem dL_law_81 : decode cL_law 81 = .ok (.iload 7, 2) := by decide +kernel
theorem dL_law_83 : decode cL_law 83 = .ok (.imul, 1) := by decide +kernel
theorem dL_law_84 : decode cL_law 84 = .ok (.iconst 1, 1) := by decide +kernel
theorem dL_law_85 : decode cL_law 85 = .ok (.iadd, 1) := by decide +kernel
theorem dL_law_86 : decode cL_law 86 = .ok (.invokestatic 225, 3) := by decide +kernel
theorem dL_law_89 : decode cL_law 89 = .ok (.invokestatic 228, 3) := by decide +kernel
theorem dL_law_92 : decode cL_law 92 = .ok (.istore 6, 2) := by decide +kernel
theorem dL_law_94 : decode cL_law 94 = .ok (.iinc 7 1, 3) := by decide +kernel
theorem dL_law_97 : decode cL_law 97 = .ok (.goto (-45), 3) := by decide +kernel
theorem dL_law_100 : decode cL_law 100 = .ok (.iload 6, 2) := by decide +kernel
theorem dL_law_102 : decode cL_law 102 = .ok (.ireturn, 1) := by decide +kernel
