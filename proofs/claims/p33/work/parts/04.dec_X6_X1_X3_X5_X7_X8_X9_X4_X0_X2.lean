theorem dX6_init_0 : decode cX6_init 0 = .ok (.aload_n 0, 1) := by decide +kernel
theorem dX6_init_1 : decode cX6_init 1 = .ok (.invokespecial 3, 3) := by decide +kernel
theorem dX6_init_4 : decode cX6_init 4 = .ok (.aload_n 0, 1) := by decide +kernel
theorem dX6_init_5 : decode cX6_init 5 = .ok (.iconst 0, 1) := by decide +kernel
theorem dX6_init_6 : decode cX6_init 6 = .ok (.iload_n 1, 1) := by decide +kernel
theorem dX6_init_7 : decode cX6_init 7 = .ok (.invokestatic 9, 3) := by decide +kernel
theorem dX6_init_10 : decode cX6_init 10 = .ok (.newarray .int, 2) := by decide +kernel
theorem dX6_init_12 : decode cX6_init 12 = .ok (.putfield 15, 3) := by decide +kernel
theorem dX6_init_15 : decode cX6_init 15 = .ok (.aload_n 0, 1) := by decide +kernel
theorem dX6_init_16 : decode cX6_init 16 = .ok (.getfield 15, 3) := by decide +kernel
theorem dX6_init_19 : decode cX6_init 19 = .ok (.iload_n 2, 1) := by decide +kernel
theorem dX6_init_20 : decode cX6_init 20 = .ok (.invokestatic 21, 3) := by decide +kernel
theorem dX6_init_23 : decode cX6_init 23 = .ok (.return_, 1) := by decide +kernel
theorem dX6_at_0 : decode cX6_at 0 = .ok (.iload_n 1, 1) := by decide +kernel
theorem dX6_at_1 : decode cX6_at 1 = .ok (.ifCond .lt 21, 3) := by decide +kernel
theorem dX6_at_4 : decode cX6_at 4 = .ok (.iload_n 1, 1) := by decide +kernel
theorem dX6_at_5 : decode cX6_at 5 = .ok (.aload_n 0, 1) := by decide +kernel
theorem dX6_at_6 : decode cX6_at 6 = .ok (.getfield 15, 3) := by decide +kernel
theorem dX6_at_9 : decode cX6_at 9 = .ok (.arraylength, 1) := by decide +kernel
theorem dX6_at_10 : decode cX6_at 10 = .ok (.if_icmp .ge 12, 3) := by decide +kernel
theorem dX6_at_13 : decode cX6_at 13 = .ok (.aload_n 0, 1) := by decide +kernel
theorem dX6_at_14 : decode cX6_at 14 = .ok (.getfield 15, 3) := by decide +kernel
theorem dX6_at_17 : decode cX6_at 17 = .ok (.iload_n 1, 1) := by decide +kernel
theorem dX6_at_18 : decode cX6_at 18 = .ok (.iaload, 1) := by decide +kernel
theorem dX6_at_19 : decode cX6_at 19 = .ok (.goto 4, 3) := by decide +kernel
theorem dX6_at_22 : decode cX6_at 22 = .ok (.iconst (-1), 1) := by decide +kernel
theorem dX6_at_23 : decode cX6_at 23 = .ok (.ireturn, 1) := by decide +kernel
theorem dX6_put_0 : decode cX6_put 0 = .ok (.iload_n 1, 1) := by decide +kernel
theorem dX6_put_1 : decode cX6_put 1 = .ok (.ifCond .lt 19, 3) := by decide +kernel
theorem dX6_put_4 : decode cX6_put 4 = .ok (.iload_n 1, 1) := by decide +kernel
theorem dX6_put_5 : decode cX6_put 5 = .ok (.aload_n 0, 1) := by decide +kernel
theorem dX6_put_6 : decode cX6_put 6 = .ok (.getfield 15, 3) := by decide +kernel
theorem dX6_put_9 : decode cX6_put 9 = .ok (.arraylength, 1) := by decide +kernel
theorem dX6_put_10 : decode cX6_put 10 = .ok (.if_icmp .ge 10, 3) := by decide +kernel
theorem dX6_put_13 : decode cX6_put 13 = .ok (.aload_n 0, 1) := by decide +kernel
theorem dX6_put_14 : decode cX6_put 14 = .ok (.getfield 15, 3) := by decide +kernel
theorem dX6_put_17 : decode cX6_put 17 = .ok (.iload_n 1, 1) := by decide +kernel
theorem dX6_put_18 : decode cX6_put 18 = .ok (.iload_n 2, 1) := by decide +kernel
theorem dX6_put_19 : decode cX6_put 19 = .ok (.iastore, 1) := by decide +kernel
theorem dX6_put_20 : decode cX6_put 20 = .ok (.return_, 1) := by decide +kernel
theorem dX6_become_0 : decode cX6_become 0 = .ok (.aload_n 1, 1) := by decide +kernel
theorem dX6_become_1 : decode cX6_become 1 = .ok (.getfield 15, 3) := by decide +kernel
theorem dX6_become_4 : decode cX6_become 4 = .ok (.iconst 0, 1) := by decide +kernel
theorem dX6_become_5 : decode cX6_become 5 = .ok (.aload_n 0, 1) := by decide +kernel
theorem dX6_become_6 : decode cX6_become 6 = .ok (.getfield 15, 3) := by decide +kernel
theorem dX6_become_9 : decode cX6_become 9 = .ok (.iconst 0, 1) := by decide +kernel
theorem dX6_become_10 : decode cX6_become 10 = .ok (.aload_n 0, 1) := by decide +kernel
theorem dX6_become_11 : decode cX6_become 11 = .ok (.getfield 15, 3) := by decide +kernel
theorem dX6_become_14 : decode cX6_become 14 = .ok (.arraylength, 1) := by decide +kernel
theorem dX6_become_15 : decode cX6_become 15 = .ok (.aload_n 1, 1) := by decide +kernel
theorem dX6_become_16 : decode cX6_become 16 = .ok (.getfield 15, 3) := by decide +kernel
theorem dX6_become_19 : decode cX6_become 19 = .ok (.arraylength, 1) := by decide +kernel
theorem dX6_become_20 : decode cX6_become 20 = .ok (.invokestatic 27, 3) := by decide +kernel
theorem dX6_become_23 : decode cX6_become 23 = .ok (.invokestatic 30, 3) := by decide +kernel
theorem dX6_become_26 : decode cX6_become 26 = .ok (.return_, 1) := by decide +kernel
theorem dX1_init_0 : decode cX1_init 0 = .ok (.aload_n 0, 1) := by decide +kernel
theorem dX1_init_1 : decode cX1_init 1 = .ok (.invokespecial 3, 3) := by decide +kernel
theorem dX1_init_4 : decode cX1_init 4 = .ok (.aload_n 0, 1) := by decide +kernel
theorem dX1_init_5 : decode cX1_init 5 = .ok (.new 9, 3) := by decide +kernel
theorem dX1_init_8 : decode cX1_init 8 = .ok (.dup, 1) := by decide +kernel
theorem dX1_init_9 : decode cX1_init 9 = .ok (.sipush 601, 3) := by decide +kernel
theorem dX1_init_12 : decode cX1_init 12 = .ok (.iconst (-1), 1) := by decide +kernel
theorem dX1_init_13 : decode cX1_init 13 = .ok (.invokespecial 11, 3) := by decide +kernel
theorem dX1_init_16 : decode cX1_init 16 = .ok (.putfield 14, 3) := by decide +kernel
theorem dX1_init_19 : decode cX1_init 19 = .ok (.aload_n 0, 1) := by decide +kernel
theorem dX1_init_20 : decode cX1_init 20 = .ok (.new 9, 3) := by decide +kernel
theorem dX1_init_23 : decode cX1_init 23 = .ok (.dup, 1) := by decide +kernel
theorem dX1_init_24 : decode cX1_init 24 = .ok (.sipush 601, 3) := by decide +kernel
theorem dX1_init_27 : decode cX1_init 27 = .ok (.iconst (-1), 1) := by decide +kernel
theorem dX1_init_28 : decode cX1_init 28 = .ok (.invokespecial 11, 3) := by decide +kernel
theorem dX1_init_31 : decode cX1_init 31 = .ok (.putfield 20, 3) := by decide +kernel
theorem dX1_init_34 : decode cX1_init 34 = .ok (.aload_n 0, 1) := by decide +kernel
theorem dX1_init_35 : decode cX1_init 35 = .ok (.new 9, 3) := by decide +kernel
theorem dX1_init_38 : decode cX1_init 38 = .ok (.dup, 1) := by decide +kernel
theorem dX1_init_39 : decode cX1_init 39 = .ok (.sipush 601, 3) := by decide +kernel
theorem dX1_init_42 : decode cX1_init 42 = .ok (.iconst (-1), 1) := by decide +kernel
theorem dX1_init_43 : decode cX1_init 43 = .ok (.invokespecial 11, 3) := by decide +kernel
theorem dX1_init_46 : decode cX1_init 46 = .ok (.putfield 23, 3) := by decide +kernel
theorem dX1_init_49 : decode cX1_init 49 = .ok (.aload_n 0, 1) := by decide +kernel
theorem dX1_init_50 : decode cX1_init 50 = .ok (.new 9, 3) := by decide +kernel
theorem dX1_init_53 : decode cX1_init 53 = .ok (.dup, 1) := by decide +kernel
theorem dX1_init_54 : decode cX1_init 54 = .ok (.sipush 601, 3) := by decide +kernel
theorem dX1_init_57 : decode cX1_init 57 = .ok (.iconst 0, 1) := by decide +kernel
theorem dX1_init_58 : decode cX1_init 58 = .ok (.invokespecial 11, 3) := by decide +kernel
theorem dX1_init_61 : decode cX1_init 61 = .ok (.putfield 26, 3) := by decide +kernel
theorem dX1_init_64 : decode cX1_init 64 = .ok (.aload_n 0, 1) := by decide +kernel
theorem dX1_init_65 : decode cX1_init 65 = .ok (.new 9, 3) := by decide +kernel
theorem dX1_init_68 : decode cX1_init 68 = .ok (.dup, 1) := by decide +kernel
theorem dX1_init_69 : decode cX1_init 69 = .ok (.sipush 601, 3) := by decide +kernel
theorem dX1_init_72 : decode cX1_init 72 = .ok (.iconst 0, 1) := by decide +kernel
theorem dX1_init_73 : decode cX1_init 73 = .ok (.invokespecial 11, 3) := by decide +kernel
theorem dX1_init_76 : decode cX1_init 76 = .ok (.putfield 29, 3) := by decide +kernel
theorem dX1_init_79 : decode cX1_init 79 = .ok (.aload_n 0, 1) := by decide +kernel
theorem dX1_init_80 : decode cX1_init 80 = .ok (.new 9, 3) := by decide +kernel
theorem dX1_init_83 : decode cX1_init 83 = .ok (.dup, 1) := by decide +kernel
theorem dX1_init_84 : decode cX1_init 84 = .ok (.sipush 601, 3) := by decide +kernel
theorem dX1_init_87 : decode cX1_init 87 = .ok (.iconst 0, 1) := by decide +kernel
theorem dX1_init_88 : decode cX1_init 88 = .ok (.invokespecial 11, 3) := by decide +kernel
theorem dX1_init_91 : decode cX1_init 91 = .ok (.putfield 32, 3) := by decide +kernel
theorem dX1_init_94 : decode cX1_init 94 = .ok (.aload_n 0, 1) := by decide +kernel
theorem dX1_init_95 : decode cX1_init 95 = .ok (.new 9, 3) := by decide +kernel
theorem dX1_init_98 : decode cX1_init 98 = .ok (.dup, 1) := by decide +kernel
theorem dX1_init_99 : decode cX1_init 99 = .ok (.sipush 601, 3) := by decide +kernel
theorem dX1_init_102 : decode cX1_init 102 = .ok (.iconst (-1), 1) := by decide +kernel
theorem dX1_init_103 : decode cX1_init 103 = .ok (.invokespecial 11, 3) := by decide +kernel
theorem dX1_init_106 : decode cX1_init 106 = .ok (.putfield 35, 3) := by decide +kernel
theorem dX1_init_109 : decode cX1_init 109 = .ok (.aload_n 0, 1) := by decide +kernel
theorem dX1_init_110 : decode cX1_init 110 = .ok (.new 9, 3) := by decide +kernel
theorem dX1_init_113 : decode cX1_init 113 = .ok (.dup, 1) := by decide +kernel
theorem dX1_init_114 : decode cX1_init 114 = .ok (.sipush 601, 3) := by decide +kernel
theorem dX1_init_117 : decode cX1_init 117 = .ok (.iconst 0, 1) := by decide +kernel
theorem dX1_init_118 : decode cX1_init 118 = .ok (.invokespecial 11, 3) := by decide +kernel
theorem dX1_init_121 : decode cX1_init 121 = .ok (.putfield 38, 3) := by decide +kernel
theorem dX1_init_124 : decode cX1_init 124 = .ok (.aload_n 0, 1) := by decide +kernel
theorem dX1_init_125 : decode cX1_init 125 = .ok (.new 9, 3) := by decide +kernel
theorem dX1_init_128 : decode cX1_init 128 = .ok (.dup, 1) := by decide +kernel
theorem dX1_init_129 : decode cX1_init 129 = .ok (.sipush 601, 3) := by decide +kernel
theorem dX1_init_132 : decode cX1_init 132 = .ok (.iconst 0, 1) := by decide +kernel
theorem dX1_init_133 : decode cX1_init 133 = .ok (.invokespecial 11, 3) := by decide +kernel
theorem dX1_init_136 : decode cX1_init 136 = .ok (.putfield 41, 3) := by decide +kernel
theorem dX1_init_139 : decode cX1_init 139 = .ok (.aload_n 0, 1) := by decide +kernel
theorem dX1_init_140 : decode cX1_init 140 = .ok (.new 9, 3) := by decide +kernel
theorem dX1_init_143 : decode cX1_init 143 = .ok (.dup, 1) := by decide +kernel
theorem dX1_init_144 : decode cX1_init 144 = .ok (.sipush 601, 3) := by decide +kernel
theorem dX1_init_147 : decode cX1_init 147 = .ok (.iconst 0, 1) := by decide +kernel
theorem dX1_init_148 : decode cX1_init 148 = .ok (.invokespecial 11, 3) := by decide +kernel
theorem dX1_init_151 : decode cX1_init 151 = .ok (.putfield 44, 3) := by decide +kernel
theorem dX1_init_154 : decode cX1_init 154 = .ok (.aload_n 0, 1) := by decide +kernel
theorem dX1_init_155 : decode cX1_init 155 = .ok (.new 9, 3) := by decide +kernel
theorem dX1_init_158 : decode cX1_init 158 = .ok (.dup, 1) := by decide +kernel
theorem dX1_init_159 : decode cX1_init 159 = .ok (.sipush 601, 3) := by decide +kernel
theorem dX1_init_162 : decode cX1_init 162 = .ok (.ldc 47, 2) := by decide +kernel
theorem dX1_init_164 : decode cX1_init 164 = .ok (.invokespecial 11, 3) := by decide +kernel
theorem dX1_init_167 : decode cX1_init 167 = .ok (.putfield 48, 3) := by decide +kernel
theorem dX1_init_170 : decode cX1_init 170 = .ok (.return_, 1) := by decide +kernel
theorem dX1_land_0 : decode cX1_land 0 = .ok (.aload_n 0, 1) := by decide +kernel
theorem dX1_land_1 : decode cX1_land 1 = .ok (.getfield 29, 3) := by decide +kernel
theorem dX1_land_4 : decode cX1_land 4 = .ok (.iload_n 1, 1) := by decide +kernel
theorem dX1_land_5 : decode cX1_land 5 = .ok (.aload_n 0, 1) := by decide +kernel
theorem dX1_land_6 : decode cX1_land 6 = .ok (.getfield 32, 3) := by decide +kernel
theorem dX1_land_9 : decode cX1_land 9 = .ok (.iload_n 1, 1) := by decide +kernel
theorem dX1_land_10 : decode cX1_land 10 = .ok (.invokevirtual 51, 3) := by decide +kernel
theorem dX1_land_13 : decode cX1_land 13 = .ok (.invokevirtual 55, 3) := by decide +kernel
theorem dX1_land_16 : decode cX1_land 16 = .ok (.aload_n 0, 1) := by decide +kernel
theorem dX1_land_17 : decode cX1_land 17 = .ok (.getfield 32, 3) := by decide +kernel
theorem dX1_land_20 : decode cX1_land 20 = .ok (.iload_n 1, 1) := by decide +kernel
theorem dX1_land_21 : decode cX1_land 21 = .ok (.iconst 0, 1) := by decide +kernel
theorem dX1_land_22 : decode cX1_land 22 = .ok (.invokevirtual 55, 3) := by decide +kernel
theorem dX1_land_25 : decode cX1_land 25 = .ok (.return_, 1) := by decide +kernel
theorem dX1_rootOf_0 : decode cX1_rootOf 0 = .ok (.iload_n 1, 1) := by decide +kernel
theorem dX1_rootOf_1 : decode cX1_rootOf 1 = .ok (.istore_n 2, 1) := by decide +kernel
theorem dX1_rootOf_2 : decode cX1_rootOf 2 = .ok (.iconst 0, 1) := by decide +kernel
theorem dX1_rootOf_3 : decode cX1_rootOf 3 = .ok (.istore_n 3, 1) := by decide +kernel
theorem dX1_rootOf_4 : decode cX1_rootOf 4 = .ok (.iload_n 3, 1) := by decide +kernel
theorem dX1_rootOf_5 : decode cX1_rootOf 5 = .ok (.sipush 601, 3) := by decide +kernel
theorem dX1_rootOf_8 : decode cX1_rootOf 8 = .ok (.if_icmp .ge 29, 3) := by decide +kernel
theorem dX1_rootOf_11 : decode cX1_rootOf 11 = .ok (.aload_n 0, 1) := by decide +kernel
theorem dX1_rootOf_12 : decode cX1_rootOf 12 = .ok (.getfield 26, 3) := by decide +kernel
theorem dX1_rootOf_15 : decode cX1_rootOf 15 = .ok (.iload_n 2, 1) := by decide +kernel
theorem dX1_rootOf_16 : decode cX1_rootOf 16 = .ok (.invokevirtual 51, 3) := by decide +kernel
theorem dX1_rootOf_19 : decode cX1_rootOf 19 = .ok (.ifCond .ne 18, 3) := by decide +kernel
theorem dX1_rootOf_22 : decode cX1_rootOf 22 = .ok (.aload_n 0, 1) := by decide +kernel
theorem dX1_rootOf_23 : decode cX1_rootOf 23 = .ok (.getfield 20, 3) := by decide +kernel
theorem dX1_rootOf_26 : decode cX1_rootOf 26 = .ok (.iload_n 2, 1) := by decide +kernel
theorem dX1_rootOf_27 : decode cX1_rootOf 27 = .ok (.invokevirtual 51, 3) := by decide +kernel
theorem dX1_rootOf_30 : decode cX1_rootOf 30 = .ok (.istore_n 2, 1) := by decide +kernel
theorem dX1_rootOf_31 : decode cX1_rootOf 31 = .ok (.iinc 3 1, 3) := by decide +kernel
theorem dX1_rootOf_34 : decode cX1_rootOf 34 = .ok (.goto (-30), 3) := by decide +kernel
theorem dX1_rootOf_37 : decode cX1_rootOf 37 = .ok (.iload_n 2, 1) := by decide +kernel
theorem dX1_rootOf_38 : decode cX1_rootOf 38 = .ok (.ireturn, 1) := by decide +kernel
theorem dX3_init_0 : decode cX3_init 0 = .ok (.aload_n 0, 1) := by decide +kernel
theorem dX3_init_1 : decode cX3_init 1 = .ok (.invokespecial 3, 3) := by decide +kernel
theorem dX3_init_4 : decode cX3_init 4 = .ok (.aload_n 0, 1) := by decide +kernel
theorem dX3_init_5 : decode cX3_init 5 = .ok (.new 9, 3) := by decide +kernel
theorem dX3_init_8 : decode cX3_init 8 = .ok (.dup, 1) := by decide +kernel
theorem dX3_init_9 : decode cX3_init 9 = .ok (.sipush 601, 3) := by decide +kernel
theorem dX3_init_12 : decode cX3_init 12 = .ok (.iconst (-1), 1) := by decide +kernel
theorem dX3_init_13 : decode cX3_init 13 = .ok (.invokespecial 11, 3) := by decide +kernel
theorem dX3_init_16 : decode cX3_init 16 = .ok (.putfield 14, 3) := by decide +kernel
theorem dX3_init_19 : decode cX3_init 19 = .ok (.aload_n 0, 1) := by decide +kernel
theorem dX3_init_20 : decode cX3_init 20 = .ok (.new 9, 3) := by decide +kernel
theorem dX3_init_23 : decode cX3_init 23 = .ok (.dup, 1) := by decide +kernel
theorem dX3_init_24 : decode cX3_init 24 = .ok (.sipush 601, 3) := by decide +kernel
theorem dX3_init_27 : decode cX3_init 27 = .ok (.iconst (-1), 1) := by decide +kernel
theorem dX3_init_28 : decode cX3_init 28 = .ok (.invokespecial 11, 3) := by decide +kernel
theorem dX3_init_31 : decode cX3_init 31 = .ok (.putfield 20, 3) := by decide +kernel
theorem dX3_init_34 : decode cX3_init 34 = .ok (.aload_n 0, 1) := by decide +kernel
theorem dX3_init_35 : decode cX3_init 35 = .ok (.new 9, 3) := by decide +kernel
theorem dX3_init_38 : decode cX3_init 38 = .ok (.dup, 1) := by decide +kernel
theorem dX3_init_39 : decode cX3_init 39 = .ok (.sipush 601, 3) := by decide +kernel
theorem dX3_init_42 : decode cX3_init 42 = .ok (.iconst 4, 1) := by decide +kernel
theorem dX3_init_43 : decode cX3_init 43 = .ok (.invokespecial 11, 3) := by decide +kernel
theorem dX3_init_46 : decode cX3_init 46 = .ok (.putfield 23, 3) := by decide +kernel
theorem dX3_init_49 : decode cX3_init 49 = .ok (.aload_n 0, 1) := by decide +kernel
theorem dX3_init_50 : decode cX3_init 50 = .ok (.new 9, 3) := by decide +kernel
theorem dX3_init_53 : decode cX3_init 53 = .ok (.dup, 1) := by decide +kernel
theorem dX3_init_54 : decode cX3_init 54 = .ok (.sipush 601, 3) := by decide +kernel
theorem dX3_init_57 : decode cX3_init 57 = .ok (.iconst (-1), 1) := by decide +kernel
theorem dX3_init_58 : decode cX3_init 58 = .ok (.invokespecial 11, 3) := by decide +kernel
theorem dX3_init_61 : decode cX3_init 61 = .ok (.putfield 26, 3) := by decide +kernel
theorem dX3_init_64 : decode cX3_init 64 = .ok (.aload_n 0, 1) := by decide +kernel
theorem dX3_init_65 : decode cX3_init 65 = .ok (.new 9, 3) := by decide +kernel
theorem dX3_init_68 : decode cX3_init 68 = .ok (.dup, 1) := by decide +kernel
theorem dX3_init_69 : decode cX3_init 69 = .ok (.sipush 601, 3) := by decide +kernel
theorem dX3_init_72 : decode cX3_init 72 = .ok (.iconst (-1), 1) := by decide +kernel
theorem dX3_init_73 : decode cX3_init 73 = .ok (.invokespecial 11, 3) := by decide +kernel
theorem dX3_init_76 : decode cX3_init 76 = .ok (.putfield 29, 3) := by decide +kernel
theorem dX3_init_79 : decode cX3_init 79 = .ok (.return_, 1) := by decide +kernel
theorem dX3_clear_0 : decode cX3_clear 0 = .ok (.aload_n 0, 1) := by decide +kernel
theorem dX3_clear_1 : decode cX3_clear 1 = .ok (.iconst 0, 1) := by decide +kernel
theorem dX3_clear_2 : decode cX3_clear 2 = .ok (.putfield 32, 3) := by decide +kernel
theorem dX3_clear_5 : decode cX3_clear 5 = .ok (.aload_n 0, 1) := by decide +kernel
theorem dX3_clear_6 : decode cX3_clear 6 = .ok (.iconst 0, 1) := by decide +kernel
theorem dX3_clear_7 : decode cX3_clear 7 = .ok (.putfield 36, 3) := by decide +kernel
theorem dX3_clear_10 : decode cX3_clear 10 = .ok (.return_, 1) := by decide +kernel
theorem dX3_makeFunction_0 : decode cX3_makeFunction 0 = .ok (.aload_n 0, 1) := by decide +kernel
theorem dX3_makeFunction_1 : decode cX3_makeFunction 1 = .ok (.getfield 14, 3) := by decide +kernel
theorem dX3_makeFunction_4 : decode cX3_makeFunction 4 = .ok (.aload_n 0, 1) := by decide +kernel
theorem dX3_makeFunction_5 : decode cX3_makeFunction 5 = .ok (.getfield 32, 3) := by decide +kernel
theorem dX3_makeFunction_8 : decode cX3_makeFunction 8 = .ok (.iload_n 1, 1) := by decide +kernel
theorem dX3_makeFunction_9 : decode cX3_makeFunction 9 = .ok (.invokevirtual 39, 3) := by decide +kernel
theorem dX3_makeFunction_12 : decode cX3_makeFunction 12 = .ok (.aload_n 0, 1) := by decide +kernel
theorem dX3_makeFunction_13 : decode cX3_makeFunction 13 = .ok (.dup, 1) := by decide +kernel
theorem dX3_makeFunction_14 : decode cX3_makeFunction 14 = .ok (.getfield 32, 3) := by decide +kernel
theorem dX3_makeFunction_17 : decode cX3_makeFunction 17 = .ok (.iconst 1, 1) := by decide +kernel
theorem dX3_makeFunction_18 : decode cX3_makeFunction 18 = .ok (.iadd, 1) := by decide +kernel
theorem dX3_makeFunction_19 : decode cX3_makeFunction 19 = .ok (.putfield 32, 3) := by decide +kernel
theorem dX3_makeFunction_22 : decode cX3_makeFunction 22 = .ok (.sipush 20000, 3) := by decide +kernel
theorem dX3_makeFunction_25 : decode cX3_makeFunction 25 = .ok (.aload_n 0, 1) := by decide +kernel
theorem dX3_makeFunction_26 : decode cX3_makeFunction 26 = .ok (.getfield 32, 3) := by decide +kernel
theorem dX3_makeFunction_29 : decode cX3_makeFunction 29 = .ok (.iadd, 1) := by decide +kernel
theorem dX3_makeFunction_30 : decode cX3_makeFunction 30 = .ok (.iconst 1, 1) := by decide +kernel
theorem dX3_makeFunction_31 : decode cX3_makeFunction 31 = .ok (.isub, 1) := by decide +kernel
theorem dX3_makeFunction_32 : decode cX3_makeFunction 32 = .ok (.ireturn, 1) := by decide +kernel
theorem dX3_makeGenerator_0 : decode cX3_makeGenerator 0 = .ok (.aload_n 0, 1) := by decide +kernel
theorem dX3_makeGenerator_1 : decode cX3_makeGenerator 1 = .ok (.getfield 20, 3) := by decide +kernel
theorem dX3_makeGenerator_4 : decode cX3_makeGenerator 4 = .ok (.aload_n 0, 1) := by decide +kernel
theorem dX3_makeGenerator_5 : decode cX3_makeGenerator 5 = .ok (.getfield 36, 3) := by decide +kernel
theorem dX3_makeGenerator_8 : decode cX3_makeGenerator 8 = .ok (.iload_n 1, 1) := by decide +kernel
theorem dX3_makeGenerator_9 : decode cX3_makeGenerator 9 = .ok (.invokevirtual 39, 3) := by decide +kernel
theorem dX3_makeGenerator_12 : decode cX3_makeGenerator 12 = .ok (.aload_n 0, 1) := by decide +kernel
theorem dX3_makeGenerator_13 : decode cX3_makeGenerator 13 = .ok (.getfield 23, 3) := by decide +kernel
theorem dX3_makeGenerator_16 : decode cX3_makeGenerator 16 = .ok (.aload_n 0, 1) := by decide +kernel
theorem dX3_makeGenerator_17 : decode cX3_makeGenerator 17 = .ok (.getfield 36, 3) := by decide +kernel
theorem dX3_makeGenerator_20 : decode cX3_makeGenerator 20 = .ok (.iconst 0, 1) := by decide +kernel
theorem dX3_makeGenerator_21 : decode cX3_makeGenerator 21 = .ok (.invokevirtual 39, 3) := by decide +kernel
theorem dX3_makeGenerator_24 : decode cX3_makeGenerator 24 = .ok (.aload_n 0, 1) := by decide +kernel
theorem dX3_makeGenerator_25 : decode cX3_makeGenerator 25 = .ok (.dup, 1) := by decide +kernel
theorem dX3_makeGenerator_26 : decode cX3_makeGenerator 26 = .ok (.getfield 36, 3) := by decide +kernel
theorem dX3_makeGenerator_29 : decode cX3_makeGenerator 29 = .ok (.iconst 1, 1) := by decide +kernel
theorem dX3_makeGenerator_30 : decode cX3_makeGenerator 30 = .ok (.iadd, 1) := by decide +kernel
theorem dX3_makeGenerator_31 : decode cX3_makeGenerator 31 = .ok (.putfield 36, 3) := by decide +kernel
theorem dX3_makeGenerator_34 : decode cX3_makeGenerator 34 = .ok (.sipush 30000, 3) := by decide +kernel
theorem dX3_makeGenerator_37 : decode cX3_makeGenerator 37 = .ok (.aload_n 0, 1) := by decide +kernel
theorem dX3_makeGenerator_38 : decode cX3_makeGenerator 38 = .ok (.getfield 36, 3) := by decide +kernel
theorem dX3_makeGenerator_41 : decode cX3_makeGenerator 41 = .ok (.iadd, 1) := by decide +kernel
theorem dX3_makeGenerator_42 : decode cX3_makeGenerator 42 = .ok (.iconst 1, 1) := by decide +kernel
theorem dX3_makeGenerator_43 : decode cX3_makeGenerator 43 = .ok (.isub, 1) := by decide +kernel
theorem dX3_makeGenerator_44 : decode cX3_makeGenerator 44 = .ok (.ireturn, 1) := by decide +kernel
theorem dX3_isFunction_0 : decode cX3_isFunction 0 = .ok (.iload_n 1, 1) := by decide +kernel
theorem dX3_isFunction_1 : decode cX3_isFunction 1 = .ok (.sipush 20000, 3) := by decide +kernel
theorem dX3_isFunction_4 : decode cX3_isFunction 4 = .ok (.if_icmp .lt 19, 3) := by decide +kernel
theorem dX3_isFunction_7 : decode cX3_isFunction 7 = .ok (.iload_n 1, 1) := by decide +kernel
theorem dX3_isFunction_8 : decode cX3_isFunction 8 = .ok (.sipush 20000, 3) := by decide +kernel
theorem dX3_isFunction_11 : decode cX3_isFunction 11 = .ok (.isub, 1) := by decide +kernel
theorem dX3_isFunction_12 : decode cX3_isFunction 12 = .ok (.aload_n 0, 1) := by decide +kernel
theorem dX3_isFunction_13 : decode cX3_isFunction 13 = .ok (.getfield 32, 3) := by decide +kernel
theorem dX3_isFunction_16 : decode cX3_isFunction 16 = .ok (.if_icmp .ge 7, 3) := by decide +kernel
theorem dX3_isFunction_19 : decode cX3_isFunction 19 = .ok (.iconst 1, 1) := by decide +kernel
theorem dX3_isFunction_20 : decode cX3_isFunction 20 = .ok (.goto 4, 3) := by decide +kernel
theorem dX3_isFunction_23 : decode cX3_isFunction 23 = .ok (.iconst 0, 1) := by decide +kernel
theorem dX3_isFunction_24 : decode cX3_isFunction 24 = .ok (.ireturn, 1) := by decide +kernel
theorem dX3_isGenerator_0 : decode cX3_isGenerator 0 = .ok (.iload_n 1, 1) := by decide +kernel
theorem dX3_isGenerator_1 : decode cX3_isGenerator 1 = .ok (.sipush 30000, 3) := by decide +kernel
theorem dX3_isGenerator_4 : decode cX3_isGenerator 4 = .ok (.if_icmp .lt 19, 3) := by decide +kernel
theorem dX3_isGenerator_7 : decode cX3_isGenerator 7 = .ok (.iload_n 1, 1) := by decide +kernel
theorem dX3_isGenerator_8 : decode cX3_isGenerator 8 = .ok (.sipush 30000, 3) := by decide +kernel
theorem dX3_isGenerator_11 : decode cX3_isGenerator 11 = .ok (.isub, 1) := by decide +kernel
theorem dX3_isGenerator_12 : decode cX3_isGenerator 12 = .ok (.aload_n 0, 1) := by decide +kernel
theorem dX3_isGenerator_13 : decode cX3_isGenerator 13 = .ok (.getfield 36, 3) := by decide +kernel
theorem dX3_isGenerator_16 : decode cX3_isGenerator 16 = .ok (.if_icmp .ge 7, 3) := by decide +kernel
theorem dX3_isGenerator_19 : decode cX3_isGenerator 19 = .ok (.iconst 1, 1) := by decide +kernel
theorem dX3_isGenerator_20 : decode cX3_isGenerator 20 = .ok (.goto 4, 3) := by decide +kernel
theorem dX3_isGenerator_23 : decode cX3_isGenerator 23 = .ok (.iconst 0, 1) := by decide +kernel
theorem dX3_isGenerator_24 : decode cX3_isGenerator 24 = .ok (.ireturn, 1) := by decide +kernel
theorem dX3_functionMaker_0 : decode cX3_functionMaker 0 = .ok (.aload_n 0, 1) := by decide +kernel
theorem dX3_functionMaker_1 : decode cX3_functionMaker 1 = .ok (.getfield 14, 3) := by decide +kernel
theorem dX3_functionMaker_4 : decode cX3_functionMaker 4 = .ok (.iload_n 1, 1) := by decide +kernel
theorem dX3_functionMaker_5 : decode cX3_functionMaker 5 = .ok (.sipush 20000, 3) := by decide +kernel
theorem dX3_functionMaker_8 : decode cX3_functionMaker 8 = .ok (.isub, 1) := by decide +kernel
theorem dX3_functionMaker_9 : decode cX3_functionMaker 9 = .ok (.invokevirtual 42, 3) := by decide +kernel
theorem dX3_functionMaker_12 : decode cX3_functionMaker 12 = .ok (.ireturn, 1) := by decide +kernel
theorem dX3_generatorMaker_0 : decode cX3_generatorMaker 0 = .ok (.aload_n 0, 1) := by decide +kernel
theorem dX3_generatorMaker_1 : decode cX3_generatorMaker 1 = .ok (.getfield 20, 3) := by decide +kernel
theorem dX3_generatorMaker_4 : decode cX3_generatorMaker 4 = .ok (.iload_n 1, 1) := by decide +kernel
theorem dX3_generatorMaker_5 : decode cX3_generatorMaker 5 = .ok (.invokevirtual 42, 3) := by decide +kernel
theorem dX3_generatorMaker_8 : decode cX3_generatorMaker 8 = .ok (.ireturn, 1) := by decide +kernel
theorem dX3_lowestResting_0 : decode cX3_lowestResting 0 = .ok (.iconst 0, 1) := by decide +kernel
theorem dX3_lowestResting_1 : decode cX3_lowestResting 1 = .ok (.istore_n 1, 1) := by decide +kernel
theorem dX3_lowestResting_2 : decode cX3_lowestResting 2 = .ok (.iload_n 1, 1) := by decide +kernel
theorem dX3_lowestResting_3 : decode cX3_lowestResting 3 = .ok (.aload_n 0, 1) := by decide +kernel
theorem dX3_lowestResting_4 : decode cX3_lowestResting 4 = .ok (.getfield 36, 3) := by decide +kernel
theorem dX3_lowestResting_7 : decode cX3_lowestResting 7 = .ok (.if_icmp .ge 23, 3) := by decide +kernel
theorem dX3_lowestResting_10 : decode cX3_lowestResting 10 = .ok (.aload_n 0, 1) := by decide +kernel
theorem dX3_lowestResting_11 : decode cX3_lowestResting 11 = .ok (.getfield 23, 3) := by decide +kernel
theorem dX3_lowestResting_14 : decode cX3_lowestResting 14 = .ok (.iload_n 1, 1) := by decide +kernel
theorem dX3_lowestResting_15 : decode cX3_lowestResting 15 = .ok (.invokevirtual 42, 3) := by decide +kernel
theorem dX3_lowestResting_18 : decode cX3_lowestResting 18 = .ok (.iconst 1, 1) := by decide +kernel
theorem dX3_lowestResting_19 : decode cX3_lowestResting 19 = .ok (.if_icmp .ne 5, 3) := by decide +kernel
theorem dX3_lowestResting_22 : decode cX3_lowestResting 22 = .ok (.iload_n 1, 1) := by decide +kernel
theorem dX3_lowestResting_23 : decode cX3_lowestResting 23 = .ok (.ireturn, 1) := by decide +kernel
theorem dX3_lowestResting_24 : decode cX3_lowestResting 24 = .ok (.iinc 1 1, 3) := by decide +kernel
theorem dX3_lowestResting_27 : decode cX3_lowestResting 27 = .ok (.goto (-25), 3) := by decide +kernel
theorem dX3_lowestResting_30 : decode cX3_lowestResting 30 = .ok (.iconst (-1), 1) := by decide +kernel
theorem dX3_lowestResting_31 : decode cX3_lowestResting 31 = .ok (.ireturn, 1) := by decide +kernel
theorem dX5_init_0 : decode cX5_init 0 = .ok (.aload_n 0, 1) := by decide +kernel
theorem dX5_init_1 : decode cX5_init 1 = .ok (.invokespecial 3, 3) := by decide +kernel
theorem dX5_init_4 : decode cX5_init 4 = .ok (.aload_n 0, 1) := by decide +kernel
theorem dX5_init_5 : decode cX5_init 5 = .ok (.ldc 9, 2) := by decide +kernel
theorem dX5_init_7 : decode cX5_init 7 = .ok (.putfield 10, 3) := by decide +kernel
theorem dX5_init_10 : decode cX5_init 10 = .ok (.aload_n 0, 1) := by decide +kernel
theorem dX5_init_11 : decode cX5_init 11 = .ok (.new 16, 3) := by decide +kernel
theorem dX5_init_14 : decode cX5_init 14 = .ok (.dup, 1) := by decide +kernel
theorem dX5_init_15 : decode cX5_init 15 = .ok (.bipush 13, 2) := by decide +kernel
theorem dX5_init_17 : decode cX5_init 17 = .ok (.iconst (-1), 1) := by decide +kernel
theorem dX5_init_18 : decode cX5_init 18 = .ok (.invokespecial 18, 3) := by decide +kernel
theorem dX5_init_21 : decode cX5_init 21 = .ok (.putfield 21, 3) := by decide +kernel
theorem dX5_init_24 : decode cX5_init 24 = .ok (.return_, 1) := by decide +kernel
theorem dX5_push_0 : decode cX5_push 0 = .ok (.aload_n 0, 1) := by decide +kernel
theorem dX5_push_1 : decode cX5_push 1 = .ok (.getfield 21, 3) := by decide +kernel
theorem dX5_push_4 : decode cX5_push 4 = .ok (.aload_n 0, 1) := by decide +kernel
theorem dX5_push_5 : decode cX5_push 5 = .ok (.getfield 25, 3) := by decide +kernel
theorem dX5_push_8 : decode cX5_push 8 = .ok (.iload_n 1, 1) := by decide +kernel
theorem dX5_push_9 : decode cX5_push 9 = .ok (.invokevirtual 28, 3) := by decide +kernel
theorem dX5_push_12 : decode cX5_push 12 = .ok (.aload_n 0, 1) := by decide +kernel
theorem dX5_push_13 : decode cX5_push 13 = .ok (.dup, 1) := by decide +kernel
theorem dX5_push_14 : decode cX5_push 14 = .ok (.getfield 25, 3) := by decide +kernel
theorem dX5_push_17 : decode cX5_push 17 = .ok (.iconst 1, 1) := by decide +kernel
theorem dX5_push_18 : decode cX5_push 18 = .ok (.iadd, 1) := by decide +kernel
theorem dX5_push_19 : decode cX5_push 19 = .ok (.putfield 25, 3) := by decide +kernel
theorem dX5_push_22 : decode cX5_push 22 = .ok (.return_, 1) := by decide +kernel
theorem dX7_init_0 : decode cX7_init 0 = .ok (.aload_n 0, 1) := by decide +kernel
theorem dX7_init_1 : decode cX7_init 1 = .ok (.invokespecial 3, 3) := by decide +kernel
theorem dX7_init_4 : decode cX7_init 4 = .ok (.aload_n 0, 1) := by decide +kernel
theorem dX7_init_5 : decode cX7_init 5 = .ok (.new 9, 3) := by decide +kernel
theorem dX7_init_8 : decode cX7_init 8 = .ok (.dup, 1) := by decide +kernel
theorem dX7_init_9 : decode cX7_init 9 = .ok (.sipush 1210, 3) := by decide +kernel
theorem dX7_init_12 : decode cX7_init 12 = .ok (.iconst (-1), 1) := by decide +kernel
theorem dX7_init_13 : decode cX7_init 13 = .ok (.invokespecial 11, 3) := by decide +kernel
theorem dX7_init_16 : decode cX7_init 16 = .ok (.putfield 14, 3) := by decide +kernel
theorem dX7_init_19 : decode cX7_init 19 = .ok (.aload_n 0, 1) := by decide +kernel
theorem dX7_init_20 : decode cX7_init 20 = .ok (.new 9, 3) := by decide +kernel
theorem dX7_init_23 : decode cX7_init 23 = .ok (.dup, 1) := by decide +kernel
theorem dX7_init_24 : decode cX7_init 24 = .ok (.sipush 9680, 3) := by decide +kernel
theorem dX7_init_27 : decode cX7_init 27 = .ok (.ldc 20, 2) := by decide +kernel
theorem dX7_init_29 : decode cX7_init 29 = .ok (.invokespecial 11, 3) := by decide +kernel
theorem dX7_init_32 : decode cX7_init 32 = .ok (.putfield 21, 3) := by decide +kernel
theorem dX7_init_35 : decode cX7_init 35 = .ok (.return_, 1) := by decide +kernel
theorem dX7_clear_0 : decode cX7_clear 0 = .ok (.aload_n 0, 1) := by decide +kernel
theorem dX7_clear_1 : decode cX7_clear 1 = .ok (.iconst 0, 1) := by decide +kernel
theorem dX7_clear_2 : decode cX7_clear 2 = .ok (.putfield 24, 3) := by decide +kernel
theorem dX7_clear_5 : decode cX7_clear 5 = .ok (.return_, 1) := by decide +kernel
theorem dX7_open_0 : decode cX7_open 0 = .ok (.aload_n 0, 1) := by decide +kernel
theorem dX7_open_1 : decode cX7_open 1 = .ok (.getfield 24, 3) := by decide +kernel
theorem dX7_open_4 : decode cX7_open 4 = .ok (.istore_n 2, 1) := by decide +kernel
theorem dX7_open_5 : decode cX7_open 5 = .ok (.aload_n 0, 1) := by decide +kernel
theorem dX7_open_6 : decode cX7_open 6 = .ok (.dup, 1) := by decide +kernel
theorem dX7_open_7 : decode cX7_open 7 = .ok (.getfield 24, 3) := by decide +kernel
theorem dX7_open_10 : decode cX7_open 10 = .ok (.iconst 1, 1) := by decide +kernel
theorem dX7_open_11 : decode cX7_open 11 = .ok (.iadd, 1) := by decide +kernel
theorem dX7_open_12 : decode cX7_open 12 = .ok (.putfield 24, 3) := by decide +kernel
theorem dX7_open_15 : decode cX7_open 15 = .ok (.aload_n 0, 1) := by decide +kernel
theorem dX7_open_16 : decode cX7_open 16 = .ok (.getfield 14, 3) := by decide +kernel
theorem dX7_open_19 : decode cX7_open 19 = .ok (.iload_n 2, 1) := by decide +kernel
theorem dX7_open_20 : decode cX7_open 20 = .ok (.iload_n 1, 1) := by decide +kernel
theorem dX7_open_21 : decode cX7_open 21 = .ok (.invokevirtual 28, 3) := by decide +kernel
theorem dX7_open_24 : decode cX7_open 24 = .ok (.iconst 0, 1) := by decide +kernel
theorem dX7_open_25 : decode cX7_open 25 = .ok (.istore_n 3, 1) := by decide +kernel
theorem dX7_open_26 : decode cX7_open 26 = .ok (.iload_n 3, 1) := by decide +kernel
theorem dX7_open_27 : decode cX7_open 27 = .ok (.bipush 8, 2) := by decide +kernel
theorem dX7_open_29 : decode cX7_open 29 = .ok (.if_icmp .ge 24, 3) := by decide +kernel
theorem dX7_open_32 : decode cX7_open 32 = .ok (.aload_n 0, 1) := by decide +kernel
theorem dX7_open_33 : decode cX7_open 33 = .ok (.getfield 21, 3) := by decide +kernel
theorem dX7_open_36 : decode cX7_open 36 = .ok (.iload_n 2, 1) := by decide +kernel
theorem dX7_open_37 : decode cX7_open 37 = .ok (.bipush 8, 2) := by decide +kernel
theorem dX7_open_39 : decode cX7_open 39 = .ok (.imul, 1) := by decide +kernel
theorem dX7_open_40 : decode cX7_open 40 = .ok (.iload_n 3, 1) := by decide +kernel
theorem dX7_open_41 : decode cX7_open 41 = .ok (.iadd, 1) := by decide +kernel
theorem dX7_open_42 : decode cX7_open 42 = .ok (.ldc 20, 2) := by decide +kernel
theorem dX7_open_44 : decode cX7_open 44 = .ok (.invokevirtual 28, 3) := by decide +kernel
theorem dX7_open_47 : decode cX7_open 47 = .ok (.iinc 3 1, 3) := by decide +kernel
theorem dX7_open_50 : decode cX7_open 50 = .ok (.goto (-24), 3) := by decide +kernel
theorem dX7_open_53 : decode cX7_open 53 = .ok (.iload_n 2, 1) := by decide +kernel
theorem dX7_open_54 : decode cX7_open 54 = .ok (.ireturn, 1) := by decide +kernel
theorem dX7_bind_0 : decode cX7_bind 0 = .ok (.aload_n 0, 1) := by decide +kernel
theorem dX7_bind_1 : decode cX7_bind 1 = .ok (.getfield 21, 3) := by decide +kernel
theorem dX7_bind_4 : decode cX7_bind 4 = .ok (.iload_n 1, 1) := by decide +kernel
theorem dX7_bind_5 : decode cX7_bind 5 = .ok (.bipush 8, 2) := by decide +kernel
theorem dX7_bind_7 : decode cX7_bind 7 = .ok (.imul, 1) := by decide +kernel
theorem dX7_bind_8 : decode cX7_bind 8 = .ok (.iload_n 2, 1) := by decide +kernel
theorem dX7_bind_9 : decode cX7_bind 9 = .ok (.iadd, 1) := by decide +kernel
theorem dX7_bind_10 : decode cX7_bind 10 = .ok (.iload_n 3, 1) := by decide +kernel
theorem dX7_bind_11 : decode cX7_bind 11 = .ok (.invokevirtual 28, 3) := by decide +kernel
theorem dX7_bind_14 : decode cX7_bind 14 = .ok (.return_, 1) := by decide +kernel
theorem dX7_holderOf_0 : decode cX7_holderOf 0 = .ok (.iload_n 1, 1) := by decide +kernel
theorem dX7_holderOf_1 : decode cX7_holderOf 1 = .ok (.istore_n 3, 1) := by decide +kernel
theorem dX7_holderOf_2 : decode cX7_holderOf 2 = .ok (.iconst 0, 1) := by decide +kernel
theorem dX7_holderOf_3 : decode cX7_holderOf 3 = .ok (.istore 4, 2) := by decide +kernel
theorem dX7_holderOf_5 : decode cX7_holderOf 5 = .ok (.iload 4, 2) := by decide +kernel
theorem dX7_holderOf_7 : decode cX7_holderOf 7 = .ok (.sipush 1210, 3) := by decide +kernel
theorem dX7_holderOf_10 : decode cX7_holderOf 10 = .ok (.if_icmp .ge 43, 3) := by decide +kernel
theorem dX7_holderOf_13 : decode cX7_holderOf 13 = .ok (.iload_n 3, 1) := by decide +kernel
theorem dX7_holderOf_14 : decode cX7_holderOf 14 = .ok (.iconst (-1), 1) := by decide +kernel
theorem dX7_holderOf_15 : decode cX7_holderOf 15 = .ok (.if_icmp .eq 38, 3) := by decide +kernel
theorem dX7_holderOf_18 : decode cX7_holderOf 18 = .ok (.aload_n 0, 1) := by decide +kernel
theorem dX7_holderOf_19 : decode cX7_holderOf 19 = .ok (.getfield 21, 3) := by decide +kernel
theorem dX7_holderOf_22 : decode cX7_holderOf 22 = .ok (.iload_n 3, 1) := by decide +kernel
theorem dX7_holderOf_23 : decode cX7_holderOf 23 = .ok (.bipush 8, 2) := by decide +kernel
theorem dX7_holderOf_25 : decode cX7_holderOf 25 = .ok (.imul, 1) := by decide +kernel
theorem dX7_holderOf_26 : decode cX7_holderOf 26 = .ok (.iload_n 2, 1) := by decide +kernel
theorem dX7_holderOf_27 : decode cX7_holderOf 27 = .ok (.iadd, 1) := by decide +kernel
theorem dX7_holderOf_28 : decode cX7_holderOf 28 = .ok (.invokevirtual 31, 3) := by decide +kernel
theorem dX7_holderOf_31 : decode cX7_holderOf 31 = .ok (.ldc 20, 2) := by decide +kernel
theorem dX7_holderOf_33 : decode cX7_holderOf 33 = .ok (.if_icmp .eq 5, 3) := by decide +kernel
theorem dX7_holderOf_36 : decode cX7_holderOf 36 = .ok (.iload_n 3, 1) := by decide +kernel
theorem dX7_holderOf_37 : decode cX7_holderOf 37 = .ok (.ireturn, 1) := by decide +kernel
theorem dX7_holderOf_38 : decode cX7_holderOf 38 = .ok (.aload_n 0, 1) := by decide +kernel
theorem dX7_holderOf_39 : decode cX7_holderOf 39 = .ok (.getfield 14, 3) := by decide +kernel
theorem dX7_holderOf_42 : decode cX7_holderOf 42 = .ok (.iload_n 3, 1) := by decide +kernel
theorem dX7_holderOf_43 : decode cX7_holderOf 43 = .ok (.invokevirtual 31, 3) := by decide +kernel
theorem dX7_holderOf_46 : decode cX7_holderOf 46 = .ok (.istore_n 3, 1) := by decide +kernel
theorem dX7_holderOf_47 : decode cX7_holderOf 47 = .ok (.iinc 4 1, 3) := by decide +kernel
theorem dX7_holderOf_50 : decode cX7_holderOf 50 = .ok (.goto (-45), 3) := by decide +kernel
theorem dX7_holderOf_53 : decode cX7_holderOf 53 = .ok (.iconst (-1), 1) := by decide +kernel
theorem dX7_holderOf_54 : decode cX7_holderOf 54 = .ok (.ireturn, 1) := by decide +kernel
theorem dX7_valueOf_0 : decode cX7_valueOf 0 = .ok (.aload_n 0, 1) := by decide +kernel
theorem dX7_valueOf_1 : decode cX7_valueOf 1 = .ok (.iload_n 1, 1) := by decide +kernel
theorem dX7_valueOf_2 : decode cX7_valueOf 2 = .ok (.iload_n 2, 1) := by decide +kernel
theorem dX7_valueOf_3 : decode cX7_valueOf 3 = .ok (.invokevirtual 35, 3) := by decide +kernel
theorem dX7_valueOf_6 : decode cX7_valueOf 6 = .ok (.istore_n 3, 1) := by decide +kernel
theorem dX7_valueOf_7 : decode cX7_valueOf 7 = .ok (.iload_n 3, 1) := by decide +kernel
theorem dX7_valueOf_8 : decode cX7_valueOf 8 = .ok (.iconst (-1), 1) := by decide +kernel
theorem dX7_valueOf_9 : decode cX7_valueOf 9 = .ok (.if_icmp .ne 8, 3) := by decide +kernel
theorem dX7_valueOf_12 : decode cX7_valueOf 12 = .ok (.ldc 20, 2) := by decide +kernel
theorem dX7_valueOf_14 : decode cX7_valueOf 14 = .ok (.goto 16, 3) := by decide +kernel
theorem dX7_valueOf_17 : decode cX7_valueOf 17 = .ok (.aload_n 0, 1) := by decide +kernel
theorem dX7_valueOf_18 : decode cX7_valueOf 18 = .ok (.getfield 21, 3) := by decide +kernel
theorem dX7_valueOf_21 : decode cX7_valueOf 21 = .ok (.iload_n 3, 1) := by decide +kernel
theorem dX7_valueOf_22 : decode cX7_valueOf 22 = .ok (.bipush 8, 2) := by decide +kernel
theorem dX7_valueOf_24 : decode cX7_valueOf 24 = .ok (.imul, 1) := by decide +kernel
theorem dX7_valueOf_25 : decode cX7_valueOf 25 = .ok (.iload_n 2, 1) := by decide +kernel
theorem dX7_valueOf_26 : decode cX7_valueOf 26 = .ok (.iadd, 1) := by decide +kernel
theorem dX7_valueOf_27 : decode cX7_valueOf 27 = .ok (.invokevirtual 31, 3) := by decide +kernel
theorem dX7_valueOf_30 : decode cX7_valueOf 30 = .ok (.ireturn, 1) := by decide +kernel
theorem dX8_init_0 : decode cX8_init 0 = .ok (.aload_n 0, 1) := by decide +kernel
theorem dX8_init_1 : decode cX8_init 1 = .ok (.invokespecial 3, 3) := by decide +kernel
theorem dX8_init_4 : decode cX8_init 4 = .ok (.aload_n 0, 1) := by decide +kernel
theorem dX8_init_5 : decode cX8_init 5 = .ok (.new 9, 3) := by decide +kernel
theorem dX8_init_8 : decode cX8_init 8 = .ok (.dup, 1) := by decide +kernel
theorem dX8_init_9 : decode cX8_init 9 = .ok (.bipush 40, 2) := by decide +kernel
theorem dX8_init_11 : decode cX8_init 11 = .ok (.iconst 0, 1) := by decide +kernel
theorem dX8_init_12 : decode cX8_init 12 = .ok (.invokespecial 11, 3) := by decide +kernel
theorem dX8_init_15 : decode cX8_init 15 = .ok (.putfield 14, 3) := by decide +kernel
theorem dX8_init_18 : decode cX8_init 18 = .ok (.aload_n 0, 1) := by decide +kernel
theorem dX8_init_19 : decode cX8_init 19 = .ok (.new 9, 3) := by decide +kernel
theorem dX8_init_22 : decode cX8_init 22 = .ok (.dup, 1) := by decide +kernel
theorem dX8_init_23 : decode cX8_init 23 = .ok (.iconst 4, 1) := by decide +kernel
theorem dX8_init_24 : decode cX8_init 24 = .ok (.iconst (-1), 1) := by decide +kernel
theorem dX8_init_25 : decode cX8_init 25 = .ok (.invokespecial 11, 3) := by decide +kernel
theorem dX8_init_28 : decode cX8_init 28 = .ok (.putfield 20, 3) := by decide +kernel
theorem dX8_init_31 : decode cX8_init 31 = .ok (.aload_n 0, 1) := by decide +kernel
theorem dX8_init_32 : decode cX8_init 32 = .ok (.getfield 20, 3) := by decide +kernel
theorem dX8_init_35 : decode cX8_init 35 = .ok (.iconst 0, 1) := by decide +kernel
theorem dX8_init_36 : decode cX8_init 36 = .ok (.iconst 0, 1) := by decide +kernel
theorem dX8_init_37 : decode cX8_init 37 = .ok (.invokevirtual 23, 3) := by decide +kernel
theorem dX8_init_40 : decode cX8_init 40 = .ok (.return_, 1) := by decide +kernel
theorem dX8_become_0 : decode cX8_become 0 = .ok (.aload_n 0, 1) := by decide +kernel
theorem dX8_become_1 : decode cX8_become 1 = .ok (.getfield 14, 3) := by decide +kernel
theorem dX8_become_4 : decode cX8_become 4 = .ok (.aload_n 1, 1) := by decide +kernel
theorem dX8_become_5 : decode cX8_become 5 = .ok (.getfield 14, 3) := by decide +kernel
theorem dX8_become_8 : decode cX8_become 8 = .ok (.invokevirtual 26, 3) := by decide +kernel
theorem dX8_become_11 : decode cX8_become 11 = .ok (.aload_n 0, 1) := by decide +kernel
theorem dX8_become_12 : decode cX8_become 12 = .ok (.getfield 20, 3) := by decide +kernel
theorem dX8_become_15 : decode cX8_become 15 = .ok (.aload_n 1, 1) := by decide +kernel
theorem dX8_become_16 : decode cX8_become 16 = .ok (.getfield 20, 3) := by decide +kernel
theorem dX8_become_19 : decode cX8_become 19 = .ok (.invokevirtual 26, 3) := by decide +kernel
theorem dX8_become_22 : decode cX8_become 22 = .ok (.aload_n 0, 1) := by decide +kernel
theorem dX8_become_23 : decode cX8_become 23 = .ok (.aload_n 1, 1) := by decide +kernel
theorem dX8_become_24 : decode cX8_become 24 = .ok (.getfield 30, 3) := by decide +kernel
theorem dX8_become_27 : decode cX8_become 27 = .ok (.putfield 30, 3) := by decide +kernel
theorem dX8_become_30 : decode cX8_become 30 = .ok (.aload_n 0, 1) := by decide +kernel
theorem dX8_become_31 : decode cX8_become 31 = .ok (.aload_n 1, 1) := by decide +kernel
theorem dX8_become_32 : decode cX8_become 32 = .ok (.getfield 34, 3) := by decide +kernel
theorem dX8_become_35 : decode cX8_become 35 = .ok (.putfield 34, 3) := by decide +kernel
theorem dX8_become_38 : decode cX8_become 38 = .ok (.return_, 1) := by decide +kernel
theorem dX8_append_0 : decode cX8_append 0 = .ok (.aload_n 0, 1) := by decide +kernel
theorem dX8_append_1 : decode cX8_append 1 = .ok (.getfield 14, 3) := by decide +kernel
theorem dX8_append_4 : decode cX8_append 4 = .ok (.aload_n 0, 1) := by decide +kernel
theorem dX8_append_5 : decode cX8_append 5 = .ok (.getfield 30, 3) := by decide +kernel
theorem dX8_append_8 : decode cX8_append 8 = .ok (.iload_n 1, 1) := by decide +kernel
theorem dX8_append_9 : decode cX8_append 9 = .ok (.invokevirtual 23, 3) := by decide +kernel
theorem dX8_append_12 : decode cX8_append 12 = .ok (.aload_n 0, 1) := by decide +kernel
theorem dX8_append_13 : decode cX8_append 13 = .ok (.dup, 1) := by decide +kernel
theorem dX8_append_14 : decode cX8_append 14 = .ok (.getfield 30, 3) := by decide +kernel
theorem dX8_append_17 : decode cX8_append 17 = .ok (.iconst 1, 1) := by decide +kernel
theorem dX8_append_18 : decode cX8_append 18 = .ok (.iadd, 1) := by decide +kernel
theorem dX8_append_19 : decode cX8_append 19 = .ok (.putfield 30, 3) := by decide +kernel
theorem dX8_append_22 : decode cX8_append 22 = .ok (.return_, 1) := by decide +kernel
theorem dX8_hasPlace_0 : decode cX8_hasPlace 0 = .ok (.iload_n 1, 1) := by decide +kernel
theorem dX8_hasPlace_1 : decode cX8_hasPlace 1 = .ok (.ifCond .lt 15, 3) := by decide +kernel
theorem dX8_hasPlace_4 : decode cX8_hasPlace 4 = .ok (.iload_n 1, 1) := by decide +kernel
theorem dX8_hasPlace_5 : decode cX8_hasPlace 5 = .ok (.aload_n 0, 1) := by decide +kernel
theorem dX8_hasPlace_6 : decode cX8_hasPlace 6 = .ok (.getfield 30, 3) := by decide +kernel
theorem dX8_hasPlace_9 : decode cX8_hasPlace 9 = .ok (.if_icmp .gt 7, 3) := by decide +kernel
theorem dX8_hasPlace_12 : decode cX8_hasPlace 12 = .ok (.iconst 1, 1) := by decide +kernel
theorem dX8_hasPlace_13 : decode cX8_hasPlace 13 = .ok (.goto 4, 3) := by decide +kernel
theorem dX8_hasPlace_16 : decode cX8_hasPlace 16 = .ok (.iconst 0, 1) := by decide +kernel
theorem dX8_hasPlace_17 : decode cX8_hasPlace 17 = .ok (.ireturn, 1) := by decide +kernel
theorem dX8_activePlace_0 : decode cX8_activePlace 0 = .ok (.aload_n 0, 1) := by decide +kernel
theorem dX8_activePlace_1 : decode cX8_activePlace 1 = .ok (.getfield 20, 3) := by decide +kernel
theorem dX8_activePlace_4 : decode cX8_activePlace 4 = .ok (.aload_n 0, 1) := by decide +kernel
theorem dX8_activePlace_5 : decode cX8_activePlace 5 = .ok (.getfield 34, 3) := by decide +kernel
theorem dX8_activePlace_8 : decode cX8_activePlace 8 = .ok (.invokevirtual 37, 3) := by decide +kernel
theorem dX8_activePlace_11 : decode cX8_activePlace 11 = .ok (.ireturn, 1) := by decide +kernel
theorem dX8_insertLetter_0 : decode cX8_insertLetter 0 = .ok (.aload_n 0, 1) := by decide +kernel
theorem dX8_insertLetter_1 : decode cX8_insertLetter 1 = .ok (.invokevirtual 41, 3) := by decide +kernel
theorem dX8_insertLetter_4 : decode cX8_insertLetter 4 = .ok (.istore_n 2, 1) := by decide +kernel
theorem dX8_insertLetter_5 : decode cX8_insertLetter 5 = .ok (.aload_n 0, 1) := by decide +kernel
theorem dX8_insertLetter_6 : decode cX8_insertLetter 6 = .ok (.getfield 30, 3) := by decide +kernel
theorem dX8_insertLetter_9 : decode cX8_insertLetter 9 = .ok (.istore_n 3, 1) := by decide +kernel
theorem dX8_insertLetter_10 : decode cX8_insertLetter 10 = .ok (.iload_n 3, 1) := by decide +kernel
theorem dX8_insertLetter_11 : decode cX8_insertLetter 11 = .ok (.iload_n 2, 1) := by decide +kernel
theorem dX8_insertLetter_12 : decode cX8_insertLetter 12 = .ok (.if_icmp .le 27, 3) := by decide +kernel
theorem dX8_insertLetter_15 : decode cX8_insertLetter 15 = .ok (.aload_n 0, 1) := by decide +kernel
theorem dX8_insertLetter_16 : decode cX8_insertLetter 16 = .ok (.getfield 14, 3) := by decide +kernel
theorem dX8_insertLetter_19 : decode cX8_insertLetter 19 = .ok (.iload_n 3, 1) := by decide +kernel
theorem dX8_insertLetter_20 : decode cX8_insertLetter 20 = .ok (.aload_n 0, 1) := by decide +kernel
theorem dX8_insertLetter_21 : decode cX8_insertLetter 21 = .ok (.getfield 14, 3) := by decide +kernel
theorem dX8_insertLetter_24 : decode cX8_insertLetter 24 = .ok (.iload_n 3, 1) := by decide +kernel
theorem dX8_insertLetter_25 : decode cX8_insertLetter 25 = .ok (.iconst 1, 1) := by decide +kernel
theorem dX8_insertLetter_26 : decode cX8_insertLetter 26 = .ok (.isub, 1) := by decide +kernel
theorem dX8_insertLetter_27 : decode cX8_insertLetter 27 = .ok (.invokevirtual 37, 3) := by decide +kernel
theorem dX8_insertLetter_30 : decode cX8_insertLetter 30 = .ok (.invokevirtual 23, 3) := by decide +kernel
theorem dX8_insertLetter_33 : decode cX8_insertLetter 33 = .ok (.iinc 3 (-1), 3) := by decide +kernel
theorem dX8_insertLetter_36 : decode cX8_insertLetter 36 = .ok (.goto (-26), 3) := by decide +kernel
theorem dX8_insertLetter_39 : decode cX8_insertLetter 39 = .ok (.aload_n 0, 1) := by decide +kernel
theorem dX8_insertLetter_40 : decode cX8_insertLetter 40 = .ok (.getfield 14, 3) := by decide +kernel
theorem dX8_insertLetter_43 : decode cX8_insertLetter 43 = .ok (.iload_n 2, 1) := by decide +kernel
theorem dX8_insertLetter_44 : decode cX8_insertLetter 44 = .ok (.iload_n 1, 1) := by decide +kernel
theorem dX8_insertLetter_45 : decode cX8_insertLetter 45 = .ok (.invokevirtual 23, 3) := by decide +kernel
theorem dX8_insertLetter_48 : decode cX8_insertLetter 48 = .ok (.aload_n 0, 1) := by decide +kernel
theorem dX8_insertLetter_49 : decode cX8_insertLetter 49 = .ok (.dup, 1) := by decide +kernel
theorem dX8_insertLetter_50 : decode cX8_insertLetter 50 = .ok (.getfield 30, 3) := by decide +kernel
theorem dX8_insertLetter_53 : decode cX8_insertLetter 53 = .ok (.iconst 1, 1) := by decide +kernel
theorem dX8_insertLetter_54 : decode cX8_insertLetter 54 = .ok (.iadd, 1) := by decide +kernel
theorem dX8_insertLetter_55 : decode cX8_insertLetter 55 = .ok (.putfield 30, 3) := by decide +kernel
theorem dX8_insertLetter_58 : decode cX8_insertLetter 58 = .ok (.iconst 0, 1) := by decide +kernel
theorem dX8_insertLetter_59 : decode cX8_insertLetter 59 = .ok (.istore_n 3, 1) := by decide +kernel
theorem dX8_insertLetter_60 : decode cX8_insertLetter 60 = .ok (.iload_n 3, 1) := by decide +kernel
theorem dX8_insertLetter_61 : decode cX8_insertLetter 61 = .ok (.iconst 4, 1) := by decide +kernel
theorem dX8_insertLetter_62 : decode cX8_insertLetter 62 = .ok (.if_icmp .ge 45, 3) := by decide +kernel
theorem dX8_insertLetter_65 : decode cX8_insertLetter 65 = .ok (.aload_n 0, 1) := by decide +kernel
theorem dX8_insertLetter_66 : decode cX8_insertLetter 66 = .ok (.getfield 20, 3) := by decide +kernel
theorem dX8_insertLetter_69 : decode cX8_insertLetter 69 = .ok (.iload_n 3, 1) := by decide +kernel
theorem dX8_insertLetter_70 : decode cX8_insertLetter 70 = .ok (.invokevirtual 37, 3) := by decide +kernel
theorem dX8_insertLetter_73 : decode cX8_insertLetter 73 = .ok (.istore 4, 2) := by decide +kernel
theorem dX8_insertLetter_75 : decode cX8_insertLetter 75 = .ok (.iload_n 3, 1) := by decide +kernel
theorem dX8_insertLetter_76 : decode cX8_insertLetter 76 = .ok (.aload_n 0, 1) := by decide +kernel
theorem dX8_insertLetter_77 : decode cX8_insertLetter 77 = .ok (.getfield 34, 3) := by decide +kernel
theorem dX8_insertLetter_80 : decode cX8_insertLetter 80 = .ok (.if_icmp .eq 9, 3) := by decide +kernel
theorem dX8_insertLetter_83 : decode cX8_insertLetter 83 = .ok (.iload 4, 2) := by decide +kernel
theorem dX8_insertLetter_85 : decode cX8_insertLetter 85 = .ok (.iload_n 2, 1) := by decide +kernel
theorem dX8_insertLetter_86 : decode cX8_insertLetter 86 = .ok (.if_icmp .le 15, 3) := by decide +kernel
theorem dX8_insertLetter_89 : decode cX8_insertLetter 89 = .ok (.aload_n 0, 1) := by decide +kernel
theorem dX8_insertLetter_90 : decode cX8_insertLetter 90 = .ok (.getfield 20, 3) := by decide +kernel
theorem dX8_insertLetter_93 : decode cX8_insertLetter 93 = .ok (.iload_n 3, 1) := by decide +kernel
theorem dX8_insertLetter_94 : decode cX8_insertLetter 94 = .ok (.iload 4, 2) := by decide +kernel
theorem dX8_insertLetter_96 : decode cX8_insertLetter 96 = .ok (.iconst 1, 1) := by decide +kernel
theorem dX8_insertLetter_97 : decode cX8_insertLetter 97 = .ok (.iadd, 1) := by decide +kernel
theorem dX8_insertLetter_98 : decode cX8_insertLetter 98 = .ok (.invokevirtual 23, 3) := by decide +kernel
theorem dX8_insertLetter_101 : decode cX8_insertLetter 101 = .ok (.iinc 3 1, 3) := by decide +kernel
theorem dX8_insertLetter_104 : decode cX8_insertLetter 104 = .ok (.goto (-44), 3) := by decide +kernel
theorem dX8_insertLetter_107 : decode cX8_insertLetter 107 = .ok (.return_, 1) := by decide +kernel
theorem dX8_eraseLetter_0 : decode cX8_eraseLetter 0 = .ok (.aload_n 0, 1) := by decide +kernel
theorem dX8_eraseLetter_1 : decode cX8_eraseLetter 1 = .ok (.invokevirtual 41, 3) := by decide +kernel
theorem dX8_eraseLetter_4 : decode cX8_eraseLetter 4 = .ok (.istore_n 1, 1) := by decide +kernel
theorem dX8_eraseLetter_5 : decode cX8_eraseLetter 5 = .ok (.aload_n 0, 1) := by decide +kernel
theorem dX8_eraseLetter_6 : decode cX8_eraseLetter 6 = .ok (.getfield 14, 3) := by decide +kernel
theorem dX8_eraseLetter_9 : decode cX8_eraseLetter 9 = .ok (.iload_n 1, 1) := by decide +kernel
theorem dX8_eraseLetter_10 : decode cX8_eraseLetter 10 = .ok (.iconst 1, 1) := by decide +kernel
theorem dX8_eraseLetter_11 : decode cX8_eraseLetter 11 = .ok (.isub, 1) := by decide +kernel
theorem dX8_eraseLetter_12 : decode cX8_eraseLetter 12 = .ok (.invokevirtual 37, 3) := by decide +kernel
theorem dX8_eraseLetter_15 : decode cX8_eraseLetter 15 = .ok (.istore_n 2, 1) := by decide +kernel
theorem dX8_eraseLetter_16 : decode cX8_eraseLetter 16 = .ok (.iload_n 1, 1) := by decide +kernel
theorem dX8_eraseLetter_17 : decode cX8_eraseLetter 17 = .ok (.istore_n 3, 1) := by decide +kernel
theorem dX8_eraseLetter_18 : decode cX8_eraseLetter 18 = .ok (.iload_n 3, 1) := by decide +kernel
theorem dX8_eraseLetter_19 : decode cX8_eraseLetter 19 = .ok (.aload_n 0, 1) := by decide +kernel
theorem dX8_eraseLetter_20 : decode cX8_eraseLetter 20 = .ok (.getfield 30, 3) := by decide +kernel
theorem dX8_eraseLetter_23 : decode cX8_eraseLetter 23 = .ok (.if_icmp .ge 27, 3) := by decide +kernel
theorem dX8_eraseLetter_26 : decode cX8_eraseLetter 26 = .ok (.aload_n 0, 1) := by decide +kernel
theorem dX8_eraseLetter_27 : decode cX8_eraseLetter 27 = .ok (.getfield 14, 3) := by decide +kernel
theorem dX8_eraseLetter_30 : decode cX8_eraseLetter 30 = .ok (.iload_n 3, 1) := by decide +kernel
theorem dX8_eraseLetter_31 : decode cX8_eraseLetter 31 = .ok (.iconst 1, 1) := by decide +kernel
theorem dX8_eraseLetter_32 : decode cX8_eraseLetter 32 = .ok (.isub, 1) := by decide +kernel
theorem dX8_eraseLetter_33 : decode cX8_eraseLetter 33 = .ok (.aload_n 0, 1) := by decide +kernel
theorem dX8_eraseLetter_34 : decode cX8_eraseLetter 34 = .ok (.getfield 14, 3) := by decide +kernel
theorem dX8_eraseLetter_37 : decode cX8_eraseLetter 37 = .ok (.iload_n 3, 1) := by decide +kernel
theorem dX8_eraseLetter_38 : decode cX8_eraseLetter 38 = .ok (.invokevirtual 37, 3) := by decide +kernel
theorem dX8_eraseLetter_41 : decode cX8_eraseLetter 41 = .ok (.invokevirtual 23, 3) := by decide +kernel
theorem dX8_eraseLetter_44 : decode cX8_eraseLetter 44 = .ok (.iinc 3 1, 3) := by decide +kernel
theorem dX8_eraseLetter_47 : decode cX8_eraseLetter 47 = .ok (.goto (-29), 3) := by decide +kernel
theorem dX8_eraseLetter_50 : decode cX8_eraseLetter 50 = .ok (.aload_n 0, 1) := by decide +kernel
theorem dX8_eraseLetter_51 : decode cX8_eraseLetter 51 = .ok (.dup, 1) := by decide +kernel
theorem dX8_eraseLetter_52 : decode cX8_eraseLetter 52 = .ok (.getfield 30, 3) := by decide +kernel
theorem dX8_eraseLetter_55 : decode cX8_eraseLetter 55 = .ok (.iconst 1, 1) := by decide +kernel
theorem dX8_eraseLetter_56 : decode cX8_eraseLetter 56 = .ok (.isub, 1) := by decide +kernel
theorem dX8_eraseLetter_57 : decode cX8_eraseLetter 57 = .ok (.putfield 30, 3) := by decide +kernel
theorem dX8_eraseLetter_60 : decode cX8_eraseLetter 60 = .ok (.iconst 0, 1) := by decide +kernel
theorem dX8_eraseLetter_61 : decode cX8_eraseLetter 61 = .ok (.istore_n 3, 1) := by decide +kernel
theorem dX8_eraseLetter_62 : decode cX8_eraseLetter 62 = .ok (.iload_n 3, 1) := by decide +kernel
theorem dX8_eraseLetter_63 : decode cX8_eraseLetter 63 = .ok (.iconst 4, 1) := by decide +kernel
theorem dX8_eraseLetter_64 : decode cX8_eraseLetter 64 = .ok (.if_icmp .ge 66, 3) := by decide +kernel
theorem dX8_eraseLetter_67 : decode cX8_eraseLetter 67 = .ok (.aload_n 0, 1) := by decide +kernel
theorem dX8_eraseLetter_68 : decode cX8_eraseLetter 68 = .ok (.getfield 20, 3) := by decide +kernel
theorem dX8_eraseLetter_71 : decode cX8_eraseLetter 71 = .ok (.iload_n 3, 1) := by decide +kernel
theorem dX8_eraseLetter_72 : decode cX8_eraseLetter 72 = .ok (.invokevirtual 37, 3) := by decide +kernel
theorem dX8_eraseLetter_75 : decode cX8_eraseLetter 75 = .ok (.istore 4, 2) := by decide +kernel
theorem dX8_eraseLetter_77 : decode cX8_eraseLetter 77 = .ok (.iload 4, 2) := by decide +kernel
theorem dX8_eraseLetter_79 : decode cX8_eraseLetter 79 = .ok (.iload_n 1, 1) := by decide +kernel
theorem dX8_eraseLetter_80 : decode cX8_eraseLetter 80 = .ok (.if_icmp .lt 10, 3) := by decide +kernel
theorem dX8_eraseLetter_83 : decode cX8_eraseLetter 83 = .ok (.iload 4, 2) := by decide +kernel
theorem dX8_eraseLetter_85 : decode cX8_eraseLetter 85 = .ok (.iconst 1, 1) := by decide +kernel
theorem dX8_eraseLetter_86 : decode cX8_eraseLetter 86 = .ok (.isub, 1) := by decide +kernel
theorem dX8_eraseLetter_87 : decode cX8_eraseLetter 87 = .ok (.goto 5, 3) := by decide +kernel
theorem dX8_eraseLetter_90 : decode cX8_eraseLetter 90 = .ok (.iload 4, 2) := by decide +kernel
theorem dX8_eraseLetter_92 : decode cX8_eraseLetter 92 = .ok (.istore 5, 2) := by decide +kernel
theorem dX8_eraseLetter_94 : decode cX8_eraseLetter 94 = .ok (.aload_n 0, 1) := by decide +kernel
theorem dX8_eraseLetter_95 : decode cX8_eraseLetter 95 = .ok (.getfield 20, 3) := by decide +kernel
theorem dX8_eraseLetter_98 : decode cX8_eraseLetter 98 = .ok (.iload_n 3, 1) := by decide +kernel
theorem dX8_eraseLetter_99 : decode cX8_eraseLetter 99 = .ok (.iload_n 3, 1) := by decide +kernel
theorem dX8_eraseLetter_100 : decode cX8_eraseLetter 100 = .ok (.aload_n 0, 1) := by decide +kernel
theorem dX8_eraseLetter_101 : decode cX8_eraseLetter 101 = .ok (.getfield 34, 3) := by decide +kernel
theorem dX8_eraseLetter_104 : decode cX8_eraseLetter 104 = .ok (.if_icmp .eq 15, 3) := by decide +kernel
theorem dX8_eraseLetter_107 : decode cX8_eraseLetter 107 = .ok (.iload 5, 2) := by decide +kernel
theorem dX8_eraseLetter_109 : decode cX8_eraseLetter 109 = .ok (.iload_n 1, 1) := by decide +kernel
theorem dX8_eraseLetter_110 : decode cX8_eraseLetter 110 = .ok (.iconst 1, 1) := by decide +kernel
theorem dX8_eraseLetter_111 : decode cX8_eraseLetter 111 = .ok (.isub, 1) := by decide +kernel
theorem dX8_eraseLetter_112 : decode cX8_eraseLetter 112 = .ok (.if_icmp .ne 7, 3) := by decide +kernel
theorem dX8_eraseLetter_115 : decode cX8_eraseLetter 115 = .ok (.iconst (-1), 1) := by decide +kernel
theorem dX8_eraseLetter_116 : decode cX8_eraseLetter 116 = .ok (.goto 5, 3) := by decide +kernel
theorem dX8_eraseLetter_119 : decode cX8_eraseLetter 119 = .ok (.iload 5, 2) := by decide +kernel
theorem dX8_eraseLetter_121 : decode cX8_eraseLetter 121 = .ok (.invokevirtual 23, 3) := by decide +kernel
theorem dX8_eraseLetter_124 : decode cX8_eraseLetter 124 = .ok (.iinc 3 1, 3) := by decide +kernel
theorem dX8_eraseLetter_127 : decode cX8_eraseLetter 127 = .ok (.goto (-65), 3) := by decide +kernel
theorem dX8_eraseLetter_130 : decode cX8_eraseLetter 130 = .ok (.iload_n 2, 1) := by decide +kernel
theorem dX8_eraseLetter_131 : decode cX8_eraseLetter 131 = .ok (.ireturn, 1) := by decide +kernel
theorem dX8_freeCursor_0 : decode cX8_freeCursor 0 = .ok (.iconst 0, 1) := by decide +kernel
theorem dX8_freeCursor_1 : decode cX8_freeCursor 1 = .ok (.istore_n 1, 1) := by decide +kernel
theorem dX8_freeCursor_2 : decode cX8_freeCursor 2 = .ok (.iload_n 1, 1) := by decide +kernel
theorem dX8_freeCursor_3 : decode cX8_freeCursor 3 = .ok (.iconst 4, 1) := by decide +kernel
theorem dX8_freeCursor_4 : decode cX8_freeCursor 4 = .ok (.if_icmp .ge 23, 3) := by decide +kernel
theorem dX8_freeCursor_7 : decode cX8_freeCursor 7 = .ok (.aload_n 0, 1) := by decide +kernel
theorem dX8_freeCursor_8 : decode cX8_freeCursor 8 = .ok (.getfield 20, 3) := by decide +kernel
theorem dX8_freeCursor_11 : decode cX8_freeCursor 11 = .ok (.iload_n 1, 1) := by decide +kernel
theorem dX8_freeCursor_12 : decode cX8_freeCursor 12 = .ok (.invokevirtual 37, 3) := by decide +kernel
theorem dX8_freeCursor_15 : decode cX8_freeCursor 15 = .ok (.iconst (-1), 1) := by decide +kernel
theorem dX8_freeCursor_16 : decode cX8_freeCursor 16 = .ok (.if_icmp .ne 5, 3) := by decide +kernel
theorem dX8_freeCursor_19 : decode cX8_freeCursor 19 = .ok (.iload_n 1, 1) := by decide +kernel
theorem dX8_freeCursor_20 : decode cX8_freeCursor 20 = .ok (.ireturn, 1) := by decide +kernel
theorem dX8_freeCursor_21 : decode cX8_freeCursor 21 = .ok (.iinc 1 1, 3) := by decide +kernel
theorem dX8_freeCursor_24 : decode cX8_freeCursor 24 = .ok (.goto (-22), 3) := by decide +kernel
theorem dX8_freeCursor_27 : decode cX8_freeCursor 27 = .ok (.iconst (-1), 1) := by decide +kernel
theorem dX8_freeCursor_28 : decode cX8_freeCursor 28 = .ok (.ireturn, 1) := by decide +kernel
theorem dX8_packedOrder_0 : decode cX8_packedOrder 0 = .ok (.iconst 0, 1) := by decide +kernel
theorem dX8_packedOrder_1 : decode cX8_packedOrder 1 = .ok (.istore_n 1, 1) := by decide +kernel
theorem dX8_packedOrder_2 : decode cX8_packedOrder 2 = .ok (.iconst 0, 1) := by decide +kernel
theorem dX8_packedOrder_3 : decode cX8_packedOrder 3 = .ok (.istore_n 2, 1) := by decide +kernel
theorem dX8_packedOrder_4 : decode cX8_packedOrder 4 = .ok (.iconst 0, 1) := by decide +kernel
theorem dX8_packedOrder_5 : decode cX8_packedOrder 5 = .ok (.istore_n 3, 1) := by decide +kernel
theorem dX8_packedOrder_6 : decode cX8_packedOrder 6 = .ok (.iload_n 3, 1) := by decide +kernel
theorem dX8_packedOrder_7 : decode cX8_packedOrder 7 = .ok (.aload_n 0, 1) := by decide +kernel
theorem dX8_packedOrder_8 : decode cX8_packedOrder 8 = .ok (.getfield 30, 3) := by decide +kernel
theorem dX8_packedOrder_11 : decode cX8_packedOrder 11 = .ok (.if_icmp .gt 49, 3) := by decide +kernel
theorem dX8_packedOrder_14 : decode cX8_packedOrder 14 = .ok (.iconst 0, 1) := by decide +kernel
theorem dX8_packedOrder_15 : decode cX8_packedOrder 15 = .ok (.istore 4, 2) := by decide +kernel
theorem dX8_packedOrder_17 : decode cX8_packedOrder 17 = .ok (.iload 4, 2) := by decide +kernel
theorem dX8_packedOrder_19 : decode cX8_packedOrder 19 = .ok (.iconst 4, 1) := by decide +kernel
theorem dX8_packedOrder_20 : decode cX8_packedOrder 20 = .ok (.if_icmp .ge 34, 3) := by decide +kernel
theorem dX8_packedOrder_23 : decode cX8_packedOrder 23 = .ok (.aload_n 0, 1) := by decide +kernel
theorem dX8_packedOrder_24 : decode cX8_packedOrder 24 = .ok (.getfield 20, 3) := by decide +kernel
theorem dX8_packedOrder_27 : decode cX8_packedOrder 27 = .ok (.iload 4, 2) := by decide +kernel
theorem dX8_packedOrder_29 : decode cX8_packedOrder 29 = .ok (.invokevirtual 37, 3) := by decide +kernel
theorem dX8_packedOrder_32 : decode cX8_packedOrder 32 = .ok (.iload_n 3, 1) := by decide +kernel
theorem dX8_packedOrder_33 : decode cX8_packedOrder 33 = .ok (.if_icmp .ne 15, 3) := by decide +kernel
theorem dX8_packedOrder_36 : decode cX8_packedOrder 36 = .ok (.iload_n 1, 1) := by decide +kernel
theorem dX8_packedOrder_37 : decode cX8_packedOrder 37 = .ok (.iload 4, 2) := by decide +kernel
theorem dX8_packedOrder_39 : decode cX8_packedOrder 39 = .ok (.iconst 1, 1) := by decide +kernel
theorem dX8_packedOrder_40 : decode cX8_packedOrder 40 = .ok (.iadd, 1) := by decide +kernel
theorem dX8_packedOrder_41 : decode cX8_packedOrder 41 = .ok (.iload_n 2, 1) := by decide +kernel
theorem dX8_packedOrder_42 : decode cX8_packedOrder 42 = .ok (.ishl, 1) := by decide +kernel
theorem dX8_packedOrder_43 : decode cX8_packedOrder 43 = .ok (.ior, 1) := by decide +kernel
theorem dX8_packedOrder_44 : decode cX8_packedOrder 44 = .ok (.istore_n 1, 1) := by decide +kernel
theorem dX8_packedOrder_45 : decode cX8_packedOrder 45 = .ok (.iinc 2 3, 3) := by decide +kernel
theorem dX8_packedOrder_48 : decode cX8_packedOrder 48 = .ok (.iinc 4 1, 3) := by decide +kernel
theorem dX8_packedOrder_51 : decode cX8_packedOrder 51 = .ok (.goto (-34), 3) := by decide +kernel
theorem dX8_packedOrder_54 : decode cX8_packedOrder 54 = .ok (.iinc 3 1, 3) := by decide +kernel
theorem dX8_packedOrder_57 : decode cX8_packedOrder 57 = .ok (.goto (-51), 3) := by decide +kernel
theorem dX8_packedOrder_60 : decode cX8_packedOrder 60 = .ok (.iload_n 1, 1) := by decide +kernel
theorem dX8_packedOrder_61 : decode cX8_packedOrder 61 = .ok (.ireturn, 1) := by decide +kernel
theorem dX8_chooseAgain_0 : decode cX8_chooseAgain 0 = .ok (.aload_n 0, 1) := by decide +kernel
theorem dX8_chooseAgain_1 : decode cX8_chooseAgain 1 = .ok (.getfield 20, 3) := by decide +kernel
theorem dX8_chooseAgain_4 : decode cX8_chooseAgain 4 = .ok (.iload_n 1, 1) := by decide +kernel
theorem dX8_chooseAgain_5 : decode cX8_chooseAgain 5 = .ok (.invokevirtual 37, 3) := by decide +kernel
theorem dX8_chooseAgain_8 : decode cX8_chooseAgain 8 = .ok (.iconst (-1), 1) := by decide +kernel
theorem dX8_chooseAgain_9 : decode cX8_chooseAgain 9 = .ok (.if_icmp .eq 9, 3) := by decide +kernel
theorem dX8_chooseAgain_12 : decode cX8_chooseAgain 12 = .ok (.aload_n 0, 1) := by decide +kernel
theorem dX8_chooseAgain_13 : decode cX8_chooseAgain 13 = .ok (.iload_n 1, 1) := by decide +kernel
theorem dX8_chooseAgain_14 : decode cX8_chooseAgain 14 = .ok (.putfield 34, 3) := by decide +kernel
theorem dX8_chooseAgain_17 : decode cX8_chooseAgain 17 = .ok (.return_, 1) := by decide +kernel
theorem dX8_chooseAgain_18 : decode cX8_chooseAgain 18 = .ok (.iconst 3, 1) := by decide +kernel
theorem dX8_chooseAgain_19 : decode cX8_chooseAgain 19 = .ok (.istore_n 2, 1) := by decide +kernel
theorem dX8_chooseAgain_20 : decode cX8_chooseAgain 20 = .ok (.iload_n 2, 1) := by decide +kernel
theorem dX8_chooseAgain_21 : decode cX8_chooseAgain 21 = .ok (.ifCond .lt 26, 3) := by decide +kernel
theorem dX8_chooseAgain_24 : decode cX8_chooseAgain 24 = .ok (.aload_n 0, 1) := by decide +kernel
theorem dX8_chooseAgain_25 : decode cX8_chooseAgain 25 = .ok (.getfield 20, 3) := by decide +kernel
theorem dX8_chooseAgain_28 : decode cX8_chooseAgain 28 = .ok (.iload_n 2, 1) := by decide +kernel
theorem dX8_chooseAgain_29 : decode cX8_chooseAgain 29 = .ok (.invokevirtual 37, 3) := by decide +kernel
theorem dX8_chooseAgain_32 : decode cX8_chooseAgain 32 = .ok (.iconst (-1), 1) := by decide +kernel
theorem dX8_chooseAgain_33 : decode cX8_chooseAgain 33 = .ok (.if_icmp .eq 8, 3) := by decide +kernel
theorem dX8_chooseAgain_36 : decode cX8_chooseAgain 36 = .ok (.aload_n 0, 1) := by decide +kernel
theorem dX8_chooseAgain_37 : decode cX8_chooseAgain 37 = .ok (.iload_n 2, 1) := by decide +kernel
theorem dX8_chooseAgain_38 : decode cX8_chooseAgain 38 = .ok (.putfield 34, 3) := by decide +kernel
theorem dX8_chooseAgain_41 : decode cX8_chooseAgain 41 = .ok (.iinc 2 (-1), 3) := by decide +kernel
theorem dX8_chooseAgain_44 : decode cX8_chooseAgain 44 = .ok (.goto (-24), 3) := by decide +kernel
theorem dX8_chooseAgain_47 : decode cX8_chooseAgain 47 = .ok (.return_, 1) := by decide +kernel
theorem dX9_init_0 : decode cX9_init 0 = .ok (.aload_n 0, 1) := by decide +kernel
theorem dX9_init_1 : decode cX9_init 1 = .ok (.invokespecial 3, 3) := by decide +kernel
theorem dX9_init_4 : decode cX9_init 4 = .ok (.aload_n 0, 1) := by decide +kernel
theorem dX9_init_5 : decode cX9_init 5 = .ok (.new 9, 3) := by decide +kernel
theorem dX9_init_8 : decode cX9_init 8 = .ok (.dup, 1) := by decide +kernel
theorem dX9_init_9 : decode cX9_init 9 = .ok (.invokespecial 11, 3) := by decide +kernel
theorem dX9_init_12 : decode cX9_init 12 = .ok (.putfield 12, 3) := by decide +kernel
theorem dX9_init_15 : decode cX9_init 15 = .ok (.aload_n 0, 1) := by decide +kernel
theorem dX9_init_16 : decode cX9_init 16 = .ok (.new 9, 3) := by decide +kernel
theorem dX9_init_19 : decode cX9_init 19 = .ok (.dup, 1) := by decide +kernel
theorem dX9_init_20 : decode cX9_init 20 = .ok (.invokespecial 11, 3) := by decide +kernel
theorem dX9_init_23 : decode cX9_init 23 = .ok (.putfield 18, 3) := by decide +kernel
theorem dX9_init_26 : decode cX9_init 26 = .ok (.aload_n 0, 1) := by decide +kernel
theorem dX9_init_27 : decode cX9_init 27 = .ok (.new 21, 3) := by decide +kernel
theorem dX9_init_30 : decode cX9_init 30 = .ok (.dup, 1) := by decide +kernel
theorem dX9_init_31 : decode cX9_init 31 = .ok (.iconst 4, 1) := by decide +kernel
theorem dX9_init_32 : decode cX9_init 32 = .ok (.iconst 0, 1) := by decide +kernel
theorem dX9_init_33 : decode cX9_init 33 = .ok (.invokespecial 23, 3) := by decide +kernel
theorem dX9_init_36 : decode cX9_init 36 = .ok (.putfield 26, 3) := by decide +kernel
theorem dX9_init_39 : decode cX9_init 39 = .ok (.aload_n 0, 1) := by decide +kernel
theorem dX9_init_40 : decode cX9_init 40 = .ok (.new 21, 3) := by decide +kernel
theorem dX9_init_43 : decode cX9_init 43 = .ok (.dup, 1) := by decide +kernel
theorem dX9_init_44 : decode cX9_init 44 = .ok (.iconst 4, 1) := by decide +kernel
theorem dX9_init_45 : decode cX9_init 45 = .ok (.iconst 0, 1) := by decide +kernel
theorem dX9_init_46 : decode cX9_init 46 = .ok (.invokespecial 23, 3) := by decide +kernel
theorem dX9_init_49 : decode cX9_init 49 = .ok (.putfield 30, 3) := by decide +kernel
theorem dX9_init_52 : decode cX9_init 52 = .ok (.aload_n 0, 1) := by decide +kernel
theorem dX9_init_53 : decode cX9_init 53 = .ok (.new 21, 3) := by decide +kernel
theorem dX9_init_56 : decode cX9_init 56 = .ok (.dup, 1) := by decide +kernel
theorem dX9_init_57 : decode cX9_init 57 = .ok (.bipush 6, 2) := by decide +kernel
theorem dX9_init_59 : decode cX9_init 59 = .ok (.iconst (-1), 1) := by decide +kernel
theorem dX9_init_60 : decode cX9_init 60 = .ok (.invokespecial 23, 3) := by decide +kernel
theorem dX9_init_63 : decode cX9_init 63 = .ok (.putfield 33, 3) := by decide +kernel
theorem dX9_init_66 : decode cX9_init 66 = .ok (.aload_n 0, 1) := by decide +kernel
theorem dX9_init_67 : decode cX9_init 67 = .ok (.new 21, 3) := by decide +kernel
theorem dX9_init_70 : decode cX9_init 70 = .ok (.dup, 1) := by decide +kernel
theorem dX9_init_71 : decode cX9_init 71 = .ok (.bipush 6, 2) := by decide +kernel
theorem dX9_init_73 : decode cX9_init 73 = .ok (.iconst 0, 1) := by decide +kernel
theorem dX9_init_74 : decode cX9_init 74 = .ok (.invokespecial 23, 3) := by decide +kernel
theorem dX9_init_77 : decode cX9_init 77 = .ok (.putfield 36, 3) := by decide +kernel
theorem dX9_init_80 : decode cX9_init 80 = .ok (.aload_n 0, 1) := by decide +kernel
theorem dX9_init_81 : decode cX9_init 81 = .ok (.new 21, 3) := by decide +kernel
theorem dX9_init_84 : decode cX9_init 84 = .ok (.dup, 1) := by decide +kernel
theorem dX9_init_85 : decode cX9_init 85 = .ok (.bipush 6, 2) := by decide +kernel
theorem dX9_init_87 : decode cX9_init 87 = .ok (.iconst (-1), 1) := by decide +kernel
theorem dX9_init_88 : decode cX9_init 88 = .ok (.invokespecial 23, 3) := by decide +kernel
theorem dX9_init_91 : decode cX9_init 91 = .ok (.putfield 39, 3) := by decide +kernel
theorem dX9_init_94 : decode cX9_init 94 = .ok (.aload_n 0, 1) := by decide +kernel
theorem dX9_init_95 : decode cX9_init 95 = .ok (.iconst (-1), 1) := by decide +kernel
theorem dX9_init_96 : decode cX9_init 96 = .ok (.putfield 42, 3) := by decide +kernel
theorem dX9_init_99 : decode cX9_init 99 = .ok (.return_, 1) := by decide +kernel
theorem dX9_textOf_0 : decode cX9_textOf 0 = .ok (.iload_n 1, 1) := by decide +kernel
theorem dX9_textOf_1 : decode cX9_textOf 1 = .ok (.ifCond .ne 10, 3) := by decide +kernel
theorem dX9_textOf_4 : decode cX9_textOf 4 = .ok (.aload_n 0, 1) := by decide +kernel
theorem dX9_textOf_5 : decode cX9_textOf 5 = .ok (.getfield 12, 3) := by decide +kernel
theorem dX9_textOf_8 : decode cX9_textOf 8 = .ok (.goto 7, 3) := by decide +kernel
theorem dX9_textOf_11 : decode cX9_textOf 11 = .ok (.aload_n 0, 1) := by decide +kernel
theorem dX9_textOf_12 : decode cX9_textOf 12 = .ok (.getfield 18, 3) := by decide +kernel
theorem dX9_textOf_15 : decode cX9_textOf 15 = .ok (.areturn, 1) := by decide +kernel
theorem dX9_become_0 : decode cX9_become 0 = .ok (.aload_n 0, 1) := by decide +kernel
theorem dX9_become_1 : decode cX9_become 1 = .ok (.aload_n 1, 1) := by decide +kernel
theorem dX9_become_2 : decode cX9_become 2 = .ok (.invokevirtual 46, 3) := by decide +kernel
theorem dX9_become_5 : decode cX9_become 5 = .ok (.aload_n 0, 1) := by decide +kernel
theorem dX9_become_6 : decode cX9_become 6 = .ok (.getfield 30, 3) := by decide +kernel
theorem dX9_become_9 : decode cX9_become 9 = .ok (.aload_n 1, 1) := by decide +kernel
theorem dX9_become_10 : decode cX9_become 10 = .ok (.getfield 30, 3) := by decide +kernel
theorem dX9_become_13 : decode cX9_become 13 = .ok (.invokevirtual 50, 3) := by decide +kernel
theorem dX9_become_16 : decode cX9_become 16 = .ok (.return_, 1) := by decide +kernel
theorem dX9_becomeButRegisters_0 : decode cX9_becomeButRegisters 0 = .ok (.aload_n 0, 1) := by decide +kernel
theorem dX9_becomeButRegisters_1 : decode cX9_becomeButRegisters 1 = .ok (.getfield 12, 3) := by decide +kernel
theorem dX9_becomeButRegisters_4 : decode cX9_becomeButRegisters 4 = .ok (.aload_n 1, 1) := by decide +kernel
theorem dX9_becomeButRegisters_5 : decode cX9_becomeButRegisters 5 = .ok (.getfield 12, 3) := by decide +kernel
theorem dX9_becomeButRegisters_8 : decode cX9_becomeButRegisters 8 = .ok (.invokevirtual 54, 3) := by decide +kernel
theorem dX9_becomeButRegisters_11 : decode cX9_becomeButRegisters 11 = .ok (.aload_n 0, 1) := by decide +kernel
theorem dX9_becomeButRegisters_12 : decode cX9_becomeButRegisters 12 = .ok (.getfield 18, 3) := by decide +kernel
theorem dX9_becomeButRegisters_15 : decode cX9_becomeButRegisters 15 = .ok (.aload_n 1, 1) := by decide +kernel
theorem dX9_becomeButRegisters_16 : decode cX9_becomeButRegisters 16 = .ok (.getfield 18, 3) := by decide +kernel
theorem dX9_becomeButRegisters_19 : decode cX9_becomeButRegisters 19 = .ok (.invokevirtual 54, 3) := by decide +kernel
theorem dX9_becomeButRegisters_22 : decode cX9_becomeButRegisters 22 = .ok (.aload_n 0, 1) := by decide +kernel
theorem dX9_becomeButRegisters_23 : decode cX9_becomeButRegisters 23 = .ok (.getfield 26, 3) := by decide +kernel
theorem dX9_becomeButRegisters_26 : decode cX9_becomeButRegisters 26 = .ok (.aload_n 1, 1) := by decide +kernel
theorem dX9_becomeButRegisters_27 : decode cX9_becomeButRegisters 27 = .ok (.getfield 26, 3) := by decide +kernel
theorem dX9_becomeButRegisters_30 : decode cX9_becomeButRegisters 30 = .ok (.invokevirtual 50, 3) := by decide +kernel
theorem dX9_becomeButRegisters_33 : decode cX9_becomeButRegisters 33 = .ok (.aload_n 0, 1) := by decide +kernel
theorem dX9_becomeButRegisters_34 : decode cX9_becomeButRegisters 34 = .ok (.getfield 33, 3) := by decide +kernel
theorem dX9_becomeButRegisters_37 : decode cX9_becomeButRegisters 37 = .ok (.aload_n 1, 1) := by decide +kernel
theorem dX9_becomeButRegisters_38 : decode cX9_becomeButRegisters 38 = .ok (.getfield 33, 3) := by decide +kernel
theorem dX9_becomeButRegisters_41 : decode cX9_becomeButRegisters 41 = .ok (.invokevirtual 50, 3) := by decide +kernel
theorem dX9_becomeButRegisters_44 : decode cX9_becomeButRegisters 44 = .ok (.aload_n 0, 1) := by decide +kernel
theorem dX9_becomeButRegisters_45 : decode cX9_becomeButRegisters 45 = .ok (.aload_n 1, 1) := by decide +kernel
theorem dX9_becomeButRegisters_46 : decode cX9_becomeButRegisters 46 = .ok (.getfield 57, 3) := by decide +kernel
theorem dX9_becomeButRegisters_49 : decode cX9_becomeButRegisters 49 = .ok (.putfield 57, 3) := by decide +kernel
theorem dX9_becomeButRegisters_52 : decode cX9_becomeButRegisters 52 = .ok (.aload_n 0, 1) := by decide +kernel
theorem dX9_becomeButRegisters_53 : decode cX9_becomeButRegisters 53 = .ok (.aload_n 1, 1) := by decide +kernel
theorem dX9_becomeButRegisters_54 : decode cX9_becomeButRegisters 54 = .ok (.getfield 42, 3) := by decide +kernel
theorem dX9_becomeButRegisters_57 : decode cX9_becomeButRegisters 57 = .ok (.putfield 42, 3) := by decide +kernel
theorem dX9_becomeButRegisters_60 : decode cX9_becomeButRegisters 60 = .ok (.return_, 1) := by decide +kernel
theorem dX4_init_0 : decode cX4_init 0 = .ok (.aload_n 0, 1) := by decide +kernel
theorem dX4_init_1 : decode cX4_init 1 = .ok (.invokespecial 3, 3) := by decide +kernel
theorem dX4_init_4 : decode cX4_init 4 = .ok (.aload_n 0, 1) := by decide +kernel
theorem dX4_init_5 : decode cX4_init 5 = .ok (.new 9, 3) := by decide +kernel
theorem dX4_init_8 : decode cX4_init 8 = .ok (.dup, 1) := by decide +kernel
theorem dX4_init_9 : decode cX4_init 9 = .ok (.bipush 120, 2) := by decide +kernel
theorem dX4_init_11 : decode cX4_init 11 = .ok (.iconst (-1), 1) := by decide +kernel
theorem dX4_init_12 : decode cX4_init 12 = .ok (.invokespecial 11, 3) := by decide +kernel
theorem dX4_init_15 : decode cX4_init 15 = .ok (.putfield 14, 3) := by decide +kernel
theorem dX4_init_18 : decode cX4_init 18 = .ok (.aload_n 0, 1) := by decide +kernel
theorem dX4_init_19 : decode cX4_init 19 = .ok (.new 9, 3) := by decide +kernel
theorem dX4_init_22 : decode cX4_init 22 = .ok (.dup, 1) := by decide +kernel
theorem dX4_init_23 : decode cX4_init 23 = .ok (.bipush 120, 2) := by decide +kernel
theorem dX4_init_25 : decode cX4_init 25 = .ok (.iconst (-1), 1) := by decide +kernel
theorem dX4_init_26 : decode cX4_init 26 = .ok (.invokespecial 11, 3) := by decide +kernel
theorem dX4_init_29 : decode cX4_init 29 = .ok (.putfield 20, 3) := by decide +kernel
theorem dX4_init_32 : decode cX4_init 32 = .ok (.aload_n 0, 1) := by decide +kernel
theorem dX4_init_33 : decode cX4_init 33 = .ok (.new 9, 3) := by decide +kernel
theorem dX4_init_36 : decode cX4_init 36 = .ok (.dup, 1) := by decide +kernel
theorem dX4_init_37 : decode cX4_init 37 = .ok (.bipush 120, 2) := by decide +kernel
theorem dX4_init_39 : decode cX4_init 39 = .ok (.iconst (-1), 1) := by decide +kernel
theorem dX4_init_40 : decode cX4_init 40 = .ok (.invokespecial 11, 3) := by decide +kernel
theorem dX4_init_43 : decode cX4_init 43 = .ok (.putfield 23, 3) := by decide +kernel
theorem dX4_init_46 : decode cX4_init 46 = .ok (.aload_n 0, 1) := by decide +kernel
theorem dX4_init_47 : decode cX4_init 47 = .ok (.new 9, 3) := by decide +kernel
theorem dX4_init_50 : decode cX4_init 50 = .ok (.dup, 1) := by decide +kernel
theorem dX4_init_51 : decode cX4_init 51 = .ok (.bipush 120, 2) := by decide +kernel
theorem dX4_init_53 : decode cX4_init 53 = .ok (.iconst 0, 1) := by decide +kernel
theorem dX4_init_54 : decode cX4_init 54 = .ok (.invokespecial 11, 3) := by decide +kernel
theorem dX4_init_57 : decode cX4_init 57 = .ok (.putfield 26, 3) := by decide +kernel
theorem dX4_init_60 : decode cX4_init 60 = .ok (.aload_n 0, 1) := by decide +kernel
theorem dX4_init_61 : decode cX4_init 61 = .ok (.new 9, 3) := by decide +kernel
theorem dX4_init_64 : decode cX4_init 64 = .ok (.dup, 1) := by decide +kernel
theorem dX4_init_65 : decode cX4_init 65 = .ok (.bipush 120, 2) := by decide +kernel
theorem dX4_init_67 : decode cX4_init 67 = .ok (.iconst 0, 1) := by decide +kernel
theorem dX4_init_68 : decode cX4_init 68 = .ok (.invokespecial 11, 3) := by decide +kernel
theorem dX4_init_71 : decode cX4_init 71 = .ok (.putfield 29, 3) := by decide +kernel
theorem dX4_init_74 : decode cX4_init 74 = .ok (.aload_n 0, 1) := by decide +kernel
theorem dX4_init_75 : decode cX4_init 75 = .ok (.new 9, 3) := by decide +kernel
theorem dX4_init_78 : decode cX4_init 78 = .ok (.dup, 1) := by decide +kernel
theorem dX4_init_79 : decode cX4_init 79 = .ok (.bipush 120, 2) := by decide +kernel
theorem dX4_init_81 : decode cX4_init 81 = .ok (.iconst 0, 1) := by decide +kernel
theorem dX4_init_82 : decode cX4_init 82 = .ok (.invokespecial 11, 3) := by decide +kernel
theorem dX4_init_85 : decode cX4_init 85 = .ok (.putfield 32, 3) := by decide +kernel
theorem dX4_init_88 : decode cX4_init 88 = .ok (.aload_n 0, 1) := by decide +kernel
theorem dX4_init_89 : decode cX4_init 89 = .ok (.new 35, 3) := by decide +kernel
theorem dX4_init_92 : decode cX4_init 92 = .ok (.dup, 1) := by decide +kernel
theorem dX4_init_93 : decode cX4_init 93 = .ok (.invokespecial 37, 3) := by decide +kernel
theorem dX4_init_96 : decode cX4_init 96 = .ok (.putfield 38, 3) := by decide +kernel
theorem dX4_init_99 : decode cX4_init 99 = .ok (.return_, 1) := by decide +kernel
theorem dX4_has_0 : decode cX4_has 0 = .ok (.iload_n 1, 1) := by decide +kernel
theorem dX4_has_1 : decode cX4_has 1 = .ok (.aload_n 0, 1) := by decide +kernel
theorem dX4_has_2 : decode cX4_has 2 = .ok (.getfield 42, 3) := by decide +kernel
theorem dX4_has_5 : decode cX4_has 5 = .ok (.invokestatic 46, 3) := by decide +kernel
theorem dX4_has_8 : decode cX4_has 8 = .ok (.ireturn, 1) := by decide +kernel
theorem dX4_shapeOf_0 : decode cX4_shapeOf 0 = .ok (.iload_n 0, 1) := by decide +kernel
theorem dX4_shapeOf_1 : decode cX4_shapeOf 1 = .ok (.iconst 3, 1) := by decide +kernel
theorem dX4_shapeOf_2 : decode cX4_shapeOf 2 = .ok (.imul, 1) := by decide +kernel
theorem dX4_shapeOf_3 : decode cX4_shapeOf 3 = .ok (.iload_n 1, 1) := by decide +kernel
theorem dX4_shapeOf_4 : decode cX4_shapeOf 4 = .ok (.iadd, 1) := by decide +kernel
theorem dX4_shapeOf_5 : decode cX4_shapeOf 5 = .ok (.istore_n 3, 1) := by decide +kernel
theorem dX4_shapeOf_6 : decode cX4_shapeOf 6 = .ok (.iload_n 0, 1) := by decide +kernel
theorem dX4_shapeOf_7 : decode cX4_shapeOf 7 = .ok (.bipush 18, 2) := by decide +kernel
theorem dX4_shapeOf_9 : decode cX4_shapeOf 9 = .ok (.if_icmp .ne 17, 3) := by decide +kernel
theorem dX4_shapeOf_12 : decode cX4_shapeOf 12 = .ok (.iload_n 1, 1) := by decide +kernel
theorem dX4_shapeOf_13 : decode cX4_shapeOf 13 = .ok (.iconst 2, 1) := by decide +kernel
theorem dX4_shapeOf_14 : decode cX4_shapeOf 14 = .ok (.if_icmp .ne 12, 3) := by decide +kernel
theorem dX4_shapeOf_17 : decode cX4_shapeOf 17 = .ok (.iload_n 2, 1) := by decide +kernel
theorem dX4_shapeOf_18 : decode cX4_shapeOf 18 = .ok (.iconst (-1), 1) := by decide +kernel
theorem dX4_shapeOf_19 : decode cX4_shapeOf 19 = .ok (.if_icmp .ne 7, 3) := by decide +kernel
theorem dX4_shapeOf_22 : decode cX4_shapeOf 22 = .ok (.iconst 1, 1) := by decide +kernel
theorem dX4_shapeOf_23 : decode cX4_shapeOf 23 = .ok (.goto 4, 3) := by decide +kernel
theorem dX4_shapeOf_26 : decode cX4_shapeOf 26 = .ok (.iconst 0, 1) := by decide +kernel
theorem dX4_shapeOf_27 : decode cX4_shapeOf 27 = .ok (.istore 4, 2) := by decide +kernel
theorem dX4_shapeOf_29 : decode cX4_shapeOf 29 = .ok (.iload 4, 2) := by decide +kernel
theorem dX4_shapeOf_31 : decode cX4_shapeOf 31 = .ok (.ifCond .ne 33, 3) := by decide +kernel
theorem dX4_shapeOf_34 : decode cX4_shapeOf 34 = .ok (.iload_n 0, 1) := by decide +kernel
theorem dX4_shapeOf_35 : decode cX4_shapeOf 35 = .ok (.bipush 40, 2) := by decide +kernel
theorem dX4_shapeOf_37 : decode cX4_shapeOf 37 = .ok (.invokestatic 46, 3) := by decide +kernel
theorem dX4_shapeOf_40 : decode cX4_shapeOf 40 = .ok (.ifCond .eq 24, 3) := by decide +kernel
theorem dX4_shapeOf_43 : decode cX4_shapeOf 43 = .ok (.iload_n 3, 1) := by decide +kernel
theorem dX4_shapeOf_44 : decode cX4_shapeOf 44 = .ok (.ldc 50, 2) := by decide +kernel
theorem dX4_shapeOf_46 : decode cX4_shapeOf 46 = .ok (.invokevirtual 52, 3) := by decide +kernel
theorem dX4_shapeOf_49 : decode cX4_shapeOf 49 = .ok (.invokestatic 46, 3) := by decide +kernel
theorem dX4_shapeOf_52 : decode cX4_shapeOf 52 = .ok (.ifCond .eq 12, 3) := by decide +kernel
theorem dX4_shapeOf_55 : decode cX4_shapeOf 55 = .ok (.ldc 50, 2) := by decide +kernel
theorem dX4_shapeOf_57 : decode cX4_shapeOf 57 = .ok (.iload_n 3, 1) := by decide +kernel
theorem dX4_shapeOf_58 : decode cX4_shapeOf 58 = .ok (.invokevirtual 58, 3) := by decide +kernel
theorem dX4_shapeOf_61 : decode cX4_shapeOf 61 = .ok (.goto 5, 3) := by decide +kernel
theorem dX4_shapeOf_64 : decode cX4_shapeOf 64 = .ok (.bipush 45, 2) := by decide +kernel
theorem dX4_shapeOf_66 : decode cX4_shapeOf 66 = .ok (.ireturn, 1) := by decide +kernel
theorem dX4_choose_0 : decode cX4_choose 0 = .ok (.iload_n 0, 1) := by decide +kernel
theorem dX4_choose_1 : decode cX4_choose 1 = .ok (.ifCond .ne 7, 3) := by decide +kernel
theorem dX4_choose_4 : decode cX4_choose 4 = .ok (.iload_n 1, 1) := by decide +kernel
theorem dX4_choose_5 : decode cX4_choose 5 = .ok (.goto 13, 3) := by decide +kernel
theorem dX4_choose_8 : decode cX4_choose 8 = .ok (.iload_n 0, 1) := by decide +kernel
theorem dX4_choose_9 : decode cX4_choose 9 = .ok (.iconst 1, 1) := by decide +kernel
theorem dX4_choose_10 : decode cX4_choose 10 = .ok (.if_icmp .ne 7, 3) := by decide +kernel
theorem dX4_choose_13 : decode cX4_choose 13 = .ok (.iload_n 2, 1) := by decide +kernel
theorem dX4_choose_14 : decode cX4_choose 14 = .ok (.goto 4, 3) := by decide +kernel
theorem dX4_choose_17 : decode cX4_choose 17 = .ok (.iload_n 3, 1) := by decide +kernel
theorem dX4_choose_18 : decode cX4_choose 18 = .ok (.ireturn, 1) := by decide +kernel
theorem dX4_lacksPart_0 : decode cX4_lacksPart 0 = .ok (.iconst 0, 1) := by decide +kernel
theorem dX4_lacksPart_1 : decode cX4_lacksPart 1 = .ok (.istore 5, 2) := by decide +kernel
theorem dX4_lacksPart_3 : decode cX4_lacksPart 3 = .ok (.iload 5, 2) := by decide +kernel
theorem dX4_lacksPart_5 : decode cX4_lacksPart 5 = .ok (.iconst 3, 1) := by decide +kernel
theorem dX4_lacksPart_6 : decode cX4_lacksPart 6 = .ok (.if_icmp .ge 71, 3) := by decide +kernel
theorem dX4_lacksPart_9 : decode cX4_lacksPart 9 = .ok (.iload_n 1, 1) := by decide +kernel
theorem dX4_lacksPart_10 : decode cX4_lacksPart 10 = .ok (.iload 5, 2) := by decide +kernel
theorem dX4_lacksPart_12 : decode cX4_lacksPart 12 = .ok (.iload_n 3, 1) := by decide +kernel
theorem dX4_lacksPart_13 : decode cX4_lacksPart 13 = .ok (.invokestatic 62, 3) := by decide +kernel
theorem dX4_lacksPart_16 : decode cX4_lacksPart 16 = .ok (.istore 6, 2) := by decide +kernel
theorem dX4_lacksPart_18 : decode cX4_lacksPart 18 = .ok (.iload 5, 2) := by decide +kernel
theorem dX4_lacksPart_20 : decode cX4_lacksPart 20 = .ok (.iload_n 2, 1) := by decide +kernel
theorem dX4_lacksPart_21 : decode cX4_lacksPart 21 = .ok (.iload_n 3, 1) := by decide +kernel
theorem dX4_lacksPart_22 : decode cX4_lacksPart 22 = .ok (.iload 4, 2) := by decide +kernel
theorem dX4_lacksPart_24 : decode cX4_lacksPart 24 = .ok (.invokestatic 66, 3) := by decide +kernel
theorem dX4_lacksPart_27 : decode cX4_lacksPart 27 = .ok (.istore 7, 2) := by decide +kernel
theorem dX4_lacksPart_29 : decode cX4_lacksPart 29 = .ok (.iload 6, 2) := by decide +kernel
theorem dX4_lacksPart_31 : decode cX4_lacksPart 31 = .ok (.bipush 112, 2) := by decide +kernel
theorem dX4_lacksPart_33 : decode cX4_lacksPart 33 = .ok (.if_icmp .ne 14, 3) := by decide +kernel
theorem dX4_lacksPart_36 : decode cX4_lacksPart 36 = .ok (.aload_n 0, 1) := by decide +kernel
theorem dX4_lacksPart_37 : decode cX4_lacksPart 37 = .ok (.iload 7, 2) := by decide +kernel
theorem dX4_lacksPart_39 : decode cX4_lacksPart 39 = .ok (.invokevirtual 70, 3) := by decide +kernel
theorem dX4_lacksPart_42 : decode cX4_lacksPart 42 = .ok (.ifCond .ne 5, 3) := by decide +kernel
theorem dX4_lacksPart_45 : decode cX4_lacksPart 45 = .ok (.iconst 1, 1) := by decide +kernel
theorem dX4_lacksPart_46 : decode cX4_lacksPart 46 = .ok (.ireturn, 1) := by decide +kernel
theorem dX4_lacksPart_47 : decode cX4_lacksPart 47 = .ok (.iload 6, 2) := by decide +kernel
theorem dX4_lacksPart_49 : decode cX4_lacksPart 49 = .ok (.bipush 111, 2) := by decide +kernel
theorem dX4_lacksPart_51 : decode cX4_lacksPart 51 = .ok (.if_icmp .ne 20, 3) := by decide +kernel
theorem dX4_lacksPart_54 : decode cX4_lacksPart 54 = .ok (.iload 7, 2) := by decide +kernel
theorem dX4_lacksPart_56 : decode cX4_lacksPart 56 = .ok (.iconst (-1), 1) := by decide +kernel
theorem dX4_lacksPart_57 : decode cX4_lacksPart 57 = .ok (.if_icmp .eq 14, 3) := by decide +kernel
theorem dX4_lacksPart_60 : decode cX4_lacksPart 60 = .ok (.aload_n 0, 1) := by decide +kernel
theorem dX4_lacksPart_61 : decode cX4_lacksPart 61 = .ok (.iload 7, 2) := by decide +kernel
theorem dX4_lacksPart_63 : decode cX4_lacksPart 63 = .ok (.invokevirtual 70, 3) := by decide +kernel
theorem dX4_lacksPart_66 : decode cX4_lacksPart 66 = .ok (.ifCond .ne 5, 3) := by decide +kernel
theorem dX4_lacksPart_69 : decode cX4_lacksPart 69 = .ok (.iconst 1, 1) := by decide +kernel
theorem dX4_lacksPart_70 : decode cX4_lacksPart 70 = .ok (.ireturn, 1) := by decide +kernel
theorem dX4_lacksPart_71 : decode cX4_lacksPart 71 = .ok (.iinc 5 1, 3) := by decide +kernel
theorem dX4_lacksPart_74 : decode cX4_lacksPart 74 = .ok (.goto (-71), 3) := by decide +kernel
theorem dX4_lacksPart_77 : decode cX4_lacksPart 77 = .ok (.iconst 0, 1) := by decide +kernel
theorem dX4_lacksPart_78 : decode cX4_lacksPart 78 = .ok (.ireturn, 1) := by decide +kernel
theorem dX4_isShaped_0 : decode cX4_isShaped 0 = .ok (.iload_n 1, 1) := by decide +kernel
theorem dX4_isShaped_1 : decode cX4_isShaped 1 = .ok (.bipush 40, 2) := by decide +kernel
theorem dX4_isShaped_3 : decode cX4_isShaped 3 = .ok (.invokestatic 46, 3) := by decide +kernel
theorem dX4_isShaped_6 : decode cX4_isShaped 6 = .ok (.ifCond .ne 5, 3) := by decide +kernel
theorem dX4_isShaped_9 : decode cX4_isShaped 9 = .ok (.iconst 0, 1) := by decide +kernel
theorem dX4_isShaped_10 : decode cX4_isShaped 10 = .ok (.ireturn, 1) := by decide +kernel
theorem dX4_isShaped_11 : decode cX4_isShaped 11 = .ok (.iconst 0, 1) := by decide +kernel
theorem dX4_isShaped_12 : decode cX4_isShaped 12 = .ok (.istore 5, 2) := by decide +kernel
theorem dX4_isShaped_14 : decode cX4_isShaped 14 = .ok (.iload 5, 2) := by decide +kernel
theorem dX4_isShaped_16 : decode cX4_isShaped 16 = .ok (.iconst 3, 1) := by decide +kernel
theorem dX4_isShaped_17 : decode cX4_isShaped 17 = .ok (.if_icmp .ge 33, 3) := by decide +kernel
theorem dX4_isShaped_20 : decode cX4_isShaped 20 = .ok (.iload_n 1, 1) := by decide +kernel
theorem dX4_isShaped_21 : decode cX4_isShaped 21 = .ok (.iload 5, 2) := by decide +kernel
theorem dX4_isShaped_23 : decode cX4_isShaped 23 = .ok (.iload_n 3, 1) := by decide +kernel
theorem dX4_isShaped_24 : decode cX4_isShaped 24 = .ok (.invokestatic 62, 3) := by decide +kernel
theorem dX4_isShaped_27 : decode cX4_isShaped 27 = .ok (.iload 5, 2) := by decide +kernel
theorem dX4_isShaped_29 : decode cX4_isShaped 29 = .ok (.iload_n 2, 1) := by decide +kernel
theorem dX4_isShaped_30 : decode cX4_isShaped 30 = .ok (.iload_n 3, 1) := by decide +kernel
theorem dX4_isShaped_31 : decode cX4_isShaped 31 = .ok (.iload 4, 2) := by decide +kernel
theorem dX4_isShaped_33 : decode cX4_isShaped 33 = .ok (.invokestatic 66, 3) := by decide +kernel
theorem dX4_isShaped_36 : decode cX4_isShaped 36 = .ok (.invokestatic 74, 3) := by decide +kernel
theorem dX4_isShaped_39 : decode cX4_isShaped 39 = .ok (.ifCond .ne 5, 3) := by decide +kernel
theorem dX4_isShaped_42 : decode cX4_isShaped 42 = .ok (.iconst 0, 1) := by decide +kernel
theorem dX4_isShaped_43 : decode cX4_isShaped 43 = .ok (.ireturn, 1) := by decide +kernel
theorem dX4_isShaped_44 : decode cX4_isShaped 44 = .ok (.iinc 5 1, 3) := by decide +kernel
theorem dX4_isShaped_47 : decode cX4_isShaped 47 = .ok (.goto (-33), 3) := by decide +kernel
theorem dX4_isShaped_50 : decode cX4_isShaped 50 = .ok (.iconst 1, 1) := by decide +kernel
theorem dX4_isShaped_51 : decode cX4_isShaped 51 = .ok (.ireturn, 1) := by decide +kernel
theorem dX4_fits_0 : decode cX4_fits 0 = .ok (.iload_n 0, 1) := by decide +kernel
theorem dX4_fits_1 : decode cX4_fits 1 = .ok (.bipush 118, 2) := by decide +kernel
theorem dX4_fits_3 : decode cX4_fits 3 = .ok (.if_icmp .ne 8, 3) := by decide +kernel
theorem dX4_fits_6 : decode cX4_fits 6 = .ok (.iload_n 1, 1) := by decide +kernel
theorem dX4_fits_7 : decode cX4_fits 7 = .ok (.invokestatic 78, 3) := by decide +kernel
theorem dX4_fits_10 : decode cX4_fits 10 = .ok (.ireturn, 1) := by decide +kernel
theorem dX4_fits_11 : decode cX4_fits 11 = .ok (.iload_n 0, 1) := by decide +kernel
theorem dX4_fits_12 : decode cX4_fits 12 = .ok (.bipush 110, 2) := by decide +kernel
theorem dX4_fits_14 : decode cX4_fits 14 = .ok (.if_icmp .ne 10, 3) := by decide +kernel
theorem dX4_fits_17 : decode cX4_fits 17 = .ok (.iload_n 1, 1) := by decide +kernel
theorem dX4_fits_18 : decode cX4_fits 18 = .ok (.bipush 8, 2) := by decide +kernel
theorem dX4_fits_20 : decode cX4_fits 20 = .ok (.invokestatic 46, 3) := by decide +kernel
theorem dX4_fits_23 : decode cX4_fits 23 = .ok (.ireturn, 1) := by decide +kernel
theorem dX4_fits_24 : decode cX4_fits 24 = .ok (.iload_n 0, 1) := by decide +kernel
theorem dX4_fits_25 : decode cX4_fits 25 = .ok (.bipush 113, 2) := by decide +kernel
theorem dX4_fits_27 : decode cX4_fits 27 = .ok (.if_icmp .ne 9, 3) := by decide +kernel
theorem dX4_fits_30 : decode cX4_fits 30 = .ok (.iload_n 1, 1) := by decide +kernel
theorem dX4_fits_31 : decode cX4_fits 31 = .ok (.iconst 4, 1) := by decide +kernel
theorem dX4_fits_32 : decode cX4_fits 32 = .ok (.invokestatic 46, 3) := by decide +kernel
theorem dX4_fits_35 : decode cX4_fits 35 = .ok (.ireturn, 1) := by decide +kernel
theorem dX4_fits_36 : decode cX4_fits 36 = .ok (.iload_n 0, 1) := by decide +kernel
theorem dX4_fits_37 : decode cX4_fits 37 = .ok (.bipush 115, 2) := by decide +kernel
theorem dX4_fits_39 : decode cX4_fits 39 = .ok (.if_icmp .ne 10, 3) := by decide +kernel
theorem dX4_fits_42 : decode cX4_fits 42 = .ok (.iload_n 1, 1) := by decide +kernel
theorem dX4_fits_43 : decode cX4_fits 43 = .ok (.bipush 6, 2) := by decide +kernel
theorem dX4_fits_45 : decode cX4_fits 45 = .ok (.invokestatic 46, 3) := by decide +kernel
theorem dX4_fits_48 : decode cX4_fits 48 = .ok (.ireturn, 1) := by decide +kernel
theorem dX4_fits_49 : decode cX4_fits 49 = .ok (.iload_n 0, 1) := by decide +kernel
theorem dX4_fits_50 : decode cX4_fits 50 = .ok (.bipush 104, 2) := by decide +kernel
theorem dX4_fits_52 : decode cX4_fits 52 = .ok (.if_icmp .ne 23, 3) := by decide +kernel
theorem dX4_fits_55 : decode cX4_fits 55 = .ok (.iload_n 1, 1) := by decide +kernel
theorem dX4_fits_56 : decode cX4_fits 56 = .ok (.iconst (-1), 1) := by decide +kernel
theorem dX4_fits_57 : decode cX4_fits 57 = .ok (.if_icmp .eq 12, 3) := by decide +kernel
theorem dX4_fits_60 : decode cX4_fits 60 = .ok (.iload_n 1, 1) := by decide +kernel
theorem dX4_fits_61 : decode cX4_fits 61 = .ok (.bipush 6, 2) := by decide +kernel
theorem dX4_fits_63 : decode cX4_fits 63 = .ok (.invokestatic 46, 3) := by decide +kernel
theorem dX4_fits_66 : decode cX4_fits 66 = .ok (.ifCond .eq 7, 3) := by decide +kernel
theorem dX4_fits_69 : decode cX4_fits 69 = .ok (.iconst 1, 1) := by decide +kernel
theorem dX4_fits_70 : decode cX4_fits 70 = .ok (.goto 4, 3) := by decide +kernel
theorem dX4_fits_73 : decode cX4_fits 73 = .ok (.iconst 0, 1) := by decide +kernel
theorem dX4_fits_74 : decode cX4_fits 74 = .ok (.ireturn, 1) := by decide +kernel
theorem dX4_fits_75 : decode cX4_fits 75 = .ok (.iload_n 0, 1) := by decide +kernel
theorem dX4_fits_76 : decode cX4_fits 76 = .ok (.bipush 45, 2) := by decide +kernel
theorem dX4_fits_78 : decode cX4_fits 78 = .ok (.if_icmp .ne 8, 3) := by decide +kernel
theorem dX4_fits_81 : decode cX4_fits 81 = .ok (.iload_n 1, 1) := by decide +kernel
theorem dX4_fits_82 : decode cX4_fits 82 = .ok (.iconst (-1), 1) := by decide +kernel
theorem dX4_fits_83 : decode cX4_fits 83 = .ok (.if_icmp .ne 7, 3) := by decide +kernel
theorem dX4_fits_86 : decode cX4_fits 86 = .ok (.iconst 1, 1) := by decide +kernel
theorem dX4_fits_87 : decode cX4_fits 87 = .ok (.goto 4, 3) := by decide +kernel
theorem dX4_fits_90 : decode cX4_fits 90 = .ok (.iconst 0, 1) := by decide +kernel
theorem dX4_fits_91 : decode cX4_fits 91 = .ok (.ireturn, 1) := by decide +kernel
theorem dX4_hasRoom_0 : decode cX4_hasRoom 0 = .ok (.aload_n 0, 1) := by decide +kernel
theorem dX4_hasRoom_1 : decode cX4_hasRoom 1 = .ok (.getfield 42, 3) := by decide +kernel
theorem dX4_hasRoom_4 : decode cX4_hasRoom 4 = .ok (.bipush 120, 2) := by decide +kernel
theorem dX4_hasRoom_6 : decode cX4_hasRoom 6 = .ok (.if_icmp .ge 22, 3) := by decide +kernel
theorem dX4_hasRoom_9 : decode cX4_hasRoom 9 = .ok (.aload_n 0, 1) := by decide +kernel
theorem dX4_hasRoom_10 : decode cX4_hasRoom 10 = .ok (.iload_n 1, 1) := by decide +kernel
theorem dX4_hasRoom_11 : decode cX4_hasRoom 11 = .ok (.iload_n 2, 1) := by decide +kernel
theorem dX4_hasRoom_12 : decode cX4_hasRoom 12 = .ok (.iload_n 3, 1) := by decide +kernel
theorem dX4_hasRoom_13 : decode cX4_hasRoom 13 = .ok (.iload 4, 2) := by decide +kernel
theorem dX4_hasRoom_15 : decode cX4_hasRoom 15 = .ok (.invokevirtual 81, 3) := by decide +kernel
theorem dX4_hasRoom_18 : decode cX4_hasRoom 18 = .ok (.sipush 150, 3) := by decide +kernel
theorem dX4_hasRoom_21 : decode cX4_hasRoom 21 = .ok (.if_icmp .gt 7, 3) := by decide +kernel
theorem dX4_hasRoom_24 : decode cX4_hasRoom 24 = .ok (.iconst 1, 1) := by decide +kernel
theorem dX4_hasRoom_25 : decode cX4_hasRoom 25 = .ok (.goto 4, 3) := by decide +kernel
theorem dX4_hasRoom_28 : decode cX4_hasRoom 28 = .ok (.iconst 0, 1) := by decide +kernel
theorem dX4_hasRoom_29 : decode cX4_hasRoom 29 = .ok (.ireturn, 1) := by decide +kernel
theorem dX4_sizeWith_0 : decode cX4_sizeWith 0 = .ok (.iconst 1, 1) := by decide +kernel
theorem dX4_sizeWith_1 : decode cX4_sizeWith 1 = .ok (.istore 5, 2) := by decide +kernel
theorem dX4_sizeWith_3 : decode cX4_sizeWith 3 = .ok (.iconst 0, 1) := by decide +kernel
theorem dX4_sizeWith_4 : decode cX4_sizeWith 4 = .ok (.istore 6, 2) := by decide +kernel
theorem dX4_sizeWith_6 : decode cX4_sizeWith 6 = .ok (.iload 6, 2) := by decide +kernel
theorem dX4_sizeWith_8 : decode cX4_sizeWith 8 = .ok (.iconst 3, 1) := by decide +kernel
theorem dX4_sizeWith_9 : decode cX4_sizeWith 9 = .ok (.if_icmp .ge 72, 3) := by decide +kernel
theorem dX4_sizeWith_12 : decode cX4_sizeWith 12 = .ok (.iload_n 1, 1) := by decide +kernel
theorem dX4_sizeWith_13 : decode cX4_sizeWith 13 = .ok (.iload 6, 2) := by decide +kernel
theorem dX4_sizeWith_15 : decode cX4_sizeWith 15 = .ok (.iload_n 3, 1) := by decide +kernel
theorem dX4_sizeWith_16 : decode cX4_sizeWith 16 = .ok (.invokestatic 62, 3) := by decide +kernel
theorem dX4_sizeWith_19 : decode cX4_sizeWith 19 = .ok (.istore 7, 2) := by decide +kernel
theorem dX4_sizeWith_21 : decode cX4_sizeWith 21 = .ok (.iload 6, 2) := by decide +kernel
theorem dX4_sizeWith_23 : decode cX4_sizeWith 23 = .ok (.iload_n 2, 1) := by decide +kernel
theorem dX4_sizeWith_24 : decode cX4_sizeWith 24 = .ok (.iload_n 3, 1) := by decide +kernel
theorem dX4_sizeWith_25 : decode cX4_sizeWith 25 = .ok (.iload 4, 2) := by decide +kernel
theorem dX4_sizeWith_27 : decode cX4_sizeWith 27 = .ok (.invokestatic 66, 3) := by decide +kernel
theorem dX4_sizeWith_30 : decode cX4_sizeWith 30 = .ok (.istore 8, 2) := by decide +kernel
theorem dX4_sizeWith_32 : decode cX4_sizeWith 32 = .ok (.iload 7, 2) := by decide +kernel
theorem dX4_sizeWith_34 : decode cX4_sizeWith 34 = .ok (.bipush 112, 2) := by decide +kernel
theorem dX4_sizeWith_36 : decode cX4_sizeWith 36 = .ok (.if_icmp .eq 10, 3) := by decide +kernel
theorem dX4_sizeWith_39 : decode cX4_sizeWith 39 = .ok (.iload 7, 2) := by decide +kernel
theorem dX4_sizeWith_41 : decode cX4_sizeWith 41 = .ok (.bipush 111, 2) := by decide +kernel
theorem dX4_sizeWith_43 : decode cX4_sizeWith 43 = .ok (.if_icmp .ne 32, 3) := by decide +kernel
theorem dX4_sizeWith_46 : decode cX4_sizeWith 46 = .ok (.iload_n 1, 1) := by decide +kernel
theorem dX4_sizeWith_47 : decode cX4_sizeWith 47 = .ok (.bipush 38, 2) := by decide +kernel
theorem dX4_sizeWith_49 : decode cX4_sizeWith 49 = .ok (.if_icmp .eq 26, 3) := by decide +kernel
theorem dX4_sizeWith_52 : decode cX4_sizeWith 52 = .ok (.aload_n 0, 1) := by decide +kernel
theorem dX4_sizeWith_53 : decode cX4_sizeWith 53 = .ok (.iload 8, 2) := by decide +kernel
theorem dX4_sizeWith_55 : decode cX4_sizeWith 55 = .ok (.invokevirtual 70, 3) := by decide +kernel
theorem dX4_sizeWith_58 : decode cX4_sizeWith 58 = .ok (.ifCond .eq 17, 3) := by decide +kernel
theorem dX4_sizeWith_61 : decode cX4_sizeWith 61 = .ok (.iload 5, 2) := by decide +kernel
theorem dX4_sizeWith_63 : decode cX4_sizeWith 63 = .ok (.aload_n 0, 1) := by decide +kernel
theorem dX4_sizeWith_64 : decode cX4_sizeWith 64 = .ok (.getfield 26, 3) := by decide +kernel
theorem dX4_sizeWith_67 : decode cX4_sizeWith 67 = .ok (.iload 8, 2) := by decide +kernel
theorem dX4_sizeWith_69 : decode cX4_sizeWith 69 = .ok (.invokevirtual 84, 3) := by decide +kernel
theorem dX4_sizeWith_72 : decode cX4_sizeWith 72 = .ok (.iadd, 1) := by decide +kernel
theorem dX4_sizeWith_73 : decode cX4_sizeWith 73 = .ok (.istore 5, 2) := by decide +kernel
theorem dX4_sizeWith_75 : decode cX4_sizeWith 75 = .ok (.iinc 6 1, 3) := by decide +kernel
theorem dX4_sizeWith_78 : decode cX4_sizeWith 78 = .ok (.goto (-72), 3) := by decide +kernel
theorem dX4_sizeWith_81 : decode cX4_sizeWith 81 = .ok (.iload 5, 2) := by decide +kernel
theorem dX4_sizeWith_83 : decode cX4_sizeWith 83 = .ok (.ireturn, 1) := by decide +kernel
theorem dX4_add_0 : decode cX4_add 0 = .ok (.aload_n 0, 1) := by decide +kernel
theorem dX4_add_1 : decode cX4_add 1 = .ok (.getfield 42, 3) := by decide +kernel
theorem dX4_add_4 : decode cX4_add 4 = .ok (.istore 5, 2) := by decide +kernel
theorem dX4_add_6 : decode cX4_add 6 = .ok (.aload_n 0, 1) := by decide +kernel
theorem dX4_add_7 : decode cX4_add 7 = .ok (.getfield 14, 3) := by decide +kernel
theorem dX4_add_10 : decode cX4_add 10 = .ok (.iload 5, 2) := by decide +kernel
theorem dX4_add_12 : decode cX4_add 12 = .ok (.iload_n 1, 1) := by decide +kernel
theorem dX4_add_13 : decode cX4_add 13 = .ok (.invokevirtual 88, 3) := by decide +kernel
theorem dX4_add_16 : decode cX4_add 16 = .ok (.aload_n 0, 1) := by decide +kernel
theorem dX4_add_17 : decode cX4_add 17 = .ok (.getfield 20, 3) := by decide +kernel
theorem dX4_add_20 : decode cX4_add 20 = .ok (.iload 5, 2) := by decide +kernel
theorem dX4_add_22 : decode cX4_add 22 = .ok (.iload_n 2, 1) := by decide +kernel
theorem dX4_add_23 : decode cX4_add 23 = .ok (.invokevirtual 88, 3) := by decide +kernel
theorem dX4_add_26 : decode cX4_add 26 = .ok (.aload_n 0, 1) := by decide +kernel
theorem dX4_add_27 : decode cX4_add 27 = .ok (.getfield 23, 3) := by decide +kernel
theorem dX4_add_30 : decode cX4_add 30 = .ok (.iload 5, 2) := by decide +kernel
theorem dX4_add_32 : decode cX4_add 32 = .ok (.iload_n 3, 1) := by decide +kernel
theorem dX4_add_33 : decode cX4_add 33 = .ok (.invokevirtual 88, 3) := by decide +kernel
theorem dX4_add_36 : decode cX4_add 36 = .ok (.aload_n 0, 1) := by decide +kernel
theorem dX4_add_37 : decode cX4_add 37 = .ok (.getfield 26, 3) := by decide +kernel
theorem dX4_add_40 : decode cX4_add 40 = .ok (.iload 5, 2) := by decide +kernel
theorem dX4_add_42 : decode cX4_add 42 = .ok (.aload_n 0, 1) := by decide +kernel
theorem dX4_add_43 : decode cX4_add 43 = .ok (.iload_n 1, 1) := by decide +kernel
theorem dX4_add_44 : decode cX4_add 44 = .ok (.iload_n 2, 1) := by decide +kernel
theorem dX4_add_45 : decode cX4_add 45 = .ok (.iload_n 3, 1) := by decide +kernel
theorem dX4_add_46 : decode cX4_add 46 = .ok (.iload 4, 2) := by decide +kernel
theorem dX4_add_48 : decode cX4_add 48 = .ok (.invokevirtual 81, 3) := by decide +kernel
theorem dX4_add_51 : decode cX4_add 51 = .ok (.invokevirtual 88, 3) := by decide +kernel
theorem dX4_add_54 : decode cX4_add 54 = .ok (.aload_n 0, 1) := by decide +kernel
theorem dX4_add_55 : decode cX4_add 55 = .ok (.getfield 32, 3) := by decide +kernel
theorem dX4_add_58 : decode cX4_add 58 = .ok (.iload 5, 2) := by decide +kernel
theorem dX4_add_60 : decode cX4_add 60 = .ok (.aload_n 0, 1) := by decide +kernel
theorem dX4_add_61 : decode cX4_add 61 = .ok (.getfield 38, 3) := by decide +kernel
theorem dX4_add_64 : decode cX4_add 64 = .ok (.iload_n 1, 1) := by decide +kernel
theorem dX4_add_65 : decode cX4_add 65 = .ok (.iload_n 2, 1) := by decide +kernel
theorem dX4_add_66 : decode cX4_add 66 = .ok (.iload_n 3, 1) := by decide +kernel
theorem dX4_add_67 : decode cX4_add 67 = .ok (.iload 4, 2) := by decide +kernel
theorem dX4_add_69 : decode cX4_add 69 = .ok (.invokevirtual 91, 3) := by decide +kernel
theorem dX4_add_72 : decode cX4_add 72 = .ok (.invokevirtual 88, 3) := by decide +kernel
theorem dX4_add_75 : decode cX4_add 75 = .ok (.aload_n 0, 1) := by decide +kernel
theorem dX4_add_76 : decode cX4_add 76 = .ok (.iload 5, 2) := by decide +kernel
theorem dX4_add_78 : decode cX4_add 78 = .ok (.iconst 1, 1) := by decide +kernel
theorem dX4_add_79 : decode cX4_add 79 = .ok (.iadd, 1) := by decide +kernel
theorem dX4_add_80 : decode cX4_add 80 = .ok (.putfield 42, 3) := by decide +kernel
theorem dX4_add_83 : decode cX4_add 83 = .ok (.iload 5, 2) := by decide +kernel
theorem dX4_add_85 : decode cX4_add 85 = .ok (.ireturn, 1) := by decide +kernel
theorem dX0_init_0 : decode cX0_init 0 = .ok (.aload_n 0, 1) := by decide +kernel
theorem dX0_init_1 : decode cX0_init 1 = .ok (.invokespecial 3, 3) := by decide +kernel
theorem dX0_init_4 : decode cX0_init 4 = .ok (.aload_n 0, 1) := by decide +kernel
theorem dX0_init_5 : decode cX0_init 5 = .ok (.new 9, 3) := by decide +kernel
theorem dX0_init_8 : decode cX0_init 8 = .ok (.dup, 1) := by decide +kernel
theorem dX0_init_9 : decode cX0_init 9 = .ok (.sipush 1081, 3) := by decide +kernel
theorem dX0_init_12 : decode cX0_init 12 = .ok (.bipush 40, 2) := by decide +kernel
theorem dX0_init_14 : decode cX0_init 14 = .ok (.invokespecial 11, 3) := by decide +kernel
theorem dX0_init_17 : decode cX0_init 17 = .ok (.putfield 14, 3) := by decide +kernel
theorem dX0_init_20 : decode cX0_init 20 = .ok (.aload_n 0, 1) := by decide +kernel
theorem dX0_init_21 : decode cX0_init 21 = .ok (.new 9, 3) := by decide +kernel
theorem dX0_init_24 : decode cX0_init 24 = .ok (.dup, 1) := by decide +kernel
theorem dX0_init_25 : decode cX0_init 25 = .ok (.sipush 1081, 3) := by decide +kernel
theorem dX0_init_28 : decode cX0_init 28 = .ok (.iconst 0, 1) := by decide +kernel
theorem dX0_init_29 : decode cX0_init 29 = .ok (.invokespecial 11, 3) := by decide +kernel
theorem dX0_init_32 : decode cX0_init 32 = .ok (.putfield 20, 3) := by decide +kernel
theorem dX0_init_35 : decode cX0_init 35 = .ok (.aload_n 0, 1) := by decide +kernel
theorem dX0_init_36 : decode cX0_init 36 = .ok (.iconst 1, 1) := by decide +kernel
theorem dX0_init_37 : decode cX0_init 37 = .ok (.putfield 23, 3) := by decide +kernel
theorem dX0_init_40 : decode cX0_init 40 = .ok (.return_, 1) := by decide +kernel
theorem dX0_emit_0 : decode cX0_emit 0 = .ok (.aload_n 0, 1) := by decide +kernel
theorem dX0_emit_1 : decode cX0_emit 1 = .ok (.getfield 14, 3) := by decide +kernel
theorem dX0_emit_4 : decode cX0_emit 4 = .ok (.aload_n 0, 1) := by decide +kernel
theorem dX0_emit_5 : decode cX0_emit 5 = .ok (.getfield 23, 3) := by decide +kernel
theorem dX0_emit_8 : decode cX0_emit 8 = .ok (.iload_n 1, 1) := by decide +kernel
theorem dX0_emit_9 : decode cX0_emit 9 = .ok (.invokevirtual 27, 3) := by decide +kernel
theorem dX0_emit_12 : decode cX0_emit 12 = .ok (.aload_n 0, 1) := by decide +kernel
theorem dX0_emit_13 : decode cX0_emit 13 = .ok (.getfield 20, 3) := by decide +kernel
theorem dX0_emit_16 : decode cX0_emit 16 = .ok (.aload_n 0, 1) := by decide +kernel
theorem dX0_emit_17 : decode cX0_emit 17 = .ok (.getfield 23, 3) := by decide +kernel
theorem dX0_emit_20 : decode cX0_emit 20 = .ok (.iload_n 2, 1) := by decide +kernel
theorem dX0_emit_21 : decode cX0_emit 21 = .ok (.invokevirtual 27, 3) := by decide +kernel
theorem dX0_emit_24 : decode cX0_emit 24 = .ok (.aload_n 0, 1) := by decide +kernel
theorem dX0_emit_25 : decode cX0_emit 25 = .ok (.dup, 1) := by decide +kernel
theorem dX0_emit_26 : decode cX0_emit 26 = .ok (.getfield 23, 3) := by decide +kernel
theorem dX0_emit_29 : decode cX0_emit 29 = .ok (.iconst 1, 1) := by decide +kernel
theorem dX0_emit_30 : decode cX0_emit 30 = .ok (.iadd, 1) := by decide +kernel
theorem dX0_emit_31 : decode cX0_emit 31 = .ok (.putfield 23, 3) := by decide +kernel
theorem dX0_emit_34 : decode cX0_emit 34 = .ok (.return_, 1) := by decide +kernel
theorem dX0_translate_0 : decode cX0_translate 0 = .ok (.aload_n 0, 1) := by decide +kernel
theorem dX0_translate_1 : decode cX0_translate 1 = .ok (.getfield 23, 3) := by decide +kernel
theorem dX0_translate_4 : decode cX0_translate 4 = .ok (.istore 5, 2) := by decide +kernel
theorem dX0_translate_6 : decode cX0_translate 6 = .ok (.iload_n 1, 1) := by decide +kernel
theorem dX0_translate_7 : decode cX0_translate 7 = .ok (.tableswitch 251 2 38 #[161, 161, 251, 251, 251, 251, 251, 251, 251, 251, 251, 251, 161, 251, 251, 251, 232, 177, 251, 251, 177, 251, 193, 177, 251, 251, 161, 243, 251, 177, 251, 251, 251, 177, 251, 177, 216], 161) := by decide +kernel
theorem dX0_translate_168 : decode cX0_translate 168 = .ok (.aload_n 0, 1) := by decide +kernel
theorem dX0_translate_169 : decode cX0_translate 169 = .ok (.bipush 41, 2) := by decide +kernel
theorem dX0_translate_171 : decode cX0_translate 171 = .ok (.iload_n 3, 1) := by decide +kernel
theorem dX0_translate_172 : decode cX0_translate 172 = .ok (.invokevirtual 30, 3) := by decide +kernel
theorem dX0_translate_175 : decode cX0_translate 175 = .ok (.aload_n 0, 1) := by decide +kernel
theorem dX0_translate_176 : decode cX0_translate 176 = .ok (.iload_n 1, 1) := by decide +kernel
theorem dX0_translate_177 : decode cX0_translate 177 = .ok (.iload_n 2, 1) := by decide +kernel
theorem dX0_translate_178 : decode cX0_translate 178 = .ok (.invokevirtual 30, 3) := by decide +kernel
theorem dX0_translate_181 : decode cX0_translate 181 = .ok (.goto 86, 3) := by decide +kernel
theorem dX0_translate_184 : decode cX0_translate 184 = .ok (.aload_n 0, 1) := by decide +kernel
theorem dX0_translate_185 : decode cX0_translate 185 = .ok (.bipush 41, 2) := by decide +kernel
theorem dX0_translate_187 : decode cX0_translate 187 = .ok (.iload_n 2, 1) := by decide +kernel
theorem dX0_translate_188 : decode cX0_translate 188 = .ok (.invokevirtual 30, 3) := by decide +kernel
theorem dX0_translate_191 : decode cX0_translate 191 = .ok (.aload_n 0, 1) := by decide +kernel
theorem dX0_translate_192 : decode cX0_translate 192 = .ok (.iload_n 1, 1) := by decide +kernel
theorem dX0_translate_193 : decode cX0_translate 193 = .ok (.iconst (-1), 1) := by decide +kernel
theorem dX0_translate_194 : decode cX0_translate 194 = .ok (.invokevirtual 30, 3) := by decide +kernel
theorem dX0_translate_197 : decode cX0_translate 197 = .ok (.goto 70, 3) := by decide +kernel
theorem dX0_translate_200 : decode cX0_translate 200 = .ok (.aload_n 0, 1) := by decide +kernel
theorem dX0_translate_201 : decode cX0_translate 201 = .ok (.bipush 41, 2) := by decide +kernel
theorem dX0_translate_203 : decode cX0_translate 203 = .ok (.iload_n 2, 1) := by decide +kernel
theorem dX0_translate_204 : decode cX0_translate 204 = .ok (.invokevirtual 30, 3) := by decide +kernel
theorem dX0_translate_207 : decode cX0_translate 207 = .ok (.aload_n 0, 1) := by decide +kernel
theorem dX0_translate_208 : decode cX0_translate 208 = .ok (.bipush 24, 2) := by decide +kernel
theorem dX0_translate_210 : decode cX0_translate 210 = .ok (.iconst (-1), 1) := by decide +kernel
theorem dX0_translate_211 : decode cX0_translate 211 = .ok (.invokevirtual 30, 3) := by decide +kernel
theorem dX0_translate_214 : decode cX0_translate 214 = .ok (.aload_n 0, 1) := by decide +kernel
theorem dX0_translate_215 : decode cX0_translate 215 = .ok (.iconst 0, 1) := by decide +kernel
theorem dX0_translate_216 : decode cX0_translate 216 = .ok (.iconst 0, 1) := by decide +kernel
theorem dX0_translate_217 : decode cX0_translate 217 = .ok (.invokevirtual 30, 3) := by decide +kernel
theorem dX0_translate_220 : decode cX0_translate 220 = .ok (.goto 47, 3) := by decide +kernel
theorem dX0_translate_223 : decode cX0_translate 223 = .ok (.aload_n 0, 1) := by decide +kernel
theorem dX0_translate_224 : decode cX0_translate 224 = .ok (.iconst 0, 1) := by decide +kernel
theorem dX0_translate_225 : decode cX0_translate 225 = .ok (.iload_n 3, 1) := by decide +kernel
theorem dX0_translate_226 : decode cX0_translate 226 = .ok (.invokevirtual 30, 3) := by decide +kernel
theorem dX0_translate_229 : decode cX0_translate 229 = .ok (.aload_n 0, 1) := by decide +kernel
theorem dX0_translate_230 : decode cX0_translate 230 = .ok (.bipush 38, 2) := by decide +kernel
theorem dX0_translate_232 : decode cX0_translate 232 = .ok (.iload_n 2, 1) := by decide +kernel
theorem dX0_translate_233 : decode cX0_translate 233 = .ok (.invokevirtual 30, 3) := by decide +kernel
theorem dX0_translate_236 : decode cX0_translate 236 = .ok (.goto 31, 3) := by decide +kernel
theorem dX0_translate_239 : decode cX0_translate 239 = .ok (.aload_n 0, 1) := by decide +kernel
theorem dX0_translate_240 : decode cX0_translate 240 = .ok (.iload_n 2, 1) := by decide +kernel
theorem dX0_translate_241 : decode cX0_translate 241 = .ok (.iload_n 3, 1) := by decide +kernel
theorem dX0_translate_242 : decode cX0_translate 242 = .ok (.iload 4, 2) := by decide +kernel
theorem dX0_translate_244 : decode cX0_translate 244 = .ok (.invokevirtual 33, 3) := by decide +kernel
theorem dX0_translate_247 : decode cX0_translate 247 = .ok (.goto 20, 3) := by decide +kernel
theorem dX0_translate_250 : decode cX0_translate 250 = .ok (.aload_n 0, 1) := by decide +kernel
theorem dX0_translate_251 : decode cX0_translate 251 = .ok (.iload_n 2, 1) := by decide +kernel
theorem dX0_translate_252 : decode cX0_translate 252 = .ok (.invokevirtual 37, 3) := by decide +kernel
theorem dX0_translate_255 : decode cX0_translate 255 = .ok (.goto 12, 3) := by decide +kernel
theorem dX0_translate_258 : decode cX0_translate 258 = .ok (.aload_n 0, 1) := by decide +kernel
theorem dX0_translate_259 : decode cX0_translate 259 = .ok (.iload_n 1, 1) := by decide +kernel
theorem dX0_translate_260 : decode cX0_translate 260 = .ok (.iload_n 2, 1) := by decide +kernel
theorem dX0_translate_261 : decode cX0_translate 261 = .ok (.iload_n 3, 1) := by decide +kernel
theorem dX0_translate_262 : decode cX0_translate 262 = .ok (.iload 4, 2) := by decide +kernel
theorem dX0_translate_264 : decode cX0_translate 264 = .ok (.invokevirtual 41, 3) := by decide +kernel
theorem dX0_translate_267 : decode cX0_translate 267 = .ok (.aload_n 0, 1) := by decide +kernel
theorem dX0_translate_268 : decode cX0_translate 268 = .ok (.bipush 40, 2) := by decide +kernel
theorem dX0_translate_270 : decode cX0_translate 270 = .ok (.iconst (-1), 1) := by decide +kernel
theorem dX0_translate_271 : decode cX0_translate 271 = .ok (.invokevirtual 30, 3) := by decide +kernel
theorem dX0_translate_274 : decode cX0_translate 274 = .ok (.iload 5, 2) := by decide +kernel
theorem dX0_translate_276 : decode cX0_translate 276 = .ok (.ireturn, 1) := by decide +kernel
theorem dX0_translateParts_0 : decode cX0_translateParts 0 = .ok (.iload_n 1, 1) := by decide +kernel
theorem dX0_translateParts_1 : decode cX0_translateParts 1 = .ok (.tableswitch 262 4 36 #[147, 147, 147, 147, 147, 147, 204, 177, 194, 215, 262, 262, 262, 147, 262, 262, 223, 234, 262, 262, 262, 262, 243, 262, 262, 262, 262, 262, 262, 262, 262, 262, 254], 147) := by decide +kernel
theorem dX0_translateParts_148 : decode cX0_translateParts 148 = .ok (.aload_n 0, 1) := by decide +kernel
theorem dX0_translateParts_149 : decode cX0_translateParts 149 = .ok (.bipush 41, 2) := by decide +kernel
theorem dX0_translateParts_151 : decode cX0_translateParts 151 = .ok (.iload_n 2, 1) := by decide +kernel
theorem dX0_translateParts_152 : decode cX0_translateParts 152 = .ok (.invokevirtual 30, 3) := by decide +kernel
theorem dX0_translateParts_155 : decode cX0_translateParts 155 = .ok (.aload_n 0, 1) := by decide +kernel
theorem dX0_translateParts_156 : decode cX0_translateParts 156 = .ok (.bipush 44, 2) := by decide +kernel
theorem dX0_translateParts_158 : decode cX0_translateParts 158 = .ok (.iconst (-1), 1) := by decide +kernel
theorem dX0_translateParts_159 : decode cX0_translateParts 159 = .ok (.invokevirtual 30, 3) := by decide +kernel
theorem dX0_translateParts_162 : decode cX0_translateParts 162 = .ok (.aload_n 0, 1) := by decide +kernel
theorem dX0_translateParts_163 : decode cX0_translateParts 163 = .ok (.bipush 41, 2) := by decide +kernel
theorem dX0_translateParts_165 : decode cX0_translateParts 165 = .ok (.iload_n 3, 1) := by decide +kernel
theorem dX0_translateParts_166 : decode cX0_translateParts 166 = .ok (.invokevirtual 30, 3) := by decide +kernel
theorem dX0_translateParts_169 : decode cX0_translateParts 169 = .ok (.aload_n 0, 1) := by decide +kernel
theorem dX0_translateParts_170 : decode cX0_translateParts 170 = .ok (.iload_n 1, 1) := by decide +kernel
theorem dX0_translateParts_171 : decode cX0_translateParts 171 = .ok (.iconst (-1), 1) := by decide +kernel
theorem dX0_translateParts_172 : decode cX0_translateParts 172 = .ok (.invokevirtual 30, 3) := by decide +kernel
theorem dX0_translateParts_175 : decode cX0_translateParts 175 = .ok (.goto 94, 3) := by decide +kernel
theorem dX0_translateParts_178 : decode cX0_translateParts 178 = .ok (.aload_n 0, 1) := by decide +kernel
theorem dX0_translateParts_179 : decode cX0_translateParts 179 = .ok (.bipush 41, 2) := by decide +kernel
theorem dX0_translateParts_181 : decode cX0_translateParts 181 = .ok (.iload_n 2, 1) := by decide +kernel
theorem dX0_translateParts_182 : decode cX0_translateParts 182 = .ok (.invokevirtual 30, 3) := by decide +kernel
theorem dX0_translateParts_185 : decode cX0_translateParts 185 = .ok (.aload_n 0, 1) := by decide +kernel
theorem dX0_translateParts_186 : decode cX0_translateParts 186 = .ok (.bipush 41, 2) := by decide +kernel
theorem dX0_translateParts_188 : decode cX0_translateParts 188 = .ok (.iload_n 3, 1) := by decide +kernel
theorem dX0_translateParts_189 : decode cX0_translateParts 189 = .ok (.invokevirtual 30, 3) := by decide +kernel
theorem dX0_translateParts_192 : decode cX0_translateParts 192 = .ok (.goto 77, 3) := by decide +kernel
theorem dX0_translateParts_195 : decode cX0_translateParts 195 = .ok (.aload_n 0, 1) := by decide +kernel
theorem dX0_translateParts_196 : decode cX0_translateParts 196 = .ok (.bipush 42, 2) := by decide +kernel
theorem dX0_translateParts_198 : decode cX0_translateParts 198 = .ok (.iload_n 2, 1) := by decide +kernel
theorem dX0_translateParts_199 : decode cX0_translateParts 199 = .ok (.invokevirtual 30, 3) := by decide +kernel
theorem dX0_translateParts_202 : decode cX0_translateParts 202 = .ok (.goto 67, 3) := by decide +kernel
theorem dX0_translateParts_205 : decode cX0_translateParts 205 = .ok (.aload_n 0, 1) := by decide +kernel
theorem dX0_translateParts_206 : decode cX0_translateParts 206 = .ok (.iload_n 2, 1) := by decide +kernel
theorem dX0_translateParts_207 : decode cX0_translateParts 207 = .ok (.iload_n 3, 1) := by decide +kernel
theorem dX0_translateParts_208 : decode cX0_translateParts 208 = .ok (.iload 4, 2) := by decide +kernel
theorem dX0_translateParts_210 : decode cX0_translateParts 210 = .ok (.invokevirtual 45, 3) := by decide +kernel
theorem dX0_translateParts_213 : decode cX0_translateParts 213 = .ok (.goto 56, 3) := by decide +kernel
theorem dX0_translateParts_216 : decode cX0_translateParts 216 = .ok (.aload_n 0, 1) := by decide +kernel
theorem dX0_translateParts_217 : decode cX0_translateParts 217 = .ok (.iload_n 3, 1) := by decide +kernel
theorem dX0_translateParts_218 : decode cX0_translateParts 218 = .ok (.invokevirtual 48, 3) := by decide +kernel
theorem dX0_translateParts_221 : decode cX0_translateParts 221 = .ok (.goto 48, 3) := by decide +kernel
theorem dX0_translateParts_224 : decode cX0_translateParts 224 = .ok (.aload_n 0, 1) := by decide +kernel
theorem dX0_translateParts_225 : decode cX0_translateParts 225 = .ok (.iload_n 2, 1) := by decide +kernel
theorem dX0_translateParts_226 : decode cX0_translateParts 226 = .ok (.iload_n 3, 1) := by decide +kernel
theorem dX0_translateParts_227 : decode cX0_translateParts 227 = .ok (.iload 4, 2) := by decide +kernel
theorem dX0_translateParts_229 : decode cX0_translateParts 229 = .ok (.invokevirtual 51, 3) := by decide +kernel
theorem dX0_translateParts_232 : decode cX0_translateParts 232 = .ok (.goto 37, 3) := by decide +kernel
theorem dX0_translateParts_235 : decode cX0_translateParts 235 = .ok (.aload_n 0, 1) := by decide +kernel
theorem dX0_translateParts_236 : decode cX0_translateParts 236 = .ok (.iload_n 2, 1) := by decide +kernel
theorem dX0_translateParts_237 : decode cX0_translateParts 237 = .ok (.iload_n 3, 1) := by decide +kernel
theorem dX0_translateParts_238 : decode cX0_translateParts 238 = .ok (.invokevirtual 54, 3) := by decide +kernel
theorem dX0_translateParts_241 : decode cX0_translateParts 241 = .ok (.goto 28, 3) := by decide +kernel
theorem dX0_translateParts_244 : decode cX0_translateParts 244 = .ok (.aload_n 0, 1) := by decide +kernel
theorem dX0_translateParts_245 : decode cX0_translateParts 245 = .ok (.iload_n 2, 1) := by decide +kernel
theorem dX0_translateParts_246 : decode cX0_translateParts 246 = .ok (.iload_n 3, 1) := by decide +kernel
theorem dX0_translateParts_247 : decode cX0_translateParts 247 = .ok (.iload 4, 2) := by decide +kernel
theorem dX0_translateParts_249 : decode cX0_translateParts 249 = .ok (.invokevirtual 57, 3) := by decide +kernel
theorem dX0_translateParts_252 : decode cX0_translateParts 252 = .ok (.goto 17, 3) := by decide +kernel
theorem dX0_translateParts_255 : decode cX0_translateParts 255 = .ok (.aload_n 0, 1) := by decide +kernel
theorem dX0_translateParts_256 : decode cX0_translateParts 256 = .ok (.iload_n 2, 1) := by decide +kernel
theorem dX0_translateParts_257 : decode cX0_translateParts 257 = .ok (.invokevirtual 60, 3) := by decide +kernel
theorem dX0_translateParts_260 : decode cX0_translateParts 260 = .ok (.goto 9, 3) := by decide +kernel
theorem dX0_translateParts_263 : decode cX0_translateParts 263 = .ok (.aload_n 0, 1) := by decide +kernel
theorem dX0_translateParts_264 : decode cX0_translateParts 264 = .ok (.iload_n 1, 1) := by decide +kernel
theorem dX0_translateParts_265 : decode cX0_translateParts 265 = .ok (.iload_n 2, 1) := by decide +kernel
theorem dX0_translateParts_266 : decode cX0_translateParts 266 = .ok (.invokevirtual 30, 3) := by decide +kernel
theorem dX0_translateParts_269 : decode cX0_translateParts 269 = .ok (.return_, 1) := by decide +kernel
theorem dX0_translateIf_0 : decode cX0_translateIf 0 = .ok (.aload_n 0, 1) := by decide +kernel
theorem dX0_translateIf_1 : decode cX0_translateIf 1 = .ok (.getfield 23, 3) := by decide +kernel
theorem dX0_translateIf_4 : decode cX0_translateIf 4 = .ok (.istore 4, 2) := by decide +kernel
theorem dX0_translateIf_6 : decode cX0_translateIf 6 = .ok (.aload_n 0, 1) := by decide +kernel
theorem dX0_translateIf_7 : decode cX0_translateIf 7 = .ok (.bipush 41, 2) := by decide +kernel
theorem dX0_translateIf_9 : decode cX0_translateIf 9 = .ok (.iload_n 1, 1) := by decide +kernel
theorem dX0_translateIf_10 : decode cX0_translateIf 10 = .ok (.invokevirtual 30, 3) := by decide +kernel
theorem dX0_translateIf_13 : decode cX0_translateIf 13 = .ok (.aload_n 0, 1) := by decide +kernel
theorem dX0_translateIf_14 : decode cX0_translateIf 14 = .ok (.bipush 46, 2) := by decide +kernel
theorem dX0_translateIf_16 : decode cX0_translateIf 16 = .ok (.iload 4, 2) := by decide +kernel
theorem dX0_translateIf_18 : decode cX0_translateIf 18 = .ok (.iconst 4, 1) := by decide +kernel
theorem dX0_translateIf_19 : decode cX0_translateIf 19 = .ok (.iadd, 1) := by decide +kernel
theorem dX0_translateIf_20 : decode cX0_translateIf 20 = .ok (.invokevirtual 30, 3) := by decide +kernel
theorem dX0_translateIf_23 : decode cX0_translateIf 23 = .ok (.aload_n 0, 1) := by decide +kernel
theorem dX0_translateIf_24 : decode cX0_translateIf 24 = .ok (.bipush 41, 2) := by decide +kernel
theorem dX0_translateIf_26 : decode cX0_translateIf 26 = .ok (.iload_n 2, 1) := by decide +kernel
theorem dX0_translateIf_27 : decode cX0_translateIf 27 = .ok (.invokevirtual 30, 3) := by decide +kernel
theorem dX0_translateIf_30 : decode cX0_translateIf 30 = .ok (.aload_n 0, 1) := by decide +kernel
theorem dX0_translateIf_31 : decode cX0_translateIf 31 = .ok (.bipush 40, 2) := by decide +kernel
theorem dX0_translateIf_33 : decode cX0_translateIf 33 = .ok (.iconst (-1), 1) := by decide +kernel
theorem dX0_translateIf_34 : decode cX0_translateIf 34 = .ok (.invokevirtual 30, 3) := by decide +kernel
theorem dX0_translateIf_37 : decode cX0_translateIf 37 = .ok (.aload_n 0, 1) := by decide +kernel
theorem dX0_translateIf_38 : decode cX0_translateIf 38 = .ok (.bipush 41, 2) := by decide +kernel
theorem dX0_translateIf_40 : decode cX0_translateIf 40 = .ok (.iload_n 3, 1) := by decide +kernel
theorem dX0_translateIf_41 : decode cX0_translateIf 41 = .ok (.invokevirtual 30, 3) := by decide +kernel
theorem dX0_translateIf_44 : decode cX0_translateIf 44 = .ok (.return_, 1) := by decide +kernel
theorem dX0_translateLoop_0 : decode cX0_translateLoop 0 = .ok (.aload_n 0, 1) := by decide +kernel
theorem dX0_translateLoop_1 : decode cX0_translateLoop 1 = .ok (.getfield 23, 3) := by decide +kernel
theorem dX0_translateLoop_4 : decode cX0_translateLoop 4 = .ok (.istore_n 2, 1) := by decide +kernel
theorem dX0_translateLoop_5 : decode cX0_translateLoop 5 = .ok (.aload_n 0, 1) := by decide +kernel
theorem dX0_translateLoop_6 : decode cX0_translateLoop 6 = .ok (.bipush 47, 2) := by decide +kernel
theorem dX0_translateLoop_8 : decode cX0_translateLoop 8 = .ok (.iload_n 2, 1) := by decide +kernel
theorem dX0_translateLoop_9 : decode cX0_translateLoop 9 = .ok (.iconst 3, 1) := by decide +kernel
theorem dX0_translateLoop_10 : decode cX0_translateLoop 10 = .ok (.iadd, 1) := by decide +kernel
theorem dX0_translateLoop_11 : decode cX0_translateLoop 11 = .ok (.invokevirtual 30, 3) := by decide +kernel
theorem dX0_translateLoop_14 : decode cX0_translateLoop 14 = .ok (.aload_n 0, 1) := by decide +kernel
theorem dX0_translateLoop_15 : decode cX0_translateLoop 15 = .ok (.bipush 42, 2) := by decide +kernel
theorem dX0_translateLoop_17 : decode cX0_translateLoop 17 = .ok (.iload_n 1, 1) := by decide +kernel
theorem dX0_translateLoop_18 : decode cX0_translateLoop 18 = .ok (.invokevirtual 30, 3) := by decide +kernel
theorem dX0_translateLoop_21 : decode cX0_translateLoop 21 = .ok (.aload_n 0, 1) := by decide +kernel
theorem dX0_translateLoop_22 : decode cX0_translateLoop 22 = .ok (.bipush 45, 2) := by decide +kernel
theorem dX0_translateLoop_24 : decode cX0_translateLoop 24 = .ok (.iload_n 2, 1) := by decide +kernel
theorem dX0_translateLoop_25 : decode cX0_translateLoop 25 = .ok (.invokevirtual 30, 3) := by decide +kernel
theorem dX0_translateLoop_28 : decode cX0_translateLoop 28 = .ok (.aload_n 0, 1) := by decide +kernel
theorem dX0_translateLoop_29 : decode cX0_translateLoop 29 = .ok (.bipush 49, 2) := by decide +kernel
theorem dX0_translateLoop_31 : decode cX0_translateLoop 31 = .ok (.iload_n 2, 1) := by decide +kernel
theorem dX0_translateLoop_32 : decode cX0_translateLoop 32 = .ok (.invokevirtual 30, 3) := by decide +kernel
theorem dX0_translateLoop_35 : decode cX0_translateLoop 35 = .ok (.return_, 1) := by decide +kernel
theorem dX0_translateTry_0 : decode cX0_translateTry 0 = .ok (.aload_n 0, 1) := by decide +kernel
theorem dX0_translateTry_1 : decode cX0_translateTry 1 = .ok (.getfield 23, 3) := by decide +kernel
theorem dX0_translateTry_4 : decode cX0_translateTry 4 = .ok (.istore 4, 2) := by decide +kernel
theorem dX0_translateTry_6 : decode cX0_translateTry 6 = .ok (.aload_n 0, 1) := by decide +kernel
theorem dX0_translateTry_7 : decode cX0_translateTry 7 = .ok (.bipush 47, 2) := by decide +kernel
theorem dX0_translateTry_9 : decode cX0_translateTry 9 = .ok (.iload 4, 2) := by decide +kernel
theorem dX0_translateTry_11 : decode cX0_translateTry 11 = .ok (.iconst 3, 1) := by decide +kernel
theorem dX0_translateTry_12 : decode cX0_translateTry 12 = .ok (.iadd, 1) := by decide +kernel
theorem dX0_translateTry_13 : decode cX0_translateTry 13 = .ok (.invokevirtual 30, 3) := by decide +kernel
theorem dX0_translateTry_16 : decode cX0_translateTry 16 = .ok (.aload_n 0, 1) := by decide +kernel
theorem dX0_translateTry_17 : decode cX0_translateTry 17 = .ok (.bipush 41, 2) := by decide +kernel
theorem dX0_translateTry_19 : decode cX0_translateTry 19 = .ok (.iload_n 2, 1) := by decide +kernel
theorem dX0_translateTry_20 : decode cX0_translateTry 20 = .ok (.invokevirtual 30, 3) := by decide +kernel
theorem dX0_translateTry_23 : decode cX0_translateTry 23 = .ok (.aload_n 0, 1) := by decide +kernel
theorem dX0_translateTry_24 : decode cX0_translateTry 24 = .ok (.bipush 40, 2) := by decide +kernel
theorem dX0_translateTry_26 : decode cX0_translateTry 26 = .ok (.iconst (-1), 1) := by decide +kernel
theorem dX0_translateTry_27 : decode cX0_translateTry 27 = .ok (.invokevirtual 30, 3) := by decide +kernel
theorem dX0_translateTry_30 : decode cX0_translateTry 30 = .ok (.aload_n 0, 1) := by decide +kernel
theorem dX0_translateTry_31 : decode cX0_translateTry 31 = .ok (.bipush 48, 2) := by decide +kernel
theorem dX0_translateTry_33 : decode cX0_translateTry 33 = .ok (.iload_n 1, 1) := by decide +kernel
theorem dX0_translateTry_34 : decode cX0_translateTry 34 = .ok (.invokevirtual 30, 3) := by decide +kernel
theorem dX0_translateTry_37 : decode cX0_translateTry 37 = .ok (.aload_n 0, 1) := by decide +kernel
theorem dX0_translateTry_38 : decode cX0_translateTry 38 = .ok (.bipush 43, 2) := by decide +kernel
theorem dX0_translateTry_40 : decode cX0_translateTry 40 = .ok (.iload_n 3, 1) := by decide +kernel
theorem dX0_translateTry_41 : decode cX0_translateTry 41 = .ok (.invokevirtual 30, 3) := by decide +kernel
theorem dX0_translateTry_44 : decode cX0_translateTry 44 = .ok (.return_, 1) := by decide +kernel
theorem dX0_translateFinally_0 : decode cX0_translateFinally 0 = .ok (.aload_n 0, 1) := by decide +kernel
theorem dX0_translateFinally_1 : decode cX0_translateFinally 1 = .ok (.getfield 23, 3) := by decide +kernel
theorem dX0_translateFinally_4 : decode cX0_translateFinally 4 = .ok (.istore_n 3, 1) := by decide +kernel
theorem dX0_translateFinally_5 : decode cX0_translateFinally 5 = .ok (.aload_n 0, 1) := by decide +kernel
theorem dX0_translateFinally_6 : decode cX0_translateFinally 6 = .ok (.bipush 47, 2) := by decide +kernel
theorem dX0_translateFinally_8 : decode cX0_translateFinally 8 = .ok (.iload_n 3, 1) := by decide +kernel
theorem dX0_translateFinally_9 : decode cX0_translateFinally 9 = .ok (.iconst 2, 1) := by decide +kernel
theorem dX0_translateFinally_10 : decode cX0_translateFinally 10 = .ok (.iadd, 1) := by decide +kernel
theorem dX0_translateFinally_11 : decode cX0_translateFinally 11 = .ok (.invokevirtual 30, 3) := by decide +kernel
theorem dX0_translateFinally_14 : decode cX0_translateFinally 14 = .ok (.aload_n 0, 1) := by decide +kernel
theorem dX0_translateFinally_15 : decode cX0_translateFinally 15 = .ok (.bipush 41, 2) := by decide +kernel
theorem dX0_translateFinally_17 : decode cX0_translateFinally 17 = .ok (.iload_n 1, 1) := by decide +kernel
theorem dX0_translateFinally_18 : decode cX0_translateFinally 18 = .ok (.invokevirtual 30, 3) := by decide +kernel
theorem dX0_translateFinally_21 : decode cX0_translateFinally 21 = .ok (.aload_n 0, 1) := by decide +kernel
theorem dX0_translateFinally_22 : decode cX0_translateFinally 22 = .ok (.bipush 50, 2) := by decide +kernel
theorem dX0_translateFinally_24 : decode cX0_translateFinally 24 = .ok (.iconst (-1), 1) := by decide +kernel
theorem dX0_translateFinally_25 : decode cX0_translateFinally 25 = .ok (.invokevirtual 30, 3) := by decide +kernel
theorem dX0_translateFinally_28 : decode cX0_translateFinally 28 = .ok (.aload_n 0, 1) := by decide +kernel
theorem dX0_translateFinally_29 : decode cX0_translateFinally 29 = .ok (.bipush 47, 2) := by decide +kernel
theorem dX0_translateFinally_31 : decode cX0_translateFinally 31 = .ok (.iload_n 3, 1) := by decide +kernel
theorem dX0_translateFinally_32 : decode cX0_translateFinally 32 = .ok (.bipush 7, 2) := by decide +kernel
theorem dX0_translateFinally_34 : decode cX0_translateFinally 34 = .ok (.iadd, 1) := by decide +kernel
theorem dX0_translateFinally_35 : decode cX0_translateFinally 35 = .ok (.invokevirtual 30, 3) := by decide +kernel
theorem dX0_translateFinally_38 : decode cX0_translateFinally 38 = .ok (.aload_n 0, 1) := by decide +kernel
theorem dX0_translateFinally_39 : decode cX0_translateFinally 39 = .ok (.bipush 41, 2) := by decide +kernel
theorem dX0_translateFinally_41 : decode cX0_translateFinally 41 = .ok (.iload_n 2, 1) := by decide +kernel
theorem dX0_translateFinally_42 : decode cX0_translateFinally 42 = .ok (.invokevirtual 30, 3) := by decide +kernel
theorem dX0_translateFinally_45 : decode cX0_translateFinally 45 = .ok (.aload_n 0, 1) := by decide +kernel
theorem dX0_translateFinally_46 : decode cX0_translateFinally 46 = .ok (.bipush 51, 2) := by decide +kernel
theorem dX0_translateFinally_48 : decode cX0_translateFinally 48 = .ok (.iconst (-1), 1) := by decide +kernel
theorem dX0_translateFinally_49 : decode cX0_translateFinally 49 = .ok (.invokevirtual 30, 3) := by decide +kernel
theorem dX0_translateFinally_52 : decode cX0_translateFinally 52 = .ok (.aload_n 0, 1) := by decide +kernel
theorem dX0_translateFinally_53 : decode cX0_translateFinally 53 = .ok (.bipush 40, 2) := by decide +kernel
theorem dX0_translateFinally_55 : decode cX0_translateFinally 55 = .ok (.iconst (-1), 1) := by decide +kernel
theorem dX0_translateFinally_56 : decode cX0_translateFinally 56 = .ok (.invokevirtual 30, 3) := by decide +kernel
theorem dX0_translateFinally_59 : decode cX0_translateFinally 59 = .ok (.aload_n 0, 1) := by decide +kernel
theorem dX0_translateFinally_60 : decode cX0_translateFinally 60 = .ok (.bipush 52, 2) := by decide +kernel
theorem dX0_translateFinally_62 : decode cX0_translateFinally 62 = .ok (.iconst (-1), 1) := by decide +kernel
theorem dX0_translateFinally_63 : decode cX0_translateFinally 63 = .ok (.invokevirtual 30, 3) := by decide +kernel
theorem dX0_translateFinally_66 : decode cX0_translateFinally 66 = .ok (.return_, 1) := by decide +kernel
theorem dX0_translateOption_0 : decode cX0_translateOption 0 = .ok (.aload_n 0, 1) := by decide +kernel
theorem dX0_translateOption_1 : decode cX0_translateOption 1 = .ok (.getfield 23, 3) := by decide +kernel
theorem dX0_translateOption_4 : decode cX0_translateOption 4 = .ok (.istore 4, 2) := by decide +kernel
theorem dX0_translateOption_6 : decode cX0_translateOption 6 = .ok (.aload_n 0, 1) := by decide +kernel
theorem dX0_translateOption_7 : decode cX0_translateOption 7 = .ok (.bipush 41, 2) := by decide +kernel
theorem dX0_translateOption_9 : decode cX0_translateOption 9 = .ok (.iload_n 2, 1) := by decide +kernel
theorem dX0_translateOption_10 : decode cX0_translateOption 10 = .ok (.invokevirtual 30, 3) := by decide +kernel
theorem dX0_translateOption_13 : decode cX0_translateOption 13 = .ok (.aload_n 0, 1) := by decide +kernel
theorem dX0_translateOption_14 : decode cX0_translateOption 14 = .ok (.bipush 47, 2) := by decide +kernel
theorem dX0_translateOption_16 : decode cX0_translateOption 16 = .ok (.iload 4, 2) := by decide +kernel
theorem dX0_translateOption_18 : decode cX0_translateOption 18 = .ok (.iconst 4, 1) := by decide +kernel
theorem dX0_translateOption_19 : decode cX0_translateOption 19 = .ok (.iadd, 1) := by decide +kernel
theorem dX0_translateOption_20 : decode cX0_translateOption 20 = .ok (.invokevirtual 30, 3) := by decide +kernel
theorem dX0_translateOption_23 : decode cX0_translateOption 23 = .ok (.aload_n 0, 1) := by decide +kernel
theorem dX0_translateOption_24 : decode cX0_translateOption 24 = .ok (.bipush 26, 2) := by decide +kernel
theorem dX0_translateOption_26 : decode cX0_translateOption 26 = .ok (.iload_n 1, 1) := by decide +kernel
theorem dX0_translateOption_27 : decode cX0_translateOption 27 = .ok (.invokevirtual 30, 3) := by decide +kernel
theorem dX0_translateOption_30 : decode cX0_translateOption 30 = .ok (.aload_n 0, 1) := by decide +kernel
theorem dX0_translateOption_31 : decode cX0_translateOption 31 = .ok (.bipush 41, 2) := by decide +kernel
theorem dX0_translateOption_33 : decode cX0_translateOption 33 = .ok (.iload_n 3, 1) := by decide +kernel
theorem dX0_translateOption_34 : decode cX0_translateOption 34 = .ok (.invokevirtual 30, 3) := by decide +kernel
theorem dX0_translateOption_37 : decode cX0_translateOption 37 = .ok (.aload_n 0, 1) := by decide +kernel
theorem dX0_translateOption_38 : decode cX0_translateOption 38 = .ok (.bipush 53, 2) := by decide +kernel
theorem dX0_translateOption_40 : decode cX0_translateOption 40 = .ok (.iload_n 1, 1) := by decide +kernel
theorem dX0_translateOption_41 : decode cX0_translateOption 41 = .ok (.invokevirtual 30, 3) := by decide +kernel
theorem dX0_translateOption_44 : decode cX0_translateOption 44 = .ok (.return_, 1) := by decide +kernel
theorem dX0_translateEach_0 : decode cX0_translateEach 0 = .ok (.aload_n 0, 1) := by decide +kernel
theorem dX0_translateEach_1 : decode cX0_translateEach 1 = .ok (.getfield 23, 3) := by decide +kernel
theorem dX0_translateEach_4 : decode cX0_translateEach 4 = .ok (.istore_n 2, 1) := by decide +kernel
theorem dX0_translateEach_5 : decode cX0_translateEach 5 = .ok (.aload_n 0, 1) := by decide +kernel
theorem dX0_translateEach_6 : decode cX0_translateEach 6 = .ok (.bipush 47, 2) := by decide +kernel
theorem dX0_translateEach_8 : decode cX0_translateEach 8 = .ok (.iload_n 2, 1) := by decide +kernel
theorem dX0_translateEach_9 : decode cX0_translateEach 9 = .ok (.bipush 6, 2) := by decide +kernel
theorem dX0_translateEach_11 : decode cX0_translateEach 11 = .ok (.iadd, 1) := by decide +kernel
theorem dX0_translateEach_12 : decode cX0_translateEach 12 = .ok (.invokevirtual 30, 3) := by decide +kernel
theorem dX0_translateEach_15 : decode cX0_translateEach 15 = .ok (.aload_n 0, 1) := by decide +kernel
theorem dX0_translateEach_16 : decode cX0_translateEach 16 = .ok (.bipush 36, 2) := by decide +kernel
theorem dX0_translateEach_18 : decode cX0_translateEach 18 = .ok (.iconst (-1), 1) := by decide +kernel
theorem dX0_translateEach_19 : decode cX0_translateEach 19 = .ok (.invokevirtual 30, 3) := by decide +kernel
theorem dX0_translateEach_22 : decode cX0_translateEach 22 = .ok (.aload_n 0, 1) := by decide +kernel
theorem dX0_translateEach_23 : decode cX0_translateEach 23 = .ok (.bipush 54, 2) := by decide +kernel
theorem dX0_translateEach_25 : decode cX0_translateEach 25 = .ok (.iload_n 2, 1) := by decide +kernel
theorem dX0_translateEach_26 : decode cX0_translateEach 26 = .ok (.iconst 5, 1) := by decide +kernel
theorem dX0_translateEach_27 : decode cX0_translateEach 27 = .ok (.iadd, 1) := by decide +kernel
theorem dX0_translateEach_28 : decode cX0_translateEach 28 = .ok (.invokevirtual 30, 3) := by decide +kernel
theorem dX0_translateEach_31 : decode cX0_translateEach 31 = .ok (.aload_n 0, 1) := by decide +kernel
theorem dX0_translateEach_32 : decode cX0_translateEach 32 = .ok (.bipush 41, 2) := by decide +kernel
theorem dX0_translateEach_34 : decode cX0_translateEach 34 = .ok (.iload_n 1, 1) := by decide +kernel
theorem dX0_translateEach_35 : decode cX0_translateEach 35 = .ok (.invokevirtual 30, 3) := by decide +kernel
theorem dX0_translateEach_38 : decode cX0_translateEach 38 = .ok (.aload_n 0, 1) := by decide +kernel
theorem dX0_translateEach_39 : decode cX0_translateEach 39 = .ok (.bipush 45, 2) := by decide +kernel
theorem dX0_translateEach_41 : decode cX0_translateEach 41 = .ok (.iload_n 2, 1) := by decide +kernel
theorem dX0_translateEach_42 : decode cX0_translateEach 42 = .ok (.iconst 2, 1) := by decide +kernel
theorem dX0_translateEach_43 : decode cX0_translateEach 43 = .ok (.iadd, 1) := by decide +kernel
theorem dX0_translateEach_44 : decode cX0_translateEach 44 = .ok (.invokevirtual 30, 3) := by decide +kernel
theorem dX0_translateEach_47 : decode cX0_translateEach 47 = .ok (.aload_n 0, 1) := by decide +kernel
theorem dX0_translateEach_48 : decode cX0_translateEach 48 = .ok (.bipush 55, 2) := by decide +kernel
theorem dX0_translateEach_50 : decode cX0_translateEach 50 = .ok (.iconst (-1), 1) := by decide +kernel
theorem dX0_translateEach_51 : decode cX0_translateEach 51 = .ok (.invokevirtual 30, 3) := by decide +kernel
theorem dX0_translateEach_54 : decode cX0_translateEach 54 = .ok (.aload_n 0, 1) := by decide +kernel
theorem dX0_translateEach_55 : decode cX0_translateEach 55 = .ok (.bipush 56, 2) := by decide +kernel
theorem dX0_translateEach_57 : decode cX0_translateEach 57 = .ok (.iconst (-1), 1) := by decide +kernel
theorem dX0_translateEach_58 : decode cX0_translateEach 58 = .ok (.invokevirtual 30, 3) := by decide +kernel
theorem dX0_translateEach_61 : decode cX0_translateEach 61 = .ok (.return_, 1) := by decide +kernel
theorem dX0_translateCall_0 : decode cX0_translateCall 0 = .ok (.iload_n 2, 1) := by decide +kernel
theorem dX0_translateCall_1 : decode cX0_translateCall 1 = .ok (.iconst (-1), 1) := by decide +kernel
theorem dX0_translateCall_2 : decode cX0_translateCall 2 = .ok (.if_icmp .ne 7, 3) := by decide +kernel
theorem dX0_translateCall_5 : decode cX0_translateCall 5 = .ok (.iconst 0, 1) := by decide +kernel
theorem dX0_translateCall_6 : decode cX0_translateCall 6 = .ok (.goto 13, 3) := by decide +kernel
theorem dX0_translateCall_9 : decode cX0_translateCall 9 = .ok (.iload_n 3, 1) := by decide +kernel
theorem dX0_translateCall_10 : decode cX0_translateCall 10 = .ok (.iconst (-1), 1) := by decide +kernel
theorem dX0_translateCall_11 : decode cX0_translateCall 11 = .ok (.if_icmp .ne 7, 3) := by decide +kernel
theorem dX0_translateCall_14 : decode cX0_translateCall 14 = .ok (.iconst 1, 1) := by decide +kernel
theorem dX0_translateCall_15 : decode cX0_translateCall 15 = .ok (.goto 4, 3) := by decide +kernel
theorem dX0_translateCall_18 : decode cX0_translateCall 18 = .ok (.iconst 2, 1) := by decide +kernel
theorem dX0_translateCall_19 : decode cX0_translateCall 19 = .ok (.istore 4, 2) := by decide +kernel
theorem dX0_translateCall_21 : decode cX0_translateCall 21 = .ok (.iload 4, 2) := by decide +kernel
theorem dX0_translateCall_23 : decode cX0_translateCall 23 = .ok (.ifCond .le 10, 3) := by decide +kernel
theorem dX0_translateCall_26 : decode cX0_translateCall 26 = .ok (.aload_n 0, 1) := by decide +kernel
theorem dX0_translateCall_27 : decode cX0_translateCall 27 = .ok (.bipush 41, 2) := by decide +kernel
theorem dX0_translateCall_29 : decode cX0_translateCall 29 = .ok (.iload_n 2, 1) := by decide +kernel
theorem dX0_translateCall_30 : decode cX0_translateCall 30 = .ok (.invokevirtual 30, 3) := by decide +kernel
theorem dX0_translateCall_33 : decode cX0_translateCall 33 = .ok (.iload 4, 2) := by decide +kernel
theorem dX0_translateCall_35 : decode cX0_translateCall 35 = .ok (.iconst 1, 1) := by decide +kernel
theorem dX0_translateCall_36 : decode cX0_translateCall 36 = .ok (.if_icmp .le 17, 3) := by decide +kernel
theorem dX0_translateCall_39 : decode cX0_translateCall 39 = .ok (.aload_n 0, 1) := by decide +kernel
theorem dX0_translateCall_40 : decode cX0_translateCall 40 = .ok (.bipush 44, 2) := by decide +kernel
theorem dX0_translateCall_42 : decode cX0_translateCall 42 = .ok (.iconst (-1), 1) := by decide +kernel
theorem dX0_translateCall_43 : decode cX0_translateCall 43 = .ok (.invokevirtual 30, 3) := by decide +kernel
theorem dX0_translateCall_46 : decode cX0_translateCall 46 = .ok (.aload_n 0, 1) := by decide +kernel
theorem dX0_translateCall_47 : decode cX0_translateCall 47 = .ok (.bipush 41, 2) := by decide +kernel
theorem dX0_translateCall_49 : decode cX0_translateCall 49 = .ok (.iload_n 3, 1) := by decide +kernel
theorem dX0_translateCall_50 : decode cX0_translateCall 50 = .ok (.invokevirtual 30, 3) := by decide +kernel
theorem dX0_translateCall_53 : decode cX0_translateCall 53 = .ok (.aload_n 0, 1) := by decide +kernel
theorem dX0_translateCall_54 : decode cX0_translateCall 54 = .ok (.bipush 18, 2) := by decide +kernel
theorem dX0_translateCall_56 : decode cX0_translateCall 56 = .ok (.iload 4, 2) := by decide +kernel
theorem dX0_translateCall_58 : decode cX0_translateCall 58 = .ok (.bipush 6, 2) := by decide +kernel
theorem dX0_translateCall_60 : decode cX0_translateCall 60 = .ok (.imul, 1) := by decide +kernel
theorem dX0_translateCall_61 : decode cX0_translateCall 61 = .ok (.iload_n 1, 1) := by decide +kernel
theorem dX0_translateCall_62 : decode cX0_translateCall 62 = .ok (.iadd, 1) := by decide +kernel
theorem dX0_translateCall_63 : decode cX0_translateCall 63 = .ok (.invokevirtual 30, 3) := by decide +kernel
theorem dX0_translateCall_66 : decode cX0_translateCall 66 = .ok (.aload_n 0, 1) := by decide +kernel
theorem dX0_translateCall_67 : decode cX0_translateCall 67 = .ok (.bipush 57, 2) := by decide +kernel
theorem dX0_translateCall_69 : decode cX0_translateCall 69 = .ok (.iconst (-1), 1) := by decide +kernel
theorem dX0_translateCall_70 : decode cX0_translateCall 70 = .ok (.invokevirtual 30, 3) := by decide +kernel
theorem dX0_translateCall_73 : decode cX0_translateCall 73 = .ok (.aload_n 0, 1) := by decide +kernel
theorem dX0_translateCall_74 : decode cX0_translateCall 74 = .ok (.bipush 58, 2) := by decide +kernel
theorem dX0_translateCall_76 : decode cX0_translateCall 76 = .ok (.iconst (-1), 1) := by decide +kernel
theorem dX0_translateCall_77 : decode cX0_translateCall 77 = .ok (.invokevirtual 30, 3) := by decide +kernel
theorem dX0_translateCall_80 : decode cX0_translateCall 80 = .ok (.return_, 1) := by decide +kernel
theorem dX0_translateInsert_0 : decode cX0_translateInsert 0 = .ok (.aload_n 0, 1) := by decide +kernel
theorem dX0_translateInsert_1 : decode cX0_translateInsert 1 = .ok (.getfield 23, 3) := by decide +kernel
theorem dX0_translateInsert_4 : decode cX0_translateInsert 4 = .ok (.istore_n 2, 1) := by decide +kernel
theorem dX0_translateInsert_5 : decode cX0_translateInsert 5 = .ok (.aload_n 0, 1) := by decide +kernel
theorem dX0_translateInsert_6 : decode cX0_translateInsert 6 = .ok (.bipush 41, 2) := by decide +kernel
theorem dX0_translateInsert_8 : decode cX0_translateInsert 8 = .ok (.iload_n 1, 1) := by decide +kernel
theorem dX0_translateInsert_9 : decode cX0_translateInsert 9 = .ok (.invokevirtual 30, 3) := by decide +kernel
theorem dX0_translateInsert_12 : decode cX0_translateInsert 12 = .ok (.aload_n 0, 1) := by decide +kernel
theorem dX0_translateInsert_13 : decode cX0_translateInsert 13 = .ok (.bipush 29, 2) := by decide +kernel
theorem dX0_translateInsert_15 : decode cX0_translateInsert 15 = .ok (.iload_n 2, 1) := by decide +kernel
theorem dX0_translateInsert_16 : decode cX0_translateInsert 16 = .ok (.iconst 5, 1) := by decide +kernel
theorem dX0_translateInsert_17 : decode cX0_translateInsert 17 = .ok (.iadd, 1) := by decide +kernel
theorem dX0_translateInsert_18 : decode cX0_translateInsert 18 = .ok (.invokevirtual 30, 3) := by decide +kernel
theorem dX0_translateInsert_21 : decode cX0_translateInsert 21 = .ok (.aload_n 0, 1) := by decide +kernel
theorem dX0_translateInsert_22 : decode cX0_translateInsert 22 = .ok (.bipush 57, 2) := by decide +kernel
theorem dX0_translateInsert_24 : decode cX0_translateInsert 24 = .ok (.iconst (-1), 1) := by decide +kernel
theorem dX0_translateInsert_25 : decode cX0_translateInsert 25 = .ok (.invokevirtual 30, 3) := by decide +kernel
theorem dX0_translateInsert_28 : decode cX0_translateInsert 28 = .ok (.aload_n 0, 1) := by decide +kernel
theorem dX0_translateInsert_29 : decode cX0_translateInsert 29 = .ok (.bipush 58, 2) := by decide +kernel
theorem dX0_translateInsert_31 : decode cX0_translateInsert 31 = .ok (.iconst (-1), 1) := by decide +kernel
theorem dX0_translateInsert_32 : decode cX0_translateInsert 32 = .ok (.invokevirtual 30, 3) := by decide +kernel
theorem dX0_translateInsert_35 : decode cX0_translateInsert 35 = .ok (.aload_n 0, 1) := by decide +kernel
theorem dX0_translateInsert_36 : decode cX0_translateInsert 36 = .ok (.bipush 59, 2) := by decide +kernel
theorem dX0_translateInsert_38 : decode cX0_translateInsert 38 = .ok (.iconst (-1), 1) := by decide +kernel
theorem dX0_translateInsert_39 : decode cX0_translateInsert 39 = .ok (.invokevirtual 30, 3) := by decide +kernel
theorem dX0_translateInsert_42 : decode cX0_translateInsert 42 = .ok (.aload_n 0, 1) := by decide +kernel
theorem dX0_translateInsert_43 : decode cX0_translateInsert 43 = .ok (.bipush 60, 2) := by decide +kernel
theorem dX0_translateInsert_45 : decode cX0_translateInsert 45 = .ok (.iconst (-1), 1) := by decide +kernel
theorem dX0_translateInsert_46 : decode cX0_translateInsert 46 = .ok (.invokevirtual 30, 3) := by decide +kernel
theorem dX0_translateInsert_49 : decode cX0_translateInsert 49 = .ok (.return_, 1) := by decide +kernel
theorem dX2_init_0 : decode cX2_init 0 = .ok (.aload_n 0, 1) := by decide +kernel
theorem dX2_init_1 : decode cX2_init 1 = .ok (.invokespecial 3, 3) := by decide +kernel
theorem dX2_init_4 : decode cX2_init 4 = .ok (.aload_n 0, 1) := by decide +kernel
theorem dX2_init_5 : decode cX2_init 5 = .ok (.new 9, 3) := by decide +kernel
theorem dX2_init_8 : decode cX2_init 8 = .ok (.dup, 1) := by decide +kernel
theorem dX2_init_9 : decode cX2_init 9 = .ok (.invokespecial 11, 3) := by decide +kernel
theorem dX2_init_12 : decode cX2_init 12 = .ok (.putfield 12, 3) := by decide +kernel
theorem dX2_init_15 : decode cX2_init 15 = .ok (.aload_n 0, 1) := by decide +kernel
theorem dX2_init_16 : decode cX2_init 16 = .ok (.new 18, 3) := by decide +kernel
theorem dX2_init_19 : decode cX2_init 19 = .ok (.dup, 1) := by decide +kernel
theorem dX2_init_20 : decode cX2_init 20 = .ok (.invokespecial 20, 3) := by decide +kernel
theorem dX2_init_23 : decode cX2_init 23 = .ok (.putfield 21, 3) := by decide +kernel
theorem dX2_init_26 : decode cX2_init 26 = .ok (.aload_n 0, 1) := by decide +kernel
theorem dX2_init_27 : decode cX2_init 27 = .ok (.new 25, 3) := by decide +kernel
theorem dX2_init_30 : decode cX2_init 30 = .ok (.dup, 1) := by decide +kernel
theorem dX2_init_31 : decode cX2_init 31 = .ok (.invokespecial 27, 3) := by decide +kernel
theorem dX2_init_34 : decode cX2_init 34 = .ok (.putfield 28, 3) := by decide +kernel
theorem dX2_init_37 : decode cX2_init 37 = .ok (.aload_n 0, 1) := by decide +kernel
theorem dX2_init_38 : decode cX2_init 38 = .ok (.new 32, 3) := by decide +kernel
theorem dX2_init_41 : decode cX2_init 41 = .ok (.dup, 1) := by decide +kernel
theorem dX2_init_42 : decode cX2_init 42 = .ok (.invokespecial 34, 3) := by decide +kernel
theorem dX2_init_45 : decode cX2_init 45 = .ok (.putfield 35, 3) := by decide +kernel
theorem dX2_init_48 : decode cX2_init 48 = .ok (.aload_n 0, 1) := by decide +kernel
theorem dX2_init_49 : decode cX2_init 49 = .ok (.aload_n 1, 1) := by decide +kernel
theorem dX2_init_50 : decode cX2_init 50 = .ok (.putfield 39, 3) := by decide +kernel
theorem dX2_init_53 : decode cX2_init 53 = .ok (.aload_n 0, 1) := by decide +kernel
theorem dX2_init_54 : decode cX2_init 54 = .ok (.aload_n 2, 1) := by decide +kernel
theorem dX2_init_55 : decode cX2_init 55 = .ok (.putfield 43, 3) := by decide +kernel
theorem dX2_init_58 : decode cX2_init 58 = .ok (.aload_n 0, 1) := by decide +kernel
theorem dX2_init_59 : decode cX2_init 59 = .ok (.aload_n 3, 1) := by decide +kernel
theorem dX2_init_60 : decode cX2_init 60 = .ok (.putfield 46, 3) := by decide +kernel
theorem dX2_init_63 : decode cX2_init 63 = .ok (.return_, 1) := by decide +kernel
theorem dX2_open_0 : decode cX2_open 0 = .ok (.aload_n 0, 1) := by decide +kernel
theorem dX2_open_1 : decode cX2_open 1 = .ok (.getfield 12, 3) := by decide +kernel
theorem dX2_open_4 : decode cX2_open 4 = .ok (.aload_n 0, 1) := by decide +kernel
theorem dX2_open_5 : decode cX2_open 5 = .ok (.getfield 43, 3) := by decide +kernel
theorem dX2_open_8 : decode cX2_open 8 = .ok (.invokevirtual 50, 3) := by decide +kernel
theorem dX2_open_11 : decode cX2_open 11 = .ok (.aload_n 0, 1) := by decide +kernel
theorem dX2_open_12 : decode cX2_open 12 = .ok (.getfield 28, 3) := by decide +kernel
theorem dX2_open_15 : decode cX2_open 15 = .ok (.invokevirtual 54, 3) := by decide +kernel
theorem dX2_open_18 : decode cX2_open 18 = .ok (.aload_n 0, 1) := by decide +kernel
theorem dX2_open_19 : decode cX2_open 19 = .ok (.getfield 35, 3) := by decide +kernel
theorem dX2_open_22 : decode cX2_open 22 = .ok (.invokevirtual 57, 3) := by decide +kernel
theorem dX2_open_25 : decode cX2_open 25 = .ok (.aload_n 0, 1) := by decide +kernel
theorem dX2_open_26 : decode cX2_open 26 = .ok (.aload_n 3, 1) := by decide +kernel
theorem dX2_open_27 : decode cX2_open 27 = .ok (.putfield 46, 3) := by decide +kernel
theorem dX2_open_30 : decode cX2_open 30 = .ok (.aload_n 0, 1) := by decide +kernel
theorem dX2_open_31 : decode cX2_open 31 = .ok (.iload_n 2, 1) := by decide +kernel
theorem dX2_open_32 : decode cX2_open 32 = .ok (.putfield 58, 3) := by decide +kernel
theorem dX2_open_35 : decode cX2_open 35 = .ok (.aload_n 0, 1) := by decide +kernel
theorem dX2_open_36 : decode cX2_open 36 = .ok (.iconst 0, 1) := by decide +kernel
theorem dX2_open_37 : decode cX2_open 37 = .ok (.putfield 62, 3) := by decide +kernel
theorem dX2_open_40 : decode cX2_open 40 = .ok (.aload_n 0, 1) := by decide +kernel
theorem dX2_open_41 : decode cX2_open 41 = .ok (.iconst 0, 1) := by decide +kernel
theorem dX2_open_42 : decode cX2_open 42 = .ok (.putfield 65, 3) := by decide +kernel
theorem dX2_open_45 : decode cX2_open 45 = .ok (.aload_n 0, 1) := by decide +kernel
theorem dX2_open_46 : decode cX2_open 46 = .ok (.iconst (-1), 1) := by decide +kernel
theorem dX2_open_47 : decode cX2_open 47 = .ok (.putfield 68, 3) := by decide +kernel
theorem dX2_open_50 : decode cX2_open 50 = .ok (.aload_n 0, 1) := by decide +kernel
theorem dX2_open_51 : decode cX2_open 51 = .ok (.iconst 0, 1) := by decide +kernel
theorem dX2_open_52 : decode cX2_open 52 = .ok (.putfield 71, 3) := by decide +kernel
theorem dX2_open_55 : decode cX2_open 55 = .ok (.aload_n 0, 1) := by decide +kernel
theorem dX2_open_56 : decode cX2_open 56 = .ok (.iconst 0, 1) := by decide +kernel
theorem dX2_open_57 : decode cX2_open 57 = .ok (.putfield 75, 3) := by decide +kernel
theorem dX2_open_60 : decode cX2_open 60 = .ok (.aload_n 0, 1) := by decide +kernel
theorem dX2_open_61 : decode cX2_open 61 = .ok (.iconst 0, 1) := by decide +kernel
theorem dX2_open_62 : decode cX2_open 62 = .ok (.putfield 78, 3) := by decide +kernel
theorem dX2_open_65 : decode cX2_open 65 = .ok (.aload_n 0, 1) := by decide +kernel
theorem dX2_open_66 : decode cX2_open 66 = .ok (.ldc 81, 2) := by decide +kernel
theorem dX2_open_68 : decode cX2_open 68 = .ok (.putfield 82, 3) := by decide +kernel
theorem dX2_open_71 : decode cX2_open 71 = .ok (.aload_n 0, 1) := by decide +kernel
theorem dX2_open_72 : decode cX2_open 72 = .ok (.iconst (-1), 1) := by decide +kernel
theorem dX2_open_73 : decode cX2_open 73 = .ok (.putfield 85, 3) := by decide +kernel
theorem dX2_open_76 : decode cX2_open 76 = .ok (.aload_n 0, 1) := by decide +kernel
theorem dX2_open_77 : decode cX2_open 77 = .ok (.iconst 0, 1) := by decide +kernel
theorem dX2_open_78 : decode cX2_open 78 = .ok (.putfield 88, 3) := by decide +kernel
theorem dX2_open_81 : decode cX2_open 81 = .ok (.aload_n 0, 1) := by decide +kernel
theorem dX2_open_82 : decode cX2_open 82 = .ok (.iconst (-1), 1) := by decide +kernel
theorem dX2_open_83 : decode cX2_open 83 = .ok (.putfield 91, 3) := by decide +kernel
theorem dX2_open_86 : decode cX2_open 86 = .ok (.aload_n 0, 1) := by decide +kernel
theorem dX2_open_87 : decode cX2_open 87 = .ok (.iconst 1, 1) := by decide +kernel
theorem dX2_open_88 : decode cX2_open 88 = .ok (.putfield 94, 3) := by decide +kernel
theorem dX2_open_91 : decode cX2_open 91 = .ok (.aload_n 0, 1) := by decide +kernel
theorem dX2_open_92 : decode cX2_open 92 = .ok (.iload_n 1, 1) := by decide +kernel
theorem dX2_open_93 : decode cX2_open 93 = .ok (.aload_n 0, 1) := by decide +kernel
theorem dX2_open_94 : decode cX2_open 94 = .ok (.getfield 28, 3) := by decide +kernel
theorem dX2_open_97 : decode cX2_open 97 = .ok (.iconst (-1), 1) := by decide +kernel
theorem dX2_open_98 : decode cX2_open 98 = .ok (.invokevirtual 97, 3) := by decide +kernel
theorem dX2_open_101 : decode cX2_open 101 = .ok (.iconst 1, 1) := by decide +kernel
theorem dX2_open_102 : decode cX2_open 102 = .ok (.invokevirtual 101, 3) := by decide +kernel
theorem dX2_open_105 : decode cX2_open 105 = .ok (.return_, 1) := by decide +kernel
theorem dX2_advance_0 : decode cX2_advance 0 = .ok (.aload_n 0, 1) := by decide +kernel
theorem dX2_advance_1 : decode cX2_advance 1 = .ok (.getfield 62, 3) := by decide +kernel
theorem dX2_advance_4 : decode cX2_advance 4 = .ok (.istore_n 3, 1) := by decide +kernel
theorem dX2_advance_5 : decode cX2_advance 5 = .ok (.iconst 0, 1) := by decide +kernel
theorem dX2_advance_6 : decode cX2_advance 6 = .ok (.istore 4, 2) := by decide +kernel
theorem dX2_advance_8 : decode cX2_advance 8 = .ok (.iload 4, 2) := by decide +kernel
theorem dX2_advance_10 : decode cX2_advance 10 = .ok (.ldc 105, 2) := by decide +kernel
theorem dX2_advance_12 : decode cX2_advance 12 = .ok (.if_icmp .ge 237, 3) := by decide +kernel
theorem dX2_advance_15 : decode cX2_advance 15 = .ok (.aload_n 0, 1) := by decide +kernel
theorem dX2_advance_16 : decode cX2_advance 16 = .ok (.getfield 94, 3) := by decide +kernel
theorem dX2_advance_19 : decode cX2_advance 19 = .ok (.ifCond .eq 230, 3) := by decide +kernel
theorem dX2_advance_22 : decode cX2_advance 22 = .ok (.aload_n 0, 1) := by decide +kernel
theorem dX2_advance_23 : decode cX2_advance 23 = .ok (.getfield 106, 3) := by decide +kernel
theorem dX2_advance_26 : decode cX2_advance 26 = .ok (.ifCond .eq 69, 3) := by decide +kernel
theorem dX2_advance_29 : decode cX2_advance 29 = .ok (.iload_n 2, 1) := by decide +kernel
theorem dX2_advance_30 : decode cX2_advance 30 = .ok (.ifCond .eq 33, 3) := by decide +kernel
theorem dX2_advance_33 : decode cX2_advance 33 = .ok (.aload_n 0, 1) := by decide +kernel
theorem dX2_advance_34 : decode cX2_advance 34 = .ok (.getfield 62, 3) := by decide +kernel
theorem dX2_advance_37 : decode cX2_advance 37 = .ok (.iload_n 3, 1) := by decide +kernel
theorem dX2_advance_38 : decode cX2_advance 38 = .ok (.if_icmp .le 25, 3) := by decide +kernel
theorem dX2_advance_41 : decode cX2_advance 41 = .ok (.aload_n 0, 1) := by decide +kernel
theorem dX2_advance_42 : decode cX2_advance 42 = .ok (.getfield 39, 3) := by decide +kernel
theorem dX2_advance_45 : decode cX2_advance 45 = .ok (.getfield 109, 3) := by decide +kernel
theorem dX2_advance_48 : decode cX2_advance 48 = .ok (.aload_n 0, 1) := by decide +kernel
theorem dX2_advance_49 : decode cX2_advance 49 = .ok (.invokevirtual 115, 3) := by decide +kernel
theorem dX2_advance_52 : decode cX2_advance 52 = .ok (.invokevirtual 119, 3) := by decide +kernel
theorem dX2_advance_55 : decode cX2_advance 55 = .ok (.iconst 1, 1) := by decide +kernel
theorem dX2_advance_56 : decode cX2_advance 56 = .ok (.if_icmp .ne 7, 3) := by decide +kernel
theorem dX2_advance_59 : decode cX2_advance 59 = .ok (.iconst 1, 1) := by decide +kernel
theorem dX2_advance_60 : decode cX2_advance 60 = .ok (.goto 4, 3) := by decide +kernel
theorem dX2_advance_63 : decode cX2_advance 63 = .ok (.iconst 0, 1) := by decide +kernel
theorem dX2_advance_64 : decode cX2_advance 64 = .ok (.istore 5, 2) := by decide +kernel
theorem dX2_advance_66 : decode cX2_advance 66 = .ok (.iload 5, 2) := by decide +kernel
theorem dX2_advance_68 : decode cX2_advance 68 = .ok (.ifCond .ne 13, 3) := by decide +kernel
theorem dX2_advance_71 : decode cX2_advance 71 = .ok (.aload_n 0, 1) := by decide +kernel
theorem dX2_advance_72 : decode cX2_advance 72 = .ok (.getfield 62, 3) := by decide +kernel
theorem dX2_advance_75 : decode cX2_advance 75 = .ok (.iload_n 3, 1) := by decide +kernel
theorem dX2_advance_76 : decode cX2_advance 76 = .ok (.isub, 1) := by decide +kernel
theorem dX2_advance_77 : decode cX2_advance 77 = .ok (.iload_n 1, 1) := by decide +kernel
theorem dX2_advance_78 : decode cX2_advance 78 = .ok (.if_icmp .lt 10, 3) := by decide +kernel
theorem dX2_advance_81 : decode cX2_advance 81 = .ok (.aload_n 0, 1) := by decide +kernel
theorem dX2_advance_82 : decode cX2_advance 82 = .ok (.getfield 62, 3) := by decide +kernel
theorem dX2_advance_85 : decode cX2_advance 85 = .ok (.iload_n 3, 1) := by decide +kernel
theorem dX2_advance_86 : decode cX2_advance 86 = .ok (.isub, 1) := by decide +kernel
theorem dX2_advance_87 : decode cX2_advance 87 = .ok (.ireturn, 1) := by decide +kernel
theorem dX2_advance_88 : decode cX2_advance 88 = .ok (.aload_n 0, 1) := by decide +kernel
theorem dX2_advance_89 : decode cX2_advance 89 = .ok (.invokevirtual 124, 3) := by decide +kernel
theorem dX2_advance_92 : decode cX2_advance 92 = .ok (.goto 151, 3) := by decide +kernel
theorem dX2_advance_95 : decode cX2_advance 95 = .ok (.aload_n 0, 1) := by decide +kernel
theorem dX2_advance_96 : decode cX2_advance 96 = .ok (.getfield 21, 3) := by decide +kernel
theorem dX2_advance_99 : decode cX2_advance 99 = .ok (.getfield 127, 3) := by decide +kernel
theorem dX2_advance_102 : decode cX2_advance 102 = .ok (.aload_n 0, 1) := by decide +kernel
theorem dX2_advance_103 : decode cX2_advance 103 = .ok (.getfield 91, 3) := by decide +kernel
theorem dX2_advance_106 : decode cX2_advance 106 = .ok (.invokevirtual 119, 3) := by decide +kernel
theorem dX2_advance_109 : decode cX2_advance 109 = .ok (.istore 5, 2) := by decide +kernel
theorem dX2_advance_111 : decode cX2_advance 111 = .ok (.aload_n 0, 1) := by decide +kernel
theorem dX2_advance_112 : decode cX2_advance 112 = .ok (.getfield 39, 3) := by decide +kernel
theorem dX2_advance_115 : decode cX2_advance 115 = .ok (.getfield 130, 3) := by decide +kernel
theorem dX2_advance_118 : decode cX2_advance 118 = .ok (.getfield 134, 3) := by decide +kernel
theorem dX2_advance_121 : decode cX2_advance 121 = .ok (.iload 5, 2) := by decide +kernel
theorem dX2_advance_123 : decode cX2_advance 123 = .ok (.invokevirtual 119, 3) := by decide +kernel
theorem dX2_advance_126 : decode cX2_advance 126 = .ok (.istore 6, 2) := by decide +kernel
theorem dX2_advance_128 : decode cX2_advance 128 = .ok (.aload_n 0, 1) := by decide +kernel
theorem dX2_advance_129 : decode cX2_advance 129 = .ok (.getfield 39, 3) := by decide +kernel
theorem dX2_advance_132 : decode cX2_advance 132 = .ok (.getfield 130, 3) := by decide +kernel
theorem dX2_advance_135 : decode cX2_advance 135 = .ok (.getfield 139, 3) := by decide +kernel
theorem dX2_advance_138 : decode cX2_advance 138 = .ok (.iload 5, 2) := by decide +kernel
theorem dX2_advance_140 : decode cX2_advance 140 = .ok (.invokevirtual 119, 3) := by decide +kernel
theorem dX2_advance_143 : decode cX2_advance 143 = .ok (.istore 7, 2) := by decide +kernel
theorem dX2_advance_145 : decode cX2_advance 145 = .ok (.aload_n 0, 1) := by decide +kernel
theorem dX2_advance_146 : decode cX2_advance 146 = .ok (.getfield 21, 3) := by decide +kernel
theorem dX2_advance_149 : decode cX2_advance 149 = .ok (.getfield 127, 3) := by decide +kernel
theorem dX2_advance_152 : decode cX2_advance 152 = .ok (.aload_n 0, 1) := by decide +kernel
theorem dX2_advance_153 : decode cX2_advance 153 = .ok (.getfield 91, 3) := by decide +kernel
theorem dX2_advance_156 : decode cX2_advance 156 = .ok (.iload 5, 2) := by decide +kernel
theorem dX2_advance_158 : decode cX2_advance 158 = .ok (.iconst 1, 1) := by decide +kernel
theorem dX2_advance_159 : decode cX2_advance 159 = .ok (.iadd, 1) := by decide +kernel
theorem dX2_advance_160 : decode cX2_advance 160 = .ok (.invokevirtual 142, 3) := by decide +kernel
theorem dX2_advance_163 : decode cX2_advance 163 = .ok (.iload 6, 2) := by decide +kernel
theorem dX2_advance_165 : decode cX2_advance 165 = .ok (.bipush 48, 2) := by decide +kernel
theorem dX2_advance_167 : decode cX2_advance 167 = .ok (.if_icmp .lt 14, 3) := by decide +kernel
theorem dX2_advance_170 : decode cX2_advance 170 = .ok (.aload_n 0, 1) := by decide +kernel
theorem dX2_advance_171 : decode cX2_advance 171 = .ok (.iload 6, 2) := by decide +kernel
theorem dX2_advance_173 : decode cX2_advance 173 = .ok (.iload 7, 2) := by decide +kernel
theorem dX2_advance_175 : decode cX2_advance 175 = .ok (.invokevirtual 146, 3) := by decide +kernel
theorem dX2_advance_178 : decode cX2_advance 178 = .ok (.goto 65, 3) := by decide +kernel
theorem dX2_advance_181 : decode cX2_advance 181 = .ok (.iload 6, 2) := by decide +kernel
theorem dX2_advance_183 : decode cX2_advance 183 = .ok (.bipush 40, 2) := by decide +kernel
theorem dX2_advance_185 : decode cX2_advance 185 = .ok (.if_icmp .lt 14, 3) := by decide +kernel
theorem dX2_advance_188 : decode cX2_advance 188 = .ok (.aload_n 0, 1) := by decide +kernel
theorem dX2_advance_189 : decode cX2_advance 189 = .ok (.iload 6, 2) := by decide +kernel
theorem dX2_advance_191 : decode cX2_advance 191 = .ok (.iload 7, 2) := by decide +kernel
theorem dX2_advance_193 : decode cX2_advance 193 = .ok (.invokevirtual 149, 3) := by decide +kernel
theorem dX2_advance_196 : decode cX2_advance 196 = .ok (.goto 47, 3) := by decide +kernel
theorem dX2_advance_199 : decode cX2_advance 199 = .ok (.iload 6, 2) := by decide +kernel
theorem dX2_advance_201 : decode cX2_advance 201 = .ok (.bipush 29, 2) := by decide +kernel
theorem dX2_advance_203 : decode cX2_advance 203 = .ok (.if_icmp .lt 14, 3) := by decide +kernel
theorem dX2_advance_206 : decode cX2_advance 206 = .ok (.aload_n 0, 1) := by decide +kernel
theorem dX2_advance_207 : decode cX2_advance 207 = .ok (.iload 6, 2) := by decide +kernel
theorem dX2_advance_209 : decode cX2_advance 209 = .ok (.iload 7, 2) := by decide +kernel
theorem dX2_advance_211 : decode cX2_advance 211 = .ok (.invokevirtual 152, 3) := by decide +kernel
theorem dX2_advance_214 : decode cX2_advance 214 = .ok (.goto 29, 3) := by decide +kernel
theorem dX2_advance_217 : decode cX2_advance 217 = .ok (.iload 6, 2) := by decide +kernel
theorem dX2_advance_219 : decode cX2_advance 219 = .ok (.bipush 13, 2) := by decide +kernel
theorem dX2_advance_221 : decode cX2_advance 221 = .ok (.if_icmp .lt 14, 3) := by decide +kernel
theorem dX2_advance_224 : decode cX2_advance 224 = .ok (.aload_n 0, 1) := by decide +kernel
theorem dX2_advance_225 : decode cX2_advance 225 = .ok (.iload 6, 2) := by decide +kernel
theorem dX2_advance_227 : decode cX2_advance 227 = .ok (.iload 7, 2) := by decide +kernel
theorem dX2_advance_229 : decode cX2_advance 229 = .ok (.invokevirtual 155, 3) := by decide +kernel
theorem dX2_advance_232 : decode cX2_advance 232 = .ok (.goto 11, 3) := by decide +kernel
theorem dX2_advance_235 : decode cX2_advance 235 = .ok (.aload_n 0, 1) := by decide +kernel
theorem dX2_advance_236 : decode cX2_advance 236 = .ok (.iload 6, 2) := by decide +kernel
theorem dX2_advance_238 : decode cX2_advance 238 = .ok (.iload 7, 2) := by decide +kernel
theorem dX2_advance_240 : decode cX2_advance 240 = .ok (.invokevirtual 158, 3) := by decide +kernel
theorem dX2_advance_243 : decode cX2_advance 243 = .ok (.iinc 4 1, 3) := by decide +kernel
theorem dX2_advance_246 : decode cX2_advance 246 = .ok (.goto (-238), 3) := by decide +kernel
theorem dX2_advance_249 : decode cX2_advance 249 = .ok (.aload_n 0, 1) := by decide +kernel
theorem dX2_advance_250 : decode cX2_advance 250 = .ok (.getfield 94, 3) := by decide +kernel
theorem dX2_advance_253 : decode cX2_advance 253 = .ok (.ifCond .ne 7, 3) := by decide +kernel
theorem dX2_advance_256 : decode cX2_advance 256 = .ok (.aload_n 0, 1) := by decide +kernel
theorem dX2_advance_257 : decode cX2_advance 257 = .ok (.invokevirtual 161, 3) := by decide +kernel
theorem dX2_advance_260 : decode cX2_advance 260 = .ok (.aload_n 0, 1) := by decide +kernel
theorem dX2_advance_261 : decode cX2_advance 261 = .ok (.getfield 62, 3) := by decide +kernel
theorem dX2_advance_264 : decode cX2_advance 264 = .ok (.iload_n 3, 1) := by decide +kernel
theorem dX2_advance_265 : decode cX2_advance 265 = .ok (.isub, 1) := by decide +kernel
theorem dX2_advance_266 : decode cX2_advance 266 = .ok (.ireturn, 1) := by decide +kernel
theorem dX2_abandon_0 : decode cX2_abandon 0 = .ok (.aload_n 0, 1) := by decide +kernel
theorem dX2_abandon_1 : decode cX2_abandon 1 = .ok (.iconst 0, 1) := by decide +kernel
theorem dX2_abandon_2 : decode cX2_abandon 2 = .ok (.putfield 94, 3) := by decide +kernel
theorem dX2_abandon_5 : decode cX2_abandon 5 = .ok (.aload_n 0, 1) := by decide +kernel
theorem dX2_abandon_6 : decode cX2_abandon 6 = .ok (.getfield 43, 3) := by decide +kernel
theorem dX2_abandon_9 : decode cX2_abandon 9 = .ok (.aload_n 0, 1) := by decide +kernel
theorem dX2_abandon_10 : decode cX2_abandon 10 = .ok (.getfield 12, 3) := by decide +kernel
theorem dX2_abandon_13 : decode cX2_abandon 13 = .ok (.invokevirtual 164, 3) := by decide +kernel
theorem dX2_abandon_16 : decode cX2_abandon 16 = .ok (.aload_n 0, 1) := by decide +kernel
theorem dX2_abandon_17 : decode cX2_abandon 17 = .ok (.getfield 62, 3) := by decide +kernel
theorem dX2_abandon_20 : decode cX2_abandon 20 = .ok (.ireturn, 1) := by decide +kernel
theorem dX2_waitingNode_0 : decode cX2_waitingNode 0 = .ok (.aload_n 0, 1) := by decide +kernel
theorem dX2_waitingNode_1 : decode cX2_waitingNode 1 = .ok (.getfield 21, 3) := by decide +kernel
theorem dX2_waitingNode_4 : decode cX2_waitingNode 4 = .ok (.getfield 167, 3) := by decide +kernel
theorem dX2_waitingNode_7 : decode cX2_waitingNode 7 = .ok (.aload_n 0, 1) := by decide +kernel
theorem dX2_waitingNode_8 : decode cX2_waitingNode 8 = .ok (.getfield 91, 3) := by decide +kernel
theorem dX2_waitingNode_11 : decode cX2_waitingNode 11 = .ok (.invokevirtual 119, 3) := by decide +kernel
theorem dX2_waitingNode_14 : decode cX2_waitingNode 14 = .ok (.ireturn, 1) := by decide +kernel
theorem dX2_seenByWaiting_0 : decode cX2_seenByWaiting 0 = .ok (.aload_n 0, 1) := by decide +kernel
theorem dX2_seenByWaiting_1 : decode cX2_seenByWaiting 1 = .ok (.getfield 28, 3) := by decide +kernel
theorem dX2_seenByWaiting_4 : decode cX2_seenByWaiting 4 = .ok (.aload_n 0, 1) := by decide +kernel
theorem dX2_seenByWaiting_5 : decode cX2_seenByWaiting 5 = .ok (.getfield 21, 3) := by decide +kernel
theorem dX2_seenByWaiting_8 : decode cX2_seenByWaiting 8 = .ok (.getfield 170, 3) := by decide +kernel
theorem dX2_seenByWaiting_11 : decode cX2_seenByWaiting 11 = .ok (.aload_n 0, 1) := by decide +kernel
theorem dX2_seenByWaiting_12 : decode cX2_seenByWaiting 12 = .ok (.getfield 91, 3) := by decide +kernel
theorem dX2_seenByWaiting_15 : decode cX2_seenByWaiting 15 = .ok (.invokevirtual 119, 3) := by decide +kernel
theorem dX2_seenByWaiting_18 : decode cX2_seenByWaiting 18 = .ok (.iload_n 1, 1) := by decide +kernel
theorem dX2_seenByWaiting_19 : decode cX2_seenByWaiting 19 = .ok (.invokevirtual 172, 3) := by decide +kernel
theorem dX2_seenByWaiting_22 : decode cX2_seenByWaiting 22 = .ok (.ireturn, 1) := by decide +kernel
theorem dX2_letBegin_0 : decode cX2_letBegin 0 = .ok (.aload_n 0, 1) := by decide +kernel
theorem dX2_letBegin_1 : decode cX2_letBegin 1 = .ok (.getfield 62, 3) := by decide +kernel
theorem dX2_letBegin_4 : decode cX2_letBegin 4 = .ok (.aload_n 0, 1) := by decide +kernel
theorem dX2_letBegin_5 : decode cX2_letBegin 5 = .ok (.getfield 58, 3) := by decide +kernel
theorem dX2_letBegin_8 : decode cX2_letBegin 8 = .ok (.if_icmp .ge 21, 3) := by decide +kernel
theorem dX2_letBegin_11 : decode cX2_letBegin 11 = .ok (.aload_n 0, 1) := by decide +kernel
theorem dX2_letBegin_12 : decode cX2_letBegin 12 = .ok (.dup, 1) := by decide +kernel
theorem dX2_letBegin_13 : decode cX2_letBegin 13 = .ok (.getfield 62, 3) := by decide +kernel
theorem dX2_letBegin_16 : decode cX2_letBegin 16 = .ok (.iconst 1, 1) := by decide +kernel
theorem dX2_letBegin_17 : decode cX2_letBegin 17 = .ok (.iadd, 1) := by decide +kernel
theorem dX2_letBegin_18 : decode cX2_letBegin 18 = .ok (.putfield 62, 3) := by decide +kernel
theorem dX2_letBegin_21 : decode cX2_letBegin 21 = .ok (.aload_n 0, 1) := by decide +kernel
theorem dX2_letBegin_22 : decode cX2_letBegin 22 = .ok (.iconst 0, 1) := by decide +kernel
theorem dX2_letBegin_23 : decode cX2_letBegin 23 = .ok (.putfield 106, 3) := by decide +kernel
theorem dX2_letBegin_26 : decode cX2_letBegin 26 = .ok (.goto 14, 3) := by decide +kernel
theorem dX2_letBegin_29 : decode cX2_letBegin 29 = .ok (.aload_n 0, 1) := by decide +kernel
theorem dX2_letBegin_30 : decode cX2_letBegin 30 = .ok (.bipush (-7), 2) := by decide +kernel
theorem dX2_letBegin_32 : decode cX2_letBegin 32 = .ok (.invokevirtual 176, 3) := by decide +kernel
theorem dX2_letBegin_35 : decode cX2_letBegin 35 = .ok (.aload_n 0, 1) := by decide +kernel
theorem dX2_letBegin_36 : decode cX2_letBegin 36 = .ok (.iconst 0, 1) := by decide +kernel
theorem dX2_letBegin_37 : decode cX2_letBegin 37 = .ok (.putfield 94, 3) := by decide +kernel
theorem dX2_letBegin_40 : decode cX2_letBegin 40 = .ok (.return_, 1) := by decide +kernel
theorem dX2_settle_0 : decode cX2_settle 0 = .ok (.aload_n 0, 1) := by decide +kernel
theorem dX2_settle_1 : decode cX2_settle 1 = .ok (.getfield 75, 3) := by decide +kernel
theorem dX2_settle_4 : decode cX2_settle 4 = .ok (.iconst 1, 1) := by decide +kernel
theorem dX2_settle_5 : decode cX2_settle 5 = .ok (.if_icmp .ne 7, 3) := by decide +kernel
theorem dX2_settle_8 : decode cX2_settle 8 = .ok (.iconst 1, 1) := by decide +kernel
theorem dX2_settle_9 : decode cX2_settle 9 = .ok (.goto 4, 3) := by decide +kernel
theorem dX2_settle_12 : decode cX2_settle 12 = .ok (.iconst 0, 1) := by decide +kernel
theorem dX2_settle_13 : decode cX2_settle 13 = .ok (.istore_n 1, 1) := by decide +kernel
theorem dX2_settle_14 : decode cX2_settle 14 = .ok (.aload_n 0, 1) := by decide +kernel
theorem dX2_settle_15 : decode cX2_settle 15 = .ok (.getfield 46, 3) := by decide +kernel
theorem dX2_settle_18 : decode cX2_settle 18 = .ok (.iload_n 1, 1) := by decide +kernel
theorem dX2_settle_19 : decode cX2_settle 19 = .ok (.ifCond .eq 13, 3) := by decide +kernel
theorem dX2_settle_22 : decode cX2_settle 22 = .ok (.ldc 81, 2) := by decide +kernel
theorem dX2_settle_24 : decode cX2_settle 24 = .ok (.aload_n 0, 1) := by decide +kernel
theorem dX2_settle_25 : decode cX2_settle 25 = .ok (.getfield 78, 3) := by decide +kernel
theorem dX2_settle_28 : decode cX2_settle 28 = .ok (.iadd, 1) := by decide +kernel
theorem dX2_settle_29 : decode cX2_settle 29 = .ok (.goto 7, 3) := by decide +kernel
theorem dX2_settle_32 : decode cX2_settle 32 = .ok (.aload_n 0, 1) := by decide +kernel
theorem dX2_settle_33 : decode cX2_settle 33 = .ok (.getfield 88, 3) := by decide +kernel
theorem dX2_settle_36 : decode cX2_settle 36 = .ok (.putfield 180, 3) := by decide +kernel
theorem dX2_settle_39 : decode cX2_settle 39 = .ok (.aload_n 0, 1) := by decide +kernel
theorem dX2_settle_40 : decode cX2_settle 40 = .ok (.getfield 46, 3) := by decide +kernel
theorem dX2_settle_43 : decode cX2_settle 43 = .ok (.aload_n 0, 1) := by decide +kernel
theorem dX2_settle_44 : decode cX2_settle 44 = .ok (.getfield 62, 3) := by decide +kernel
theorem dX2_settle_47 : decode cX2_settle 47 = .ok (.putfield 185, 3) := by decide +kernel
theorem dX2_settle_50 : decode cX2_settle 50 = .ok (.aload_n 0, 1) := by decide +kernel
theorem dX2_settle_51 : decode cX2_settle 51 = .ok (.getfield 46, 3) := by decide +kernel
theorem dX2_settle_54 : decode cX2_settle 54 = .ok (.iload_n 1, 1) := by decide +kernel
theorem dX2_settle_55 : decode cX2_settle 55 = .ok (.ifCond .eq 10, 3) := by decide +kernel
theorem dX2_settle_58 : decode cX2_settle 58 = .ok (.aload_n 0, 1) := by decide +kernel
theorem dX2_settle_59 : decode cX2_settle 59 = .ok (.getfield 82, 3) := by decide +kernel
theorem dX2_settle_62 : decode cX2_settle 62 = .ok (.goto 5, 3) := by decide +kernel
theorem dX2_settle_65 : decode cX2_settle 65 = .ok (.ldc 81, 2) := by decide +kernel
theorem dX2_settle_67 : decode cX2_settle 67 = .ok (.putfield 188, 3) := by decide +kernel
theorem dX2_settle_70 : decode cX2_settle 70 = .ok (.aload_n 0, 1) := by decide +kernel
theorem dX2_settle_71 : decode cX2_settle 71 = .ok (.getfield 46, 3) := by decide +kernel
theorem dX2_settle_74 : decode cX2_settle 74 = .ok (.iconst 0, 1) := by decide +kernel
theorem dX2_settle_75 : decode cX2_settle 75 = .ok (.putfield 191, 3) := by decide +kernel
theorem dX2_settle_78 : decode cX2_settle 78 = .ok (.iload_n 1, 1) := by decide +kernel
theorem dX2_settle_79 : decode cX2_settle 79 = .ok (.ifCond .eq 99, 3) := by decide +kernel
theorem dX2_settle_82 : decode cX2_settle 82 = .ok (.aload_n 0, 1) := by decide +kernel
theorem dX2_settle_83 : decode cX2_settle 83 = .ok (.getfield 46, 3) := by decide +kernel
theorem dX2_settle_86 : decode cX2_settle 86 = .ok (.aload_n 0, 1) := by decide +kernel
theorem dX2_settle_87 : decode cX2_settle 87 = .ok (.getfield 21, 3) := by decide +kernel
theorem dX2_settle_90 : decode cX2_settle 90 = .ok (.getfield 167, 3) := by decide +kernel
theorem dX2_settle_93 : decode cX2_settle 93 = .ok (.aload_n 0, 1) := by decide +kernel
theorem dX2_settle_94 : decode cX2_settle 94 = .ok (.getfield 85, 3) := by decide +kernel
theorem dX2_settle_97 : decode cX2_settle 97 = .ok (.invokevirtual 119, 3) := by decide +kernel
theorem dX2_settle_100 : decode cX2_settle 100 = .ok (.invokevirtual 194, 3) := by decide +kernel
theorem dX2_settle_103 : decode cX2_settle 103 = .ok (.aload_n 0, 1) := by decide +kernel
theorem dX2_settle_104 : decode cX2_settle 104 = .ok (.getfield 21, 3) := by decide +kernel
theorem dX2_settle_107 : decode cX2_settle 107 = .ok (.getfield 197, 3) := by decide +kernel
theorem dX2_settle_110 : decode cX2_settle 110 = .ok (.aload_n 0, 1) := by decide +kernel
theorem dX2_settle_111 : decode cX2_settle 111 = .ok (.getfield 85, 3) := by decide +kernel
theorem dX2_settle_114 : decode cX2_settle 114 = .ok (.invokevirtual 119, 3) := by decide +kernel
theorem dX2_settle_117 : decode cX2_settle 117 = .ok (.istore_n 2, 1) := by decide +kernel
theorem dX2_settle_118 : decode cX2_settle 118 = .ok (.iconst 0, 1) := by decide +kernel
theorem dX2_settle_119 : decode cX2_settle 119 = .ok (.istore_n 3, 1) := by decide +kernel
theorem dX2_settle_120 : decode cX2_settle 120 = .ok (.iload_n 3, 1) := by decide +kernel
theorem dX2_settle_121 : decode cX2_settle 121 = .ok (.bipush 12, 2) := by decide +kernel
theorem dX2_settle_123 : decode cX2_settle 123 = .ok (.if_icmp .ge 44, 3) := by decide +kernel
theorem dX2_settle_126 : decode cX2_settle 126 = .ok (.iload_n 2, 1) := by decide +kernel
theorem dX2_settle_127 : decode cX2_settle 127 = .ok (.iconst (-1), 1) := by decide +kernel
theorem dX2_settle_128 : decode cX2_settle 128 = .ok (.if_icmp .eq 39, 3) := by decide +kernel
theorem dX2_settle_131 : decode cX2_settle 131 = .ok (.aload_n 0, 1) := by decide +kernel
theorem dX2_settle_132 : decode cX2_settle 132 = .ok (.getfield 46, 3) := by decide +kernel
theorem dX2_settle_135 : decode cX2_settle 135 = .ok (.aload_n 0, 1) := by decide +kernel
theorem dX2_settle_136 : decode cX2_settle 136 = .ok (.getfield 21, 3) := by decide +kernel
theorem dX2_settle_139 : decode cX2_settle 139 = .ok (.getfield 167, 3) := by decide +kernel
theorem dX2_settle_142 : decode cX2_settle 142 = .ok (.iload_n 2, 1) := by decide +kernel
theorem dX2_settle_143 : decode cX2_settle 143 = .ok (.invokevirtual 119, 3) := by decide +kernel
theorem dX2_settle_146 : decode cX2_settle 146 = .ok (.invokevirtual 194, 3) := by decide +kernel
theorem dX2_settle_149 : decode cX2_settle 149 = .ok (.aload_n 0, 1) := by decide +kernel
theorem dX2_settle_150 : decode cX2_settle 150 = .ok (.getfield 21, 3) := by decide +kernel
theorem dX2_settle_153 : decode cX2_settle 153 = .ok (.getfield 197, 3) := by decide +kernel
theorem dX2_settle_156 : decode cX2_settle 156 = .ok (.iload_n 2, 1) := by decide +kernel
theorem dX2_settle_157 : decode cX2_settle 157 = .ok (.invokevirtual 119, 3) := by decide +kernel
theorem dX2_settle_160 : decode cX2_settle 160 = .ok (.istore_n 2, 1) := by decide +kernel
theorem dX2_settle_161 : decode cX2_settle 161 = .ok (.iinc 3 1, 3) := by decide +kernel
theorem dX2_settle_164 : decode cX2_settle 164 = .ok (.goto (-44), 3) := by decide +kernel
theorem dX2_settle_167 : decode cX2_settle 167 = .ok (.aload_n 0, 1) := by decide +kernel
theorem dX2_settle_168 : decode cX2_settle 168 = .ok (.getfield 43, 3) := by decide +kernel
theorem dX2_settle_171 : decode cX2_settle 171 = .ok (.aload_n 0, 1) := by decide +kernel
theorem dX2_settle_172 : decode cX2_settle 172 = .ok (.getfield 12, 3) := by decide +kernel
theorem dX2_settle_175 : decode cX2_settle 175 = .ok (.invokevirtual 164, 3) := by decide +kernel
theorem dX2_settle_178 : decode cX2_settle 178 = .ok (.return_, 1) := by decide +kernel
theorem dX2_begin_0 : decode cX2_begin 0 = .ok (.aload_n 0, 1) := by decide +kernel
theorem dX2_begin_1 : decode cX2_begin 1 = .ok (.getfield 62, 3) := by decide +kernel
theorem dX2_begin_4 : decode cX2_begin 4 = .ok (.istore 4, 2) := by decide +kernel
theorem dX2_begin_6 : decode cX2_begin 6 = .ok (.aload_n 0, 1) := by decide +kernel
theorem dX2_begin_7 : decode cX2_begin 7 = .ok (.getfield 21, 3) := by decide +kernel
theorem dX2_begin_10 : decode cX2_begin 10 = .ok (.getfield 167, 3) := by decide +kernel
theorem dX2_begin_13 : decode cX2_begin 13 = .ok (.iload 4, 2) := by decide +kernel
theorem dX2_begin_15 : decode cX2_begin 15 = .ok (.iload_n 1, 1) := by decide +kernel
theorem dX2_begin_16 : decode cX2_begin 16 = .ok (.invokevirtual 142, 3) := by decide +kernel
theorem dX2_begin_19 : decode cX2_begin 19 = .ok (.aload_n 0, 1) := by decide +kernel
theorem dX2_begin_20 : decode cX2_begin 20 = .ok (.getfield 21, 3) := by decide +kernel
theorem dX2_begin_23 : decode cX2_begin 23 = .ok (.getfield 200, 3) := by decide +kernel
theorem dX2_begin_26 : decode cX2_begin 26 = .ok (.iload 4, 2) := by decide +kernel
theorem dX2_begin_28 : decode cX2_begin 28 = .ok (.aload_n 0, 1) := by decide +kernel
theorem dX2_begin_29 : decode cX2_begin 29 = .ok (.getfield 91, 3) := by decide +kernel
theorem dX2_begin_32 : decode cX2_begin 32 = .ok (.invokevirtual 142, 3) := by decide +kernel
theorem dX2_begin_35 : decode cX2_begin 35 = .ok (.aload_n 0, 1) := by decide +kernel
theorem dX2_begin_36 : decode cX2_begin 36 = .ok (.getfield 21, 3) := by decide +kernel
theorem dX2_begin_39 : decode cX2_begin 39 = .ok (.getfield 170, 3) := by decide +kernel
theorem dX2_begin_42 : decode cX2_begin 42 = .ok (.iload 4, 2) := by decide +kernel
theorem dX2_begin_44 : decode cX2_begin 44 = .ok (.iload_n 2, 1) := by decide +kernel
theorem dX2_begin_45 : decode cX2_begin 45 = .ok (.invokevirtual 142, 3) := by decide +kernel
theorem dX2_begin_48 : decode cX2_begin 48 = .ok (.aload_n 0, 1) := by decide +kernel
theorem dX2_begin_49 : decode cX2_begin 49 = .ok (.getfield 21, 3) := by decide +kernel
theorem dX2_begin_52 : decode cX2_begin 52 = .ok (.getfield 203, 3) := by decide +kernel
theorem dX2_begin_55 : decode cX2_begin 55 = .ok (.iload 4, 2) := by decide +kernel
theorem dX2_begin_57 : decode cX2_begin 57 = .ok (.iload_n 3, 1) := by decide +kernel
theorem dX2_begin_58 : decode cX2_begin 58 = .ok (.invokevirtual 142, 3) := by decide +kernel
theorem dX2_begin_61 : decode cX2_begin 61 = .ok (.aload_n 0, 1) := by decide +kernel
theorem dX2_begin_62 : decode cX2_begin 62 = .ok (.getfield 21, 3) := by decide +kernel
theorem dX2_begin_65 : decode cX2_begin 65 = .ok (.getfield 127, 3) := by decide +kernel
theorem dX2_begin_68 : decode cX2_begin 68 = .ok (.iload 4, 2) := by decide +kernel
theorem dX2_begin_70 : decode cX2_begin 70 = .ok (.aload_n 0, 1) := by decide +kernel
theorem dX2_begin_71 : decode cX2_begin 71 = .ok (.getfield 39, 3) := by decide +kernel
theorem dX2_begin_74 : decode cX2_begin 74 = .ok (.getfield 206, 3) := by decide +kernel
theorem dX2_begin_77 : decode cX2_begin 77 = .ok (.iload_n 1, 1) := by decide +kernel
theorem dX2_begin_78 : decode cX2_begin 78 = .ok (.invokevirtual 119, 3) := by decide +kernel
theorem dX2_begin_81 : decode cX2_begin 81 = .ok (.invokevirtual 142, 3) := by decide +kernel
theorem dX2_begin_84 : decode cX2_begin 84 = .ok (.aload_n 0, 1) := by decide +kernel
theorem dX2_begin_85 : decode cX2_begin 85 = .ok (.getfield 21, 3) := by decide +kernel
theorem dX2_begin_88 : decode cX2_begin 88 = .ok (.getfield 209, 3) := by decide +kernel
theorem dX2_begin_91 : decode cX2_begin 91 = .ok (.iload 4, 2) := by decide +kernel
theorem dX2_begin_93 : decode cX2_begin 93 = .ok (.iconst 0, 1) := by decide +kernel
theorem dX2_begin_94 : decode cX2_begin 94 = .ok (.invokevirtual 142, 3) := by decide +kernel
theorem dX2_begin_97 : decode cX2_begin 97 = .ok (.aload_n 0, 1) := by decide +kernel
theorem dX2_begin_98 : decode cX2_begin 98 = .ok (.getfield 21, 3) := by decide +kernel
theorem dX2_begin_101 : decode cX2_begin 101 = .ok (.getfield 197, 3) := by decide +kernel
theorem dX2_begin_104 : decode cX2_begin 104 = .ok (.iload 4, 2) := by decide +kernel
theorem dX2_begin_106 : decode cX2_begin 106 = .ok (.iconst (-1), 1) := by decide +kernel
theorem dX2_begin_107 : decode cX2_begin 107 = .ok (.invokevirtual 142, 3) := by decide +kernel
theorem dX2_begin_110 : decode cX2_begin 110 = .ok (.aload_n 0, 1) := by decide +kernel
theorem dX2_begin_111 : decode cX2_begin 111 = .ok (.getfield 21, 3) := by decide +kernel
theorem dX2_begin_114 : decode cX2_begin 114 = .ok (.getfield 212, 3) := by decide +kernel
theorem dX2_begin_117 : decode cX2_begin 117 = .ok (.iload 4, 2) := by decide +kernel
theorem dX2_begin_119 : decode cX2_begin 119 = .ok (.iconst 0, 1) := by decide +kernel
theorem dX2_begin_120 : decode cX2_begin 120 = .ok (.invokevirtual 142, 3) := by decide +kernel
theorem dX2_begin_123 : decode cX2_begin 123 = .ok (.aload_n 0, 1) := by decide +kernel
theorem dX2_begin_124 : decode cX2_begin 124 = .ok (.iload 4, 2) := by decide +kernel
theorem dX2_begin_126 : decode cX2_begin 126 = .ok (.putfield 91, 3) := by decide +kernel
theorem dX2_begin_129 : decode cX2_begin 129 = .ok (.aload_n 0, 1) := by decide +kernel
theorem dX2_begin_130 : decode cX2_begin 130 = .ok (.iconst 1, 1) := by decide +kernel
theorem dX2_begin_131 : decode cX2_begin 131 = .ok (.putfield 106, 3) := by decide +kernel
theorem dX2_begin_134 : decode cX2_begin 134 = .ok (.return_, 1) := by decide +kernel
theorem dX2_fail_0 : decode cX2_fail 0 = .ok (.aload_n 0, 1) := by decide +kernel
theorem dX2_fail_1 : decode cX2_fail 1 = .ok (.iconst 1, 1) := by decide +kernel
theorem dX2_fail_2 : decode cX2_fail 2 = .ok (.putfield 75, 3) := by decide +kernel
theorem dX2_fail_5 : decode cX2_fail 5 = .ok (.aload_n 0, 1) := by decide +kernel
theorem dX2_fail_6 : decode cX2_fail 6 = .ok (.iload_n 1, 1) := by decide +kernel
theorem dX2_fail_7 : decode cX2_fail 7 = .ok (.putfield 78, 3) := by decide +kernel
theorem dX2_fail_10 : decode cX2_fail 10 = .ok (.aload_n 0, 1) := by decide +kernel
theorem dX2_fail_11 : decode cX2_fail 11 = .ok (.ldc 81, 2) := by decide +kernel
theorem dX2_fail_13 : decode cX2_fail 13 = .ok (.putfield 82, 3) := by decide +kernel
theorem dX2_fail_16 : decode cX2_fail 16 = .ok (.aload_n 0, 1) := by decide +kernel
theorem dX2_fail_17 : decode cX2_fail 17 = .ok (.aload_n 0, 1) := by decide +kernel
theorem dX2_fail_18 : decode cX2_fail 18 = .ok (.getfield 91, 3) := by decide +kernel
theorem dX2_fail_21 : decode cX2_fail 21 = .ok (.putfield 85, 3) := by decide +kernel
theorem dX2_fail_24 : decode cX2_fail 24 = .ok (.aload_n 0, 1) := by decide +kernel
theorem dX2_fail_25 : decode cX2_fail 25 = .ok (.getfield 21, 3) := by decide +kernel
theorem dX2_fail_28 : decode cX2_fail 28 = .ok (.getfield 197, 3) := by decide +kernel
theorem dX2_fail_31 : decode cX2_fail 31 = .ok (.aload_n 0, 1) := by decide +kernel
theorem dX2_fail_32 : decode cX2_fail 32 = .ok (.getfield 91, 3) := by decide +kernel
theorem dX2_fail_35 : decode cX2_fail 35 = .ok (.aload_n 0, 1) := by decide +kernel
theorem dX2_fail_36 : decode cX2_fail 36 = .ok (.getfield 68, 3) := by decide +kernel
theorem dX2_fail_39 : decode cX2_fail 39 = .ok (.invokevirtual 142, 3) := by decide +kernel
theorem dX2_fail_42 : decode cX2_fail 42 = .ok (.aload_n 0, 1) := by decide +kernel
theorem dX2_fail_43 : decode cX2_fail 43 = .ok (.getfield 21, 3) := by decide +kernel
theorem dX2_fail_46 : decode cX2_fail 46 = .ok (.getfield 127, 3) := by decide +kernel
theorem dX2_fail_49 : decode cX2_fail 49 = .ok (.aload_n 0, 1) := by decide +kernel
theorem dX2_fail_50 : decode cX2_fail 50 = .ok (.getfield 91, 3) := by decide +kernel
theorem dX2_fail_53 : decode cX2_fail 53 = .ok (.aload_n 0, 1) := by decide +kernel
theorem dX2_fail_54 : decode cX2_fail 54 = .ok (.getfield 21, 3) := by decide +kernel
theorem dX2_fail_57 : decode cX2_fail 57 = .ok (.getfield 209, 3) := by decide +kernel
theorem dX2_fail_60 : decode cX2_fail 60 = .ok (.aload_n 0, 1) := by decide +kernel
theorem dX2_fail_61 : decode cX2_fail 61 = .ok (.getfield 91, 3) := by decide +kernel
theorem dX2_fail_64 : decode cX2_fail 64 = .ok (.invokevirtual 119, 3) := by decide +kernel
theorem dX2_fail_67 : decode cX2_fail 67 = .ok (.invokevirtual 142, 3) := by decide +kernel
theorem dX2_fail_70 : decode cX2_fail 70 = .ok (.aload_n 0, 1) := by decide +kernel
theorem dX2_fail_71 : decode cX2_fail 71 = .ok (.getfield 21, 3) := by decide +kernel
theorem dX2_fail_74 : decode cX2_fail 74 = .ok (.getfield 209, 3) := by decide +kernel
theorem dX2_fail_77 : decode cX2_fail 77 = .ok (.aload_n 0, 1) := by decide +kernel
theorem dX2_fail_78 : decode cX2_fail 78 = .ok (.getfield 91, 3) := by decide +kernel
theorem dX2_fail_81 : decode cX2_fail 81 = .ok (.iconst 0, 1) := by decide +kernel
theorem dX2_fail_82 : decode cX2_fail 82 = .ok (.invokevirtual 142, 3) := by decide +kernel
theorem dX2_fail_85 : decode cX2_fail 85 = .ok (.return_, 1) := by decide +kernel
theorem dX2_jump_0 : decode cX2_jump 0 = .ok (.aload_n 0, 1) := by decide +kernel
theorem dX2_jump_1 : decode cX2_jump 1 = .ok (.getfield 21, 3) := by decide +kernel
theorem dX2_jump_4 : decode cX2_jump 4 = .ok (.getfield 127, 3) := by decide +kernel
theorem dX2_jump_7 : decode cX2_jump 7 = .ok (.aload_n 0, 1) := by decide +kernel
theorem dX2_jump_8 : decode cX2_jump 8 = .ok (.getfield 91, 3) := by decide +kernel
theorem dX2_jump_11 : decode cX2_jump 11 = .ok (.iload_n 1, 1) := by decide +kernel
theorem dX2_jump_12 : decode cX2_jump 12 = .ok (.invokevirtual 142, 3) := by decide +kernel
theorem dX2_jump_15 : decode cX2_jump 15 = .ok (.return_, 1) := by decide +kernel
theorem dX2_performFlow_0 : decode cX2_performFlow 0 = .ok (.aload_n 0, 1) := by decide +kernel
theorem dX2_performFlow_1 : decode cX2_performFlow 1 = .ok (.getfield 21, 3) := by decide +kernel
theorem dX2_performFlow_4 : decode cX2_performFlow 4 = .ok (.getfield 170, 3) := by decide +kernel
theorem dX2_performFlow_7 : decode cX2_performFlow 7 = .ok (.aload_n 0, 1) := by decide +kernel
theorem dX2_performFlow_8 : decode cX2_performFlow 8 = .ok (.getfield 91, 3) := by decide +kernel
theorem dX2_performFlow_11 : decode cX2_performFlow 11 = .ok (.invokevirtual 119, 3) := by decide +kernel
theorem dX2_performFlow_14 : decode cX2_performFlow 14 = .ok (.istore_n 3, 1) := by decide +kernel
theorem dX2_performFlow_15 : decode cX2_performFlow 15 = .ok (.iload_n 1, 1) := by decide +kernel
theorem dX2_performFlow_16 : decode cX2_performFlow 16 = .ok (.tableswitch 167 40 47 #[48, 55, 65, 82, 105, 126, 134, 149], 48) := by decide +kernel
theorem dX2_performFlow_64 : decode cX2_performFlow 64 = .ok (.aload_n 0, 1) := by decide +kernel
theorem dX2_performFlow_65 : decode cX2_performFlow 65 = .ok (.invokevirtual 215, 3) := by decide +kernel
theorem dX2_performFlow_68 : decode cX2_performFlow 68 = .ok (.goto 115, 3) := by decide +kernel
theorem dX2_performFlow_71 : decode cX2_performFlow 71 = .ok (.aload_n 0, 1) := by decide +kernel
theorem dX2_performFlow_72 : decode cX2_performFlow 72 = .ok (.iload_n 2, 1) := by decide +kernel
theorem dX2_performFlow_73 : decode cX2_performFlow 73 = .ok (.iload_n 3, 1) := by decide +kernel
theorem dX2_performFlow_74 : decode cX2_performFlow 74 = .ok (.iconst 0, 1) := by decide +kernel
theorem dX2_performFlow_75 : decode cX2_performFlow 75 = .ok (.invokevirtual 101, 3) := by decide +kernel
theorem dX2_performFlow_78 : decode cX2_performFlow 78 = .ok (.goto 105, 3) := by decide +kernel
theorem dX2_performFlow_81 : decode cX2_performFlow 81 = .ok (.aload_n 0, 1) := by decide +kernel
theorem dX2_performFlow_82 : decode cX2_performFlow 82 = .ok (.iload_n 2, 1) := by decide +kernel
theorem dX2_performFlow_83 : decode cX2_performFlow 83 = .ok (.aload_n 0, 1) := by decide +kernel
theorem dX2_performFlow_84 : decode cX2_performFlow 84 = .ok (.getfield 28, 3) := by decide +kernel
theorem dX2_performFlow_87 : decode cX2_performFlow 87 = .ok (.iload_n 3, 1) := by decide +kernel
theorem dX2_performFlow_88 : decode cX2_performFlow 88 = .ok (.invokevirtual 97, 3) := by decide +kernel
theorem dX2_performFlow_91 : decode cX2_performFlow 91 = .ok (.iconst 0, 1) := by decide +kernel
theorem dX2_performFlow_92 : decode cX2_performFlow 92 = .ok (.invokevirtual 101, 3) := by decide +kernel
theorem dX2_performFlow_95 : decode cX2_performFlow 95 = .ok (.goto 88, 3) := by decide +kernel
theorem dX2_performFlow_98 : decode cX2_performFlow 98 = .ok (.aload_n 0, 1) := by decide +kernel
theorem dX2_performFlow_99 : decode cX2_performFlow 99 = .ok (.iload_n 2, 1) := by decide +kernel
theorem dX2_performFlow_100 : decode cX2_performFlow 100 = .ok (.aload_n 0, 1) := by decide +kernel
theorem dX2_performFlow_101 : decode cX2_performFlow 101 = .ok (.getfield 21, 3) := by decide +kernel
theorem dX2_performFlow_104 : decode cX2_performFlow 104 = .ok (.getfield 212, 3) := by decide +kernel
theorem dX2_performFlow_107 : decode cX2_performFlow 107 = .ok (.aload_n 0, 1) := by decide +kernel
theorem dX2_performFlow_108 : decode cX2_performFlow 108 = .ok (.getfield 91, 3) := by decide +kernel
theorem dX2_performFlow_111 : decode cX2_performFlow 111 = .ok (.invokevirtual 119, 3) := by decide +kernel
theorem dX2_performFlow_114 : decode cX2_performFlow 114 = .ok (.iconst 0, 1) := by decide +kernel
theorem dX2_performFlow_115 : decode cX2_performFlow 115 = .ok (.invokevirtual 101, 3) := by decide +kernel
theorem dX2_performFlow_118 : decode cX2_performFlow 118 = .ok (.goto 65, 3) := by decide +kernel
theorem dX2_performFlow_121 : decode cX2_performFlow 121 = .ok (.aload_n 0, 1) := by decide +kernel
theorem dX2_performFlow_122 : decode cX2_performFlow 122 = .ok (.getfield 21, 3) := by decide +kernel
theorem dX2_performFlow_125 : decode cX2_performFlow 125 = .ok (.getfield 218, 3) := by decide +kernel
theorem dX2_performFlow_128 : decode cX2_performFlow 128 = .ok (.aload_n 0, 1) := by decide +kernel
theorem dX2_performFlow_129 : decode cX2_performFlow 129 = .ok (.getfield 91, 3) := by decide +kernel
theorem dX2_performFlow_132 : decode cX2_performFlow 132 = .ok (.aload_n 0, 1) := by decide +kernel
theorem dX2_performFlow_133 : decode cX2_performFlow 133 = .ok (.getfield 78, 3) := by decide +kernel
theorem dX2_performFlow_136 : decode cX2_performFlow 136 = .ok (.invokevirtual 142, 3) := by decide +kernel
theorem dX2_performFlow_139 : decode cX2_performFlow 139 = .ok (.goto 44, 3) := by decide +kernel
theorem dX2_performFlow_142 : decode cX2_performFlow 142 = .ok (.aload_n 0, 1) := by decide +kernel
theorem dX2_performFlow_143 : decode cX2_performFlow 143 = .ok (.iload_n 2, 1) := by decide +kernel
theorem dX2_performFlow_144 : decode cX2_performFlow 144 = .ok (.invokevirtual 221, 3) := by decide +kernel
theorem dX2_performFlow_147 : decode cX2_performFlow 147 = .ok (.goto 36, 3) := by decide +kernel
theorem dX2_performFlow_150 : decode cX2_performFlow 150 = .ok (.aload_n 0, 1) := by decide +kernel
theorem dX2_performFlow_151 : decode cX2_performFlow 151 = .ok (.getfield 78, 3) := by decide +kernel
theorem dX2_performFlow_154 : decode cX2_performFlow 154 = .ok (.ifCond .ne 29, 3) := by decide +kernel
theorem dX2_performFlow_157 : decode cX2_performFlow 157 = .ok (.aload_n 0, 1) := by decide +kernel
theorem dX2_performFlow_158 : decode cX2_performFlow 158 = .ok (.iload_n 2, 1) := by decide +kernel
theorem dX2_performFlow_159 : decode cX2_performFlow 159 = .ok (.invokevirtual 221, 3) := by decide +kernel
theorem dX2_performFlow_162 : decode cX2_performFlow 162 = .ok (.goto 21, 3) := by decide +kernel
theorem dX2_performFlow_165 : decode cX2_performFlow 165 = .ok (.aload_n 0, 1) := by decide +kernel
theorem dX2_performFlow_166 : decode cX2_performFlow 166 = .ok (.getfield 21, 3) := by decide +kernel
theorem dX2_performFlow_169 : decode cX2_performFlow 169 = .ok (.getfield 209, 3) := by decide +kernel
theorem dX2_performFlow_172 : decode cX2_performFlow 172 = .ok (.aload_n 0, 1) := by decide +kernel
theorem dX2_performFlow_173 : decode cX2_performFlow 173 = .ok (.getfield 91, 3) := by decide +kernel
theorem dX2_performFlow_176 : decode cX2_performFlow 176 = .ok (.iload_n 2, 1) := by decide +kernel
theorem dX2_performFlow_177 : decode cX2_performFlow 177 = .ok (.invokevirtual 142, 3) := by decide +kernel
theorem dX2_performFlow_180 : decode cX2_performFlow 180 = .ok (.goto 3, 3) := by decide +kernel
theorem dX2_performFlow_183 : decode cX2_performFlow 183 = .ok (.return_, 1) := by decide +kernel
theorem dX2_performBehind_0 : decode cX2_performBehind 0 = .ok (.iload_n 1, 1) := by decide +kernel
theorem dX2_performBehind_1 : decode cX2_performBehind 1 = .ok (.tableswitch 297 48 60 #[67, 75, 83, 90, 97, 144, 172, 180, 201, 208, 237, 268, 289], 67) := by decide +kernel
theorem dX2_performBehind_68 : decode cX2_performBehind 68 = .ok (.aload_n 0, 1) := by decide +kernel
theorem dX2_performBehind_69 : decode cX2_performBehind 69 = .ok (.iload_n 2, 1) := by decide +kernel
theorem dX2_performBehind_70 : decode cX2_performBehind 70 = .ok (.invokevirtual 224, 3) := by decide +kernel
theorem dX2_performBehind_73 : decode cX2_performBehind 73 = .ok (.goto 225, 3) := by decide +kernel
theorem dX2_performBehind_76 : decode cX2_performBehind 76 = .ok (.aload_n 0, 1) := by decide +kernel
theorem dX2_performBehind_77 : decode cX2_performBehind 77 = .ok (.iload_n 2, 1) := by decide +kernel
theorem dX2_performBehind_78 : decode cX2_performBehind 78 = .ok (.invokevirtual 227, 3) := by decide +kernel
theorem dX2_performBehind_81 : decode cX2_performBehind 81 = .ok (.goto 217, 3) := by decide +kernel
theorem dX2_performBehind_84 : decode cX2_performBehind 84 = .ok (.aload_n 0, 1) := by decide +kernel
theorem dX2_performBehind_85 : decode cX2_performBehind 85 = .ok (.invokevirtual 230, 3) := by decide +kernel
theorem dX2_performBehind_88 : decode cX2_performBehind 88 = .ok (.goto 210, 3) := by decide +kernel
theorem dX2_performBehind_91 : decode cX2_performBehind 91 = .ok (.aload_n 0, 1) := by decide +kernel
theorem dX2_performBehind_92 : decode cX2_performBehind 92 = .ok (.invokevirtual 233, 3) := by decide +kernel
theorem dX2_performBehind_95 : decode cX2_performBehind 95 = .ok (.goto 203, 3) := by decide +kernel
theorem dX2_performBehind_98 : decode cX2_performBehind 98 = .ok (.aload_n 0, 1) := by decide +kernel
theorem dX2_performBehind_99 : decode cX2_performBehind 99 = .ok (.getfield 75, 3) := by decide +kernel
theorem dX2_performBehind_102 : decode cX2_performBehind 102 = .ok (.iconst 1, 1) := by decide +kernel
theorem dX2_performBehind_103 : decode cX2_performBehind 103 = .ok (.if_icmp .ne 195, 3) := by decide +kernel
theorem dX2_performBehind_106 : decode cX2_performBehind 106 = .ok (.aload_n 0, 1) := by decide +kernel
theorem dX2_performBehind_107 : decode cX2_performBehind 107 = .ok (.getfield 21, 3) := by decide +kernel
theorem dX2_performBehind_110 : decode cX2_performBehind 110 = .ok (.getfield 212, 3) := by decide +kernel
theorem dX2_performBehind_113 : decode cX2_performBehind 113 = .ok (.aload_n 0, 1) := by decide +kernel
theorem dX2_performBehind_114 : decode cX2_performBehind 114 = .ok (.getfield 91, 3) := by decide +kernel
theorem dX2_performBehind_117 : decode cX2_performBehind 117 = .ok (.invokevirtual 119, 3) := by decide +kernel
theorem dX2_performBehind_120 : decode cX2_performBehind 120 = .ok (.iconst 1, 1) := by decide +kernel
theorem dX2_performBehind_121 : decode cX2_performBehind 121 = .ok (.if_icmp .ne 177, 3) := by decide +kernel
theorem dX2_performBehind_124 : decode cX2_performBehind 124 = .ok (.aload_n 0, 1) := by decide +kernel
theorem dX2_performBehind_125 : decode cX2_performBehind 125 = .ok (.aload_n 0, 1) := by decide +kernel
theorem dX2_performBehind_126 : decode cX2_performBehind 126 = .ok (.getfield 21, 3) := by decide +kernel
theorem dX2_performBehind_129 : decode cX2_performBehind 129 = .ok (.getfield 218, 3) := by decide +kernel
theorem dX2_performBehind_132 : decode cX2_performBehind 132 = .ok (.aload_n 0, 1) := by decide +kernel
theorem dX2_performBehind_133 : decode cX2_performBehind 133 = .ok (.getfield 91, 3) := by decide +kernel
theorem dX2_performBehind_136 : decode cX2_performBehind 136 = .ok (.invokevirtual 119, 3) := by decide +kernel
theorem dX2_performBehind_139 : decode cX2_performBehind 139 = .ok (.putfield 82, 3) := by decide +kernel
theorem dX2_performBehind_142 : decode cX2_performBehind 142 = .ok (.goto 156, 3) := by decide +kernel
theorem dX2_performBehind_145 : decode cX2_performBehind 145 = .ok (.aload_n 0, 1) := by decide +kernel
theorem dX2_performBehind_146 : decode cX2_performBehind 146 = .ok (.getfield 43, 3) := by decide +kernel
theorem dX2_performBehind_149 : decode cX2_performBehind 149 = .ok (.getfield 236, 3) := by decide +kernel
theorem dX2_performBehind_152 : decode cX2_performBehind 152 = .ok (.iload_n 2, 1) := by decide +kernel
theorem dX2_performBehind_153 : decode cX2_performBehind 153 = .ok (.aload_n 0, 1) := by decide +kernel
theorem dX2_performBehind_154 : decode cX2_performBehind 154 = .ok (.getfield 21, 3) := by decide +kernel
theorem dX2_performBehind_157 : decode cX2_performBehind 157 = .ok (.getfield 218, 3) := by decide +kernel
theorem dX2_performBehind_160 : decode cX2_performBehind 160 = .ok (.aload_n 0, 1) := by decide +kernel
theorem dX2_performBehind_161 : decode cX2_performBehind 161 = .ok (.getfield 91, 3) := by decide +kernel
theorem dX2_performBehind_164 : decode cX2_performBehind 164 = .ok (.invokevirtual 119, 3) := by decide +kernel
theorem dX2_performBehind_167 : decode cX2_performBehind 167 = .ok (.invokevirtual 142, 3) := by decide +kernel
theorem dX2_performBehind_170 : decode cX2_performBehind 170 = .ok (.goto 128, 3) := by decide +kernel
theorem dX2_performBehind_173 : decode cX2_performBehind 173 = .ok (.aload_n 0, 1) := by decide +kernel
theorem dX2_performBehind_174 : decode cX2_performBehind 174 = .ok (.iload_n 2, 1) := by decide +kernel
theorem dX2_performBehind_175 : decode cX2_performBehind 175 = .ok (.invokevirtual 239, 3) := by decide +kernel
theorem dX2_performBehind_178 : decode cX2_performBehind 178 = .ok (.goto 120, 3) := by decide +kernel
theorem dX2_performBehind_181 : decode cX2_performBehind 181 = .ok (.aload_n 0, 1) := by decide +kernel
theorem dX2_performBehind_182 : decode cX2_performBehind 182 = .ok (.aload_n 0, 1) := by decide +kernel
theorem dX2_performBehind_183 : decode cX2_performBehind 183 = .ok (.getfield 21, 3) := by decide +kernel
theorem dX2_performBehind_186 : decode cX2_performBehind 186 = .ok (.getfield 212, 3) := by decide +kernel
theorem dX2_performBehind_189 : decode cX2_performBehind 189 = .ok (.aload_n 0, 1) := by decide +kernel
theorem dX2_performBehind_190 : decode cX2_performBehind 190 = .ok (.getfield 91, 3) := by decide +kernel
theorem dX2_performBehind_193 : decode cX2_performBehind 193 = .ok (.invokevirtual 119, 3) := by decide +kernel
theorem dX2_performBehind_196 : decode cX2_performBehind 196 = .ok (.putfield 78, 3) := by decide +kernel
theorem dX2_performBehind_199 : decode cX2_performBehind 199 = .ok (.goto 99, 3) := by decide +kernel
theorem dX2_performBehind_202 : decode cX2_performBehind 202 = .ok (.aload_n 0, 1) := by decide +kernel
theorem dX2_performBehind_203 : decode cX2_performBehind 203 = .ok (.invokevirtual 242, 3) := by decide +kernel
theorem dX2_performBehind_206 : decode cX2_performBehind 206 = .ok (.goto 92, 3) := by decide +kernel
theorem dX2_performBehind_209 : decode cX2_performBehind 209 = .ok (.aload_n 0, 1) := by decide +kernel
theorem dX2_performBehind_210 : decode cX2_performBehind 210 = .ok (.getfield 28, 3) := by decide +kernel
theorem dX2_performBehind_213 : decode cX2_performBehind 213 = .ok (.aload_n 0, 1) := by decide +kernel
theorem dX2_performBehind_214 : decode cX2_performBehind 214 = .ok (.getfield 21, 3) := by decide +kernel
theorem dX2_performBehind_217 : decode cX2_performBehind 217 = .ok (.getfield 212, 3) := by decide +kernel
theorem dX2_performBehind_220 : decode cX2_performBehind 220 = .ok (.aload_n 0, 1) := by decide +kernel
theorem dX2_performBehind_221 : decode cX2_performBehind 221 = .ok (.getfield 91, 3) := by decide +kernel
theorem dX2_performBehind_224 : decode cX2_performBehind 224 = .ok (.invokevirtual 119, 3) := by decide +kernel
theorem dX2_performBehind_227 : decode cX2_performBehind 227 = .ok (.iconst 1, 1) := by decide +kernel
theorem dX2_performBehind_228 : decode cX2_performBehind 228 = .ok (.aload_n 0, 1) := by decide +kernel
theorem dX2_performBehind_229 : decode cX2_performBehind 229 = .ok (.getfield 78, 3) := by decide +kernel
theorem dX2_performBehind_232 : decode cX2_performBehind 232 = .ok (.invokevirtual 245, 3) := by decide +kernel
theorem dX2_performBehind_235 : decode cX2_performBehind 235 = .ok (.goto 63, 3) := by decide +kernel
theorem dX2_performBehind_238 : decode cX2_performBehind 238 = .ok (.aload_n 0, 1) := by decide +kernel
theorem dX2_performBehind_239 : decode cX2_performBehind 239 = .ok (.aload_n 0, 1) := by decide +kernel
