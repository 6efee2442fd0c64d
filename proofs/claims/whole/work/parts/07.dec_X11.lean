theorem dX11_restores_23 : decode cX11_restores 23 = .ok (.goto (-21), 3) := by decide +kernel
theorem dX11_restores_26 : decode cX11_restores 26 = .ok (.iconst 0, 1) := by decide +kernel
theorem dX11_restores_27 : decode cX11_restores 27 = .ok (.istore_n 1, 1) := by decide +kernel
theorem dX11_restores_28 : decode cX11_restores 28 = .ok (.iload_n 1, 1) := by decide +kernel
theorem dX11_restores_29 : decode cX11_restores 29 = .ok (.iconst 2, 1) := by decide +kernel
theorem dX11_restores_30 : decode cX11_restores 30 = .ok (.if_icmp .ge 39, 3) := by decide +kernel
theorem dX11_restores_33 : decode cX11_restores 33 = .ok (.aload_n 0, 1) := by decide +kernel
theorem dX11_restores_34 : decode cX11_restores 34 = .ok (.getfield 54, 3) := by decide +kernel
theorem dX11_restores_37 : decode cX11_restores 37 = .ok (.iload_n 1, 1) := by decide +kernel
theorem dX11_restores_38 : decode cX11_restores 38 = .ok (.aload_n 0, 1) := by decide +kernel
theorem dX11_restores_39 : decode cX11_restores 39 = .ok (.getfield 63, 3) := by decide +kernel
theorem dX11_restores_42 : decode cX11_restores 42 = .ok (.bipush 80, 2) := by decide +kernel
theorem dX11_restores_44 : decode cX11_restores 44 = .ok (.iload_n 1, 1) := by decide +kernel
theorem dX11_restores_45 : decode cX11_restores 45 = .ok (.iadd, 1) := by decide +kernel
theorem dX11_restores_46 : decode cX11_restores 46 = .ok (.iaload, 1) := by decide +kernel
theorem dX11_restores_47 : decode cX11_restores 47 = .ok (.iastore, 1) := by decide +kernel
theorem dX11_restores_48 : decode cX11_restores 48 = .ok (.aload_n 0, 1) := by decide +kernel
theorem dX11_restores_49 : decode cX11_restores 49 = .ok (.getfield 60, 3) := by decide +kernel
theorem dX11_restores_52 : decode cX11_restores 52 = .ok (.iload_n 1, 1) := by decide +kernel
theorem dX11_restores_53 : decode cX11_restores 53 = .ok (.aload_n 0, 1) := by decide +kernel
theorem dX11_restores_54 : decode cX11_restores 54 = .ok (.getfield 63, 3) := by decide +kernel
theorem dX11_restores_57 : decode cX11_restores 57 = .ok (.bipush 90, 2) := by decide +kernel
theorem dX11_restores_59 : decode cX11_restores 59 = .ok (.iload_n 1, 1) := by decide +kernel
theorem dX11_restores_60 : decode cX11_restores 60 = .ok (.iadd, 1) := by decide +kernel
theorem dX11_restores_61 : decode cX11_restores 61 = .ok (.iaload, 1) := by decide +kernel
theorem dX11_restores_62 : decode cX11_restores 62 = .ok (.iastore, 1) := by decide +kernel
theorem dX11_restores_63 : decode cX11_restores 63 = .ok (.iinc 1 1, 3) := by decide +kernel
theorem dX11_restores_66 : decode cX11_restores 66 = .ok (.goto (-38), 3) := by decide +kernel
theorem dX11_restores_69 : decode cX11_restores 69 = .ok (.iconst 0, 1) := by decide +kernel
theorem dX11_restores_70 : decode cX11_restores 70 = .ok (.istore_n 1, 1) := by decide +kernel
theorem dX11_restores_71 : decode cX11_restores 71 = .ok (.iload_n 1, 1) := by decide +kernel
theorem dX11_restores_72 : decode cX11_restores 72 = .ok (.bipush 8, 2) := by decide +kernel
theorem dX11_restores_74 : decode cX11_restores 74 = .ok (.if_icmp .ge 24, 3) := by decide +kernel
theorem dX11_restores_77 : decode cX11_restores 77 = .ok (.aload_n 0, 1) := by decide +kernel
theorem dX11_restores_78 : decode cX11_restores 78 = .ok (.getfield 57, 3) := by decide +kernel
theorem dX11_restores_81 : decode cX11_restores 81 = .ok (.iload_n 1, 1) := by decide +kernel
theorem dX11_restores_82 : decode cX11_restores 82 = .ok (.aload_n 0, 1) := by decide +kernel
theorem dX11_restores_83 : decode cX11_restores 83 = .ok (.getfield 63, 3) := by decide +kernel
theorem dX11_restores_86 : decode cX11_restores 86 = .ok (.bipush 82, 2) := by decide +kernel
theorem dX11_restores_88 : decode cX11_restores 88 = .ok (.iload_n 1, 1) := by decide +kernel
theorem dX11_restores_89 : decode cX11_restores 89 = .ok (.iadd, 1) := by decide +kernel
theorem dX11_restores_90 : decode cX11_restores 90 = .ok (.iaload, 1) := by decide +kernel
theorem dX11_restores_91 : decode cX11_restores 91 = .ok (.iastore, 1) := by decide +kernel
theorem dX11_restores_92 : decode cX11_restores 92 = .ok (.iinc 1 1, 3) := by decide +kernel
theorem dX11_restores_95 : decode cX11_restores 95 = .ok (.goto (-24), 3) := by decide +kernel
theorem dX11_restores_98 : decode cX11_restores 98 = .ok (.iconst 0, 1) := by decide +kernel
theorem dX11_restores_99 : decode cX11_restores 99 = .ok (.istore_n 1, 1) := by decide +kernel
theorem dX11_restores_100 : decode cX11_restores 100 = .ok (.iload_n 1, 1) := by decide +kernel
theorem dX11_restores_101 : decode cX11_restores 101 = .ok (.iconst 4, 1) := by decide +kernel
theorem dX11_restores_102 : decode cX11_restores 102 = .ok (.if_icmp .ge 24, 3) := by decide +kernel
theorem dX11_restores_105 : decode cX11_restores 105 = .ok (.aload_n 0, 1) := by decide +kernel
theorem dX11_restores_106 : decode cX11_restores 106 = .ok (.getfield 38, 3) := by decide +kernel
theorem dX11_restores_109 : decode cX11_restores 109 = .ok (.iload_n 1, 1) := by decide +kernel
theorem dX11_restores_110 : decode cX11_restores 110 = .ok (.aload_n 0, 1) := by decide +kernel
theorem dX11_restores_111 : decode cX11_restores 111 = .ok (.getfield 63, 3) := by decide +kernel
theorem dX11_restores_114 : decode cX11_restores 114 = .ok (.bipush 92, 2) := by decide +kernel
theorem dX11_restores_116 : decode cX11_restores 116 = .ok (.iload_n 1, 1) := by decide +kernel
theorem dX11_restores_117 : decode cX11_restores 117 = .ok (.iadd, 1) := by decide +kernel
theorem dX11_restores_118 : decode cX11_restores 118 = .ok (.iaload, 1) := by decide +kernel
theorem dX11_restores_119 : decode cX11_restores 119 = .ok (.iastore, 1) := by decide +kernel
theorem dX11_restores_120 : decode cX11_restores 120 = .ok (.iinc 1 1, 3) := by decide +kernel
theorem dX11_restores_123 : decode cX11_restores 123 = .ok (.goto (-23), 3) := by decide +kernel
theorem dX11_restores_126 : decode cX11_restores 126 = .ok (.iconst 0, 1) := by decide +kernel
theorem dX11_restores_127 : decode cX11_restores 127 = .ok (.istore_n 1, 1) := by decide +kernel
theorem dX11_restores_128 : decode cX11_restores 128 = .ok (.iload_n 1, 1) := by decide +kernel
theorem dX11_restores_129 : decode cX11_restores 129 = .ok (.bipush 6, 2) := by decide +kernel
theorem dX11_restores_131 : decode cX11_restores 131 = .ok (.if_icmp .ge 24, 3) := by decide +kernel
theorem dX11_restores_134 : decode cX11_restores 134 = .ok (.aload_n 0, 1) := by decide +kernel
theorem dX11_restores_135 : decode cX11_restores 135 = .ok (.getfield 32, 3) := by decide +kernel
theorem dX11_restores_138 : decode cX11_restores 138 = .ok (.iload_n 1, 1) := by decide +kernel
theorem dX11_restores_139 : decode cX11_restores 139 = .ok (.aload_n 0, 1) := by decide +kernel
theorem dX11_restores_140 : decode cX11_restores 140 = .ok (.getfield 63, 3) := by decide +kernel
theorem dX11_restores_143 : decode cX11_restores 143 = .ok (.bipush 96, 2) := by decide +kernel
theorem dX11_restores_145 : decode cX11_restores 145 = .ok (.iload_n 1, 1) := by decide +kernel
theorem dX11_restores_146 : decode cX11_restores 146 = .ok (.iadd, 1) := by decide +kernel
theorem dX11_restores_147 : decode cX11_restores 147 = .ok (.iaload, 1) := by decide +kernel
theorem dX11_restores_148 : decode cX11_restores 148 = .ok (.iastore, 1) := by decide +kernel
theorem dX11_restores_149 : decode cX11_restores 149 = .ok (.iinc 1 1, 3) := by decide +kernel
theorem dX11_restores_152 : decode cX11_restores 152 = .ok (.goto (-24), 3) := by decide +kernel
theorem dX11_restores_155 : decode cX11_restores 155 = .ok (.aload_n 0, 1) := by decide +kernel
theorem dX11_restores_156 : decode cX11_restores 156 = .ok (.aload_n 0, 1) := by decide +kernel
theorem dX11_restores_157 : decode cX11_restores 157 = .ok (.getfield 63, 3) := by decide +kernel
theorem dX11_restores_160 : decode cX11_restores 160 = .ok (.bipush 102, 2) := by decide +kernel
theorem dX11_restores_162 : decode cX11_restores 162 = .ok (.iaload, 1) := by decide +kernel
theorem dX11_restores_163 : decode cX11_restores 163 = .ok (.putfield 44, 3) := by decide +kernel
theorem dX11_restores_166 : decode cX11_restores 166 = .ok (.aload_n 0, 1) := by decide +kernel
theorem dX11_restores_167 : decode cX11_restores 167 = .ok (.aload_n 0, 1) := by decide +kernel
theorem dX11_restores_168 : decode cX11_restores 168 = .ok (.getfield 63, 3) := by decide +kernel
theorem dX11_restores_171 : decode cX11_restores 171 = .ok (.bipush 103, 2) := by decide +kernel
theorem dX11_restores_173 : decode cX11_restores 173 = .ok (.iaload, 1) := by decide +kernel
theorem dX11_restores_174 : decode cX11_restores 174 = .ok (.putfield 180, 3) := by decide +kernel
theorem dX11_restores_177 : decode cX11_restores 177 = .ok (.return_, 1) := by decide +kernel
theorem dX11_opens_0 : decode cX11_opens 0 = .ok (.aload_n 0, 1) := by decide +kernel
theorem dX11_opens_1 : decode cX11_opens 1 = .ok (.getfield 90, 3) := by decide +kernel
theorem dX11_opens_4 : decode cX11_opens 4 = .ok (.aload_n 0, 1) := by decide +kernel
theorem dX11_opens_5 : decode cX11_opens 5 = .ok (.getfield 186, 3) := by decide +kernel
theorem dX11_opens_8 : decode cX11_opens 8 = .ok (.iload_n 1, 1) := by decide +kernel
theorem dX11_opens_9 : decode cX11_opens 9 = .ok (.iastore, 1) := by decide +kernel
theorem dX11_opens_10 : decode cX11_opens 10 = .ok (.iconst 0, 1) := by decide +kernel
theorem dX11_opens_11 : decode cX11_opens 11 = .ok (.istore_n 2, 1) := by decide +kernel
theorem dX11_opens_12 : decode cX11_opens 12 = .ok (.iload_n 2, 1) := by decide +kernel
theorem dX11_opens_13 : decode cX11_opens 13 = .ok (.bipush 8, 2) := by decide +kernel
theorem dX11_opens_15 : decode cX11_opens 15 = .ok (.if_icmp .ge 25, 3) := by decide +kernel
theorem dX11_opens_18 : decode cX11_opens 18 = .ok (.aload_n 0, 1) := by decide +kernel
theorem dX11_opens_19 : decode cX11_opens 19 = .ok (.getfield 93, 3) := by decide +kernel
theorem dX11_opens_22 : decode cX11_opens 22 = .ok (.bipush 8, 2) := by decide +kernel
theorem dX11_opens_24 : decode cX11_opens 24 = .ok (.aload_n 0, 1) := by decide +kernel
theorem dX11_opens_25 : decode cX11_opens 25 = .ok (.getfield 186, 3) := by decide +kernel
theorem dX11_opens_28 : decode cX11_opens 28 = .ok (.imul, 1) := by decide +kernel
theorem dX11_opens_29 : decode cX11_opens 29 = .ok (.iload_n 2, 1) := by decide +kernel
theorem dX11_opens_30 : decode cX11_opens 30 = .ok (.iadd, 1) := by decide +kernel
theorem dX11_opens_31 : decode cX11_opens 31 = .ok (.ldc 189, 2) := by decide +kernel
theorem dX11_opens_33 : decode cX11_opens 33 = .ok (.iastore, 1) := by decide +kernel
theorem dX11_opens_34 : decode cX11_opens 34 = .ok (.iinc 2 1, 3) := by decide +kernel
theorem dX11_opens_37 : decode cX11_opens 37 = .ok (.goto (-25), 3) := by decide +kernel
theorem dX11_opens_40 : decode cX11_opens 40 = .ok (.aload_n 0, 1) := by decide +kernel
theorem dX11_opens_41 : decode cX11_opens 41 = .ok (.dup, 1) := by decide +kernel
theorem dX11_opens_42 : decode cX11_opens 42 = .ok (.getfield 186, 3) := by decide +kernel
theorem dX11_opens_45 : decode cX11_opens 45 = .ok (.iconst 1, 1) := by decide +kernel
theorem dX11_opens_46 : decode cX11_opens 46 = .ok (.iadd, 1) := by decide +kernel
theorem dX11_opens_47 : decode cX11_opens 47 = .ok (.putfield 186, 3) := by decide +kernel
theorem dX11_opens_50 : decode cX11_opens 50 = .ok (.aload_n 0, 1) := by decide +kernel
theorem dX11_opens_51 : decode cX11_opens 51 = .ok (.getfield 186, 3) := by decide +kernel
theorem dX11_opens_54 : decode cX11_opens 54 = .ok (.iconst 1, 1) := by decide +kernel
theorem dX11_opens_55 : decode cX11_opens 55 = .ok (.isub, 1) := by decide +kernel
theorem dX11_opens_56 : decode cX11_opens 56 = .ok (.ireturn, 1) := by decide +kernel
theorem dX11_cellOf_0 : decode cX11_cellOf 0 = .ok (.iload_n 1, 1) := by decide +kernel
theorem dX11_cellOf_1 : decode cX11_cellOf 1 = .ok (.istore_n 3, 1) := by decide +kernel
theorem dX11_cellOf_2 : decode cX11_cellOf 2 = .ok (.iload_n 3, 1) := by decide +kernel
theorem dX11_cellOf_3 : decode cX11_cellOf 3 = .ok (.iconst (-1), 1) := by decide +kernel
theorem dX11_cellOf_4 : decode cX11_cellOf 4 = .ok (.if_icmp .eq 29, 3) := by decide +kernel
theorem dX11_cellOf_7 : decode cX11_cellOf 7 = .ok (.aload_n 0, 1) := by decide +kernel
theorem dX11_cellOf_8 : decode cX11_cellOf 8 = .ok (.getfield 93, 3) := by decide +kernel
theorem dX11_cellOf_11 : decode cX11_cellOf 11 = .ok (.bipush 8, 2) := by decide +kernel
theorem dX11_cellOf_13 : decode cX11_cellOf 13 = .ok (.iload_n 3, 1) := by decide +kernel
theorem dX11_cellOf_14 : decode cX11_cellOf 14 = .ok (.imul, 1) := by decide +kernel
theorem dX11_cellOf_15 : decode cX11_cellOf 15 = .ok (.iload_n 2, 1) := by decide +kernel
theorem dX11_cellOf_16 : decode cX11_cellOf 16 = .ok (.iadd, 1) := by decide +kernel
theorem dX11_cellOf_17 : decode cX11_cellOf 17 = .ok (.iaload, 1) := by decide +kernel
theorem dX11_cellOf_18 : decode cX11_cellOf 18 = .ok (.ldc 189, 2) := by decide +kernel
theorem dX11_cellOf_20 : decode cX11_cellOf 20 = .ok (.if_icmp .ne 13, 3) := by decide +kernel
theorem dX11_cellOf_23 : decode cX11_cellOf 23 = .ok (.aload_n 0, 1) := by decide +kernel
theorem dX11_cellOf_24 : decode cX11_cellOf 24 = .ok (.getfield 90, 3) := by decide +kernel
theorem dX11_cellOf_27 : decode cX11_cellOf 27 = .ok (.iload_n 3, 1) := by decide +kernel
theorem dX11_cellOf_28 : decode cX11_cellOf 28 = .ok (.iaload, 1) := by decide +kernel
theorem dX11_cellOf_29 : decode cX11_cellOf 29 = .ok (.istore_n 3, 1) := by decide +kernel
theorem dX11_cellOf_30 : decode cX11_cellOf 30 = .ok (.goto (-28), 3) := by decide +kernel
theorem dX11_cellOf_33 : decode cX11_cellOf 33 = .ok (.iload_n 3, 1) := by decide +kernel
theorem dX11_cellOf_34 : decode cX11_cellOf 34 = .ok (.iconst (-1), 1) := by decide +kernel
theorem dX11_cellOf_35 : decode cX11_cellOf 35 = .ok (.if_icmp .ne 7, 3) := by decide +kernel
theorem dX11_cellOf_38 : decode cX11_cellOf 38 = .ok (.iconst (-1), 1) := by decide +kernel
theorem dX11_cellOf_39 : decode cX11_cellOf 39 = .ok (.goto 9, 3) := by decide +kernel
theorem dX11_cellOf_42 : decode cX11_cellOf 42 = .ok (.bipush 8, 2) := by decide +kernel
theorem dX11_cellOf_44 : decode cX11_cellOf 44 = .ok (.iload_n 3, 1) := by decide +kernel
theorem dX11_cellOf_45 : decode cX11_cellOf 45 = .ok (.imul, 1) := by decide +kernel
theorem dX11_cellOf_46 : decode cX11_cellOf 46 = .ok (.iload_n 2, 1) := by decide +kernel
theorem dX11_cellOf_47 : decode cX11_cellOf 47 = .ok (.iadd, 1) := by decide +kernel
theorem dX11_cellOf_48 : decode cX11_cellOf 48 = .ok (.ireturn, 1) := by decide +kernel
theorem dX11_lays_0 : decode cX11_lays 0 = .ok (.aload_n 0, 1) := by decide +kernel
theorem dX11_lays_1 : decode cX11_lays 1 = .ok (.getfield 69, 3) := by decide +kernel
theorem dX11_lays_4 : decode cX11_lays 4 = .ok (.aload_n 0, 1) := by decide +kernel
theorem dX11_lays_5 : decode cX11_lays 5 = .ok (.getfield 190, 3) := by decide +kernel
theorem dX11_lays_8 : decode cX11_lays 8 = .ok (.iload_n 1, 1) := by decide +kernel
theorem dX11_lays_9 : decode cX11_lays 9 = .ok (.iastore, 1) := by decide +kernel
theorem dX11_lays_10 : decode cX11_lays 10 = .ok (.aload_n 0, 1) := by decide +kernel
theorem dX11_lays_11 : decode cX11_lays 11 = .ok (.getfield 72, 3) := by decide +kernel
theorem dX11_lays_14 : decode cX11_lays 14 = .ok (.aload_n 0, 1) := by decide +kernel
theorem dX11_lays_15 : decode cX11_lays 15 = .ok (.getfield 190, 3) := by decide +kernel
theorem dX11_lays_18 : decode cX11_lays 18 = .ok (.iload_n 2, 1) := by decide +kernel
theorem dX11_lays_19 : decode cX11_lays 19 = .ok (.iastore, 1) := by decide +kernel
theorem dX11_lays_20 : decode cX11_lays 20 = .ok (.aload_n 0, 1) := by decide +kernel
theorem dX11_lays_21 : decode cX11_lays 21 = .ok (.getfield 75, 3) := by decide +kernel
theorem dX11_lays_24 : decode cX11_lays 24 = .ok (.aload_n 0, 1) := by decide +kernel
theorem dX11_lays_25 : decode cX11_lays 25 = .ok (.getfield 190, 3) := by decide +kernel
theorem dX11_lays_28 : decode cX11_lays 28 = .ok (.iload_n 3, 1) := by decide +kernel
theorem dX11_lays_29 : decode cX11_lays 29 = .ok (.iastore, 1) := by decide +kernel
theorem dX11_lays_30 : decode cX11_lays 30 = .ok (.aload_n 0, 1) := by decide +kernel
theorem dX11_lays_31 : decode cX11_lays 31 = .ok (.getfield 78, 3) := by decide +kernel
theorem dX11_lays_34 : decode cX11_lays 34 = .ok (.aload_n 0, 1) := by decide +kernel
theorem dX11_lays_35 : decode cX11_lays 35 = .ok (.getfield 190, 3) := by decide +kernel
theorem dX11_lays_38 : decode cX11_lays 38 = .ok (.iload 4, 2) := by decide +kernel
theorem dX11_lays_40 : decode cX11_lays 40 = .ok (.iastore, 1) := by decide +kernel
theorem dX11_lays_41 : decode cX11_lays 41 = .ok (.aload_n 0, 1) := by decide +kernel
theorem dX11_lays_42 : decode cX11_lays 42 = .ok (.dup, 1) := by decide +kernel
theorem dX11_lays_43 : decode cX11_lays 43 = .ok (.getfield 190, 3) := by decide +kernel
theorem dX11_lays_46 : decode cX11_lays 46 = .ok (.iconst 1, 1) := by decide +kernel
theorem dX11_lays_47 : decode cX11_lays 47 = .ok (.iadd, 1) := by decide +kernel
theorem dX11_lays_48 : decode cX11_lays 48 = .ok (.putfield 190, 3) := by decide +kernel
theorem dX11_lays_51 : decode cX11_lays 51 = .ok (.aload_n 0, 1) := by decide +kernel
theorem dX11_lays_52 : decode cX11_lays 52 = .ok (.getfield 190, 3) := by decide +kernel
theorem dX11_lays_55 : decode cX11_lays 55 = .ok (.iconst 1, 1) := by decide +kernel
theorem dX11_lays_56 : decode cX11_lays 56 = .ok (.isub, 1) := by decide +kernel
theorem dX11_lays_57 : decode cX11_lays 57 = .ok (.ireturn, 1) := by decide +kernel
theorem dX11_asks_0 : decode cX11_asks 0 = .ok (.aload_n 0, 1) := by decide +kernel
theorem dX11_asks_1 : decode cX11_asks 1 = .ok (.iload_n 1, 1) := by decide +kernel
theorem dX11_asks_2 : decode cX11_asks 2 = .ok (.putfield 193, 3) := by decide +kernel
theorem dX11_asks_5 : decode cX11_asks 5 = .ok (.aload_n 0, 1) := by decide +kernel
theorem dX11_asks_6 : decode cX11_asks 6 = .ok (.iload_n 2, 1) := by decide +kernel
theorem dX11_asks_7 : decode cX11_asks 7 = .ok (.putfield 196, 3) := by decide +kernel
theorem dX11_asks_10 : decode cX11_asks 10 = .ok (.aload_n 0, 1) := by decide +kernel
theorem dX11_asks_11 : decode cX11_asks 11 = .ok (.iload_n 3, 1) := by decide +kernel
theorem dX11_asks_12 : decode cX11_asks 12 = .ok (.putfield 199, 3) := by decide +kernel
theorem dX11_asks_15 : decode cX11_asks 15 = .ok (.aload_n 0, 1) := by decide +kernel
theorem dX11_asks_16 : decode cX11_asks 16 = .ok (.iconst 0, 1) := by decide +kernel
theorem dX11_asks_17 : decode cX11_asks 17 = .ok (.putfield 202, 3) := by decide +kernel
theorem dX11_asks_20 : decode cX11_asks 20 = .ok (.return_, 1) := by decide +kernel
theorem dX11_parts_0 : decode cX11_parts 0 = .ok (.aload_n 0, 1) := by decide +kernel
theorem dX11_parts_1 : decode cX11_parts 1 = .ok (.getfield 78, 3) := by decide +kernel
theorem dX11_parts_4 : decode cX11_parts 4 = .ok (.iload_n 2, 1) := by decide +kernel
theorem dX11_parts_5 : decode cX11_parts 5 = .ok (.iload_n 3, 1) := by decide +kernel
theorem dX11_parts_6 : decode cX11_parts 6 = .ok (.iastore, 1) := by decide +kernel
theorem dX11_parts_7 : decode cX11_parts 7 = .ok (.aload_n 0, 1) := by decide +kernel
theorem dX11_parts_8 : decode cX11_parts 8 = .ok (.iload_n 1, 1) := by decide +kernel
theorem dX11_parts_9 : decode cX11_parts 9 = .ok (.iload_n 2, 1) := by decide +kernel
theorem dX11_parts_10 : decode cX11_parts 10 = .ok (.aload_n 0, 1) := by decide +kernel
theorem dX11_parts_11 : decode cX11_parts 11 = .ok (.getfield 75, 3) := by decide +kernel
theorem dX11_parts_14 : decode cX11_parts 14 = .ok (.iload_n 2, 1) := by decide +kernel
theorem dX11_parts_15 : decode cX11_parts 15 = .ok (.iaload, 1) := by decide +kernel
theorem dX11_parts_16 : decode cX11_parts 16 = .ok (.invokevirtual 205, 3) := by decide +kernel
theorem dX11_parts_19 : decode cX11_parts 19 = .ok (.return_, 1) := by decide +kernel
theorem dX11_ends_0 : decode cX11_ends 0 = .ok (.aload_n 0, 1) := by decide +kernel
theorem dX11_ends_1 : decode cX11_ends 1 = .ok (.iconst 1, 1) := by decide +kernel
theorem dX11_ends_2 : decode cX11_ends 2 = .ok (.putfield 202, 3) := by decide +kernel
theorem dX11_ends_5 : decode cX11_ends 5 = .ok (.aload_n 0, 1) := by decide +kernel
theorem dX11_ends_6 : decode cX11_ends 6 = .ok (.iload_n 2, 1) := by decide +kernel
theorem dX11_ends_7 : decode cX11_ends 7 = .ok (.putfield 209, 3) := by decide +kernel
theorem dX11_ends_10 : decode cX11_ends 10 = .ok (.aload_n 0, 1) := by decide +kernel
theorem dX11_ends_11 : decode cX11_ends 11 = .ok (.aload_n 0, 1) := by decide +kernel
theorem dX11_ends_12 : decode cX11_ends 12 = .ok (.getfield 72, 3) := by decide +kernel
theorem dX11_ends_15 : decode cX11_ends 15 = .ok (.iload_n 1, 1) := by decide +kernel
theorem dX11_ends_16 : decode cX11_ends 16 = .ok (.iaload, 1) := by decide +kernel
theorem dX11_ends_17 : decode cX11_ends 17 = .ok (.putfield 212, 3) := by decide +kernel
theorem dX11_ends_20 : decode cX11_ends 20 = .ok (.return_, 1) := by decide +kernel
theorem dX11_fails_0 : decode cX11_fails 0 = .ok (.aload_n 0, 1) := by decide +kernel
theorem dX11_fails_1 : decode cX11_fails 1 = .ok (.iconst 2, 1) := by decide +kernel
theorem dX11_fails_2 : decode cX11_fails 2 = .ok (.putfield 202, 3) := by decide +kernel
theorem dX11_fails_5 : decode cX11_fails 5 = .ok (.aload_n 0, 1) := by decide +kernel
theorem dX11_fails_6 : decode cX11_fails 6 = .ok (.iload_n 2, 1) := by decide +kernel
theorem dX11_fails_7 : decode cX11_fails 7 = .ok (.putfield 209, 3) := by decide +kernel
theorem dX11_fails_10 : decode cX11_fails 10 = .ok (.aload_n 0, 1) := by decide +kernel
theorem dX11_fails_11 : decode cX11_fails 11 = .ok (.ldc 189, 2) := by decide +kernel
theorem dX11_fails_13 : decode cX11_fails 13 = .ok (.putfield 215, 3) := by decide +kernel
theorem dX11_fails_16 : decode cX11_fails 16 = .ok (.aload_n 0, 1) := by decide +kernel
theorem dX11_fails_17 : decode cX11_fails 17 = .ok (.aload_n 0, 1) := by decide +kernel
theorem dX11_fails_18 : decode cX11_fails 18 = .ok (.getfield 69, 3) := by decide +kernel
theorem dX11_fails_21 : decode cX11_fails 21 = .ok (.iload_n 1, 1) := by decide +kernel
theorem dX11_fails_22 : decode cX11_fails 22 = .ok (.iaload, 1) := by decide +kernel
theorem dX11_fails_23 : decode cX11_fails 23 = .ok (.putfield 218, 3) := by decide +kernel
theorem dX11_fails_26 : decode cX11_fails 26 = .ok (.aload_n 0, 1) := by decide +kernel
theorem dX11_fails_27 : decode cX11_fails 27 = .ok (.aload_n 0, 1) := by decide +kernel
theorem dX11_fails_28 : decode cX11_fails 28 = .ok (.getfield 221, 3) := by decide +kernel
theorem dX11_fails_31 : decode cX11_fails 31 = .ok (.putfield 224, 3) := by decide +kernel
theorem dX11_fails_34 : decode cX11_fails 34 = .ok (.aload_n 0, 1) := by decide +kernel
theorem dX11_fails_35 : decode cX11_fails 35 = .ok (.aload_n 0, 1) := by decide +kernel
theorem dX11_fails_36 : decode cX11_fails 36 = .ok (.getfield 72, 3) := by decide +kernel
theorem dX11_fails_39 : decode cX11_fails 39 = .ok (.iload_n 1, 1) := by decide +kernel
theorem dX11_fails_40 : decode cX11_fails 40 = .ok (.iaload, 1) := by decide +kernel
theorem dX11_fails_41 : decode cX11_fails 41 = .ok (.putfield 212, 3) := by decide +kernel
theorem dX11_fails_44 : decode cX11_fails 44 = .ok (.return_, 1) := by decide +kernel
theorem dX11_begins_0 : decode cX11_begins 0 = .ok (.aload_n 0, 1) := by decide +kernel
theorem dX11_begins_1 : decode cX11_begins 1 = .ok (.iconst (-1), 1) := by decide +kernel
theorem dX11_begins_2 : decode cX11_begins 2 = .ok (.iload_n 3, 1) := by decide +kernel
theorem dX11_begins_3 : decode cX11_begins 3 = .ok (.iload 4, 2) := by decide +kernel
theorem dX11_begins_5 : decode cX11_begins 5 = .ok (.iload_n 2, 1) := by decide +kernel
theorem dX11_begins_6 : decode cX11_begins 6 = .ok (.invokevirtual 227, 3) := by decide +kernel
theorem dX11_begins_9 : decode cX11_begins 9 = .ok (.istore 5, 2) := by decide +kernel
theorem dX11_begins_11 : decode cX11_begins 11 = .ok (.aload_n 0, 1) := by decide +kernel
theorem dX11_begins_12 : decode cX11_begins 12 = .ok (.iload_n 1, 1) := by decide +kernel
theorem dX11_begins_13 : decode cX11_begins 13 = .ok (.iload 5, 2) := by decide +kernel
theorem dX11_begins_15 : decode cX11_begins 15 = .ok (.iload 4, 2) := by decide +kernel
theorem dX11_begins_17 : decode cX11_begins 17 = .ok (.invokevirtual 205, 3) := by decide +kernel
theorem dX11_begins_20 : decode cX11_begins 20 = .ok (.iload 5, 2) := by decide +kernel
theorem dX11_begins_22 : decode cX11_begins 22 = .ok (.ireturn, 1) := by decide +kernel
theorem dX11_bodyOf_0 : decode cX11_bodyOf 0 = .ok (.iload_n 1, 1) := by decide +kernel
theorem dX11_bodyOf_1 : decode cX11_bodyOf 1 = .ok (.istore_n 2, 1) := by decide +kernel
theorem dX11_bodyOf_2 : decode cX11_bodyOf 2 = .ok (.aload_n 0, 1) := by decide +kernel
theorem dX11_bodyOf_3 : decode cX11_bodyOf 3 = .ok (.getfield 69, 3) := by decide +kernel
theorem dX11_bodyOf_6 : decode cX11_bodyOf 6 = .ok (.iload_n 2, 1) := by decide +kernel
theorem dX11_bodyOf_7 : decode cX11_bodyOf 7 = .ok (.iaload, 1) := by decide +kernel
theorem dX11_bodyOf_8 : decode cX11_bodyOf 8 = .ok (.iconst (-1), 1) := by decide +kernel
theorem dX11_bodyOf_9 : decode cX11_bodyOf 9 = .ok (.if_icmp .eq 13, 3) := by decide +kernel
theorem dX11_bodyOf_12 : decode cX11_bodyOf 12 = .ok (.aload_n 0, 1) := by decide +kernel
theorem dX11_bodyOf_13 : decode cX11_bodyOf 13 = .ok (.getfield 72, 3) := by decide +kernel
theorem dX11_bodyOf_16 : decode cX11_bodyOf 16 = .ok (.iload_n 2, 1) := by decide +kernel
theorem dX11_bodyOf_17 : decode cX11_bodyOf 17 = .ok (.iaload, 1) := by decide +kernel
theorem dX11_bodyOf_18 : decode cX11_bodyOf 18 = .ok (.istore_n 2, 1) := by decide +kernel
theorem dX11_bodyOf_19 : decode cX11_bodyOf 19 = .ok (.goto (-17), 3) := by decide +kernel
theorem dX11_bodyOf_22 : decode cX11_bodyOf 22 = .ok (.iload_n 2, 1) := by decide +kernel
theorem dX11_bodyOf_23 : decode cX11_bodyOf 23 = .ok (.ireturn, 1) := by decide +kernel
theorem dX11_hasLoop_0 : decode cX11_hasLoop 0 = .ok (.aload_n 0, 1) := by decide +kernel
theorem dX11_hasLoop_1 : decode cX11_hasLoop 1 = .ok (.getfield 72, 3) := by decide +kernel
theorem dX11_hasLoop_4 : decode cX11_hasLoop 4 = .ok (.iload_n 1, 1) := by decide +kernel
theorem dX11_hasLoop_5 : decode cX11_hasLoop 5 = .ok (.iaload, 1) := by decide +kernel
theorem dX11_hasLoop_6 : decode cX11_hasLoop 6 = .ok (.istore_n 3, 1) := by decide +kernel
theorem dX11_hasLoop_7 : decode cX11_hasLoop 7 = .ok (.iconst 0, 1) := by decide +kernel
theorem dX11_hasLoop_8 : decode cX11_hasLoop 8 = .ok (.istore 4, 2) := by decide +kernel
theorem dX11_hasLoop_10 : decode cX11_hasLoop 10 = .ok (.aload_n 0, 1) := by decide +kernel
theorem dX11_hasLoop_11 : decode cX11_hasLoop 11 = .ok (.getfield 69, 3) := by decide +kernel
theorem dX11_hasLoop_14 : decode cX11_hasLoop 14 = .ok (.iload_n 3, 1) := by decide +kernel
theorem dX11_hasLoop_15 : decode cX11_hasLoop 15 = .ok (.iaload, 1) := by decide +kernel
theorem dX11_hasLoop_16 : decode cX11_hasLoop 16 = .ok (.iconst (-1), 1) := by decide +kernel
theorem dX11_hasLoop_17 : decode cX11_hasLoop 17 = .ok (.if_icmp .eq 56, 3) := by decide +kernel
theorem dX11_hasLoop_20 : decode cX11_hasLoop 20 = .ok (.iload 4, 2) := by decide +kernel
theorem dX11_hasLoop_22 : decode cX11_hasLoop 22 = .ok (.ifCond .ne 51, 3) := by decide +kernel
theorem dX11_hasLoop_25 : decode cX11_hasLoop 25 = .ok (.aload_n 0, 1) := by decide +kernel
theorem dX11_hasLoop_26 : decode cX11_hasLoop 26 = .ok (.getfield 7, 3) := by decide +kernel
theorem dX11_hasLoop_29 : decode cX11_hasLoop 29 = .ok (.aload_n 0, 1) := by decide +kernel
theorem dX11_hasLoop_30 : decode cX11_hasLoop 30 = .ok (.getfield 69, 3) := by decide +kernel
theorem dX11_hasLoop_33 : decode cX11_hasLoop 33 = .ok (.iload_n 3, 1) := by decide +kernel
theorem dX11_hasLoop_34 : decode cX11_hasLoop 34 = .ok (.iaload, 1) := by decide +kernel
theorem dX11_hasLoop_35 : decode cX11_hasLoop 35 = .ok (.iaload, 1) := by decide +kernel
theorem dX11_hasLoop_36 : decode cX11_hasLoop 36 = .ok (.bipush 13, 2) := by decide +kernel
theorem dX11_hasLoop_38 : decode cX11_hasLoop 38 = .ok (.if_icmp .ne 22, 3) := by decide +kernel
theorem dX11_hasLoop_41 : decode cX11_hasLoop 41 = .ok (.aload_n 0, 1) := by decide +kernel
theorem dX11_hasLoop_42 : decode cX11_hasLoop 42 = .ok (.getfield 13, 3) := by decide +kernel
theorem dX11_hasLoop_45 : decode cX11_hasLoop 45 = .ok (.aload_n 0, 1) := by decide +kernel
theorem dX11_hasLoop_46 : decode cX11_hasLoop 46 = .ok (.getfield 69, 3) := by decide +kernel
theorem dX11_hasLoop_49 : decode cX11_hasLoop 49 = .ok (.iload_n 3, 1) := by decide +kernel
theorem dX11_hasLoop_50 : decode cX11_hasLoop 50 = .ok (.iaload, 1) := by decide +kernel
theorem dX11_hasLoop_51 : decode cX11_hasLoop 51 = .ok (.iaload, 1) := by decide +kernel
theorem dX11_hasLoop_52 : decode cX11_hasLoop 52 = .ok (.iload_n 2, 1) := by decide +kernel
theorem dX11_hasLoop_53 : decode cX11_hasLoop 53 = .ok (.if_icmp .ne 7, 3) := by decide +kernel
theorem dX11_hasLoop_56 : decode cX11_hasLoop 56 = .ok (.iconst 1, 1) := by decide +kernel
theorem dX11_hasLoop_57 : decode cX11_hasLoop 57 = .ok (.goto 4, 3) := by decide +kernel
theorem dX11_hasLoop_60 : decode cX11_hasLoop 60 = .ok (.iconst 0, 1) := by decide +kernel
theorem dX11_hasLoop_61 : decode cX11_hasLoop 61 = .ok (.istore 4, 2) := by decide +kernel
theorem dX11_hasLoop_63 : decode cX11_hasLoop 63 = .ok (.aload_n 0, 1) := by decide +kernel
theorem dX11_hasLoop_64 : decode cX11_hasLoop 64 = .ok (.getfield 72, 3) := by decide +kernel
theorem dX11_hasLoop_67 : decode cX11_hasLoop 67 = .ok (.iload_n 3, 1) := by decide +kernel
theorem dX11_hasLoop_68 : decode cX11_hasLoop 68 = .ok (.iaload, 1) := by decide +kernel
theorem dX11_hasLoop_69 : decode cX11_hasLoop 69 = .ok (.istore_n 3, 1) := by decide +kernel
theorem dX11_hasLoop_70 : decode cX11_hasLoop 70 = .ok (.goto (-60), 3) := by decide +kernel
theorem dX11_hasLoop_73 : decode cX11_hasLoop 73 = .ok (.iload 4, 2) := by decide +kernel
theorem dX11_hasLoop_75 : decode cX11_hasLoop 75 = .ok (.ireturn, 1) := by decide +kernel
theorem dX11_isBound_0 : decode cX11_isBound 0 = .ok (.aload_n 0, 1) := by decide +kernel
theorem dX11_isBound_1 : decode cX11_isBound 1 = .ok (.getfield 72, 3) := by decide +kernel
theorem dX11_isBound_4 : decode cX11_isBound 4 = .ok (.iload_n 1, 1) := by decide +kernel
theorem dX11_isBound_5 : decode cX11_isBound 5 = .ok (.iaload, 1) := by decide +kernel
theorem dX11_isBound_6 : decode cX11_isBound 6 = .ok (.istore_n 2, 1) := by decide +kernel
theorem dX11_isBound_7 : decode cX11_isBound 7 = .ok (.iconst 0, 1) := by decide +kernel
theorem dX11_isBound_8 : decode cX11_isBound 8 = .ok (.istore_n 3, 1) := by decide +kernel
theorem dX11_isBound_9 : decode cX11_isBound 9 = .ok (.aload_n 0, 1) := by decide +kernel
theorem dX11_isBound_10 : decode cX11_isBound 10 = .ok (.getfield 69, 3) := by decide +kernel
theorem dX11_isBound_13 : decode cX11_isBound 13 = .ok (.iload_n 2, 1) := by decide +kernel
theorem dX11_isBound_14 : decode cX11_isBound 14 = .ok (.iaload, 1) := by decide +kernel
theorem dX11_isBound_15 : decode cX11_isBound 15 = .ok (.iconst (-1), 1) := by decide +kernel
theorem dX11_isBound_16 : decode cX11_isBound 16 = .ok (.if_icmp .eq 65, 3) := by decide +kernel
theorem dX11_isBound_19 : decode cX11_isBound 19 = .ok (.iload_n 3, 1) := by decide +kernel
theorem dX11_isBound_20 : decode cX11_isBound 20 = .ok (.ifCond .ne 45, 3) := by decide +kernel
theorem dX11_isBound_23 : decode cX11_isBound 23 = .ok (.aload_n 0, 1) := by decide +kernel
theorem dX11_isBound_24 : decode cX11_isBound 24 = .ok (.getfield 7, 3) := by decide +kernel
theorem dX11_isBound_27 : decode cX11_isBound 27 = .ok (.aload_n 0, 1) := by decide +kernel
theorem dX11_isBound_28 : decode cX11_isBound 28 = .ok (.getfield 69, 3) := by decide +kernel
theorem dX11_isBound_31 : decode cX11_isBound 31 = .ok (.iload_n 2, 1) := by decide +kernel
theorem dX11_isBound_32 : decode cX11_isBound 32 = .ok (.iaload, 1) := by decide +kernel
theorem dX11_isBound_33 : decode cX11_isBound 33 = .ok (.iaload, 1) := by decide +kernel
theorem dX11_isBound_34 : decode cX11_isBound 34 = .ok (.bipush 36, 2) := by decide +kernel
theorem dX11_isBound_36 : decode cX11_isBound 36 = .ok (.if_icmp .eq 29, 3) := by decide +kernel
theorem dX11_isBound_39 : decode cX11_isBound 39 = .ok (.aload_n 0, 1) := by decide +kernel
theorem dX11_isBound_40 : decode cX11_isBound 40 = .ok (.getfield 7, 3) := by decide +kernel
theorem dX11_isBound_43 : decode cX11_isBound 43 = .ok (.aload_n 0, 1) := by decide +kernel
theorem dX11_isBound_44 : decode cX11_isBound 44 = .ok (.getfield 69, 3) := by decide +kernel
theorem dX11_isBound_47 : decode cX11_isBound 47 = .ok (.iload_n 2, 1) := by decide +kernel
theorem dX11_isBound_48 : decode cX11_isBound 48 = .ok (.iaload, 1) := by decide +kernel
theorem dX11_isBound_49 : decode cX11_isBound 49 = .ok (.iaload, 1) := by decide +kernel
theorem dX11_isBound_50 : decode cX11_isBound 50 = .ok (.bipush 26, 2) := by decide +kernel
theorem dX11_isBound_52 : decode cX11_isBound 52 = .ok (.if_icmp .ne 17, 3) := by decide +kernel
theorem dX11_isBound_55 : decode cX11_isBound 55 = .ok (.aload_n 0, 1) := by decide +kernel
theorem dX11_isBound_56 : decode cX11_isBound 56 = .ok (.getfield 78, 3) := by decide +kernel
theorem dX11_isBound_59 : decode cX11_isBound 59 = .ok (.iload_n 2, 1) := by decide +kernel
theorem dX11_isBound_60 : decode cX11_isBound 60 = .ok (.iaload, 1) := by decide +kernel
theorem dX11_isBound_61 : decode cX11_isBound 61 = .ok (.iconst 1, 1) := by decide +kernel
theorem dX11_isBound_62 : decode cX11_isBound 62 = .ok (.if_icmp .ne 7, 3) := by decide +kernel
theorem dX11_isBound_65 : decode cX11_isBound 65 = .ok (.iconst 1, 1) := by decide +kernel
theorem dX11_isBound_66 : decode cX11_isBound 66 = .ok (.goto 4, 3) := by decide +kernel
theorem dX11_isBound_69 : decode cX11_isBound 69 = .ok (.iconst 0, 1) := by decide +kernel
theorem dX11_isBound_70 : decode cX11_isBound 70 = .ok (.istore_n 3, 1) := by decide +kernel
theorem dX11_isBound_71 : decode cX11_isBound 71 = .ok (.aload_n 0, 1) := by decide +kernel
theorem dX11_isBound_72 : decode cX11_isBound 72 = .ok (.getfield 72, 3) := by decide +kernel
theorem dX11_isBound_75 : decode cX11_isBound 75 = .ok (.iload_n 2, 1) := by decide +kernel
theorem dX11_isBound_76 : decode cX11_isBound 76 = .ok (.iaload, 1) := by decide +kernel
theorem dX11_isBound_77 : decode cX11_isBound 77 = .ok (.istore_n 2, 1) := by decide +kernel
theorem dX11_isBound_78 : decode cX11_isBound 78 = .ok (.goto (-69), 3) := by decide +kernel
theorem dX11_isBound_81 : decode cX11_isBound 81 = .ok (.iload_n 3, 1) := by decide +kernel
theorem dX11_isBound_82 : decode cX11_isBound 82 = .ok (.ireturn, 1) := by decide +kernel
theorem dX11_leaves_0 : decode cX11_leaves 0 = .ok (.aload_n 0, 1) := by decide +kernel
theorem dX11_leaves_1 : decode cX11_leaves 1 = .ok (.iload_n 2, 1) := by decide +kernel
theorem dX11_leaves_2 : decode cX11_leaves 2 = .ok (.putfield 202, 3) := by decide +kernel
theorem dX11_leaves_5 : decode cX11_leaves 5 = .ok (.aload_n 0, 1) := by decide +kernel
theorem dX11_leaves_6 : decode cX11_leaves 6 = .ok (.iload_n 3, 1) := by decide +kernel
theorem dX11_leaves_7 : decode cX11_leaves 7 = .ok (.putfield 231, 3) := by decide +kernel
theorem dX11_leaves_10 : decode cX11_leaves 10 = .ok (.aload_n 0, 1) := by decide +kernel
theorem dX11_leaves_11 : decode cX11_leaves 11 = .ok (.iload 4, 2) := by decide +kernel
theorem dX11_leaves_13 : decode cX11_leaves 13 = .ok (.putfield 209, 3) := by decide +kernel
theorem dX11_leaves_16 : decode cX11_leaves 16 = .ok (.aload_n 0, 1) := by decide +kernel
theorem dX11_leaves_17 : decode cX11_leaves 17 = .ok (.aload_n 0, 1) := by decide +kernel
theorem dX11_leaves_18 : decode cX11_leaves 18 = .ok (.getfield 72, 3) := by decide +kernel
theorem dX11_leaves_21 : decode cX11_leaves 21 = .ok (.iload_n 1, 1) := by decide +kernel
theorem dX11_leaves_22 : decode cX11_leaves 22 = .ok (.iaload, 1) := by decide +kernel
theorem dX11_leaves_23 : decode cX11_leaves 23 = .ok (.putfield 212, 3) := by decide +kernel
theorem dX11_leaves_26 : decode cX11_leaves 26 = .ok (.return_, 1) := by decide +kernel
theorem dX11_calls_0 : decode cX11_calls 0 = .ok (.aload_n 0, 1) := by decide +kernel
theorem dX11_calls_1 : decode cX11_calls 1 = .ok (.getfield 234, 3) := by decide +kernel
theorem dX11_calls_4 : decode cX11_calls 4 = .ok (.bipush 12, 2) := by decide +kernel
theorem dX11_calls_6 : decode cX11_calls 6 = .ok (.if_icmp .ne 12, 3) := by decide +kernel
theorem dX11_calls_9 : decode cX11_calls 9 = .ok (.aload_n 0, 1) := by decide +kernel
theorem dX11_calls_10 : decode cX11_calls 10 = .ok (.iload_n 1, 1) := by decide +kernel
theorem dX11_calls_11 : decode cX11_calls 11 = .ok (.bipush (-5), 2) := by decide +kernel
theorem dX11_calls_13 : decode cX11_calls 13 = .ok (.invokevirtual 237, 3) := by decide +kernel
theorem dX11_calls_16 : decode cX11_calls 16 = .ok (.iconst 0, 1) := by decide +kernel
theorem dX11_calls_17 : decode cX11_calls 17 = .ok (.ireturn, 1) := by decide +kernel
theorem dX11_calls_18 : decode cX11_calls 18 = .ok (.aload_n 0, 1) := by decide +kernel
theorem dX11_calls_19 : decode cX11_calls 19 = .ok (.getfield 87, 3) := by decide +kernel
theorem dX11_calls_22 : decode cX11_calls 22 = .ok (.iload_n 1, 1) := by decide +kernel
theorem dX11_calls_23 : decode cX11_calls 23 = .ok (.aload_n 0, 1) := by decide +kernel
theorem dX11_calls_24 : decode cX11_calls 24 = .ok (.getfield 221, 3) := by decide +kernel
theorem dX11_calls_27 : decode cX11_calls 27 = .ok (.iastore, 1) := by decide +kernel
theorem dX11_calls_28 : decode cX11_calls 28 = .ok (.aload_n 0, 1) := by decide +kernel
theorem dX11_calls_29 : decode cX11_calls 29 = .ok (.iload_n 1, 1) := by decide +kernel
theorem dX11_calls_30 : decode cX11_calls 30 = .ok (.putfield 221, 3) := by decide +kernel
theorem dX11_calls_33 : decode cX11_calls 33 = .ok (.aload_n 0, 1) := by decide +kernel
theorem dX11_calls_34 : decode cX11_calls 34 = .ok (.dup, 1) := by decide +kernel
theorem dX11_calls_35 : decode cX11_calls 35 = .ok (.getfield 234, 3) := by decide +kernel
theorem dX11_calls_38 : decode cX11_calls 38 = .ok (.iconst 1, 1) := by decide +kernel
theorem dX11_calls_39 : decode cX11_calls 39 = .ok (.iadd, 1) := by decide +kernel
theorem dX11_calls_40 : decode cX11_calls 40 = .ok (.putfield 234, 3) := by decide +kernel
theorem dX11_calls_43 : decode cX11_calls 43 = .ok (.iconst 1, 1) := by decide +kernel
theorem dX11_calls_44 : decode cX11_calls 44 = .ok (.ireturn, 1) := by decide +kernel
theorem dX11_comesBack_0 : decode cX11_comesBack 0 = .ok (.aload_n 0, 1) := by decide +kernel
theorem dX11_comesBack_1 : decode cX11_comesBack 1 = .ok (.aload_n 0, 1) := by decide +kernel
theorem dX11_comesBack_2 : decode cX11_comesBack 2 = .ok (.getfield 87, 3) := by decide +kernel
theorem dX11_comesBack_5 : decode cX11_comesBack 5 = .ok (.iload_n 1, 1) := by decide +kernel
theorem dX11_comesBack_6 : decode cX11_comesBack 6 = .ok (.iaload, 1) := by decide +kernel
theorem dX11_comesBack_7 : decode cX11_comesBack 7 = .ok (.putfield 221, 3) := by decide +kernel
theorem dX11_comesBack_10 : decode cX11_comesBack 10 = .ok (.aload_n 0, 1) := by decide +kernel
theorem dX11_comesBack_11 : decode cX11_comesBack 11 = .ok (.dup, 1) := by decide +kernel
theorem dX11_comesBack_12 : decode cX11_comesBack 12 = .ok (.getfield 234, 3) := by decide +kernel
theorem dX11_comesBack_15 : decode cX11_comesBack 15 = .ok (.iconst 1, 1) := by decide +kernel
theorem dX11_comesBack_16 : decode cX11_comesBack 16 = .ok (.isub, 1) := by decide +kernel
theorem dX11_comesBack_17 : decode cX11_comesBack 17 = .ok (.putfield 234, 3) := by decide +kernel
theorem dX11_comesBack_20 : decode cX11_comesBack 20 = .ok (.return_, 1) := by decide +kernel
theorem dX11_callsSlot_0 : decode cX11_callsSlot 0 = .ok (.aload_n 0, 1) := by decide +kernel
theorem dX11_callsSlot_1 : decode cX11_callsSlot 1 = .ok (.getfield 32, 3) := by decide +kernel
theorem dX11_callsSlot_4 : decode cX11_callsSlot 4 = .ok (.iload_n 2, 1) := by decide +kernel
theorem dX11_callsSlot_5 : decode cX11_callsSlot 5 = .ok (.iaload, 1) := by decide +kernel
theorem dX11_callsSlot_6 : decode cX11_callsSlot 6 = .ok (.iconst (-1), 1) := by decide +kernel
theorem dX11_callsSlot_7 : decode cX11_callsSlot 7 = .ok (.if_icmp .eq 13, 3) := by decide +kernel
theorem dX11_callsSlot_10 : decode cX11_callsSlot 10 = .ok (.iload_n 3, 1) := by decide +kernel
theorem dX11_callsSlot_11 : decode cX11_callsSlot 11 = .ok (.aload_n 0, 1) := by decide +kernel
theorem dX11_callsSlot_12 : decode cX11_callsSlot 12 = .ok (.getfield 29, 3) := by decide +kernel
theorem dX11_callsSlot_15 : decode cX11_callsSlot 15 = .ok (.iload_n 2, 1) := by decide +kernel
theorem dX11_callsSlot_16 : decode cX11_callsSlot 16 = .ok (.iaload, 1) := by decide +kernel
theorem dX11_callsSlot_17 : decode cX11_callsSlot 17 = .ok (.if_icmp .le 57, 3) := by decide +kernel
theorem dX11_callsSlot_20 : decode cX11_callsSlot 20 = .ok (.aload_n 0, 1) := by decide +kernel
theorem dX11_callsSlot_21 : decode cX11_callsSlot 21 = .ok (.aload_n 0, 1) := by decide +kernel
theorem dX11_callsSlot_22 : decode cX11_callsSlot 22 = .ok (.getfield 241, 3) := by decide +kernel
theorem dX11_callsSlot_25 : decode cX11_callsSlot 25 = .ok (.ifCond .eq 23, 3) := by decide +kernel
theorem dX11_callsSlot_28 : decode cX11_callsSlot 28 = .ok (.aload_n 0, 1) := by decide +kernel
theorem dX11_callsSlot_29 : decode cX11_callsSlot 29 = .ok (.getfield 7, 3) := by decide +kernel
theorem dX11_callsSlot_32 : decode cX11_callsSlot 32 = .ok (.aload_n 0, 1) := by decide +kernel
theorem dX11_callsSlot_33 : decode cX11_callsSlot 33 = .ok (.getfield 69, 3) := by decide +kernel
theorem dX11_callsSlot_36 : decode cX11_callsSlot 36 = .ok (.iload_n 1, 1) := by decide +kernel
theorem dX11_callsSlot_37 : decode cX11_callsSlot 37 = .ok (.iaload, 1) := by decide +kernel
theorem dX11_callsSlot_38 : decode cX11_callsSlot 38 = .ok (.iaload, 1) := by decide +kernel
theorem dX11_callsSlot_39 : decode cX11_callsSlot 39 = .ok (.bipush 29, 2) := by decide +kernel
theorem dX11_callsSlot_41 : decode cX11_callsSlot 41 = .ok (.if_icmp .eq 7, 3) := by decide +kernel
theorem dX11_callsSlot_44 : decode cX11_callsSlot 44 = .ok (.iconst 1, 1) := by decide +kernel
theorem dX11_callsSlot_45 : decode cX11_callsSlot 45 = .ok (.goto 4, 3) := by decide +kernel
theorem dX11_callsSlot_48 : decode cX11_callsSlot 48 = .ok (.iconst 0, 1) := by decide +kernel
theorem dX11_callsSlot_49 : decode cX11_callsSlot 49 = .ok (.putfield 241, 3) := by decide +kernel
theorem dX11_callsSlot_52 : decode cX11_callsSlot 52 = .ok (.aload_n 0, 1) := by decide +kernel
theorem dX11_callsSlot_53 : decode cX11_callsSlot 53 = .ok (.iload_n 1, 1) := by decide +kernel
theorem dX11_callsSlot_54 : decode cX11_callsSlot 54 = .ok (.aload_n 0, 1) := by decide +kernel
theorem dX11_callsSlot_55 : decode cX11_callsSlot 55 = .ok (.getfield 32, 3) := by decide +kernel
theorem dX11_callsSlot_58 : decode cX11_callsSlot 58 = .ok (.iload_n 2, 1) := by decide +kernel
theorem dX11_callsSlot_59 : decode cX11_callsSlot 59 = .ok (.iaload, 1) := by decide +kernel
theorem dX11_callsSlot_60 : decode cX11_callsSlot 60 = .ok (.iconst (-1), 1) := by decide +kernel
theorem dX11_callsSlot_61 : decode cX11_callsSlot 61 = .ok (.if_icmp .ne 7, 3) := by decide +kernel
theorem dX11_callsSlot_64 : decode cX11_callsSlot 64 = .ok (.iconst (-1), 1) := by decide +kernel
theorem dX11_callsSlot_65 : decode cX11_callsSlot 65 = .ok (.goto 5, 3) := by decide +kernel
theorem dX11_callsSlot_68 : decode cX11_callsSlot 68 = .ok (.bipush (-3), 2) := by decide +kernel
theorem dX11_callsSlot_70 : decode cX11_callsSlot 70 = .ok (.invokevirtual 237, 3) := by decide +kernel
theorem dX11_callsSlot_73 : decode cX11_callsSlot 73 = .ok (.return_, 1) := by decide +kernel
theorem dX11_callsSlot_74 : decode cX11_callsSlot 74 = .ok (.aload_n 0, 1) := by decide +kernel
theorem dX11_callsSlot_75 : decode cX11_callsSlot 75 = .ok (.iconst (-1), 1) := by decide +kernel
theorem dX11_callsSlot_76 : decode cX11_callsSlot 76 = .ok (.invokevirtual 244, 3) := by decide +kernel
theorem dX11_callsSlot_79 : decode cX11_callsSlot 79 = .ok (.istore 6, 2) := by decide +kernel
theorem dX11_callsSlot_81 : decode cX11_callsSlot 81 = .ok (.aload_n 0, 1) := by decide +kernel
theorem dX11_callsSlot_82 : decode cX11_callsSlot 82 = .ok (.getfield 84, 3) := by decide +kernel
theorem dX11_callsSlot_85 : decode cX11_callsSlot 85 = .ok (.iload_n 1, 1) := by decide +kernel
theorem dX11_callsSlot_86 : decode cX11_callsSlot 86 = .ok (.iload 6, 2) := by decide +kernel
theorem dX11_callsSlot_88 : decode cX11_callsSlot 88 = .ok (.iastore, 1) := by decide +kernel
theorem dX11_callsSlot_89 : decode cX11_callsSlot 89 = .ok (.aload_n 0, 1) := by decide +kernel
theorem dX11_callsSlot_90 : decode cX11_callsSlot 90 = .ok (.getfield 29, 3) := by decide +kernel
theorem dX11_callsSlot_93 : decode cX11_callsSlot 93 = .ok (.iload_n 2, 1) := by decide +kernel
theorem dX11_callsSlot_94 : decode cX11_callsSlot 94 = .ok (.iaload, 1) := by decide +kernel
theorem dX11_callsSlot_95 : decode cX11_callsSlot 95 = .ok (.ifCond .le 23, 3) := by decide +kernel
theorem dX11_callsSlot_98 : decode cX11_callsSlot 98 = .ok (.aload_n 0, 1) := by decide +kernel
theorem dX11_callsSlot_99 : decode cX11_callsSlot 99 = .ok (.getfield 93, 3) := by decide +kernel
theorem dX11_callsSlot_102 : decode cX11_callsSlot 102 = .ok (.bipush 8, 2) := by decide +kernel
theorem dX11_callsSlot_104 : decode cX11_callsSlot 104 = .ok (.iload 6, 2) := by decide +kernel
theorem dX11_callsSlot_106 : decode cX11_callsSlot 106 = .ok (.imul, 1) := by decide +kernel
theorem dX11_callsSlot_107 : decode cX11_callsSlot 107 = .ok (.iload_n 3, 1) := by decide +kernel
theorem dX11_callsSlot_108 : decode cX11_callsSlot 108 = .ok (.ifCond .le 8, 3) := by decide +kernel
theorem dX11_callsSlot_111 : decode cX11_callsSlot 111 = .ok (.iload 4, 2) := by decide +kernel
theorem dX11_callsSlot_113 : decode cX11_callsSlot 113 = .ok (.goto 4, 3) := by decide +kernel
theorem dX11_callsSlot_116 : decode cX11_callsSlot 116 = .ok (.iconst 0, 1) := by decide +kernel
theorem dX11_callsSlot_117 : decode cX11_callsSlot 117 = .ok (.iastore, 1) := by decide +kernel
theorem dX11_callsSlot_118 : decode cX11_callsSlot 118 = .ok (.aload_n 0, 1) := by decide +kernel
theorem dX11_callsSlot_119 : decode cX11_callsSlot 119 = .ok (.getfield 29, 3) := by decide +kernel
theorem dX11_callsSlot_122 : decode cX11_callsSlot 122 = .ok (.iload_n 2, 1) := by decide +kernel
theorem dX11_callsSlot_123 : decode cX11_callsSlot 123 = .ok (.iaload, 1) := by decide +kernel
theorem dX11_callsSlot_124 : decode cX11_callsSlot 124 = .ok (.iconst 2, 1) := by decide +kernel
theorem dX11_callsSlot_125 : decode cX11_callsSlot 125 = .ok (.if_icmp .ne 26, 3) := by decide +kernel
theorem dX11_callsSlot_128 : decode cX11_callsSlot 128 = .ok (.aload_n 0, 1) := by decide +kernel
theorem dX11_callsSlot_129 : decode cX11_callsSlot 129 = .ok (.getfield 93, 3) := by decide +kernel
theorem dX11_callsSlot_132 : decode cX11_callsSlot 132 = .ok (.bipush 8, 2) := by decide +kernel
theorem dX11_callsSlot_134 : decode cX11_callsSlot 134 = .ok (.iload 6, 2) := by decide +kernel
theorem dX11_callsSlot_136 : decode cX11_callsSlot 136 = .ok (.imul, 1) := by decide +kernel
theorem dX11_callsSlot_137 : decode cX11_callsSlot 137 = .ok (.iconst 1, 1) := by decide +kernel
theorem dX11_callsSlot_138 : decode cX11_callsSlot 138 = .ok (.iadd, 1) := by decide +kernel
theorem dX11_callsSlot_139 : decode cX11_callsSlot 139 = .ok (.iload_n 3, 1) := by decide +kernel
theorem dX11_callsSlot_140 : decode cX11_callsSlot 140 = .ok (.iconst 1, 1) := by decide +kernel
theorem dX11_callsSlot_141 : decode cX11_callsSlot 141 = .ok (.if_icmp .le 8, 3) := by decide +kernel
theorem dX11_callsSlot_144 : decode cX11_callsSlot 144 = .ok (.iload 5, 2) := by decide +kernel
theorem dX11_callsSlot_146 : decode cX11_callsSlot 146 = .ok (.goto 4, 3) := by decide +kernel
theorem dX11_callsSlot_149 : decode cX11_callsSlot 149 = .ok (.iconst 0, 1) := by decide +kernel
theorem dX11_callsSlot_150 : decode cX11_callsSlot 150 = .ok (.iastore, 1) := by decide +kernel
theorem dX11_callsSlot_151 : decode cX11_callsSlot 151 = .ok (.aload_n 0, 1) := by decide +kernel
theorem dX11_callsSlot_152 : decode cX11_callsSlot 152 = .ok (.getfield 29, 3) := by decide +kernel
theorem dX11_callsSlot_155 : decode cX11_callsSlot 155 = .ok (.iload_n 2, 1) := by decide +kernel
theorem dX11_callsSlot_156 : decode cX11_callsSlot 156 = .ok (.iaload, 1) := by decide +kernel
theorem dX11_callsSlot_157 : decode cX11_callsSlot 157 = .ok (.iconst 2, 1) := by decide +kernel
theorem dX11_callsSlot_158 : decode cX11_callsSlot 158 = .ok (.if_icmp .ne 51, 3) := by decide +kernel
theorem dX11_callsSlot_161 : decode cX11_callsSlot 161 = .ok (.iload_n 3, 1) := by decide +kernel
theorem dX11_callsSlot_162 : decode cX11_callsSlot 162 = .ok (.iconst 2, 1) := by decide +kernel
theorem dX11_callsSlot_163 : decode cX11_callsSlot 163 = .ok (.if_icmp .ge 46, 3) := by decide +kernel
theorem dX11_callsSlot_166 : decode cX11_callsSlot 166 = .ok (.aload_n 0, 1) := by decide +kernel
theorem dX11_callsSlot_167 : decode cX11_callsSlot 167 = .ok (.getfield 35, 3) := by decide +kernel
theorem dX11_callsSlot_170 : decode cX11_callsSlot 170 = .ok (.iload_n 2, 1) := by decide +kernel
theorem dX11_callsSlot_171 : decode cX11_callsSlot 171 = .ok (.iaload, 1) := by decide +kernel
theorem dX11_callsSlot_172 : decode cX11_callsSlot 172 = .ok (.iconst (-1), 1) := by decide +kernel
theorem dX11_callsSlot_173 : decode cX11_callsSlot 173 = .ok (.if_icmp .eq 36, 3) := by decide +kernel
theorem dX11_callsSlot_176 : decode cX11_callsSlot 176 = .ok (.aload_n 0, 1) := by decide +kernel
theorem dX11_callsSlot_177 : decode cX11_callsSlot 177 = .ok (.getfield 93, 3) := by decide +kernel
theorem dX11_callsSlot_180 : decode cX11_callsSlot 180 = .ok (.bipush 8, 2) := by decide +kernel
theorem dX11_callsSlot_182 : decode cX11_callsSlot 182 = .ok (.iload 6, 2) := by decide +kernel
theorem dX11_callsSlot_184 : decode cX11_callsSlot 184 = .ok (.imul, 1) := by decide +kernel
theorem dX11_callsSlot_185 : decode cX11_callsSlot 185 = .ok (.iconst 1, 1) := by decide +kernel
theorem dX11_callsSlot_186 : decode cX11_callsSlot 186 = .ok (.iadd, 1) := by decide +kernel
theorem dX11_callsSlot_187 : decode cX11_callsSlot 187 = .ok (.ldc 189, 2) := by decide +kernel
theorem dX11_callsSlot_189 : decode cX11_callsSlot 189 = .ok (.iastore, 1) := by decide +kernel
theorem dX11_callsSlot_190 : decode cX11_callsSlot 190 = .ok (.aload_n 0, 1) := by decide +kernel
theorem dX11_callsSlot_191 : decode cX11_callsSlot 191 = .ok (.aload_n 0, 1) := by decide +kernel
theorem dX11_callsSlot_192 : decode cX11_callsSlot 192 = .ok (.getfield 35, 3) := by decide +kernel
theorem dX11_callsSlot_195 : decode cX11_callsSlot 195 = .ok (.iload_n 2, 1) := by decide +kernel
theorem dX11_callsSlot_196 : decode cX11_callsSlot 196 = .ok (.iaload, 1) := by decide +kernel
theorem dX11_callsSlot_197 : decode cX11_callsSlot 197 = .ok (.iconst 3, 1) := by decide +kernel
theorem dX11_callsSlot_198 : decode cX11_callsSlot 198 = .ok (.iload_n 1, 1) := by decide +kernel
theorem dX11_callsSlot_199 : decode cX11_callsSlot 199 = .ok (.iload 6, 2) := by decide +kernel
theorem dX11_callsSlot_201 : decode cX11_callsSlot 201 = .ok (.invokevirtual 247, 3) := by decide +kernel
theorem dX11_callsSlot_204 : decode cX11_callsSlot 204 = .ok (.istore 7, 2) := by decide +kernel
theorem dX11_callsSlot_206 : decode cX11_callsSlot 206 = .ok (.goto 9, 3) := by decide +kernel
theorem dX11_callsSlot_209 : decode cX11_callsSlot 209 = .ok (.aload_n 0, 1) := by decide +kernel
theorem dX11_callsSlot_210 : decode cX11_callsSlot 210 = .ok (.iload_n 1, 1) := by decide +kernel
theorem dX11_callsSlot_211 : decode cX11_callsSlot 211 = .ok (.iload_n 2, 1) := by decide +kernel
theorem dX11_callsSlot_212 : decode cX11_callsSlot 212 = .ok (.invokevirtual 250, 3) := by decide +kernel
theorem dX11_callsSlot_215 : decode cX11_callsSlot 215 = .ok (.return_, 1) := by decide +kernel
theorem dX11_enters_0 : decode cX11_enters 0 = .ok (.aload_n 0, 1) := by decide +kernel
theorem dX11_enters_1 : decode cX11_enters 1 = .ok (.iload_n 1, 1) := by decide +kernel
theorem dX11_enters_2 : decode cX11_enters 2 = .ok (.invokevirtual 253, 3) := by decide +kernel
theorem dX11_enters_5 : decode cX11_enters 5 = .ok (.ifCond .eq 25, 3) := by decide +kernel
theorem dX11_enters_8 : decode cX11_enters 8 = .ok (.aload_n 0, 1) := by decide +kernel
theorem dX11_enters_9 : decode cX11_enters 9 = .ok (.aload_n 0, 1) := by decide +kernel
theorem dX11_enters_10 : decode cX11_enters 10 = .ok (.getfield 32, 3) := by decide +kernel
theorem dX11_enters_13 : decode cX11_enters 13 = .ok (.iload_n 2, 1) := by decide +kernel
theorem dX11_enters_14 : decode cX11_enters 14 = .ok (.iaload, 1) := by decide +kernel
theorem dX11_enters_15 : decode cX11_enters 15 = .ok (.iconst 1, 1) := by decide +kernel
theorem dX11_enters_16 : decode cX11_enters 16 = .ok (.iload_n 1, 1) := by decide +kernel
theorem dX11_enters_17 : decode cX11_enters 17 = .ok (.aload_n 0, 1) := by decide +kernel
theorem dX11_enters_18 : decode cX11_enters 18 = .ok (.getfield 84, 3) := by decide +kernel
theorem dX11_enters_21 : decode cX11_enters 21 = .ok (.iload_n 1, 1) := by decide +kernel
theorem dX11_enters_22 : decode cX11_enters 22 = .ok (.iaload, 1) := by decide +kernel
theorem dX11_enters_23 : decode cX11_enters 23 = .ok (.invokevirtual 247, 3) := by decide +kernel
theorem dX11_enters_26 : decode cX11_enters 26 = .ok (.istore_n 3, 1) := by decide +kernel
theorem dX11_enters_27 : decode cX11_enters 27 = .ok (.goto 35, 3) := by decide +kernel
theorem dX11_enters_30 : decode cX11_enters 30 = .ok (.aload_n 0, 1) := by decide +kernel
theorem dX11_enters_31 : decode cX11_enters 31 = .ok (.aload_n 0, 1) := by decide +kernel
theorem dX11_enters_32 : decode cX11_enters 32 = .ok (.getfield 241, 3) := by decide +kernel
theorem dX11_enters_35 : decode cX11_enters 35 = .ok (.ifCond .eq 23, 3) := by decide +kernel
theorem dX11_enters_38 : decode cX11_enters 38 = .ok (.aload_n 0, 1) := by decide +kernel
theorem dX11_enters_39 : decode cX11_enters 39 = .ok (.getfield 7, 3) := by decide +kernel
theorem dX11_enters_42 : decode cX11_enters 42 = .ok (.aload_n 0, 1) := by decide +kernel
theorem dX11_enters_43 : decode cX11_enters 43 = .ok (.getfield 69, 3) := by decide +kernel
theorem dX11_enters_46 : decode cX11_enters 46 = .ok (.iload_n 1, 1) := by decide +kernel
theorem dX11_enters_47 : decode cX11_enters 47 = .ok (.iaload, 1) := by decide +kernel
theorem dX11_enters_48 : decode cX11_enters 48 = .ok (.iaload, 1) := by decide +kernel
theorem dX11_enters_49 : decode cX11_enters 49 = .ok (.bipush 29, 2) := by decide +kernel
theorem dX11_enters_51 : decode cX11_enters 51 = .ok (.if_icmp .eq 7, 3) := by decide +kernel
theorem dX11_enters_54 : decode cX11_enters 54 = .ok (.iconst 1, 1) := by decide +kernel
theorem dX11_enters_55 : decode cX11_enters 55 = .ok (.goto 4, 3) := by decide +kernel
theorem dX11_enters_58 : decode cX11_enters 58 = .ok (.iconst 0, 1) := by decide +kernel
theorem dX11_enters_59 : decode cX11_enters 59 = .ok (.putfield 241, 3) := by decide +kernel
theorem dX11_enters_62 : decode cX11_enters 62 = .ok (.return_, 1) := by decide +kernel
theorem dX11_slotOf_0 : decode cX11_slotOf 0 = .ok (.aload_n 0, 1) := by decide +kernel
theorem dX11_slotOf_1 : decode cX11_slotOf 1 = .ok (.getfield 7, 3) := by decide +kernel
theorem dX11_slotOf_4 : decode cX11_slotOf 4 = .ok (.aload_n 0, 1) := by decide +kernel
theorem dX11_slotOf_5 : decode cX11_slotOf 5 = .ok (.getfield 69, 3) := by decide +kernel
theorem dX11_slotOf_8 : decode cX11_slotOf 8 = .ok (.iload_n 1, 1) := by decide +kernel
theorem dX11_slotOf_9 : decode cX11_slotOf 9 = .ok (.iaload, 1) := by decide +kernel
theorem dX11_slotOf_10 : decode cX11_slotOf 10 = .ok (.iaload, 1) := by decide +kernel
theorem dX11_slotOf_11 : decode cX11_slotOf 11 = .ok (.bipush 18, 2) := by decide +kernel
theorem dX11_slotOf_13 : decode cX11_slotOf 13 = .ok (.if_icmp .ne 17, 3) := by decide +kernel
theorem dX11_slotOf_16 : decode cX11_slotOf 16 = .ok (.aload_n 0, 1) := by decide +kernel
theorem dX11_slotOf_17 : decode cX11_slotOf 17 = .ok (.getfield 13, 3) := by decide +kernel
theorem dX11_slotOf_20 : decode cX11_slotOf 20 = .ok (.aload_n 0, 1) := by decide +kernel
theorem dX11_slotOf_21 : decode cX11_slotOf 21 = .ok (.getfield 69, 3) := by decide +kernel
theorem dX11_slotOf_24 : decode cX11_slotOf 24 = .ok (.iload_n 1, 1) := by decide +kernel
theorem dX11_slotOf_25 : decode cX11_slotOf 25 = .ok (.iaload, 1) := by decide +kernel
theorem dX11_slotOf_26 : decode cX11_slotOf 26 = .ok (.iaload, 1) := by decide +kernel
theorem dX11_slotOf_27 : decode cX11_slotOf 27 = .ok (.goto 12, 3) := by decide +kernel
theorem dX11_slotOf_30 : decode cX11_slotOf 30 = .ok (.aload_n 0, 1) := by decide +kernel
theorem dX11_slotOf_31 : decode cX11_slotOf 31 = .ok (.getfield 78, 3) := by decide +kernel
theorem dX11_slotOf_34 : decode cX11_slotOf 34 = .ok (.iload_n 1, 1) := by decide +kernel
theorem dX11_slotOf_35 : decode cX11_slotOf 35 = .ok (.iaload, 1) := by decide +kernel
theorem dX11_slotOf_36 : decode cX11_slotOf 36 = .ok (.bipush 10, 2) := by decide +kernel
theorem dX11_slotOf_38 : decode cX11_slotOf 38 = .ok (.isub, 1) := by decide +kernel
theorem dX11_slotOf_39 : decode cX11_slotOf 39 = .ok (.ireturn, 1) := by decide +kernel
theorem dX11_places_0 : decode cX11_places 0 = .ok (.iconst 0, 1) := by decide +kernel
theorem dX11_places_1 : decode cX11_places 1 = .ok (.istore_n 1, 1) := by decide +kernel
theorem dX11_places_2 : decode cX11_places 2 = .ok (.iconst 0, 1) := by decide +kernel
theorem dX11_places_3 : decode cX11_places 3 = .ok (.istore_n 2, 1) := by decide +kernel
theorem dX11_places_4 : decode cX11_places 4 = .ok (.iload_n 2, 1) := by decide +kernel
theorem dX11_places_5 : decode cX11_places 5 = .ok (.iconst 4, 1) := by decide +kernel
theorem dX11_places_6 : decode cX11_places 6 = .ok (.if_icmp .ge 34, 3) := by decide +kernel
theorem dX11_places_9 : decode cX11_places 9 = .ok (.iload_n 1, 1) := by decide +kernel
theorem dX11_places_10 : decode cX11_places 10 = .ok (.aload_n 0, 1) := by decide +kernel
theorem dX11_places_11 : decode cX11_places 11 = .ok (.getfield 57, 3) := by decide +kernel
theorem dX11_places_14 : decode cX11_places 14 = .ok (.iconst 4, 1) := by decide +kernel
theorem dX11_places_15 : decode cX11_places 15 = .ok (.aload_n 0, 1) := by decide +kernel
theorem dX11_places_16 : decode cX11_places 16 = .ok (.getfield 180, 3) := by decide +kernel
theorem dX11_places_19 : decode cX11_places 19 = .ok (.imul, 1) := by decide +kernel
theorem dX11_places_20 : decode cX11_places 20 = .ok (.iload_n 2, 1) := by decide +kernel
theorem dX11_places_21 : decode cX11_places 21 = .ok (.iadd, 1) := by decide +kernel
theorem dX11_places_22 : decode cX11_places 22 = .ok (.iaload, 1) := by decide +kernel
theorem dX11_places_23 : decode cX11_places 23 = .ok (.iconst (-1), 1) := by decide +kernel
theorem dX11_places_24 : decode cX11_places 24 = .ok (.if_icmp .ne 7, 3) := by decide +kernel
theorem dX11_places_27 : decode cX11_places 27 = .ok (.iconst 0, 1) := by decide +kernel
theorem dX11_places_28 : decode cX11_places 28 = .ok (.goto 4, 3) := by decide +kernel
theorem dX11_places_31 : decode cX11_places 31 = .ok (.iconst 1, 1) := by decide +kernel
theorem dX11_places_32 : decode cX11_places 32 = .ok (.iadd, 1) := by decide +kernel
theorem dX11_places_33 : decode cX11_places 33 = .ok (.istore_n 1, 1) := by decide +kernel
theorem dX11_places_34 : decode cX11_places 34 = .ok (.iinc 2 1, 3) := by decide +kernel
theorem dX11_places_37 : decode cX11_places 37 = .ok (.goto (-33), 3) := by decide +kernel
theorem dX11_places_40 : decode cX11_places 40 = .ok (.iload_n 1, 1) := by decide +kernel
theorem dX11_places_41 : decode cX11_places 41 = .ok (.ireturn, 1) := by decide +kernel
theorem dX11_place_0 : decode cX11_place 0 = .ok (.aload_n 0, 1) := by decide +kernel
theorem dX11_place_1 : decode cX11_place 1 = .ok (.getfield 57, 3) := by decide +kernel
theorem dX11_place_4 : decode cX11_place 4 = .ok (.iconst 4, 1) := by decide +kernel
theorem dX11_place_5 : decode cX11_place 5 = .ok (.aload_n 0, 1) := by decide +kernel
theorem dX11_place_6 : decode cX11_place 6 = .ok (.getfield 180, 3) := by decide +kernel
theorem dX11_place_9 : decode cX11_place 9 = .ok (.imul, 1) := by decide +kernel
theorem dX11_place_10 : decode cX11_place 10 = .ok (.aload_n 0, 1) := by decide +kernel
theorem dX11_place_11 : decode cX11_place 11 = .ok (.getfield 60, 3) := by decide +kernel
theorem dX11_place_14 : decode cX11_place 14 = .ok (.aload_n 0, 1) := by decide +kernel
theorem dX11_place_15 : decode cX11_place 15 = .ok (.getfield 180, 3) := by decide +kernel
theorem dX11_place_18 : decode cX11_place 18 = .ok (.iaload, 1) := by decide +kernel
theorem dX11_place_19 : decode cX11_place 19 = .ok (.iadd, 1) := by decide +kernel
theorem dX11_place_20 : decode cX11_place 20 = .ok (.iaload, 1) := by decide +kernel
theorem dX11_place_21 : decode cX11_place 21 = .ok (.ireturn, 1) := by decide +kernel
theorem dX11_inserts_0 : decode cX11_inserts 0 = .ok (.aload_n 0, 1) := by decide +kernel
theorem dX11_inserts_1 : decode cX11_inserts 1 = .ok (.invokevirtual 255, 3) := by decide +kernel
theorem dX11_inserts_4 : decode cX11_inserts 4 = .ok (.istore_n 2, 1) := by decide +kernel
theorem dX11_inserts_5 : decode cX11_inserts 5 = .ok (.aload_n 0, 1) := by decide +kernel
theorem dX11_inserts_6 : decode cX11_inserts 6 = .ok (.getfield 54, 3) := by decide +kernel
theorem dX11_inserts_9 : decode cX11_inserts 9 = .ok (.aload_n 0, 1) := by decide +kernel
theorem dX11_inserts_10 : decode cX11_inserts 10 = .ok (.getfield 180, 3) := by decide +kernel
theorem dX11_inserts_13 : decode cX11_inserts 13 = .ok (.iaload, 1) := by decide +kernel
theorem dX11_inserts_14 : decode cX11_inserts 14 = .ok (.istore_n 3, 1) := by decide +kernel
theorem dX11_inserts_15 : decode cX11_inserts 15 = .ok (.iload_n 3, 1) := by decide +kernel
theorem dX11_inserts_16 : decode cX11_inserts 16 = .ok (.iload_n 2, 1) := by decide +kernel
theorem dX11_inserts_17 : decode cX11_inserts 17 = .ok (.if_icmp .le 39, 3) := by decide +kernel
theorem dX11_inserts_20 : decode cX11_inserts 20 = .ok (.aload_n 0, 1) := by decide +kernel
theorem dX11_inserts_21 : decode cX11_inserts 21 = .ok (.getfield 51, 3) := by decide +kernel
theorem dX11_inserts_24 : decode cX11_inserts 24 = .ok (.bipush 40, 2) := by decide +kernel
theorem dX11_inserts_26 : decode cX11_inserts 26 = .ok (.aload_n 0, 1) := by decide +kernel
theorem dX11_inserts_27 : decode cX11_inserts 27 = .ok (.getfield 180, 3) := by decide +kernel
theorem dX11_inserts_30 : decode cX11_inserts 30 = .ok (.imul, 1) := by decide +kernel
theorem dX11_inserts_31 : decode cX11_inserts 31 = .ok (.iload_n 3, 1) := by decide +kernel
theorem dX11_inserts_32 : decode cX11_inserts 32 = .ok (.iadd, 1) := by decide +kernel
theorem dX11_inserts_33 : decode cX11_inserts 33 = .ok (.aload_n 0, 1) := by decide +kernel
theorem dX11_inserts_34 : decode cX11_inserts 34 = .ok (.getfield 51, 3) := by decide +kernel
theorem dX11_inserts_37 : decode cX11_inserts 37 = .ok (.bipush 40, 2) := by decide +kernel
theorem dX11_inserts_39 : decode cX11_inserts 39 = .ok (.aload_n 0, 1) := by decide +kernel
theorem dX11_inserts_40 : decode cX11_inserts 40 = .ok (.getfield 180, 3) := by decide +kernel
theorem dX11_inserts_43 : decode cX11_inserts 43 = .ok (.imul, 1) := by decide +kernel
theorem dX11_inserts_44 : decode cX11_inserts 44 = .ok (.iload_n 3, 1) := by decide +kernel
theorem dX11_inserts_45 : decode cX11_inserts 45 = .ok (.iadd, 1) := by decide +kernel
theorem dX11_inserts_46 : decode cX11_inserts 46 = .ok (.iconst 1, 1) := by decide +kernel
theorem dX11_inserts_47 : decode cX11_inserts 47 = .ok (.isub, 1) := by decide +kernel
theorem dX11_inserts_48 : decode cX11_inserts 48 = .ok (.iaload, 1) := by decide +kernel
theorem dX11_inserts_49 : decode cX11_inserts 49 = .ok (.iastore, 1) := by decide +kernel
theorem dX11_inserts_50 : decode cX11_inserts 50 = .ok (.iinc 3 (-1), 3) := by decide +kernel
theorem dX11_inserts_53 : decode cX11_inserts 53 = .ok (.goto (-38), 3) := by decide +kernel
theorem dX11_inserts_56 : decode cX11_inserts 56 = .ok (.aload_n 0, 1) := by decide +kernel
theorem dX11_inserts_57 : decode cX11_inserts 57 = .ok (.getfield 51, 3) := by decide +kernel
theorem dX11_inserts_60 : decode cX11_inserts 60 = .ok (.bipush 40, 2) := by decide +kernel
theorem dX11_inserts_62 : decode cX11_inserts 62 = .ok (.aload_n 0, 1) := by decide +kernel
theorem dX11_inserts_63 : decode cX11_inserts 63 = .ok (.getfield 180, 3) := by decide +kernel
theorem dX11_inserts_66 : decode cX11_inserts 66 = .ok (.imul, 1) := by decide +kernel
theorem dX11_inserts_67 : decode cX11_inserts 67 = .ok (.iload_n 2, 1) := by decide +kernel
theorem dX11_inserts_68 : decode cX11_inserts 68 = .ok (.iadd, 1) := by decide +kernel
theorem dX11_inserts_69 : decode cX11_inserts 69 = .ok (.iload_n 1, 1) := by decide +kernel
theorem dX11_inserts_70 : decode cX11_inserts 70 = .ok (.iastore, 1) := by decide +kernel
theorem dX11_inserts_71 : decode cX11_inserts 71 = .ok (.aload_n 0, 1) := by decide +kernel
theorem dX11_inserts_72 : decode cX11_inserts 72 = .ok (.getfield 54, 3) := by decide +kernel
theorem dX11_inserts_75 : decode cX11_inserts 75 = .ok (.aload_n 0, 1) := by decide +kernel
theorem dX11_inserts_76 : decode cX11_inserts 76 = .ok (.getfield 180, 3) := by decide +kernel
theorem dX11_inserts_79 : decode cX11_inserts 79 = .ok (.dup2, 1) := by decide +kernel
theorem dX11_inserts_80 : decode cX11_inserts 80 = .ok (.iaload, 1) := by decide +kernel
theorem dX11_inserts_81 : decode cX11_inserts 81 = .ok (.iconst 1, 1) := by decide +kernel
theorem dX11_inserts_82 : decode cX11_inserts 82 = .ok (.iadd, 1) := by decide +kernel
theorem dX11_inserts_83 : decode cX11_inserts 83 = .ok (.iastore, 1) := by decide +kernel
theorem dX11_inserts_84 : decode cX11_inserts 84 = .ok (.iconst 0, 1) := by decide +kernel
theorem dX11_inserts_85 : decode cX11_inserts 85 = .ok (.istore_n 3, 1) := by decide +kernel
theorem dX11_inserts_86 : decode cX11_inserts 86 = .ok (.iload_n 3, 1) := by decide +kernel
theorem dX11_inserts_87 : decode cX11_inserts 87 = .ok (.iconst 4, 1) := by decide +kernel
theorem dX11_inserts_88 : decode cX11_inserts 88 = .ok (.if_icmp .ge 58, 3) := by decide +kernel
theorem dX11_inserts_91 : decode cX11_inserts 91 = .ok (.iconst 4, 1) := by decide +kernel
theorem dX11_inserts_92 : decode cX11_inserts 92 = .ok (.aload_n 0, 1) := by decide +kernel
theorem dX11_inserts_93 : decode cX11_inserts 93 = .ok (.getfield 180, 3) := by decide +kernel
theorem dX11_inserts_96 : decode cX11_inserts 96 = .ok (.imul, 1) := by decide +kernel
theorem dX11_inserts_97 : decode cX11_inserts 97 = .ok (.iload_n 3, 1) := by decide +kernel
theorem dX11_inserts_98 : decode cX11_inserts 98 = .ok (.iadd, 1) := by decide +kernel
theorem dX11_inserts_99 : decode cX11_inserts 99 = .ok (.istore 4, 2) := by decide +kernel
theorem dX11_inserts_101 : decode cX11_inserts 101 = .ok (.aload_n 0, 1) := by decide +kernel
theorem dX11_inserts_102 : decode cX11_inserts 102 = .ok (.getfield 57, 3) := by decide +kernel
theorem dX11_inserts_105 : decode cX11_inserts 105 = .ok (.iload 4, 2) := by decide +kernel
theorem dX11_inserts_107 : decode cX11_inserts 107 = .ok (.dup2, 1) := by decide +kernel
theorem dX11_inserts_108 : decode cX11_inserts 108 = .ok (.iaload, 1) := by decide +kernel
theorem dX11_inserts_109 : decode cX11_inserts 109 = .ok (.aload_n 0, 1) := by decide +kernel
theorem dX11_inserts_110 : decode cX11_inserts 110 = .ok (.getfield 57, 3) := by decide +kernel
theorem dX11_inserts_113 : decode cX11_inserts 113 = .ok (.iload 4, 2) := by decide +kernel
theorem dX11_inserts_115 : decode cX11_inserts 115 = .ok (.iaload, 1) := by decide +kernel
theorem dX11_inserts_116 : decode cX11_inserts 116 = .ok (.iload_n 2, 1) := by decide +kernel
theorem dX11_inserts_117 : decode cX11_inserts 117 = .ok (.if_icmp .gt 16, 3) := by decide +kernel
theorem dX11_inserts_120 : decode cX11_inserts 120 = .ok (.iload_n 3, 1) := by decide +kernel
theorem dX11_inserts_121 : decode cX11_inserts 121 = .ok (.aload_n 0, 1) := by decide +kernel
theorem dX11_inserts_122 : decode cX11_inserts 122 = .ok (.getfield 60, 3) := by decide +kernel
theorem dX11_inserts_125 : decode cX11_inserts 125 = .ok (.aload_n 0, 1) := by decide +kernel
theorem dX11_inserts_126 : decode cX11_inserts 126 = .ok (.getfield 180, 3) := by decide +kernel
theorem dX11_inserts_129 : decode cX11_inserts 129 = .ok (.iaload, 1) := by decide +kernel
theorem dX11_inserts_130 : decode cX11_inserts 130 = .ok (.if_icmp .ne 7, 3) := by decide +kernel
theorem dX11_inserts_133 : decode cX11_inserts 133 = .ok (.iconst 1, 1) := by decide +kernel
theorem dX11_inserts_134 : decode cX11_inserts 134 = .ok (.goto 4, 3) := by decide +kernel
theorem dX11_inserts_137 : decode cX11_inserts 137 = .ok (.iconst 0, 1) := by decide +kernel
theorem dX11_inserts_138 : decode cX11_inserts 138 = .ok (.iadd, 1) := by decide +kernel
theorem dX11_inserts_139 : decode cX11_inserts 139 = .ok (.iastore, 1) := by decide +kernel
theorem dX11_inserts_140 : decode cX11_inserts 140 = .ok (.iinc 3 1, 3) := by decide +kernel
theorem dX11_inserts_143 : decode cX11_inserts 143 = .ok (.goto (-57), 3) := by decide +kernel
theorem dX11_inserts_146 : decode cX11_inserts 146 = .ok (.return_, 1) := by decide +kernel
theorem dX11_erases_0 : decode cX11_erases 0 = .ok (.aload_n 0, 1) := by decide +kernel
theorem dX11_erases_1 : decode cX11_erases 1 = .ok (.invokevirtual 255, 3) := by decide +kernel
theorem dX11_erases_4 : decode cX11_erases 4 = .ok (.istore_n 1, 1) := by decide +kernel
theorem dX11_erases_5 : decode cX11_erases 5 = .ok (.aload_n 0, 1) := by decide +kernel
theorem dX11_erases_6 : decode cX11_erases 6 = .ok (.getfield 51, 3) := by decide +kernel
theorem dX11_erases_9 : decode cX11_erases 9 = .ok (.bipush 40, 2) := by decide +kernel
theorem dX11_erases_11 : decode cX11_erases 11 = .ok (.aload_n 0, 1) := by decide +kernel
theorem dX11_erases_12 : decode cX11_erases 12 = .ok (.getfield 180, 3) := by decide +kernel
theorem dX11_erases_15 : decode cX11_erases 15 = .ok (.imul, 1) := by decide +kernel
theorem dX11_erases_16 : decode cX11_erases 16 = .ok (.iload_n 1, 1) := by decide +kernel
theorem dX11_erases_17 : decode cX11_erases 17 = .ok (.iadd, 1) := by decide +kernel
theorem dX11_erases_18 : decode cX11_erases 18 = .ok (.iconst 1, 1) := by decide +kernel
theorem dX11_erases_19 : decode cX11_erases 19 = .ok (.isub, 1) := by decide +kernel
theorem dX11_erases_20 : decode cX11_erases 20 = .ok (.iaload, 1) := by decide +kernel
theorem dX11_erases_21 : decode cX11_erases 21 = .ok (.istore_n 2, 1) := by decide +kernel
theorem dX11_erases_22 : decode cX11_erases 22 = .ok (.aload_n 0, 1) := by decide +kernel
theorem dX11_erases_23 : decode cX11_erases 23 = .ok (.getfield 54, 3) := by decide +kernel
theorem dX11_erases_26 : decode cX11_erases 26 = .ok (.aload_n 0, 1) := by decide +kernel
theorem dX11_erases_27 : decode cX11_erases 27 = .ok (.getfield 180, 3) := by decide +kernel
theorem dX11_erases_30 : decode cX11_erases 30 = .ok (.dup2, 1) := by decide +kernel
theorem dX11_erases_31 : decode cX11_erases 31 = .ok (.iaload, 1) := by decide +kernel
theorem dX11_erases_32 : decode cX11_erases 32 = .ok (.iconst 1, 1) := by decide +kernel
theorem dX11_erases_33 : decode cX11_erases 33 = .ok (.isub, 1) := by decide +kernel
theorem dX11_erases_34 : decode cX11_erases 34 = .ok (.iastore, 1) := by decide +kernel
theorem dX11_erases_35 : decode cX11_erases 35 = .ok (.iload_n 1, 1) := by decide +kernel
theorem dX11_erases_36 : decode cX11_erases 36 = .ok (.iconst 1, 1) := by decide +kernel
theorem dX11_erases_37 : decode cX11_erases 37 = .ok (.isub, 1) := by decide +kernel
theorem dX11_erases_38 : decode cX11_erases 38 = .ok (.istore_n 3, 1) := by decide +kernel
theorem dX11_erases_39 : decode cX11_erases 39 = .ok (.iload_n 3, 1) := by decide +kernel
theorem dX11_erases_40 : decode cX11_erases 40 = .ok (.aload_n 0, 1) := by decide +kernel
theorem dX11_erases_41 : decode cX11_erases 41 = .ok (.getfield 54, 3) := by decide +kernel
theorem dX11_erases_44 : decode cX11_erases 44 = .ok (.aload_n 0, 1) := by decide +kernel
theorem dX11_erases_45 : decode cX11_erases 45 = .ok (.getfield 180, 3) := by decide +kernel
theorem dX11_erases_48 : decode cX11_erases 48 = .ok (.iaload, 1) := by decide +kernel
theorem dX11_erases_49 : decode cX11_erases 49 = .ok (.if_icmp .ge 39, 3) := by decide +kernel
theorem dX11_erases_52 : decode cX11_erases 52 = .ok (.aload_n 0, 1) := by decide +kernel
theorem dX11_erases_53 : decode cX11_erases 53 = .ok (.getfield 51, 3) := by decide +kernel
theorem dX11_erases_56 : decode cX11_erases 56 = .ok (.bipush 40, 2) := by decide +kernel
theorem dX11_erases_58 : decode cX11_erases 58 = .ok (.aload_n 0, 1) := by decide +kernel
theorem dX11_erases_59 : decode cX11_erases 59 = .ok (.getfield 180, 3) := by decide +kernel
theorem dX11_erases_62 : decode cX11_erases 62 = .ok (.imul, 1) := by decide +kernel
theorem dX11_erases_63 : decode cX11_erases 63 = .ok (.iload_n 3, 1) := by decide +kernel
theorem dX11_erases_64 : decode cX11_erases 64 = .ok (.iadd, 1) := by decide +kernel
theorem dX11_erases_65 : decode cX11_erases 65 = .ok (.aload_n 0, 1) := by decide +kernel
theorem dX11_erases_66 : decode cX11_erases 66 = .ok (.getfield 51, 3) := by decide +kernel
theorem dX11_erases_69 : decode cX11_erases 69 = .ok (.bipush 40, 2) := by decide +kernel
theorem dX11_erases_71 : decode cX11_erases 71 = .ok (.aload_n 0, 1) := by decide +kernel
theorem dX11_erases_72 : decode cX11_erases 72 = .ok (.getfield 180, 3) := by decide +kernel
theorem dX11_erases_75 : decode cX11_erases 75 = .ok (.imul, 1) := by decide +kernel
theorem dX11_erases_76 : decode cX11_erases 76 = .ok (.iload_n 3, 1) := by decide +kernel
theorem dX11_erases_77 : decode cX11_erases 77 = .ok (.iadd, 1) := by decide +kernel
theorem dX11_erases_78 : decode cX11_erases 78 = .ok (.iconst 1, 1) := by decide +kernel
theorem dX11_erases_79 : decode cX11_erases 79 = .ok (.iadd, 1) := by decide +kernel
theorem dX11_erases_80 : decode cX11_erases 80 = .ok (.iaload, 1) := by decide +kernel
theorem dX11_erases_81 : decode cX11_erases 81 = .ok (.iastore, 1) := by decide +kernel
theorem dX11_erases_82 : decode cX11_erases 82 = .ok (.iinc 3 1, 3) := by decide +kernel
theorem dX11_erases_85 : decode cX11_erases 85 = .ok (.goto (-46), 3) := by decide +kernel
theorem dX11_erases_88 : decode cX11_erases 88 = .ok (.iconst 0, 1) := by decide +kernel
theorem dX11_erases_89 : decode cX11_erases 89 = .ok (.istore_n 3, 1) := by decide +kernel
theorem dX11_erases_90 : decode cX11_erases 90 = .ok (.iload_n 3, 1) := by decide +kernel
theorem dX11_erases_91 : decode cX11_erases 91 = .ok (.iconst 4, 1) := by decide +kernel
theorem dX11_erases_92 : decode cX11_erases 92 = .ok (.if_icmp .ge 89, 3) := by decide +kernel
theorem dX11_erases_95 : decode cX11_erases 95 = .ok (.iconst 4, 1) := by decide +kernel
theorem dX11_erases_96 : decode cX11_erases 96 = .ok (.aload_n 0, 1) := by decide +kernel
theorem dX11_erases_97 : decode cX11_erases 97 = .ok (.getfield 180, 3) := by decide +kernel
theorem dX11_erases_100 : decode cX11_erases 100 = .ok (.imul, 1) := by decide +kernel
theorem dX11_erases_101 : decode cX11_erases 101 = .ok (.iload_n 3, 1) := by decide +kernel
theorem dX11_erases_102 : decode cX11_erases 102 = .ok (.iadd, 1) := by decide +kernel
theorem dX11_erases_103 : decode cX11_erases 103 = .ok (.istore 4, 2) := by decide +kernel
theorem dX11_erases_105 : decode cX11_erases 105 = .ok (.aload_n 0, 1) := by decide +kernel
theorem dX11_erases_106 : decode cX11_erases 106 = .ok (.getfield 57, 3) := by decide +kernel
theorem dX11_erases_109 : decode cX11_erases 109 = .ok (.iload 4, 2) := by decide +kernel
theorem dX11_erases_111 : decode cX11_erases 111 = .ok (.dup2, 1) := by decide +kernel
theorem dX11_erases_112 : decode cX11_erases 112 = .ok (.iaload, 1) := by decide +kernel
theorem dX11_erases_113 : decode cX11_erases 113 = .ok (.aload_n 0, 1) := by decide +kernel
theorem dX11_erases_114 : decode cX11_erases 114 = .ok (.getfield 57, 3) := by decide +kernel
theorem dX11_erases_117 : decode cX11_erases 117 = .ok (.iload 4, 2) := by decide +kernel
theorem dX11_erases_119 : decode cX11_erases 119 = .ok (.iaload, 1) := by decide +kernel
theorem dX11_erases_120 : decode cX11_erases 120 = .ok (.iload_n 1, 1) := by decide +kernel
theorem dX11_erases_121 : decode cX11_erases 121 = .ok (.if_icmp .lt 7, 3) := by decide +kernel
theorem dX11_erases_124 : decode cX11_erases 124 = .ok (.iconst 1, 1) := by decide +kernel
theorem dX11_erases_125 : decode cX11_erases 125 = .ok (.goto 4, 3) := by decide +kernel
theorem dX11_erases_128 : decode cX11_erases 128 = .ok (.iconst 0, 1) := by decide +kernel
theorem dX11_erases_129 : decode cX11_erases 129 = .ok (.isub, 1) := by decide +kernel
theorem dX11_erases_130 : decode cX11_erases 130 = .ok (.iastore, 1) := by decide +kernel
theorem dX11_erases_131 : decode cX11_erases 131 = .ok (.aload_n 0, 1) := by decide +kernel
theorem dX11_erases_132 : decode cX11_erases 132 = .ok (.getfield 57, 3) := by decide +kernel
theorem dX11_erases_135 : decode cX11_erases 135 = .ok (.iload 4, 2) := by decide +kernel
theorem dX11_erases_137 : decode cX11_erases 137 = .ok (.aload_n 0, 1) := by decide +kernel
theorem dX11_erases_138 : decode cX11_erases 138 = .ok (.getfield 57, 3) := by decide +kernel
theorem dX11_erases_141 : decode cX11_erases 141 = .ok (.iload 4, 2) := by decide +kernel
theorem dX11_erases_143 : decode cX11_erases 143 = .ok (.iaload, 1) := by decide +kernel
theorem dX11_erases_144 : decode cX11_erases 144 = .ok (.iload_n 1, 1) := by decide +kernel
theorem dX11_erases_145 : decode cX11_erases 145 = .ok (.iconst 1, 1) := by decide +kernel
theorem dX11_erases_146 : decode cX11_erases 146 = .ok (.isub, 1) := by decide +kernel
theorem dX11_erases_147 : decode cX11_erases 147 = .ok (.if_icmp .ne 20, 3) := by decide +kernel
theorem dX11_erases_150 : decode cX11_erases 150 = .ok (.iload_n 3, 1) := by decide +kernel
theorem dX11_erases_151 : decode cX11_erases 151 = .ok (.aload_n 0, 1) := by decide +kernel
theorem dX11_erases_152 : decode cX11_erases 152 = .ok (.getfield 60, 3) := by decide +kernel
theorem dX11_erases_155 : decode cX11_erases 155 = .ok (.aload_n 0, 1) := by decide +kernel
theorem dX11_erases_156 : decode cX11_erases 156 = .ok (.getfield 180, 3) := by decide +kernel
theorem dX11_erases_159 : decode cX11_erases 159 = .ok (.iaload, 1) := by decide +kernel
theorem dX11_erases_160 : decode cX11_erases 160 = .ok (.if_icmp .eq 7, 3) := by decide +kernel
theorem dX11_erases_163 : decode cX11_erases 163 = .ok (.iconst (-1), 1) := by decide +kernel
theorem dX11_erases_164 : decode cX11_erases 164 = .ok (.goto 10, 3) := by decide +kernel
theorem dX11_erases_167 : decode cX11_erases 167 = .ok (.aload_n 0, 1) := by decide +kernel
theorem dX11_erases_168 : decode cX11_erases 168 = .ok (.getfield 57, 3) := by decide +kernel
theorem dX11_erases_171 : decode cX11_erases 171 = .ok (.iload 4, 2) := by decide +kernel
theorem dX11_erases_173 : decode cX11_erases 173 = .ok (.iaload, 1) := by decide +kernel
theorem dX11_erases_174 : decode cX11_erases 174 = .ok (.iastore, 1) := by decide +kernel
theorem dX11_erases_175 : decode cX11_erases 175 = .ok (.iinc 3 1, 3) := by decide +kernel
theorem dX11_erases_178 : decode cX11_erases 178 = .ok (.goto (-88), 3) := by decide +kernel
theorem dX11_erases_181 : decode cX11_erases 181 = .ok (.iload_n 2, 1) := by decide +kernel
theorem dX11_erases_182 : decode cX11_erases 182 = .ok (.ireturn, 1) := by decide +kernel
theorem dX11_letterHere_0 : decode cX11_letterHere 0 = .ok (.aload_n 0, 1) := by decide +kernel
theorem dX11_letterHere_1 : decode cX11_letterHere 1 = .ok (.invokevirtual 255, 3) := by decide +kernel
theorem dX11_letterHere_4 : decode cX11_letterHere 4 = .ok (.aload_n 0, 1) := by decide +kernel
theorem dX11_letterHere_5 : decode cX11_letterHere 5 = .ok (.getfield 54, 3) := by decide +kernel
theorem dX11_letterHere_8 : decode cX11_letterHere 8 = .ok (.aload_n 0, 1) := by decide +kernel
theorem dX11_letterHere_9 : decode cX11_letterHere 9 = .ok (.getfield 180, 3) := by decide +kernel
theorem dX11_letterHere_12 : decode cX11_letterHere 12 = .ok (.iaload, 1) := by decide +kernel
theorem dX11_letterHere_13 : decode cX11_letterHere 13 = .ok (.if_icmp .ge 23, 3) := by decide +kernel
theorem dX11_letterHere_16 : decode cX11_letterHere 16 = .ok (.aload_n 0, 1) := by decide +kernel
theorem dX11_letterHere_17 : decode cX11_letterHere 17 = .ok (.getfield 51, 3) := by decide +kernel
theorem dX11_letterHere_20 : decode cX11_letterHere 20 = .ok (.bipush 40, 2) := by decide +kernel
theorem dX11_letterHere_22 : decode cX11_letterHere 22 = .ok (.aload_n 0, 1) := by decide +kernel
theorem dX11_letterHere_23 : decode cX11_letterHere 23 = .ok (.getfield 180, 3) := by decide +kernel
theorem dX11_letterHere_26 : decode cX11_letterHere 26 = .ok (.imul, 1) := by decide +kernel
theorem dX11_letterHere_27 : decode cX11_letterHere 27 = .ok (.aload_n 0, 1) := by decide +kernel
theorem dX11_letterHere_28 : decode cX11_letterHere 28 = .ok (.invokevirtual 255, 3) := by decide +kernel
theorem dX11_letterHere_31 : decode cX11_letterHere 31 = .ok (.iadd, 1) := by decide +kernel
theorem dX11_letterHere_32 : decode cX11_letterHere 32 = .ok (.iaload, 1) := by decide +kernel
theorem dX11_letterHere_33 : decode cX11_letterHere 33 = .ok (.goto 4, 3) := by decide +kernel
theorem dX11_letterHere_36 : decode cX11_letterHere 36 = .ok (.iconst (-1), 1) := by decide +kernel
theorem dX11_letterHere_37 : decode cX11_letterHere 37 = .ok (.ireturn, 1) := by decide +kernel
theorem dX11_putsCursor_0 : decode cX11_putsCursor 0 = .ok (.iload_n 2, 1) := by decide +kernel
theorem dX11_putsCursor_1 : decode cX11_putsCursor 1 = .ok (.iconst 0, 1) := by decide +kernel
theorem dX11_putsCursor_2 : decode cX11_putsCursor 2 = .ok (.aload_n 0, 1) := by decide +kernel
theorem dX11_putsCursor_3 : decode cX11_putsCursor 3 = .ok (.getfield 54, 3) := by decide +kernel
theorem dX11_putsCursor_6 : decode cX11_putsCursor 6 = .ok (.aload_n 0, 1) := by decide +kernel
theorem dX11_putsCursor_7 : decode cX11_putsCursor 7 = .ok (.getfield 180, 3) := by decide +kernel
theorem dX11_putsCursor_10 : decode cX11_putsCursor 10 = .ok (.iaload, 1) := by decide +kernel
theorem dX11_putsCursor_11 : decode cX11_putsCursor 11 = .ok (.invokestatic 136, 3) := by decide +kernel
theorem dX11_putsCursor_14 : decode cX11_putsCursor 14 = .ok (.ifCond .eq 11, 3) := by decide +kernel
theorem dX11_putsCursor_17 : decode cX11_putsCursor 17 = .ok (.aload_n 0, 1) := by decide +kernel
theorem dX11_putsCursor_18 : decode cX11_putsCursor 18 = .ok (.invokevirtual 259, 3) := by decide +kernel
theorem dX11_putsCursor_21 : decode cX11_putsCursor 21 = .ok (.iconst 4, 1) := by decide +kernel
theorem dX11_putsCursor_22 : decode cX11_putsCursor 22 = .ok (.if_icmp .ne 11, 3) := by decide +kernel
theorem dX11_putsCursor_25 : decode cX11_putsCursor 25 = .ok (.aload_n 0, 1) := by decide +kernel
theorem dX11_putsCursor_26 : decode cX11_putsCursor 26 = .ok (.iload_n 1, 1) := by decide +kernel
theorem dX11_putsCursor_27 : decode cX11_putsCursor 27 = .ok (.bipush (-4), 2) := by decide +kernel
theorem dX11_putsCursor_29 : decode cX11_putsCursor 29 = .ok (.invokevirtual 237, 3) := by decide +kernel
theorem dX11_putsCursor_32 : decode cX11_putsCursor 32 = .ok (.return_, 1) := by decide +kernel
theorem dX11_putsCursor_33 : decode cX11_putsCursor 33 = .ok (.iconst 0, 1) := by decide +kernel
theorem dX11_putsCursor_34 : decode cX11_putsCursor 34 = .ok (.istore_n 3, 1) := by decide +kernel
theorem dX11_putsCursor_35 : decode cX11_putsCursor 35 = .ok (.aload_n 0, 1) := by decide +kernel
theorem dX11_putsCursor_36 : decode cX11_putsCursor 36 = .ok (.getfield 57, 3) := by decide +kernel
theorem dX11_putsCursor_39 : decode cX11_putsCursor 39 = .ok (.iconst 4, 1) := by decide +kernel
theorem dX11_putsCursor_40 : decode cX11_putsCursor 40 = .ok (.aload_n 0, 1) := by decide +kernel
theorem dX11_putsCursor_41 : decode cX11_putsCursor 41 = .ok (.getfield 180, 3) := by decide +kernel
theorem dX11_putsCursor_44 : decode cX11_putsCursor 44 = .ok (.imul, 1) := by decide +kernel
theorem dX11_putsCursor_45 : decode cX11_putsCursor 45 = .ok (.iload_n 3, 1) := by decide +kernel
theorem dX11_putsCursor_46 : decode cX11_putsCursor 46 = .ok (.iadd, 1) := by decide +kernel
theorem dX11_putsCursor_47 : decode cX11_putsCursor 47 = .ok (.iaload, 1) := by decide +kernel
theorem dX11_putsCursor_48 : decode cX11_putsCursor 48 = .ok (.iconst (-1), 1) := by decide +kernel
theorem dX11_putsCursor_49 : decode cX11_putsCursor 49 = .ok (.if_icmp .eq 9, 3) := by decide +kernel
theorem dX11_putsCursor_52 : decode cX11_putsCursor 52 = .ok (.iinc 3 1, 3) := by decide +kernel
theorem dX11_putsCursor_55 : decode cX11_putsCursor 55 = .ok (.goto (-20), 3) := by decide +kernel
theorem dX11_putsCursor_58 : decode cX11_putsCursor 58 = .ok (.aload_n 0, 1) := by decide +kernel
theorem dX11_putsCursor_59 : decode cX11_putsCursor 59 = .ok (.getfield 57, 3) := by decide +kernel
theorem dX11_putsCursor_62 : decode cX11_putsCursor 62 = .ok (.iconst 4, 1) := by decide +kernel
theorem dX11_putsCursor_63 : decode cX11_putsCursor 63 = .ok (.aload_n 0, 1) := by decide +kernel
theorem dX11_putsCursor_64 : decode cX11_putsCursor 64 = .ok (.getfield 180, 3) := by decide +kernel
theorem dX11_putsCursor_67 : decode cX11_putsCursor 67 = .ok (.imul, 1) := by decide +kernel
theorem dX11_putsCursor_68 : decode cX11_putsCursor 68 = .ok (.iload_n 3, 1) := by decide +kernel
theorem dX11_putsCursor_69 : decode cX11_putsCursor 69 = .ok (.iadd, 1) := by decide +kernel
theorem dX11_putsCursor_70 : decode cX11_putsCursor 70 = .ok (.iload_n 2, 1) := by decide +kernel
theorem dX11_putsCursor_71 : decode cX11_putsCursor 71 = .ok (.iastore, 1) := by decide +kernel
theorem dX11_putsCursor_72 : decode cX11_putsCursor 72 = .ok (.aload_n 0, 1) := by decide +kernel
theorem dX11_putsCursor_73 : decode cX11_putsCursor 73 = .ok (.iload_n 1, 1) := by decide +kernel
theorem dX11_putsCursor_74 : decode cX11_putsCursor 74 = .ok (.iload_n 3, 1) := by decide +kernel
theorem dX11_putsCursor_75 : decode cX11_putsCursor 75 = .ok (.invokevirtual 262, 3) := by decide +kernel
theorem dX11_putsCursor_78 : decode cX11_putsCursor 78 = .ok (.return_, 1) := by decide +kernel
theorem dX11_putsLetter_0 : decode cX11_putsLetter 0 = .ok (.iload_n 2, 1) := by decide +kernel
theorem dX11_putsLetter_1 : decode cX11_putsLetter 1 = .ok (.iconst 0, 1) := by decide +kernel
theorem dX11_putsLetter_2 : decode cX11_putsLetter 2 = .ok (.bipush 25, 2) := by decide +kernel
theorem dX11_putsLetter_4 : decode cX11_putsLetter 4 = .ok (.invokestatic 136, 3) := by decide +kernel
theorem dX11_putsLetter_7 : decode cX11_putsLetter 7 = .ok (.ifCond .eq 17, 3) := by decide +kernel
theorem dX11_putsLetter_10 : decode cX11_putsLetter 10 = .ok (.aload_n 0, 1) := by decide +kernel
theorem dX11_putsLetter_11 : decode cX11_putsLetter 11 = .ok (.getfield 54, 3) := by decide +kernel
theorem dX11_putsLetter_14 : decode cX11_putsLetter 14 = .ok (.aload_n 0, 1) := by decide +kernel
theorem dX11_putsLetter_15 : decode cX11_putsLetter 15 = .ok (.getfield 180, 3) := by decide +kernel
theorem dX11_putsLetter_18 : decode cX11_putsLetter 18 = .ok (.iaload, 1) := by decide +kernel
theorem dX11_putsLetter_19 : decode cX11_putsLetter 19 = .ok (.bipush 40, 2) := by decide +kernel
theorem dX11_putsLetter_21 : decode cX11_putsLetter 21 = .ok (.if_icmp .ne 11, 3) := by decide +kernel
theorem dX11_putsLetter_24 : decode cX11_putsLetter 24 = .ok (.aload_n 0, 1) := by decide +kernel
theorem dX11_putsLetter_25 : decode cX11_putsLetter 25 = .ok (.iload_n 1, 1) := by decide +kernel
theorem dX11_putsLetter_26 : decode cX11_putsLetter 26 = .ok (.bipush (-4), 2) := by decide +kernel
theorem dX11_putsLetter_28 : decode cX11_putsLetter 28 = .ok (.invokevirtual 237, 3) := by decide +kernel
theorem dX11_putsLetter_31 : decode cX11_putsLetter 31 = .ok (.return_, 1) := by decide +kernel
theorem dX11_putsLetter_32 : decode cX11_putsLetter 32 = .ok (.aload_n 0, 1) := by decide +kernel
theorem dX11_putsLetter_33 : decode cX11_putsLetter 33 = .ok (.iload_n 2, 1) := by decide +kernel
theorem dX11_putsLetter_34 : decode cX11_putsLetter 34 = .ok (.invokevirtual 265, 3) := by decide +kernel
theorem dX11_putsLetter_37 : decode cX11_putsLetter 37 = .ok (.aload_n 0, 1) := by decide +kernel
theorem dX11_putsLetter_38 : decode cX11_putsLetter 38 = .ok (.getfield 81, 3) := by decide +kernel
theorem dX11_putsLetter_41 : decode cX11_putsLetter 41 = .ok (.iload_n 1, 1) := by decide +kernel
theorem dX11_putsLetter_42 : decode cX11_putsLetter 42 = .ok (.iload_n 2, 1) := by decide +kernel
theorem dX11_putsLetter_43 : decode cX11_putsLetter 43 = .ok (.iastore, 1) := by decide +kernel
theorem dX11_putsLetter_44 : decode cX11_putsLetter 44 = .ok (.aload_n 0, 1) := by decide +kernel
theorem dX11_putsLetter_45 : decode cX11_putsLetter 45 = .ok (.getfield 44, 3) := by decide +kernel
theorem dX11_putsLetter_48 : decode cX11_putsLetter 48 = .ok (.iconst (-1), 1) := by decide +kernel
theorem dX11_putsLetter_49 : decode cX11_putsLetter 49 = .ok (.if_icmp .eq 10, 3) := by decide +kernel
theorem dX11_putsLetter_52 : decode cX11_putsLetter 52 = .ok (.aload_n 0, 1) := by decide +kernel
theorem dX11_putsLetter_53 : decode cX11_putsLetter 53 = .ok (.getfield 241, 3) := by decide +kernel
theorem dX11_putsLetter_56 : decode cX11_putsLetter 56 = .ok (.ifCond .eq 12, 3) := by decide +kernel
theorem dX11_putsLetter_59 : decode cX11_putsLetter 59 = .ok (.aload_n 0, 1) := by decide +kernel
theorem dX11_putsLetter_60 : decode cX11_putsLetter 60 = .ok (.iload_n 1, 1) := by decide +kernel
theorem dX11_putsLetter_61 : decode cX11_putsLetter 61 = .ok (.iload_n 2, 1) := by decide +kernel
theorem dX11_putsLetter_62 : decode cX11_putsLetter 62 = .ok (.invokevirtual 262, 3) := by decide +kernel
theorem dX11_putsLetter_65 : decode cX11_putsLetter 65 = .ok (.goto 33, 3) := by decide +kernel
theorem dX11_putsLetter_68 : decode cX11_putsLetter 68 = .ok (.aload_n 0, 1) := by decide +kernel
theorem dX11_putsLetter_69 : decode cX11_putsLetter 69 = .ok (.iconst 1, 1) := by decide +kernel
theorem dX11_putsLetter_70 : decode cX11_putsLetter 70 = .ok (.putfield 241, 3) := by decide +kernel
theorem dX11_putsLetter_73 : decode cX11_putsLetter 73 = .ok (.aload_n 0, 1) := by decide +kernel
theorem dX11_putsLetter_74 : decode cX11_putsLetter 74 = .ok (.getfield 78, 3) := by decide +kernel
theorem dX11_putsLetter_77 : decode cX11_putsLetter 77 = .ok (.iload_n 1, 1) := by decide +kernel
theorem dX11_putsLetter_78 : decode cX11_putsLetter 78 = .ok (.bipush 10, 2) := by decide +kernel
theorem dX11_putsLetter_80 : decode cX11_putsLetter 80 = .ok (.aload_n 0, 1) := by decide +kernel
theorem dX11_putsLetter_81 : decode cX11_putsLetter 81 = .ok (.getfield 44, 3) := by decide +kernel
theorem dX11_putsLetter_84 : decode cX11_putsLetter 84 = .ok (.iadd, 1) := by decide +kernel
theorem dX11_putsLetter_85 : decode cX11_putsLetter 85 = .ok (.iastore, 1) := by decide +kernel
theorem dX11_putsLetter_86 : decode cX11_putsLetter 86 = .ok (.aload_n 0, 1) := by decide +kernel
theorem dX11_putsLetter_87 : decode cX11_putsLetter 87 = .ok (.iload_n 1, 1) := by decide +kernel
theorem dX11_putsLetter_88 : decode cX11_putsLetter 88 = .ok (.aload_n 0, 1) := by decide +kernel
theorem dX11_putsLetter_89 : decode cX11_putsLetter 89 = .ok (.getfield 44, 3) := by decide +kernel
theorem dX11_putsLetter_92 : decode cX11_putsLetter 92 = .ok (.iconst 1, 1) := by decide +kernel
theorem dX11_putsLetter_93 : decode cX11_putsLetter 93 = .ok (.iload_n 2, 1) := by decide +kernel
theorem dX11_putsLetter_94 : decode cX11_putsLetter 94 = .ok (.iconst 0, 1) := by decide +kernel
theorem dX11_putsLetter_95 : decode cX11_putsLetter 95 = .ok (.invokevirtual 269, 3) := by decide +kernel
theorem dX11_putsLetter_98 : decode cX11_putsLetter 98 = .ok (.return_, 1) := by decide +kernel
theorem dX11_inOrder_0 : decode cX11_inOrder 0 = .ok (.iconst 0, 1) := by decide +kernel
theorem dX11_inOrder_1 : decode cX11_inOrder 1 = .ok (.istore_n 1, 1) := by decide +kernel
theorem dX11_inOrder_2 : decode cX11_inOrder 2 = .ok (.bipush 40, 2) := by decide +kernel
theorem dX11_inOrder_4 : decode cX11_inOrder 4 = .ok (.istore_n 2, 1) := by decide +kernel
theorem dX11_inOrder_5 : decode cX11_inOrder 5 = .ok (.iload_n 2, 1) := by decide +kernel
theorem dX11_inOrder_6 : decode cX11_inOrder 6 = .ok (.ifCond .lt 51, 3) := by decide +kernel
theorem dX11_inOrder_9 : decode cX11_inOrder 9 = .ok (.iconst 3, 1) := by decide +kernel
theorem dX11_inOrder_10 : decode cX11_inOrder 10 = .ok (.istore_n 3, 1) := by decide +kernel
theorem dX11_inOrder_11 : decode cX11_inOrder 11 = .ok (.iload_n 3, 1) := by decide +kernel
theorem dX11_inOrder_12 : decode cX11_inOrder 12 = .ok (.ifCond .lt 39, 3) := by decide +kernel
theorem dX11_inOrder_15 : decode cX11_inOrder 15 = .ok (.aload_n 0, 1) := by decide +kernel
theorem dX11_inOrder_16 : decode cX11_inOrder 16 = .ok (.getfield 57, 3) := by decide +kernel
theorem dX11_inOrder_19 : decode cX11_inOrder 19 = .ok (.iconst 4, 1) := by decide +kernel
theorem dX11_inOrder_20 : decode cX11_inOrder 20 = .ok (.aload_n 0, 1) := by decide +kernel
theorem dX11_inOrder_21 : decode cX11_inOrder 21 = .ok (.getfield 180, 3) := by decide +kernel
theorem dX11_inOrder_24 : decode cX11_inOrder 24 = .ok (.imul, 1) := by decide +kernel
theorem dX11_inOrder_25 : decode cX11_inOrder 25 = .ok (.iload_n 3, 1) := by decide +kernel
theorem dX11_inOrder_26 : decode cX11_inOrder 26 = .ok (.iadd, 1) := by decide +kernel
theorem dX11_inOrder_27 : decode cX11_inOrder 27 = .ok (.iaload, 1) := by decide +kernel
theorem dX11_inOrder_28 : decode cX11_inOrder 28 = .ok (.iload_n 2, 1) := by decide +kernel
theorem dX11_inOrder_29 : decode cX11_inOrder 29 = .ok (.if_icmp .ne 14, 3) := by decide +kernel
theorem dX11_inOrder_32 : decode cX11_inOrder 32 = .ok (.bipush 8, 2) := by decide +kernel
theorem dX11_inOrder_34 : decode cX11_inOrder 34 = .ok (.iload_n 1, 1) := by decide +kernel
theorem dX11_inOrder_35 : decode cX11_inOrder 35 = .ok (.imul, 1) := by decide +kernel
theorem dX11_inOrder_36 : decode cX11_inOrder 36 = .ok (.iload_n 3, 1) := by decide +kernel
theorem dX11_inOrder_37 : decode cX11_inOrder 37 = .ok (.iadd, 1) := by decide +kernel
theorem dX11_inOrder_38 : decode cX11_inOrder 38 = .ok (.iconst 1, 1) := by decide +kernel
theorem dX11_inOrder_39 : decode cX11_inOrder 39 = .ok (.iadd, 1) := by decide +kernel
theorem dX11_inOrder_40 : decode cX11_inOrder 40 = .ok (.goto 4, 3) := by decide +kernel
theorem dX11_inOrder_43 : decode cX11_inOrder 43 = .ok (.iload_n 1, 1) := by decide +kernel
theorem dX11_inOrder_44 : decode cX11_inOrder 44 = .ok (.istore_n 1, 1) := by decide +kernel
theorem dX11_inOrder_45 : decode cX11_inOrder 45 = .ok (.iinc 3 (-1), 3) := by decide +kernel
theorem dX11_inOrder_48 : decode cX11_inOrder 48 = .ok (.goto (-37), 3) := by decide +kernel
theorem dX11_inOrder_51 : decode cX11_inOrder 51 = .ok (.iinc 2 (-1), 3) := by decide +kernel
theorem dX11_inOrder_54 : decode cX11_inOrder 54 = .ok (.goto (-49), 3) := by decide +kernel
theorem dX11_inOrder_57 : decode cX11_inOrder 57 = .ok (.iload_n 1, 1) := by decide +kernel
theorem dX11_inOrder_58 : decode cX11_inOrder 58 = .ok (.ireturn, 1) := by decide +kernel
theorem dX11_goesOn_0 : decode cX11_goesOn 0 = .ok (.aload_n 0, 1) := by decide +kernel
theorem dX11_goesOn_1 : decode cX11_goesOn 1 = .ok (.getfield 84, 3) := by decide +kernel
theorem dX11_goesOn_4 : decode cX11_goesOn 4 = .ok (.iload_n 1, 1) := by decide +kernel
theorem dX11_goesOn_5 : decode cX11_goesOn 5 = .ok (.iaload, 1) := by decide +kernel
theorem dX11_goesOn_6 : decode cX11_goesOn 6 = .ok (.bipush 8, 2) := by decide +kernel
theorem dX11_goesOn_8 : decode cX11_goesOn 8 = .ok (.idiv, 1) := by decide +kernel
theorem dX11_goesOn_9 : decode cX11_goesOn 9 = .ok (.istore_n 2, 1) := by decide +kernel
theorem dX11_goesOn_10 : decode cX11_goesOn 10 = .ok (.iconst 0, 1) := by decide +kernel
theorem dX11_goesOn_11 : decode cX11_goesOn 11 = .ok (.istore_n 3, 1) := by decide +kernel
theorem dX11_goesOn_12 : decode cX11_goesOn 12 = .ok (.aload_n 0, 1) := by decide +kernel
theorem dX11_goesOn_13 : decode cX11_goesOn 13 = .ok (.getfield 81, 3) := by decide +kernel
theorem dX11_goesOn_16 : decode cX11_goesOn 16 = .ok (.iload_n 1, 1) := by decide +kernel
theorem dX11_goesOn_17 : decode cX11_goesOn 17 = .ok (.iaload, 1) := by decide +kernel
theorem dX11_goesOn_18 : decode cX11_goesOn 18 = .ok (.ifCond .le 59, 3) := by decide +kernel
theorem dX11_goesOn_21 : decode cX11_goesOn 21 = .ok (.iload_n 3, 1) := by decide +kernel
theorem dX11_goesOn_22 : decode cX11_goesOn 22 = .ok (.ifCond .ne 55, 3) := by decide +kernel
theorem dX11_goesOn_25 : decode cX11_goesOn 25 = .ok (.aload_n 0, 1) := by decide +kernel
theorem dX11_goesOn_26 : decode cX11_goesOn 26 = .ok (.getfield 81, 3) := by decide +kernel
theorem dX11_goesOn_29 : decode cX11_goesOn 29 = .ok (.iload_n 1, 1) := by decide +kernel
theorem dX11_goesOn_30 : decode cX11_goesOn 30 = .ok (.iaload, 1) := by decide +kernel
theorem dX11_goesOn_31 : decode cX11_goesOn 31 = .ok (.bipush 8, 2) := by decide +kernel
theorem dX11_goesOn_33 : decode cX11_goesOn 33 = .ok (.irem, 1) := by decide +kernel
theorem dX11_goesOn_34 : decode cX11_goesOn 34 = .ok (.iconst 1, 1) := by decide +kernel
theorem dX11_goesOn_35 : decode cX11_goesOn 35 = .ok (.isub, 1) := by decide +kernel
theorem dX11_goesOn_36 : decode cX11_goesOn 36 = .ok (.istore 4, 2) := by decide +kernel
theorem dX11_goesOn_38 : decode cX11_goesOn 38 = .ok (.aload_n 0, 1) := by decide +kernel
theorem dX11_goesOn_39 : decode cX11_goesOn 39 = .ok (.getfield 81, 3) := by decide +kernel
theorem dX11_goesOn_42 : decode cX11_goesOn 42 = .ok (.iload_n 1, 1) := by decide +kernel
theorem dX11_goesOn_43 : decode cX11_goesOn 43 = .ok (.dup2, 1) := by decide +kernel
theorem dX11_goesOn_44 : decode cX11_goesOn 44 = .ok (.iaload, 1) := by decide +kernel
theorem dX11_goesOn_45 : decode cX11_goesOn 45 = .ok (.bipush 8, 2) := by decide +kernel
theorem dX11_goesOn_47 : decode cX11_goesOn 47 = .ok (.idiv, 1) := by decide +kernel
theorem dX11_goesOn_48 : decode cX11_goesOn 48 = .ok (.iastore, 1) := by decide +kernel
theorem dX11_goesOn_49 : decode cX11_goesOn 49 = .ok (.aload_n 0, 1) := by decide +kernel
theorem dX11_goesOn_50 : decode cX11_goesOn 50 = .ok (.getfield 57, 3) := by decide +kernel
theorem dX11_goesOn_53 : decode cX11_goesOn 53 = .ok (.iconst 4, 1) := by decide +kernel
theorem dX11_goesOn_54 : decode cX11_goesOn 54 = .ok (.iload_n 2, 1) := by decide +kernel
theorem dX11_goesOn_55 : decode cX11_goesOn 55 = .ok (.imul, 1) := by decide +kernel
theorem dX11_goesOn_56 : decode cX11_goesOn 56 = .ok (.iload 4, 2) := by decide +kernel
theorem dX11_goesOn_58 : decode cX11_goesOn 58 = .ok (.iadd, 1) := by decide +kernel
theorem dX11_goesOn_59 : decode cX11_goesOn 59 = .ok (.iaload, 1) := by decide +kernel
theorem dX11_goesOn_60 : decode cX11_goesOn 60 = .ok (.iconst (-1), 1) := by decide +kernel
theorem dX11_goesOn_61 : decode cX11_goesOn 61 = .ok (.if_icmp .eq 13, 3) := by decide +kernel
theorem dX11_goesOn_64 : decode cX11_goesOn 64 = .ok (.aload_n 0, 1) := by decide +kernel
theorem dX11_goesOn_65 : decode cX11_goesOn 65 = .ok (.getfield 60, 3) := by decide +kernel
theorem dX11_goesOn_68 : decode cX11_goesOn 68 = .ok (.iload_n 2, 1) := by decide +kernel
theorem dX11_goesOn_69 : decode cX11_goesOn 69 = .ok (.iload 4, 2) := by decide +kernel
theorem dX11_goesOn_71 : decode cX11_goesOn 71 = .ok (.iastore, 1) := by decide +kernel
theorem dX11_goesOn_72 : decode cX11_goesOn 72 = .ok (.iconst 1, 1) := by decide +kernel
theorem dX11_goesOn_73 : decode cX11_goesOn 73 = .ok (.istore_n 3, 1) := by decide +kernel
theorem dX11_goesOn_74 : decode cX11_goesOn 74 = .ok (.goto (-62), 3) := by decide +kernel
theorem dX11_goesOn_77 : decode cX11_goesOn 77 = .ok (.iload_n 3, 1) := by decide +kernel
theorem dX11_goesOn_78 : decode cX11_goesOn 78 = .ok (.ifCond .eq 28, 3) := by decide +kernel
theorem dX11_goesOn_81 : decode cX11_goesOn 81 = .ok (.aload_n 0, 1) := by decide +kernel
theorem dX11_goesOn_82 : decode cX11_goesOn 82 = .ok (.aload_n 0, 1) := by decide +kernel
theorem dX11_goesOn_83 : decode cX11_goesOn 83 = .ok (.getfield 13, 3) := by decide +kernel
theorem dX11_goesOn_86 : decode cX11_goesOn 86 = .ok (.aload_n 0, 1) := by decide +kernel
theorem dX11_goesOn_87 : decode cX11_goesOn 87 = .ok (.getfield 69, 3) := by decide +kernel
theorem dX11_goesOn_90 : decode cX11_goesOn 90 = .ok (.iload_n 1, 1) := by decide +kernel
theorem dX11_goesOn_91 : decode cX11_goesOn 91 = .ok (.iaload, 1) := by decide +kernel
theorem dX11_goesOn_92 : decode cX11_goesOn 92 = .ok (.iaload, 1) := by decide +kernel
theorem dX11_goesOn_93 : decode cX11_goesOn 93 = .ok (.iload_n 1, 1) := by decide +kernel
theorem dX11_goesOn_94 : decode cX11_goesOn 94 = .ok (.aload_n 0, 1) := by decide +kernel
theorem dX11_goesOn_95 : decode cX11_goesOn 95 = .ok (.getfield 78, 3) := by decide +kernel
theorem dX11_goesOn_98 : decode cX11_goesOn 98 = .ok (.iload_n 1, 1) := by decide +kernel
theorem dX11_goesOn_99 : decode cX11_goesOn 99 = .ok (.iaload, 1) := by decide +kernel
theorem dX11_goesOn_100 : decode cX11_goesOn 100 = .ok (.invokevirtual 273, 3) := by decide +kernel
theorem dX11_goesOn_103 : decode cX11_goesOn 103 = .ok (.goto 19, 3) := by decide +kernel
theorem dX11_goesOn_106 : decode cX11_goesOn 106 = .ok (.aload_n 0, 1) := by decide +kernel
theorem dX11_goesOn_107 : decode cX11_goesOn 107 = .ok (.iload_n 1, 1) := by decide +kernel
theorem dX11_goesOn_108 : decode cX11_goesOn 108 = .ok (.invokevirtual 276, 3) := by decide +kernel
theorem dX11_goesOn_111 : decode cX11_goesOn 111 = .ok (.aload_n 0, 1) := by decide +kernel
theorem dX11_goesOn_112 : decode cX11_goesOn 112 = .ok (.iload_n 1, 1) := by decide +kernel
theorem dX11_goesOn_113 : decode cX11_goesOn 113 = .ok (.aload_n 0, 1) := by decide +kernel
theorem dX11_goesOn_114 : decode cX11_goesOn 114 = .ok (.getfield 78, 3) := by decide +kernel
theorem dX11_goesOn_117 : decode cX11_goesOn 117 = .ok (.iload_n 1, 1) := by decide +kernel
theorem dX11_goesOn_118 : decode cX11_goesOn 118 = .ok (.iaload, 1) := by decide +kernel
theorem dX11_goesOn_119 : decode cX11_goesOn 119 = .ok (.invokevirtual 262, 3) := by decide +kernel
theorem dX11_goesOn_122 : decode cX11_goesOn 122 = .ok (.return_, 1) := by decide +kernel
theorem dX11_setsBack_0 : decode cX11_setsBack 0 = .ok (.aload_n 0, 1) := by decide +kernel
theorem dX11_setsBack_1 : decode cX11_setsBack 1 = .ok (.getfield 84, 3) := by decide +kernel
theorem dX11_setsBack_4 : decode cX11_setsBack 4 = .ok (.iload_n 1, 1) := by decide +kernel
theorem dX11_setsBack_5 : decode cX11_setsBack 5 = .ok (.iaload, 1) := by decide +kernel
theorem dX11_setsBack_6 : decode cX11_setsBack 6 = .ok (.bipush 8, 2) := by decide +kernel
theorem dX11_setsBack_8 : decode cX11_setsBack 8 = .ok (.idiv, 1) := by decide +kernel
theorem dX11_setsBack_9 : decode cX11_setsBack 9 = .ok (.istore_n 2, 1) := by decide +kernel
theorem dX11_setsBack_10 : decode cX11_setsBack 10 = .ok (.aload_n 0, 1) := by decide +kernel
theorem dX11_setsBack_11 : decode cX11_setsBack 11 = .ok (.getfield 84, 3) := by decide +kernel
theorem dX11_setsBack_14 : decode cX11_setsBack 14 = .ok (.iload_n 1, 1) := by decide +kernel
theorem dX11_setsBack_15 : decode cX11_setsBack 15 = .ok (.iaload, 1) := by decide +kernel
theorem dX11_setsBack_16 : decode cX11_setsBack 16 = .ok (.bipush 8, 2) := by decide +kernel
theorem dX11_setsBack_18 : decode cX11_setsBack 18 = .ok (.irem, 1) := by decide +kernel
theorem dX11_setsBack_19 : decode cX11_setsBack 19 = .ok (.istore_n 3, 1) := by decide +kernel
theorem dX11_setsBack_20 : decode cX11_setsBack 20 = .ok (.aload_n 0, 1) := by decide +kernel
theorem dX11_setsBack_21 : decode cX11_setsBack 21 = .ok (.getfield 57, 3) := by decide +kernel
theorem dX11_setsBack_24 : decode cX11_setsBack 24 = .ok (.iconst 4, 1) := by decide +kernel
theorem dX11_setsBack_25 : decode cX11_setsBack 25 = .ok (.iload_n 2, 1) := by decide +kernel
theorem dX11_setsBack_26 : decode cX11_setsBack 26 = .ok (.imul, 1) := by decide +kernel
theorem dX11_setsBack_27 : decode cX11_setsBack 27 = .ok (.iload_n 3, 1) := by decide +kernel
theorem dX11_setsBack_28 : decode cX11_setsBack 28 = .ok (.iadd, 1) := by decide +kernel
theorem dX11_setsBack_29 : decode cX11_setsBack 29 = .ok (.iaload, 1) := by decide +kernel
theorem dX11_setsBack_30 : decode cX11_setsBack 30 = .ok (.iconst (-1), 1) := by decide +kernel
theorem dX11_setsBack_31 : decode cX11_setsBack 31 = .ok (.if_icmp .ne 25, 3) := by decide +kernel
theorem dX11_setsBack_34 : decode cX11_setsBack 34 = .ok (.iconst 0, 1) := by decide +kernel
theorem dX11_setsBack_35 : decode cX11_setsBack 35 = .ok (.istore_n 3, 1) := by decide +kernel
theorem dX11_setsBack_36 : decode cX11_setsBack 36 = .ok (.aload_n 0, 1) := by decide +kernel
theorem dX11_setsBack_37 : decode cX11_setsBack 37 = .ok (.getfield 57, 3) := by decide +kernel
theorem dX11_setsBack_40 : decode cX11_setsBack 40 = .ok (.iconst 4, 1) := by decide +kernel
theorem dX11_setsBack_41 : decode cX11_setsBack 41 = .ok (.iload_n 2, 1) := by decide +kernel
theorem dX11_setsBack_42 : decode cX11_setsBack 42 = .ok (.imul, 1) := by decide +kernel
theorem dX11_setsBack_43 : decode cX11_setsBack 43 = .ok (.iload_n 3, 1) := by decide +kernel
theorem dX11_setsBack_44 : decode cX11_setsBack 44 = .ok (.iadd, 1) := by decide +kernel
theorem dX11_setsBack_45 : decode cX11_setsBack 45 = .ok (.iaload, 1) := by decide +kernel
theorem dX11_setsBack_46 : decode cX11_setsBack 46 = .ok (.iconst (-1), 1) := by decide +kernel
theorem dX11_setsBack_47 : decode cX11_setsBack 47 = .ok (.if_icmp .ne 9, 3) := by decide +kernel
theorem dX11_setsBack_50 : decode cX11_setsBack 50 = .ok (.iinc 3 1, 3) := by decide +kernel
theorem dX11_setsBack_53 : decode cX11_setsBack 53 = .ok (.goto (-17), 3) := by decide +kernel
theorem dX11_setsBack_56 : decode cX11_setsBack 56 = .ok (.aload_n 0, 1) := by decide +kernel
theorem dX11_setsBack_57 : decode cX11_setsBack 57 = .ok (.getfield 60, 3) := by decide +kernel
theorem dX11_setsBack_60 : decode cX11_setsBack 60 = .ok (.iload_n 2, 1) := by decide +kernel
theorem dX11_setsBack_61 : decode cX11_setsBack 61 = .ok (.iload_n 3, 1) := by decide +kernel
theorem dX11_setsBack_62 : decode cX11_setsBack 62 = .ok (.iastore, 1) := by decide +kernel
theorem dX11_setsBack_63 : decode cX11_setsBack 63 = .ok (.return_, 1) := by decide +kernel
theorem dX11_isNumber_0 : decode cX11_isNumber 0 = .ok (.iload_n 0, 1) := by decide +kernel
theorem dX11_isNumber_1 : decode cX11_isNumber 1 = .ok (.sipush 20000, 3) := by decide +kernel
theorem dX11_isNumber_4 : decode cX11_isNumber 4 = .ok (.if_icmp .ge 7, 3) := by decide +kernel
theorem dX11_isNumber_7 : decode cX11_isNumber 7 = .ok (.iconst 1, 1) := by decide +kernel
theorem dX11_isNumber_8 : decode cX11_isNumber 8 = .ok (.goto 4, 3) := by decide +kernel
theorem dX11_isNumber_11 : decode cX11_isNumber 11 = .ok (.iconst 0, 1) := by decide +kernel
theorem dX11_isNumber_12 : decode cX11_isNumber 12 = .ok (.ireturn, 1) := by decide +kernel
theorem dX11_within_0 : decode cX11_within 0 = .ok (.iload_n 0, 1) := by decide +kernel
theorem dX11_within_1 : decode cX11_within 1 = .ok (.sipush 9999, 3) := by decide +kernel
theorem dX11_within_4 : decode cX11_within 4 = .ok (.if_icmp .le 9, 3) := by decide +kernel
theorem dX11_within_7 : decode cX11_within 7 = .ok (.sipush 9999, 3) := by decide +kernel
theorem dX11_within_10 : decode cX11_within 10 = .ok (.goto 17, 3) := by decide +kernel
theorem dX11_within_13 : decode cX11_within 13 = .ok (.iload_n 0, 1) := by decide +kernel
theorem dX11_within_14 : decode cX11_within 14 = .ok (.sipush (-9999), 3) := by decide +kernel
theorem dX11_within_17 : decode cX11_within 17 = .ok (.if_icmp .ge 9, 3) := by decide +kernel
theorem dX11_within_20 : decode cX11_within 20 = .ok (.sipush (-9999), 3) := by decide +kernel
theorem dX11_within_23 : decode cX11_within 23 = .ok (.goto 4, 3) := by decide +kernel
theorem dX11_within_26 : decode cX11_within 26 = .ok (.iload_n 0, 1) := by decide +kernel
theorem dX11_within_27 : decode cX11_within 27 = .ok (.ireturn, 1) := by decide +kernel
theorem dX11_beginsNode_0 : decode cX11_beginsNode 0 = .ok (.aload_n 0, 1) := by decide +kernel
theorem dX11_beginsNode_1 : decode cX11_beginsNode 1 = .ok (.getfield 193, 3) := by decide +kernel
theorem dX11_beginsNode_4 : decode cX11_beginsNode 4 = .ok (.istore_n 1, 1) := by decide +kernel
theorem dX11_beginsNode_5 : decode cX11_beginsNode 5 = .ok (.aload_n 0, 1) := by decide +kernel
theorem dX11_beginsNode_6 : decode cX11_beginsNode 6 = .ok (.iload_n 1, 1) := by decide +kernel
theorem dX11_beginsNode_7 : decode cX11_beginsNode 7 = .ok (.aload_n 0, 1) := by decide +kernel
theorem dX11_beginsNode_8 : decode cX11_beginsNode 8 = .ok (.getfield 196, 3) := by decide +kernel
theorem dX11_beginsNode_11 : decode cX11_beginsNode 11 = .ok (.aload_n 0, 1) := by decide +kernel
theorem dX11_beginsNode_12 : decode cX11_beginsNode 12 = .ok (.getfield 199, 3) := by decide +kernel
theorem dX11_beginsNode_15 : decode cX11_beginsNode 15 = .ok (.iconst 0, 1) := by decide +kernel
theorem dX11_beginsNode_16 : decode cX11_beginsNode 16 = .ok (.invokevirtual 227, 3) := by decide +kernel
theorem dX11_beginsNode_19 : decode cX11_beginsNode 19 = .ok (.istore_n 2, 1) := by decide +kernel
theorem dX11_beginsNode_20 : decode cX11_beginsNode 20 = .ok (.aload_n 0, 1) := by decide +kernel
theorem dX11_beginsNode_21 : decode cX11_beginsNode 21 = .ok (.getfield 13, 3) := by decide +kernel
theorem dX11_beginsNode_24 : decode cX11_beginsNode 24 = .ok (.iload_n 1, 1) := by decide +kernel
theorem dX11_beginsNode_25 : decode cX11_beginsNode 25 = .ok (.iaload, 1) := by decide +kernel
theorem dX11_beginsNode_26 : decode cX11_beginsNode 26 = .ok (.istore_n 3, 1) := by decide +kernel
theorem dX11_beginsNode_27 : decode cX11_beginsNode 27 = .ok (.aload_n 0, 1) := by decide +kernel
theorem dX11_beginsNode_28 : decode cX11_beginsNode 28 = .ok (.getfield 7, 3) := by decide +kernel
theorem dX11_beginsNode_31 : decode cX11_beginsNode 31 = .ok (.iload_n 1, 1) := by decide +kernel
theorem dX11_beginsNode_32 : decode cX11_beginsNode 32 = .ok (.iaload, 1) := by decide +kernel
theorem dX11_beginsNode_33 : decode cX11_beginsNode 33 = .ok (.tableswitch 491 0 39 #[175, 184, 201, 201, 491, 491, 491, 491, 491, 491, 491, 491, 216, 233, 201, 255, 266, 491, 378, 491, 201, 491, 491, 317, 491, 491, 201, 393, 201, 491, 436, 491, 436, 436, 436, 491, 450, 491, 407, 422], 175) := by decide +kernel
theorem dX11_beginsNode_208 : decode cX11_beginsNode 208 = .ok (.aload_n 0, 1) := by decide +kernel
theorem dX11_beginsNode_209 : decode cX11_beginsNode 209 = .ok (.iload_n 2, 1) := by decide +kernel
theorem dX11_beginsNode_210 : decode cX11_beginsNode 210 = .ok (.iload_n 3, 1) := by decide +kernel
theorem dX11_beginsNode_211 : decode cX11_beginsNode 211 = .ok (.invokevirtual 262, 3) := by decide +kernel
theorem dX11_beginsNode_214 : decode cX11_beginsNode 214 = .ok (.goto 317, 3) := by decide +kernel
theorem dX11_beginsNode_217 : decode cX11_beginsNode 217 = .ok (.aload_n 0, 1) := by decide +kernel
theorem dX11_beginsNode_218 : decode cX11_beginsNode 218 = .ok (.iload_n 2, 1) := by decide +kernel
theorem dX11_beginsNode_219 : decode cX11_beginsNode 219 = .ok (.aload_n 0, 1) := by decide +kernel
theorem dX11_beginsNode_220 : decode cX11_beginsNode 220 = .ok (.aload_n 0, 1) := by decide +kernel
theorem dX11_beginsNode_221 : decode cX11_beginsNode 221 = .ok (.getfield 199, 3) := by decide +kernel
theorem dX11_beginsNode_224 : decode cX11_beginsNode 224 = .ok (.iload_n 3, 1) := by decide +kernel
theorem dX11_beginsNode_225 : decode cX11_beginsNode 225 = .ok (.invokevirtual 279, 3) := by decide +kernel
theorem dX11_beginsNode_228 : decode cX11_beginsNode 228 = .ok (.invokevirtual 282, 3) := by decide +kernel
theorem dX11_beginsNode_231 : decode cX11_beginsNode 231 = .ok (.goto 300, 3) := by decide +kernel
theorem dX11_beginsNode_234 : decode cX11_beginsNode 234 = .ok (.aload_n 0, 1) := by decide +kernel
theorem dX11_beginsNode_235 : decode cX11_beginsNode 235 = .ok (.aload_n 0, 1) := by decide +kernel
theorem dX11_beginsNode_236 : decode cX11_beginsNode 236 = .ok (.getfield 16, 3) := by decide +kernel
theorem dX11_beginsNode_239 : decode cX11_beginsNode 239 = .ok (.iload_n 1, 1) := by decide +kernel
theorem dX11_beginsNode_240 : decode cX11_beginsNode 240 = .ok (.iaload, 1) := by decide +kernel
theorem dX11_beginsNode_241 : decode cX11_beginsNode 241 = .ok (.iload_n 2, 1) := by decide +kernel
theorem dX11_beginsNode_242 : decode cX11_beginsNode 242 = .ok (.iconst 0, 1) := by decide +kernel
theorem dX11_beginsNode_243 : decode cX11_beginsNode 243 = .ok (.invokevirtual 273, 3) := by decide +kernel
theorem dX11_beginsNode_246 : decode cX11_beginsNode 246 = .ok (.goto 285, 3) := by decide +kernel
theorem dX11_beginsNode_249 : decode cX11_beginsNode 249 = .ok (.aload_n 0, 1) := by decide +kernel
theorem dX11_beginsNode_250 : decode cX11_beginsNode 250 = .ok (.iload_n 3, 1) := by decide +kernel
theorem dX11_beginsNode_251 : decode cX11_beginsNode 251 = .ok (.iload_n 2, 1) := by decide +kernel
theorem dX11_beginsNode_252 : decode cX11_beginsNode 252 = .ok (.aload_n 0, 1) := by decide +kernel
theorem dX11_beginsNode_253 : decode cX11_beginsNode 253 = .ok (.aload_n 0, 1) := by decide +kernel
theorem dX11_beginsNode_254 : decode cX11_beginsNode 254 = .ok (.getfield 199, 3) := by decide +kernel
theorem dX11_beginsNode_257 : decode cX11_beginsNode 257 = .ok (.invokevirtual 244, 3) := by decide +kernel
theorem dX11_beginsNode_260 : decode cX11_beginsNode 260 = .ok (.invokevirtual 205, 3) := by decide +kernel
theorem dX11_beginsNode_263 : decode cX11_beginsNode 263 = .ok (.goto 268, 3) := by decide +kernel
theorem dX11_beginsNode_266 : decode cX11_beginsNode 266 = .ok (.aload_n 0, 1) := by decide +kernel
theorem dX11_beginsNode_267 : decode cX11_beginsNode 267 = .ok (.aload_n 0, 1) := by decide +kernel
theorem dX11_beginsNode_268 : decode cX11_beginsNode 268 = .ok (.getfield 16, 3) := by decide +kernel
theorem dX11_beginsNode_271 : decode cX11_beginsNode 271 = .ok (.iload_n 1, 1) := by decide +kernel
theorem dX11_beginsNode_272 : decode cX11_beginsNode 272 = .ok (.iaload, 1) := by decide +kernel
theorem dX11_beginsNode_273 : decode cX11_beginsNode 273 = .ok (.iload_n 2, 1) := by decide +kernel
theorem dX11_beginsNode_274 : decode cX11_beginsNode 274 = .ok (.aload_n 0, 1) := by decide +kernel
theorem dX11_beginsNode_275 : decode cX11_beginsNode 275 = .ok (.aload_n 0, 1) := by decide +kernel
theorem dX11_beginsNode_276 : decode cX11_beginsNode 276 = .ok (.getfield 199, 3) := by decide +kernel
theorem dX11_beginsNode_279 : decode cX11_beginsNode 279 = .ok (.invokevirtual 244, 3) := by decide +kernel
theorem dX11_beginsNode_282 : decode cX11_beginsNode 282 = .ok (.invokevirtual 205, 3) := by decide +kernel
theorem dX11_beginsNode_285 : decode cX11_beginsNode 285 = .ok (.goto 246, 3) := by decide +kernel
theorem dX11_beginsNode_288 : decode cX11_beginsNode 288 = .ok (.aload_n 0, 1) := by decide +kernel
theorem dX11_beginsNode_289 : decode cX11_beginsNode 289 = .ok (.iload_n 2, 1) := by decide +kernel
theorem dX11_beginsNode_290 : decode cX11_beginsNode 290 = .ok (.iconst 4, 1) := by decide +kernel
theorem dX11_beginsNode_291 : decode cX11_beginsNode 291 = .ok (.iload_n 3, 1) := by decide +kernel
theorem dX11_beginsNode_292 : decode cX11_beginsNode 292 = .ok (.iconst 0, 1) := by decide +kernel
theorem dX11_beginsNode_293 : decode cX11_beginsNode 293 = .ok (.invokevirtual 285, 3) := by decide +kernel
theorem dX11_beginsNode_296 : decode cX11_beginsNode 296 = .ok (.goto 235, 3) := by decide +kernel
theorem dX11_beginsNode_299 : decode cX11_beginsNode 299 = .ok (.aload_n 0, 1) := by decide +kernel
theorem dX11_beginsNode_300 : decode cX11_beginsNode 300 = .ok (.getfield 96, 3) := by decide +kernel
theorem dX11_beginsNode_303 : decode cX11_beginsNode 303 = .ok (.aload_n 0, 1) := by decide +kernel
theorem dX11_beginsNode_304 : decode cX11_beginsNode 304 = .ok (.getfield 289, 3) := by decide +kernel
theorem dX11_beginsNode_307 : decode cX11_beginsNode 307 = .ok (.iload_n 1, 1) := by decide +kernel
theorem dX11_beginsNode_308 : decode cX11_beginsNode 308 = .ok (.iastore, 1) := by decide +kernel
theorem dX11_beginsNode_309 : decode cX11_beginsNode 309 = .ok (.aload_n 0, 1) := by decide +kernel
theorem dX11_beginsNode_310 : decode cX11_beginsNode 310 = .ok (.getfield 99, 3) := by decide +kernel
theorem dX11_beginsNode_313 : decode cX11_beginsNode 313 = .ok (.aload_n 0, 1) := by decide +kernel
theorem dX11_beginsNode_314 : decode cX11_beginsNode 314 = .ok (.getfield 289, 3) := by decide +kernel
theorem dX11_beginsNode_317 : decode cX11_beginsNode 317 = .ok (.aload_n 0, 1) := by decide +kernel
theorem dX11_beginsNode_318 : decode cX11_beginsNode 318 = .ok (.getfield 199, 3) := by decide +kernel
theorem dX11_beginsNode_321 : decode cX11_beginsNode 321 = .ok (.iastore, 1) := by decide +kernel
theorem dX11_beginsNode_322 : decode cX11_beginsNode 322 = .ok (.aload_n 0, 1) := by decide +kernel
theorem dX11_beginsNode_323 : decode cX11_beginsNode 323 = .ok (.dup, 1) := by decide +kernel
theorem dX11_beginsNode_324 : decode cX11_beginsNode 324 = .ok (.getfield 289, 3) := by decide +kernel
theorem dX11_beginsNode_327 : decode cX11_beginsNode 327 = .ok (.iconst 1, 1) := by decide +kernel
theorem dX11_beginsNode_328 : decode cX11_beginsNode 328 = .ok (.iadd, 1) := by decide +kernel
theorem dX11_beginsNode_329 : decode cX11_beginsNode 329 = .ok (.putfield 289, 3) := by decide +kernel
theorem dX11_beginsNode_332 : decode cX11_beginsNode 332 = .ok (.aload_n 0, 1) := by decide +kernel
theorem dX11_beginsNode_333 : decode cX11_beginsNode 333 = .ok (.iload_n 2, 1) := by decide +kernel
theorem dX11_beginsNode_334 : decode cX11_beginsNode 334 = .ok (.sipush 20000, 3) := by decide +kernel
theorem dX11_beginsNode_337 : decode cX11_beginsNode 337 = .ok (.aload_n 0, 1) := by decide +kernel
theorem dX11_beginsNode_338 : decode cX11_beginsNode 338 = .ok (.getfield 289, 3) := by decide +kernel
theorem dX11_beginsNode_341 : decode cX11_beginsNode 341 = .ok (.iadd, 1) := by decide +kernel
theorem dX11_beginsNode_342 : decode cX11_beginsNode 342 = .ok (.iconst 1, 1) := by decide +kernel
theorem dX11_beginsNode_343 : decode cX11_beginsNode 343 = .ok (.isub, 1) := by decide +kernel
theorem dX11_beginsNode_344 : decode cX11_beginsNode 344 = .ok (.invokevirtual 262, 3) := by decide +kernel
theorem dX11_beginsNode_347 : decode cX11_beginsNode 347 = .ok (.goto 184, 3) := by decide +kernel
theorem dX11_beginsNode_350 : decode cX11_beginsNode 350 = .ok (.aload_n 0, 1) := by decide +kernel
theorem dX11_beginsNode_351 : decode cX11_beginsNode 351 = .ok (.getfield 102, 3) := by decide +kernel
theorem dX11_beginsNode_354 : decode cX11_beginsNode 354 = .ok (.aload_n 0, 1) := by decide +kernel
theorem dX11_beginsNode_355 : decode cX11_beginsNode 355 = .ok (.getfield 292, 3) := by decide +kernel
theorem dX11_beginsNode_358 : decode cX11_beginsNode 358 = .ok (.iload_n 1, 1) := by decide +kernel
theorem dX11_beginsNode_359 : decode cX11_beginsNode 359 = .ok (.iastore, 1) := by decide +kernel
theorem dX11_beginsNode_360 : decode cX11_beginsNode 360 = .ok (.aload_n 0, 1) := by decide +kernel
theorem dX11_beginsNode_361 : decode cX11_beginsNode 361 = .ok (.getfield 105, 3) := by decide +kernel
theorem dX11_beginsNode_364 : decode cX11_beginsNode 364 = .ok (.aload_n 0, 1) := by decide +kernel
theorem dX11_beginsNode_365 : decode cX11_beginsNode 365 = .ok (.getfield 292, 3) := by decide +kernel
theorem dX11_beginsNode_368 : decode cX11_beginsNode 368 = .ok (.aload_n 0, 1) := by decide +kernel
theorem dX11_beginsNode_369 : decode cX11_beginsNode 369 = .ok (.getfield 199, 3) := by decide +kernel
theorem dX11_beginsNode_372 : decode cX11_beginsNode 372 = .ok (.iastore, 1) := by decide +kernel
theorem dX11_beginsNode_373 : decode cX11_beginsNode 373 = .ok (.aload_n 0, 1) := by decide +kernel
theorem dX11_beginsNode_374 : decode cX11_beginsNode 374 = .ok (.getfield 108, 3) := by decide +kernel
theorem dX11_beginsNode_377 : decode cX11_beginsNode 377 = .ok (.aload_n 0, 1) := by decide +kernel
theorem dX11_beginsNode_378 : decode cX11_beginsNode 378 = .ok (.getfield 292, 3) := by decide +kernel
theorem dX11_beginsNode_381 : decode cX11_beginsNode 381 = .ok (.iconst 0, 1) := by decide +kernel
theorem dX11_beginsNode_382 : decode cX11_beginsNode 382 = .ok (.iastore, 1) := by decide +kernel
theorem dX11_beginsNode_383 : decode cX11_beginsNode 383 = .ok (.aload_n 0, 1) := by decide +kernel
theorem dX11_beginsNode_384 : decode cX11_beginsNode 384 = .ok (.dup, 1) := by decide +kernel
theorem dX11_beginsNode_385 : decode cX11_beginsNode 385 = .ok (.getfield 292, 3) := by decide +kernel
theorem dX11_beginsNode_388 : decode cX11_beginsNode 388 = .ok (.iconst 1, 1) := by decide +kernel
theorem dX11_beginsNode_389 : decode cX11_beginsNode 389 = .ok (.iadd, 1) := by decide +kernel
theorem dX11_beginsNode_390 : decode cX11_beginsNode 390 = .ok (.putfield 292, 3) := by decide +kernel
theorem dX11_beginsNode_393 : decode cX11_beginsNode 393 = .ok (.aload_n 0, 1) := by decide +kernel
theorem dX11_beginsNode_394 : decode cX11_beginsNode 394 = .ok (.iload_n 2, 1) := by decide +kernel
theorem dX11_beginsNode_395 : decode cX11_beginsNode 395 = .ok (.sipush 30000, 3) := by decide +kernel
theorem dX11_beginsNode_398 : decode cX11_beginsNode 398 = .ok (.aload_n 0, 1) := by decide +kernel
theorem dX11_beginsNode_399 : decode cX11_beginsNode 399 = .ok (.getfield 292, 3) := by decide +kernel
theorem dX11_beginsNode_402 : decode cX11_beginsNode 402 = .ok (.iadd, 1) := by decide +kernel
theorem dX11_beginsNode_403 : decode cX11_beginsNode 403 = .ok (.iconst 1, 1) := by decide +kernel
theorem dX11_beginsNode_404 : decode cX11_beginsNode 404 = .ok (.isub, 1) := by decide +kernel
theorem dX11_beginsNode_405 : decode cX11_beginsNode 405 = .ok (.invokevirtual 262, 3) := by decide +kernel
theorem dX11_beginsNode_408 : decode cX11_beginsNode 408 = .ok (.goto 123, 3) := by decide +kernel
theorem dX11_beginsNode_411 : decode cX11_beginsNode 411 = .ok (.aload_n 0, 1) := by decide +kernel
theorem dX11_beginsNode_412 : decode cX11_beginsNode 412 = .ok (.iload_n 2, 1) := by decide +kernel
theorem dX11_beginsNode_413 : decode cX11_beginsNode 413 = .ok (.iload_n 3, 1) := by decide +kernel
theorem dX11_beginsNode_414 : decode cX11_beginsNode 414 = .ok (.aload_n 0, 1) := by decide +kernel
theorem dX11_beginsNode_415 : decode cX11_beginsNode 415 = .ok (.getfield 16, 3) := by decide +kernel
theorem dX11_beginsNode_418 : decode cX11_beginsNode 418 = .ok (.iload_n 1, 1) := by decide +kernel
theorem dX11_beginsNode_419 : decode cX11_beginsNode 419 = .ok (.iaload, 1) := by decide +kernel
theorem dX11_beginsNode_420 : decode cX11_beginsNode 420 = .ok (.invokevirtual 295, 3) := by decide +kernel
theorem dX11_beginsNode_423 : decode cX11_beginsNode 423 = .ok (.goto 108, 3) := by decide +kernel
theorem dX11_beginsNode_426 : decode cX11_beginsNode 426 = .ok (.aload_n 0, 1) := by decide +kernel
theorem dX11_beginsNode_427 : decode cX11_beginsNode 427 = .ok (.iload_n 2, 1) := by decide +kernel
theorem dX11_beginsNode_428 : decode cX11_beginsNode 428 = .ok (.aload_n 0, 1) := by decide +kernel
theorem dX11_beginsNode_429 : decode cX11_beginsNode 429 = .ok (.getfield 38, 3) := by decide +kernel
theorem dX11_beginsNode_432 : decode cX11_beginsNode 432 = .ok (.iload_n 3, 1) := by decide +kernel
theorem dX11_beginsNode_433 : decode cX11_beginsNode 433 = .ok (.iaload, 1) := by decide +kernel
theorem dX11_beginsNode_434 : decode cX11_beginsNode 434 = .ok (.invokevirtual 262, 3) := by decide +kernel
theorem dX11_beginsNode_437 : decode cX11_beginsNode 437 = .ok (.goto 94, 3) := by decide +kernel
theorem dX11_beginsNode_440 : decode cX11_beginsNode 440 = .ok (.aload_n 0, 1) := by decide +kernel
theorem dX11_beginsNode_441 : decode cX11_beginsNode 441 = .ok (.iload_n 2, 1) := by decide +kernel
theorem dX11_beginsNode_442 : decode cX11_beginsNode 442 = .ok (.iload_n 3, 1) := by decide +kernel
theorem dX11_beginsNode_443 : decode cX11_beginsNode 443 = .ok (.aload_n 0, 1) := by decide +kernel
theorem dX11_beginsNode_444 : decode cX11_beginsNode 444 = .ok (.getfield 16, 3) := by decide +kernel
theorem dX11_beginsNode_447 : decode cX11_beginsNode 447 = .ok (.iload_n 1, 1) := by decide +kernel
theorem dX11_beginsNode_448 : decode cX11_beginsNode 448 = .ok (.iaload, 1) := by decide +kernel
theorem dX11_beginsNode_449 : decode cX11_beginsNode 449 = .ok (.invokevirtual 298, 3) := by decide +kernel
theorem dX11_beginsNode_452 : decode cX11_beginsNode 452 = .ok (.goto 79, 3) := by decide +kernel
theorem dX11_beginsNode_455 : decode cX11_beginsNode 455 = .ok (.aload_n 0, 1) := by decide +kernel
theorem dX11_beginsNode_456 : decode cX11_beginsNode 456 = .ok (.iload_n 3, 1) := by decide +kernel
theorem dX11_beginsNode_457 : decode cX11_beginsNode 457 = .ok (.putfield 44, 3) := by decide +kernel
theorem dX11_beginsNode_460 : decode cX11_beginsNode 460 = .ok (.aload_n 0, 1) := by decide +kernel
theorem dX11_beginsNode_461 : decode cX11_beginsNode 461 = .ok (.iload_n 2, 1) := by decide +kernel
theorem dX11_beginsNode_462 : decode cX11_beginsNode 462 = .ok (.iconst 0, 1) := by decide +kernel
theorem dX11_beginsNode_463 : decode cX11_beginsNode 463 = .ok (.invokevirtual 262, 3) := by decide +kernel
theorem dX11_beginsNode_466 : decode cX11_beginsNode 466 = .ok (.goto 65, 3) := by decide +kernel
theorem dX11_beginsNode_469 : decode cX11_beginsNode 469 = .ok (.aload_n 0, 1) := by decide +kernel
theorem dX11_beginsNode_470 : decode cX11_beginsNode 470 = .ok (.iload_n 2, 1) := by decide +kernel
theorem dX11_beginsNode_471 : decode cX11_beginsNode 471 = .ok (.aload_n 0, 1) := by decide +kernel
theorem dX11_beginsNode_472 : decode cX11_beginsNode 472 = .ok (.getfield 7, 3) := by decide +kernel
theorem dX11_beginsNode_475 : decode cX11_beginsNode 475 = .ok (.iload_n 1, 1) := by decide +kernel
theorem dX11_beginsNode_476 : decode cX11_beginsNode 476 = .ok (.iaload, 1) := by decide +kernel
theorem dX11_beginsNode_477 : decode cX11_beginsNode 477 = .ok (.invokevirtual 301, 3) := by decide +kernel
theorem dX11_beginsNode_480 : decode cX11_beginsNode 480 = .ok (.goto 51, 3) := by decide +kernel
theorem dX11_beginsNode_483 : decode cX11_beginsNode 483 = .ok (.aload_n 0, 1) := by decide +kernel
theorem dX11_beginsNode_484 : decode cX11_beginsNode 484 = .ok (.getfield 81, 3) := by decide +kernel
theorem dX11_beginsNode_487 : decode cX11_beginsNode 487 = .ok (.iload_n 2, 1) := by decide +kernel
theorem dX11_beginsNode_488 : decode cX11_beginsNode 488 = .ok (.aload_n 0, 1) := by decide +kernel
theorem dX11_beginsNode_489 : decode cX11_beginsNode 489 = .ok (.invokevirtual 304, 3) := by decide +kernel
theorem dX11_beginsNode_492 : decode cX11_beginsNode 492 = .ok (.iastore, 1) := by decide +kernel
theorem dX11_beginsNode_493 : decode cX11_beginsNode 493 = .ok (.aload_n 0, 1) := by decide +kernel
theorem dX11_beginsNode_494 : decode cX11_beginsNode 494 = .ok (.getfield 84, 3) := by decide +kernel
theorem dX11_beginsNode_497 : decode cX11_beginsNode 497 = .ok (.iload_n 2, 1) := by decide +kernel
theorem dX11_beginsNode_498 : decode cX11_beginsNode 498 = .ok (.bipush 8, 2) := by decide +kernel
theorem dX11_beginsNode_500 : decode cX11_beginsNode 500 = .ok (.aload_n 0, 1) := by decide +kernel
theorem dX11_beginsNode_501 : decode cX11_beginsNode 501 = .ok (.getfield 180, 3) := by decide +kernel
theorem dX11_beginsNode_504 : decode cX11_beginsNode 504 = .ok (.imul, 1) := by decide +kernel
theorem dX11_beginsNode_505 : decode cX11_beginsNode 505 = .ok (.aload_n 0, 1) := by decide +kernel
theorem dX11_beginsNode_506 : decode cX11_beginsNode 506 = .ok (.getfield 60, 3) := by decide +kernel
theorem dX11_beginsNode_509 : decode cX11_beginsNode 509 = .ok (.aload_n 0, 1) := by decide +kernel
theorem dX11_beginsNode_510 : decode cX11_beginsNode 510 = .ok (.getfield 180, 3) := by decide +kernel
theorem dX11_beginsNode_513 : decode cX11_beginsNode 513 = .ok (.iaload, 1) := by decide +kernel
theorem dX11_beginsNode_514 : decode cX11_beginsNode 514 = .ok (.iadd, 1) := by decide +kernel
theorem dX11_beginsNode_515 : decode cX11_beginsNode 515 = .ok (.iastore, 1) := by decide +kernel
theorem dX11_beginsNode_516 : decode cX11_beginsNode 516 = .ok (.aload_n 0, 1) := by decide +kernel
theorem dX11_beginsNode_517 : decode cX11_beginsNode 517 = .ok (.iload_n 2, 1) := by decide +kernel
theorem dX11_beginsNode_518 : decode cX11_beginsNode 518 = .ok (.invokevirtual 307, 3) := by decide +kernel
theorem dX11_beginsNode_521 : decode cX11_beginsNode 521 = .ok (.goto 10, 3) := by decide +kernel
theorem dX11_beginsNode_524 : decode cX11_beginsNode 524 = .ok (.aload_n 0, 1) := by decide +kernel
theorem dX11_beginsNode_525 : decode cX11_beginsNode 525 = .ok (.iload_n 3, 1) := by decide +kernel
theorem dX11_beginsNode_526 : decode cX11_beginsNode 526 = .ok (.iload_n 2, 1) := by decide +kernel
theorem dX11_beginsNode_527 : decode cX11_beginsNode 527 = .ok (.iconst 0, 1) := by decide +kernel
theorem dX11_beginsNode_528 : decode cX11_beginsNode 528 = .ok (.invokevirtual 273, 3) := by decide +kernel
theorem dX11_beginsNode_531 : decode cX11_beginsNode 531 = .ok (.return_, 1) := by decide +kernel
theorem dX11_names_0 : decode cX11_names 0 = .ok (.iload_n 2, 1) := by decide +kernel
theorem dX11_names_1 : decode cX11_names 1 = .ok (.iconst (-1), 1) := by decide +kernel
theorem dX11_names_2 : decode cX11_names 2 = .ok (.if_icmp .ne 12, 3) := by decide +kernel
theorem dX11_names_5 : decode cX11_names 5 = .ok (.aload_n 0, 1) := by decide +kernel
theorem dX11_names_6 : decode cX11_names 6 = .ok (.iload_n 1, 1) := by decide +kernel
theorem dX11_names_7 : decode cX11_names 7 = .ok (.iconst (-1), 1) := by decide +kernel
theorem dX11_names_8 : decode cX11_names 8 = .ok (.invokevirtual 237, 3) := by decide +kernel
theorem dX11_names_11 : decode cX11_names 11 = .ok (.goto 14, 3) := by decide +kernel
theorem dX11_names_14 : decode cX11_names 14 = .ok (.aload_n 0, 1) := by decide +kernel
theorem dX11_names_15 : decode cX11_names 15 = .ok (.iload_n 1, 1) := by decide +kernel
theorem dX11_names_16 : decode cX11_names 16 = .ok (.aload_n 0, 1) := by decide +kernel
theorem dX11_names_17 : decode cX11_names 17 = .ok (.getfield 93, 3) := by decide +kernel
theorem dX11_names_20 : decode cX11_names 20 = .ok (.iload_n 2, 1) := by decide +kernel
theorem dX11_names_21 : decode cX11_names 21 = .ok (.iaload, 1) := by decide +kernel
theorem dX11_names_22 : decode cX11_names 22 = .ok (.invokevirtual 262, 3) := by decide +kernel
theorem dX11_names_25 : decode cX11_names 25 = .ok (.return_, 1) := by decide +kernel
theorem dX11_beginsCall_0 : decode cX11_beginsCall 0 = .ok (.iload_n 3, 1) := by decide +kernel
theorem dX11_beginsCall_1 : decode cX11_beginsCall 1 = .ok (.iconst (-1), 1) := by decide +kernel
theorem dX11_beginsCall_2 : decode cX11_beginsCall 2 = .ok (.if_icmp .ne 15, 3) := by decide +kernel
theorem dX11_beginsCall_5 : decode cX11_beginsCall 5 = .ok (.aload_n 0, 1) := by decide +kernel
theorem dX11_beginsCall_6 : decode cX11_beginsCall 6 = .ok (.iload_n 1, 1) := by decide +kernel
theorem dX11_beginsCall_7 : decode cX11_beginsCall 7 = .ok (.iload_n 2, 1) := by decide +kernel
theorem dX11_beginsCall_8 : decode cX11_beginsCall 8 = .ok (.iconst 0, 1) := by decide +kernel
theorem dX11_beginsCall_9 : decode cX11_beginsCall 9 = .ok (.iconst 0, 1) := by decide +kernel
theorem dX11_beginsCall_10 : decode cX11_beginsCall 10 = .ok (.iconst 0, 1) := by decide +kernel
theorem dX11_beginsCall_11 : decode cX11_beginsCall 11 = .ok (.invokevirtual 269, 3) := by decide +kernel
theorem dX11_beginsCall_14 : decode cX11_beginsCall 14 = .ok (.goto 10, 3) := by decide +kernel
theorem dX11_beginsCall_17 : decode cX11_beginsCall 17 = .ok (.aload_n 0, 1) := by decide +kernel
theorem dX11_beginsCall_18 : decode cX11_beginsCall 18 = .ok (.iload_n 3, 1) := by decide +kernel
theorem dX11_beginsCall_19 : decode cX11_beginsCall 19 = .ok (.iload_n 1, 1) := by decide +kernel
theorem dX11_beginsCall_20 : decode cX11_beginsCall 20 = .ok (.iconst 0, 1) := by decide +kernel
theorem dX11_beginsCall_21 : decode cX11_beginsCall 21 = .ok (.invokevirtual 273, 3) := by decide +kernel
theorem dX11_beginsCall_24 : decode cX11_beginsCall 24 = .ok (.return_, 1) := by decide +kernel
theorem dX11_reloads_0 : decode cX11_reloads 0 = .ok (.aload_n 0, 1) := by decide +kernel
theorem dX11_reloads_1 : decode cX11_reloads 1 = .ok (.getfield 32, 3) := by decide +kernel
theorem dX11_reloads_4 : decode cX11_reloads 4 = .ok (.iload_n 2, 1) := by decide +kernel
theorem dX11_reloads_5 : decode cX11_reloads 5 = .ok (.iaload, 1) := by decide +kernel
theorem dX11_reloads_6 : decode cX11_reloads 6 = .ok (.iconst (-1), 1) := by decide +kernel
theorem dX11_reloads_7 : decode cX11_reloads 7 = .ok (.if_icmp .ne 12, 3) := by decide +kernel
theorem dX11_reloads_10 : decode cX11_reloads 10 = .ok (.aload_n 0, 1) := by decide +kernel
theorem dX11_reloads_11 : decode cX11_reloads 11 = .ok (.iload_n 1, 1) := by decide +kernel
theorem dX11_reloads_12 : decode cX11_reloads 12 = .ok (.iconst (-1), 1) := by decide +kernel
theorem dX11_reloads_13 : decode cX11_reloads 13 = .ok (.invokevirtual 237, 3) := by decide +kernel
theorem dX11_reloads_16 : decode cX11_reloads 16 = .ok (.goto 16, 3) := by decide +kernel
theorem dX11_reloads_19 : decode cX11_reloads 19 = .ok (.aload_n 0, 1) := by decide +kernel
theorem dX11_reloads_20 : decode cX11_reloads 20 = .ok (.getfield 32, 3) := by decide +kernel
theorem dX11_reloads_23 : decode cX11_reloads 23 = .ok (.iload_n 2, 1) := by decide +kernel
theorem dX11_reloads_24 : decode cX11_reloads 24 = .ok (.iload_n 3, 1) := by decide +kernel
theorem dX11_reloads_25 : decode cX11_reloads 25 = .ok (.iastore, 1) := by decide +kernel
theorem dX11_reloads_26 : decode cX11_reloads 26 = .ok (.aload_n 0, 1) := by decide +kernel
theorem dX11_reloads_27 : decode cX11_reloads 27 = .ok (.iload_n 1, 1) := by decide +kernel
theorem dX11_reloads_28 : decode cX11_reloads 28 = .ok (.iconst 0, 1) := by decide +kernel
theorem dX11_reloads_29 : decode cX11_reloads 29 = .ok (.invokevirtual 262, 3) := by decide +kernel
theorem dX11_reloads_32 : decode cX11_reloads 32 = .ok (.return_, 1) := by decide +kernel
theorem dX11_looks_0 : decode cX11_looks 0 = .ok (.iload_n 2, 1) := by decide +kernel
theorem dX11_looks_1 : decode cX11_looks 1 = .ok (.bipush 30, 2) := by decide +kernel
theorem dX11_looks_3 : decode cX11_looks 3 = .ok (.if_icmp .ne 20, 3) := by decide +kernel
theorem dX11_looks_6 : decode cX11_looks 6 = .ok (.aload_n 0, 1) := by decide +kernel
theorem dX11_looks_7 : decode cX11_looks 7 = .ok (.invokevirtual 255, 3) := by decide +kernel
theorem dX11_looks_10 : decode cX11_looks 10 = .ok (.ifCond .ne 13, 3) := by decide +kernel
theorem dX11_looks_13 : decode cX11_looks 13 = .ok (.aload_n 0, 1) := by decide +kernel
theorem dX11_looks_14 : decode cX11_looks 14 = .ok (.iload_n 1, 1) := by decide +kernel
theorem dX11_looks_15 : decode cX11_looks 15 = .ok (.bipush (-4), 2) := by decide +kernel
theorem dX11_looks_17 : decode cX11_looks 17 = .ok (.invokevirtual 237, 3) := by decide +kernel
theorem dX11_looks_20 : decode cX11_looks 20 = .ok (.goto 56, 3) := by decide +kernel
theorem dX11_looks_23 : decode cX11_looks 23 = .ok (.aload_n 0, 1) := by decide +kernel
theorem dX11_looks_24 : decode cX11_looks 24 = .ok (.iload_n 1, 1) := by decide +kernel
theorem dX11_looks_25 : decode cX11_looks 25 = .ok (.iload_n 2, 1) := by decide +kernel
theorem dX11_looks_26 : decode cX11_looks 26 = .ok (.bipush 30, 2) := by decide +kernel
theorem dX11_looks_28 : decode cX11_looks 28 = .ok (.if_icmp .ne 10, 3) := by decide +kernel
theorem dX11_looks_31 : decode cX11_looks 31 = .ok (.aload_n 0, 1) := by decide +kernel
theorem dX11_looks_32 : decode cX11_looks 32 = .ok (.invokevirtual 310, 3) := by decide +kernel
theorem dX11_looks_35 : decode cX11_looks 35 = .ok (.goto 38, 3) := by decide +kernel
theorem dX11_looks_38 : decode cX11_looks 38 = .ok (.iload_n 2, 1) := by decide +kernel
theorem dX11_looks_39 : decode cX11_looks 39 = .ok (.bipush 32, 2) := by decide +kernel
theorem dX11_looks_41 : decode cX11_looks 41 = .ok (.if_icmp .ne 10, 3) := by decide +kernel
theorem dX11_looks_44 : decode cX11_looks 44 = .ok (.aload_n 0, 1) := by decide +kernel
theorem dX11_looks_45 : decode cX11_looks 45 = .ok (.invokevirtual 255, 3) := by decide +kernel
theorem dX11_looks_48 : decode cX11_looks 48 = .ok (.goto 25, 3) := by decide +kernel
theorem dX11_looks_51 : decode cX11_looks 51 = .ok (.iload_n 2, 1) := by decide +kernel
theorem dX11_looks_52 : decode cX11_looks 52 = .ok (.bipush 33, 2) := by decide +kernel
theorem dX11_looks_54 : decode cX11_looks 54 = .ok (.if_icmp .ne 10, 3) := by decide +kernel
theorem dX11_looks_57 : decode cX11_looks 57 = .ok (.aload_n 0, 1) := by decide +kernel
theorem dX11_looks_58 : decode cX11_looks 58 = .ok (.invokevirtual 313, 3) := by decide +kernel
theorem dX11_looks_61 : decode cX11_looks 61 = .ok (.goto 12, 3) := by decide +kernel
theorem dX11_looks_64 : decode cX11_looks 64 = .ok (.aload_n 0, 1) := by decide +kernel
theorem dX11_looks_65 : decode cX11_looks 65 = .ok (.getfield 54, 3) := by decide +kernel
theorem dX11_looks_68 : decode cX11_looks 68 = .ok (.aload_n 0, 1) := by decide +kernel
theorem dX11_looks_69 : decode cX11_looks 69 = .ok (.getfield 180, 3) := by decide +kernel
theorem dX11_looks_72 : decode cX11_looks 72 = .ok (.iaload, 1) := by decide +kernel
theorem dX11_looks_73 : decode cX11_looks 73 = .ok (.invokevirtual 262, 3) := by decide +kernel
theorem dX11_looks_76 : decode cX11_looks 76 = .ok (.return_, 1) := by decide +kernel
theorem dX11_leavesTo_0 : decode cX11_leavesTo 0 = .ok (.aload_n 0, 1) := by decide +kernel
theorem dX11_leavesTo_1 : decode cX11_leavesTo 1 = .ok (.iload_n 1, 1) := by decide +kernel
theorem dX11_leavesTo_2 : decode cX11_leavesTo 2 = .ok (.iload_n 3, 1) := by decide +kernel
theorem dX11_leavesTo_3 : decode cX11_leavesTo 3 = .ok (.invokevirtual 316, 3) := by decide +kernel
theorem dX11_leavesTo_6 : decode cX11_leavesTo 6 = .ok (.ifCond .eq 15, 3) := by decide +kernel
theorem dX11_leavesTo_9 : decode cX11_leavesTo 9 = .ok (.aload_n 0, 1) := by decide +kernel
theorem dX11_leavesTo_10 : decode cX11_leavesTo 10 = .ok (.iload_n 1, 1) := by decide +kernel
theorem dX11_leavesTo_11 : decode cX11_leavesTo 11 = .ok (.iload_n 2, 1) := by decide +kernel
theorem dX11_leavesTo_12 : decode cX11_leavesTo 12 = .ok (.iload_n 3, 1) := by decide +kernel
theorem dX11_leavesTo_13 : decode cX11_leavesTo 13 = .ok (.iload 4, 2) := by decide +kernel
theorem dX11_leavesTo_15 : decode cX11_leavesTo 15 = .ok (.invokevirtual 319, 3) := by decide +kernel
theorem dX11_leavesTo_18 : decode cX11_leavesTo 18 = .ok (.goto 10, 3) := by decide +kernel
theorem dX11_leavesTo_21 : decode cX11_leavesTo 21 = .ok (.aload_n 0, 1) := by decide +kernel
theorem dX11_leavesTo_22 : decode cX11_leavesTo 22 = .ok (.iload_n 1, 1) := by decide +kernel
theorem dX11_leavesTo_23 : decode cX11_leavesTo 23 = .ok (.bipush (-6), 2) := by decide +kernel
theorem dX11_leavesTo_25 : decode cX11_leavesTo 25 = .ok (.invokevirtual 237, 3) := by decide +kernel
theorem dX11_leavesTo_28 : decode cX11_leavesTo 28 = .ok (.return_, 1) := by decide +kernel
theorem dX11_makes_0 : decode cX11_makes 0 = .ok (.iload_n 0, 1) := by decide +kernel
theorem dX11_makes_1 : decode cX11_makes 1 = .ok (.tableswitch 56 4 7 #[31, 38, 45, 52], 31) := by decide +kernel
theorem dX11_makes_32 : decode cX11_makes 32 = .ok (.iload_n 1, 1) := by decide +kernel
theorem dX11_makes_33 : decode cX11_makes 33 = .ok (.iload_n 2, 1) := by decide +kernel
theorem dX11_makes_34 : decode cX11_makes 34 = .ok (.iadd, 1) := by decide +kernel
theorem dX11_makes_35 : decode cX11_makes 35 = .ok (.invokestatic 322, 3) := by decide +kernel
theorem dX11_makes_38 : decode cX11_makes 38 = .ok (.ireturn, 1) := by decide +kernel
theorem dX11_makes_39 : decode cX11_makes 39 = .ok (.iload_n 1, 1) := by decide +kernel
theorem dX11_makes_40 : decode cX11_makes 40 = .ok (.iload_n 2, 1) := by decide +kernel
theorem dX11_makes_41 : decode cX11_makes 41 = .ok (.isub, 1) := by decide +kernel
theorem dX11_makes_42 : decode cX11_makes 42 = .ok (.invokestatic 322, 3) := by decide +kernel
theorem dX11_makes_45 : decode cX11_makes 45 = .ok (.ireturn, 1) := by decide +kernel
theorem dX11_makes_46 : decode cX11_makes 46 = .ok (.iload_n 1, 1) := by decide +kernel
theorem dX11_makes_47 : decode cX11_makes 47 = .ok (.iload_n 2, 1) := by decide +kernel
theorem dX11_makes_48 : decode cX11_makes 48 = .ok (.imul, 1) := by decide +kernel
theorem dX11_makes_49 : decode cX11_makes 49 = .ok (.invokestatic 322, 3) := by decide +kernel
theorem dX11_makes_52 : decode cX11_makes 52 = .ok (.ireturn, 1) := by decide +kernel
theorem dX11_makes_53 : decode cX11_makes 53 = .ok (.iload_n 1, 1) := by decide +kernel
theorem dX11_makes_54 : decode cX11_makes 54 = .ok (.iload_n 2, 1) := by decide +kernel
theorem dX11_makes_55 : decode cX11_makes 55 = .ok (.idiv, 1) := by decide +kernel
theorem dX11_makes_56 : decode cX11_makes 56 = .ok (.ireturn, 1) := by decide +kernel
theorem dX11_makes_57 : decode cX11_makes 57 = .ok (.iload_n 1, 1) := by decide +kernel
theorem dX11_makes_58 : decode cX11_makes 58 = .ok (.iload_n 2, 1) := by decide +kernel
theorem dX11_makes_59 : decode cX11_makes 59 = .ok (.if_icmp .ge 7, 3) := by decide +kernel
theorem dX11_makes_62 : decode cX11_makes 62 = .ok (.iconst 1, 1) := by decide +kernel
theorem dX11_makes_63 : decode cX11_makes 63 = .ok (.goto 4, 3) := by decide +kernel
theorem dX11_makes_66 : decode cX11_makes 66 = .ok (.iconst 0, 1) := by decide +kernel
theorem dX11_makes_67 : decode cX11_makes 67 = .ok (.ireturn, 1) := by decide +kernel
theorem dX11_reckons_0 : decode cX11_reckons 0 = .ok (.iload_n 2, 1) := by decide +kernel
theorem dX11_reckons_1 : decode cX11_reckons 1 = .ok (.bipush 9, 2) := by decide +kernel
theorem dX11_reckons_3 : decode cX11_reckons 3 = .ok (.if_icmp .ne 22, 3) := by decide +kernel
theorem dX11_reckons_6 : decode cX11_reckons 6 = .ok (.aload_n 0, 1) := by decide +kernel
theorem dX11_reckons_7 : decode cX11_reckons 7 = .ok (.iload_n 1, 1) := by decide +kernel
theorem dX11_reckons_8 : decode cX11_reckons 8 = .ok (.iload_n 3, 1) := by decide +kernel
theorem dX11_reckons_9 : decode cX11_reckons 9 = .ok (.iload 4, 2) := by decide +kernel
theorem dX11_reckons_11 : decode cX11_reckons 11 = .ok (.if_icmp .ne 7, 3) := by decide +kernel
theorem dX11_reckons_14 : decode cX11_reckons 14 = .ok (.iconst 1, 1) := by decide +kernel
theorem dX11_reckons_15 : decode cX11_reckons 15 = .ok (.goto 4, 3) := by decide +kernel
theorem dX11_reckons_18 : decode cX11_reckons 18 = .ok (.iconst 0, 1) := by decide +kernel
theorem dX11_reckons_19 : decode cX11_reckons 19 = .ok (.invokevirtual 262, 3) := by decide +kernel
theorem dX11_reckons_22 : decode cX11_reckons 22 = .ok (.goto 61, 3) := by decide +kernel
theorem dX11_reckons_25 : decode cX11_reckons 25 = .ok (.iload_n 3, 1) := by decide +kernel
theorem dX11_reckons_26 : decode cX11_reckons 26 = .ok (.invokestatic 324, 3) := by decide +kernel
theorem dX11_reckons_29 : decode cX11_reckons 29 = .ok (.ifCond .eq 11, 3) := by decide +kernel
theorem dX11_reckons_32 : decode cX11_reckons 32 = .ok (.iload 4, 2) := by decide +kernel
theorem dX11_reckons_34 : decode cX11_reckons 34 = .ok (.invokestatic 324, 3) := by decide +kernel
theorem dX11_reckons_37 : decode cX11_reckons 37 = .ok (.ifCond .ne 13, 3) := by decide +kernel
theorem dX11_reckons_40 : decode cX11_reckons 40 = .ok (.aload_n 0, 1) := by decide +kernel
theorem dX11_reckons_41 : decode cX11_reckons 41 = .ok (.iload_n 1, 1) := by decide +kernel
theorem dX11_reckons_42 : decode cX11_reckons 42 = .ok (.bipush (-3), 2) := by decide +kernel
theorem dX11_reckons_44 : decode cX11_reckons 44 = .ok (.invokevirtual 237, 3) := by decide +kernel
theorem dX11_reckons_47 : decode cX11_reckons 47 = .ok (.goto 36, 3) := by decide +kernel
theorem dX11_reckons_50 : decode cX11_reckons 50 = .ok (.iload_n 2, 1) := by decide +kernel
theorem dX11_reckons_51 : decode cX11_reckons 51 = .ok (.bipush 7, 2) := by decide +kernel
theorem dX11_reckons_53 : decode cX11_reckons 53 = .ok (.if_icmp .ne 18, 3) := by decide +kernel
theorem dX11_reckons_56 : decode cX11_reckons 56 = .ok (.iload 4, 2) := by decide +kernel
theorem dX11_reckons_58 : decode cX11_reckons 58 = .ok (.ifCond .ne 13, 3) := by decide +kernel
theorem dX11_reckons_61 : decode cX11_reckons 61 = .ok (.aload_n 0, 1) := by decide +kernel
theorem dX11_reckons_62 : decode cX11_reckons 62 = .ok (.iload_n 1, 1) := by decide +kernel
theorem dX11_reckons_63 : decode cX11_reckons 63 = .ok (.bipush (-2), 2) := by decide +kernel
theorem dX11_reckons_65 : decode cX11_reckons 65 = .ok (.invokevirtual 237, 3) := by decide +kernel
theorem dX11_reckons_68 : decode cX11_reckons 68 = .ok (.goto 15, 3) := by decide +kernel
theorem dX11_reckons_71 : decode cX11_reckons 71 = .ok (.aload_n 0, 1) := by decide +kernel
theorem dX11_reckons_72 : decode cX11_reckons 72 = .ok (.iload_n 1, 1) := by decide +kernel
theorem dX11_reckons_73 : decode cX11_reckons 73 = .ok (.iload_n 2, 1) := by decide +kernel
theorem dX11_reckons_74 : decode cX11_reckons 74 = .ok (.iload_n 3, 1) := by decide +kernel
theorem dX11_reckons_75 : decode cX11_reckons 75 = .ok (.iload 4, 2) := by decide +kernel
theorem dX11_reckons_77 : decode cX11_reckons 77 = .ok (.invokestatic 327, 3) := by decide +kernel
theorem dX11_reckons_80 : decode cX11_reckons 80 = .ok (.invokevirtual 262, 3) := by decide +kernel
theorem dX11_reckons_83 : decode cX11_reckons 83 = .ok (.return_, 1) := by decide +kernel
theorem dX11_applies_0 : decode cX11_applies 0 = .ok (.iload_n 2, 1) := by decide +kernel
theorem dX11_applies_1 : decode cX11_applies 1 = .ok (.sipush 20000, 3) := by decide +kernel
theorem dX11_applies_4 : decode cX11_applies 4 = .ok (.if_icmp .lt 10, 3) := by decide +kernel
theorem dX11_applies_7 : decode cX11_applies 7 = .ok (.iload_n 2, 1) := by decide +kernel
theorem dX11_applies_8 : decode cX11_applies 8 = .ok (.sipush 30000, 3) := by decide +kernel
theorem dX11_applies_11 : decode cX11_applies 11 = .ok (.if_icmp .lt 13, 3) := by decide +kernel
theorem dX11_applies_14 : decode cX11_applies 14 = .ok (.aload_n 0, 1) := by decide +kernel
theorem dX11_applies_15 : decode cX11_applies 15 = .ok (.iload_n 1, 1) := by decide +kernel
theorem dX11_applies_16 : decode cX11_applies 16 = .ok (.bipush (-3), 2) := by decide +kernel
theorem dX11_applies_18 : decode cX11_applies 18 = .ok (.invokevirtual 237, 3) := by decide +kernel
theorem dX11_applies_21 : decode cX11_applies 21 = .ok (.goto 75, 3) := by decide +kernel
theorem dX11_applies_24 : decode cX11_applies 24 = .ok (.aload_n 0, 1) := by decide +kernel
theorem dX11_applies_25 : decode cX11_applies 25 = .ok (.iload_n 1, 1) := by decide +kernel
theorem dX11_applies_26 : decode cX11_applies 26 = .ok (.invokevirtual 253, 3) := by decide +kernel
theorem dX11_applies_29 : decode cX11_applies 29 = .ok (.ifCond .eq 67, 3) := by decide +kernel
theorem dX11_applies_32 : decode cX11_applies 32 = .ok (.aload_n 0, 1) := by decide +kernel
theorem dX11_applies_33 : decode cX11_applies 33 = .ok (.getfield 96, 3) := by decide +kernel
theorem dX11_applies_36 : decode cX11_applies 36 = .ok (.iload_n 2, 1) := by decide +kernel
theorem dX11_applies_37 : decode cX11_applies 37 = .ok (.sipush 20000, 3) := by decide +kernel
theorem dX11_applies_40 : decode cX11_applies 40 = .ok (.isub, 1) := by decide +kernel
theorem dX11_applies_41 : decode cX11_applies 41 = .ok (.iaload, 1) := by decide +kernel
theorem dX11_applies_42 : decode cX11_applies 42 = .ok (.istore 4, 2) := by decide +kernel
theorem dX11_applies_44 : decode cX11_applies 44 = .ok (.aload_n 0, 1) := by decide +kernel
theorem dX11_applies_45 : decode cX11_applies 45 = .ok (.aload_n 0, 1) := by decide +kernel
theorem dX11_applies_46 : decode cX11_applies 46 = .ok (.getfield 99, 3) := by decide +kernel
theorem dX11_applies_49 : decode cX11_applies 49 = .ok (.iload_n 2, 1) := by decide +kernel
theorem dX11_applies_50 : decode cX11_applies 50 = .ok (.sipush 20000, 3) := by decide +kernel
theorem dX11_applies_53 : decode cX11_applies 53 = .ok (.isub, 1) := by decide +kernel
theorem dX11_applies_54 : decode cX11_applies 54 = .ok (.iaload, 1) := by decide +kernel
theorem dX11_applies_55 : decode cX11_applies 55 = .ok (.invokevirtual 244, 3) := by decide +kernel
theorem dX11_applies_58 : decode cX11_applies 58 = .ok (.istore 5, 2) := by decide +kernel
theorem dX11_applies_60 : decode cX11_applies 60 = .ok (.aload_n 0, 1) := by decide +kernel
theorem dX11_applies_61 : decode cX11_applies 61 = .ok (.getfield 93, 3) := by decide +kernel
theorem dX11_applies_64 : decode cX11_applies 64 = .ok (.bipush 8, 2) := by decide +kernel
theorem dX11_applies_66 : decode cX11_applies 66 = .ok (.iload 5, 2) := by decide +kernel
theorem dX11_applies_68 : decode cX11_applies 68 = .ok (.imul, 1) := by decide +kernel
theorem dX11_applies_69 : decode cX11_applies 69 = .ok (.aload_n 0, 1) := by decide +kernel
theorem dX11_applies_70 : decode cX11_applies 70 = .ok (.getfield 13, 3) := by decide +kernel
theorem dX11_applies_73 : decode cX11_applies 73 = .ok (.iload 4, 2) := by decide +kernel
theorem dX11_applies_75 : decode cX11_applies 75 = .ok (.iaload, 1) := by decide +kernel
theorem dX11_applies_76 : decode cX11_applies 76 = .ok (.iadd, 1) := by decide +kernel
theorem dX11_applies_77 : decode cX11_applies 77 = .ok (.iload_n 3, 1) := by decide +kernel
theorem dX11_applies_78 : decode cX11_applies 78 = .ok (.iastore, 1) := by decide +kernel
theorem dX11_applies_79 : decode cX11_applies 79 = .ok (.aload_n 0, 1) := by decide +kernel
theorem dX11_applies_80 : decode cX11_applies 80 = .ok (.aload_n 0, 1) := by decide +kernel
theorem dX11_applies_81 : decode cX11_applies 81 = .ok (.getfield 16, 3) := by decide +kernel
theorem dX11_applies_84 : decode cX11_applies 84 = .ok (.iload 4, 2) := by decide +kernel
theorem dX11_applies_86 : decode cX11_applies 86 = .ok (.iaload, 1) := by decide +kernel
theorem dX11_applies_87 : decode cX11_applies 87 = .ok (.iconst 1, 1) := by decide +kernel
theorem dX11_applies_88 : decode cX11_applies 88 = .ok (.iload_n 1, 1) := by decide +kernel
theorem dX11_applies_89 : decode cX11_applies 89 = .ok (.iload 5, 2) := by decide +kernel
theorem dX11_applies_91 : decode cX11_applies 91 = .ok (.invokevirtual 247, 3) := by decide +kernel
theorem dX11_applies_94 : decode cX11_applies 94 = .ok (.istore 6, 2) := by decide +kernel
theorem dX11_applies_96 : decode cX11_applies 96 = .ok (.return_, 1) := by decide +kernel
theorem dX11_yields_0 : decode cX11_yields 0 = .ok (.aload_n 0, 1) := by decide +kernel
theorem dX11_yields_1 : decode cX11_yields 1 = .ok (.iload_n 1, 1) := by decide +kernel
theorem dX11_yields_2 : decode cX11_yields 2 = .ok (.invokevirtual 331, 3) := by decide +kernel
theorem dX11_yields_5 : decode cX11_yields 5 = .ok (.istore_n 3, 1) := by decide +kernel
theorem dX11_yields_6 : decode cX11_yields 6 = .ok (.aload_n 0, 1) := by decide +kernel
theorem dX11_yields_7 : decode cX11_yields 7 = .ok (.getfield 78, 3) := by decide +kernel
theorem dX11_yields_10 : decode cX11_yields 10 = .ok (.iload_n 3, 1) := by decide +kernel
theorem dX11_yields_11 : decode cX11_yields 11 = .ok (.iaload, 1) := by decide +kernel
theorem dX11_yields_12 : decode cX11_yields 12 = .ok (.iconst 2, 1) := by decide +kernel
theorem dX11_yields_13 : decode cX11_yields 13 = .ok (.if_icmp .ne 26, 3) := by decide +kernel
theorem dX11_yields_16 : decode cX11_yields 16 = .ok (.aload_n 0, 1) := by decide +kernel
theorem dX11_yields_17 : decode cX11_yields 17 = .ok (.iload_n 1, 1) := by decide +kernel
theorem dX11_yields_18 : decode cX11_yields 18 = .ok (.invokevirtual 334, 3) := by decide +kernel
theorem dX11_yields_21 : decode cX11_yields 21 = .ok (.ifCond .ne 18, 3) := by decide +kernel
theorem dX11_yields_24 : decode cX11_yields 24 = .ok (.aload_n 0, 1) := by decide +kernel
theorem dX11_yields_25 : decode cX11_yields 25 = .ok (.getfield 108, 3) := by decide +kernel
theorem dX11_yields_28 : decode cX11_yields 28 = .ok (.aload_n 0, 1) := by decide +kernel
theorem dX11_yields_29 : decode cX11_yields 29 = .ok (.getfield 81, 3) := by decide +kernel
theorem dX11_yields_32 : decode cX11_yields 32 = .ok (.iload_n 3, 1) := by decide +kernel
theorem dX11_yields_33 : decode cX11_yields 33 = .ok (.iaload, 1) := by decide +kernel
theorem dX11_yields_34 : decode cX11_yields 34 = .ok (.iaload, 1) := by decide +kernel
theorem dX11_yields_35 : decode cX11_yields 35 = .ok (.iconst 3, 1) := by decide +kernel
theorem dX11_yields_36 : decode cX11_yields 36 = .ok (.if_icmp .ne 11, 3) := by decide +kernel
theorem dX11_yields_39 : decode cX11_yields 39 = .ok (.aload_n 0, 1) := by decide +kernel
theorem dX11_yields_40 : decode cX11_yields 40 = .ok (.iload_n 1, 1) := by decide +kernel
theorem dX11_yields_41 : decode cX11_yields 41 = .ok (.bipush (-6), 2) := by decide +kernel
theorem dX11_yields_43 : decode cX11_yields 43 = .ok (.invokevirtual 237, 3) := by decide +kernel
theorem dX11_yields_46 : decode cX11_yields 46 = .ok (.return_, 1) := by decide +kernel
theorem dX11_yields_47 : decode cX11_yields 47 = .ok (.aload_n 0, 1) := by decide +kernel
theorem dX11_yields_48 : decode cX11_yields 48 = .ok (.getfield 108, 3) := by decide +kernel
theorem dX11_yields_51 : decode cX11_yields 51 = .ok (.aload_n 0, 1) := by decide +kernel
theorem dX11_yields_52 : decode cX11_yields 52 = .ok (.getfield 81, 3) := by decide +kernel
theorem dX11_yields_55 : decode cX11_yields 55 = .ok (.iload_n 3, 1) := by decide +kernel
theorem dX11_yields_56 : decode cX11_yields 56 = .ok (.iaload, 1) := by decide +kernel
theorem dX11_yields_57 : decode cX11_yields 57 = .ok (.iconst 1, 1) := by decide +kernel
theorem dX11_yields_58 : decode cX11_yields 58 = .ok (.iastore, 1) := by decide +kernel
theorem dX11_yields_59 : decode cX11_yields 59 = .ok (.aload_n 0, 1) := by decide +kernel
theorem dX11_yields_60 : decode cX11_yields 60 = .ok (.getfield 111, 3) := by decide +kernel
theorem dX11_yields_63 : decode cX11_yields 63 = .ok (.aload_n 0, 1) := by decide +kernel
theorem dX11_yields_64 : decode cX11_yields 64 = .ok (.getfield 81, 3) := by decide +kernel
theorem dX11_yields_67 : decode cX11_yields 67 = .ok (.iload_n 3, 1) := by decide +kernel
theorem dX11_yields_68 : decode cX11_yields 68 = .ok (.iaload, 1) := by decide +kernel
theorem dX11_yields_69 : decode cX11_yields 69 = .ok (.iload_n 1, 1) := by decide +kernel
theorem dX11_yields_70 : decode cX11_yields 70 = .ok (.iastore, 1) := by decide +kernel
theorem dX11_yields_71 : decode cX11_yields 71 = .ok (.aload_n 0, 1) := by decide +kernel
theorem dX11_yields_72 : decode cX11_yields 72 = .ok (.aload_n 0, 1) := by decide +kernel
theorem dX11_yields_73 : decode cX11_yields 73 = .ok (.getfield 72, 3) := by decide +kernel
theorem dX11_yields_76 : decode cX11_yields 76 = .ok (.iload_n 3, 1) := by decide +kernel
theorem dX11_yields_77 : decode cX11_yields 77 = .ok (.iaload, 1) := by decide +kernel
theorem dX11_yields_78 : decode cX11_yields 78 = .ok (.invokevirtual 337, 3) := by decide +kernel
theorem dX11_yields_81 : decode cX11_yields 81 = .ok (.aload_n 0, 1) := by decide +kernel
theorem dX11_yields_82 : decode cX11_yields 82 = .ok (.aload_n 0, 1) := by decide +kernel
theorem dX11_yields_83 : decode cX11_yields 83 = .ok (.getfield 72, 3) := by decide +kernel
theorem dX11_yields_86 : decode cX11_yields 86 = .ok (.iload_n 3, 1) := by decide +kernel
theorem dX11_yields_87 : decode cX11_yields 87 = .ok (.iaload, 1) := by decide +kernel
theorem dX11_yields_88 : decode cX11_yields 88 = .ok (.iload_n 2, 1) := by decide +kernel
theorem dX11_yields_89 : decode cX11_yields 89 = .ok (.invokevirtual 262, 3) := by decide +kernel
theorem dX11_yields_92 : decode cX11_yields 92 = .ok (.return_, 1) := by decide +kernel
theorem dX11_asksOf_0 : decode cX11_asksOf 0 = .ok (.iload_n 2, 1) := by decide +kernel
theorem dX11_asksOf_1 : decode cX11_asksOf 1 = .ok (.sipush 30000, 3) := by decide +kernel
theorem dX11_asksOf_4 : decode cX11_asksOf 4 = .ok (.isub, 1) := by decide +kernel
theorem dX11_asksOf_5 : decode cX11_asksOf 5 = .ok (.istore_n 3, 1) := by decide +kernel
theorem dX11_asksOf_6 : decode cX11_asksOf 6 = .ok (.iload_n 3, 1) := by decide +kernel
theorem dX11_asksOf_7 : decode cX11_asksOf 7 = .ok (.ifCond .lt 23, 3) := by decide +kernel
theorem dX11_asksOf_10 : decode cX11_asksOf 10 = .ok (.aload_n 0, 1) := by decide +kernel
theorem dX11_asksOf_11 : decode cX11_asksOf 11 = .ok (.getfield 108, 3) := by decide +kernel
theorem dX11_asksOf_14 : decode cX11_asksOf 14 = .ok (.iload_n 3, 1) := by decide +kernel
theorem dX11_asksOf_15 : decode cX11_asksOf 15 = .ok (.iaload, 1) := by decide +kernel
theorem dX11_asksOf_16 : decode cX11_asksOf 16 = .ok (.iconst 2, 1) := by decide +kernel
theorem dX11_asksOf_17 : decode cX11_asksOf 17 = .ok (.if_icmp .eq 13, 3) := by decide +kernel
theorem dX11_asksOf_20 : decode cX11_asksOf 20 = .ok (.aload_n 0, 1) := by decide +kernel
theorem dX11_asksOf_21 : decode cX11_asksOf 21 = .ok (.getfield 108, 3) := by decide +kernel
theorem dX11_asksOf_24 : decode cX11_asksOf 24 = .ok (.iload_n 3, 1) := by decide +kernel
theorem dX11_asksOf_25 : decode cX11_asksOf 25 = .ok (.iaload, 1) := by decide +kernel
theorem dX11_asksOf_26 : decode cX11_asksOf 26 = .ok (.iconst 3, 1) := by decide +kernel
theorem dX11_asksOf_27 : decode cX11_asksOf 27 = .ok (.if_icmp .ne 13, 3) := by decide +kernel
theorem dX11_asksOf_30 : decode cX11_asksOf 30 = .ok (.aload_n 0, 1) := by decide +kernel
theorem dX11_asksOf_31 : decode cX11_asksOf 31 = .ok (.iload_n 1, 1) := by decide +kernel
theorem dX11_asksOf_32 : decode cX11_asksOf 32 = .ok (.bipush (-3), 2) := by decide +kernel
theorem dX11_asksOf_34 : decode cX11_asksOf 34 = .ok (.invokevirtual 237, 3) := by decide +kernel
theorem dX11_asksOf_37 : decode cX11_asksOf 37 = .ok (.goto 129, 3) := by decide +kernel
theorem dX11_asksOf_40 : decode cX11_asksOf 40 = .ok (.aload_n 0, 1) := by decide +kernel
theorem dX11_asksOf_41 : decode cX11_asksOf 41 = .ok (.getfield 108, 3) := by decide +kernel
theorem dX11_asksOf_44 : decode cX11_asksOf 44 = .ok (.iload_n 3, 1) := by decide +kernel
theorem dX11_asksOf_45 : decode cX11_asksOf 45 = .ok (.iaload, 1) := by decide +kernel
theorem dX11_asksOf_46 : decode cX11_asksOf 46 = .ok (.iconst 4, 1) := by decide +kernel
theorem dX11_asksOf_47 : decode cX11_asksOf 47 = .ok (.if_icmp .ne 12, 3) := by decide +kernel
theorem dX11_asksOf_50 : decode cX11_asksOf 50 = .ok (.aload_n 0, 1) := by decide +kernel
theorem dX11_asksOf_51 : decode cX11_asksOf 51 = .ok (.iload_n 1, 1) := by decide +kernel
theorem dX11_asksOf_52 : decode cX11_asksOf 52 = .ok (.iconst (-1), 1) := by decide +kernel
theorem dX11_asksOf_53 : decode cX11_asksOf 53 = .ok (.invokevirtual 262, 3) := by decide +kernel
theorem dX11_asksOf_56 : decode cX11_asksOf 56 = .ok (.goto 110, 3) := by decide +kernel
theorem dX11_asksOf_59 : decode cX11_asksOf 59 = .ok (.aload_n 0, 1) := by decide +kernel
theorem dX11_asksOf_60 : decode cX11_asksOf 60 = .ok (.iload_n 1, 1) := by decide +kernel
theorem dX11_asksOf_61 : decode cX11_asksOf 61 = .ok (.invokevirtual 253, 3) := by decide +kernel
theorem dX11_asksOf_64 : decode cX11_asksOf 64 = .ok (.ifCond .eq 102, 3) := by decide +kernel
theorem dX11_asksOf_67 : decode cX11_asksOf 67 = .ok (.aload_n 0, 1) := by decide +kernel
theorem dX11_asksOf_68 : decode cX11_asksOf 68 = .ok (.getfield 108, 3) := by decide +kernel
theorem dX11_asksOf_71 : decode cX11_asksOf 71 = .ok (.iload_n 3, 1) := by decide +kernel
theorem dX11_asksOf_72 : decode cX11_asksOf 72 = .ok (.iaload, 1) := by decide +kernel
theorem dX11_asksOf_73 : decode cX11_asksOf 73 = .ok (.ifCond .ne 7, 3) := by decide +kernel
theorem dX11_asksOf_76 : decode cX11_asksOf 76 = .ok (.iconst 1, 1) := by decide +kernel
theorem dX11_asksOf_77 : decode cX11_asksOf 77 = .ok (.goto 4, 3) := by decide +kernel
theorem dX11_asksOf_80 : decode cX11_asksOf 80 = .ok (.iconst 0, 1) := by decide +kernel
theorem dX11_asksOf_81 : decode cX11_asksOf 81 = .ok (.istore 4, 2) := by decide +kernel
theorem dX11_asksOf_83 : decode cX11_asksOf 83 = .ok (.aload_n 0, 1) := by decide +kernel
theorem dX11_asksOf_84 : decode cX11_asksOf 84 = .ok (.getfield 108, 3) := by decide +kernel
theorem dX11_asksOf_87 : decode cX11_asksOf 87 = .ok (.iload_n 3, 1) := by decide +kernel
theorem dX11_asksOf_88 : decode cX11_asksOf 88 = .ok (.iconst 2, 1) := by decide +kernel
theorem dX11_asksOf_89 : decode cX11_asksOf 89 = .ok (.iastore, 1) := by decide +kernel
theorem dX11_asksOf_90 : decode cX11_asksOf 90 = .ok (.iload 4, 2) := by decide +kernel
theorem dX11_asksOf_92 : decode cX11_asksOf 92 = .ok (.ifCond .eq 51, 3) := by decide +kernel
theorem dX11_asksOf_95 : decode cX11_asksOf 95 = .ok (.aload_n 0, 1) := by decide +kernel
theorem dX11_asksOf_96 : decode cX11_asksOf 96 = .ok (.getfield 114, 3) := by decide +kernel
theorem dX11_asksOf_99 : decode cX11_asksOf 99 = .ok (.iload_n 3, 1) := by decide +kernel
theorem dX11_asksOf_100 : decode cX11_asksOf 100 = .ok (.aload_n 0, 1) := by decide +kernel
theorem dX11_asksOf_101 : decode cX11_asksOf 101 = .ok (.aload_n 0, 1) := by decide +kernel
theorem dX11_asksOf_102 : decode cX11_asksOf 102 = .ok (.getfield 13, 3) := by decide +kernel
theorem dX11_asksOf_105 : decode cX11_asksOf 105 = .ok (.aload_n 0, 1) := by decide +kernel
theorem dX11_asksOf_106 : decode cX11_asksOf 106 = .ok (.getfield 102, 3) := by decide +kernel
theorem dX11_asksOf_109 : decode cX11_asksOf 109 = .ok (.iload_n 3, 1) := by decide +kernel
theorem dX11_asksOf_110 : decode cX11_asksOf 110 = .ok (.iaload, 1) := by decide +kernel
theorem dX11_asksOf_111 : decode cX11_asksOf 111 = .ok (.iaload, 1) := by decide +kernel
theorem dX11_asksOf_112 : decode cX11_asksOf 112 = .ok (.iconst 2, 1) := by decide +kernel
theorem dX11_asksOf_113 : decode cX11_asksOf 113 = .ok (.iload_n 1, 1) := by decide +kernel
theorem dX11_asksOf_114 : decode cX11_asksOf 114 = .ok (.aload_n 0, 1) := by decide +kernel
theorem dX11_asksOf_115 : decode cX11_asksOf 115 = .ok (.aload_n 0, 1) := by decide +kernel
theorem dX11_asksOf_116 : decode cX11_asksOf 116 = .ok (.getfield 105, 3) := by decide +kernel
theorem dX11_asksOf_119 : decode cX11_asksOf 119 = .ok (.iload_n 3, 1) := by decide +kernel
theorem dX11_asksOf_120 : decode cX11_asksOf 120 = .ok (.iaload, 1) := by decide +kernel
theorem dX11_asksOf_121 : decode cX11_asksOf 121 = .ok (.invokevirtual 244, 3) := by decide +kernel
theorem dX11_asksOf_124 : decode cX11_asksOf 124 = .ok (.invokevirtual 247, 3) := by decide +kernel
theorem dX11_asksOf_127 : decode cX11_asksOf 127 = .ok (.iastore, 1) := by decide +kernel
theorem dX11_asksOf_128 : decode cX11_asksOf 128 = .ok (.aload_n 0, 1) := by decide +kernel
theorem dX11_asksOf_129 : decode cX11_asksOf 129 = .ok (.getfield 81, 3) := by decide +kernel
theorem dX11_asksOf_132 : decode cX11_asksOf 132 = .ok (.aload_n 0, 1) := by decide +kernel
theorem dX11_asksOf_133 : decode cX11_asksOf 133 = .ok (.getfield 114, 3) := by decide +kernel
theorem dX11_asksOf_136 : decode cX11_asksOf 136 = .ok (.iload_n 3, 1) := by decide +kernel
theorem dX11_asksOf_137 : decode cX11_asksOf 137 = .ok (.iaload, 1) := by decide +kernel
theorem dX11_asksOf_138 : decode cX11_asksOf 138 = .ok (.iload_n 3, 1) := by decide +kernel
theorem dX11_asksOf_139 : decode cX11_asksOf 139 = .ok (.iastore, 1) := by decide +kernel
theorem dX11_asksOf_140 : decode cX11_asksOf 140 = .ok (.goto 26, 3) := by decide +kernel
theorem dX11_asksOf_143 : decode cX11_asksOf 143 = .ok (.aload_n 0, 1) := by decide +kernel
theorem dX11_asksOf_144 : decode cX11_asksOf 144 = .ok (.getfield 72, 3) := by decide +kernel
theorem dX11_asksOf_147 : decode cX11_asksOf 147 = .ok (.aload_n 0, 1) := by decide +kernel
theorem dX11_asksOf_148 : decode cX11_asksOf 148 = .ok (.getfield 114, 3) := by decide +kernel
theorem dX11_asksOf_151 : decode cX11_asksOf 151 = .ok (.iload_n 3, 1) := by decide +kernel
theorem dX11_asksOf_152 : decode cX11_asksOf 152 = .ok (.iaload, 1) := by decide +kernel
theorem dX11_asksOf_153 : decode cX11_asksOf 153 = .ok (.iload_n 1, 1) := by decide +kernel
theorem dX11_asksOf_154 : decode cX11_asksOf 154 = .ok (.iastore, 1) := by decide +kernel
theorem dX11_asksOf_155 : decode cX11_asksOf 155 = .ok (.aload_n 0, 1) := by decide +kernel
theorem dX11_asksOf_156 : decode cX11_asksOf 156 = .ok (.aload_n 0, 1) := by decide +kernel
theorem dX11_asksOf_157 : decode cX11_asksOf 157 = .ok (.getfield 111, 3) := by decide +kernel
theorem dX11_asksOf_160 : decode cX11_asksOf 160 = .ok (.iload_n 3, 1) := by decide +kernel
theorem dX11_asksOf_161 : decode cX11_asksOf 161 = .ok (.iaload, 1) := by decide +kernel
theorem dX11_asksOf_162 : decode cX11_asksOf 162 = .ok (.iconst 0, 1) := by decide +kernel
theorem dX11_asksOf_163 : decode cX11_asksOf 163 = .ok (.invokevirtual 262, 3) := by decide +kernel
theorem dX11_asksOf_166 : decode cX11_asksOf 166 = .ok (.return_, 1) := by decide +kernel
theorem dX11_takes_0 : decode cX11_takes 0 = .ok (.iload_n 2, 1) := by decide +kernel
theorem dX11_takes_1 : decode cX11_takes 1 = .ok (.tableswitch 182 22 35 #[71, 182, 182, 182, 182, 182, 80, 106, 182, 124, 182, 182, 182, 115], 71) := by decide +kernel
theorem dX11_takes_72 : decode cX11_takes 72 = .ok (.aload_n 0, 1) := by decide +kernel
theorem dX11_takes_73 : decode cX11_takes 73 = .ok (.iload_n 1, 1) := by decide +kernel
theorem dX11_takes_74 : decode cX11_takes 74 = .ok (.iload_n 3, 1) := by decide +kernel
theorem dX11_takes_75 : decode cX11_takes 75 = .ok (.invokevirtual 237, 3) := by decide +kernel
theorem dX11_takes_78 : decode cX11_takes 78 = .ok (.goto 133, 3) := by decide +kernel
theorem dX11_takes_81 : decode cX11_takes 81 = .ok (.aload_n 0, 1) := by decide +kernel
theorem dX11_takes_82 : decode cX11_takes 82 = .ok (.getfield 41, 3) := by decide +kernel
theorem dX11_takes_85 : decode cX11_takes 85 = .ok (.aload_n 0, 1) := by decide +kernel
theorem dX11_takes_86 : decode cX11_takes 86 = .ok (.getfield 13, 3) := by decide +kernel
theorem dX11_takes_89 : decode cX11_takes 89 = .ok (.aload_n 0, 1) := by decide +kernel
theorem dX11_takes_90 : decode cX11_takes 90 = .ok (.getfield 69, 3) := by decide +kernel
theorem dX11_takes_93 : decode cX11_takes 93 = .ok (.iload_n 1, 1) := by decide +kernel
theorem dX11_takes_94 : decode cX11_takes 94 = .ok (.iaload, 1) := by decide +kernel
theorem dX11_takes_95 : decode cX11_takes 95 = .ok (.iaload, 1) := by decide +kernel
theorem dX11_takes_96 : decode cX11_takes 96 = .ok (.iload_n 3, 1) := by decide +kernel
theorem dX11_takes_97 : decode cX11_takes 97 = .ok (.iastore, 1) := by decide +kernel
theorem dX11_takes_98 : decode cX11_takes 98 = .ok (.aload_n 0, 1) := by decide +kernel
theorem dX11_takes_99 : decode cX11_takes 99 = .ok (.iload_n 1, 1) := by decide +kernel
theorem dX11_takes_100 : decode cX11_takes 100 = .ok (.iload_n 3, 1) := by decide +kernel
theorem dX11_takes_101 : decode cX11_takes 101 = .ok (.invokevirtual 262, 3) := by decide +kernel
theorem dX11_takes_104 : decode cX11_takes 104 = .ok (.goto 107, 3) := by decide +kernel
theorem dX11_takes_107 : decode cX11_takes 107 = .ok (.aload_n 0, 1) := by decide +kernel
theorem dX11_takes_108 : decode cX11_takes 108 = .ok (.iload_n 1, 1) := by decide +kernel
theorem dX11_takes_109 : decode cX11_takes 109 = .ok (.iload_n 3, 1) := by decide +kernel
theorem dX11_takes_110 : decode cX11_takes 110 = .ok (.invokevirtual 340, 3) := by decide +kernel
theorem dX11_takes_113 : decode cX11_takes 113 = .ok (.goto 98, 3) := by decide +kernel
theorem dX11_takes_116 : decode cX11_takes 116 = .ok (.aload_n 0, 1) := by decide +kernel
theorem dX11_takes_117 : decode cX11_takes 117 = .ok (.iload_n 1, 1) := by decide +kernel
theorem dX11_takes_118 : decode cX11_takes 118 = .ok (.iload_n 3, 1) := by decide +kernel
theorem dX11_takes_119 : decode cX11_takes 119 = .ok (.invokevirtual 343, 3) := by decide +kernel
theorem dX11_takes_122 : decode cX11_takes 122 = .ok (.goto 89, 3) := by decide +kernel
theorem dX11_takes_125 : decode cX11_takes 125 = .ok (.iload_n 3, 1) := by decide +kernel
theorem dX11_takes_126 : decode cX11_takes 126 = .ok (.iconst 0, 1) := by decide +kernel
theorem dX11_takes_127 : decode cX11_takes 127 = .ok (.aload_n 0, 1) := by decide +kernel
theorem dX11_takes_128 : decode cX11_takes 128 = .ok (.getfield 54, 3) := by decide +kernel
theorem dX11_takes_131 : decode cX11_takes 131 = .ok (.aload_n 0, 1) := by decide +kernel
theorem dX11_takes_132 : decode cX11_takes 132 = .ok (.getfield 180, 3) := by decide +kernel
theorem dX11_takes_135 : decode cX11_takes 135 = .ok (.iaload, 1) := by decide +kernel
theorem dX11_takes_136 : decode cX11_takes 136 = .ok (.invokestatic 136, 3) := by decide +kernel
theorem dX11_takes_139 : decode cX11_takes 139 = .ok (.ifCond .eq 34, 3) := by decide +kernel
theorem dX11_takes_142 : decode cX11_takes 142 = .ok (.aload_n 0, 1) := by decide +kernel
theorem dX11_takes_143 : decode cX11_takes 143 = .ok (.getfield 57, 3) := by decide +kernel
theorem dX11_takes_146 : decode cX11_takes 146 = .ok (.iconst 4, 1) := by decide +kernel
theorem dX11_takes_147 : decode cX11_takes 147 = .ok (.aload_n 0, 1) := by decide +kernel
theorem dX11_takes_148 : decode cX11_takes 148 = .ok (.getfield 180, 3) := by decide +kernel
theorem dX11_takes_151 : decode cX11_takes 151 = .ok (.imul, 1) := by decide +kernel
theorem dX11_takes_152 : decode cX11_takes 152 = .ok (.aload_n 0, 1) := by decide +kernel
theorem dX11_takes_153 : decode cX11_takes 153 = .ok (.getfield 60, 3) := by decide +kernel
theorem dX11_takes_156 : decode cX11_takes 156 = .ok (.aload_n 0, 1) := by decide +kernel
theorem dX11_takes_157 : decode cX11_takes 157 = .ok (.getfield 180, 3) := by decide +kernel
theorem dX11_takes_160 : decode cX11_takes 160 = .ok (.iaload, 1) := by decide +kernel
theorem dX11_takes_161 : decode cX11_takes 161 = .ok (.iadd, 1) := by decide +kernel
theorem dX11_takes_162 : decode cX11_takes 162 = .ok (.iload_n 3, 1) := by decide +kernel
theorem dX11_takes_163 : decode cX11_takes 163 = .ok (.iastore, 1) := by decide +kernel
theorem dX11_takes_164 : decode cX11_takes 164 = .ok (.aload_n 0, 1) := by decide +kernel
theorem dX11_takes_165 : decode cX11_takes 165 = .ok (.iload_n 1, 1) := by decide +kernel
theorem dX11_takes_166 : decode cX11_takes 166 = .ok (.iload_n 3, 1) := by decide +kernel
theorem dX11_takes_167 : decode cX11_takes 167 = .ok (.invokevirtual 262, 3) := by decide +kernel
theorem dX11_takes_170 : decode cX11_takes 170 = .ok (.goto 41, 3) := by decide +kernel
theorem dX11_takes_173 : decode cX11_takes 173 = .ok (.aload_n 0, 1) := by decide +kernel
theorem dX11_takes_174 : decode cX11_takes 174 = .ok (.iload_n 1, 1) := by decide +kernel
theorem dX11_takes_175 : decode cX11_takes 175 = .ok (.bipush (-4), 2) := by decide +kernel
theorem dX11_takes_177 : decode cX11_takes 177 = .ok (.invokevirtual 237, 3) := by decide +kernel
theorem dX11_takes_180 : decode cX11_takes 180 = .ok (.goto 31, 3) := by decide +kernel
theorem dX11_takes_183 : decode cX11_takes 183 = .ok (.iload_n 3, 1) := by decide +kernel
theorem dX11_takes_184 : decode cX11_takes 184 = .ok (.invokestatic 177, 3) := by decide +kernel
theorem dX11_takes_187 : decode cX11_takes 187 = .ok (.ifCond .eq 17, 3) := by decide +kernel
theorem dX11_takes_190 : decode cX11_takes 190 = .ok (.aload_n 0, 1) := by decide +kernel
theorem dX11_takes_191 : decode cX11_takes 191 = .ok (.iload_n 3, 1) := by decide +kernel
theorem dX11_takes_192 : decode cX11_takes 192 = .ok (.putfield 180, 3) := by decide +kernel
theorem dX11_takes_195 : decode cX11_takes 195 = .ok (.aload_n 0, 1) := by decide +kernel
theorem dX11_takes_196 : decode cX11_takes 196 = .ok (.iload_n 1, 1) := by decide +kernel
theorem dX11_takes_197 : decode cX11_takes 197 = .ok (.iload_n 3, 1) := by decide +kernel
theorem dX11_takes_198 : decode cX11_takes 198 = .ok (.invokevirtual 262, 3) := by decide +kernel
theorem dX11_takes_201 : decode cX11_takes 201 = .ok (.goto 10, 3) := by decide +kernel
theorem dX11_takes_204 : decode cX11_takes 204 = .ok (.aload_n 0, 1) := by decide +kernel
theorem dX11_takes_205 : decode cX11_takes 205 = .ok (.iload_n 1, 1) := by decide +kernel
theorem dX11_takes_206 : decode cX11_takes 206 = .ok (.bipush (-4), 2) := by decide +kernel
theorem dX11_takes_208 : decode cX11_takes 208 = .ok (.invokevirtual 237, 3) := by decide +kernel
theorem dX11_takes_211 : decode cX11_takes 211 = .ok (.return_, 1) := by decide +kernel
theorem dX11_hasValue_0 : decode cX11_hasValue 0 = .ok (.aload_n 0, 1) := by decide +kernel
theorem dX11_hasValue_1 : decode cX11_hasValue 1 = .ok (.getfield 69, 3) := by decide +kernel
theorem dX11_hasValue_4 : decode cX11_hasValue 4 = .ok (.iload_n 1, 1) := by decide +kernel
theorem dX11_hasValue_5 : decode cX11_hasValue 5 = .ok (.iaload, 1) := by decide +kernel
theorem dX11_hasValue_6 : decode cX11_hasValue 6 = .ok (.istore_n 3, 1) := by decide +kernel
theorem dX11_hasValue_7 : decode cX11_hasValue 7 = .ok (.aload_n 0, 1) := by decide +kernel
theorem dX11_hasValue_8 : decode cX11_hasValue 8 = .ok (.getfield 78, 3) := by decide +kernel
theorem dX11_hasValue_11 : decode cX11_hasValue 11 = .ok (.iload_n 1, 1) := by decide +kernel
theorem dX11_hasValue_12 : decode cX11_hasValue 12 = .ok (.iaload, 1) := by decide +kernel
theorem dX11_hasValue_13 : decode cX11_hasValue 13 = .ok (.istore 4, 2) := by decide +kernel
theorem dX11_hasValue_15 : decode cX11_hasValue 15 = .ok (.aload_n 0, 1) := by decide +kernel
theorem dX11_hasValue_16 : decode cX11_hasValue 16 = .ok (.getfield 7, 3) := by decide +kernel
theorem dX11_hasValue_19 : decode cX11_hasValue 19 = .ok (.iload_n 3, 1) := by decide +kernel
theorem dX11_hasValue_20 : decode cX11_hasValue 20 = .ok (.iaload, 1) := by decide +kernel
theorem dX11_hasValue_21 : decode cX11_hasValue 21 = .ok (.istore 5, 2) := by decide +kernel
theorem dX11_hasValue_23 : decode cX11_hasValue 23 = .ok (.iload 5, 2) := by decide +kernel
theorem dX11_hasValue_25 : decode cX11_hasValue 25 = .ok (.tableswitch 611 2 36 #[155, 186, 211, 211, 211, 211, 211, 211, 255, 297, 602, 326, 350, 611, 611, 366, 408, 420, 602, 469, 611, 611, 491, 500, 509, 611, 611, 611, 611, 611, 611, 611, 611, 611, 584], 155) := by decide +kernel
theorem dX11_hasValue_180 : decode cX11_hasValue 180 = .ok (.aload_n 0, 1) := by decide +kernel
theorem dX11_hasValue_181 : decode cX11_hasValue 181 = .ok (.getfield 93, 3) := by decide +kernel
theorem dX11_hasValue_184 : decode cX11_hasValue 184 = .ok (.bipush 8, 2) := by decide +kernel
theorem dX11_hasValue_186 : decode cX11_hasValue 186 = .ok (.aload_n 0, 1) := by decide +kernel
theorem dX11_hasValue_187 : decode cX11_hasValue 187 = .ok (.getfield 75, 3) := by decide +kernel
theorem dX11_hasValue_190 : decode cX11_hasValue 190 = .ok (.iload_n 1, 1) := by decide +kernel
theorem dX11_hasValue_191 : decode cX11_hasValue 191 = .ok (.iaload, 1) := by decide +kernel
theorem dX11_hasValue_192 : decode cX11_hasValue 192 = .ok (.imul, 1) := by decide +kernel
theorem dX11_hasValue_193 : decode cX11_hasValue 193 = .ok (.aload_n 0, 1) := by decide +kernel
theorem dX11_hasValue_194 : decode cX11_hasValue 194 = .ok (.getfield 13, 3) := by decide +kernel
theorem dX11_hasValue_197 : decode cX11_hasValue 197 = .ok (.iload_n 3, 1) := by decide +kernel
theorem dX11_hasValue_198 : decode cX11_hasValue 198 = .ok (.iaload, 1) := by decide +kernel
theorem dX11_hasValue_199 : decode cX11_hasValue 199 = .ok (.iadd, 1) := by decide +kernel
theorem dX11_hasValue_200 : decode cX11_hasValue 200 = .ok (.iload_n 2, 1) := by decide +kernel
theorem dX11_hasValue_201 : decode cX11_hasValue 201 = .ok (.iastore, 1) := by decide +kernel
theorem dX11_hasValue_202 : decode cX11_hasValue 202 = .ok (.aload_n 0, 1) := by decide +kernel
theorem dX11_hasValue_203 : decode cX11_hasValue 203 = .ok (.iload_n 1, 1) := by decide +kernel
theorem dX11_hasValue_204 : decode cX11_hasValue 204 = .ok (.iload_n 2, 1) := by decide +kernel
theorem dX11_hasValue_205 : decode cX11_hasValue 205 = .ok (.invokevirtual 262, 3) := by decide +kernel
theorem dX11_hasValue_208 : decode cX11_hasValue 208 = .ok (.goto 453, 3) := by decide +kernel
theorem dX11_hasValue_211 : decode cX11_hasValue 211 = .ok (.aload_n 0, 1) := by decide +kernel
theorem dX11_hasValue_212 : decode cX11_hasValue 212 = .ok (.iload_n 1, 1) := by decide +kernel
theorem dX11_hasValue_213 : decode cX11_hasValue 213 = .ok (.aload_n 0, 1) := by decide +kernel
theorem dX11_hasValue_214 : decode cX11_hasValue 214 = .ok (.aload_n 0, 1) := by decide +kernel
theorem dX11_hasValue_215 : decode cX11_hasValue 215 = .ok (.getfield 75, 3) := by decide +kernel
theorem dX11_hasValue_218 : decode cX11_hasValue 218 = .ok (.iload_n 1, 1) := by decide +kernel
theorem dX11_hasValue_219 : decode cX11_hasValue 219 = .ok (.iaload, 1) := by decide +kernel
theorem dX11_hasValue_220 : decode cX11_hasValue 220 = .ok (.aload_n 0, 1) := by decide +kernel
theorem dX11_hasValue_221 : decode cX11_hasValue 221 = .ok (.getfield 13, 3) := by decide +kernel
theorem dX11_hasValue_224 : decode cX11_hasValue 224 = .ok (.iload_n 3, 1) := by decide +kernel
theorem dX11_hasValue_225 : decode cX11_hasValue 225 = .ok (.iaload, 1) := by decide +kernel
theorem dX11_hasValue_226 : decode cX11_hasValue 226 = .ok (.invokevirtual 279, 3) := by decide +kernel
theorem dX11_hasValue_229 : decode cX11_hasValue 229 = .ok (.iload_n 2, 1) := by decide +kernel
theorem dX11_hasValue_230 : decode cX11_hasValue 230 = .ok (.invokevirtual 346, 3) := by decide +kernel
theorem dX11_hasValue_233 : decode cX11_hasValue 233 = .ok (.goto 428, 3) := by decide +kernel
theorem dX11_hasValue_236 : decode cX11_hasValue 236 = .ok (.iload 4, 2) := by decide +kernel
theorem dX11_hasValue_238 : decode cX11_hasValue 238 = .ok (.ifCond .ne 25, 3) := by decide +kernel
theorem dX11_hasValue_241 : decode cX11_hasValue 241 = .ok (.aload_n 0, 1) := by decide +kernel
theorem dX11_hasValue_242 : decode cX11_hasValue 242 = .ok (.getfield 81, 3) := by decide +kernel
theorem dX11_hasValue_245 : decode cX11_hasValue 245 = .ok (.iload_n 1, 1) := by decide +kernel
theorem dX11_hasValue_246 : decode cX11_hasValue 246 = .ok (.iload_n 2, 1) := by decide +kernel
theorem dX11_hasValue_247 : decode cX11_hasValue 247 = .ok (.iastore, 1) := by decide +kernel
theorem dX11_hasValue_248 : decode cX11_hasValue 248 = .ok (.aload_n 0, 1) := by decide +kernel
theorem dX11_hasValue_249 : decode cX11_hasValue 249 = .ok (.aload_n 0, 1) := by decide +kernel
theorem dX11_hasValue_250 : decode cX11_hasValue 250 = .ok (.getfield 16, 3) := by decide +kernel
theorem dX11_hasValue_253 : decode cX11_hasValue 253 = .ok (.iload_n 3, 1) := by decide +kernel
theorem dX11_hasValue_254 : decode cX11_hasValue 254 = .ok (.iaload, 1) := by decide +kernel
theorem dX11_hasValue_255 : decode cX11_hasValue 255 = .ok (.iload_n 1, 1) := by decide +kernel
theorem dX11_hasValue_256 : decode cX11_hasValue 256 = .ok (.iconst 1, 1) := by decide +kernel
theorem dX11_hasValue_257 : decode cX11_hasValue 257 = .ok (.invokevirtual 273, 3) := by decide +kernel
theorem dX11_hasValue_260 : decode cX11_hasValue 260 = .ok (.goto 401, 3) := by decide +kernel
theorem dX11_hasValue_263 : decode cX11_hasValue 263 = .ok (.aload_n 0, 1) := by decide +kernel
theorem dX11_hasValue_264 : decode cX11_hasValue 264 = .ok (.iload_n 1, 1) := by decide +kernel
theorem dX11_hasValue_265 : decode cX11_hasValue 265 = .ok (.iload 5, 2) := by decide +kernel
theorem dX11_hasValue_267 : decode cX11_hasValue 267 = .ok (.aload_n 0, 1) := by decide +kernel
theorem dX11_hasValue_268 : decode cX11_hasValue 268 = .ok (.getfield 81, 3) := by decide +kernel
theorem dX11_hasValue_271 : decode cX11_hasValue 271 = .ok (.iload_n 1, 1) := by decide +kernel
theorem dX11_hasValue_272 : decode cX11_hasValue 272 = .ok (.iaload, 1) := by decide +kernel
theorem dX11_hasValue_273 : decode cX11_hasValue 273 = .ok (.iload_n 2, 1) := by decide +kernel
theorem dX11_hasValue_274 : decode cX11_hasValue 274 = .ok (.invokevirtual 349, 3) := by decide +kernel
theorem dX11_hasValue_277 : decode cX11_hasValue 277 = .ok (.goto 384, 3) := by decide +kernel
theorem dX11_hasValue_280 : decode cX11_hasValue 280 = .ok (.iload 4, 2) := by decide +kernel
theorem dX11_hasValue_282 : decode cX11_hasValue 282 = .ok (.ifCond .ne 31, 3) := by decide +kernel
theorem dX11_hasValue_285 : decode cX11_hasValue 285 = .ok (.aload_n 0, 1) := by decide +kernel
theorem dX11_hasValue_286 : decode cX11_hasValue 286 = .ok (.iload_n 2, 1) := by decide +kernel
theorem dX11_hasValue_287 : decode cX11_hasValue 287 = .ok (.ifCond .ne 12, 3) := by decide +kernel
theorem dX11_hasValue_290 : decode cX11_hasValue 290 = .ok (.aload_n 0, 1) := by decide +kernel
theorem dX11_hasValue_291 : decode cX11_hasValue 291 = .ok (.getfield 19, 3) := by decide +kernel
theorem dX11_hasValue_294 : decode cX11_hasValue 294 = .ok (.iload_n 3, 1) := by decide +kernel
theorem dX11_hasValue_295 : decode cX11_hasValue 295 = .ok (.iaload, 1) := by decide +kernel
theorem dX11_hasValue_296 : decode cX11_hasValue 296 = .ok (.goto 9, 3) := by decide +kernel
theorem dX11_hasValue_299 : decode cX11_hasValue 299 = .ok (.aload_n 0, 1) := by decide +kernel
theorem dX11_hasValue_300 : decode cX11_hasValue 300 = .ok (.getfield 16, 3) := by decide +kernel
theorem dX11_hasValue_303 : decode cX11_hasValue 303 = .ok (.iload_n 3, 1) := by decide +kernel
theorem dX11_hasValue_304 : decode cX11_hasValue 304 = .ok (.iaload, 1) := by decide +kernel
theorem dX11_hasValue_305 : decode cX11_hasValue 305 = .ok (.iload_n 1, 1) := by decide +kernel
theorem dX11_hasValue_306 : decode cX11_hasValue 306 = .ok (.iconst 1, 1) := by decide +kernel
theorem dX11_hasValue_307 : decode cX11_hasValue 307 = .ok (.invokevirtual 273, 3) := by decide +kernel
theorem dX11_hasValue_310 : decode cX11_hasValue 310 = .ok (.goto 351, 3) := by decide +kernel
theorem dX11_hasValue_313 : decode cX11_hasValue 313 = .ok (.aload_n 0, 1) := by decide +kernel
theorem dX11_hasValue_314 : decode cX11_hasValue 314 = .ok (.iload_n 1, 1) := by decide +kernel
theorem dX11_hasValue_315 : decode cX11_hasValue 315 = .ok (.iload_n 2, 1) := by decide +kernel
theorem dX11_hasValue_316 : decode cX11_hasValue 316 = .ok (.invokevirtual 262, 3) := by decide +kernel
theorem dX11_hasValue_319 : decode cX11_hasValue 319 = .ok (.goto 342, 3) := by decide +kernel
theorem dX11_hasValue_322 : decode cX11_hasValue 322 = .ok (.iload 4, 2) := by decide +kernel
theorem dX11_hasValue_324 : decode cX11_hasValue 324 = .ok (.ifCond .ne 18, 3) := by decide +kernel
theorem dX11_hasValue_327 : decode cX11_hasValue 327 = .ok (.aload_n 0, 1) := by decide +kernel
theorem dX11_hasValue_328 : decode cX11_hasValue 328 = .ok (.aload_n 0, 1) := by decide +kernel
theorem dX11_hasValue_329 : decode cX11_hasValue 329 = .ok (.getfield 16, 3) := by decide +kernel
theorem dX11_hasValue_332 : decode cX11_hasValue 332 = .ok (.iload_n 3, 1) := by decide +kernel
theorem dX11_hasValue_333 : decode cX11_hasValue 333 = .ok (.iaload, 1) := by decide +kernel
theorem dX11_hasValue_334 : decode cX11_hasValue 334 = .ok (.iload_n 1, 1) := by decide +kernel
theorem dX11_hasValue_335 : decode cX11_hasValue 335 = .ok (.iconst 1, 1) := by decide +kernel
theorem dX11_hasValue_336 : decode cX11_hasValue 336 = .ok (.invokevirtual 273, 3) := by decide +kernel
theorem dX11_hasValue_339 : decode cX11_hasValue 339 = .ok (.goto 322, 3) := by decide +kernel
theorem dX11_hasValue_342 : decode cX11_hasValue 342 = .ok (.aload_n 0, 1) := by decide +kernel
theorem dX11_hasValue_343 : decode cX11_hasValue 343 = .ok (.iload_n 1, 1) := by decide +kernel
theorem dX11_hasValue_344 : decode cX11_hasValue 344 = .ok (.iload_n 2, 1) := by decide +kernel
theorem dX11_hasValue_345 : decode cX11_hasValue 345 = .ok (.invokevirtual 262, 3) := by decide +kernel
theorem dX11_hasValue_348 : decode cX11_hasValue 348 = .ok (.goto 313, 3) := by decide +kernel
theorem dX11_hasValue_351 : decode cX11_hasValue 351 = .ok (.aload_n 0, 1) := by decide +kernel
theorem dX11_hasValue_352 : decode cX11_hasValue 352 = .ok (.aload_n 0, 1) := by decide +kernel
theorem dX11_hasValue_353 : decode cX11_hasValue 353 = .ok (.getfield 16, 3) := by decide +kernel
theorem dX11_hasValue_356 : decode cX11_hasValue 356 = .ok (.iload_n 3, 1) := by decide +kernel
theorem dX11_hasValue_357 : decode cX11_hasValue 357 = .ok (.iaload, 1) := by decide +kernel
theorem dX11_hasValue_358 : decode cX11_hasValue 358 = .ok (.iload_n 1, 1) := by decide +kernel
theorem dX11_hasValue_359 : decode cX11_hasValue 359 = .ok (.aload_n 0, 1) := by decide +kernel
theorem dX11_hasValue_360 : decode cX11_hasValue 360 = .ok (.aload_n 0, 1) := by decide +kernel
theorem dX11_hasValue_361 : decode cX11_hasValue 361 = .ok (.getfield 75, 3) := by decide +kernel
theorem dX11_hasValue_364 : decode cX11_hasValue 364 = .ok (.iload_n 1, 1) := by decide +kernel
theorem dX11_hasValue_365 : decode cX11_hasValue 365 = .ok (.iaload, 1) := by decide +kernel
theorem dX11_hasValue_366 : decode cX11_hasValue 366 = .ok (.invokevirtual 244, 3) := by decide +kernel
theorem dX11_hasValue_369 : decode cX11_hasValue 369 = .ok (.invokevirtual 205, 3) := by decide +kernel
theorem dX11_hasValue_372 : decode cX11_hasValue 372 = .ok (.goto 289, 3) := by decide +kernel
theorem dX11_hasValue_375 : decode cX11_hasValue 375 = .ok (.aload_n 0, 1) := by decide +kernel
theorem dX11_hasValue_376 : decode cX11_hasValue 376 = .ok (.iload_n 1, 1) := by decide +kernel
theorem dX11_hasValue_377 : decode cX11_hasValue 377 = .ok (.iconst 3, 1) := by decide +kernel
theorem dX11_hasValue_378 : decode cX11_hasValue 378 = .ok (.aload_n 0, 1) := by decide +kernel
theorem dX11_hasValue_379 : decode cX11_hasValue 379 = .ok (.getfield 13, 3) := by decide +kernel
theorem dX11_hasValue_382 : decode cX11_hasValue 382 = .ok (.iload_n 3, 1) := by decide +kernel
theorem dX11_hasValue_383 : decode cX11_hasValue 383 = .ok (.iaload, 1) := by decide +kernel
theorem dX11_hasValue_384 : decode cX11_hasValue 384 = .ok (.iload_n 2, 1) := by decide +kernel
theorem dX11_hasValue_385 : decode cX11_hasValue 385 = .ok (.invokevirtual 285, 3) := by decide +kernel
theorem dX11_hasValue_388 : decode cX11_hasValue 388 = .ok (.goto 273, 3) := by decide +kernel
theorem dX11_hasValue_391 : decode cX11_hasValue 391 = .ok (.iload 4, 2) := by decide +kernel
theorem dX11_hasValue_393 : decode cX11_hasValue 393 = .ok (.ifCond .ne 25, 3) := by decide +kernel
theorem dX11_hasValue_396 : decode cX11_hasValue 396 = .ok (.aload_n 0, 1) := by decide +kernel
theorem dX11_hasValue_397 : decode cX11_hasValue 397 = .ok (.getfield 81, 3) := by decide +kernel
theorem dX11_hasValue_400 : decode cX11_hasValue 400 = .ok (.iload_n 1, 1) := by decide +kernel
theorem dX11_hasValue_401 : decode cX11_hasValue 401 = .ok (.iload_n 2, 1) := by decide +kernel
theorem dX11_hasValue_402 : decode cX11_hasValue 402 = .ok (.iastore, 1) := by decide +kernel
theorem dX11_hasValue_403 : decode cX11_hasValue 403 = .ok (.aload_n 0, 1) := by decide +kernel
theorem dX11_hasValue_404 : decode cX11_hasValue 404 = .ok (.aload_n 0, 1) := by decide +kernel
theorem dX11_hasValue_405 : decode cX11_hasValue 405 = .ok (.getfield 16, 3) := by decide +kernel
theorem dX11_hasValue_408 : decode cX11_hasValue 408 = .ok (.iload_n 3, 1) := by decide +kernel
theorem dX11_hasValue_409 : decode cX11_hasValue 409 = .ok (.iaload, 1) := by decide +kernel
theorem dX11_hasValue_410 : decode cX11_hasValue 410 = .ok (.iload_n 1, 1) := by decide +kernel
theorem dX11_hasValue_411 : decode cX11_hasValue 411 = .ok (.iconst 1, 1) := by decide +kernel
theorem dX11_hasValue_412 : decode cX11_hasValue 412 = .ok (.invokevirtual 273, 3) := by decide +kernel
theorem dX11_hasValue_415 : decode cX11_hasValue 415 = .ok (.goto 246, 3) := by decide +kernel
theorem dX11_hasValue_418 : decode cX11_hasValue 418 = .ok (.aload_n 0, 1) := by decide +kernel
theorem dX11_hasValue_419 : decode cX11_hasValue 419 = .ok (.iload_n 1, 1) := by decide +kernel
theorem dX11_hasValue_420 : decode cX11_hasValue 420 = .ok (.aload_n 0, 1) := by decide +kernel
theorem dX11_hasValue_421 : decode cX11_hasValue 421 = .ok (.getfield 81, 3) := by decide +kernel
theorem dX11_hasValue_424 : decode cX11_hasValue 424 = .ok (.iload_n 1, 1) := by decide +kernel
theorem dX11_hasValue_425 : decode cX11_hasValue 425 = .ok (.iaload, 1) := by decide +kernel
theorem dX11_hasValue_426 : decode cX11_hasValue 426 = .ok (.iload_n 2, 1) := by decide +kernel
theorem dX11_hasValue_427 : decode cX11_hasValue 427 = .ok (.invokevirtual 352, 3) := by decide +kernel
theorem dX11_hasValue_430 : decode cX11_hasValue 430 = .ok (.goto 231, 3) := by decide +kernel
theorem dX11_hasValue_433 : decode cX11_hasValue 433 = .ok (.aload_n 0, 1) := by decide +kernel
theorem dX11_hasValue_434 : decode cX11_hasValue 434 = .ok (.iload_n 1, 1) := by decide +kernel
theorem dX11_hasValue_435 : decode cX11_hasValue 435 = .ok (.iload_n 3, 1) := by decide +kernel
theorem dX11_hasValue_436 : decode cX11_hasValue 436 = .ok (.iload 4, 2) := by decide +kernel
theorem dX11_hasValue_438 : decode cX11_hasValue 438 = .ok (.iload_n 2, 1) := by decide +kernel
theorem dX11_hasValue_439 : decode cX11_hasValue 439 = .ok (.invokevirtual 355, 3) := by decide +kernel
theorem dX11_hasValue_442 : decode cX11_hasValue 442 = .ok (.goto 219, 3) := by decide +kernel
theorem dX11_hasValue_445 : decode cX11_hasValue 445 = .ok (.aload_n 0, 1) := by decide +kernel
theorem dX11_hasValue_446 : decode cX11_hasValue 446 = .ok (.getfield 78, 3) := by decide +kernel
theorem dX11_hasValue_449 : decode cX11_hasValue 449 = .ok (.aload_n 0, 1) := by decide +kernel
theorem dX11_hasValue_450 : decode cX11_hasValue 450 = .ok (.iload_n 1, 1) := by decide +kernel
theorem dX11_hasValue_451 : decode cX11_hasValue 451 = .ok (.invokevirtual 331, 3) := by decide +kernel
theorem dX11_hasValue_454 : decode cX11_hasValue 454 = .ok (.iaload, 1) := by decide +kernel
theorem dX11_hasValue_455 : decode cX11_hasValue 455 = .ok (.iconst 1, 1) := by decide +kernel
theorem dX11_hasValue_456 : decode cX11_hasValue 456 = .ok (.if_icmp .eq 17, 3) := by decide +kernel
theorem dX11_hasValue_459 : decode cX11_hasValue 459 = .ok (.aload_n 0, 1) := by decide +kernel
theorem dX11_hasValue_460 : decode cX11_hasValue 460 = .ok (.getfield 78, 3) := by decide +kernel
theorem dX11_hasValue_463 : decode cX11_hasValue 463 = .ok (.aload_n 0, 1) := by decide +kernel
theorem dX11_hasValue_464 : decode cX11_hasValue 464 = .ok (.iload_n 1, 1) := by decide +kernel
theorem dX11_hasValue_465 : decode cX11_hasValue 465 = .ok (.invokevirtual 331, 3) := by decide +kernel
theorem dX11_hasValue_468 : decode cX11_hasValue 468 = .ok (.iaload, 1) := by decide +kernel
theorem dX11_hasValue_469 : decode cX11_hasValue 469 = .ok (.iconst 2, 1) := by decide +kernel
theorem dX11_hasValue_470 : decode cX11_hasValue 470 = .ok (.if_icmp .ne 14, 3) := by decide +kernel
theorem dX11_hasValue_473 : decode cX11_hasValue 473 = .ok (.aload_n 0, 1) := by decide +kernel
theorem dX11_hasValue_474 : decode cX11_hasValue 474 = .ok (.iload_n 1, 1) := by decide +kernel
theorem dX11_hasValue_475 : decode cX11_hasValue 475 = .ok (.iconst 5, 1) := by decide +kernel
theorem dX11_hasValue_476 : decode cX11_hasValue 476 = .ok (.iconst 0, 1) := by decide +kernel
theorem dX11_hasValue_477 : decode cX11_hasValue 477 = .ok (.iload_n 2, 1) := by decide +kernel
theorem dX11_hasValue_478 : decode cX11_hasValue 478 = .ok (.invokevirtual 319, 3) := by decide +kernel
theorem dX11_hasValue_481 : decode cX11_hasValue 481 = .ok (.goto 180, 3) := by decide +kernel
theorem dX11_hasValue_484 : decode cX11_hasValue 484 = .ok (.aload_n 0, 1) := by decide +kernel
theorem dX11_hasValue_485 : decode cX11_hasValue 485 = .ok (.iload_n 1, 1) := by decide +kernel
theorem dX11_hasValue_486 : decode cX11_hasValue 486 = .ok (.bipush (-6), 2) := by decide +kernel
theorem dX11_hasValue_488 : decode cX11_hasValue 488 = .ok (.invokevirtual 237, 3) := by decide +kernel
theorem dX11_hasValue_491 : decode cX11_hasValue 491 = .ok (.goto 170, 3) := by decide +kernel
theorem dX11_hasValue_494 : decode cX11_hasValue 494 = .ok (.iload 4, 2) := by decide +kernel
theorem dX11_hasValue_496 : decode cX11_hasValue 496 = .ok (.ifCond .ne 12, 3) := by decide +kernel
theorem dX11_hasValue_499 : decode cX11_hasValue 499 = .ok (.aload_n 0, 1) := by decide +kernel
theorem dX11_hasValue_500 : decode cX11_hasValue 500 = .ok (.iload_n 1, 1) := by decide +kernel
theorem dX11_hasValue_501 : decode cX11_hasValue 501 = .ok (.iload_n 3, 1) := by decide +kernel
theorem dX11_hasValue_502 : decode cX11_hasValue 502 = .ok (.invokevirtual 358, 3) := by decide +kernel
theorem dX11_hasValue_505 : decode cX11_hasValue 505 = .ok (.goto 156, 3) := by decide +kernel
theorem dX11_hasValue_508 : decode cX11_hasValue 508 = .ok (.aload_n 0, 1) := by decide +kernel
theorem dX11_hasValue_509 : decode cX11_hasValue 509 = .ok (.iload_n 1, 1) := by decide +kernel
theorem dX11_hasValue_510 : decode cX11_hasValue 510 = .ok (.invokevirtual 361, 3) := by decide +kernel
theorem dX11_hasValue_513 : decode cX11_hasValue 513 = .ok (.goto 148, 3) := by decide +kernel
theorem dX11_hasValue_516 : decode cX11_hasValue 516 = .ok (.aload_n 0, 1) := by decide +kernel
theorem dX11_hasValue_517 : decode cX11_hasValue 517 = .ok (.iload_n 1, 1) := by decide +kernel
theorem dX11_hasValue_518 : decode cX11_hasValue 518 = .ok (.iload_n 2, 1) := by decide +kernel
theorem dX11_hasValue_519 : decode cX11_hasValue 519 = .ok (.invokevirtual 364, 3) := by decide +kernel
theorem dX11_hasValue_522 : decode cX11_hasValue 522 = .ok (.goto 139, 3) := by decide +kernel
theorem dX11_hasValue_525 : decode cX11_hasValue 525 = .ok (.aload_n 0, 1) := by decide +kernel
theorem dX11_hasValue_526 : decode cX11_hasValue 526 = .ok (.iload_n 1, 1) := by decide +kernel
theorem dX11_hasValue_527 : decode cX11_hasValue 527 = .ok (.iload_n 2, 1) := by decide +kernel
theorem dX11_hasValue_528 : decode cX11_hasValue 528 = .ok (.invokevirtual 367, 3) := by decide +kernel
theorem dX11_hasValue_531 : decode cX11_hasValue 531 = .ok (.goto 130, 3) := by decide +kernel
theorem dX11_hasValue_534 : decode cX11_hasValue 534 = .ok (.iload 4, 2) := by decide +kernel
theorem dX11_hasValue_536 : decode cX11_hasValue 536 = .ok (.ifCond .ne 47, 3) := by decide +kernel
theorem dX11_hasValue_539 : decode cX11_hasValue 539 = .ok (.aload_n 0, 1) := by decide +kernel
theorem dX11_hasValue_540 : decode cX11_hasValue 540 = .ok (.getfield 81, 3) := by decide +kernel
theorem dX11_hasValue_543 : decode cX11_hasValue 543 = .ok (.iload_n 1, 1) := by decide +kernel
theorem dX11_hasValue_544 : decode cX11_hasValue 544 = .ok (.aload_n 0, 1) := by decide +kernel
theorem dX11_hasValue_545 : decode cX11_hasValue 545 = .ok (.getfield 38, 3) := by decide +kernel
theorem dX11_hasValue_548 : decode cX11_hasValue 548 = .ok (.aload_n 0, 1) := by decide +kernel
theorem dX11_hasValue_549 : decode cX11_hasValue 549 = .ok (.getfield 13, 3) := by decide +kernel
theorem dX11_hasValue_552 : decode cX11_hasValue 552 = .ok (.iload_n 3, 1) := by decide +kernel
theorem dX11_hasValue_553 : decode cX11_hasValue 553 = .ok (.iaload, 1) := by decide +kernel
theorem dX11_hasValue_554 : decode cX11_hasValue 554 = .ok (.iaload, 1) := by decide +kernel
theorem dX11_hasValue_555 : decode cX11_hasValue 555 = .ok (.iastore, 1) := by decide +kernel
theorem dX11_hasValue_556 : decode cX11_hasValue 556 = .ok (.aload_n 0, 1) := by decide +kernel
theorem dX11_hasValue_557 : decode cX11_hasValue 557 = .ok (.getfield 38, 3) := by decide +kernel
theorem dX11_hasValue_560 : decode cX11_hasValue 560 = .ok (.aload_n 0, 1) := by decide +kernel
theorem dX11_hasValue_561 : decode cX11_hasValue 561 = .ok (.getfield 13, 3) := by decide +kernel
theorem dX11_hasValue_564 : decode cX11_hasValue 564 = .ok (.iload_n 3, 1) := by decide +kernel
theorem dX11_hasValue_565 : decode cX11_hasValue 565 = .ok (.iaload, 1) := by decide +kernel
theorem dX11_hasValue_566 : decode cX11_hasValue 566 = .ok (.iload_n 2, 1) := by decide +kernel
theorem dX11_hasValue_567 : decode cX11_hasValue 567 = .ok (.iastore, 1) := by decide +kernel
theorem dX11_hasValue_568 : decode cX11_hasValue 568 = .ok (.aload_n 0, 1) := by decide +kernel
theorem dX11_hasValue_569 : decode cX11_hasValue 569 = .ok (.aload_n 0, 1) := by decide +kernel
theorem dX11_hasValue_570 : decode cX11_hasValue 570 = .ok (.getfield 19, 3) := by decide +kernel
theorem dX11_hasValue_573 : decode cX11_hasValue 573 = .ok (.iload_n 3, 1) := by decide +kernel
theorem dX11_hasValue_574 : decode cX11_hasValue 574 = .ok (.iaload, 1) := by decide +kernel
theorem dX11_hasValue_575 : decode cX11_hasValue 575 = .ok (.iload_n 1, 1) := by decide +kernel
theorem dX11_hasValue_576 : decode cX11_hasValue 576 = .ok (.iconst 1, 1) := by decide +kernel
theorem dX11_hasValue_577 : decode cX11_hasValue 577 = .ok (.invokevirtual 273, 3) := by decide +kernel
theorem dX11_hasValue_580 : decode cX11_hasValue 580 = .ok (.goto 81, 3) := by decide +kernel
theorem dX11_hasValue_583 : decode cX11_hasValue 583 = .ok (.aload_n 0, 1) := by decide +kernel
theorem dX11_hasValue_584 : decode cX11_hasValue 584 = .ok (.getfield 38, 3) := by decide +kernel
theorem dX11_hasValue_587 : decode cX11_hasValue 587 = .ok (.aload_n 0, 1) := by decide +kernel
theorem dX11_hasValue_588 : decode cX11_hasValue 588 = .ok (.getfield 13, 3) := by decide +kernel
theorem dX11_hasValue_591 : decode cX11_hasValue 591 = .ok (.iload_n 3, 1) := by decide +kernel
theorem dX11_hasValue_592 : decode cX11_hasValue 592 = .ok (.iaload, 1) := by decide +kernel
theorem dX11_hasValue_593 : decode cX11_hasValue 593 = .ok (.aload_n 0, 1) := by decide +kernel
theorem dX11_hasValue_594 : decode cX11_hasValue 594 = .ok (.getfield 81, 3) := by decide +kernel
theorem dX11_hasValue_597 : decode cX11_hasValue 597 = .ok (.iload_n 1, 1) := by decide +kernel
theorem dX11_hasValue_598 : decode cX11_hasValue 598 = .ok (.iaload, 1) := by decide +kernel
theorem dX11_hasValue_599 : decode cX11_hasValue 599 = .ok (.iastore, 1) := by decide +kernel
theorem dX11_hasValue_600 : decode cX11_hasValue 600 = .ok (.aload_n 0, 1) := by decide +kernel
theorem dX11_hasValue_601 : decode cX11_hasValue 601 = .ok (.iload_n 1, 1) := by decide +kernel
theorem dX11_hasValue_602 : decode cX11_hasValue 602 = .ok (.iload_n 2, 1) := by decide +kernel
theorem dX11_hasValue_603 : decode cX11_hasValue 603 = .ok (.invokevirtual 262, 3) := by decide +kernel
theorem dX11_hasValue_606 : decode cX11_hasValue 606 = .ok (.goto 55, 3) := by decide +kernel
theorem dX11_hasValue_609 : decode cX11_hasValue 609 = .ok (.aload_n 0, 1) := by decide +kernel
theorem dX11_hasValue_610 : decode cX11_hasValue 610 = .ok (.getfield 78, 3) := by decide +kernel
theorem dX11_hasValue_613 : decode cX11_hasValue 613 = .ok (.iload_n 1, 1) := by decide +kernel
theorem dX11_hasValue_614 : decode cX11_hasValue 614 = .ok (.dup2, 1) := by decide +kernel
theorem dX11_hasValue_615 : decode cX11_hasValue 615 = .ok (.iaload, 1) := by decide +kernel
theorem dX11_hasValue_616 : decode cX11_hasValue 616 = .ok (.iconst 1, 1) := by decide +kernel
theorem dX11_hasValue_617 : decode cX11_hasValue 617 = .ok (.iadd, 1) := by decide +kernel
theorem dX11_hasValue_618 : decode cX11_hasValue 618 = .ok (.iastore, 1) := by decide +kernel
theorem dX11_hasValue_619 : decode cX11_hasValue 619 = .ok (.aload_n 0, 1) := by decide +kernel
theorem dX11_hasValue_620 : decode cX11_hasValue 620 = .ok (.iload_n 1, 1) := by decide +kernel
theorem dX11_hasValue_621 : decode cX11_hasValue 621 = .ok (.invokevirtual 307, 3) := by decide +kernel
theorem dX11_hasValue_624 : decode cX11_hasValue 624 = .ok (.goto 37, 3) := by decide +kernel
theorem dX11_hasValue_627 : decode cX11_hasValue 627 = .ok (.aload_n 0, 1) := by decide +kernel
theorem dX11_hasValue_628 : decode cX11_hasValue 628 = .ok (.iload_n 1, 1) := by decide +kernel
theorem dX11_hasValue_629 : decode cX11_hasValue 629 = .ok (.iload_n 2, 1) := by decide +kernel
theorem dX11_hasValue_630 : decode cX11_hasValue 630 = .ok (.invokevirtual 262, 3) := by decide +kernel
theorem dX11_hasValue_633 : decode cX11_hasValue 633 = .ok (.goto 28, 3) := by decide +kernel
theorem dX11_hasValue_636 : decode cX11_hasValue 636 = .ok (.iload_n 2, 1) := by decide +kernel
theorem dX11_hasValue_637 : decode cX11_hasValue 637 = .ok (.invokestatic 324, 3) := by decide +kernel
theorem dX11_hasValue_640 : decode cX11_hasValue 640 = .ok (.ifCond .eq 14, 3) := by decide +kernel
theorem dX11_hasValue_643 : decode cX11_hasValue 643 = .ok (.aload_n 0, 1) := by decide +kernel
theorem dX11_hasValue_644 : decode cX11_hasValue 644 = .ok (.iload_n 1, 1) := by decide +kernel
theorem dX11_hasValue_645 : decode cX11_hasValue 645 = .ok (.iload 5, 2) := by decide +kernel
theorem dX11_hasValue_647 : decode cX11_hasValue 647 = .ok (.iload_n 2, 1) := by decide +kernel
theorem dX11_hasValue_648 : decode cX11_hasValue 648 = .ok (.invokevirtual 370, 3) := by decide +kernel
theorem dX11_hasValue_651 : decode cX11_hasValue 651 = .ok (.goto 10, 3) := by decide +kernel
theorem dX11_hasValue_654 : decode cX11_hasValue 654 = .ok (.aload_n 0, 1) := by decide +kernel
theorem dX11_hasValue_655 : decode cX11_hasValue 655 = .ok (.iload_n 1, 1) := by decide +kernel
theorem dX11_hasValue_656 : decode cX11_hasValue 656 = .ok (.bipush (-3), 2) := by decide +kernel
theorem dX11_hasValue_658 : decode cX11_hasValue 658 = .ok (.invokevirtual 237, 3) := by decide +kernel
theorem dX11_hasValue_661 : decode cX11_hasValue 661 = .ok (.return_, 1) := by decide +kernel
theorem dX11_puts_0 : decode cX11_puts 0 = .ok (.iload_n 2, 1) := by decide +kernel
theorem dX11_puts_1 : decode cX11_puts 1 = .ok (.iconst (-1), 1) := by decide +kernel
theorem dX11_puts_2 : decode cX11_puts 2 = .ok (.if_icmp .ne 12, 3) := by decide +kernel
theorem dX11_puts_5 : decode cX11_puts 5 = .ok (.aload_n 0, 1) := by decide +kernel
theorem dX11_puts_6 : decode cX11_puts 6 = .ok (.iload_n 1, 1) := by decide +kernel
theorem dX11_puts_7 : decode cX11_puts 7 = .ok (.iconst (-1), 1) := by decide +kernel
theorem dX11_puts_8 : decode cX11_puts 8 = .ok (.invokevirtual 237, 3) := by decide +kernel
theorem dX11_puts_11 : decode cX11_puts 11 = .ok (.goto 16, 3) := by decide +kernel
theorem dX11_puts_14 : decode cX11_puts 14 = .ok (.aload_n 0, 1) := by decide +kernel
theorem dX11_puts_15 : decode cX11_puts 15 = .ok (.getfield 93, 3) := by decide +kernel
theorem dX11_puts_18 : decode cX11_puts 18 = .ok (.iload_n 2, 1) := by decide +kernel
theorem dX11_puts_19 : decode cX11_puts 19 = .ok (.iload_n 3, 1) := by decide +kernel
theorem dX11_puts_20 : decode cX11_puts 20 = .ok (.iastore, 1) := by decide +kernel
theorem dX11_puts_21 : decode cX11_puts 21 = .ok (.aload_n 0, 1) := by decide +kernel
theorem dX11_puts_22 : decode cX11_puts 22 = .ok (.iload_n 1, 1) := by decide +kernel
theorem dX11_puts_23 : decode cX11_puts 23 = .ok (.iload_n 3, 1) := by decide +kernel
theorem dX11_puts_24 : decode cX11_puts 24 = .ok (.invokevirtual 262, 3) := by decide +kernel
theorem dX11_puts_27 : decode cX11_puts 27 = .ok (.return_, 1) := by decide +kernel
theorem dX11_hasArgument_0 : decode cX11_hasArgument 0 = .ok (.iload_n 3, 1) := by decide +kernel
theorem dX11_hasArgument_1 : decode cX11_hasArgument 1 = .ok (.iconst 1, 1) := by decide +kernel
theorem dX11_hasArgument_2 : decode cX11_hasArgument 2 = .ok (.if_icmp .ne 24, 3) := by decide +kernel
theorem dX11_hasArgument_5 : decode cX11_hasArgument 5 = .ok (.aload_n 0, 1) := by decide +kernel
theorem dX11_hasArgument_6 : decode cX11_hasArgument 6 = .ok (.iload_n 1, 1) := by decide +kernel
theorem dX11_hasArgument_7 : decode cX11_hasArgument 7 = .ok (.aload_n 0, 1) := by decide +kernel
theorem dX11_hasArgument_8 : decode cX11_hasArgument 8 = .ok (.getfield 13, 3) := by decide +kernel
theorem dX11_hasArgument_11 : decode cX11_hasArgument 11 = .ok (.iload_n 2, 1) := by decide +kernel
theorem dX11_hasArgument_12 : decode cX11_hasArgument 12 = .ok (.iaload, 1) := by decide +kernel
theorem dX11_hasArgument_13 : decode cX11_hasArgument 13 = .ok (.iconst 2, 1) := by decide +kernel
theorem dX11_hasArgument_14 : decode cX11_hasArgument 14 = .ok (.aload_n 0, 1) := by decide +kernel
theorem dX11_hasArgument_15 : decode cX11_hasArgument 15 = .ok (.getfield 81, 3) := by decide +kernel
theorem dX11_hasArgument_18 : decode cX11_hasArgument 18 = .ok (.iload_n 1, 1) := by decide +kernel
theorem dX11_hasArgument_19 : decode cX11_hasArgument 19 = .ok (.iaload, 1) := by decide +kernel
theorem dX11_hasArgument_20 : decode cX11_hasArgument 20 = .ok (.iload 4, 2) := by decide +kernel
theorem dX11_hasArgument_22 : decode cX11_hasArgument 22 = .ok (.invokevirtual 269, 3) := by decide +kernel
theorem dX11_hasArgument_25 : decode cX11_hasArgument 25 = .ok (.return_, 1) := by decide +kernel
theorem dX11_hasArgument_26 : decode cX11_hasArgument 26 = .ok (.aload_n 0, 1) := by decide +kernel
theorem dX11_hasArgument_27 : decode cX11_hasArgument 27 = .ok (.getfield 81, 3) := by decide +kernel
theorem dX11_hasArgument_30 : decode cX11_hasArgument 30 = .ok (.iload_n 1, 1) := by decide +kernel
theorem dX11_hasArgument_31 : decode cX11_hasArgument 31 = .ok (.iload 4, 2) := by decide +kernel
