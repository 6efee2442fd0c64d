theorem dX11_hasArgument_33 : decode cX11_hasArgument 33 = .ok (.iastore, 1) := by decide +kernel
theorem dX11_hasArgument_34 : decode cX11_hasArgument 34 = .ok (.aload_n 0, 1) := by decide +kernel
theorem dX11_hasArgument_35 : decode cX11_hasArgument 35 = .ok (.getfield 19, 3) := by decide +kernel
theorem dX11_hasArgument_38 : decode cX11_hasArgument 38 = .ok (.iload_n 2, 1) := by decide +kernel
theorem dX11_hasArgument_39 : decode cX11_hasArgument 39 = .ok (.iaload, 1) := by decide +kernel
theorem dX11_hasArgument_40 : decode cX11_hasArgument 40 = .ok (.iconst (-1), 1) := by decide +kernel
theorem dX11_hasArgument_41 : decode cX11_hasArgument 41 = .ok (.if_icmp .ne 21, 3) := by decide +kernel
theorem dX11_hasArgument_44 : decode cX11_hasArgument 44 = .ok (.aload_n 0, 1) := by decide +kernel
theorem dX11_hasArgument_45 : decode cX11_hasArgument 45 = .ok (.iload_n 1, 1) := by decide +kernel
theorem dX11_hasArgument_46 : decode cX11_hasArgument 46 = .ok (.aload_n 0, 1) := by decide +kernel
theorem dX11_hasArgument_47 : decode cX11_hasArgument 47 = .ok (.getfield 13, 3) := by decide +kernel
theorem dX11_hasArgument_50 : decode cX11_hasArgument 50 = .ok (.iload_n 2, 1) := by decide +kernel
theorem dX11_hasArgument_51 : decode cX11_hasArgument 51 = .ok (.iaload, 1) := by decide +kernel
theorem dX11_hasArgument_52 : decode cX11_hasArgument 52 = .ok (.iconst 1, 1) := by decide +kernel
theorem dX11_hasArgument_53 : decode cX11_hasArgument 53 = .ok (.iload 4, 2) := by decide +kernel
theorem dX11_hasArgument_55 : decode cX11_hasArgument 55 = .ok (.iconst 0, 1) := by decide +kernel
theorem dX11_hasArgument_56 : decode cX11_hasArgument 56 = .ok (.invokevirtual 269, 3) := by decide +kernel
theorem dX11_hasArgument_59 : decode cX11_hasArgument 59 = .ok (.goto 15, 3) := by decide +kernel
theorem dX11_hasArgument_62 : decode cX11_hasArgument 62 = .ok (.aload_n 0, 1) := by decide +kernel
theorem dX11_hasArgument_63 : decode cX11_hasArgument 63 = .ok (.aload_n 0, 1) := by decide +kernel
theorem dX11_hasArgument_64 : decode cX11_hasArgument 64 = .ok (.getfield 19, 3) := by decide +kernel
theorem dX11_hasArgument_67 : decode cX11_hasArgument 67 = .ok (.iload_n 2, 1) := by decide +kernel
theorem dX11_hasArgument_68 : decode cX11_hasArgument 68 = .ok (.iaload, 1) := by decide +kernel
theorem dX11_hasArgument_69 : decode cX11_hasArgument 69 = .ok (.iload_n 1, 1) := by decide +kernel
theorem dX11_hasArgument_70 : decode cX11_hasArgument 70 = .ok (.iconst 1, 1) := by decide +kernel
theorem dX11_hasArgument_71 : decode cX11_hasArgument 71 = .ok (.invokevirtual 273, 3) := by decide +kernel
theorem dX11_hasArgument_74 : decode cX11_hasArgument 74 = .ok (.return_, 1) := by decide +kernel
theorem dX11_waits_0 : decode cX11_waits 0 = .ok (.bipush 6, 2) := by decide +kernel
theorem dX11_waits_2 : decode cX11_waits 2 = .ok (.aload_n 0, 1) := by decide +kernel
theorem dX11_waits_3 : decode cX11_waits 3 = .ok (.getfield 373, 3) := by decide +kernel
theorem dX11_waits_6 : decode cX11_waits 6 = .ok (.imul, 1) := by decide +kernel
theorem dX11_waits_7 : decode cX11_waits 7 = .ok (.istore_n 3, 1) := by decide +kernel
theorem dX11_waits_8 : decode cX11_waits 8 = .ok (.aload_n 0, 1) := by decide +kernel
theorem dX11_waits_9 : decode cX11_waits 9 = .ok (.getfield 117, 3) := by decide +kernel
theorem dX11_waits_12 : decode cX11_waits 12 = .ok (.iload_n 3, 1) := by decide +kernel
theorem dX11_waits_13 : decode cX11_waits 13 = .ok (.aload_n 0, 1) := by decide +kernel
theorem dX11_waits_14 : decode cX11_waits 14 = .ok (.getfield 202, 3) := by decide +kernel
theorem dX11_waits_17 : decode cX11_waits 17 = .ok (.iastore, 1) := by decide +kernel
theorem dX11_waits_18 : decode cX11_waits 18 = .ok (.aload_n 0, 1) := by decide +kernel
theorem dX11_waits_19 : decode cX11_waits 19 = .ok (.getfield 117, 3) := by decide +kernel
theorem dX11_waits_22 : decode cX11_waits 22 = .ok (.iload_n 3, 1) := by decide +kernel
theorem dX11_waits_23 : decode cX11_waits 23 = .ok (.iconst 1, 1) := by decide +kernel
theorem dX11_waits_24 : decode cX11_waits 24 = .ok (.iadd, 1) := by decide +kernel
theorem dX11_waits_25 : decode cX11_waits 25 = .ok (.aload_n 0, 1) := by decide +kernel
theorem dX11_waits_26 : decode cX11_waits 26 = .ok (.getfield 209, 3) := by decide +kernel
theorem dX11_waits_29 : decode cX11_waits 29 = .ok (.iastore, 1) := by decide +kernel
theorem dX11_waits_30 : decode cX11_waits 30 = .ok (.aload_n 0, 1) := by decide +kernel
theorem dX11_waits_31 : decode cX11_waits 31 = .ok (.getfield 117, 3) := by decide +kernel
theorem dX11_waits_34 : decode cX11_waits 34 = .ok (.iload_n 3, 1) := by decide +kernel
theorem dX11_waits_35 : decode cX11_waits 35 = .ok (.iconst 2, 1) := by decide +kernel
theorem dX11_waits_36 : decode cX11_waits 36 = .ok (.iadd, 1) := by decide +kernel
theorem dX11_waits_37 : decode cX11_waits 37 = .ok (.aload_n 0, 1) := by decide +kernel
theorem dX11_waits_38 : decode cX11_waits 38 = .ok (.getfield 231, 3) := by decide +kernel
theorem dX11_waits_41 : decode cX11_waits 41 = .ok (.iastore, 1) := by decide +kernel
theorem dX11_waits_42 : decode cX11_waits 42 = .ok (.aload_n 0, 1) := by decide +kernel
theorem dX11_waits_43 : decode cX11_waits 43 = .ok (.getfield 117, 3) := by decide +kernel
theorem dX11_waits_46 : decode cX11_waits 46 = .ok (.iload_n 3, 1) := by decide +kernel
theorem dX11_waits_47 : decode cX11_waits 47 = .ok (.iconst 3, 1) := by decide +kernel
theorem dX11_waits_48 : decode cX11_waits 48 = .ok (.iadd, 1) := by decide +kernel
theorem dX11_waits_49 : decode cX11_waits 49 = .ok (.aload_n 0, 1) := by decide +kernel
theorem dX11_waits_50 : decode cX11_waits 50 = .ok (.getfield 215, 3) := by decide +kernel
theorem dX11_waits_53 : decode cX11_waits 53 = .ok (.iastore, 1) := by decide +kernel
theorem dX11_waits_54 : decode cX11_waits 54 = .ok (.aload_n 0, 1) := by decide +kernel
theorem dX11_waits_55 : decode cX11_waits 55 = .ok (.getfield 117, 3) := by decide +kernel
theorem dX11_waits_58 : decode cX11_waits 58 = .ok (.iload_n 3, 1) := by decide +kernel
theorem dX11_waits_59 : decode cX11_waits 59 = .ok (.iconst 4, 1) := by decide +kernel
theorem dX11_waits_60 : decode cX11_waits 60 = .ok (.iadd, 1) := by decide +kernel
theorem dX11_waits_61 : decode cX11_waits 61 = .ok (.aload_n 0, 1) := by decide +kernel
theorem dX11_waits_62 : decode cX11_waits 62 = .ok (.getfield 218, 3) := by decide +kernel
theorem dX11_waits_65 : decode cX11_waits 65 = .ok (.iastore, 1) := by decide +kernel
theorem dX11_waits_66 : decode cX11_waits 66 = .ok (.aload_n 0, 1) := by decide +kernel
theorem dX11_waits_67 : decode cX11_waits 67 = .ok (.getfield 117, 3) := by decide +kernel
theorem dX11_waits_70 : decode cX11_waits 70 = .ok (.iload_n 3, 1) := by decide +kernel
theorem dX11_waits_71 : decode cX11_waits 71 = .ok (.iconst 5, 1) := by decide +kernel
theorem dX11_waits_72 : decode cX11_waits 72 = .ok (.iadd, 1) := by decide +kernel
theorem dX11_waits_73 : decode cX11_waits 73 = .ok (.aload_n 0, 1) := by decide +kernel
theorem dX11_waits_74 : decode cX11_waits 74 = .ok (.getfield 224, 3) := by decide +kernel
theorem dX11_waits_77 : decode cX11_waits 77 = .ok (.iastore, 1) := by decide +kernel
theorem dX11_waits_78 : decode cX11_waits 78 = .ok (.aload_n 0, 1) := by decide +kernel
theorem dX11_waits_79 : decode cX11_waits 79 = .ok (.getfield 81, 3) := by decide +kernel
theorem dX11_waits_82 : decode cX11_waits 82 = .ok (.iload_n 1, 1) := by decide +kernel
theorem dX11_waits_83 : decode cX11_waits 83 = .ok (.iload_n 3, 1) := by decide +kernel
theorem dX11_waits_84 : decode cX11_waits 84 = .ok (.iastore, 1) := by decide +kernel
theorem dX11_waits_85 : decode cX11_waits 85 = .ok (.aload_n 0, 1) := by decide +kernel
theorem dX11_waits_86 : decode cX11_waits 86 = .ok (.dup, 1) := by decide +kernel
theorem dX11_waits_87 : decode cX11_waits 87 = .ok (.getfield 373, 3) := by decide +kernel
theorem dX11_waits_90 : decode cX11_waits 90 = .ok (.iconst 1, 1) := by decide +kernel
theorem dX11_waits_91 : decode cX11_waits 91 = .ok (.iadd, 1) := by decide +kernel
theorem dX11_waits_92 : decode cX11_waits 92 = .ok (.putfield 373, 3) := by decide +kernel
theorem dX11_waits_95 : decode cX11_waits 95 = .ok (.aload_n 0, 1) := by decide +kernel
theorem dX11_waits_96 : decode cX11_waits 96 = .ok (.aload_n 0, 1) := by decide +kernel
theorem dX11_waits_97 : decode cX11_waits 97 = .ok (.getfield 16, 3) := by decide +kernel
theorem dX11_waits_100 : decode cX11_waits 100 = .ok (.iload_n 2, 1) := by decide +kernel
theorem dX11_waits_101 : decode cX11_waits 101 = .ok (.iaload, 1) := by decide +kernel
theorem dX11_waits_102 : decode cX11_waits 102 = .ok (.iload_n 1, 1) := by decide +kernel
theorem dX11_waits_103 : decode cX11_waits 103 = .ok (.iconst 1, 1) := by decide +kernel
theorem dX11_waits_104 : decode cX11_waits 104 = .ok (.invokevirtual 273, 3) := by decide +kernel
theorem dX11_waits_107 : decode cX11_waits 107 = .ok (.return_, 1) := by decide +kernel
theorem dX11_isOver_0 : decode cX11_isOver 0 = .ok (.aload_n 0, 1) := by decide +kernel
theorem dX11_isOver_1 : decode cX11_isOver 1 = .ok (.getfield 81, 3) := by decide +kernel
theorem dX11_isOver_4 : decode cX11_isOver 4 = .ok (.iload_n 1, 1) := by decide +kernel
theorem dX11_isOver_5 : decode cX11_isOver 5 = .ok (.iaload, 1) := by decide +kernel
theorem dX11_isOver_6 : decode cX11_isOver 6 = .ok (.istore_n 2, 1) := by decide +kernel
theorem dX11_isOver_7 : decode cX11_isOver 7 = .ok (.aload_n 0, 1) := by decide +kernel
theorem dX11_isOver_8 : decode cX11_isOver 8 = .ok (.aload_n 0, 1) := by decide +kernel
theorem dX11_isOver_9 : decode cX11_isOver 9 = .ok (.getfield 117, 3) := by decide +kernel
theorem dX11_isOver_12 : decode cX11_isOver 12 = .ok (.iload_n 2, 1) := by decide +kernel
theorem dX11_isOver_13 : decode cX11_isOver 13 = .ok (.iaload, 1) := by decide +kernel
theorem dX11_isOver_14 : decode cX11_isOver 14 = .ok (.putfield 202, 3) := by decide +kernel
theorem dX11_isOver_17 : decode cX11_isOver 17 = .ok (.aload_n 0, 1) := by decide +kernel
theorem dX11_isOver_18 : decode cX11_isOver 18 = .ok (.aload_n 0, 1) := by decide +kernel
theorem dX11_isOver_19 : decode cX11_isOver 19 = .ok (.getfield 117, 3) := by decide +kernel
theorem dX11_isOver_22 : decode cX11_isOver 22 = .ok (.iload_n 2, 1) := by decide +kernel
theorem dX11_isOver_23 : decode cX11_isOver 23 = .ok (.iconst 1, 1) := by decide +kernel
theorem dX11_isOver_24 : decode cX11_isOver 24 = .ok (.iadd, 1) := by decide +kernel
theorem dX11_isOver_25 : decode cX11_isOver 25 = .ok (.iaload, 1) := by decide +kernel
theorem dX11_isOver_26 : decode cX11_isOver 26 = .ok (.putfield 209, 3) := by decide +kernel
theorem dX11_isOver_29 : decode cX11_isOver 29 = .ok (.aload_n 0, 1) := by decide +kernel
theorem dX11_isOver_30 : decode cX11_isOver 30 = .ok (.aload_n 0, 1) := by decide +kernel
theorem dX11_isOver_31 : decode cX11_isOver 31 = .ok (.getfield 117, 3) := by decide +kernel
theorem dX11_isOver_34 : decode cX11_isOver 34 = .ok (.iload_n 2, 1) := by decide +kernel
theorem dX11_isOver_35 : decode cX11_isOver 35 = .ok (.iconst 2, 1) := by decide +kernel
theorem dX11_isOver_36 : decode cX11_isOver 36 = .ok (.iadd, 1) := by decide +kernel
theorem dX11_isOver_37 : decode cX11_isOver 37 = .ok (.iaload, 1) := by decide +kernel
theorem dX11_isOver_38 : decode cX11_isOver 38 = .ok (.putfield 231, 3) := by decide +kernel
theorem dX11_isOver_41 : decode cX11_isOver 41 = .ok (.aload_n 0, 1) := by decide +kernel
theorem dX11_isOver_42 : decode cX11_isOver 42 = .ok (.aload_n 0, 1) := by decide +kernel
theorem dX11_isOver_43 : decode cX11_isOver 43 = .ok (.getfield 117, 3) := by decide +kernel
theorem dX11_isOver_46 : decode cX11_isOver 46 = .ok (.iload_n 2, 1) := by decide +kernel
theorem dX11_isOver_47 : decode cX11_isOver 47 = .ok (.iconst 3, 1) := by decide +kernel
theorem dX11_isOver_48 : decode cX11_isOver 48 = .ok (.iadd, 1) := by decide +kernel
theorem dX11_isOver_49 : decode cX11_isOver 49 = .ok (.iaload, 1) := by decide +kernel
theorem dX11_isOver_50 : decode cX11_isOver 50 = .ok (.putfield 215, 3) := by decide +kernel
theorem dX11_isOver_53 : decode cX11_isOver 53 = .ok (.aload_n 0, 1) := by decide +kernel
theorem dX11_isOver_54 : decode cX11_isOver 54 = .ok (.aload_n 0, 1) := by decide +kernel
theorem dX11_isOver_55 : decode cX11_isOver 55 = .ok (.getfield 117, 3) := by decide +kernel
theorem dX11_isOver_58 : decode cX11_isOver 58 = .ok (.iload_n 2, 1) := by decide +kernel
theorem dX11_isOver_59 : decode cX11_isOver 59 = .ok (.iconst 4, 1) := by decide +kernel
theorem dX11_isOver_60 : decode cX11_isOver 60 = .ok (.iadd, 1) := by decide +kernel
theorem dX11_isOver_61 : decode cX11_isOver 61 = .ok (.iaload, 1) := by decide +kernel
theorem dX11_isOver_62 : decode cX11_isOver 62 = .ok (.putfield 218, 3) := by decide +kernel
theorem dX11_isOver_65 : decode cX11_isOver 65 = .ok (.aload_n 0, 1) := by decide +kernel
theorem dX11_isOver_66 : decode cX11_isOver 66 = .ok (.aload_n 0, 1) := by decide +kernel
theorem dX11_isOver_67 : decode cX11_isOver 67 = .ok (.getfield 117, 3) := by decide +kernel
theorem dX11_isOver_70 : decode cX11_isOver 70 = .ok (.iload_n 2, 1) := by decide +kernel
theorem dX11_isOver_71 : decode cX11_isOver 71 = .ok (.iconst 5, 1) := by decide +kernel
theorem dX11_isOver_72 : decode cX11_isOver 72 = .ok (.iadd, 1) := by decide +kernel
theorem dX11_isOver_73 : decode cX11_isOver 73 = .ok (.iaload, 1) := by decide +kernel
theorem dX11_isOver_74 : decode cX11_isOver 74 = .ok (.putfield 224, 3) := by decide +kernel
theorem dX11_isOver_77 : decode cX11_isOver 77 = .ok (.aload_n 0, 1) := by decide +kernel
theorem dX11_isOver_78 : decode cX11_isOver 78 = .ok (.aload_n 0, 1) := by decide +kernel
theorem dX11_isOver_79 : decode cX11_isOver 79 = .ok (.getfield 72, 3) := by decide +kernel
theorem dX11_isOver_82 : decode cX11_isOver 82 = .ok (.iload_n 1, 1) := by decide +kernel
theorem dX11_isOver_83 : decode cX11_isOver 83 = .ok (.iaload, 1) := by decide +kernel
theorem dX11_isOver_84 : decode cX11_isOver 84 = .ok (.putfield 212, 3) := by decide +kernel
theorem dX11_isOver_87 : decode cX11_isOver 87 = .ok (.return_, 1) := by decide +kernel
theorem dX11_hasNone_0 : decode cX11_hasNone 0 = .ok (.aload_n 0, 1) := by decide +kernel
theorem dX11_hasNone_1 : decode cX11_hasNone 1 = .ok (.getfield 69, 3) := by decide +kernel
theorem dX11_hasNone_4 : decode cX11_hasNone 4 = .ok (.iload_n 1, 1) := by decide +kernel
theorem dX11_hasNone_5 : decode cX11_hasNone 5 = .ok (.iaload, 1) := by decide +kernel
theorem dX11_hasNone_6 : decode cX11_hasNone 6 = .ok (.istore_n 2, 1) := by decide +kernel
theorem dX11_hasNone_7 : decode cX11_hasNone 7 = .ok (.aload_n 0, 1) := by decide +kernel
theorem dX11_hasNone_8 : decode cX11_hasNone 8 = .ok (.aload_n 0, 1) := by decide +kernel
theorem dX11_hasNone_9 : decode cX11_hasNone 9 = .ok (.getfield 72, 3) := by decide +kernel
theorem dX11_hasNone_12 : decode cX11_hasNone 12 = .ok (.iload_n 1, 1) := by decide +kernel
theorem dX11_hasNone_13 : decode cX11_hasNone 13 = .ok (.iaload, 1) := by decide +kernel
theorem dX11_hasNone_14 : decode cX11_hasNone 14 = .ok (.putfield 212, 3) := by decide +kernel
theorem dX11_hasNone_17 : decode cX11_hasNone 17 = .ok (.aload_n 0, 1) := by decide +kernel
theorem dX11_hasNone_18 : decode cX11_hasNone 18 = .ok (.getfield 7, 3) := by decide +kernel
theorem dX11_hasNone_21 : decode cX11_hasNone 21 = .ok (.iload_n 2, 1) := by decide +kernel
theorem dX11_hasNone_22 : decode cX11_hasNone 22 = .ok (.iaload, 1) := by decide +kernel
theorem dX11_hasNone_23 : decode cX11_hasNone 23 = .ok (.lookupswitch 310 #[(13, 49), (20, 127), (21, 197), (26, 258), (36, 302)], 49) := by decide +kernel
theorem dX11_hasNone_72 : decode cX11_hasNone 72 = .ok (.aload_n 0, 1) := by decide +kernel
theorem dX11_hasNone_73 : decode cX11_hasNone 73 = .ok (.getfield 202, 3) := by decide +kernel
theorem dX11_hasNone_76 : decode cX11_hasNone 76 = .ok (.iconst 3, 1) := by decide +kernel
theorem dX11_hasNone_77 : decode cX11_hasNone 77 = .ok (.if_icmp .ne 28, 3) := by decide +kernel
theorem dX11_hasNone_80 : decode cX11_hasNone 80 = .ok (.aload_n 0, 1) := by decide +kernel
theorem dX11_hasNone_81 : decode cX11_hasNone 81 = .ok (.getfield 231, 3) := by decide +kernel
theorem dX11_hasNone_84 : decode cX11_hasNone 84 = .ok (.aload_n 0, 1) := by decide +kernel
theorem dX11_hasNone_85 : decode cX11_hasNone 85 = .ok (.getfield 13, 3) := by decide +kernel
theorem dX11_hasNone_88 : decode cX11_hasNone 88 = .ok (.iload_n 2, 1) := by decide +kernel
theorem dX11_hasNone_89 : decode cX11_hasNone 89 = .ok (.iaload, 1) := by decide +kernel
theorem dX11_hasNone_90 : decode cX11_hasNone 90 = .ok (.if_icmp .ne 15, 3) := by decide +kernel
theorem dX11_hasNone_93 : decode cX11_hasNone 93 = .ok (.aload_n 0, 1) := by decide +kernel
theorem dX11_hasNone_94 : decode cX11_hasNone 94 = .ok (.iload_n 1, 1) := by decide +kernel
theorem dX11_hasNone_95 : decode cX11_hasNone 95 = .ok (.aload_n 0, 1) := by decide +kernel
theorem dX11_hasNone_96 : decode cX11_hasNone 96 = .ok (.getfield 209, 3) := by decide +kernel
theorem dX11_hasNone_99 : decode cX11_hasNone 99 = .ok (.invokevirtual 262, 3) := by decide +kernel
theorem dX11_hasNone_102 : decode cX11_hasNone 102 = .ok (.goto 231, 3) := by decide +kernel
theorem dX11_hasNone_105 : decode cX11_hasNone 105 = .ok (.aload_n 0, 1) := by decide +kernel
theorem dX11_hasNone_106 : decode cX11_hasNone 106 = .ok (.getfield 202, 3) := by decide +kernel
theorem dX11_hasNone_109 : decode cX11_hasNone 109 = .ok (.iconst 4, 1) := by decide +kernel
theorem dX11_hasNone_110 : decode cX11_hasNone 110 = .ok (.if_icmp .ne 223, 3) := by decide +kernel
theorem dX11_hasNone_113 : decode cX11_hasNone 113 = .ok (.aload_n 0, 1) := by decide +kernel
theorem dX11_hasNone_114 : decode cX11_hasNone 114 = .ok (.getfield 231, 3) := by decide +kernel
theorem dX11_hasNone_117 : decode cX11_hasNone 117 = .ok (.aload_n 0, 1) := by decide +kernel
theorem dX11_hasNone_118 : decode cX11_hasNone 118 = .ok (.getfield 13, 3) := by decide +kernel
theorem dX11_hasNone_121 : decode cX11_hasNone 121 = .ok (.iload_n 2, 1) := by decide +kernel
theorem dX11_hasNone_122 : decode cX11_hasNone 122 = .ok (.iaload, 1) := by decide +kernel
theorem dX11_hasNone_123 : decode cX11_hasNone 123 = .ok (.if_icmp .ne 210, 3) := by decide +kernel
theorem dX11_hasNone_126 : decode cX11_hasNone 126 = .ok (.aload_n 0, 1) := by decide +kernel
theorem dX11_hasNone_127 : decode cX11_hasNone 127 = .ok (.aload_n 0, 1) := by decide +kernel
theorem dX11_hasNone_128 : decode cX11_hasNone 128 = .ok (.getfield 16, 3) := by decide +kernel
theorem dX11_hasNone_131 : decode cX11_hasNone 131 = .ok (.iload_n 2, 1) := by decide +kernel
theorem dX11_hasNone_132 : decode cX11_hasNone 132 = .ok (.iaload, 1) := by decide +kernel
theorem dX11_hasNone_133 : decode cX11_hasNone 133 = .ok (.iload_n 1, 1) := by decide +kernel
theorem dX11_hasNone_134 : decode cX11_hasNone 134 = .ok (.aload_n 0, 1) := by decide +kernel
theorem dX11_hasNone_135 : decode cX11_hasNone 135 = .ok (.aload_n 0, 1) := by decide +kernel
theorem dX11_hasNone_136 : decode cX11_hasNone 136 = .ok (.getfield 75, 3) := by decide +kernel
theorem dX11_hasNone_139 : decode cX11_hasNone 139 = .ok (.iload_n 1, 1) := by decide +kernel
theorem dX11_hasNone_140 : decode cX11_hasNone 140 = .ok (.iaload, 1) := by decide +kernel
theorem dX11_hasNone_141 : decode cX11_hasNone 141 = .ok (.invokevirtual 244, 3) := by decide +kernel
theorem dX11_hasNone_144 : decode cX11_hasNone 144 = .ok (.invokevirtual 205, 3) := by decide +kernel
theorem dX11_hasNone_147 : decode cX11_hasNone 147 = .ok (.goto 186, 3) := by decide +kernel
theorem dX11_hasNone_150 : decode cX11_hasNone 150 = .ok (.aload_n 0, 1) := by decide +kernel
theorem dX11_hasNone_151 : decode cX11_hasNone 151 = .ok (.getfield 202, 3) := by decide +kernel
theorem dX11_hasNone_154 : decode cX11_hasNone 154 = .ok (.iconst 2, 1) := by decide +kernel
theorem dX11_hasNone_155 : decode cX11_hasNone 155 = .ok (.if_icmp .ne 178, 3) := by decide +kernel
theorem dX11_hasNone_158 : decode cX11_hasNone 158 = .ok (.aload_n 0, 1) := by decide +kernel
theorem dX11_hasNone_159 : decode cX11_hasNone 159 = .ok (.getfield 78, 3) := by decide +kernel
theorem dX11_hasNone_162 : decode cX11_hasNone 162 = .ok (.iload_n 1, 1) := by decide +kernel
theorem dX11_hasNone_163 : decode cX11_hasNone 163 = .ok (.iaload, 1) := by decide +kernel
theorem dX11_hasNone_164 : decode cX11_hasNone 164 = .ok (.ifCond .ne 169, 3) := by decide +kernel
theorem dX11_hasNone_167 : decode cX11_hasNone 167 = .ok (.aload_n 0, 1) := by decide +kernel
theorem dX11_hasNone_168 : decode cX11_hasNone 168 = .ok (.aload_n 0, 1) := by decide +kernel
theorem dX11_hasNone_169 : decode cX11_hasNone 169 = .ok (.getfield 75, 3) := by decide +kernel
theorem dX11_hasNone_172 : decode cX11_hasNone 172 = .ok (.iload_n 1, 1) := by decide +kernel
theorem dX11_hasNone_173 : decode cX11_hasNone 173 = .ok (.iaload, 1) := by decide +kernel
theorem dX11_hasNone_174 : decode cX11_hasNone 174 = .ok (.invokevirtual 244, 3) := by decide +kernel
theorem dX11_hasNone_177 : decode cX11_hasNone 177 = .ok (.istore_n 3, 1) := by decide +kernel
theorem dX11_hasNone_178 : decode cX11_hasNone 178 = .ok (.aload_n 0, 1) := by decide +kernel
theorem dX11_hasNone_179 : decode cX11_hasNone 179 = .ok (.getfield 93, 3) := by decide +kernel
theorem dX11_hasNone_182 : decode cX11_hasNone 182 = .ok (.bipush 8, 2) := by decide +kernel
theorem dX11_hasNone_184 : decode cX11_hasNone 184 = .ok (.iload_n 3, 1) := by decide +kernel
theorem dX11_hasNone_185 : decode cX11_hasNone 185 = .ok (.imul, 1) := by decide +kernel
theorem dX11_hasNone_186 : decode cX11_hasNone 186 = .ok (.aload_n 0, 1) := by decide +kernel
theorem dX11_hasNone_187 : decode cX11_hasNone 187 = .ok (.getfield 13, 3) := by decide +kernel
theorem dX11_hasNone_190 : decode cX11_hasNone 190 = .ok (.iload_n 2, 1) := by decide +kernel
theorem dX11_hasNone_191 : decode cX11_hasNone 191 = .ok (.iaload, 1) := by decide +kernel
theorem dX11_hasNone_192 : decode cX11_hasNone 192 = .ok (.iadd, 1) := by decide +kernel
theorem dX11_hasNone_193 : decode cX11_hasNone 193 = .ok (.aload_n 0, 1) := by decide +kernel
theorem dX11_hasNone_194 : decode cX11_hasNone 194 = .ok (.getfield 209, 3) := by decide +kernel
theorem dX11_hasNone_197 : decode cX11_hasNone 197 = .ok (.iastore, 1) := by decide +kernel
theorem dX11_hasNone_198 : decode cX11_hasNone 198 = .ok (.aload_n 0, 1) := by decide +kernel
theorem dX11_hasNone_199 : decode cX11_hasNone 199 = .ok (.getfield 78, 3) := by decide +kernel
theorem dX11_hasNone_202 : decode cX11_hasNone 202 = .ok (.iload_n 1, 1) := by decide +kernel
theorem dX11_hasNone_203 : decode cX11_hasNone 203 = .ok (.iconst 1, 1) := by decide +kernel
theorem dX11_hasNone_204 : decode cX11_hasNone 204 = .ok (.iastore, 1) := by decide +kernel
theorem dX11_hasNone_205 : decode cX11_hasNone 205 = .ok (.aload_n 0, 1) := by decide +kernel
theorem dX11_hasNone_206 : decode cX11_hasNone 206 = .ok (.aload_n 0, 1) := by decide +kernel
theorem dX11_hasNone_207 : decode cX11_hasNone 207 = .ok (.getfield 19, 3) := by decide +kernel
theorem dX11_hasNone_210 : decode cX11_hasNone 210 = .ok (.iload_n 2, 1) := by decide +kernel
theorem dX11_hasNone_211 : decode cX11_hasNone 211 = .ok (.iaload, 1) := by decide +kernel
theorem dX11_hasNone_212 : decode cX11_hasNone 212 = .ok (.iload_n 1, 1) := by decide +kernel
theorem dX11_hasNone_213 : decode cX11_hasNone 213 = .ok (.iload_n 3, 1) := by decide +kernel
theorem dX11_hasNone_214 : decode cX11_hasNone 214 = .ok (.invokevirtual 205, 3) := by decide +kernel
theorem dX11_hasNone_217 : decode cX11_hasNone 217 = .ok (.goto 116, 3) := by decide +kernel
theorem dX11_hasNone_220 : decode cX11_hasNone 220 = .ok (.aload_n 0, 1) := by decide +kernel
theorem dX11_hasNone_221 : decode cX11_hasNone 221 = .ok (.getfield 78, 3) := by decide +kernel
theorem dX11_hasNone_224 : decode cX11_hasNone 224 = .ok (.iload_n 1, 1) := by decide +kernel
theorem dX11_hasNone_225 : decode cX11_hasNone 225 = .ok (.iaload, 1) := by decide +kernel
theorem dX11_hasNone_226 : decode cX11_hasNone 226 = .ok (.ifCond .ne 12, 3) := by decide +kernel
theorem dX11_hasNone_229 : decode cX11_hasNone 229 = .ok (.aload_n 0, 1) := by decide +kernel
theorem dX11_hasNone_230 : decode cX11_hasNone 230 = .ok (.iload_n 1, 1) := by decide +kernel
theorem dX11_hasNone_231 : decode cX11_hasNone 231 = .ok (.iload_n 2, 1) := by decide +kernel
theorem dX11_hasNone_232 : decode cX11_hasNone 232 = .ok (.invokevirtual 358, 3) := by decide +kernel
theorem dX11_hasNone_235 : decode cX11_hasNone 235 = .ok (.goto 98, 3) := by decide +kernel
theorem dX11_hasNone_238 : decode cX11_hasNone 238 = .ok (.aload_n 0, 1) := by decide +kernel
theorem dX11_hasNone_239 : decode cX11_hasNone 239 = .ok (.getfield 202, 3) := by decide +kernel
theorem dX11_hasNone_242 : decode cX11_hasNone 242 = .ok (.iconst 2, 1) := by decide +kernel
theorem dX11_hasNone_243 : decode cX11_hasNone 243 = .ok (.if_icmp .ne 90, 3) := by decide +kernel
theorem dX11_hasNone_246 : decode cX11_hasNone 246 = .ok (.aload_n 0, 1) := by decide +kernel
theorem dX11_hasNone_247 : decode cX11_hasNone 247 = .ok (.getfield 117, 3) := by decide +kernel
theorem dX11_hasNone_250 : decode cX11_hasNone 250 = .ok (.aload_n 0, 1) := by decide +kernel
theorem dX11_hasNone_251 : decode cX11_hasNone 251 = .ok (.getfield 81, 3) := by decide +kernel
theorem dX11_hasNone_254 : decode cX11_hasNone 254 = .ok (.iload_n 1, 1) := by decide +kernel
theorem dX11_hasNone_255 : decode cX11_hasNone 255 = .ok (.iaload, 1) := by decide +kernel
theorem dX11_hasNone_256 : decode cX11_hasNone 256 = .ok (.iaload, 1) := by decide +kernel
theorem dX11_hasNone_257 : decode cX11_hasNone 257 = .ok (.iconst 2, 1) := by decide +kernel
theorem dX11_hasNone_258 : decode cX11_hasNone 258 = .ok (.if_icmp .ne 75, 3) := by decide +kernel
theorem dX11_hasNone_261 : decode cX11_hasNone 261 = .ok (.aload_n 0, 1) := by decide +kernel
theorem dX11_hasNone_262 : decode cX11_hasNone 262 = .ok (.aload_n 0, 1) := by decide +kernel
theorem dX11_hasNone_263 : decode cX11_hasNone 263 = .ok (.getfield 117, 3) := by decide +kernel
theorem dX11_hasNone_266 : decode cX11_hasNone 266 = .ok (.aload_n 0, 1) := by decide +kernel
theorem dX11_hasNone_267 : decode cX11_hasNone 267 = .ok (.getfield 81, 3) := by decide +kernel
theorem dX11_hasNone_270 : decode cX11_hasNone 270 = .ok (.iload_n 1, 1) := by decide +kernel
theorem dX11_hasNone_271 : decode cX11_hasNone 271 = .ok (.iaload, 1) := by decide +kernel
theorem dX11_hasNone_272 : decode cX11_hasNone 272 = .ok (.iconst 1, 1) := by decide +kernel
theorem dX11_hasNone_273 : decode cX11_hasNone 273 = .ok (.iadd, 1) := by decide +kernel
theorem dX11_hasNone_274 : decode cX11_hasNone 274 = .ok (.iaload, 1) := by decide +kernel
theorem dX11_hasNone_275 : decode cX11_hasNone 275 = .ok (.putfield 215, 3) := by decide +kernel
theorem dX11_hasNone_278 : decode cX11_hasNone 278 = .ok (.goto 55, 3) := by decide +kernel
theorem dX11_hasNone_281 : decode cX11_hasNone 281 = .ok (.aload_n 0, 1) := by decide +kernel
theorem dX11_hasNone_282 : decode cX11_hasNone 282 = .ok (.getfield 38, 3) := by decide +kernel
theorem dX11_hasNone_285 : decode cX11_hasNone 285 = .ok (.aload_n 0, 1) := by decide +kernel
theorem dX11_hasNone_286 : decode cX11_hasNone 286 = .ok (.getfield 13, 3) := by decide +kernel
theorem dX11_hasNone_289 : decode cX11_hasNone 289 = .ok (.iload_n 2, 1) := by decide +kernel
theorem dX11_hasNone_290 : decode cX11_hasNone 290 = .ok (.iaload, 1) := by decide +kernel
theorem dX11_hasNone_291 : decode cX11_hasNone 291 = .ok (.aload_n 0, 1) := by decide +kernel
theorem dX11_hasNone_292 : decode cX11_hasNone 292 = .ok (.getfield 78, 3) := by decide +kernel
theorem dX11_hasNone_295 : decode cX11_hasNone 295 = .ok (.iload_n 1, 1) := by decide +kernel
theorem dX11_hasNone_296 : decode cX11_hasNone 296 = .ok (.iaload, 1) := by decide +kernel
theorem dX11_hasNone_297 : decode cX11_hasNone 297 = .ok (.iconst 1, 1) := by decide +kernel
theorem dX11_hasNone_298 : decode cX11_hasNone 298 = .ok (.if_icmp .ne 12, 3) := by decide +kernel
theorem dX11_hasNone_301 : decode cX11_hasNone 301 = .ok (.aload_n 0, 1) := by decide +kernel
theorem dX11_hasNone_302 : decode cX11_hasNone 302 = .ok (.getfield 81, 3) := by decide +kernel
theorem dX11_hasNone_305 : decode cX11_hasNone 305 = .ok (.iload_n 1, 1) := by decide +kernel
theorem dX11_hasNone_306 : decode cX11_hasNone 306 = .ok (.iaload, 1) := by decide +kernel
theorem dX11_hasNone_307 : decode cX11_hasNone 307 = .ok (.goto 14, 3) := by decide +kernel
theorem dX11_hasNone_310 : decode cX11_hasNone 310 = .ok (.aload_n 0, 1) := by decide +kernel
theorem dX11_hasNone_311 : decode cX11_hasNone 311 = .ok (.getfield 38, 3) := by decide +kernel
theorem dX11_hasNone_314 : decode cX11_hasNone 314 = .ok (.aload_n 0, 1) := by decide +kernel
theorem dX11_hasNone_315 : decode cX11_hasNone 315 = .ok (.getfield 13, 3) := by decide +kernel
theorem dX11_hasNone_318 : decode cX11_hasNone 318 = .ok (.iload_n 2, 1) := by decide +kernel
theorem dX11_hasNone_319 : decode cX11_hasNone 319 = .ok (.iaload, 1) := by decide +kernel
theorem dX11_hasNone_320 : decode cX11_hasNone 320 = .ok (.iaload, 1) := by decide +kernel
theorem dX11_hasNone_321 : decode cX11_hasNone 321 = .ok (.iastore, 1) := by decide +kernel
theorem dX11_hasNone_322 : decode cX11_hasNone 322 = .ok (.goto 11, 3) := by decide +kernel
theorem dX11_hasNone_325 : decode cX11_hasNone 325 = .ok (.aload_n 0, 1) := by decide +kernel
theorem dX11_hasNone_326 : decode cX11_hasNone 326 = .ok (.iload_n 1, 1) := by decide +kernel
theorem dX11_hasNone_327 : decode cX11_hasNone 327 = .ok (.invokevirtual 276, 3) := by decide +kernel
theorem dX11_hasNone_330 : decode cX11_hasNone 330 = .ok (.goto 3, 3) := by decide +kernel
theorem dX11_hasNone_333 : decode cX11_hasNone 333 = .ok (.return_, 1) := by decide +kernel
theorem dX11_bodyEnds_0 : decode cX11_bodyEnds 0 = .ok (.aload_n 0, 1) := by decide +kernel
theorem dX11_bodyEnds_1 : decode cX11_bodyEnds 1 = .ok (.getfield 72, 3) := by decide +kernel
theorem dX11_bodyEnds_4 : decode cX11_bodyEnds 4 = .ok (.iload_n 1, 1) := by decide +kernel
theorem dX11_bodyEnds_5 : decode cX11_bodyEnds 5 = .ok (.iaload, 1) := by decide +kernel
theorem dX11_bodyEnds_6 : decode cX11_bodyEnds 6 = .ok (.istore_n 2, 1) := by decide +kernel
theorem dX11_bodyEnds_7 : decode cX11_bodyEnds 7 = .ok (.aload_n 0, 1) := by decide +kernel
theorem dX11_bodyEnds_8 : decode cX11_bodyEnds 8 = .ok (.getfield 78, 3) := by decide +kernel
theorem dX11_bodyEnds_11 : decode cX11_bodyEnds 11 = .ok (.iload_n 1, 1) := by decide +kernel
theorem dX11_bodyEnds_12 : decode cX11_bodyEnds 12 = .ok (.iaload, 1) := by decide +kernel
theorem dX11_bodyEnds_13 : decode cX11_bodyEnds 13 = .ok (.tableswitch 237 0 3 #[31, 61, 237, 151], 31) := by decide +kernel
theorem dX11_bodyEnds_44 : decode cX11_bodyEnds 44 = .ok (.aload_n 0, 1) := by decide +kernel
theorem dX11_bodyEnds_45 : decode cX11_bodyEnds 45 = .ok (.getfield 202, 3) := by decide +kernel
theorem dX11_bodyEnds_48 : decode cX11_bodyEnds 48 = .ok (.iconst 2, 1) := by decide +kernel
theorem dX11_bodyEnds_49 : decode cX11_bodyEnds 49 = .ok (.if_icmp .ne 10, 3) := by decide +kernel
theorem dX11_bodyEnds_52 : decode cX11_bodyEnds 52 = .ok (.aload_n 0, 1) := by decide +kernel
theorem dX11_bodyEnds_53 : decode cX11_bodyEnds 53 = .ok (.invokevirtual 375, 3) := by decide +kernel
theorem dX11_bodyEnds_56 : decode cX11_bodyEnds 56 = .ok (.goto 200, 3) := by decide +kernel
theorem dX11_bodyEnds_59 : decode cX11_bodyEnds 59 = .ok (.aload_n 0, 1) := by decide +kernel
theorem dX11_bodyEnds_60 : decode cX11_bodyEnds 60 = .ok (.aload_n 0, 1) := by decide +kernel
theorem dX11_bodyEnds_61 : decode cX11_bodyEnds 61 = .ok (.getfield 209, 3) := by decide +kernel
theorem dX11_bodyEnds_64 : decode cX11_bodyEnds 64 = .ok (.putfield 377, 3) := by decide +kernel
theorem dX11_bodyEnds_67 : decode cX11_bodyEnds 67 = .ok (.aload_n 0, 1) := by decide +kernel
theorem dX11_bodyEnds_68 : decode cX11_bodyEnds 68 = .ok (.invokevirtual 380, 3) := by decide +kernel
theorem dX11_bodyEnds_71 : decode cX11_bodyEnds 71 = .ok (.goto 185, 3) := by decide +kernel
theorem dX11_bodyEnds_74 : decode cX11_bodyEnds 74 = .ok (.aload_n 0, 1) := by decide +kernel
theorem dX11_bodyEnds_75 : decode cX11_bodyEnds 75 = .ok (.getfield 7, 3) := by decide +kernel
theorem dX11_bodyEnds_78 : decode cX11_bodyEnds 78 = .ok (.aload_n 0, 1) := by decide +kernel
theorem dX11_bodyEnds_79 : decode cX11_bodyEnds 79 = .ok (.getfield 69, 3) := by decide +kernel
theorem dX11_bodyEnds_82 : decode cX11_bodyEnds 82 = .ok (.iload_n 2, 1) := by decide +kernel
theorem dX11_bodyEnds_83 : decode cX11_bodyEnds 83 = .ok (.iaload, 1) := by decide +kernel
theorem dX11_bodyEnds_84 : decode cX11_bodyEnds 84 = .ok (.iaload, 1) := by decide +kernel
theorem dX11_bodyEnds_85 : decode cX11_bodyEnds 85 = .ok (.bipush 29, 2) := by decide +kernel
theorem dX11_bodyEnds_87 : decode cX11_bodyEnds 87 = .ok (.if_icmp .ne 7, 3) := by decide +kernel
theorem dX11_bodyEnds_90 : decode cX11_bodyEnds 90 = .ok (.iconst 1, 1) := by decide +kernel
theorem dX11_bodyEnds_91 : decode cX11_bodyEnds 91 = .ok (.goto 4, 3) := by decide +kernel
theorem dX11_bodyEnds_94 : decode cX11_bodyEnds 94 = .ok (.iconst 0, 1) := by decide +kernel
theorem dX11_bodyEnds_95 : decode cX11_bodyEnds 95 = .ok (.istore_n 3, 1) := by decide +kernel
theorem dX11_bodyEnds_96 : decode cX11_bodyEnds 96 = .ok (.aload_n 0, 1) := by decide +kernel
theorem dX11_bodyEnds_97 : decode cX11_bodyEnds 97 = .ok (.aload_n 0, 1) := by decide +kernel
theorem dX11_bodyEnds_98 : decode cX11_bodyEnds 98 = .ok (.getfield 241, 3) := by decide +kernel
theorem dX11_bodyEnds_101 : decode cX11_bodyEnds 101 = .ok (.ifCond .eq 11, 3) := by decide +kernel
theorem dX11_bodyEnds_104 : decode cX11_bodyEnds 104 = .ok (.iload_n 3, 1) := by decide +kernel
theorem dX11_bodyEnds_105 : decode cX11_bodyEnds 105 = .ok (.ifCond .ne 7, 3) := by decide +kernel
theorem dX11_bodyEnds_108 : decode cX11_bodyEnds 108 = .ok (.iconst 1, 1) := by decide +kernel
theorem dX11_bodyEnds_109 : decode cX11_bodyEnds 109 = .ok (.goto 4, 3) := by decide +kernel
theorem dX11_bodyEnds_112 : decode cX11_bodyEnds 112 = .ok (.iconst 0, 1) := by decide +kernel
theorem dX11_bodyEnds_113 : decode cX11_bodyEnds 113 = .ok (.putfield 241, 3) := by decide +kernel
theorem dX11_bodyEnds_116 : decode cX11_bodyEnds 116 = .ok (.aload_n 0, 1) := by decide +kernel
theorem dX11_bodyEnds_117 : decode cX11_bodyEnds 117 = .ok (.iload_n 2, 1) := by decide +kernel
theorem dX11_bodyEnds_118 : decode cX11_bodyEnds 118 = .ok (.invokevirtual 337, 3) := by decide +kernel
theorem dX11_bodyEnds_121 : decode cX11_bodyEnds 121 = .ok (.aload_n 0, 1) := by decide +kernel
theorem dX11_bodyEnds_122 : decode cX11_bodyEnds 122 = .ok (.aload_n 0, 1) := by decide +kernel
theorem dX11_bodyEnds_123 : decode cX11_bodyEnds 123 = .ok (.getfield 72, 3) := by decide +kernel
theorem dX11_bodyEnds_126 : decode cX11_bodyEnds 126 = .ok (.iload_n 2, 1) := by decide +kernel
theorem dX11_bodyEnds_127 : decode cX11_bodyEnds 127 = .ok (.iaload, 1) := by decide +kernel
theorem dX11_bodyEnds_128 : decode cX11_bodyEnds 128 = .ok (.putfield 212, 3) := by decide +kernel
theorem dX11_bodyEnds_131 : decode cX11_bodyEnds 131 = .ok (.aload_n 0, 1) := by decide +kernel
theorem dX11_bodyEnds_132 : decode cX11_bodyEnds 132 = .ok (.getfield 202, 3) := by decide +kernel
theorem dX11_bodyEnds_135 : decode cX11_bodyEnds 135 = .ok (.iconst 2, 1) := by decide +kernel
theorem dX11_bodyEnds_136 : decode cX11_bodyEnds 136 = .ok (.if_icmp .eq 120, 3) := by decide +kernel
theorem dX11_bodyEnds_139 : decode cX11_bodyEnds 139 = .ok (.aload_n 0, 1) := by decide +kernel
theorem dX11_bodyEnds_140 : decode cX11_bodyEnds 140 = .ok (.iload_n 2, 1) := by decide +kernel
theorem dX11_bodyEnds_141 : decode cX11_bodyEnds 141 = .ok (.iload_n 3, 1) := by decide +kernel
theorem dX11_bodyEnds_142 : decode cX11_bodyEnds 142 = .ok (.ifCond .eq 12, 3) := by decide +kernel
theorem dX11_bodyEnds_145 : decode cX11_bodyEnds 145 = .ok (.aload_n 0, 1) := by decide +kernel
theorem dX11_bodyEnds_146 : decode cX11_bodyEnds 146 = .ok (.getfield 81, 3) := by decide +kernel
theorem dX11_bodyEnds_149 : decode cX11_bodyEnds 149 = .ok (.iload_n 2, 1) := by decide +kernel
theorem dX11_bodyEnds_150 : decode cX11_bodyEnds 150 = .ok (.iaload, 1) := by decide +kernel
theorem dX11_bodyEnds_151 : decode cX11_bodyEnds 151 = .ok (.goto 7, 3) := by decide +kernel
theorem dX11_bodyEnds_154 : decode cX11_bodyEnds 154 = .ok (.aload_n 0, 1) := by decide +kernel
theorem dX11_bodyEnds_155 : decode cX11_bodyEnds 155 = .ok (.getfield 209, 3) := by decide +kernel
theorem dX11_bodyEnds_158 : decode cX11_bodyEnds 158 = .ok (.invokevirtual 262, 3) := by decide +kernel
theorem dX11_bodyEnds_161 : decode cX11_bodyEnds 161 = .ok (.goto 95, 3) := by decide +kernel
theorem dX11_bodyEnds_164 : decode cX11_bodyEnds 164 = .ok (.aload_n 0, 1) := by decide +kernel
theorem dX11_bodyEnds_165 : decode cX11_bodyEnds 165 = .ok (.getfield 202, 3) := by decide +kernel
theorem dX11_bodyEnds_168 : decode cX11_bodyEnds 168 = .ok (.iconst 2, 1) := by decide +kernel
theorem dX11_bodyEnds_169 : decode cX11_bodyEnds 169 = .ok (.if_icmp .ne 48, 3) := by decide +kernel
theorem dX11_bodyEnds_172 : decode cX11_bodyEnds 172 = .ok (.aload_n 0, 1) := by decide +kernel
theorem dX11_bodyEnds_173 : decode cX11_bodyEnds 173 = .ok (.aload_n 0, 1) := by decide +kernel
theorem dX11_bodyEnds_174 : decode cX11_bodyEnds 174 = .ok (.getfield 241, 3) := by decide +kernel
theorem dX11_bodyEnds_177 : decode cX11_bodyEnds 177 = .ok (.ifCond .eq 23, 3) := by decide +kernel
theorem dX11_bodyEnds_180 : decode cX11_bodyEnds 180 = .ok (.aload_n 0, 1) := by decide +kernel
theorem dX11_bodyEnds_181 : decode cX11_bodyEnds 181 = .ok (.getfield 7, 3) := by decide +kernel
theorem dX11_bodyEnds_184 : decode cX11_bodyEnds 184 = .ok (.aload_n 0, 1) := by decide +kernel
theorem dX11_bodyEnds_185 : decode cX11_bodyEnds 185 = .ok (.getfield 69, 3) := by decide +kernel
theorem dX11_bodyEnds_188 : decode cX11_bodyEnds 188 = .ok (.iload_n 2, 1) := by decide +kernel
theorem dX11_bodyEnds_189 : decode cX11_bodyEnds 189 = .ok (.iaload, 1) := by decide +kernel
theorem dX11_bodyEnds_190 : decode cX11_bodyEnds 190 = .ok (.iaload, 1) := by decide +kernel
theorem dX11_bodyEnds_191 : decode cX11_bodyEnds 191 = .ok (.bipush 29, 2) := by decide +kernel
theorem dX11_bodyEnds_193 : decode cX11_bodyEnds 193 = .ok (.if_icmp .eq 7, 3) := by decide +kernel
theorem dX11_bodyEnds_196 : decode cX11_bodyEnds 196 = .ok (.iconst 1, 1) := by decide +kernel
theorem dX11_bodyEnds_197 : decode cX11_bodyEnds 197 = .ok (.goto 4, 3) := by decide +kernel
theorem dX11_bodyEnds_200 : decode cX11_bodyEnds 200 = .ok (.iconst 0, 1) := by decide +kernel
theorem dX11_bodyEnds_201 : decode cX11_bodyEnds 201 = .ok (.putfield 241, 3) := by decide +kernel
theorem dX11_bodyEnds_204 : decode cX11_bodyEnds 204 = .ok (.aload_n 0, 1) := by decide +kernel
theorem dX11_bodyEnds_205 : decode cX11_bodyEnds 205 = .ok (.aload_n 0, 1) := by decide +kernel
theorem dX11_bodyEnds_206 : decode cX11_bodyEnds 206 = .ok (.getfield 72, 3) := by decide +kernel
theorem dX11_bodyEnds_209 : decode cX11_bodyEnds 209 = .ok (.iload_n 2, 1) := by decide +kernel
theorem dX11_bodyEnds_210 : decode cX11_bodyEnds 210 = .ok (.iaload, 1) := by decide +kernel
theorem dX11_bodyEnds_211 : decode cX11_bodyEnds 211 = .ok (.putfield 212, 3) := by decide +kernel
theorem dX11_bodyEnds_214 : decode cX11_bodyEnds 214 = .ok (.goto 42, 3) := by decide +kernel
theorem dX11_bodyEnds_217 : decode cX11_bodyEnds 217 = .ok (.aload_n 0, 1) := by decide +kernel
theorem dX11_bodyEnds_218 : decode cX11_bodyEnds 218 = .ok (.getfield 93, 3) := by decide +kernel
theorem dX11_bodyEnds_221 : decode cX11_bodyEnds 221 = .ok (.bipush 8, 2) := by decide +kernel
theorem dX11_bodyEnds_223 : decode cX11_bodyEnds 223 = .ok (.aload_n 0, 1) := by decide +kernel
theorem dX11_bodyEnds_224 : decode cX11_bodyEnds 224 = .ok (.getfield 84, 3) := by decide +kernel
theorem dX11_bodyEnds_227 : decode cX11_bodyEnds 227 = .ok (.iload_n 2, 1) := by decide +kernel
theorem dX11_bodyEnds_228 : decode cX11_bodyEnds 228 = .ok (.iaload, 1) := by decide +kernel
theorem dX11_bodyEnds_229 : decode cX11_bodyEnds 229 = .ok (.imul, 1) := by decide +kernel
theorem dX11_bodyEnds_230 : decode cX11_bodyEnds 230 = .ok (.iconst 1, 1) := by decide +kernel
theorem dX11_bodyEnds_231 : decode cX11_bodyEnds 231 = .ok (.iadd, 1) := by decide +kernel
theorem dX11_bodyEnds_232 : decode cX11_bodyEnds 232 = .ok (.aload_n 0, 1) := by decide +kernel
theorem dX11_bodyEnds_233 : decode cX11_bodyEnds 233 = .ok (.getfield 209, 3) := by decide +kernel
theorem dX11_bodyEnds_236 : decode cX11_bodyEnds 236 = .ok (.iastore, 1) := by decide +kernel
theorem dX11_bodyEnds_237 : decode cX11_bodyEnds 237 = .ok (.aload_n 0, 1) := by decide +kernel
theorem dX11_bodyEnds_238 : decode cX11_bodyEnds 238 = .ok (.iload_n 2, 1) := by decide +kernel
theorem dX11_bodyEnds_239 : decode cX11_bodyEnds 239 = .ok (.aload_n 0, 1) := by decide +kernel
theorem dX11_bodyEnds_240 : decode cX11_bodyEnds 240 = .ok (.iload_n 2, 1) := by decide +kernel
theorem dX11_bodyEnds_241 : decode cX11_bodyEnds 241 = .ok (.invokevirtual 383, 3) := by decide +kernel
theorem dX11_bodyEnds_244 : decode cX11_bodyEnds 244 = .ok (.invokevirtual 250, 3) := by decide +kernel
theorem dX11_bodyEnds_247 : decode cX11_bodyEnds 247 = .ok (.goto 9, 3) := by decide +kernel
theorem dX11_bodyEnds_250 : decode cX11_bodyEnds 250 = .ok (.aload_n 0, 1) := by decide +kernel
theorem dX11_bodyEnds_251 : decode cX11_bodyEnds 251 = .ok (.iload_n 1, 1) := by decide +kernel
theorem dX11_bodyEnds_252 : decode cX11_bodyEnds 252 = .ok (.iload_n 2, 1) := by decide +kernel
theorem dX11_bodyEnds_253 : decode cX11_bodyEnds 253 = .ok (.invokevirtual 386, 3) := by decide +kernel
theorem dX11_bodyEnds_256 : decode cX11_bodyEnds 256 = .ok (.return_, 1) := by decide +kernel
theorem dX11_generatorEnds_0 : decode cX11_generatorEnds 0 = .ok (.aload_n 0, 1) := by decide +kernel
theorem dX11_generatorEnds_1 : decode cX11_generatorEnds 1 = .ok (.getfield 108, 3) := by decide +kernel
theorem dX11_generatorEnds_4 : decode cX11_generatorEnds 4 = .ok (.aload_n 0, 1) := by decide +kernel
theorem dX11_generatorEnds_5 : decode cX11_generatorEnds 5 = .ok (.getfield 81, 3) := by decide +kernel
theorem dX11_generatorEnds_8 : decode cX11_generatorEnds 8 = .ok (.iload_n 1, 1) := by decide +kernel
theorem dX11_generatorEnds_9 : decode cX11_generatorEnds 9 = .ok (.iaload, 1) := by decide +kernel
theorem dX11_generatorEnds_10 : decode cX11_generatorEnds 10 = .ok (.iaload, 1) := by decide +kernel
theorem dX11_generatorEnds_11 : decode cX11_generatorEnds 11 = .ok (.iconst 3, 1) := by decide +kernel
theorem dX11_generatorEnds_12 : decode cX11_generatorEnds 12 = .ok (.if_icmp .ne 7, 3) := by decide +kernel
theorem dX11_generatorEnds_15 : decode cX11_generatorEnds 15 = .ok (.iconst 1, 1) := by decide +kernel
theorem dX11_generatorEnds_16 : decode cX11_generatorEnds 16 = .ok (.goto 4, 3) := by decide +kernel
theorem dX11_generatorEnds_19 : decode cX11_generatorEnds 19 = .ok (.iconst 0, 1) := by decide +kernel
theorem dX11_generatorEnds_20 : decode cX11_generatorEnds 20 = .ok (.istore_n 3, 1) := by decide +kernel
theorem dX11_generatorEnds_21 : decode cX11_generatorEnds 21 = .ok (.aload_n 0, 1) := by decide +kernel
theorem dX11_generatorEnds_22 : decode cX11_generatorEnds 22 = .ok (.getfield 108, 3) := by decide +kernel
theorem dX11_generatorEnds_25 : decode cX11_generatorEnds 25 = .ok (.aload_n 0, 1) := by decide +kernel
theorem dX11_generatorEnds_26 : decode cX11_generatorEnds 26 = .ok (.getfield 81, 3) := by decide +kernel
theorem dX11_generatorEnds_29 : decode cX11_generatorEnds 29 = .ok (.iload_n 1, 1) := by decide +kernel
theorem dX11_generatorEnds_30 : decode cX11_generatorEnds 30 = .ok (.iaload, 1) := by decide +kernel
theorem dX11_generatorEnds_31 : decode cX11_generatorEnds 31 = .ok (.iconst 4, 1) := by decide +kernel
theorem dX11_generatorEnds_32 : decode cX11_generatorEnds 32 = .ok (.iastore, 1) := by decide +kernel
theorem dX11_generatorEnds_33 : decode cX11_generatorEnds 33 = .ok (.iload_n 3, 1) := by decide +kernel
theorem dX11_generatorEnds_34 : decode cX11_generatorEnds 34 = .ok (.ifCond .eq 18, 3) := by decide +kernel
theorem dX11_generatorEnds_37 : decode cX11_generatorEnds 37 = .ok (.aload_n 0, 1) := by decide +kernel
theorem dX11_generatorEnds_38 : decode cX11_generatorEnds 38 = .ok (.getfield 202, 3) := by decide +kernel
theorem dX11_generatorEnds_41 : decode cX11_generatorEnds 41 = .ok (.iconst 2, 1) := by decide +kernel
theorem dX11_generatorEnds_42 : decode cX11_generatorEnds 42 = .ok (.if_icmp .ne 10, 3) := by decide +kernel
theorem dX11_generatorEnds_45 : decode cX11_generatorEnds 45 = .ok (.aload_n 0, 1) := by decide +kernel
theorem dX11_generatorEnds_46 : decode cX11_generatorEnds 46 = .ok (.invokevirtual 375, 3) := by decide +kernel
theorem dX11_generatorEnds_49 : decode cX11_generatorEnds 49 = .ok (.goto 43, 3) := by decide +kernel
theorem dX11_generatorEnds_52 : decode cX11_generatorEnds 52 = .ok (.iload_n 3, 1) := by decide +kernel
theorem dX11_generatorEnds_53 : decode cX11_generatorEnds 53 = .ok (.ifCond .eq 10, 3) := by decide +kernel
theorem dX11_generatorEnds_56 : decode cX11_generatorEnds 56 = .ok (.aload_n 0, 1) := by decide +kernel
theorem dX11_generatorEnds_57 : decode cX11_generatorEnds 57 = .ok (.invokevirtual 380, 3) := by decide +kernel
theorem dX11_generatorEnds_60 : decode cX11_generatorEnds 60 = .ok (.goto 32, 3) := by decide +kernel
theorem dX11_generatorEnds_63 : decode cX11_generatorEnds 63 = .ok (.aload_n 0, 1) := by decide +kernel
theorem dX11_generatorEnds_64 : decode cX11_generatorEnds 64 = .ok (.iload_n 2, 1) := by decide +kernel
theorem dX11_generatorEnds_65 : decode cX11_generatorEnds 65 = .ok (.invokevirtual 337, 3) := by decide +kernel
theorem dX11_generatorEnds_68 : decode cX11_generatorEnds 68 = .ok (.aload_n 0, 1) := by decide +kernel
theorem dX11_generatorEnds_69 : decode cX11_generatorEnds 69 = .ok (.aload_n 0, 1) := by decide +kernel
theorem dX11_generatorEnds_70 : decode cX11_generatorEnds 70 = .ok (.getfield 72, 3) := by decide +kernel
theorem dX11_generatorEnds_73 : decode cX11_generatorEnds 73 = .ok (.iload_n 2, 1) := by decide +kernel
theorem dX11_generatorEnds_74 : decode cX11_generatorEnds 74 = .ok (.iaload, 1) := by decide +kernel
theorem dX11_generatorEnds_75 : decode cX11_generatorEnds 75 = .ok (.putfield 212, 3) := by decide +kernel
theorem dX11_generatorEnds_78 : decode cX11_generatorEnds 78 = .ok (.aload_n 0, 1) := by decide +kernel
theorem dX11_generatorEnds_79 : decode cX11_generatorEnds 79 = .ok (.getfield 202, 3) := by decide +kernel
theorem dX11_generatorEnds_82 : decode cX11_generatorEnds 82 = .ok (.iconst 2, 1) := by decide +kernel
theorem dX11_generatorEnds_83 : decode cX11_generatorEnds 83 = .ok (.if_icmp .eq 9, 3) := by decide +kernel
theorem dX11_generatorEnds_86 : decode cX11_generatorEnds 86 = .ok (.aload_n 0, 1) := by decide +kernel
theorem dX11_generatorEnds_87 : decode cX11_generatorEnds 87 = .ok (.iload_n 2, 1) := by decide +kernel
theorem dX11_generatorEnds_88 : decode cX11_generatorEnds 88 = .ok (.iconst (-1), 1) := by decide +kernel
theorem dX11_generatorEnds_89 : decode cX11_generatorEnds 89 = .ok (.invokevirtual 262, 3) := by decide +kernel
theorem dX11_generatorEnds_92 : decode cX11_generatorEnds 92 = .ok (.return_, 1) := by decide +kernel
theorem dX11_closes_0 : decode cX11_closes 0 = .ok (.iconst 0, 1) := by decide +kernel
theorem dX11_closes_1 : decode cX11_closes 1 = .ok (.istore_n 1, 1) := by decide +kernel
theorem dX11_closes_2 : decode cX11_closes 2 = .ok (.iload_n 1, 1) := by decide +kernel
theorem dX11_closes_3 : decode cX11_closes 3 = .ok (.aload_n 0, 1) := by decide +kernel
theorem dX11_closes_4 : decode cX11_closes 4 = .ok (.getfield 292, 3) := by decide +kernel
theorem dX11_closes_7 : decode cX11_closes 7 = .ok (.if_icmp .ge 19, 3) := by decide +kernel
theorem dX11_closes_10 : decode cX11_closes 10 = .ok (.aload_n 0, 1) := by decide +kernel
theorem dX11_closes_11 : decode cX11_closes 11 = .ok (.getfield 108, 3) := by decide +kernel
theorem dX11_closes_14 : decode cX11_closes 14 = .ok (.iload_n 1, 1) := by decide +kernel
theorem dX11_closes_15 : decode cX11_closes 15 = .ok (.iaload, 1) := by decide +kernel
theorem dX11_closes_16 : decode cX11_closes 16 = .ok (.iconst 1, 1) := by decide +kernel
theorem dX11_closes_17 : decode cX11_closes 17 = .ok (.if_icmp .eq 9, 3) := by decide +kernel
theorem dX11_closes_20 : decode cX11_closes 20 = .ok (.iinc 1 1, 3) := by decide +kernel
theorem dX11_closes_23 : decode cX11_closes 23 = .ok (.goto (-21), 3) := by decide +kernel
theorem dX11_closes_26 : decode cX11_closes 26 = .ok (.iload_n 1, 1) := by decide +kernel
theorem dX11_closes_27 : decode cX11_closes 27 = .ok (.aload_n 0, 1) := by decide +kernel
theorem dX11_closes_28 : decode cX11_closes 28 = .ok (.getfield 292, 3) := by decide +kernel
theorem dX11_closes_31 : decode cX11_closes 31 = .ok (.if_icmp .ne 14, 3) := by decide +kernel
theorem dX11_closes_34 : decode cX11_closes 34 = .ok (.aload_n 0, 1) := by decide +kernel
theorem dX11_closes_35 : decode cX11_closes 35 = .ok (.iconst 0, 1) := by decide +kernel
theorem dX11_closes_36 : decode cX11_closes 36 = .ok (.putfield 202, 3) := by decide +kernel
theorem dX11_closes_39 : decode cX11_closes 39 = .ok (.aload_n 0, 1) := by decide +kernel
theorem dX11_closes_40 : decode cX11_closes 40 = .ok (.iconst 1, 1) := by decide +kernel
theorem dX11_closes_41 : decode cX11_closes 41 = .ok (.putfield 389, 3) := by decide +kernel
theorem dX11_closes_44 : decode cX11_closes 44 = .ok (.return_, 1) := by decide +kernel
theorem dX11_closes_45 : decode cX11_closes 45 = .ok (.aload_n 0, 1) := by decide +kernel
theorem dX11_closes_46 : decode cX11_closes 46 = .ok (.getfield 108, 3) := by decide +kernel
theorem dX11_closes_49 : decode cX11_closes 49 = .ok (.iload_n 1, 1) := by decide +kernel
theorem dX11_closes_50 : decode cX11_closes 50 = .ok (.iconst 3, 1) := by decide +kernel
theorem dX11_closes_51 : decode cX11_closes 51 = .ok (.iastore, 1) := by decide +kernel
theorem dX11_closes_52 : decode cX11_closes 52 = .ok (.aload_n 0, 1) := by decide +kernel
theorem dX11_closes_53 : decode cX11_closes 53 = .ok (.getfield 72, 3) := by decide +kernel
theorem dX11_closes_56 : decode cX11_closes 56 = .ok (.aload_n 0, 1) := by decide +kernel
theorem dX11_closes_57 : decode cX11_closes 57 = .ok (.getfield 114, 3) := by decide +kernel
theorem dX11_closes_60 : decode cX11_closes 60 = .ok (.iload_n 1, 1) := by decide +kernel
theorem dX11_closes_61 : decode cX11_closes 61 = .ok (.iaload, 1) := by decide +kernel
theorem dX11_closes_62 : decode cX11_closes 62 = .ok (.iconst (-1), 1) := by decide +kernel
theorem dX11_closes_63 : decode cX11_closes 63 = .ok (.iastore, 1) := by decide +kernel
theorem dX11_closes_64 : decode cX11_closes 64 = .ok (.aload_n 0, 1) := by decide +kernel
theorem dX11_closes_65 : decode cX11_closes 65 = .ok (.aload_n 0, 1) := by decide +kernel
theorem dX11_closes_66 : decode cX11_closes 66 = .ok (.getfield 111, 3) := by decide +kernel
theorem dX11_closes_69 : decode cX11_closes 69 = .ok (.iload_n 1, 1) := by decide +kernel
theorem dX11_closes_70 : decode cX11_closes 70 = .ok (.iaload, 1) := by decide +kernel
theorem dX11_closes_71 : decode cX11_closes 71 = .ok (.iconst 5, 1) := by decide +kernel
theorem dX11_closes_72 : decode cX11_closes 72 = .ok (.iconst 0, 1) := by decide +kernel
theorem dX11_closes_73 : decode cX11_closes 73 = .ok (.iconst 0, 1) := by decide +kernel
theorem dX11_closes_74 : decode cX11_closes 74 = .ok (.invokevirtual 319, 3) := by decide +kernel
theorem dX11_closes_77 : decode cX11_closes 77 = .ok (.return_, 1) := by decide +kernel
theorem dX11_stops_0 : decode cX11_stops 0 = .ok (.aload_n 0, 1) := by decide +kernel
theorem dX11_stops_1 : decode cX11_stops 1 = .ok (.ldc 123, 2) := by decide +kernel
theorem dX11_stops_3 : decode cX11_stops 3 = .ok (.aload_n 0, 1) := by decide +kernel
theorem dX11_stops_4 : decode cX11_stops 4 = .ok (.getfield 209, 3) := by decide +kernel
theorem dX11_stops_7 : decode cX11_stops 7 = .ok (.iadd, 1) := by decide +kernel
theorem dX11_stops_8 : decode cX11_stops 8 = .ok (.putfield 377, 3) := by decide +kernel
theorem dX11_stops_11 : decode cX11_stops 11 = .ok (.aload_n 0, 1) := by decide +kernel
theorem dX11_stops_12 : decode cX11_stops 12 = .ok (.aload_n 0, 1) := by decide +kernel
theorem dX11_stops_13 : decode cX11_stops 13 = .ok (.getfield 215, 3) := by decide +kernel
theorem dX11_stops_16 : decode cX11_stops 16 = .ok (.ldc 189, 2) := by decide +kernel
theorem dX11_stops_18 : decode cX11_stops 18 = .ok (.if_icmp .ne 8, 3) := by decide +kernel
theorem dX11_stops_21 : decode cX11_stops 21 = .ok (.ldc 123, 2) := by decide +kernel
theorem dX11_stops_23 : decode cX11_stops 23 = .ok (.goto 7, 3) := by decide +kernel
theorem dX11_stops_26 : decode cX11_stops 26 = .ok (.aload_n 0, 1) := by decide +kernel
theorem dX11_stops_27 : decode cX11_stops 27 = .ok (.getfield 215, 3) := by decide +kernel
theorem dX11_stops_30 : decode cX11_stops 30 = .ok (.putfield 392, 3) := by decide +kernel
theorem dX11_stops_33 : decode cX11_stops 33 = .ok (.aload_n 0, 1) := by decide +kernel
theorem dX11_stops_34 : decode cX11_stops 34 = .ok (.getfield 120, 3) := by decide +kernel
theorem dX11_stops_37 : decode cX11_stops 37 = .ok (.iconst 0, 1) := by decide +kernel
theorem dX11_stops_38 : decode cX11_stops 38 = .ok (.aload_n 0, 1) := by decide +kernel
theorem dX11_stops_39 : decode cX11_stops 39 = .ok (.getfield 218, 3) := by decide +kernel
theorem dX11_stops_42 : decode cX11_stops 42 = .ok (.iastore, 1) := by decide +kernel
theorem dX11_stops_43 : decode cX11_stops 43 = .ok (.aload_n 0, 1) := by decide +kernel
theorem dX11_stops_44 : decode cX11_stops 44 = .ok (.iconst 1, 1) := by decide +kernel
theorem dX11_stops_45 : decode cX11_stops 45 = .ok (.putfield 395, 3) := by decide +kernel
theorem dX11_stops_48 : decode cX11_stops 48 = .ok (.aload_n 0, 1) := by decide +kernel
theorem dX11_stops_49 : decode cX11_stops 49 = .ok (.getfield 224, 3) := by decide +kernel
theorem dX11_stops_52 : decode cX11_stops 52 = .ok (.istore_n 1, 1) := by decide +kernel
theorem dX11_stops_53 : decode cX11_stops 53 = .ok (.iload_n 1, 1) := by decide +kernel
theorem dX11_stops_54 : decode cX11_stops 54 = .ok (.iconst (-1), 1) := by decide +kernel
theorem dX11_stops_55 : decode cX11_stops 55 = .ok (.if_icmp .eq 38, 3) := by decide +kernel
theorem dX11_stops_58 : decode cX11_stops 58 = .ok (.aload_n 0, 1) := by decide +kernel
theorem dX11_stops_59 : decode cX11_stops 59 = .ok (.getfield 120, 3) := by decide +kernel
theorem dX11_stops_62 : decode cX11_stops 62 = .ok (.aload_n 0, 1) := by decide +kernel
theorem dX11_stops_63 : decode cX11_stops 63 = .ok (.getfield 395, 3) := by decide +kernel
theorem dX11_stops_66 : decode cX11_stops 66 = .ok (.aload_n 0, 1) := by decide +kernel
theorem dX11_stops_67 : decode cX11_stops 67 = .ok (.getfield 69, 3) := by decide +kernel
theorem dX11_stops_70 : decode cX11_stops 70 = .ok (.iload_n 1, 1) := by decide +kernel
theorem dX11_stops_71 : decode cX11_stops 71 = .ok (.iaload, 1) := by decide +kernel
theorem dX11_stops_72 : decode cX11_stops 72 = .ok (.iastore, 1) := by decide +kernel
theorem dX11_stops_73 : decode cX11_stops 73 = .ok (.aload_n 0, 1) := by decide +kernel
theorem dX11_stops_74 : decode cX11_stops 74 = .ok (.dup, 1) := by decide +kernel
theorem dX11_stops_75 : decode cX11_stops 75 = .ok (.getfield 395, 3) := by decide +kernel
theorem dX11_stops_78 : decode cX11_stops 78 = .ok (.iconst 1, 1) := by decide +kernel
theorem dX11_stops_79 : decode cX11_stops 79 = .ok (.iadd, 1) := by decide +kernel
theorem dX11_stops_80 : decode cX11_stops 80 = .ok (.putfield 395, 3) := by decide +kernel
theorem dX11_stops_83 : decode cX11_stops 83 = .ok (.aload_n 0, 1) := by decide +kernel
theorem dX11_stops_84 : decode cX11_stops 84 = .ok (.getfield 87, 3) := by decide +kernel
theorem dX11_stops_87 : decode cX11_stops 87 = .ok (.iload_n 1, 1) := by decide +kernel
theorem dX11_stops_88 : decode cX11_stops 88 = .ok (.iaload, 1) := by decide +kernel
theorem dX11_stops_89 : decode cX11_stops 89 = .ok (.istore_n 1, 1) := by decide +kernel
theorem dX11_stops_90 : decode cX11_stops 90 = .ok (.goto (-37), 3) := by decide +kernel
theorem dX11_stops_93 : decode cX11_stops 93 = .ok (.aload_n 0, 1) := by decide +kernel
theorem dX11_stops_94 : decode cX11_stops 94 = .ok (.invokevirtual 398, 3) := by decide +kernel
theorem dX11_stops_97 : decode cX11_stops 97 = .ok (.aload_n 0, 1) := by decide +kernel
theorem dX11_stops_98 : decode cX11_stops 98 = .ok (.iconst 0, 1) := by decide +kernel
theorem dX11_stops_99 : decode cX11_stops 99 = .ok (.putfield 202, 3) := by decide +kernel
theorem dX11_stops_102 : decode cX11_stops 102 = .ok (.aload_n 0, 1) := by decide +kernel
theorem dX11_stops_103 : decode cX11_stops 103 = .ok (.iconst 1, 1) := by decide +kernel
theorem dX11_stops_104 : decode cX11_stops 104 = .ok (.putfield 389, 3) := by decide +kernel
theorem dX11_stops_107 : decode cX11_stops 107 = .ok (.return_, 1) := by decide +kernel
theorem dX11_prepares_0 : decode cX11_prepares 0 = .ok (.aload_n 0, 1) := by decide +kernel
theorem dX11_prepares_1 : decode cX11_prepares 1 = .ok (.invokevirtual 401, 3) := by decide +kernel
theorem dX11_prepares_4 : decode cX11_prepares 4 = .ok (.aload_n 0, 1) := by decide +kernel
theorem dX11_prepares_5 : decode cX11_prepares 5 = .ok (.iconst 0, 1) := by decide +kernel
theorem dX11_prepares_6 : decode cX11_prepares 6 = .ok (.putfield 190, 3) := by decide +kernel
theorem dX11_prepares_9 : decode cX11_prepares 9 = .ok (.aload_n 0, 1) := by decide +kernel
theorem dX11_prepares_10 : decode cX11_prepares 10 = .ok (.iconst 0, 1) := by decide +kernel
theorem dX11_prepares_11 : decode cX11_prepares 11 = .ok (.putfield 186, 3) := by decide +kernel
theorem dX11_prepares_14 : decode cX11_prepares 14 = .ok (.aload_n 0, 1) := by decide +kernel
theorem dX11_prepares_15 : decode cX11_prepares 15 = .ok (.iconst 0, 1) := by decide +kernel
theorem dX11_prepares_16 : decode cX11_prepares 16 = .ok (.putfield 289, 3) := by decide +kernel
theorem dX11_prepares_19 : decode cX11_prepares 19 = .ok (.aload_n 0, 1) := by decide +kernel
theorem dX11_prepares_20 : decode cX11_prepares 20 = .ok (.iconst 0, 1) := by decide +kernel
theorem dX11_prepares_21 : decode cX11_prepares 21 = .ok (.putfield 292, 3) := by decide +kernel
theorem dX11_prepares_24 : decode cX11_prepares 24 = .ok (.aload_n 0, 1) := by decide +kernel
theorem dX11_prepares_25 : decode cX11_prepares 25 = .ok (.iconst 0, 1) := by decide +kernel
theorem dX11_prepares_26 : decode cX11_prepares 26 = .ok (.putfield 373, 3) := by decide +kernel
theorem dX11_prepares_29 : decode cX11_prepares 29 = .ok (.aload_n 0, 1) := by decide +kernel
theorem dX11_prepares_30 : decode cX11_prepares 30 = .ok (.iconst (-1), 1) := by decide +kernel
theorem dX11_prepares_31 : decode cX11_prepares 31 = .ok (.putfield 221, 3) := by decide +kernel
theorem dX11_prepares_34 : decode cX11_prepares 34 = .ok (.aload_n 0, 1) := by decide +kernel
theorem dX11_prepares_35 : decode cX11_prepares 35 = .ok (.iconst 0, 1) := by decide +kernel
theorem dX11_prepares_36 : decode cX11_prepares 36 = .ok (.putfield 234, 3) := by decide +kernel
theorem dX11_prepares_39 : decode cX11_prepares 39 = .ok (.aload_n 0, 1) := by decide +kernel
theorem dX11_prepares_40 : decode cX11_prepares 40 = .ok (.iconst 0, 1) := by decide +kernel
theorem dX11_prepares_41 : decode cX11_prepares 41 = .ok (.putfield 241, 3) := by decide +kernel
theorem dX11_prepares_44 : decode cX11_prepares 44 = .ok (.aload_n 0, 1) := by decide +kernel
theorem dX11_prepares_45 : decode cX11_prepares 45 = .ok (.iconst 0, 1) := by decide +kernel
theorem dX11_prepares_46 : decode cX11_prepares 46 = .ok (.putfield 389, 3) := by decide +kernel
theorem dX11_prepares_49 : decode cX11_prepares 49 = .ok (.aload_n 0, 1) := by decide +kernel
theorem dX11_prepares_50 : decode cX11_prepares 50 = .ok (.iconst 0, 1) := by decide +kernel
theorem dX11_prepares_51 : decode cX11_prepares 51 = .ok (.putfield 404, 3) := by decide +kernel
theorem dX11_prepares_54 : decode cX11_prepares 54 = .ok (.aload_n 0, 1) := by decide +kernel
theorem dX11_prepares_55 : decode cX11_prepares 55 = .ok (.aload_n 0, 1) := by decide +kernel
theorem dX11_prepares_56 : decode cX11_prepares 56 = .ok (.getfield 48, 3) := by decide +kernel
theorem dX11_prepares_59 : decode cX11_prepares 59 = .ok (.putfield 407, 3) := by decide +kernel
theorem dX11_prepares_62 : decode cX11_prepares 62 = .ok (.aload_n 0, 1) := by decide +kernel
theorem dX11_prepares_63 : decode cX11_prepares 63 = .ok (.iconst 0, 1) := by decide +kernel
theorem dX11_prepares_64 : decode cX11_prepares 64 = .ok (.putfield 377, 3) := by decide +kernel
theorem dX11_prepares_67 : decode cX11_prepares 67 = .ok (.aload_n 0, 1) := by decide +kernel
theorem dX11_prepares_68 : decode cX11_prepares 68 = .ok (.ldc 123, 2) := by decide +kernel
theorem dX11_prepares_70 : decode cX11_prepares 70 = .ok (.putfield 392, 3) := by decide +kernel
theorem dX11_prepares_73 : decode cX11_prepares 73 = .ok (.aload_n 0, 1) := by decide +kernel
theorem dX11_prepares_74 : decode cX11_prepares 74 = .ok (.iconst 0, 1) := by decide +kernel
theorem dX11_prepares_75 : decode cX11_prepares 75 = .ok (.putfield 395, 3) := by decide +kernel
theorem dX11_prepares_78 : decode cX11_prepares 78 = .ok (.aload_n 0, 1) := by decide +kernel
theorem dX11_prepares_79 : decode cX11_prepares 79 = .ok (.iload_n 1, 1) := by decide +kernel
theorem dX11_prepares_80 : decode cX11_prepares 80 = .ok (.iconst 0, 1) := by decide +kernel
theorem dX11_prepares_81 : decode cX11_prepares 81 = .ok (.iconst (-1), 1) := by decide +kernel
theorem dX11_prepares_82 : decode cX11_prepares 82 = .ok (.aload_n 0, 1) := by decide +kernel
theorem dX11_prepares_83 : decode cX11_prepares 83 = .ok (.iconst (-1), 1) := by decide +kernel
theorem dX11_prepares_84 : decode cX11_prepares 84 = .ok (.invokevirtual 244, 3) := by decide +kernel
theorem dX11_prepares_87 : decode cX11_prepares 87 = .ok (.invokevirtual 247, 3) := by decide +kernel
theorem dX11_prepares_90 : decode cX11_prepares 90 = .ok (.istore_n 2, 1) := by decide +kernel
theorem dX11_prepares_91 : decode cX11_prepares 91 = .ok (.return_, 1) := by decide +kernel
theorem dX11_beginsNext_0 : decode cX11_beginsNext 0 = .ok (.aload_n 0, 1) := by decide +kernel
theorem dX11_beginsNext_1 : decode cX11_beginsNext 1 = .ok (.getfield 404, 3) := by decide +kernel
theorem dX11_beginsNext_4 : decode cX11_beginsNext 4 = .ok (.aload_n 0, 1) := by decide +kernel
theorem dX11_beginsNext_5 : decode cX11_beginsNext 5 = .ok (.getfield 407, 3) := by decide +kernel
theorem dX11_beginsNext_8 : decode cX11_beginsNext 8 = .ok (.if_icmp .ne 37, 3) := by decide +kernel
theorem dX11_beginsNext_11 : decode cX11_beginsNext 11 = .ok (.aload_n 0, 1) := by decide +kernel
theorem dX11_beginsNext_12 : decode cX11_beginsNext 12 = .ok (.bipush (-7), 2) := by decide +kernel
theorem dX11_beginsNext_14 : decode cX11_beginsNext 14 = .ok (.putfield 209, 3) := by decide +kernel
theorem dX11_beginsNext_17 : decode cX11_beginsNext 17 = .ok (.aload_n 0, 1) := by decide +kernel
theorem dX11_beginsNext_18 : decode cX11_beginsNext 18 = .ok (.ldc 189, 2) := by decide +kernel
theorem dX11_beginsNext_20 : decode cX11_beginsNext 20 = .ok (.putfield 215, 3) := by decide +kernel
theorem dX11_beginsNext_23 : decode cX11_beginsNext 23 = .ok (.aload_n 0, 1) := by decide +kernel
theorem dX11_beginsNext_24 : decode cX11_beginsNext 24 = .ok (.aload_n 0, 1) := by decide +kernel
theorem dX11_beginsNext_25 : decode cX11_beginsNext 25 = .ok (.getfield 193, 3) := by decide +kernel
theorem dX11_beginsNext_28 : decode cX11_beginsNext 28 = .ok (.putfield 218, 3) := by decide +kernel
theorem dX11_beginsNext_31 : decode cX11_beginsNext 31 = .ok (.aload_n 0, 1) := by decide +kernel
theorem dX11_beginsNext_32 : decode cX11_beginsNext 32 = .ok (.aload_n 0, 1) := by decide +kernel
theorem dX11_beginsNext_33 : decode cX11_beginsNext 33 = .ok (.getfield 221, 3) := by decide +kernel
theorem dX11_beginsNext_36 : decode cX11_beginsNext 36 = .ok (.putfield 224, 3) := by decide +kernel
theorem dX11_beginsNext_39 : decode cX11_beginsNext 39 = .ok (.aload_n 0, 1) := by decide +kernel
theorem dX11_beginsNext_40 : decode cX11_beginsNext 40 = .ok (.invokevirtual 375, 3) := by decide +kernel
theorem dX11_beginsNext_43 : decode cX11_beginsNext 43 = .ok (.iconst 0, 1) := by decide +kernel
theorem dX11_beginsNext_44 : decode cX11_beginsNext 44 = .ok (.ireturn, 1) := by decide +kernel
theorem dX11_beginsNext_45 : decode cX11_beginsNext 45 = .ok (.aload_n 0, 1) := by decide +kernel
theorem dX11_beginsNext_46 : decode cX11_beginsNext 46 = .ok (.dup, 1) := by decide +kernel
theorem dX11_beginsNext_47 : decode cX11_beginsNext 47 = .ok (.getfield 404, 3) := by decide +kernel
theorem dX11_beginsNext_50 : decode cX11_beginsNext 50 = .ok (.iconst 1, 1) := by decide +kernel
theorem dX11_beginsNext_51 : decode cX11_beginsNext 51 = .ok (.iadd, 1) := by decide +kernel
theorem dX11_beginsNext_52 : decode cX11_beginsNext 52 = .ok (.putfield 404, 3) := by decide +kernel
theorem dX11_beginsNext_55 : decode cX11_beginsNext 55 = .ok (.aload_n 0, 1) := by decide +kernel
theorem dX11_beginsNext_56 : decode cX11_beginsNext 56 = .ok (.invokevirtual 410, 3) := by decide +kernel
theorem dX11_beginsNext_59 : decode cX11_beginsNext 59 = .ok (.aload_n 0, 1) := by decide +kernel
theorem dX11_beginsNext_60 : decode cX11_beginsNext 60 = .ok (.getfield 202, 3) := by decide +kernel
theorem dX11_beginsNext_63 : decode cX11_beginsNext 63 = .ok (.ifCond .eq 61, 3) := by decide +kernel
theorem dX11_beginsNext_66 : decode cX11_beginsNext 66 = .ok (.aload_n 0, 1) := by decide +kernel
theorem dX11_beginsNext_67 : decode cX11_beginsNext 67 = .ok (.getfield 69, 3) := by decide +kernel
theorem dX11_beginsNext_70 : decode cX11_beginsNext 70 = .ok (.aload_n 0, 1) := by decide +kernel
theorem dX11_beginsNext_71 : decode cX11_beginsNext 71 = .ok (.getfield 212, 3) := by decide +kernel
theorem dX11_beginsNext_74 : decode cX11_beginsNext 74 = .ok (.iaload, 1) := by decide +kernel
theorem dX11_beginsNext_75 : decode cX11_beginsNext 75 = .ok (.iconst (-1), 1) := by decide +kernel
theorem dX11_beginsNext_76 : decode cX11_beginsNext 76 = .ok (.if_icmp .ne 14, 3) := by decide +kernel
theorem dX11_beginsNext_79 : decode cX11_beginsNext 79 = .ok (.aload_n 0, 1) := by decide +kernel
theorem dX11_beginsNext_80 : decode cX11_beginsNext 80 = .ok (.aload_n 0, 1) := by decide +kernel
theorem dX11_beginsNext_81 : decode cX11_beginsNext 81 = .ok (.getfield 212, 3) := by decide +kernel
theorem dX11_beginsNext_84 : decode cX11_beginsNext 84 = .ok (.invokevirtual 413, 3) := by decide +kernel
theorem dX11_beginsNext_87 : decode cX11_beginsNext 87 = .ok (.goto (-28), 3) := by decide +kernel
theorem dX11_beginsNext_90 : decode cX11_beginsNext 90 = .ok (.aload_n 0, 1) := by decide +kernel
theorem dX11_beginsNext_91 : decode cX11_beginsNext 91 = .ok (.getfield 202, 3) := by decide +kernel
theorem dX11_beginsNext_94 : decode cX11_beginsNext 94 = .ok (.iconst 1, 1) := by decide +kernel
theorem dX11_beginsNext_95 : decode cX11_beginsNext 95 = .ok (.if_icmp .ne 18, 3) := by decide +kernel
theorem dX11_beginsNext_98 : decode cX11_beginsNext 98 = .ok (.aload_n 0, 1) := by decide +kernel
theorem dX11_beginsNext_99 : decode cX11_beginsNext 99 = .ok (.aload_n 0, 1) := by decide +kernel
theorem dX11_beginsNext_100 : decode cX11_beginsNext 100 = .ok (.getfield 212, 3) := by decide +kernel
theorem dX11_beginsNext_103 : decode cX11_beginsNext 103 = .ok (.aload_n 0, 1) := by decide +kernel
theorem dX11_beginsNext_104 : decode cX11_beginsNext 104 = .ok (.getfield 209, 3) := by decide +kernel
theorem dX11_beginsNext_107 : decode cX11_beginsNext 107 = .ok (.invokevirtual 416, 3) := by decide +kernel
theorem dX11_beginsNext_110 : decode cX11_beginsNext 110 = .ok (.goto (-51), 3) := by decide +kernel
theorem dX11_beginsNext_113 : decode cX11_beginsNext 113 = .ok (.aload_n 0, 1) := by decide +kernel
theorem dX11_beginsNext_114 : decode cX11_beginsNext 114 = .ok (.aload_n 0, 1) := by decide +kernel
theorem dX11_beginsNext_115 : decode cX11_beginsNext 115 = .ok (.getfield 212, 3) := by decide +kernel
theorem dX11_beginsNext_118 : decode cX11_beginsNext 118 = .ok (.invokevirtual 419, 3) := by decide +kernel
theorem dX11_beginsNext_121 : decode cX11_beginsNext 121 = .ok (.goto (-62), 3) := by decide +kernel
theorem dX11_beginsNext_124 : decode cX11_beginsNext 124 = .ok (.iconst 1, 1) := by decide +kernel
theorem dX11_beginsNext_125 : decode cX11_beginsNext 125 = .ok (.ireturn, 1) := by decide +kernel
theorem dX11_runsAll_0 : decode cX11_runsAll 0 = .ok (.aload_n 0, 1) := by decide +kernel
theorem dX11_runsAll_1 : decode cX11_runsAll 1 = .ok (.iload_n 1, 1) := by decide +kernel
theorem dX11_runsAll_2 : decode cX11_runsAll 2 = .ok (.invokevirtual 422, 3) := by decide +kernel
theorem dX11_runsAll_5 : decode cX11_runsAll 5 = .ok (.aload_n 0, 1) := by decide +kernel
theorem dX11_runsAll_6 : decode cX11_runsAll 6 = .ok (.getfield 389, 3) := by decide +kernel
theorem dX11_runsAll_9 : decode cX11_runsAll 9 = .ok (.ifCond .ne 11, 3) := by decide +kernel
theorem dX11_runsAll_12 : decode cX11_runsAll 12 = .ok (.aload_n 0, 1) := by decide +kernel
theorem dX11_runsAll_13 : decode cX11_runsAll 13 = .ok (.invokevirtual 425, 3) := by decide +kernel
theorem dX11_runsAll_16 : decode cX11_runsAll 16 = .ok (.istore_n 2, 1) := by decide +kernel
theorem dX11_runsAll_17 : decode cX11_runsAll 17 = .ok (.goto (-12), 3) := by decide +kernel
theorem dX11_runsAll_20 : decode cX11_runsAll 20 = .ok (.return_, 1) := by decide +kernel
theorem dX11_lasts_0 : decode cX11_lasts 0 = .ok (.aload_n 0, 1) := by decide +kernel
theorem dX11_lasts_1 : decode cX11_lasts 1 = .ok (.aload_n 0, 1) := by decide +kernel
theorem dX11_lasts_2 : decode cX11_lasts 2 = .ok (.getfield 377, 3) := by decide +kernel
theorem dX11_lasts_5 : decode cX11_lasts 5 = .ok (.putfield 429, 3) := by decide +kernel
theorem dX11_lasts_8 : decode cX11_lasts 8 = .ok (.aload_n 0, 1) := by decide +kernel
theorem dX11_lasts_9 : decode cX11_lasts 9 = .ok (.aload_n 0, 1) := by decide +kernel
theorem dX11_lasts_10 : decode cX11_lasts 10 = .ok (.getfield 404, 3) := by decide +kernel
theorem dX11_lasts_13 : decode cX11_lasts 13 = .ok (.putfield 432, 3) := by decide +kernel
theorem dX11_lasts_16 : decode cX11_lasts 16 = .ok (.aload_n 0, 1) := by decide +kernel
theorem dX11_lasts_17 : decode cX11_lasts 17 = .ok (.aload_n 0, 1) := by decide +kernel
theorem dX11_lasts_18 : decode cX11_lasts 18 = .ok (.getfield 392, 3) := by decide +kernel
theorem dX11_lasts_21 : decode cX11_lasts 21 = .ok (.putfield 124, 3) := by decide +kernel
theorem dX11_lasts_24 : decode cX11_lasts 24 = .ok (.aload_n 0, 1) := by decide +kernel
theorem dX11_lasts_25 : decode cX11_lasts 25 = .ok (.aload_n 0, 1) := by decide +kernel
theorem dX11_lasts_26 : decode cX11_lasts 26 = .ok (.getfield 395, 3) := by decide +kernel
theorem dX11_lasts_29 : decode cX11_lasts 29 = .ok (.putfield 435, 3) := by decide +kernel
theorem dX11_lasts_32 : decode cX11_lasts 32 = .ok (.iconst 0, 1) := by decide +kernel
theorem dX11_lasts_33 : decode cX11_lasts 33 = .ok (.istore_n 1, 1) := by decide +kernel
theorem dX11_lasts_34 : decode cX11_lasts 34 = .ok (.iload_n 1, 1) := by decide +kernel
theorem dX11_lasts_35 : decode cX11_lasts 35 = .ok (.aload_n 0, 1) := by decide +kernel
theorem dX11_lasts_36 : decode cX11_lasts 36 = .ok (.getfield 395, 3) := by decide +kernel
theorem dX11_lasts_39 : decode cX11_lasts 39 = .ok (.if_icmp .ge 21, 3) := by decide +kernel
theorem dX11_lasts_42 : decode cX11_lasts 42 = .ok (.aload_n 0, 1) := by decide +kernel
theorem dX11_lasts_43 : decode cX11_lasts 43 = .ok (.getfield 127, 3) := by decide +kernel
theorem dX11_lasts_46 : decode cX11_lasts 46 = .ok (.iload_n 1, 1) := by decide +kernel
theorem dX11_lasts_47 : decode cX11_lasts 47 = .ok (.aload_n 0, 1) := by decide +kernel
theorem dX11_lasts_48 : decode cX11_lasts 48 = .ok (.getfield 120, 3) := by decide +kernel
theorem dX11_lasts_51 : decode cX11_lasts 51 = .ok (.iload_n 1, 1) := by decide +kernel
theorem dX11_lasts_52 : decode cX11_lasts 52 = .ok (.iaload, 1) := by decide +kernel
theorem dX11_lasts_53 : decode cX11_lasts 53 = .ok (.iastore, 1) := by decide +kernel
theorem dX11_lasts_54 : decode cX11_lasts 54 = .ok (.iinc 1 1, 3) := by decide +kernel
theorem dX11_lasts_57 : decode cX11_lasts 57 = .ok (.goto (-23), 3) := by decide +kernel
theorem dX11_lasts_60 : decode cX11_lasts 60 = .ok (.return_, 1) := by decide +kernel
theorem dX11_run_0 : decode cX11_run 0 = .ok (.aload_n 0, 1) := by decide +kernel
theorem dX11_run_1 : decode cX11_run 1 = .ok (.aload_n 0, 1) := by decide +kernel
theorem dX11_run_2 : decode cX11_run 2 = .ok (.iload_n 1, 1) := by decide +kernel
theorem dX11_run_3 : decode cX11_run 3 = .ok (.invokevirtual 140, 3) := by decide +kernel
theorem dX11_run_6 : decode cX11_run 6 = .ok (.aload_n 0, 1) := by decide +kernel
theorem dX11_run_7 : decode cX11_run 7 = .ok (.getfield 173, 3) := by decide +kernel
theorem dX11_run_10 : decode cX11_run 10 = .ok (.ifCond .ne 7, 3) := by decide +kernel
theorem dX11_run_13 : decode cX11_run 13 = .ok (.iconst 1, 1) := by decide +kernel
theorem dX11_run_14 : decode cX11_run 14 = .ok (.goto 4, 3) := by decide +kernel
theorem dX11_run_17 : decode cX11_run 17 = .ok (.iconst 0, 1) := by decide +kernel
theorem dX11_run_18 : decode cX11_run 18 = .ok (.iconst 1, 1) := by decide +kernel
theorem dX11_run_19 : decode cX11_run 19 = .ok (.invokevirtual 169, 3) := by decide +kernel
theorem dX11_run_22 : decode cX11_run 22 = .ok (.ifCond .ne 5, 3) := by decide +kernel
theorem dX11_run_25 : decode cX11_run 25 = .ok (.iconst 0, 1) := by decide +kernel
theorem dX11_run_26 : decode cX11_run 26 = .ok (.ireturn, 1) := by decide +kernel
theorem dX11_run_27 : decode cX11_run 27 = .ok (.aload_n 0, 1) := by decide +kernel
theorem dX11_run_28 : decode cX11_run 28 = .ok (.iload_n 1, 1) := by decide +kernel
theorem dX11_run_29 : decode cX11_run 29 = .ok (.invokevirtual 438, 3) := by decide +kernel
theorem dX11_run_32 : decode cX11_run 32 = .ok (.aload_n 0, 1) := by decide +kernel
theorem dX11_run_33 : decode cX11_run 33 = .ok (.invokevirtual 441, 3) := by decide +kernel
theorem dX11_run_36 : decode cX11_run 36 = .ok (.aload_n 0, 1) := by decide +kernel
theorem dX11_run_37 : decode cX11_run 37 = .ok (.getfield 429, 3) := by decide +kernel
theorem dX11_run_40 : decode cX11_run 40 = .ok (.ireturn, 1) := by decide +kernel
theorem dX11_tries_0 : decode cX11_tries 0 = .ok (.aload_n 0, 1) := by decide +kernel
theorem dX11_tries_1 : decode cX11_tries 1 = .ok (.aload_n 0, 1) := by decide +kernel
theorem dX11_tries_2 : decode cX11_tries 2 = .ok (.iload_n 1, 1) := by decide +kernel
theorem dX11_tries_3 : decode cX11_tries 3 = .ok (.invokevirtual 140, 3) := by decide +kernel
theorem dX11_tries_6 : decode cX11_tries 6 = .ok (.aload_n 0, 1) := by decide +kernel
theorem dX11_tries_7 : decode cX11_tries 7 = .ok (.getfield 173, 3) := by decide +kernel
theorem dX11_tries_10 : decode cX11_tries 10 = .ok (.ifCond .ne 7, 3) := by decide +kernel
theorem dX11_tries_13 : decode cX11_tries 13 = .ok (.iconst 1, 1) := by decide +kernel
theorem dX11_tries_14 : decode cX11_tries 14 = .ok (.goto 4, 3) := by decide +kernel
theorem dX11_tries_17 : decode cX11_tries 17 = .ok (.iconst 0, 1) := by decide +kernel
theorem dX11_tries_18 : decode cX11_tries 18 = .ok (.iconst 1, 1) := by decide +kernel
theorem dX11_tries_19 : decode cX11_tries 19 = .ok (.invokevirtual 169, 3) := by decide +kernel
theorem dX11_tries_22 : decode cX11_tries 22 = .ok (.ifCond .ne 5, 3) := by decide +kernel
theorem dX11_tries_25 : decode cX11_tries 25 = .ok (.iconst 0, 1) := by decide +kernel
theorem dX11_tries_26 : decode cX11_tries 26 = .ok (.ireturn, 1) := by decide +kernel
theorem dX11_tries_27 : decode cX11_tries 27 = .ok (.iconst 0, 1) := by decide +kernel
theorem dX11_tries_28 : decode cX11_tries 28 = .ok (.istore_n 2, 1) := by decide +kernel
theorem dX11_tries_29 : decode cX11_tries 29 = .ok (.iload_n 2, 1) := by decide +kernel
theorem dX11_tries_30 : decode cX11_tries 30 = .ok (.iconst 4, 1) := by decide +kernel
theorem dX11_tries_31 : decode cX11_tries 31 = .ok (.if_icmp .ge 21, 3) := by decide +kernel
theorem dX11_tries_34 : decode cX11_tries 34 = .ok (.aload_n 0, 1) := by decide +kernel
theorem dX11_tries_35 : decode cX11_tries 35 = .ok (.getfield 66, 3) := by decide +kernel
theorem dX11_tries_38 : decode cX11_tries 38 = .ok (.iload_n 2, 1) := by decide +kernel
theorem dX11_tries_39 : decode cX11_tries 39 = .ok (.aload_n 0, 1) := by decide +kernel
theorem dX11_tries_40 : decode cX11_tries 40 = .ok (.getfield 41, 3) := by decide +kernel
theorem dX11_tries_43 : decode cX11_tries 43 = .ok (.iload_n 2, 1) := by decide +kernel
theorem dX11_tries_44 : decode cX11_tries 44 = .ok (.iaload, 1) := by decide +kernel
theorem dX11_tries_45 : decode cX11_tries 45 = .ok (.iastore, 1) := by decide +kernel
theorem dX11_tries_46 : decode cX11_tries 46 = .ok (.iinc 2 1, 3) := by decide +kernel
theorem dX11_tries_49 : decode cX11_tries 49 = .ok (.goto (-20), 3) := by decide +kernel
theorem dX11_tries_52 : decode cX11_tries 52 = .ok (.aload_n 0, 1) := by decide +kernel
theorem dX11_tries_53 : decode cX11_tries 53 = .ok (.iload_n 1, 1) := by decide +kernel
theorem dX11_tries_54 : decode cX11_tries 54 = .ok (.invokevirtual 438, 3) := by decide +kernel
theorem dX11_tries_57 : decode cX11_tries 57 = .ok (.aload_n 0, 1) := by decide +kernel
theorem dX11_tries_58 : decode cX11_tries 58 = .ok (.invokevirtual 398, 3) := by decide +kernel
theorem dX11_tries_61 : decode cX11_tries 61 = .ok (.iconst 0, 1) := by decide +kernel
theorem dX11_tries_62 : decode cX11_tries 62 = .ok (.istore_n 2, 1) := by decide +kernel
theorem dX11_tries_63 : decode cX11_tries 63 = .ok (.iload_n 2, 1) := by decide +kernel
theorem dX11_tries_64 : decode cX11_tries 64 = .ok (.iconst 4, 1) := by decide +kernel
theorem dX11_tries_65 : decode cX11_tries 65 = .ok (.if_icmp .ge 21, 3) := by decide +kernel
theorem dX11_tries_68 : decode cX11_tries 68 = .ok (.aload_n 0, 1) := by decide +kernel
theorem dX11_tries_69 : decode cX11_tries 69 = .ok (.getfield 41, 3) := by decide +kernel
theorem dX11_tries_72 : decode cX11_tries 72 = .ok (.iload_n 2, 1) := by decide +kernel
theorem dX11_tries_73 : decode cX11_tries 73 = .ok (.aload_n 0, 1) := by decide +kernel
theorem dX11_tries_74 : decode cX11_tries 74 = .ok (.getfield 66, 3) := by decide +kernel
theorem dX11_tries_77 : decode cX11_tries 77 = .ok (.iload_n 2, 1) := by decide +kernel
theorem dX11_tries_78 : decode cX11_tries 78 = .ok (.iaload, 1) := by decide +kernel
theorem dX11_tries_79 : decode cX11_tries 79 = .ok (.iastore, 1) := by decide +kernel
theorem dX11_tries_80 : decode cX11_tries 80 = .ok (.iinc 2 1, 3) := by decide +kernel
theorem dX11_tries_83 : decode cX11_tries 83 = .ok (.goto (-20), 3) := by decide +kernel
theorem dX11_tries_86 : decode cX11_tries 86 = .ok (.iconst 1, 1) := by decide +kernel
theorem dX11_tries_87 : decode cX11_tries 87 = .ok (.ireturn, 1) := by decide +kernel
theorem dX11_tried_0 : decode cX11_tried 0 = .ok (.aload_n 0, 1) := by decide +kernel
theorem dX11_tried_1 : decode cX11_tried 1 = .ok (.iload_n 1, 1) := by decide +kernel
theorem dX11_tried_2 : decode cX11_tried 2 = .ok (.invokevirtual 444, 3) := by decide +kernel
theorem dX11_tried_5 : decode cX11_tried 5 = .ok (.ifCond .eq 10, 3) := by decide +kernel
theorem dX11_tried_8 : decode cX11_tried 8 = .ok (.aload_n 0, 1) := by decide +kernel
theorem dX11_tried_9 : decode cX11_tried 9 = .ok (.getfield 377, 3) := by decide +kernel
theorem dX11_tried_12 : decode cX11_tried 12 = .ok (.goto 4, 3) := by decide +kernel
theorem dX11_tried_15 : decode cX11_tried 15 = .ok (.iconst 0, 1) := by decide +kernel
theorem dX11_tried_16 : decode cX11_tried 16 = .ok (.ireturn, 1) := by decide +kernel
theorem dX11_triedSteps_0 : decode cX11_triedSteps 0 = .ok (.aload_n 0, 1) := by decide +kernel
theorem dX11_triedSteps_1 : decode cX11_triedSteps 1 = .ok (.iload_n 1, 1) := by decide +kernel
theorem dX11_triedSteps_2 : decode cX11_triedSteps 2 = .ok (.invokevirtual 444, 3) := by decide +kernel
theorem dX11_triedSteps_5 : decode cX11_triedSteps 5 = .ok (.ifCond .eq 10, 3) := by decide +kernel
theorem dX11_triedSteps_8 : decode cX11_triedSteps 8 = .ok (.aload_n 0, 1) := by decide +kernel
theorem dX11_triedSteps_9 : decode cX11_triedSteps 9 = .ok (.getfield 404, 3) := by decide +kernel
theorem dX11_triedSteps_12 : decode cX11_triedSteps 12 = .ok (.goto 4, 3) := by decide +kernel
theorem dX11_triedSteps_15 : decode cX11_triedSteps 15 = .ok (.iconst 0, 1) := by decide +kernel
theorem dX11_triedSteps_16 : decode cX11_triedSteps 16 = .ok (.ireturn, 1) := by decide +kernel
theorem dX11_start_0 : decode cX11_start 0 = .ok (.aload_n 0, 1) := by decide +kernel
theorem dX11_start_1 : decode cX11_start 1 = .ok (.aload_n 0, 1) := by decide +kernel
theorem dX11_start_2 : decode cX11_start 2 = .ok (.iload_n 1, 1) := by decide +kernel
theorem dX11_start_3 : decode cX11_start 3 = .ok (.invokevirtual 140, 3) := by decide +kernel
theorem dX11_start_6 : decode cX11_start 6 = .ok (.aload_n 0, 1) := by decide +kernel
theorem dX11_start_7 : decode cX11_start 7 = .ok (.getfield 173, 3) := by decide +kernel
theorem dX11_start_10 : decode cX11_start 10 = .ok (.ifCond .ne 7, 3) := by decide +kernel
theorem dX11_start_13 : decode cX11_start 13 = .ok (.iconst 1, 1) := by decide +kernel
theorem dX11_start_14 : decode cX11_start 14 = .ok (.goto 4, 3) := by decide +kernel
theorem dX11_start_17 : decode cX11_start 17 = .ok (.iconst 0, 1) := by decide +kernel
theorem dX11_start_18 : decode cX11_start 18 = .ok (.iconst 1, 1) := by decide +kernel
theorem dX11_start_19 : decode cX11_start 19 = .ok (.invokevirtual 169, 3) := by decide +kernel
theorem dX11_start_22 : decode cX11_start 22 = .ok (.ifCond .eq 13, 3) := by decide +kernel
theorem dX11_start_25 : decode cX11_start 25 = .ok (.aload_n 0, 1) := by decide +kernel
theorem dX11_start_26 : decode cX11_start 26 = .ok (.iload_n 1, 1) := by decide +kernel
theorem dX11_start_27 : decode cX11_start 27 = .ok (.invokevirtual 422, 3) := by decide +kernel
theorem dX11_start_30 : decode cX11_start 30 = .ok (.aload_n 0, 1) := by decide +kernel
theorem dX11_start_31 : decode cX11_start 31 = .ok (.iconst 1, 1) := by decide +kernel
theorem dX11_start_32 : decode cX11_start 32 = .ok (.putfield 173, 3) := by decide +kernel
theorem dX11_start_35 : decode cX11_start 35 = .ok (.return_, 1) := by decide +kernel
theorem dX11_step_0 : decode cX11_step 0 = .ok (.aload_n 0, 1) := by decide +kernel
theorem dX11_step_1 : decode cX11_step 1 = .ok (.iload_n 1, 1) := by decide +kernel
theorem dX11_step_2 : decode cX11_step 2 = .ok (.iconst 1, 1) := by decide +kernel
theorem dX11_step_3 : decode cX11_step 3 = .ok (.sipush 600, 3) := by decide +kernel
theorem dX11_step_6 : decode cX11_step 6 = .ok (.invokestatic 136, 3) := by decide +kernel
theorem dX11_step_9 : decode cX11_step 9 = .ok (.aload_n 0, 1) := by decide +kernel
theorem dX11_step_10 : decode cX11_step 10 = .ok (.getfield 173, 3) := by decide +kernel
theorem dX11_step_13 : decode cX11_step 13 = .ok (.iconst 1, 1) := by decide +kernel
theorem dX11_step_14 : decode cX11_step 14 = .ok (.invokevirtual 169, 3) := by decide +kernel
theorem dX11_step_17 : decode cX11_step 17 = .ok (.ifCond .ne 5, 3) := by decide +kernel
theorem dX11_step_20 : decode cX11_step 20 = .ok (.iconst 0, 1) := by decide +kernel
theorem dX11_step_21 : decode cX11_step 21 = .ok (.ireturn, 1) := by decide +kernel
theorem dX11_step_22 : decode cX11_step 22 = .ok (.iconst 0, 1) := by decide +kernel
theorem dX11_step_23 : decode cX11_step 23 = .ok (.istore_n 2, 1) := by decide +kernel
theorem dX11_step_24 : decode cX11_step 24 = .ok (.iconst 1, 1) := by decide +kernel
theorem dX11_step_25 : decode cX11_step 25 = .ok (.istore_n 3, 1) := by decide +kernel
theorem dX11_step_26 : decode cX11_step 26 = .ok (.iload_n 3, 1) := by decide +kernel
theorem dX11_step_27 : decode cX11_step 27 = .ok (.ifCond .eq 51, 3) := by decide +kernel
theorem dX11_step_30 : decode cX11_step 30 = .ok (.iload_n 2, 1) := by decide +kernel
theorem dX11_step_31 : decode cX11_step 31 = .ok (.aload_n 0, 1) := by decide +kernel
theorem dX11_step_32 : decode cX11_step 32 = .ok (.invokevirtual 425, 3) := by decide +kernel
theorem dX11_step_35 : decode cX11_step 35 = .ok (.ifCond .eq 7, 3) := by decide +kernel
theorem dX11_step_38 : decode cX11_step 38 = .ok (.iconst 1, 1) := by decide +kernel
theorem dX11_step_39 : decode cX11_step 39 = .ok (.goto 4, 3) := by decide +kernel
theorem dX11_step_42 : decode cX11_step 42 = .ok (.iconst 0, 1) := by decide +kernel
theorem dX11_step_43 : decode cX11_step 43 = .ok (.iadd, 1) := by decide +kernel
theorem dX11_step_44 : decode cX11_step 44 = .ok (.istore_n 2, 1) := by decide +kernel
theorem dX11_step_45 : decode cX11_step 45 = .ok (.aload_n 0, 1) := by decide +kernel
theorem dX11_step_46 : decode cX11_step 46 = .ok (.getfield 389, 3) := by decide +kernel
theorem dX11_step_49 : decode cX11_step 49 = .ok (.ifCond .ne 24, 3) := by decide +kernel
theorem dX11_step_52 : decode cX11_step 52 = .ok (.iload_n 2, 1) := by decide +kernel
theorem dX11_step_53 : decode cX11_step 53 = .ok (.iload_n 1, 1) := by decide +kernel
theorem dX11_step_54 : decode cX11_step 54 = .ok (.if_icmp .ge 19, 3) := by decide +kernel
theorem dX11_step_57 : decode cX11_step 57 = .ok (.aload_n 0, 1) := by decide +kernel
theorem dX11_step_58 : decode cX11_step 58 = .ok (.getfield 25, 3) := by decide +kernel
theorem dX11_step_61 : decode cX11_step 61 = .ok (.aload_n 0, 1) := by decide +kernel
theorem dX11_step_62 : decode cX11_step 62 = .ok (.getfield 193, 3) := by decide +kernel
theorem dX11_step_65 : decode cX11_step 65 = .ok (.baload, 1) := by decide +kernel
theorem dX11_step_66 : decode cX11_step 66 = .ok (.ifCond .ne 7, 3) := by decide +kernel
theorem dX11_step_69 : decode cX11_step 69 = .ok (.iconst 1, 1) := by decide +kernel
theorem dX11_step_70 : decode cX11_step 70 = .ok (.goto 4, 3) := by decide +kernel
theorem dX11_step_73 : decode cX11_step 73 = .ok (.iconst 0, 1) := by decide +kernel
theorem dX11_step_74 : decode cX11_step 74 = .ok (.istore_n 3, 1) := by decide +kernel
theorem dX11_step_75 : decode cX11_step 75 = .ok (.goto (-49), 3) := by decide +kernel
theorem dX11_step_78 : decode cX11_step 78 = .ok (.aload_n 0, 1) := by decide +kernel
theorem dX11_step_79 : decode cX11_step 79 = .ok (.getfield 389, 3) := by decide +kernel
theorem dX11_step_82 : decode cX11_step 82 = .ok (.ifCond .eq 12, 3) := by decide +kernel
theorem dX11_step_85 : decode cX11_step 85 = .ok (.aload_n 0, 1) := by decide +kernel
theorem dX11_step_86 : decode cX11_step 86 = .ok (.iconst 0, 1) := by decide +kernel
theorem dX11_step_87 : decode cX11_step 87 = .ok (.putfield 173, 3) := by decide +kernel
theorem dX11_step_90 : decode cX11_step 90 = .ok (.aload_n 0, 1) := by decide +kernel
theorem dX11_step_91 : decode cX11_step 91 = .ok (.invokevirtual 441, 3) := by decide +kernel
theorem dX11_step_94 : decode cX11_step 94 = .ok (.iload_n 2, 1) := by decide +kernel
theorem dX11_step_95 : decode cX11_step 95 = .ok (.ireturn, 1) := by decide +kernel
theorem dX11_giveUp_0 : decode cX11_giveUp 0 = .ok (.aload_n 0, 1) := by decide +kernel
theorem dX11_giveUp_1 : decode cX11_giveUp 1 = .ok (.aload_n 0, 1) := by decide +kernel
theorem dX11_giveUp_2 : decode cX11_giveUp 2 = .ok (.getfield 173, 3) := by decide +kernel
theorem dX11_giveUp_5 : decode cX11_giveUp 5 = .ok (.iconst 1, 1) := by decide +kernel
theorem dX11_giveUp_6 : decode cX11_giveUp 6 = .ok (.iconst 1, 1) := by decide +kernel
theorem dX11_giveUp_7 : decode cX11_giveUp 7 = .ok (.invokevirtual 169, 3) := by decide +kernel
theorem dX11_giveUp_10 : decode cX11_giveUp 10 = .ok (.ifCond .ne 5, 3) := by decide +kernel
theorem dX11_giveUp_13 : decode cX11_giveUp 13 = .ok (.iconst 0, 1) := by decide +kernel
theorem dX11_giveUp_14 : decode cX11_giveUp 14 = .ok (.ireturn, 1) := by decide +kernel
theorem dX11_giveUp_15 : decode cX11_giveUp 15 = .ok (.aload_n 0, 1) := by decide +kernel
theorem dX11_giveUp_16 : decode cX11_giveUp 16 = .ok (.invokevirtual 398, 3) := by decide +kernel
theorem dX11_giveUp_19 : decode cX11_giveUp 19 = .ok (.aload_n 0, 1) := by decide +kernel
theorem dX11_giveUp_20 : decode cX11_giveUp 20 = .ok (.iconst 0, 1) := by decide +kernel
theorem dX11_giveUp_21 : decode cX11_giveUp 21 = .ok (.putfield 173, 3) := by decide +kernel
theorem dX11_giveUp_24 : decode cX11_giveUp 24 = .ok (.aload_n 0, 1) := by decide +kernel
theorem dX11_giveUp_25 : decode cX11_giveUp 25 = .ok (.getfield 404, 3) := by decide +kernel
theorem dX11_giveUp_28 : decode cX11_giveUp 28 = .ok (.ireturn, 1) := by decide +kernel
theorem dX11_breakAt_0 : decode cX11_breakAt 0 = .ok (.aload_n 0, 1) := by decide +kernel
theorem dX11_breakAt_1 : decode cX11_breakAt 1 = .ok (.aload_n 0, 1) := by decide +kernel
theorem dX11_breakAt_2 : decode cX11_breakAt 2 = .ok (.iload_n 1, 1) := by decide +kernel
theorem dX11_breakAt_3 : decode cX11_breakAt 3 = .ok (.invokevirtual 140, 3) := by decide +kernel
theorem dX11_breakAt_6 : decode cX11_breakAt 6 = .ok (.iconst 1, 1) := by decide +kernel
theorem dX11_breakAt_7 : decode cX11_breakAt 7 = .ok (.iconst 1, 1) := by decide +kernel
theorem dX11_breakAt_8 : decode cX11_breakAt 8 = .ok (.invokevirtual 169, 3) := by decide +kernel
theorem dX11_breakAt_11 : decode cX11_breakAt 11 = .ok (.ifCond .ne 5, 3) := by decide +kernel
theorem dX11_breakAt_14 : decode cX11_breakAt 14 = .ok (.iconst 0, 1) := by decide +kernel
theorem dX11_breakAt_15 : decode cX11_breakAt 15 = .ok (.ireturn, 1) := by decide +kernel
theorem dX11_breakAt_16 : decode cX11_breakAt 16 = .ok (.aload_n 0, 1) := by decide +kernel
theorem dX11_breakAt_17 : decode cX11_breakAt 17 = .ok (.getfield 25, 3) := by decide +kernel
theorem dX11_breakAt_20 : decode cX11_breakAt 20 = .ok (.iload_n 1, 1) := by decide +kernel
theorem dX11_breakAt_21 : decode cX11_breakAt 21 = .ok (.baload, 1) := by decide +kernel
theorem dX11_breakAt_22 : decode cX11_breakAt 22 = .ok (.istore_n 3, 1) := by decide +kernel
theorem dX11_breakAt_23 : decode cX11_breakAt 23 = .ok (.aload_n 0, 1) := by decide +kernel
theorem dX11_breakAt_24 : decode cX11_breakAt 24 = .ok (.getfield 25, 3) := by decide +kernel
theorem dX11_breakAt_27 : decode cX11_breakAt 27 = .ok (.iload_n 1, 1) := by decide +kernel
theorem dX11_breakAt_28 : decode cX11_breakAt 28 = .ok (.iload_n 2, 1) := by decide +kernel
theorem dX11_breakAt_29 : decode cX11_breakAt 29 = .ok (.bastore, 1) := by decide +kernel
theorem dX11_breakAt_30 : decode cX11_breakAt 30 = .ok (.iload_n 3, 1) := by decide +kernel
theorem dX11_breakAt_31 : decode cX11_breakAt 31 = .ok (.ireturn, 1) := by decide +kernel
theorem dX11_next_0 : decode cX11_next 0 = .ok (.aload_n 0, 1) := by decide +kernel
theorem dX11_next_1 : decode cX11_next 1 = .ok (.aload_n 0, 1) := by decide +kernel
theorem dX11_next_2 : decode cX11_next 2 = .ok (.getfield 173, 3) := by decide +kernel
theorem dX11_next_5 : decode cX11_next 5 = .ok (.ifCond .eq 10, 3) := by decide +kernel
theorem dX11_next_8 : decode cX11_next 8 = .ok (.aload_n 0, 1) := by decide +kernel
theorem dX11_next_9 : decode cX11_next 9 = .ok (.getfield 193, 3) := by decide +kernel
theorem dX11_next_12 : decode cX11_next 12 = .ok (.goto 4, 3) := by decide +kernel
theorem dX11_next_15 : decode cX11_next 15 = .ok (.iconst (-1), 1) := by decide +kernel
theorem dX11_next_16 : decode cX11_next 16 = .ok (.invokevirtual 447, 3) := by decide +kernel
theorem dX11_next_19 : decode cX11_next 19 = .ok (.ireturn, 1) := by decide +kernel
theorem dX11_look_0 : decode cX11_look 0 = .ok (.aload_n 0, 1) := by decide +kernel
theorem dX11_look_1 : decode cX11_look 1 = .ok (.iload_n 1, 1) := by decide +kernel
theorem dX11_look_2 : decode cX11_look 2 = .ok (.invokestatic 147, 3) := by decide +kernel
theorem dX11_look_5 : decode cX11_look 5 = .ok (.aload_n 0, 1) := by decide +kernel
theorem dX11_look_6 : decode cX11_look 6 = .ok (.getfield 173, 3) := by decide +kernel
theorem dX11_look_9 : decode cX11_look 9 = .ok (.iconst 1, 1) := by decide +kernel
theorem dX11_look_10 : decode cX11_look 10 = .ok (.invokevirtual 169, 3) := by decide +kernel
theorem dX11_look_13 : decode cX11_look 13 = .ok (.ifCond .ne 5, 3) := by decide +kernel
theorem dX11_look_16 : decode cX11_look 16 = .ok (.iconst 0, 1) := by decide +kernel
theorem dX11_look_17 : decode cX11_look 17 = .ok (.ireturn, 1) := by decide +kernel
theorem dX11_look_18 : decode cX11_look 18 = .ok (.aload_n 0, 1) := by decide +kernel
theorem dX11_look_19 : decode cX11_look 19 = .ok (.aload_n 0, 1) := by decide +kernel
theorem dX11_look_20 : decode cX11_look 20 = .ok (.getfield 199, 3) := by decide +kernel
theorem dX11_look_23 : decode cX11_look 23 = .ok (.iload_n 1, 1) := by decide +kernel
theorem dX11_look_24 : decode cX11_look 24 = .ok (.invokevirtual 279, 3) := by decide +kernel
theorem dX11_look_27 : decode cX11_look 27 = .ok (.istore_n 2, 1) := by decide +kernel
theorem dX11_look_28 : decode cX11_look 28 = .ok (.iload_n 2, 1) := by decide +kernel
theorem dX11_look_29 : decode cX11_look 29 = .ok (.iconst (-1), 1) := by decide +kernel
theorem dX11_look_30 : decode cX11_look 30 = .ok (.if_icmp .ne 9, 3) := by decide +kernel
theorem dX11_look_33 : decode cX11_look 33 = .ok (.ldc_w 450, 3) := by decide +kernel
theorem dX11_look_36 : decode cX11_look 36 = .ok (.goto 9, 3) := by decide +kernel
theorem dX11_look_39 : decode cX11_look 39 = .ok (.aload_n 0, 1) := by decide +kernel
theorem dX11_look_40 : decode cX11_look 40 = .ok (.getfield 93, 3) := by decide +kernel
theorem dX11_look_43 : decode cX11_look 43 = .ok (.iload_n 2, 1) := by decide +kernel
theorem dX11_look_44 : decode cX11_look 44 = .ok (.iaload, 1) := by decide +kernel
theorem dX11_look_45 : decode cX11_look 45 = .ok (.ireturn, 1) := by decide +kernel
theorem dX11_active_0 : decode cX11_active 0 = .ok (.aload_n 0, 1) := by decide +kernel
theorem dX11_active_1 : decode cX11_active 1 = .ok (.aload_n 0, 1) := by decide +kernel
theorem dX11_active_2 : decode cX11_active 2 = .ok (.getfield 173, 3) := by decide +kernel
theorem dX11_active_5 : decode cX11_active 5 = .ok (.ifCond .eq 10, 3) := by decide +kernel
theorem dX11_active_8 : decode cX11_active 8 = .ok (.aload_n 0, 1) := by decide +kernel
theorem dX11_active_9 : decode cX11_active 9 = .ok (.getfield 234, 3) := by decide +kernel
theorem dX11_active_12 : decode cX11_active 12 = .ok (.goto 4, 3) := by decide +kernel
theorem dX11_active_15 : decode cX11_active 15 = .ok (.iconst 0, 1) := by decide +kernel
theorem dX11_active_16 : decode cX11_active 16 = .ok (.invokevirtual 447, 3) := by decide +kernel
theorem dX11_active_19 : decode cX11_active 19 = .ok (.ireturn, 1) := by decide +kernel
theorem dX11_outcome_0 : decode cX11_outcome 0 = .ok (.aload_n 0, 1) := by decide +kernel
theorem dX11_outcome_1 : decode cX11_outcome 1 = .ok (.aload_n 0, 1) := by decide +kernel
theorem dX11_outcome_2 : decode cX11_outcome 2 = .ok (.getfield 429, 3) := by decide +kernel
theorem dX11_outcome_5 : decode cX11_outcome 5 = .ok (.invokevirtual 447, 3) := by decide +kernel
theorem dX11_outcome_8 : decode cX11_outcome 8 = .ok (.ireturn, 1) := by decide +kernel
theorem dX11_steps_0 : decode cX11_steps 0 = .ok (.aload_n 0, 1) := by decide +kernel
theorem dX11_steps_1 : decode cX11_steps 1 = .ok (.aload_n 0, 1) := by decide +kernel
theorem dX11_steps_2 : decode cX11_steps 2 = .ok (.getfield 432, 3) := by decide +kernel
theorem dX11_steps_5 : decode cX11_steps 5 = .ok (.invokevirtual 447, 3) := by decide +kernel
theorem dX11_steps_8 : decode cX11_steps 8 = .ok (.ireturn, 1) := by decide +kernel
theorem dX11_cause_0 : decode cX11_cause 0 = .ok (.aload_n 0, 1) := by decide +kernel
theorem dX11_cause_1 : decode cX11_cause 1 = .ok (.aload_n 0, 1) := by decide +kernel
theorem dX11_cause_2 : decode cX11_cause 2 = .ok (.getfield 124, 3) := by decide +kernel
theorem dX11_cause_5 : decode cX11_cause 5 = .ok (.invokevirtual 447, 3) := by decide +kernel
theorem dX11_cause_8 : decode cX11_cause 8 = .ok (.ireturn, 1) := by decide +kernel
theorem dX11_traced_0 : decode cX11_traced 0 = .ok (.aload_n 0, 1) := by decide +kernel
theorem dX11_traced_1 : decode cX11_traced 1 = .ok (.aload_n 0, 1) := by decide +kernel
theorem dX11_traced_2 : decode cX11_traced 2 = .ok (.getfield 435, 3) := by decide +kernel
theorem dX11_traced_5 : decode cX11_traced 5 = .ok (.invokevirtual 447, 3) := by decide +kernel
theorem dX11_traced_8 : decode cX11_traced 8 = .ok (.ireturn, 1) := by decide +kernel
theorem dX11_traceAt_0 : decode cX11_traceAt 0 = .ok (.aload_n 0, 1) := by decide +kernel
theorem dX11_traceAt_1 : decode cX11_traceAt 1 = .ok (.iload_n 1, 1) := by decide +kernel
theorem dX11_traceAt_2 : decode cX11_traceAt 2 = .ok (.iconst 0, 1) := by decide +kernel
theorem dX11_traceAt_3 : decode cX11_traceAt 3 = .ok (.aload_n 0, 1) := by decide +kernel
theorem dX11_traceAt_4 : decode cX11_traceAt 4 = .ok (.getfield 435, 3) := by decide +kernel
theorem dX11_traceAt_7 : decode cX11_traceAt 7 = .ok (.iconst 1, 1) := by decide +kernel
theorem dX11_traceAt_8 : decode cX11_traceAt 8 = .ok (.isub, 1) := by decide +kernel
theorem dX11_traceAt_9 : decode cX11_traceAt 9 = .ok (.invokestatic 136, 3) := by decide +kernel
theorem dX11_traceAt_12 : decode cX11_traceAt 12 = .ok (.iconst 1, 1) := by decide +kernel
theorem dX11_traceAt_13 : decode cX11_traceAt 13 = .ok (.iconst 1, 1) := by decide +kernel
theorem dX11_traceAt_14 : decode cX11_traceAt 14 = .ok (.invokevirtual 169, 3) := by decide +kernel
theorem dX11_traceAt_17 : decode cX11_traceAt 17 = .ok (.ifCond .eq 12, 3) := by decide +kernel
theorem dX11_traceAt_20 : decode cX11_traceAt 20 = .ok (.aload_n 0, 1) := by decide +kernel
theorem dX11_traceAt_21 : decode cX11_traceAt 21 = .ok (.getfield 127, 3) := by decide +kernel
theorem dX11_traceAt_24 : decode cX11_traceAt 24 = .ok (.iload_n 1, 1) := by decide +kernel
theorem dX11_traceAt_25 : decode cX11_traceAt 25 = .ok (.iaload, 1) := by decide +kernel
theorem dX11_traceAt_26 : decode cX11_traceAt 26 = .ok (.goto 4, 3) := by decide +kernel
theorem dX11_traceAt_29 : decode cX11_traceAt 29 = .ok (.iconst 0, 1) := by decide +kernel
theorem dX11_traceAt_30 : decode cX11_traceAt 30 = .ok (.ireturn, 1) := by decide +kernel
theorem dX11_buffer_0 : decode cX11_buffer 0 = .ok (.aload_n 0, 1) := by decide +kernel
theorem dX11_buffer_1 : decode cX11_buffer 1 = .ok (.aload_n 0, 1) := by decide +kernel
theorem dX11_buffer_2 : decode cX11_buffer 2 = .ok (.getfield 180, 3) := by decide +kernel
theorem dX11_buffer_5 : decode cX11_buffer 5 = .ok (.invokevirtual 447, 3) := by decide +kernel
theorem dX11_buffer_8 : decode cX11_buffer 8 = .ok (.ireturn, 1) := by decide +kernel
theorem dX11_length_0 : decode cX11_length 0 = .ok (.aload_n 0, 1) := by decide +kernel
theorem dX11_length_1 : decode cX11_length 1 = .ok (.iload_n 1, 1) := by decide +kernel
theorem dX11_length_2 : decode cX11_length 2 = .ok (.invokestatic 177, 3) := by decide +kernel
theorem dX11_length_5 : decode cX11_length 5 = .ok (.iconst 1, 1) := by decide +kernel
theorem dX11_length_6 : decode cX11_length 6 = .ok (.iconst 1, 1) := by decide +kernel
theorem dX11_length_7 : decode cX11_length 7 = .ok (.invokevirtual 169, 3) := by decide +kernel
theorem dX11_length_10 : decode cX11_length 10 = .ok (.ifCond .eq 12, 3) := by decide +kernel
theorem dX11_length_13 : decode cX11_length 13 = .ok (.aload_n 0, 1) := by decide +kernel
theorem dX11_length_14 : decode cX11_length 14 = .ok (.getfield 54, 3) := by decide +kernel
theorem dX11_length_17 : decode cX11_length 17 = .ok (.iload_n 1, 1) := by decide +kernel
theorem dX11_length_18 : decode cX11_length 18 = .ok (.iaload, 1) := by decide +kernel
theorem dX11_length_19 : decode cX11_length 19 = .ok (.goto 4, 3) := by decide +kernel
theorem dX11_length_22 : decode cX11_length 22 = .ok (.iconst 0, 1) := by decide +kernel
theorem dX11_length_23 : decode cX11_length 23 = .ok (.ireturn, 1) := by decide +kernel
theorem dX11_letter_0 : decode cX11_letter 0 = .ok (.aload_n 0, 1) := by decide +kernel
theorem dX11_letter_1 : decode cX11_letter 1 = .ok (.iload_n 1, 1) := by decide +kernel
theorem dX11_letter_2 : decode cX11_letter 2 = .ok (.invokestatic 177, 3) := by decide +kernel
theorem dX11_letter_5 : decode cX11_letter 5 = .ok (.ifCond .eq 32, 3) := by decide +kernel
theorem dX11_letter_8 : decode cX11_letter 8 = .ok (.iload_n 2, 1) := by decide +kernel
theorem dX11_letter_9 : decode cX11_letter 9 = .ok (.iconst 0, 1) := by decide +kernel
theorem dX11_letter_10 : decode cX11_letter 10 = .ok (.aload_n 0, 1) := by decide +kernel
theorem dX11_letter_11 : decode cX11_letter 11 = .ok (.getfield 54, 3) := by decide +kernel
theorem dX11_letter_14 : decode cX11_letter 14 = .ok (.iload_n 1, 1) := by decide +kernel
theorem dX11_letter_15 : decode cX11_letter 15 = .ok (.iconst 1, 1) := by decide +kernel
theorem dX11_letter_16 : decode cX11_letter 16 = .ok (.if_icmp .ne 7, 3) := by decide +kernel
theorem dX11_letter_19 : decode cX11_letter 19 = .ok (.iconst 1, 1) := by decide +kernel
theorem dX11_letter_20 : decode cX11_letter 20 = .ok (.goto 4, 3) := by decide +kernel
theorem dX11_letter_23 : decode cX11_letter 23 = .ok (.iconst 0, 1) := by decide +kernel
theorem dX11_letter_24 : decode cX11_letter 24 = .ok (.iaload, 1) := by decide +kernel
theorem dX11_letter_25 : decode cX11_letter 25 = .ok (.iconst 1, 1) := by decide +kernel
theorem dX11_letter_26 : decode cX11_letter 26 = .ok (.isub, 1) := by decide +kernel
theorem dX11_letter_27 : decode cX11_letter 27 = .ok (.invokestatic 136, 3) := by decide +kernel
theorem dX11_letter_30 : decode cX11_letter 30 = .ok (.ifCond .eq 7, 3) := by decide +kernel
theorem dX11_letter_33 : decode cX11_letter 33 = .ok (.iconst 1, 1) := by decide +kernel
theorem dX11_letter_34 : decode cX11_letter 34 = .ok (.goto 4, 3) := by decide +kernel
theorem dX11_letter_37 : decode cX11_letter 37 = .ok (.iconst 0, 1) := by decide +kernel
theorem dX11_letter_38 : decode cX11_letter 38 = .ok (.iconst 1, 1) := by decide +kernel
theorem dX11_letter_39 : decode cX11_letter 39 = .ok (.iconst 1, 1) := by decide +kernel
theorem dX11_letter_40 : decode cX11_letter 40 = .ok (.invokevirtual 169, 3) := by decide +kernel
theorem dX11_letter_43 : decode cX11_letter 43 = .ok (.ifCond .eq 17, 3) := by decide +kernel
theorem dX11_letter_46 : decode cX11_letter 46 = .ok (.aload_n 0, 1) := by decide +kernel
theorem dX11_letter_47 : decode cX11_letter 47 = .ok (.getfield 51, 3) := by decide +kernel
theorem dX11_letter_50 : decode cX11_letter 50 = .ok (.bipush 40, 2) := by decide +kernel
theorem dX11_letter_52 : decode cX11_letter 52 = .ok (.iload_n 1, 1) := by decide +kernel
theorem dX11_letter_53 : decode cX11_letter 53 = .ok (.imul, 1) := by decide +kernel
theorem dX11_letter_54 : decode cX11_letter 54 = .ok (.iload_n 2, 1) := by decide +kernel
theorem dX11_letter_55 : decode cX11_letter 55 = .ok (.iadd, 1) := by decide +kernel
theorem dX11_letter_56 : decode cX11_letter 56 = .ok (.iaload, 1) := by decide +kernel
theorem dX11_letter_57 : decode cX11_letter 57 = .ok (.goto 4, 3) := by decide +kernel
theorem dX11_letter_60 : decode cX11_letter 60 = .ok (.iconst 0, 1) := by decide +kernel
theorem dX11_letter_61 : decode cX11_letter 61 = .ok (.ireturn, 1) := by decide +kernel
theorem dX11_cursor_0 : decode cX11_cursor 0 = .ok (.aload_n 0, 1) := by decide +kernel
theorem dX11_cursor_1 : decode cX11_cursor 1 = .ok (.iload_n 1, 1) := by decide +kernel
theorem dX11_cursor_2 : decode cX11_cursor 2 = .ok (.invokestatic 177, 3) := by decide +kernel
theorem dX11_cursor_5 : decode cX11_cursor 5 = .ok (.ifCond .eq 14, 3) := by decide +kernel
theorem dX11_cursor_8 : decode cX11_cursor 8 = .ok (.iload_n 2, 1) := by decide +kernel
theorem dX11_cursor_9 : decode cX11_cursor 9 = .ok (.invokestatic 144, 3) := by decide +kernel
theorem dX11_cursor_12 : decode cX11_cursor 12 = .ok (.ifCond .eq 7, 3) := by decide +kernel
theorem dX11_cursor_15 : decode cX11_cursor 15 = .ok (.iconst 1, 1) := by decide +kernel
theorem dX11_cursor_16 : decode cX11_cursor 16 = .ok (.goto 4, 3) := by decide +kernel
theorem dX11_cursor_19 : decode cX11_cursor 19 = .ok (.iconst 0, 1) := by decide +kernel
theorem dX11_cursor_20 : decode cX11_cursor 20 = .ok (.iconst 1, 1) := by decide +kernel
theorem dX11_cursor_21 : decode cX11_cursor 21 = .ok (.iconst 1, 1) := by decide +kernel
theorem dX11_cursor_22 : decode cX11_cursor 22 = .ok (.invokevirtual 169, 3) := by decide +kernel
theorem dX11_cursor_25 : decode cX11_cursor 25 = .ok (.ifCond .eq 16, 3) := by decide +kernel
theorem dX11_cursor_28 : decode cX11_cursor 28 = .ok (.aload_n 0, 1) := by decide +kernel
theorem dX11_cursor_29 : decode cX11_cursor 29 = .ok (.getfield 57, 3) := by decide +kernel
theorem dX11_cursor_32 : decode cX11_cursor 32 = .ok (.iconst 4, 1) := by decide +kernel
theorem dX11_cursor_33 : decode cX11_cursor 33 = .ok (.iload_n 1, 1) := by decide +kernel
theorem dX11_cursor_34 : decode cX11_cursor 34 = .ok (.imul, 1) := by decide +kernel
theorem dX11_cursor_35 : decode cX11_cursor 35 = .ok (.iload_n 2, 1) := by decide +kernel
theorem dX11_cursor_36 : decode cX11_cursor 36 = .ok (.iadd, 1) := by decide +kernel
theorem dX11_cursor_37 : decode cX11_cursor 37 = .ok (.iaload, 1) := by decide +kernel
theorem dX11_cursor_38 : decode cX11_cursor 38 = .ok (.goto 4, 3) := by decide +kernel
theorem dX11_cursor_41 : decode cX11_cursor 41 = .ok (.iconst 0, 1) := by decide +kernel
theorem dX11_cursor_42 : decode cX11_cursor 42 = .ok (.ireturn, 1) := by decide +kernel
theorem dX11_activeCursor_0 : decode cX11_activeCursor 0 = .ok (.aload_n 0, 1) := by decide +kernel
theorem dX11_activeCursor_1 : decode cX11_activeCursor 1 = .ok (.iload_n 1, 1) := by decide +kernel
theorem dX11_activeCursor_2 : decode cX11_activeCursor 2 = .ok (.invokestatic 177, 3) := by decide +kernel
theorem dX11_activeCursor_5 : decode cX11_activeCursor 5 = .ok (.iconst 1, 1) := by decide +kernel
theorem dX11_activeCursor_6 : decode cX11_activeCursor 6 = .ok (.iconst 1, 1) := by decide +kernel
theorem dX11_activeCursor_7 : decode cX11_activeCursor 7 = .ok (.invokevirtual 169, 3) := by decide +kernel
theorem dX11_activeCursor_10 : decode cX11_activeCursor 10 = .ok (.ifCond .eq 12, 3) := by decide +kernel
theorem dX11_activeCursor_13 : decode cX11_activeCursor 13 = .ok (.aload_n 0, 1) := by decide +kernel
theorem dX11_activeCursor_14 : decode cX11_activeCursor 14 = .ok (.getfield 60, 3) := by decide +kernel
theorem dX11_activeCursor_17 : decode cX11_activeCursor 17 = .ok (.iload_n 1, 1) := by decide +kernel
theorem dX11_activeCursor_18 : decode cX11_activeCursor 18 = .ok (.iaload, 1) := by decide +kernel
theorem dX11_activeCursor_19 : decode cX11_activeCursor 19 = .ok (.goto 4, 3) := by decide +kernel
theorem dX11_activeCursor_22 : decode cX11_activeCursor 22 = .ok (.iconst 0, 1) := by decide +kernel
theorem dX11_activeCursor_23 : decode cX11_activeCursor 23 = .ok (.ireturn, 1) := by decide +kernel
theorem dX11_option_0 : decode cX11_option 0 = .ok (.aload_n 0, 1) := by decide +kernel
theorem dX11_option_1 : decode cX11_option 1 = .ok (.iload_n 1, 1) := by decide +kernel
theorem dX11_option_2 : decode cX11_option 2 = .ok (.invokestatic 144, 3) := by decide +kernel
theorem dX11_option_5 : decode cX11_option 5 = .ok (.iconst 1, 1) := by decide +kernel
theorem dX11_option_6 : decode cX11_option 6 = .ok (.iconst 1, 1) := by decide +kernel
theorem dX11_option_7 : decode cX11_option 7 = .ok (.invokevirtual 169, 3) := by decide +kernel
theorem dX11_option_10 : decode cX11_option 10 = .ok (.ifCond .eq 12, 3) := by decide +kernel
theorem dX11_option_13 : decode cX11_option 13 = .ok (.aload_n 0, 1) := by decide +kernel
theorem dX11_option_14 : decode cX11_option 14 = .ok (.getfield 38, 3) := by decide +kernel
theorem dX11_option_17 : decode cX11_option 17 = .ok (.iload_n 1, 1) := by decide +kernel
theorem dX11_option_18 : decode cX11_option 18 = .ok (.iaload, 1) := by decide +kernel
theorem dX11_option_19 : decode cX11_option 19 = .ok (.goto 4, 3) := by decide +kernel
theorem dX11_option_22 : decode cX11_option 22 = .ok (.iconst 0, 1) := by decide +kernel
theorem dX11_option_23 : decode cX11_option 23 = .ok (.ireturn, 1) := by decide +kernel
theorem dX11_register_0 : decode cX11_register 0 = .ok (.aload_n 0, 1) := by decide +kernel
theorem dX11_register_1 : decode cX11_register 1 = .ok (.iload_n 1, 1) := by decide +kernel
theorem dX11_register_2 : decode cX11_register 2 = .ok (.invokestatic 144, 3) := by decide +kernel
theorem dX11_register_5 : decode cX11_register 5 = .ok (.iconst 1, 1) := by decide +kernel
theorem dX11_register_6 : decode cX11_register 6 = .ok (.iconst 1, 1) := by decide +kernel
theorem dX11_register_7 : decode cX11_register 7 = .ok (.invokevirtual 169, 3) := by decide +kernel
theorem dX11_register_10 : decode cX11_register 10 = .ok (.ifCond .eq 12, 3) := by decide +kernel
theorem dX11_register_13 : decode cX11_register 13 = .ok (.aload_n 0, 1) := by decide +kernel
theorem dX11_register_14 : decode cX11_register 14 = .ok (.getfield 41, 3) := by decide +kernel
theorem dX11_register_17 : decode cX11_register 17 = .ok (.iload_n 1, 1) := by decide +kernel
theorem dX11_register_18 : decode cX11_register 18 = .ok (.iaload, 1) := by decide +kernel
theorem dX11_register_19 : decode cX11_register 19 = .ok (.goto 4, 3) := by decide +kernel
theorem dX11_register_22 : decode cX11_register 22 = .ok (.iconst 0, 1) := by decide +kernel
theorem dX11_register_23 : decode cX11_register 23 = .ok (.ireturn, 1) := by decide +kernel
theorem dX11_body_0 : decode cX11_body 0 = .ok (.aload_n 0, 1) := by decide +kernel
theorem dX11_body_1 : decode cX11_body 1 = .ok (.iload_n 1, 1) := by decide +kernel
theorem dX11_body_2 : decode cX11_body 2 = .ok (.invokestatic 150, 3) := by decide +kernel
theorem dX11_body_5 : decode cX11_body 5 = .ok (.iconst 1, 1) := by decide +kernel
theorem dX11_body_6 : decode cX11_body 6 = .ok (.iconst 1, 1) := by decide +kernel
theorem dX11_body_7 : decode cX11_body 7 = .ok (.invokevirtual 169, 3) := by decide +kernel
theorem dX11_body_10 : decode cX11_body 10 = .ok (.ifCond .eq 12, 3) := by decide +kernel
theorem dX11_body_13 : decode cX11_body 13 = .ok (.aload_n 0, 1) := by decide +kernel
theorem dX11_body_14 : decode cX11_body 14 = .ok (.getfield 32, 3) := by decide +kernel
theorem dX11_body_17 : decode cX11_body 17 = .ok (.iload_n 1, 1) := by decide +kernel
theorem dX11_body_18 : decode cX11_body 18 = .ok (.iaload, 1) := by decide +kernel
theorem dX11_body_19 : decode cX11_body 19 = .ok (.goto 4, 3) := by decide +kernel
theorem dX11_body_22 : decode cX11_body 22 = .ok (.iconst 0, 1) := by decide +kernel
theorem dX11_body_23 : decode cX11_body 23 = .ok (.ireturn, 1) := by decide +kernel
theorem dX11_hook_0 : decode cX11_hook 0 = .ok (.aload_n 0, 1) := by decide +kernel
theorem dX11_hook_1 : decode cX11_hook 1 = .ok (.aload_n 0, 1) := by decide +kernel
theorem dX11_hook_2 : decode cX11_hook 2 = .ok (.getfield 44, 3) := by decide +kernel
theorem dX11_hook_5 : decode cX11_hook 5 = .ok (.invokevirtual 447, 3) := by decide +kernel
theorem dX11_hook_8 : decode cX11_hook 8 = .ok (.ireturn, 1) := by decide +kernel
