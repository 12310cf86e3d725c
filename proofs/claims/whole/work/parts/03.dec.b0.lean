theorem dX10_init_0 : decode cX10_init 0 = .ok (.aload_n 0, 1) := by decide +kernel
theorem dX10_init_1 : decode cX10_init 1 = .ok (.invokespecial 3, 3) := by decide +kernel
theorem dX10_init_4 : decode cX10_init 4 = .ok (.aload_n 0, 1) := by decide +kernel
theorem dX10_init_5 : decode cX10_init 5 = .ok (.bipush 8, 2) := by decide +kernel
theorem dX10_init_7 : decode cX10_init 7 = .ok (.newarray .int, 2) := by decide +kernel
theorem dX10_init_9 : decode cX10_init 9 = .ok (.putfield 9, 3) := by decide +kernel
theorem dX10_init_12 : decode cX10_init 12 = .ok (.aload_n 0, 1) := by decide +kernel
theorem dX10_init_13 : decode cX10_init 13 = .ok (.bipush 11, 2) := by decide +kernel
theorem dX10_init_15 : decode cX10_init 15 = .ok (.newarray .int, 2) := by decide +kernel
theorem dX10_init_17 : decode cX10_init 17 = .ok (.putfield 15, 3) := by decide +kernel
theorem dX10_init_20 : decode cX10_init 20 = .ok (.aload_n 0, 1) := by decide +kernel
theorem dX10_init_21 : decode cX10_init 21 = .ok (.new 18, 3) := by decide +kernel
theorem dX10_init_24 : decode cX10_init 24 = .ok (.dup, 1) := by decide +kernel
theorem dX10_init_25 : decode cX10_init 25 = .ok (.invokespecial 20, 3) := by decide +kernel
theorem dX10_init_28 : decode cX10_init 28 = .ok (.putfield 21, 3) := by decide +kernel
theorem dX10_init_31 : decode cX10_init 31 = .ok (.aload_n 0, 1) := by decide +kernel
theorem dX10_init_32 : decode cX10_init 32 = .ok (.bipush 8, 2) := by decide +kernel
theorem dX10_init_34 : decode cX10_init 34 = .ok (.anewarray 25, 3) := by decide +kernel
theorem dX10_init_37 : decode cX10_init 37 = .ok (.putfield 27, 3) := by decide +kernel
theorem dX10_init_40 : decode cX10_init 40 = .ok (.aload_n 0, 1) := by decide +kernel
theorem dX10_init_41 : decode cX10_init 41 = .ok (.bipush 40, 2) := by decide +kernel
theorem dX10_init_43 : decode cX10_init 43 = .ok (.anewarray 31, 3) := by decide +kernel
theorem dX10_init_46 : decode cX10_init 46 = .ok (.putfield 33, 3) := by decide +kernel
theorem dX10_init_49 : decode cX10_init 49 = .ok (.iconst 0, 1) := by decide +kernel
theorem dX10_init_50 : decode cX10_init 50 = .ok (.istore_n 1, 1) := by decide +kernel
theorem dX10_init_51 : decode cX10_init 51 = .ok (.iload_n 1, 1) := by decide +kernel
theorem dX10_init_52 : decode cX10_init 52 = .ok (.bipush 8, 2) := by decide +kernel
theorem dX10_init_54 : decode cX10_init 54 = .ok (.if_icmp .ge 23, 3) := by decide +kernel
theorem dX10_init_57 : decode cX10_init 57 = .ok (.aload_n 0, 1) := by decide +kernel
theorem dX10_init_58 : decode cX10_init 58 = .ok (.getfield 27, 3) := by decide +kernel
theorem dX10_init_61 : decode cX10_init 61 = .ok (.iload_n 1, 1) := by decide +kernel
theorem dX10_init_62 : decode cX10_init 62 = .ok (.new 25, 3) := by decide +kernel
theorem dX10_init_65 : decode cX10_init 65 = .ok (.dup, 1) := by decide +kernel
theorem dX10_init_66 : decode cX10_init 66 = .ok (.iload_n 1, 1) := by decide +kernel
theorem dX10_init_67 : decode cX10_init 67 = .ok (.invokespecial 37, 3) := by decide +kernel
theorem dX10_init_70 : decode cX10_init 70 = .ok (.aastore, 1) := by decide +kernel
theorem dX10_init_71 : decode cX10_init 71 = .ok (.iinc 1 1, 3) := by decide +kernel
theorem dX10_init_74 : decode cX10_init 74 = .ok (.goto (-23), 3) := by decide +kernel
theorem dX10_init_77 : decode cX10_init 77 = .ok (.iconst 0, 1) := by decide +kernel
theorem dX10_init_78 : decode cX10_init 78 = .ok (.istore_n 1, 1) := by decide +kernel
theorem dX10_init_79 : decode cX10_init 79 = .ok (.iload_n 1, 1) := by decide +kernel
theorem dX10_init_80 : decode cX10_init 80 = .ok (.bipush 40, 2) := by decide +kernel
theorem dX10_init_82 : decode cX10_init 82 = .ok (.if_icmp .ge 23, 3) := by decide +kernel
theorem dX10_init_85 : decode cX10_init 85 = .ok (.aload_n 0, 1) := by decide +kernel
theorem dX10_init_86 : decode cX10_init 86 = .ok (.getfield 33, 3) := by decide +kernel
theorem dX10_init_89 : decode cX10_init 89 = .ok (.iload_n 1, 1) := by decide +kernel
theorem dX10_init_90 : decode cX10_init 90 = .ok (.new 31, 3) := by decide +kernel
theorem dX10_init_93 : decode cX10_init 93 = .ok (.dup, 1) := by decide +kernel
theorem dX10_init_94 : decode cX10_init 94 = .ok (.iload_n 1, 1) := by decide +kernel
theorem dX10_init_95 : decode cX10_init 95 = .ok (.invokespecial 40, 3) := by decide +kernel
theorem dX10_init_98 : decode cX10_init 98 = .ok (.aastore, 1) := by decide +kernel
theorem dX10_init_99 : decode cX10_init 99 = .ok (.iinc 1 1, 3) := by decide +kernel
theorem dX10_init_102 : decode cX10_init 102 = .ok (.goto (-23), 3) := by decide +kernel
theorem dX10_init_105 : decode cX10_init 105 = .ok (.return_, 1) := by decide +kernel
theorem dX10_become_0 : decode cX10_become 0 = .ok (.aload_n 1, 1) := by decide +kernel
theorem dX10_become_1 : decode cX10_become 1 = .ok (.getfield 41, 3) := by decide +kernel
theorem dX10_become_4 : decode cX10_become 4 = .ok (.iconst 0, 1) := by decide +kernel
theorem dX10_become_5 : decode cX10_become 5 = .ok (.aload_n 0, 1) := by decide +kernel
theorem dX10_become_6 : decode cX10_become 6 = .ok (.getfield 9, 3) := by decide +kernel
theorem dX10_become_9 : decode cX10_become 9 = .ok (.iconst 0, 1) := by decide +kernel
theorem dX10_become_10 : decode cX10_become 10 = .ok (.bipush 8, 2) := by decide +kernel
theorem dX10_become_12 : decode cX10_become 12 = .ok (.invokestatic 44, 3) := by decide +kernel
theorem dX10_become_15 : decode cX10_become 15 = .ok (.iconst 0, 1) := by decide +kernel
theorem dX10_become_16 : decode cX10_become 16 = .ok (.istore_n 2, 1) := by decide +kernel
theorem dX10_become_17 : decode cX10_become 17 = .ok (.iload_n 2, 1) := by decide +kernel
theorem dX10_become_18 : decode cX10_become 18 = .ok (.bipush 11, 2) := by decide +kernel
theorem dX10_become_20 : decode cX10_become 20 = .ok (.if_icmp .ge 16, 3) := by decide +kernel
theorem dX10_become_23 : decode cX10_become 23 = .ok (.aload_n 0, 1) := by decide +kernel
theorem dX10_become_24 : decode cX10_become 24 = .ok (.getfield 15, 3) := by decide +kernel
theorem dX10_become_27 : decode cX10_become 27 = .ok (.iload_n 2, 1) := by decide +kernel
theorem dX10_become_28 : decode cX10_become 28 = .ok (.iconst 0, 1) := by decide +kernel
theorem dX10_become_29 : decode cX10_become 29 = .ok (.iastore, 1) := by decide +kernel
theorem dX10_become_30 : decode cX10_become 30 = .ok (.iinc 2 1, 3) := by decide +kernel
theorem dX10_become_33 : decode cX10_become 33 = .ok (.goto (-16), 3) := by decide +kernel
theorem dX10_become_36 : decode cX10_become 36 = .ok (.aload_n 0, 1) := by decide +kernel
theorem dX10_become_37 : decode cX10_become 37 = .ok (.getfield 21, 3) := by decide +kernel
theorem dX10_become_40 : decode cX10_become 40 = .ok (.iconst 0, 1) := by decide +kernel
theorem dX10_become_41 : decode cX10_become 41 = .ok (.putfield 50, 3) := by decide +kernel
theorem dX10_become_44 : decode cX10_become 44 = .ok (.aload_n 0, 1) := by decide +kernel
theorem dX10_become_45 : decode cX10_become 45 = .ok (.iconst 0, 1) := by decide +kernel
theorem dX10_become_46 : decode cX10_become 46 = .ok (.putfield 54, 3) := by decide +kernel
theorem dX10_become_49 : decode cX10_become 49 = .ok (.aload_n 0, 1) := by decide +kernel
theorem dX10_become_50 : decode cX10_become 50 = .ok (.iconst 0, 1) := by decide +kernel
theorem dX10_become_51 : decode cX10_become 51 = .ok (.putfield 57, 3) := by decide +kernel
theorem dX10_become_54 : decode cX10_become 54 = .ok (.aload_n 0, 1) := by decide +kernel
theorem dX10_become_55 : decode cX10_become 55 = .ok (.aload_n 1, 1) := by decide +kernel
theorem dX10_become_56 : decode cX10_become 56 = .ok (.getfield 60, 3) := by decide +kernel
theorem dX10_become_59 : decode cX10_become 59 = .ok (.putfield 64, 3) := by decide +kernel
theorem dX10_become_62 : decode cX10_become 62 = .ok (.iconst 0, 1) := by decide +kernel
theorem dX10_become_63 : decode cX10_become 63 = .ok (.istore_n 2, 1) := by decide +kernel
theorem dX10_become_64 : decode cX10_become 64 = .ok (.iload_n 2, 1) := by decide +kernel
theorem dX10_become_65 : decode cX10_become 65 = .ok (.bipush 8, 2) := by decide +kernel
theorem dX10_become_67 : decode cX10_become 67 = .ok (.if_icmp .ge 74, 3) := by decide +kernel
theorem dX10_become_70 : decode cX10_become 70 = .ok (.aload_n 0, 1) := by decide +kernel
theorem dX10_become_71 : decode cX10_become 71 = .ok (.getfield 27, 3) := by decide +kernel
theorem dX10_become_74 : decode cX10_become 74 = .ok (.iload_n 2, 1) := by decide +kernel
theorem dX10_become_75 : decode cX10_become 75 = .ok (.aaload, 1) := by decide +kernel
theorem dX10_become_76 : decode cX10_become 76 = .ok (.aload_n 1, 1) := by decide +kernel
theorem dX10_become_77 : decode cX10_become 77 = .ok (.getfield 65, 3) := by decide +kernel
theorem dX10_become_80 : decode cX10_become 80 = .ok (.iload_n 2, 1) := by decide +kernel
theorem dX10_become_81 : decode cX10_become 81 = .ok (.ishr, 1) := by decide +kernel
theorem dX10_become_82 : decode cX10_become 82 = .ok (.iconst 1, 1) := by decide +kernel
theorem dX10_become_83 : decode cX10_become 83 = .ok (.iand, 1) := by decide +kernel
theorem dX10_become_84 : decode cX10_become 84 = .ok (.ifCond .eq 7, 3) := by decide +kernel
theorem dX10_become_87 : decode cX10_become 87 = .ok (.iconst 1, 1) := by decide +kernel
theorem dX10_become_88 : decode cX10_become 88 = .ok (.goto 4, 3) := by decide +kernel
theorem dX10_become_91 : decode cX10_become 91 = .ok (.iconst 0, 1) := by decide +kernel
theorem dX10_become_92 : decode cX10_become 92 = .ok (.invokevirtual 68, 3) := by decide +kernel
theorem dX10_become_95 : decode cX10_become 95 = .ok (.aload_n 0, 1) := by decide +kernel
theorem dX10_become_96 : decode cX10_become 96 = .ok (.getfield 27, 3) := by decide +kernel
theorem dX10_become_99 : decode cX10_become 99 = .ok (.iload_n 2, 1) := by decide +kernel
theorem dX10_become_100 : decode cX10_become 100 = .ok (.aaload, 1) := by decide +kernel
theorem dX10_become_101 : decode cX10_become 101 = .ok (.getfield 72, 3) := by decide +kernel
theorem dX10_become_104 : decode cX10_become 104 = .ok (.aload_n 1, 1) := by decide +kernel
theorem dX10_become_105 : decode cX10_become 105 = .ok (.getfield 76, 3) := by decide +kernel
theorem dX10_become_108 : decode cX10_become 108 = .ok (.iload_n 2, 1) := by decide +kernel
theorem dX10_become_109 : decode cX10_become 109 = .ok (.ishr, 1) := by decide +kernel
theorem dX10_become_110 : decode cX10_become 110 = .ok (.iconst 1, 1) := by decide +kernel
theorem dX10_become_111 : decode cX10_become 111 = .ok (.iand, 1) := by decide +kernel
theorem dX10_become_112 : decode cX10_become 112 = .ok (.ifCond .eq 7, 3) := by decide +kernel
theorem dX10_become_115 : decode cX10_become 115 = .ok (.iconst 1, 1) := by decide +kernel
theorem dX10_become_116 : decode cX10_become 116 = .ok (.goto 4, 3) := by decide +kernel
theorem dX10_become_119 : decode cX10_become 119 = .ok (.iconst 0, 1) := by decide +kernel
theorem dX10_become_120 : decode cX10_become 120 = .ok (.aload_n 0, 1) := by decide +kernel
theorem dX10_become_121 : decode cX10_become 121 = .ok (.getfield 9, 3) := by decide +kernel
theorem dX10_become_124 : decode cX10_become 124 = .ok (.iconst 1, 1) := by decide +kernel
theorem dX10_become_125 : decode cX10_become 125 = .ok (.iaload, 1) := by decide +kernel
theorem dX10_become_126 : decode cX10_become 126 = .ok (.aload_n 0, 1) := by decide +kernel
theorem dX10_become_127 : decode cX10_become 127 = .ok (.getfield 9, 3) := by decide +kernel
theorem dX10_become_130 : decode cX10_become 130 = .ok (.iconst 2, 1) := by decide +kernel
theorem dX10_become_131 : decode cX10_become 131 = .ok (.iaload, 1) := by decide +kernel
theorem dX10_become_132 : decode cX10_become 132 = .ok (.invokevirtual 79, 3) := by decide +kernel
theorem dX10_become_135 : decode cX10_become 135 = .ok (.iinc 2 1, 3) := by decide +kernel
theorem dX10_become_138 : decode cX10_become 138 = .ok (.goto (-74), 3) := by decide +kernel
theorem dX10_become_141 : decode cX10_become 141 = .ok (.return_, 1) := by decide +kernel
theorem dX10_copyFrom_0 : decode cX10_copyFrom 0 = .ok (.aload_n 1, 1) := by decide +kernel
theorem dX10_copyFrom_1 : decode cX10_copyFrom 1 = .ok (.getfield 9, 3) := by decide +kernel
theorem dX10_copyFrom_4 : decode cX10_copyFrom 4 = .ok (.iconst 0, 1) := by decide +kernel
theorem dX10_copyFrom_5 : decode cX10_copyFrom 5 = .ok (.aload_n 0, 1) := by decide +kernel
theorem dX10_copyFrom_6 : decode cX10_copyFrom 6 = .ok (.getfield 9, 3) := by decide +kernel
theorem dX10_copyFrom_9 : decode cX10_copyFrom 9 = .ok (.iconst 0, 1) := by decide +kernel
theorem dX10_copyFrom_10 : decode cX10_copyFrom 10 = .ok (.bipush 8, 2) := by decide +kernel
theorem dX10_copyFrom_12 : decode cX10_copyFrom 12 = .ok (.invokestatic 44, 3) := by decide +kernel
theorem dX10_copyFrom_15 : decode cX10_copyFrom 15 = .ok (.aload_n 1, 1) := by decide +kernel
theorem dX10_copyFrom_16 : decode cX10_copyFrom 16 = .ok (.getfield 15, 3) := by decide +kernel
theorem dX10_copyFrom_19 : decode cX10_copyFrom 19 = .ok (.iconst 0, 1) := by decide +kernel
theorem dX10_copyFrom_20 : decode cX10_copyFrom 20 = .ok (.aload_n 0, 1) := by decide +kernel
theorem dX10_copyFrom_21 : decode cX10_copyFrom 21 = .ok (.getfield 15, 3) := by decide +kernel
theorem dX10_copyFrom_24 : decode cX10_copyFrom 24 = .ok (.iconst 0, 1) := by decide +kernel
theorem dX10_copyFrom_25 : decode cX10_copyFrom 25 = .ok (.bipush 11, 2) := by decide +kernel
theorem dX10_copyFrom_27 : decode cX10_copyFrom 27 = .ok (.invokestatic 44, 3) := by decide +kernel
theorem dX10_copyFrom_30 : decode cX10_copyFrom 30 = .ok (.aload_n 0, 1) := by decide +kernel
theorem dX10_copyFrom_31 : decode cX10_copyFrom 31 = .ok (.getfield 21, 3) := by decide +kernel
theorem dX10_copyFrom_34 : decode cX10_copyFrom 34 = .ok (.aload_n 1, 1) := by decide +kernel
theorem dX10_copyFrom_35 : decode cX10_copyFrom 35 = .ok (.getfield 21, 3) := by decide +kernel
theorem dX10_copyFrom_38 : decode cX10_copyFrom 38 = .ok (.invokevirtual 84, 3) := by decide +kernel
theorem dX10_copyFrom_41 : decode cX10_copyFrom 41 = .ok (.iconst 0, 1) := by decide +kernel
theorem dX10_copyFrom_42 : decode cX10_copyFrom 42 = .ok (.istore_n 2, 1) := by decide +kernel
theorem dX10_copyFrom_43 : decode cX10_copyFrom 43 = .ok (.iload_n 2, 1) := by decide +kernel
theorem dX10_copyFrom_44 : decode cX10_copyFrom 44 = .ok (.bipush 8, 2) := by decide +kernel
theorem dX10_copyFrom_46 : decode cX10_copyFrom 46 = .ok (.if_icmp .ge 24, 3) := by decide +kernel
theorem dX10_copyFrom_49 : decode cX10_copyFrom 49 = .ok (.aload_n 0, 1) := by decide +kernel
theorem dX10_copyFrom_50 : decode cX10_copyFrom 50 = .ok (.getfield 27, 3) := by decide +kernel
theorem dX10_copyFrom_53 : decode cX10_copyFrom 53 = .ok (.iload_n 2, 1) := by decide +kernel
theorem dX10_copyFrom_54 : decode cX10_copyFrom 54 = .ok (.aaload, 1) := by decide +kernel
theorem dX10_copyFrom_55 : decode cX10_copyFrom 55 = .ok (.aload_n 1, 1) := by decide +kernel
theorem dX10_copyFrom_56 : decode cX10_copyFrom 56 = .ok (.getfield 27, 3) := by decide +kernel
theorem dX10_copyFrom_59 : decode cX10_copyFrom 59 = .ok (.iload_n 2, 1) := by decide +kernel
theorem dX10_copyFrom_60 : decode cX10_copyFrom 60 = .ok (.aaload, 1) := by decide +kernel
theorem dX10_copyFrom_61 : decode cX10_copyFrom 61 = .ok (.invokevirtual 88, 3) := by decide +kernel
theorem dX10_copyFrom_64 : decode cX10_copyFrom 64 = .ok (.iinc 2 1, 3) := by decide +kernel
theorem dX10_copyFrom_67 : decode cX10_copyFrom 67 = .ok (.goto (-24), 3) := by decide +kernel
theorem dX10_copyFrom_70 : decode cX10_copyFrom 70 = .ok (.aload_n 0, 1) := by decide +kernel
theorem dX10_copyFrom_71 : decode cX10_copyFrom 71 = .ok (.aload_n 1, 1) := by decide +kernel
theorem dX10_copyFrom_72 : decode cX10_copyFrom 72 = .ok (.getfield 54, 3) := by decide +kernel
theorem dX10_copyFrom_75 : decode cX10_copyFrom 75 = .ok (.putfield 54, 3) := by decide +kernel
theorem dX10_copyFrom_78 : decode cX10_copyFrom 78 = .ok (.iconst 0, 1) := by decide +kernel
theorem dX10_copyFrom_79 : decode cX10_copyFrom 79 = .ok (.istore_n 2, 1) := by decide +kernel
theorem dX10_copyFrom_80 : decode cX10_copyFrom 80 = .ok (.iload_n 2, 1) := by decide +kernel
theorem dX10_copyFrom_81 : decode cX10_copyFrom 81 = .ok (.aload_n 0, 1) := by decide +kernel
theorem dX10_copyFrom_82 : decode cX10_copyFrom 82 = .ok (.getfield 54, 3) := by decide +kernel
theorem dX10_copyFrom_85 : decode cX10_copyFrom 85 = .ok (.if_icmp .ge 30, 3) := by decide +kernel
theorem dX10_copyFrom_88 : decode cX10_copyFrom 88 = .ok (.iload_n 2, 1) := by decide +kernel
theorem dX10_copyFrom_89 : decode cX10_copyFrom 89 = .ok (.bipush 40, 2) := by decide +kernel
theorem dX10_copyFrom_91 : decode cX10_copyFrom 91 = .ok (.if_icmp .ge 24, 3) := by decide +kernel
theorem dX10_copyFrom_94 : decode cX10_copyFrom 94 = .ok (.aload_n 0, 1) := by decide +kernel
theorem dX10_copyFrom_95 : decode cX10_copyFrom 95 = .ok (.getfield 33, 3) := by decide +kernel
theorem dX10_copyFrom_98 : decode cX10_copyFrom 98 = .ok (.iload_n 2, 1) := by decide +kernel
theorem dX10_copyFrom_99 : decode cX10_copyFrom 99 = .ok (.aaload, 1) := by decide +kernel
theorem dX10_copyFrom_100 : decode cX10_copyFrom 100 = .ok (.aload_n 1, 1) := by decide +kernel
theorem dX10_copyFrom_101 : decode cX10_copyFrom 101 = .ok (.getfield 33, 3) := by decide +kernel
theorem dX10_copyFrom_104 : decode cX10_copyFrom 104 = .ok (.iload_n 2, 1) := by decide +kernel
theorem dX10_copyFrom_105 : decode cX10_copyFrom 105 = .ok (.aaload, 1) := by decide +kernel
theorem dX10_copyFrom_106 : decode cX10_copyFrom 106 = .ok (.invokevirtual 91, 3) := by decide +kernel
theorem dX10_copyFrom_109 : decode cX10_copyFrom 109 = .ok (.iinc 2 1, 3) := by decide +kernel
theorem dX10_copyFrom_112 : decode cX10_copyFrom 112 = .ok (.goto (-32), 3) := by decide +kernel
theorem dX10_copyFrom_115 : decode cX10_copyFrom 115 = .ok (.aload_n 0, 1) := by decide +kernel
theorem dX10_copyFrom_116 : decode cX10_copyFrom 116 = .ok (.aload_n 1, 1) := by decide +kernel
theorem dX10_copyFrom_117 : decode cX10_copyFrom 117 = .ok (.getfield 57, 3) := by decide +kernel
theorem dX10_copyFrom_120 : decode cX10_copyFrom 120 = .ok (.putfield 57, 3) := by decide +kernel
theorem dX10_copyFrom_123 : decode cX10_copyFrom 123 = .ok (.aload_n 0, 1) := by decide +kernel
theorem dX10_copyFrom_124 : decode cX10_copyFrom 124 = .ok (.aload_n 1, 1) := by decide +kernel
theorem dX10_copyFrom_125 : decode cX10_copyFrom 125 = .ok (.getfield 64, 3) := by decide +kernel
theorem dX10_copyFrom_128 : decode cX10_copyFrom 128 = .ok (.putfield 64, 3) := by decide +kernel
theorem dX10_copyFrom_131 : decode cX10_copyFrom 131 = .ok (.return_, 1) := by decide +kernel
theorem dX10_isNode_0 : decode cX10_isNode 0 = .ok (.iload_n 1, 1) := by decide +kernel
theorem dX10_isNode_1 : decode cX10_isNode 1 = .ok (.ifCond .lt 17, 3) := by decide +kernel
theorem dX10_isNode_4 : decode cX10_isNode 4 = .ok (.iload_n 1, 1) := by decide +kernel
theorem dX10_isNode_5 : decode cX10_isNode 5 = .ok (.aload_n 0, 1) := by decide +kernel
theorem dX10_isNode_6 : decode cX10_isNode 6 = .ok (.getfield 9, 3) := by decide +kernel
theorem dX10_isNode_9 : decode cX10_isNode 9 = .ok (.iconst 0, 1) := by decide +kernel
theorem dX10_isNode_10 : decode cX10_isNode 10 = .ok (.iaload, 1) := by decide +kernel
theorem dX10_isNode_11 : decode cX10_isNode 11 = .ok (.if_icmp .ge 7, 3) := by decide +kernel
theorem dX10_isNode_14 : decode cX10_isNode 14 = .ok (.iconst 1, 1) := by decide +kernel
theorem dX10_isNode_15 : decode cX10_isNode 15 = .ok (.goto 4, 3) := by decide +kernel
theorem dX10_isNode_18 : decode cX10_isNode 18 = .ok (.iconst 0, 1) := by decide +kernel
theorem dX10_isNode_19 : decode cX10_isNode 19 = .ok (.ireturn, 1) := by decide +kernel
theorem dX10_areTwo_0 : decode cX10_areTwo 0 = .ok (.iload_n 1, 1) := by decide +kernel
theorem dX10_areTwo_1 : decode cX10_areTwo 1 = .ok (.iload_n 2, 1) := by decide +kernel
theorem dX10_areTwo_2 : decode cX10_areTwo 2 = .ok (.if_icmp .eq 23, 3) := by decide +kernel
theorem dX10_areTwo_5 : decode cX10_areTwo 5 = .ok (.aload_n 0, 1) := by decide +kernel
theorem dX10_areTwo_6 : decode cX10_areTwo 6 = .ok (.iload_n 1, 1) := by decide +kernel
theorem dX10_areTwo_7 : decode cX10_areTwo 7 = .ok (.invokevirtual 94, 3) := by decide +kernel
theorem dX10_areTwo_10 : decode cX10_areTwo 10 = .ok (.ifCond .eq 15, 3) := by decide +kernel
theorem dX10_areTwo_13 : decode cX10_areTwo 13 = .ok (.aload_n 0, 1) := by decide +kernel
theorem dX10_areTwo_14 : decode cX10_areTwo 14 = .ok (.iload_n 2, 1) := by decide +kernel
theorem dX10_areTwo_15 : decode cX10_areTwo 15 = .ok (.invokevirtual 94, 3) := by decide +kernel
theorem dX10_areTwo_18 : decode cX10_areTwo 18 = .ok (.ifCond .eq 7, 3) := by decide +kernel
theorem dX10_areTwo_21 : decode cX10_areTwo 21 = .ok (.iconst 1, 1) := by decide +kernel
theorem dX10_areTwo_22 : decode cX10_areTwo 22 = .ok (.goto 4, 3) := by decide +kernel
theorem dX10_areTwo_25 : decode cX10_areTwo 25 = .ok (.iconst 0, 1) := by decide +kernel
theorem dX10_areTwo_26 : decode cX10_areTwo 26 = .ok (.ireturn, 1) := by decide +kernel
theorem dX10_post_0 : decode cX10_post 0 = .ok (.aload_n 0, 1) := by decide +kernel
theorem dX10_post_1 : decode cX10_post 1 = .ok (.getfield 27, 3) := by decide +kernel
theorem dX10_post_4 : decode cX10_post 4 = .ok (.iload_n 1, 1) := by decide +kernel
theorem dX10_post_5 : decode cX10_post 5 = .ok (.bipush 7, 2) := by decide +kernel
theorem dX10_post_7 : decode cX10_post 7 = .ok (.iand, 1) := by decide +kernel
theorem dX10_post_8 : decode cX10_post 8 = .ok (.aaload, 1) := by decide +kernel
theorem dX10_post_9 : decode cX10_post 9 = .ok (.areturn, 1) := by decide +kernel
theorem dX10_datum_0 : decode cX10_datum 0 = .ok (.aload_n 0, 1) := by decide +kernel
theorem dX10_datum_1 : decode cX10_datum 1 = .ok (.getfield 33, 3) := by decide +kernel
theorem dX10_datum_4 : decode cX10_datum 4 = .ok (.iload_n 1, 1) := by decide +kernel
theorem dX10_datum_5 : decode cX10_datum 5 = .ok (.ifCond .lt 13, 3) := by decide +kernel
theorem dX10_datum_8 : decode cX10_datum 8 = .ok (.iload_n 1, 1) := by decide +kernel
theorem dX10_datum_9 : decode cX10_datum 9 = .ok (.bipush 40, 2) := by decide +kernel
theorem dX10_datum_11 : decode cX10_datum 11 = .ok (.if_icmp .ge 7, 3) := by decide +kernel
theorem dX10_datum_14 : decode cX10_datum 14 = .ok (.iload_n 1, 1) := by decide +kernel
theorem dX10_datum_15 : decode cX10_datum 15 = .ok (.goto 4, 3) := by decide +kernel
theorem dX10_datum_18 : decode cX10_datum 18 = .ok (.iconst 0, 1) := by decide +kernel
theorem dX10_datum_19 : decode cX10_datum 19 = .ok (.aaload, 1) := by decide +kernel
theorem dX10_datum_20 : decode cX10_datum 20 = .ok (.areturn, 1) := by decide +kernel
theorem dX10_wayOf_0 : decode cX10_wayOf 0 = .ok (.aload_n 0, 1) := by decide +kernel
theorem dX10_wayOf_1 : decode cX10_wayOf 1 = .ok (.iload_n 1, 1) := by decide +kernel
theorem dX10_wayOf_2 : decode cX10_wayOf 2 = .ok (.iload_n 2, 1) := by decide +kernel
theorem dX10_wayOf_3 : decode cX10_wayOf 3 = .ok (.invokevirtual 98, 3) := by decide +kernel
theorem dX10_wayOf_6 : decode cX10_wayOf 6 = .ok (.ifCond .eq 18, 3) := by decide +kernel
theorem dX10_wayOf_9 : decode cX10_wayOf 9 = .ok (.aload_n 0, 1) := by decide +kernel
theorem dX10_wayOf_10 : decode cX10_wayOf 10 = .ok (.iload_n 1, 1) := by decide +kernel
theorem dX10_wayOf_11 : decode cX10_wayOf 11 = .ok (.invokevirtual 102, 3) := by decide +kernel
theorem dX10_wayOf_14 : decode cX10_wayOf 14 = .ok (.getfield 72, 3) := by decide +kernel
theorem dX10_wayOf_17 : decode cX10_wayOf 17 = .ok (.iload_n 2, 1) := by decide +kernel
theorem dX10_wayOf_18 : decode cX10_wayOf 18 = .ok (.invokevirtual 106, 3) := by decide +kernel
theorem dX10_wayOf_21 : decode cX10_wayOf 21 = .ok (.goto 4, 3) := by decide +kernel
theorem dX10_wayOf_24 : decode cX10_wayOf 24 = .ok (.lconst 0, 1) := by decide +kernel
theorem dX10_wayOf_25 : decode cX10_wayOf 25 = .ok (.lreturn, 1) := by decide +kernel
theorem dX10_tellNode_0 : decode cX10_tellNode 0 = .ok (.aload_n 0, 1) := by decide +kernel
theorem dX10_tellNode_1 : decode cX10_tellNode 1 = .ok (.iload_n 1, 1) := by decide +kernel
theorem dX10_tellNode_2 : decode cX10_tellNode 2 = .ok (.invokevirtual 102, 3) := by decide +kernel
theorem dX10_tellNode_5 : decode cX10_tellNode 5 = .ok (.astore_n 3, 1) := by decide +kernel
theorem dX10_tellNode_6 : decode cX10_tellNode 6 = .ok (.iload_n 2, 1) := by decide +kernel
theorem dX10_tellNode_7 : decode cX10_tellNode 7 = .ok (.tableswitch 136 0 9 #[53, 69, 82, 93, 98, 103, 108, 116, 121, 127], 53) := by decide +kernel
theorem dX10_tellNode_60 : decode cX10_tellNode 60 = .ok (.aload_n 3, 1) := by decide +kernel
theorem dX10_tellNode_61 : decode cX10_tellNode 61 = .ok (.getfield 72, 3) := by decide +kernel
theorem dX10_tellNode_64 : decode cX10_tellNode 64 = .ok (.getfield 112, 3) := by decide +kernel
theorem dX10_tellNode_67 : decode cX10_tellNode 67 = .ok (.ifCond .eq 7, 3) := by decide +kernel
theorem dX10_tellNode_70 : decode cX10_tellNode 70 = .ok (.iconst 1, 1) := by decide +kernel
theorem dX10_tellNode_71 : decode cX10_tellNode 71 = .ok (.goto 4, 3) := by decide +kernel
theorem dX10_tellNode_74 : decode cX10_tellNode 74 = .ok (.iconst 0, 1) := by decide +kernel
theorem dX10_tellNode_75 : decode cX10_tellNode 75 = .ok (.ireturn, 1) := by decide +kernel
theorem dX10_tellNode_76 : decode cX10_tellNode 76 = .ok (.aload_n 3, 1) := by decide +kernel
theorem dX10_tellNode_77 : decode cX10_tellNode 77 = .ok (.getfield 116, 3) := by decide +kernel
theorem dX10_tellNode_80 : decode cX10_tellNode 80 = .ok (.ifCond .eq 7, 3) := by decide +kernel
theorem dX10_tellNode_83 : decode cX10_tellNode 83 = .ok (.iconst 1, 1) := by decide +kernel
theorem dX10_tellNode_84 : decode cX10_tellNode 84 = .ok (.goto 4, 3) := by decide +kernel
theorem dX10_tellNode_87 : decode cX10_tellNode 87 = .ok (.iconst 0, 1) := by decide +kernel
theorem dX10_tellNode_88 : decode cX10_tellNode 88 = .ok (.ireturn, 1) := by decide +kernel
theorem dX10_tellNode_89 : decode cX10_tellNode 89 = .ok (.aload_n 3, 1) := by decide +kernel
theorem dX10_tellNode_90 : decode cX10_tellNode 90 = .ok (.getfield 72, 3) := by decide +kernel
theorem dX10_tellNode_93 : decode cX10_tellNode 93 = .ok (.getfield 119, 3) := by decide +kernel
theorem dX10_tellNode_96 : decode cX10_tellNode 96 = .ok (.getfield 123, 3) := by decide +kernel
theorem dX10_tellNode_99 : decode cX10_tellNode 99 = .ok (.ireturn, 1) := by decide +kernel
theorem dX10_tellNode_100 : decode cX10_tellNode 100 = .ok (.aload_n 3, 1) := by decide +kernel
theorem dX10_tellNode_101 : decode cX10_tellNode 101 = .ok (.getfield 126, 3) := by decide +kernel
theorem dX10_tellNode_104 : decode cX10_tellNode 104 = .ok (.ireturn, 1) := by decide +kernel
theorem dX10_tellNode_105 : decode cX10_tellNode 105 = .ok (.aload_n 3, 1) := by decide +kernel
theorem dX10_tellNode_106 : decode cX10_tellNode 106 = .ok (.getfield 129, 3) := by decide +kernel
theorem dX10_tellNode_109 : decode cX10_tellNode 109 = .ok (.ireturn, 1) := by decide +kernel
theorem dX10_tellNode_110 : decode cX10_tellNode 110 = .ok (.aload_n 3, 1) := by decide +kernel
theorem dX10_tellNode_111 : decode cX10_tellNode 111 = .ok (.getfield 132, 3) := by decide +kernel
theorem dX10_tellNode_114 : decode cX10_tellNode 114 = .ok (.ireturn, 1) := by decide +kernel
theorem dX10_tellNode_115 : decode cX10_tellNode 115 = .ok (.aload_n 3, 1) := by decide +kernel
theorem dX10_tellNode_116 : decode cX10_tellNode 116 = .ok (.getfield 135, 3) := by decide +kernel
theorem dX10_tellNode_119 : decode cX10_tellNode 119 = .ok (.getfield 123, 3) := by decide +kernel
theorem dX10_tellNode_122 : decode cX10_tellNode 122 = .ok (.ireturn, 1) := by decide +kernel
theorem dX10_tellNode_123 : decode cX10_tellNode 123 = .ok (.aload_n 3, 1) := by decide +kernel
theorem dX10_tellNode_124 : decode cX10_tellNode 124 = .ok (.getfield 138, 3) := by decide +kernel
theorem dX10_tellNode_127 : decode cX10_tellNode 127 = .ok (.ireturn, 1) := by decide +kernel
theorem dX10_tellNode_128 : decode cX10_tellNode 128 = .ok (.aload_n 0, 1) := by decide +kernel
theorem dX10_tellNode_129 : decode cX10_tellNode 129 = .ok (.iload_n 1, 1) := by decide +kernel
theorem dX10_tellNode_130 : decode cX10_tellNode 130 = .ok (.invokevirtual 141, 3) := by decide +kernel
theorem dX10_tellNode_133 : decode cX10_tellNode 133 = .ok (.ireturn, 1) := by decide +kernel
theorem dX10_tellNode_134 : decode cX10_tellNode 134 = .ok (.aload_n 0, 1) := by decide +kernel
theorem dX10_tellNode_135 : decode cX10_tellNode 135 = .ok (.getfield 64, 3) := by decide +kernel
theorem dX10_tellNode_138 : decode cX10_tellNode 138 = .ok (.iload_n 1, 1) := by decide +kernel
theorem dX10_tellNode_139 : decode cX10_tellNode 139 = .ok (.invokestatic 145, 3) := by decide +kernel
theorem dX10_tellNode_142 : decode cX10_tellNode 142 = .ok (.ireturn, 1) := by decide +kernel
theorem dX10_tellNode_143 : decode cX10_tellNode 143 = .ok (.bipush (-2), 2) := by decide +kernel
theorem dX10_tellNode_145 : decode cX10_tellNode 145 = .ok (.ireturn, 1) := by decide +kernel
theorem dX10_reached_0 : decode cX10_reached 0 = .ok (.iconst 0, 1) := by decide +kernel
theorem dX10_reached_1 : decode cX10_reached 1 = .ok (.istore_n 2, 1) := by decide +kernel
theorem dX10_reached_2 : decode cX10_reached 2 = .ok (.iconst 0, 1) := by decide +kernel
theorem dX10_reached_3 : decode cX10_reached 3 = .ok (.istore_n 3, 1) := by decide +kernel
theorem dX10_reached_4 : decode cX10_reached 4 = .ok (.iload_n 3, 1) := by decide +kernel
theorem dX10_reached_5 : decode cX10_reached 5 = .ok (.bipush 8, 2) := by decide +kernel
theorem dX10_reached_7 : decode cX10_reached 7 = .ok (.if_icmp .ge 30, 3) := by decide +kernel
theorem dX10_reached_10 : decode cX10_reached 10 = .ok (.iload_n 2, 1) := by decide +kernel
theorem dX10_reached_11 : decode cX10_reached 11 = .ok (.aload_n 0, 1) := by decide +kernel
theorem dX10_reached_12 : decode cX10_reached 12 = .ok (.iload_n 1, 1) := by decide +kernel
theorem dX10_reached_13 : decode cX10_reached 13 = .ok (.iload_n 3, 1) := by decide +kernel
theorem dX10_reached_14 : decode cX10_reached 14 = .ok (.invokevirtual 151, 3) := by decide +kernel
theorem dX10_reached_17 : decode cX10_reached 17 = .ok (.lconst 0, 1) := by decide +kernel
theorem dX10_reached_18 : decode cX10_reached 18 = .ok (.lcmp, 1) := by decide +kernel
theorem dX10_reached_19 : decode cX10_reached 19 = .ok (.ifCond .eq 9, 3) := by decide +kernel
theorem dX10_reached_22 : decode cX10_reached 22 = .ok (.iconst 1, 1) := by decide +kernel
theorem dX10_reached_23 : decode cX10_reached 23 = .ok (.iload_n 3, 1) := by decide +kernel
theorem dX10_reached_24 : decode cX10_reached 24 = .ok (.ishl, 1) := by decide +kernel
theorem dX10_reached_25 : decode cX10_reached 25 = .ok (.goto 4, 3) := by decide +kernel
theorem dX10_reached_28 : decode cX10_reached 28 = .ok (.iconst 0, 1) := by decide +kernel
theorem dX10_reached_29 : decode cX10_reached 29 = .ok (.ior, 1) := by decide +kernel
theorem dX10_reached_30 : decode cX10_reached 30 = .ok (.istore_n 2, 1) := by decide +kernel
theorem dX10_reached_31 : decode cX10_reached 31 = .ok (.iinc 3 1, 3) := by decide +kernel
theorem dX10_reached_34 : decode cX10_reached 34 = .ok (.goto (-30), 3) := by decide +kernel
theorem dX10_reached_37 : decode cX10_reached 37 = .ok (.iload_n 2, 1) := by decide +kernel
theorem dX10_reached_38 : decode cX10_reached 38 = .ok (.ireturn, 1) := by decide +kernel
theorem dX10_tellData_0 : decode cX10_tellData 0 = .ok (.iload_n 1, 1) := by decide +kernel
theorem dX10_tellData_1 : decode cX10_tellData 1 = .ok (.ifCond .lt 11, 3) := by decide +kernel
theorem dX10_tellData_4 : decode cX10_tellData 4 = .ok (.iload_n 1, 1) := by decide +kernel
theorem dX10_tellData_5 : decode cX10_tellData 5 = .ok (.aload_n 0, 1) := by decide +kernel
theorem dX10_tellData_6 : decode cX10_tellData 6 = .ok (.getfield 54, 3) := by decide +kernel
theorem dX10_tellData_9 : decode cX10_tellData 9 = .ok (.if_icmp .lt 6, 3) := by decide +kernel
theorem dX10_tellData_12 : decode cX10_tellData 12 = .ok (.bipush (-2), 2) := by decide +kernel
theorem dX10_tellData_14 : decode cX10_tellData 14 = .ok (.ireturn, 1) := by decide +kernel
theorem dX10_tellData_15 : decode cX10_tellData 15 = .ok (.aload_n 0, 1) := by decide +kernel
theorem dX10_tellData_16 : decode cX10_tellData 16 = .ok (.iload_n 1, 1) := by decide +kernel
theorem dX10_tellData_17 : decode cX10_tellData 17 = .ok (.invokevirtual 155, 3) := by decide +kernel
theorem dX10_tellData_20 : decode cX10_tellData 20 = .ok (.astore_n 3, 1) := by decide +kernel
theorem dX10_tellData_21 : decode cX10_tellData 21 = .ok (.iload_n 2, 1) := by decide +kernel
theorem dX10_tellData_22 : decode cX10_tellData 22 = .ok (.tableswitch 101 0 8 #[50, 55, 60, 65, 70, 78, 86, 91, 96], 50) := by decide +kernel
theorem dX10_tellData_72 : decode cX10_tellData 72 = .ok (.aload_n 3, 1) := by decide +kernel
theorem dX10_tellData_73 : decode cX10_tellData 73 = .ok (.getfield 159, 3) := by decide +kernel
theorem dX10_tellData_76 : decode cX10_tellData 76 = .ok (.ireturn, 1) := by decide +kernel
theorem dX10_tellData_77 : decode cX10_tellData 77 = .ok (.aload_n 3, 1) := by decide +kernel
theorem dX10_tellData_78 : decode cX10_tellData 78 = .ok (.getfield 162, 3) := by decide +kernel
theorem dX10_tellData_81 : decode cX10_tellData 81 = .ok (.ireturn, 1) := by decide +kernel
theorem dX10_tellData_82 : decode cX10_tellData 82 = .ok (.aload_n 3, 1) := by decide +kernel
theorem dX10_tellData_83 : decode cX10_tellData 83 = .ok (.getfield 165, 3) := by decide +kernel
theorem dX10_tellData_86 : decode cX10_tellData 86 = .ok (.ireturn, 1) := by decide +kernel
theorem dX10_tellData_87 : decode cX10_tellData 87 = .ok (.aload_n 3, 1) := by decide +kernel
theorem dX10_tellData_88 : decode cX10_tellData 88 = .ok (.getfield 168, 3) := by decide +kernel
theorem dX10_tellData_91 : decode cX10_tellData 91 = .ok (.ireturn, 1) := by decide +kernel
theorem dX10_tellData_92 : decode cX10_tellData 92 = .ok (.aload_n 3, 1) := by decide +kernel
theorem dX10_tellData_93 : decode cX10_tellData 93 = .ok (.getfield 171, 3) := by decide +kernel
theorem dX10_tellData_96 : decode cX10_tellData 96 = .ok (.invokestatic 174, 3) := by decide +kernel
theorem dX10_tellData_99 : decode cX10_tellData 99 = .ok (.ireturn, 1) := by decide +kernel
theorem dX10_tellData_100 : decode cX10_tellData 100 = .ok (.aload_n 3, 1) := by decide +kernel
theorem dX10_tellData_101 : decode cX10_tellData 101 = .ok (.getfield 178, 3) := by decide +kernel
theorem dX10_tellData_104 : decode cX10_tellData 104 = .ok (.invokestatic 174, 3) := by decide +kernel
theorem dX10_tellData_107 : decode cX10_tellData 107 = .ok (.ireturn, 1) := by decide +kernel
theorem dX10_tellData_108 : decode cX10_tellData 108 = .ok (.aload_n 3, 1) := by decide +kernel
theorem dX10_tellData_109 : decode cX10_tellData 109 = .ok (.getfield 181, 3) := by decide +kernel
theorem dX10_tellData_112 : decode cX10_tellData 112 = .ok (.ireturn, 1) := by decide +kernel
theorem dX10_tellData_113 : decode cX10_tellData 113 = .ok (.aload_n 3, 1) := by decide +kernel
theorem dX10_tellData_114 : decode cX10_tellData 114 = .ok (.getfield 184, 3) := by decide +kernel
theorem dX10_tellData_117 : decode cX10_tellData 117 = .ok (.ireturn, 1) := by decide +kernel
theorem dX10_tellData_118 : decode cX10_tellData 118 = .ok (.aload_n 3, 1) := by decide +kernel
theorem dX10_tellData_119 : decode cX10_tellData 119 = .ok (.getfield 187, 3) := by decide +kernel
theorem dX10_tellData_122 : decode cX10_tellData 122 = .ok (.ireturn, 1) := by decide +kernel
theorem dX10_tellData_123 : decode cX10_tellData 123 = .ok (.bipush (-2), 2) := by decide +kernel
theorem dX10_tellData_125 : decode cX10_tellData 125 = .ok (.ireturn, 1) := by decide +kernel
theorem dX10_tellCount_0 : decode cX10_tellCount 0 = .ok (.iload_n 1, 1) := by decide +kernel
theorem dX10_tellCount_1 : decode cX10_tellCount 1 = .ok (.ifCond .lt 16, 3) := by decide +kernel
theorem dX10_tellCount_4 : decode cX10_tellCount 4 = .ok (.iload_n 1, 1) := by decide +kernel
theorem dX10_tellCount_5 : decode cX10_tellCount 5 = .ok (.bipush 11, 2) := by decide +kernel
theorem dX10_tellCount_7 : decode cX10_tellCount 7 = .ok (.if_icmp .ge 10, 3) := by decide +kernel
theorem dX10_tellCount_10 : decode cX10_tellCount 10 = .ok (.aload_n 0, 1) := by decide +kernel
theorem dX10_tellCount_11 : decode cX10_tellCount 11 = .ok (.getfield 15, 3) := by decide +kernel
theorem dX10_tellCount_14 : decode cX10_tellCount 14 = .ok (.iload_n 1, 1) := by decide +kernel
theorem dX10_tellCount_15 : decode cX10_tellCount 15 = .ok (.iaload, 1) := by decide +kernel
theorem dX10_tellCount_16 : decode cX10_tellCount 16 = .ok (.ireturn, 1) := by decide +kernel
theorem dX10_tellCount_17 : decode cX10_tellCount 17 = .ok (.iload_n 1, 1) := by decide +kernel
theorem dX10_tellCount_18 : decode cX10_tellCount 18 = .ok (.bipush 11, 2) := by decide +kernel
theorem dX10_tellCount_20 : decode cX10_tellCount 20 = .ok (.if_icmp .ne 13, 3) := by decide +kernel
theorem dX10_tellCount_23 : decode cX10_tellCount 23 = .ok (.aload_n 0, 1) := by decide +kernel
theorem dX10_tellCount_24 : decode cX10_tellCount 24 = .ok (.getfield 21, 3) := by decide +kernel
theorem dX10_tellCount_27 : decode cX10_tellCount 27 = .ok (.getfield 50, 3) := by decide +kernel
theorem dX10_tellCount_30 : decode cX10_tellCount 30 = .ok (.goto 17, 3) := by decide +kernel
theorem dX10_tellCount_33 : decode cX10_tellCount 33 = .ok (.iload_n 1, 1) := by decide +kernel
theorem dX10_tellCount_34 : decode cX10_tellCount 34 = .ok (.bipush 12, 2) := by decide +kernel
theorem dX10_tellCount_36 : decode cX10_tellCount 36 = .ok (.if_icmp .ne 10, 3) := by decide +kernel
theorem dX10_tellCount_39 : decode cX10_tellCount 39 = .ok (.aload_n 0, 1) := by decide +kernel
theorem dX10_tellCount_40 : decode cX10_tellCount 40 = .ok (.invokevirtual 190, 3) := by decide +kernel
theorem dX10_tellCount_43 : decode cX10_tellCount 43 = .ok (.goto 4, 3) := by decide +kernel
theorem dX10_tellCount_46 : decode cX10_tellCount 46 = .ok (.iconst (-1), 1) := by decide +kernel
theorem dX10_tellCount_47 : decode cX10_tellCount 47 = .ok (.ireturn, 1) := by decide +kernel
theorem dX10_buffered_0 : decode cX10_buffered 0 = .ok (.iconst 0, 1) := by decide +kernel
theorem dX10_buffered_1 : decode cX10_buffered 1 = .ok (.istore_n 1, 1) := by decide +kernel
theorem dX10_buffered_2 : decode cX10_buffered 2 = .ok (.iconst 0, 1) := by decide +kernel
theorem dX10_buffered_3 : decode cX10_buffered 3 = .ok (.istore_n 2, 1) := by decide +kernel
theorem dX10_buffered_4 : decode cX10_buffered 4 = .ok (.iload_n 2, 1) := by decide +kernel
theorem dX10_buffered_5 : decode cX10_buffered 5 = .ok (.bipush 8, 2) := by decide +kernel
theorem dX10_buffered_7 : decode cX10_buffered 7 = .ok (.if_icmp .ge 21, 3) := by decide +kernel
theorem dX10_buffered_10 : decode cX10_buffered 10 = .ok (.iload_n 1, 1) := by decide +kernel
theorem dX10_buffered_11 : decode cX10_buffered 11 = .ok (.aload_n 0, 1) := by decide +kernel
theorem dX10_buffered_12 : decode cX10_buffered 12 = .ok (.getfield 27, 3) := by decide +kernel
theorem dX10_buffered_15 : decode cX10_buffered 15 = .ok (.iload_n 2, 1) := by decide +kernel
theorem dX10_buffered_16 : decode cX10_buffered 16 = .ok (.aaload, 1) := by decide +kernel
theorem dX10_buffered_17 : decode cX10_buffered 17 = .ok (.getfield 126, 3) := by decide +kernel
theorem dX10_buffered_20 : decode cX10_buffered 20 = .ok (.iadd, 1) := by decide +kernel
theorem dX10_buffered_21 : decode cX10_buffered 21 = .ok (.istore_n 1, 1) := by decide +kernel
theorem dX10_buffered_22 : decode cX10_buffered 22 = .ok (.iinc 2 1, 3) := by decide +kernel
theorem dX10_buffered_25 : decode cX10_buffered 25 = .ok (.goto (-21), 3) := by decide +kernel
theorem dX10_buffered_28 : decode cX10_buffered 28 = .ok (.iload_n 1, 1) := by decide +kernel
theorem dX10_buffered_29 : decode cX10_buffered 29 = .ok (.ireturn, 1) := by decide +kernel
theorem dX10_isQuiet_0 : decode cX10_isQuiet 0 = .ok (.aload_n 0, 1) := by decide +kernel
theorem dX10_isQuiet_1 : decode cX10_isQuiet 1 = .ok (.getfield 21, 3) := by decide +kernel
theorem dX10_isQuiet_4 : decode cX10_isQuiet 4 = .ok (.getfield 50, 3) := by decide +kernel
theorem dX10_isQuiet_7 : decode cX10_isQuiet 7 = .ok (.ifCond .ne 14, 3) := by decide +kernel
theorem dX10_isQuiet_10 : decode cX10_isQuiet 10 = .ok (.aload_n 0, 1) := by decide +kernel
theorem dX10_isQuiet_11 : decode cX10_isQuiet 11 = .ok (.invokevirtual 190, 3) := by decide +kernel
theorem dX10_isQuiet_14 : decode cX10_isQuiet 14 = .ok (.ifCond .ne 7, 3) := by decide +kernel
theorem dX10_isQuiet_17 : decode cX10_isQuiet 17 = .ok (.iconst 1, 1) := by decide +kernel
theorem dX10_isQuiet_18 : decode cX10_isQuiet 18 = .ok (.goto 4, 3) := by decide +kernel
theorem dX10_isQuiet_21 : decode cX10_isQuiet 21 = .ok (.iconst 0, 1) := by decide +kernel
theorem dX10_isQuiet_22 : decode cX10_isQuiet 22 = .ok (.ireturn, 1) := by decide +kernel
theorem dX10_bring_0 : decode cX10_bring 0 = .ok (.aload_n 0, 1) := by decide +kernel
theorem dX10_bring_1 : decode cX10_bring 1 = .ok (.iload_n 1, 1) := by decide +kernel
theorem dX10_bring_2 : decode cX10_bring 2 = .ok (.iload_n 2, 1) := by decide +kernel
theorem dX10_bring_3 : decode cX10_bring 3 = .ok (.invokevirtual 98, 3) := by decide +kernel
theorem dX10_bring_6 : decode cX10_bring 6 = .ok (.ifCond .eq 12, 3) := by decide +kernel
theorem dX10_bring_9 : decode cX10_bring 9 = .ok (.aload_n 0, 1) := by decide +kernel
theorem dX10_bring_10 : decode cX10_bring 10 = .ok (.getfield 54, 3) := by decide +kernel
theorem dX10_bring_13 : decode cX10_bring 13 = .ok (.bipush 40, 2) := by decide +kernel
theorem dX10_bring_15 : decode cX10_bring 15 = .ok (.if_icmp .lt 5, 3) := by decide +kernel
theorem dX10_bring_18 : decode cX10_bring 18 = .ok (.iconst (-1), 1) := by decide +kernel
theorem dX10_bring_19 : decode cX10_bring 19 = .ok (.ireturn, 1) := by decide +kernel
theorem dX10_bring_20 : decode cX10_bring 20 = .ok (.aload_n 0, 1) := by decide +kernel
theorem dX10_bring_21 : decode cX10_bring 21 = .ok (.aload_n 0, 1) := by decide +kernel
theorem dX10_bring_22 : decode cX10_bring 22 = .ok (.getfield 54, 3) := by decide +kernel
theorem dX10_bring_25 : decode cX10_bring 25 = .ok (.invokevirtual 155, 3) := by decide +kernel
theorem dX10_bring_28 : decode cX10_bring 28 = .ok (.astore_n 3, 1) := by decide +kernel
theorem dX10_bring_29 : decode cX10_bring 29 = .ok (.aload_n 0, 1) := by decide +kernel
theorem dX10_bring_30 : decode cX10_bring 30 = .ok (.dup, 1) := by decide +kernel
theorem dX10_bring_31 : decode cX10_bring 31 = .ok (.getfield 54, 3) := by decide +kernel
theorem dX10_bring_34 : decode cX10_bring 34 = .ok (.iconst 1, 1) := by decide +kernel
theorem dX10_bring_35 : decode cX10_bring 35 = .ok (.iadd, 1) := by decide +kernel
theorem dX10_bring_36 : decode cX10_bring 36 = .ok (.putfield 54, 3) := by decide +kernel
theorem dX10_bring_39 : decode cX10_bring 39 = .ok (.aload_n 3, 1) := by decide +kernel
theorem dX10_bring_40 : decode cX10_bring 40 = .ok (.iload_n 1, 1) := by decide +kernel
theorem dX10_bring_41 : decode cX10_bring 41 = .ok (.iload_n 2, 1) := by decide +kernel
theorem dX10_bring_42 : decode cX10_bring 42 = .ok (.aload_n 0, 1) := by decide +kernel
theorem dX10_bring_43 : decode cX10_bring 43 = .ok (.getfield 57, 3) := by decide +kernel
theorem dX10_bring_46 : decode cX10_bring 46 = .ok (.invokevirtual 194, 3) := by decide +kernel
theorem dX10_bring_49 : decode cX10_bring 49 = .ok (.aload_n 0, 1) := by decide +kernel
theorem dX10_bring_50 : decode cX10_bring 50 = .ok (.aload_n 3, 1) := by decide +kernel
theorem dX10_bring_51 : decode cX10_bring 51 = .ok (.invokevirtual 197, 3) := by decide +kernel
theorem dX10_bring_54 : decode cX10_bring 54 = .ok (.aload_n 3, 1) := by decide +kernel
theorem dX10_bring_55 : decode cX10_bring 55 = .ok (.getfield 200, 3) := by decide +kernel
theorem dX10_bring_58 : decode cX10_bring 58 = .ok (.ireturn, 1) := by decide +kernel
theorem dX10_tick_0 : decode cX10_tick 0 = .ok (.aload_n 0, 1) := by decide +kernel
theorem dX10_tick_1 : decode cX10_tick 1 = .ok (.dup, 1) := by decide +kernel
theorem dX10_tick_2 : decode cX10_tick 2 = .ok (.getfield 57, 3) := by decide +kernel
theorem dX10_tick_5 : decode cX10_tick 5 = .ok (.iconst 1, 1) := by decide +kernel
theorem dX10_tick_6 : decode cX10_tick 6 = .ok (.iadd, 1) := by decide +kernel
theorem dX10_tick_7 : decode cX10_tick 7 = .ok (.putfield 57, 3) := by decide +kernel
theorem dX10_tick_10 : decode cX10_tick 10 = .ok (.aload_n 0, 1) := by decide +kernel
theorem dX10_tick_11 : decode cX10_tick 11 = .ok (.getfield 21, 3) := by decide +kernel
theorem dX10_tick_14 : decode cX10_tick 14 = .ok (.getfield 50, 3) := by decide +kernel
theorem dX10_tick_17 : decode cX10_tick 17 = .ok (.istore_n 2, 1) := by decide +kernel
theorem dX10_tick_18 : decode cX10_tick 18 = .ok (.iconst 0, 1) := by decide +kernel
theorem dX10_tick_19 : decode cX10_tick 19 = .ok (.istore_n 3, 1) := by decide +kernel
theorem dX10_tick_20 : decode cX10_tick 20 = .ok (.iload_n 3, 1) := by decide +kernel
theorem dX10_tick_21 : decode cX10_tick 21 = .ok (.iload_n 2, 1) := by decide +kernel
theorem dX10_tick_22 : decode cX10_tick 22 = .ok (.if_icmp .ge 112, 3) := by decide +kernel
theorem dX10_tick_25 : decode cX10_tick 25 = .ok (.iload_n 3, 1) := by decide +kernel
theorem dX10_tick_26 : decode cX10_tick 26 = .ok (.bipush 40, 2) := by decide +kernel
theorem dX10_tick_28 : decode cX10_tick 28 = .ok (.if_icmp .ge 106, 3) := by decide +kernel
theorem dX10_tick_31 : decode cX10_tick 31 = .ok (.aload_n 0, 1) := by decide +kernel
theorem dX10_tick_32 : decode cX10_tick 32 = .ok (.getfield 21, 3) := by decide +kernel
theorem dX10_tick_35 : decode cX10_tick 35 = .ok (.invokevirtual 203, 3) := by decide +kernel
theorem dX10_tick_38 : decode cX10_tick 38 = .ok (.astore 4, 2) := by decide +kernel
theorem dX10_tick_40 : decode cX10_tick 40 = .ok (.aload 4, 2) := by decide +kernel
theorem dX10_tick_42 : decode cX10_tick 42 = .ok (.getfield 207, 3) := by decide +kernel
theorem dX10_tick_45 : decode cX10_tick 45 = .ok (.iconst 1, 1) := by decide +kernel
theorem dX10_tick_46 : decode cX10_tick 46 = .ok (.if_icmp .ne 12, 3) := by decide +kernel
theorem dX10_tick_49 : decode cX10_tick 49 = .ok (.aload_n 0, 1) := by decide +kernel
theorem dX10_tick_50 : decode cX10_tick 50 = .ok (.aload 4, 2) := by decide +kernel
theorem dX10_tick_52 : decode cX10_tick 52 = .ok (.invokevirtual 212, 3) := by decide +kernel
theorem dX10_tick_55 : decode cX10_tick 55 = .ok (.goto 73, 3) := by decide +kernel
theorem dX10_tick_58 : decode cX10_tick 58 = .ok (.aload_n 0, 1) := by decide +kernel
theorem dX10_tick_59 : decode cX10_tick 59 = .ok (.getfield 64, 3) := by decide +kernel
theorem dX10_tick_62 : decode cX10_tick 62 = .ok (.aload 4, 2) := by decide +kernel
theorem dX10_tick_64 : decode cX10_tick 64 = .ok (.getfield 216, 3) := by decide +kernel
theorem dX10_tick_67 : decode cX10_tick 67 = .ok (.aload 4, 2) := by decide +kernel
theorem dX10_tick_69 : decode cX10_tick 69 = .ok (.getfield 219, 3) := by decide +kernel
theorem dX10_tick_72 : decode cX10_tick 72 = .ok (.invokestatic 222, 3) := by decide +kernel
theorem dX10_tick_75 : decode cX10_tick 75 = .ok (.ifCond .ne 12, 3) := by decide +kernel
theorem dX10_tick_78 : decode cX10_tick 78 = .ok (.aload_n 0, 1) := by decide +kernel
theorem dX10_tick_79 : decode cX10_tick 79 = .ok (.aload 4, 2) := by decide +kernel
theorem dX10_tick_81 : decode cX10_tick 81 = .ok (.invokevirtual 226, 3) := by decide +kernel
theorem dX10_tick_84 : decode cX10_tick 84 = .ok (.goto 44, 3) := by decide +kernel
theorem dX10_tick_87 : decode cX10_tick 87 = .ok (.aload 4, 2) := by decide +kernel
theorem dX10_tick_89 : decode cX10_tick 89 = .ok (.getfield 207, 3) := by decide +kernel
theorem dX10_tick_92 : decode cX10_tick 92 = .ok (.ifCond .ne 12, 3) := by decide +kernel
theorem dX10_tick_95 : decode cX10_tick 95 = .ok (.aload_n 0, 1) := by decide +kernel
theorem dX10_tick_96 : decode cX10_tick 96 = .ok (.aload 4, 2) := by decide +kernel
theorem dX10_tick_98 : decode cX10_tick 98 = .ok (.invokevirtual 229, 3) := by decide +kernel
theorem dX10_tick_101 : decode cX10_tick 101 = .ok (.goto 27, 3) := by decide +kernel
theorem dX10_tick_104 : decode cX10_tick 104 = .ok (.aload 4, 2) := by decide +kernel
theorem dX10_tick_106 : decode cX10_tick 106 = .ok (.getfield 207, 3) := by decide +kernel
theorem dX10_tick_109 : decode cX10_tick 109 = .ok (.iconst 2, 1) := by decide +kernel
theorem dX10_tick_110 : decode cX10_tick 110 = .ok (.if_icmp .ne 12, 3) := by decide +kernel
theorem dX10_tick_113 : decode cX10_tick 113 = .ok (.aload_n 0, 1) := by decide +kernel
theorem dX10_tick_114 : decode cX10_tick 114 = .ok (.aload 4, 2) := by decide +kernel
theorem dX10_tick_116 : decode cX10_tick 116 = .ok (.invokevirtual 232, 3) := by decide +kernel
theorem dX10_tick_119 : decode cX10_tick 119 = .ok (.goto 9, 3) := by decide +kernel
theorem dX10_tick_122 : decode cX10_tick 122 = .ok (.aload_n 0, 1) := by decide +kernel
theorem dX10_tick_123 : decode cX10_tick 123 = .ok (.aload 4, 2) := by decide +kernel
theorem dX10_tick_125 : decode cX10_tick 125 = .ok (.invokevirtual 235, 3) := by decide +kernel
theorem dX10_tick_128 : decode cX10_tick 128 = .ok (.iinc 3 1, 3) := by decide +kernel
theorem dX10_tick_131 : decode cX10_tick 131 = .ok (.goto (-111), 3) := by decide +kernel
theorem dX10_tick_134 : decode cX10_tick 134 = .ok (.iconst 0, 1) := by decide +kernel
theorem dX10_tick_135 : decode cX10_tick 135 = .ok (.istore_n 3, 1) := by decide +kernel
theorem dX10_tick_136 : decode cX10_tick 136 = .ok (.iload_n 3, 1) := by decide +kernel
theorem dX10_tick_137 : decode cX10_tick 137 = .ok (.bipush 8, 2) := by decide +kernel
theorem dX10_tick_139 : decode cX10_tick 139 = .ok (.if_icmp .ge 23, 3) := by decide +kernel
theorem dX10_tick_142 : decode cX10_tick 142 = .ok (.iload_n 1, 1) := by decide +kernel
theorem dX10_tick_143 : decode cX10_tick 143 = .ok (.ifCond .ne 19, 3) := by decide +kernel
theorem dX10_tick_146 : decode cX10_tick 146 = .ok (.aload_n 0, 1) := by decide +kernel
theorem dX10_tick_147 : decode cX10_tick 147 = .ok (.iload_n 3, 1) := by decide +kernel
theorem dX10_tick_148 : decode cX10_tick 148 = .ok (.invokevirtual 238, 3) := by decide +kernel
theorem dX10_tick_151 : decode cX10_tick 151 = .ok (.aload_n 0, 1) := by decide +kernel
theorem dX10_tick_152 : decode cX10_tick 152 = .ok (.iload_n 3, 1) := by decide +kernel
theorem dX10_tick_153 : decode cX10_tick 153 = .ok (.invokevirtual 241, 3) := by decide +kernel
theorem dX10_tick_156 : decode cX10_tick 156 = .ok (.iinc 3 1, 3) := by decide +kernel
theorem dX10_tick_159 : decode cX10_tick 159 = .ok (.goto (-23), 3) := by decide +kernel
theorem dX10_tick_162 : decode cX10_tick 162 = .ok (.return_, 1) := by decide +kernel
theorem dX10_emit_0 : decode cX10_emit 0 = .ok (.aload_n 0, 1) := by decide +kernel
theorem dX10_emit_1 : decode cX10_emit 1 = .ok (.getfield 21, 3) := by decide +kernel
theorem dX10_emit_4 : decode cX10_emit 4 = .ok (.invokevirtual 244, 3) := by decide +kernel
theorem dX10_emit_7 : decode cX10_emit 7 = .ok (.astore 7, 2) := by decide +kernel
theorem dX10_emit_9 : decode cX10_emit 9 = .ok (.aload 7, 2) := by decide +kernel
theorem dX10_emit_11 : decode cX10_emit 11 = .ok (.ifnonnull 16, 3) := by decide +kernel
theorem dX10_emit_14 : decode cX10_emit 14 = .ok (.aload_n 0, 1) := by decide +kernel
theorem dX10_emit_15 : decode cX10_emit 15 = .ok (.getfield 15, 3) := by decide +kernel
theorem dX10_emit_18 : decode cX10_emit 18 = .ok (.bipush 8, 2) := by decide +kernel
theorem dX10_emit_20 : decode cX10_emit 20 = .ok (.dup2, 1) := by decide +kernel
theorem dX10_emit_21 : decode cX10_emit 21 = .ok (.iaload, 1) := by decide +kernel
theorem dX10_emit_22 : decode cX10_emit 22 = .ok (.iconst 1, 1) := by decide +kernel
theorem dX10_emit_23 : decode cX10_emit 23 = .ok (.iadd, 1) := by decide +kernel
theorem dX10_emit_24 : decode cX10_emit 24 = .ok (.iastore, 1) := by decide +kernel
theorem dX10_emit_25 : decode cX10_emit 25 = .ok (.aconst_null, 1) := by decide +kernel
theorem dX10_emit_26 : decode cX10_emit 26 = .ok (.areturn, 1) := by decide +kernel
theorem dX10_emit_27 : decode cX10_emit 27 = .ok (.aload 7, 2) := by decide +kernel
theorem dX10_emit_29 : decode cX10_emit 29 = .ok (.iload_n 1, 1) := by decide +kernel
theorem dX10_emit_30 : decode cX10_emit 30 = .ok (.iload_n 2, 1) := by decide +kernel
theorem dX10_emit_31 : decode cX10_emit 31 = .ok (.iload_n 3, 1) := by decide +kernel
theorem dX10_emit_32 : decode cX10_emit 32 = .ok (.iload 4, 2) := by decide +kernel
theorem dX10_emit_34 : decode cX10_emit 34 = .ok (.lload 5, 2) := by decide +kernel
theorem dX10_emit_36 : decode cX10_emit 36 = .ok (.invokevirtual 247, 3) := by decide +kernel
theorem dX10_emit_39 : decode cX10_emit 39 = .ok (.iload_n 1, 1) := by decide +kernel
theorem dX10_emit_40 : decode cX10_emit 40 = .ok (.ifCond .lt 19, 3) := by decide +kernel
theorem dX10_emit_43 : decode cX10_emit 43 = .ok (.iload_n 1, 1) := by decide +kernel
theorem dX10_emit_44 : decode cX10_emit 44 = .ok (.bipush 11, 2) := by decide +kernel
theorem dX10_emit_46 : decode cX10_emit 46 = .ok (.if_icmp .ge 13, 3) := by decide +kernel
theorem dX10_emit_49 : decode cX10_emit 49 = .ok (.aload_n 0, 1) := by decide +kernel
theorem dX10_emit_50 : decode cX10_emit 50 = .ok (.getfield 15, 3) := by decide +kernel
theorem dX10_emit_53 : decode cX10_emit 53 = .ok (.iload_n 1, 1) := by decide +kernel
theorem dX10_emit_54 : decode cX10_emit 54 = .ok (.dup2, 1) := by decide +kernel
theorem dX10_emit_55 : decode cX10_emit 55 = .ok (.iaload, 1) := by decide +kernel
theorem dX10_emit_56 : decode cX10_emit 56 = .ok (.iconst 1, 1) := by decide +kernel
theorem dX10_emit_57 : decode cX10_emit 57 = .ok (.iadd, 1) := by decide +kernel
theorem dX10_emit_58 : decode cX10_emit 58 = .ok (.iastore, 1) := by decide +kernel
theorem dX10_emit_59 : decode cX10_emit 59 = .ok (.aload 7, 2) := by decide +kernel
theorem dX10_emit_61 : decode cX10_emit 61 = .ok (.areturn, 1) := by decide +kernel
theorem dX10_emitRequest_0 : decode cX10_emitRequest 0 = .ok (.aload_n 0, 1) := by decide +kernel
theorem dX10_emitRequest_1 : decode cX10_emitRequest 1 = .ok (.iconst 1, 1) := by decide +kernel
theorem dX10_emitRequest_2 : decode cX10_emitRequest 2 = .ok (.iload_n 1, 1) := by decide +kernel
theorem dX10_emitRequest_3 : decode cX10_emitRequest 3 = .ok (.iconst (-1), 1) := by decide +kernel
theorem dX10_emitRequest_4 : decode cX10_emitRequest 4 = .ok (.iload_n 2, 1) := by decide +kernel
theorem dX10_emitRequest_5 : decode cX10_emitRequest 5 = .ok (.lload 5, 2) := by decide +kernel
theorem dX10_emitRequest_7 : decode cX10_emitRequest 7 = .ok (.invokevirtual 250, 3) := by decide +kernel
theorem dX10_emitRequest_10 : decode cX10_emitRequest 10 = .ok (.astore 7, 2) := by decide +kernel
theorem dX10_emitRequest_12 : decode cX10_emitRequest 12 = .ok (.aload 7, 2) := by decide +kernel
theorem dX10_emitRequest_14 : decode cX10_emitRequest 14 = .ok (.ifnull 16, 3) := by decide +kernel
theorem dX10_emitRequest_17 : decode cX10_emitRequest 17 = .ok (.aload 7, 2) := by decide +kernel
theorem dX10_emitRequest_19 : decode cX10_emitRequest 19 = .ok (.iload_n 3, 1) := by decide +kernel
theorem dX10_emitRequest_20 : decode cX10_emitRequest 20 = .ok (.putfield 254, 3) := by decide +kernel
theorem dX10_emitRequest_23 : decode cX10_emitRequest 23 = .ok (.aload 7, 2) := by decide +kernel
theorem dX10_emitRequest_25 : decode cX10_emitRequest 25 = .ok (.iload 4, 2) := by decide +kernel
theorem dX10_emitRequest_27 : decode cX10_emitRequest 27 = .ok (.putfield 255, 3) := by decide +kernel
theorem dX10_emitRequest_30 : decode cX10_emitRequest 30 = .ok (.return_, 1) := by decide +kernel
theorem dX10_emitReply_0 : decode cX10_emitReply 0 = .ok (.lload_n 2, 1) := by decide +kernel
theorem dX10_emitReply_1 : decode cX10_emitReply 1 = .ok (.lload_n 2, 1) := by decide +kernel
theorem dX10_emitReply_2 : decode cX10_emitReply 2 = .ok (.iload_n 1, 1) := by decide +kernel
theorem dX10_emitReply_3 : decode cX10_emitReply 3 = .ok (.invokestatic 256, 3) := by decide +kernel
theorem dX10_emitReply_6 : decode cX10_emitReply 6 = .ok (.iconst 1, 1) := by decide +kernel
theorem dX10_emitReply_7 : decode cX10_emitReply 7 = .ok (.isub, 1) := by decide +kernel
theorem dX10_emitReply_8 : decode cX10_emitReply 8 = .ok (.invokestatic 259, 3) := by decide +kernel
theorem dX10_emitReply_11 : decode cX10_emitReply 11 = .ok (.istore 4, 2) := by decide +kernel
theorem dX10_emitReply_13 : decode cX10_emitReply 13 = .ok (.aload_n 0, 1) := by decide +kernel
theorem dX10_emitReply_14 : decode cX10_emitReply 14 = .ok (.iconst 2, 1) := by decide +kernel
theorem dX10_emitReply_15 : decode cX10_emitReply 15 = .ok (.iload_n 1, 1) := by decide +kernel
theorem dX10_emitReply_16 : decode cX10_emitReply 16 = .ok (.iload 4, 2) := by decide +kernel
theorem dX10_emitReply_18 : decode cX10_emitReply 18 = .ok (.lload_n 2, 1) := by decide +kernel
theorem dX10_emitReply_19 : decode cX10_emitReply 19 = .ok (.lload_n 2, 1) := by decide +kernel
theorem dX10_emitReply_20 : decode cX10_emitReply 20 = .ok (.invokestatic 174, 3) := by decide +kernel
theorem dX10_emitReply_23 : decode cX10_emitReply 23 = .ok (.iconst 1, 1) := by decide +kernel
theorem dX10_emitReply_24 : decode cX10_emitReply 24 = .ok (.isub, 1) := by decide +kernel
theorem dX10_emitReply_25 : decode cX10_emitReply 25 = .ok (.invokestatic 259, 3) := by decide +kernel
theorem dX10_emitReply_28 : decode cX10_emitReply 28 = .ok (.lload_n 2, 1) := by decide +kernel
theorem dX10_emitReply_29 : decode cX10_emitReply 29 = .ok (.invokevirtual 250, 3) := by decide +kernel
theorem dX10_emitReply_32 : decode cX10_emitReply 32 = .ok (.pop, 1) := by decide +kernel
theorem dX10_emitReply_33 : decode cX10_emitReply 33 = .ok (.return_, 1) := by decide +kernel
theorem dX10_emitData_0 : decode cX10_emitData 0 = .ok (.aload_n 1, 1) := by decide +kernel
theorem dX10_emitData_1 : decode cX10_emitData 1 = .ok (.iconst 1, 1) := by decide +kernel
theorem dX10_emitData_2 : decode cX10_emitData 2 = .ok (.lload_n 2, 1) := by decide +kernel
theorem dX10_emitData_3 : decode cX10_emitData 3 = .ok (.invokevirtual 262, 3) := by decide +kernel
theorem dX10_emitData_6 : decode cX10_emitData 6 = .ok (.aload_n 0, 1) := by decide +kernel
theorem dX10_emitData_7 : decode cX10_emitData 7 = .ok (.iconst 0, 1) := by decide +kernel
theorem dX10_emitData_8 : decode cX10_emitData 8 = .ok (.lload_n 2, 1) := by decide +kernel
theorem dX10_emitData_9 : decode cX10_emitData 9 = .ok (.iconst 0, 1) := by decide +kernel
theorem dX10_emitData_10 : decode cX10_emitData 10 = .ok (.invokestatic 259, 3) := by decide +kernel
theorem dX10_emitData_13 : decode cX10_emitData 13 = .ok (.lload_n 2, 1) := by decide +kernel
theorem dX10_emitData_14 : decode cX10_emitData 14 = .ok (.iconst 1, 1) := by decide +kernel
theorem dX10_emitData_15 : decode cX10_emitData 15 = .ok (.invokestatic 259, 3) := by decide +kernel
theorem dX10_emitData_18 : decode cX10_emitData 18 = .ok (.aload_n 1, 1) := by decide +kernel
theorem dX10_emitData_19 : decode cX10_emitData 19 = .ok (.getfield 200, 3) := by decide +kernel
theorem dX10_emitData_22 : decode cX10_emitData 22 = .ok (.lload_n 2, 1) := by decide +kernel
theorem dX10_emitData_23 : decode cX10_emitData 23 = .ok (.invokevirtual 250, 3) := by decide +kernel
theorem dX10_emitData_26 : decode cX10_emitData 26 = .ok (.ifnonnull 11, 3) := by decide +kernel
theorem dX10_emitData_29 : decode cX10_emitData 29 = .ok (.aload_n 0, 1) := by decide +kernel
theorem dX10_emitData_30 : decode cX10_emitData 30 = .ok (.aload_n 1, 1) := by decide +kernel
theorem dX10_emitData_31 : decode cX10_emitData 31 = .ok (.iconst 3, 1) := by decide +kernel
theorem dX10_emitData_32 : decode cX10_emitData 32 = .ok (.bipush 10, 2) := by decide +kernel
theorem dX10_emitData_34 : decode cX10_emitData 34 = .ok (.invokevirtual 266, 3) := by decide +kernel
theorem dX10_emitData_37 : decode cX10_emitData 37 = .ok (.return_, 1) := by decide +kernel
theorem dX10_finish_0 : decode cX10_finish 0 = .ok (.aload_n 1, 1) := by decide +kernel
theorem dX10_finish_1 : decode cX10_finish 1 = .ok (.iload_n 2, 1) := by decide +kernel
theorem dX10_finish_2 : decode cX10_finish 2 = .ok (.lconst 0, 1) := by decide +kernel
theorem dX10_finish_3 : decode cX10_finish 3 = .ok (.invokevirtual 262, 3) := by decide +kernel
theorem dX10_finish_6 : decode cX10_finish 6 = .ok (.aload_n 1, 1) := by decide +kernel
theorem dX10_finish_7 : decode cX10_finish 7 = .ok (.aload_n 0, 1) := by decide +kernel
theorem dX10_finish_8 : decode cX10_finish 8 = .ok (.getfield 57, 3) := by decide +kernel
theorem dX10_finish_11 : decode cX10_finish 11 = .ok (.putfield 184, 3) := by decide +kernel
theorem dX10_finish_14 : decode cX10_finish 14 = .ok (.iload_n 3, 1) := by decide +kernel
theorem dX10_finish_15 : decode cX10_finish 15 = .ok (.ifCond .lt 19, 3) := by decide +kernel
theorem dX10_finish_18 : decode cX10_finish 18 = .ok (.iload_n 3, 1) := by decide +kernel
theorem dX10_finish_19 : decode cX10_finish 19 = .ok (.bipush 11, 2) := by decide +kernel
theorem dX10_finish_21 : decode cX10_finish 21 = .ok (.if_icmp .ge 13, 3) := by decide +kernel
theorem dX10_finish_24 : decode cX10_finish 24 = .ok (.aload_n 0, 1) := by decide +kernel
theorem dX10_finish_25 : decode cX10_finish 25 = .ok (.getfield 15, 3) := by decide +kernel
theorem dX10_finish_28 : decode cX10_finish 28 = .ok (.iload_n 3, 1) := by decide +kernel
theorem dX10_finish_29 : decode cX10_finish 29 = .ok (.dup2, 1) := by decide +kernel
theorem dX10_finish_30 : decode cX10_finish 30 = .ok (.iaload, 1) := by decide +kernel
theorem dX10_finish_31 : decode cX10_finish 31 = .ok (.iconst 1, 1) := by decide +kernel
theorem dX10_finish_32 : decode cX10_finish 32 = .ok (.iadd, 1) := by decide +kernel
theorem dX10_finish_33 : decode cX10_finish 33 = .ok (.iastore, 1) := by decide +kernel
theorem dX10_finish_34 : decode cX10_finish 34 = .ok (.return_, 1) := by decide +kernel
theorem dX10_serve_0 : decode cX10_serve 0 = .ok (.aload_n 0, 1) := by decide +kernel
theorem dX10_serve_1 : decode cX10_serve 1 = .ok (.aload_n 1, 1) := by decide +kernel
theorem dX10_serve_2 : decode cX10_serve 2 = .ok (.getfield 159, 3) := by decide +kernel
theorem dX10_serve_5 : decode cX10_serve 5 = .ok (.invokevirtual 102, 3) := by decide +kernel
theorem dX10_serve_8 : decode cX10_serve 8 = .ok (.astore_n 2, 1) := by decide +kernel
theorem dX10_serve_9 : decode cX10_serve 9 = .ok (.aload_n 2, 1) := by decide +kernel
theorem dX10_serve_10 : decode cX10_serve 10 = .ok (.getfield 72, 3) := by decide +kernel
theorem dX10_serve_13 : decode cX10_serve 13 = .ok (.aload_n 1, 1) := by decide +kernel
theorem dX10_serve_14 : decode cX10_serve 14 = .ok (.getfield 162, 3) := by decide +kernel
theorem dX10_serve_17 : decode cX10_serve 17 = .ok (.invokevirtual 106, 3) := by decide +kernel
theorem dX10_serve_20 : decode cX10_serve 20 = .ok (.lstore_n 3, 1) := by decide +kernel
theorem dX10_serve_21 : decode cX10_serve 21 = .ok (.lload_n 3, 1) := by decide +kernel
theorem dX10_serve_22 : decode cX10_serve 22 = .ok (.lconst 0, 1) := by decide +kernel
theorem dX10_serve_23 : decode cX10_serve 23 = .ok (.lcmp, 1) := by decide +kernel
theorem dX10_serve_24 : decode cX10_serve 24 = .ok (.ifCond .eq 12, 3) := by decide +kernel
theorem dX10_serve_27 : decode cX10_serve 27 = .ok (.aload_n 0, 1) := by decide +kernel
theorem dX10_serve_28 : decode cX10_serve 28 = .ok (.aload_n 1, 1) := by decide +kernel
theorem dX10_serve_29 : decode cX10_serve 29 = .ok (.lload_n 3, 1) := by decide +kernel
theorem dX10_serve_30 : decode cX10_serve 30 = .ok (.invokevirtual 270, 3) := by decide +kernel
theorem dX10_serve_33 : decode cX10_serve 33 = .ok (.goto 98, 3) := by decide +kernel
theorem dX10_serve_36 : decode cX10_serve 36 = .ok (.aload_n 2, 1) := by decide +kernel
theorem dX10_serve_37 : decode cX10_serve 37 = .ok (.getfield 126, 3) := by decide +kernel
theorem dX10_serve_40 : decode cX10_serve 40 = .ok (.aload_n 0, 1) := by decide +kernel
theorem dX10_serve_41 : decode cX10_serve 41 = .ok (.getfield 9, 3) := by decide +kernel
theorem dX10_serve_44 : decode cX10_serve 44 = .ok (.iconst 4, 1) := by decide +kernel
theorem dX10_serve_45 : decode cX10_serve 45 = .ok (.iaload, 1) := by decide +kernel
theorem dX10_serve_46 : decode cX10_serve 46 = .ok (.if_icmp .ge 11, 3) := by decide +kernel
theorem dX10_serve_49 : decode cX10_serve 49 = .ok (.aload_n 2, 1) := by decide +kernel
theorem dX10_serve_50 : decode cX10_serve 50 = .ok (.getfield 126, 3) := by decide +kernel
theorem dX10_serve_53 : decode cX10_serve 53 = .ok (.iconst 4, 1) := by decide +kernel
theorem dX10_serve_54 : decode cX10_serve 54 = .ok (.if_icmp .lt 14, 3) := by decide +kernel
theorem dX10_serve_57 : decode cX10_serve 57 = .ok (.aload_n 0, 1) := by decide +kernel
theorem dX10_serve_58 : decode cX10_serve 58 = .ok (.aload_n 1, 1) := by decide +kernel
theorem dX10_serve_59 : decode cX10_serve 59 = .ok (.iconst 3, 1) := by decide +kernel
theorem dX10_serve_60 : decode cX10_serve 60 = .ok (.bipush 10, 2) := by decide +kernel
theorem dX10_serve_62 : decode cX10_serve 62 = .ok (.invokevirtual 266, 3) := by decide +kernel
theorem dX10_serve_65 : decode cX10_serve 65 = .ok (.goto 66, 3) := by decide +kernel
theorem dX10_serve_68 : decode cX10_serve 68 = .ok (.aload_n 1, 1) := by decide +kernel
theorem dX10_serve_69 : decode cX10_serve 69 = .ok (.iconst 0, 1) := by decide +kernel
theorem dX10_serve_70 : decode cX10_serve 70 = .ok (.lconst 0, 1) := by decide +kernel
theorem dX10_serve_71 : decode cX10_serve 71 = .ok (.invokevirtual 262, 3) := by decide +kernel
theorem dX10_serve_74 : decode cX10_serve 74 = .ok (.aload_n 1, 1) := by decide +kernel
theorem dX10_serve_75 : decode cX10_serve 75 = .ok (.aload_n 0, 1) := by decide +kernel
theorem dX10_serve_76 : decode cX10_serve 76 = .ok (.getfield 57, 3) := by decide +kernel
theorem dX10_serve_79 : decode cX10_serve 79 = .ok (.putfield 274, 3) := by decide +kernel
theorem dX10_serve_82 : decode cX10_serve 82 = .ok (.aload_n 2, 1) := by decide +kernel
theorem dX10_serve_83 : decode cX10_serve 83 = .ok (.getfield 277, 3) := by decide +kernel
theorem dX10_serve_86 : decode cX10_serve 86 = .ok (.aload_n 2, 1) := by decide +kernel
theorem dX10_serve_87 : decode cX10_serve 87 = .ok (.getfield 126, 3) := by decide +kernel
theorem dX10_serve_90 : decode cX10_serve 90 = .ok (.aload_n 1, 1) := by decide +kernel
theorem dX10_serve_91 : decode cX10_serve 91 = .ok (.getfield 200, 3) := by decide +kernel
theorem dX10_serve_94 : decode cX10_serve 94 = .ok (.iastore, 1) := by decide +kernel
theorem dX10_serve_95 : decode cX10_serve 95 = .ok (.aload_n 2, 1) := by decide +kernel
theorem dX10_serve_96 : decode cX10_serve 96 = .ok (.dup, 1) := by decide +kernel
theorem dX10_serve_97 : decode cX10_serve 97 = .ok (.getfield 126, 3) := by decide +kernel
theorem dX10_serve_100 : decode cX10_serve 100 = .ok (.iconst 1, 1) := by decide +kernel
theorem dX10_serve_101 : decode cX10_serve 101 = .ok (.iadd, 1) := by decide +kernel
theorem dX10_serve_102 : decode cX10_serve 102 = .ok (.putfield 126, 3) := by decide +kernel
theorem dX10_serve_105 : decode cX10_serve 105 = .ok (.aload_n 2, 1) := by decide +kernel
theorem dX10_serve_106 : decode cX10_serve 106 = .ok (.getfield 138, 3) := by decide +kernel
theorem dX10_serve_109 : decode cX10_serve 109 = .ok (.aload_n 1, 1) := by decide +kernel
theorem dX10_serve_110 : decode cX10_serve 110 = .ok (.getfield 162, 3) := by decide +kernel
theorem dX10_serve_113 : decode cX10_serve 113 = .ok (.ishr, 1) := by decide +kernel
theorem dX10_serve_114 : decode cX10_serve 114 = .ok (.iconst 1, 1) := by decide +kernel
theorem dX10_serve_115 : decode cX10_serve 115 = .ok (.iand, 1) := by decide +kernel
theorem dX10_serve_116 : decode cX10_serve 116 = .ok (.ifCond .ne 15, 3) := by decide +kernel
theorem dX10_serve_119 : decode cX10_serve 119 = .ok (.aload_n 0, 1) := by decide +kernel
theorem dX10_serve_120 : decode cX10_serve 120 = .ok (.aload_n 1, 1) := by decide +kernel
theorem dX10_serve_121 : decode cX10_serve 121 = .ok (.getfield 159, 3) := by decide +kernel
theorem dX10_serve_124 : decode cX10_serve 124 = .ok (.aload_n 1, 1) := by decide +kernel
theorem dX10_serve_125 : decode cX10_serve 125 = .ok (.getfield 162, 3) := by decide +kernel
theorem dX10_serve_128 : decode cX10_serve 128 = .ok (.invokevirtual 280, 3) := by decide +kernel
theorem dX10_serve_131 : decode cX10_serve 131 = .ok (.return_, 1) := by decide +kernel
theorem dX10_ask_0 : decode cX10_ask 0 = .ok (.aload_n 0, 1) := by decide +kernel
theorem dX10_ask_1 : decode cX10_ask 1 = .ok (.iload_n 1, 1) := by decide +kernel
theorem dX10_ask_2 : decode cX10_ask 2 = .ok (.invokevirtual 102, 3) := by decide +kernel
theorem dX10_ask_5 : decode cX10_ask 5 = .ok (.astore_n 3, 1) := by decide +kernel
theorem dX10_ask_6 : decode cX10_ask 6 = .ok (.aload_n 3, 1) := by decide +kernel
theorem dX10_ask_7 : decode cX10_ask 7 = .ok (.dup, 1) := by decide +kernel
theorem dX10_ask_8 : decode cX10_ask 8 = .ok (.getfield 129, 3) := by decide +kernel
theorem dX10_ask_11 : decode cX10_ask 11 = .ok (.iconst 1, 1) := by decide +kernel
theorem dX10_ask_12 : decode cX10_ask 12 = .ok (.iadd, 1) := by decide +kernel
theorem dX10_ask_13 : decode cX10_ask 13 = .ok (.putfield 129, 3) := by decide +kernel
theorem dX10_ask_16 : decode cX10_ask 16 = .ok (.aload_n 3, 1) := by decide +kernel
theorem dX10_ask_17 : decode cX10_ask 17 = .ok (.dup, 1) := by decide +kernel
theorem dX10_ask_18 : decode cX10_ask 18 = .ok (.getfield 138, 3) := by decide +kernel
theorem dX10_ask_21 : decode cX10_ask 21 = .ok (.iconst 1, 1) := by decide +kernel
theorem dX10_ask_22 : decode cX10_ask 22 = .ok (.iload_n 2, 1) := by decide +kernel
theorem dX10_ask_23 : decode cX10_ask 23 = .ok (.ishl, 1) := by decide +kernel
theorem dX10_ask_24 : decode cX10_ask 24 = .ok (.ior, 1) := by decide +kernel
theorem dX10_ask_25 : decode cX10_ask 25 = .ok (.putfield 138, 3) := by decide +kernel
theorem dX10_ask_28 : decode cX10_ask 28 = .ok (.aload_n 3, 1) := by decide +kernel
theorem dX10_ask_29 : decode cX10_ask 29 = .ok (.getfield 284, 3) := by decide +kernel
theorem dX10_ask_32 : decode cX10_ask 32 = .ok (.iload_n 2, 1) := by decide +kernel
theorem dX10_ask_33 : decode cX10_ask 33 = .ok (.bipush 7, 2) := by decide +kernel
theorem dX10_ask_35 : decode cX10_ask 35 = .ok (.iand, 1) := by decide +kernel
theorem dX10_ask_36 : decode cX10_ask 36 = .ok (.aload_n 0, 1) := by decide +kernel
theorem dX10_ask_37 : decode cX10_ask 37 = .ok (.getfield 57, 3) := by decide +kernel
theorem dX10_ask_40 : decode cX10_ask 40 = .ok (.iastore, 1) := by decide +kernel
theorem dX10_ask_41 : decode cX10_ask 41 = .ok (.aload_n 0, 1) := by decide +kernel
theorem dX10_ask_42 : decode cX10_ask 42 = .ok (.iload_n 1, 1) := by decide +kernel
theorem dX10_ask_43 : decode cX10_ask 43 = .ok (.iload_n 2, 1) := by decide +kernel
theorem dX10_ask_44 : decode cX10_ask 44 = .ok (.aload_n 3, 1) := by decide +kernel
theorem dX10_ask_45 : decode cX10_ask 45 = .ok (.getfield 129, 3) := by decide +kernel
theorem dX10_ask_48 : decode cX10_ask 48 = .ok (.aload_n 3, 1) := by decide +kernel
theorem dX10_ask_49 : decode cX10_ask 49 = .ok (.getfield 132, 3) := by decide +kernel
theorem dX10_ask_52 : decode cX10_ask 52 = .ok (.lconst 0, 1) := by decide +kernel
theorem dX10_ask_53 : decode cX10_ask 53 = .ok (.iload_n 1, 1) := by decide +kernel
theorem dX10_ask_54 : decode cX10_ask 54 = .ok (.invokestatic 287, 3) := by decide +kernel
theorem dX10_ask_57 : decode cX10_ask 57 = .ok (.invokevirtual 291, 3) := by decide +kernel
theorem dX10_ask_60 : decode cX10_ask 60 = .ok (.return_, 1) := by decide +kernel
theorem dX10_meetDown_0 : decode cX10_meetDown 0 = .ok (.aload_n 1, 1) := by decide +kernel
theorem dX10_meetDown_1 : decode cX10_meetDown 1 = .ok (.getfield 216, 3) := by decide +kernel
theorem dX10_meetDown_4 : decode cX10_meetDown 4 = .ok (.istore_n 2, 1) := by decide +kernel
theorem dX10_meetDown_5 : decode cX10_meetDown 5 = .ok (.iload_n 2, 1) := by decide +kernel
theorem dX10_meetDown_6 : decode cX10_meetDown 6 = .ok (.aload_n 1, 1) := by decide +kernel
theorem dX10_meetDown_7 : decode cX10_meetDown 7 = .ok (.getfield 219, 3) := by decide +kernel
theorem dX10_meetDown_10 : decode cX10_meetDown 10 = .ok (.invokestatic 294, 3) := by decide +kernel
theorem dX10_meetDown_13 : decode cX10_meetDown 13 = .ok (.istore_n 3, 1) := by decide +kernel
theorem dX10_meetDown_14 : decode cX10_meetDown 14 = .ok (.aload_n 0, 1) := by decide +kernel
theorem dX10_meetDown_15 : decode cX10_meetDown 15 = .ok (.iload_n 2, 1) := by decide +kernel
theorem dX10_meetDown_16 : decode cX10_meetDown 16 = .ok (.invokevirtual 102, 3) := by decide +kernel
theorem dX10_meetDown_19 : decode cX10_meetDown 19 = .ok (.getfield 72, 3) := by decide +kernel
theorem dX10_meetDown_22 : decode cX10_meetDown 22 = .ok (.iload_n 3, 1) := by decide +kernel
theorem dX10_meetDown_23 : decode cX10_meetDown 23 = .ok (.invokevirtual 298, 3) := by decide +kernel
theorem dX10_meetDown_26 : decode cX10_meetDown 26 = .ok (.aload_n 1, 1) := by decide +kernel
theorem dX10_meetDown_27 : decode cX10_meetDown 27 = .ok (.getfield 207, 3) := by decide +kernel
theorem dX10_meetDown_30 : decode cX10_meetDown 30 = .ok (.ifCond .eq 4, 3) := by decide +kernel
theorem dX10_meetDown_33 : decode cX10_meetDown 33 = .ok (.return_, 1) := by decide +kernel
theorem dX10_meetDown_34 : decode cX10_meetDown 34 = .ok (.aload_n 0, 1) := by decide +kernel
theorem dX10_meetDown_35 : decode cX10_meetDown 35 = .ok (.getfield 15, 3) := by decide +kernel
theorem dX10_meetDown_38 : decode cX10_meetDown 38 = .ok (.bipush 6, 2) := by decide +kernel
theorem dX10_meetDown_40 : decode cX10_meetDown 40 = .ok (.dup2, 1) := by decide +kernel
theorem dX10_meetDown_41 : decode cX10_meetDown 41 = .ok (.iaload, 1) := by decide +kernel
theorem dX10_meetDown_42 : decode cX10_meetDown 42 = .ok (.iconst 1, 1) := by decide +kernel
theorem dX10_meetDown_43 : decode cX10_meetDown 43 = .ok (.iadd, 1) := by decide +kernel
theorem dX10_meetDown_44 : decode cX10_meetDown 44 = .ok (.iastore, 1) := by decide +kernel
theorem dX10_meetDown_45 : decode cX10_meetDown 45 = .ok (.aload_n 0, 1) := by decide +kernel
theorem dX10_meetDown_46 : decode cX10_meetDown 46 = .ok (.aload_n 1, 1) := by decide +kernel
theorem dX10_meetDown_47 : decode cX10_meetDown 47 = .ok (.getfield 301, 3) := by decide +kernel
theorem dX10_meetDown_50 : decode cX10_meetDown 50 = .ok (.invokevirtual 155, 3) := by decide +kernel
theorem dX10_meetDown_53 : decode cX10_meetDown 53 = .ok (.astore 4, 2) := by decide +kernel
theorem dX10_meetDown_55 : decode cX10_meetDown 55 = .ok (.iload_n 2, 1) := by decide +kernel
theorem dX10_meetDown_56 : decode cX10_meetDown 56 = .ok (.aload 4, 2) := by decide +kernel
theorem dX10_meetDown_58 : decode cX10_meetDown 58 = .ok (.getfield 159, 3) := by decide +kernel
theorem dX10_meetDown_61 : decode cX10_meetDown 61 = .ok (.if_icmp .ne 19, 3) := by decide +kernel
theorem dX10_meetDown_64 : decode cX10_meetDown 64 = .ok (.aload_n 0, 1) := by decide +kernel
theorem dX10_meetDown_65 : decode cX10_meetDown 65 = .ok (.iload_n 2, 1) := by decide +kernel
theorem dX10_meetDown_66 : decode cX10_meetDown 66 = .ok (.invokevirtual 102, 3) := by decide +kernel
theorem dX10_meetDown_69 : decode cX10_meetDown 69 = .ok (.iload_n 3, 1) := by decide +kernel
theorem dX10_meetDown_70 : decode cX10_meetDown 70 = .ok (.putfield 132, 3) := by decide +kernel
theorem dX10_meetDown_73 : decode cX10_meetDown 73 = .ok (.aload_n 0, 1) := by decide +kernel
theorem dX10_meetDown_74 : decode cX10_meetDown 74 = .ok (.aload 4, 2) := by decide +kernel
theorem dX10_meetDown_76 : decode cX10_meetDown 76 = .ok (.invokevirtual 197, 3) := by decide +kernel
theorem dX10_meetDown_79 : decode cX10_meetDown 79 = .ok (.return_, 1) := by decide +kernel
theorem dX10_meetDown_80 : decode cX10_meetDown 80 = .ok (.aload 4, 2) := by decide +kernel
theorem dX10_meetDown_82 : decode cX10_meetDown 82 = .ok (.getfield 171, 3) := by decide +kernel
theorem dX10_meetDown_85 : decode cX10_meetDown 85 = .ok (.invokestatic 304, 3) := by decide +kernel
theorem dX10_meetDown_88 : decode cX10_meetDown 88 = .ok (.lstore 5, 2) := by decide +kernel
theorem dX10_meetDown_90 : decode cX10_meetDown 90 = .ok (.aload_n 0, 1) := by decide +kernel
theorem dX10_meetDown_91 : decode cX10_meetDown 91 = .ok (.iconst 3, 1) := by decide +kernel
theorem dX10_meetDown_92 : decode cX10_meetDown 92 = .ok (.iload_n 2, 1) := by decide +kernel
theorem dX10_meetDown_93 : decode cX10_meetDown 93 = .ok (.lload 5, 2) := by decide +kernel
theorem dX10_meetDown_95 : decode cX10_meetDown 95 = .ok (.iconst 1, 1) := by decide +kernel
theorem dX10_meetDown_96 : decode cX10_meetDown 96 = .ok (.invokestatic 259, 3) := by decide +kernel
theorem dX10_meetDown_99 : decode cX10_meetDown 99 = .ok (.iload_n 3, 1) := by decide +kernel
theorem dX10_meetDown_100 : decode cX10_meetDown 100 = .ok (.lload 5, 2) := by decide +kernel
theorem dX10_meetDown_102 : decode cX10_meetDown 102 = .ok (.invokevirtual 250, 3) := by decide +kernel
theorem dX10_meetDown_105 : decode cX10_meetDown 105 = .ok (.pop, 1) := by decide +kernel
theorem dX10_meetDown_106 : decode cX10_meetDown 106 = .ok (.aload_n 0, 1) := by decide +kernel
theorem dX10_meetDown_107 : decode cX10_meetDown 107 = .ok (.iload_n 2, 1) := by decide +kernel
theorem dX10_meetDown_108 : decode cX10_meetDown 108 = .ok (.invokevirtual 102, 3) := by decide +kernel
theorem dX10_meetDown_111 : decode cX10_meetDown 111 = .ok (.getfield 72, 3) := by decide +kernel
theorem dX10_meetDown_114 : decode cX10_meetDown 114 = .ok (.aload 4, 2) := by decide +kernel
theorem dX10_meetDown_116 : decode cX10_meetDown 116 = .ok (.getfield 162, 3) := by decide +kernel
theorem dX10_meetDown_119 : decode cX10_meetDown 119 = .ok (.invokevirtual 106, 3) := by decide +kernel
theorem dX10_meetDown_122 : decode cX10_meetDown 122 = .ok (.lstore 7, 2) := by decide +kernel
theorem dX10_meetDown_124 : decode cX10_meetDown 124 = .ok (.lload 7, 2) := by decide +kernel
theorem dX10_meetDown_126 : decode cX10_meetDown 126 = .ok (.invokestatic 308, 3) := by decide +kernel
theorem dX10_meetDown_129 : decode cX10_meetDown 129 = .ok (.aload 4, 2) := by decide +kernel
theorem dX10_meetDown_131 : decode cX10_meetDown 131 = .ok (.getfield 171, 3) := by decide +kernel
theorem dX10_meetDown_134 : decode cX10_meetDown 134 = .ok (.invokestatic 308, 3) := by decide +kernel
theorem dX10_meetDown_137 : decode cX10_meetDown 137 = .ok (.iand, 1) := by decide +kernel
theorem dX10_meetDown_138 : decode cX10_meetDown 138 = .ok (.iconst 1, 1) := by decide +kernel
theorem dX10_meetDown_139 : decode cX10_meetDown 139 = .ok (.iload_n 2, 1) := by decide +kernel
theorem dX10_meetDown_140 : decode cX10_meetDown 140 = .ok (.ishl, 1) := by decide +kernel
theorem dX10_meetDown_141 : decode cX10_meetDown 141 = .ok (.if_icmp .ne 7, 3) := by decide +kernel
theorem dX10_meetDown_144 : decode cX10_meetDown 144 = .ok (.iconst 1, 1) := by decide +kernel
theorem dX10_meetDown_145 : decode cX10_meetDown 145 = .ok (.goto 4, 3) := by decide +kernel
theorem dX10_meetDown_148 : decode cX10_meetDown 148 = .ok (.iconst 0, 1) := by decide +kernel
theorem dX10_meetDown_149 : decode cX10_meetDown 149 = .ok (.istore 9, 2) := by decide +kernel
theorem dX10_meetDown_151 : decode cX10_meetDown 151 = .ok (.aload 4, 2) := by decide +kernel
theorem dX10_meetDown_153 : decode cX10_meetDown 153 = .ok (.getfield 168, 3) := by decide +kernel
theorem dX10_meetDown_156 : decode cX10_meetDown 156 = .ok (.aload_n 0, 1) := by decide +kernel
theorem dX10_meetDown_157 : decode cX10_meetDown 157 = .ok (.getfield 9, 3) := by decide +kernel
theorem dX10_meetDown_160 : decode cX10_meetDown 160 = .ok (.bipush 7, 2) := by decide +kernel
theorem dX10_meetDown_162 : decode cX10_meetDown 162 = .ok (.iaload, 1) := by decide +kernel
theorem dX10_meetDown_163 : decode cX10_meetDown 163 = .ok (.if_icmp .ge 47, 3) := by decide +kernel
theorem dX10_meetDown_166 : decode cX10_meetDown 166 = .ok (.lload 7, 2) := by decide +kernel
theorem dX10_meetDown_168 : decode cX10_meetDown 168 = .ok (.lconst 0, 1) := by decide +kernel
theorem dX10_meetDown_169 : decode cX10_meetDown 169 = .ok (.lcmp, 1) := by decide +kernel
theorem dX10_meetDown_170 : decode cX10_meetDown 170 = .ok (.ifCond .eq 40, 3) := by decide +kernel
theorem dX10_meetDown_173 : decode cX10_meetDown 173 = .ok (.iload 9, 2) := by decide +kernel
theorem dX10_meetDown_175 : decode cX10_meetDown 175 = .ok (.ifCond .eq 35, 3) := by decide +kernel
theorem dX10_meetDown_178 : decode cX10_meetDown 178 = .ok (.aload 4, 2) := by decide +kernel
theorem dX10_meetDown_180 : decode cX10_meetDown 180 = .ok (.dup, 1) := by decide +kernel
theorem dX10_meetDown_181 : decode cX10_meetDown 181 = .ok (.getfield 168, 3) := by decide +kernel
theorem dX10_meetDown_184 : decode cX10_meetDown 184 = .ok (.iconst 1, 1) := by decide +kernel
theorem dX10_meetDown_185 : decode cX10_meetDown 185 = .ok (.iadd, 1) := by decide +kernel
theorem dX10_meetDown_186 : decode cX10_meetDown 186 = .ok (.putfield 168, 3) := by decide +kernel
theorem dX10_meetDown_189 : decode cX10_meetDown 189 = .ok (.aload_n 0, 1) := by decide +kernel
theorem dX10_meetDown_190 : decode cX10_meetDown 190 = .ok (.getfield 15, 3) := by decide +kernel
theorem dX10_meetDown_193 : decode cX10_meetDown 193 = .ok (.iconst 4, 1) := by decide +kernel
theorem dX10_meetDown_194 : decode cX10_meetDown 194 = .ok (.dup2, 1) := by decide +kernel
theorem dX10_meetDown_195 : decode cX10_meetDown 195 = .ok (.iaload, 1) := by decide +kernel
theorem dX10_meetDown_196 : decode cX10_meetDown 196 = .ok (.iconst 1, 1) := by decide +kernel
theorem dX10_meetDown_197 : decode cX10_meetDown 197 = .ok (.iadd, 1) := by decide +kernel
theorem dX10_meetDown_198 : decode cX10_meetDown 198 = .ok (.iastore, 1) := by decide +kernel
theorem dX10_meetDown_199 : decode cX10_meetDown 199 = .ok (.aload_n 0, 1) := by decide +kernel
theorem dX10_meetDown_200 : decode cX10_meetDown 200 = .ok (.aload 4, 2) := by decide +kernel
theorem dX10_meetDown_202 : decode cX10_meetDown 202 = .ok (.lload 7, 2) := by decide +kernel
theorem dX10_meetDown_204 : decode cX10_meetDown 204 = .ok (.invokevirtual 270, 3) := by decide +kernel
theorem dX10_meetDown_207 : decode cX10_meetDown 207 = .ok (.goto 12, 3) := by decide +kernel
theorem dX10_meetDown_210 : decode cX10_meetDown 210 = .ok (.aload_n 0, 1) := by decide +kernel
theorem dX10_meetDown_211 : decode cX10_meetDown 211 = .ok (.aload 4, 2) := by decide +kernel
theorem dX10_meetDown_213 : decode cX10_meetDown 213 = .ok (.iconst 3, 1) := by decide +kernel
theorem dX10_meetDown_214 : decode cX10_meetDown 214 = .ok (.bipush 10, 2) := by decide +kernel
theorem dX10_meetDown_216 : decode cX10_meetDown 216 = .ok (.invokevirtual 266, 3) := by decide +kernel
theorem dX10_meetDown_219 : decode cX10_meetDown 219 = .ok (.return_, 1) := by decide +kernel
theorem dX10_dataArrives_0 : decode cX10_dataArrives 0 = .ok (.aload_n 0, 1) := by decide +kernel
theorem dX10_dataArrives_1 : decode cX10_dataArrives 1 = .ok (.aload_n 1, 1) := by decide +kernel
theorem dX10_dataArrives_2 : decode cX10_dataArrives 2 = .ok (.getfield 301, 3) := by decide +kernel
theorem dX10_dataArrives_5 : decode cX10_dataArrives 5 = .ok (.invokevirtual 155, 3) := by decide +kernel
theorem dX10_dataArrives_8 : decode cX10_dataArrives 8 = .ok (.astore_n 2, 1) := by decide +kernel
theorem dX10_dataArrives_9 : decode cX10_dataArrives 9 = .ok (.aload_n 1, 1) := by decide +kernel
theorem dX10_dataArrives_10 : decode cX10_dataArrives 10 = .ok (.getfield 219, 3) := by decide +kernel
theorem dX10_dataArrives_13 : decode cX10_dataArrives 13 = .ok (.istore_n 3, 1) := by decide +kernel
theorem dX10_dataArrives_14 : decode cX10_dataArrives 14 = .ok (.aload_n 2, 1) := by decide +kernel
theorem dX10_dataArrives_15 : decode cX10_dataArrives 15 = .ok (.aload_n 2, 1) := by decide +kernel
theorem dX10_dataArrives_16 : decode cX10_dataArrives 16 = .ok (.getfield 171, 3) := by decide +kernel
theorem dX10_dataArrives_19 : decode cX10_dataArrives 19 = .ok (.iload_n 3, 1) := by decide +kernel
theorem dX10_dataArrives_20 : decode cX10_dataArrives 20 = .ok (.invokestatic 287, 3) := by decide +kernel
theorem dX10_dataArrives_23 : decode cX10_dataArrives 23 = .ok (.putfield 171, 3) := by decide +kernel
theorem dX10_dataArrives_26 : decode cX10_dataArrives 26 = .ok (.aload_n 2, 1) := by decide +kernel
theorem dX10_dataArrives_27 : decode cX10_dataArrives 27 = .ok (.aload_n 1, 1) := by decide +kernel
theorem dX10_dataArrives_28 : decode cX10_dataArrives 28 = .ok (.getfield 311, 3) := by decide +kernel
theorem dX10_dataArrives_31 : decode cX10_dataArrives 31 = .ok (.iconst 1, 1) := by decide +kernel
theorem dX10_dataArrives_32 : decode cX10_dataArrives 32 = .ok (.invokestatic 314, 3) := by decide +kernel
theorem dX10_dataArrives_35 : decode cX10_dataArrives 35 = .ok (.putfield 178, 3) := by decide +kernel
theorem dX10_dataArrives_38 : decode cX10_dataArrives 38 = .ok (.aload_n 2, 1) := by decide +kernel
theorem dX10_dataArrives_39 : decode cX10_dataArrives 39 = .ok (.getfield 171, 3) := by decide +kernel
theorem dX10_dataArrives_42 : decode cX10_dataArrives 42 = .ok (.invokestatic 304, 3) := by decide +kernel
theorem dX10_dataArrives_45 : decode cX10_dataArrives 45 = .ok (.lstore 4, 2) := by decide +kernel
theorem dX10_dataArrives_47 : decode cX10_dataArrives 47 = .ok (.aload_n 0, 1) := by decide +kernel
theorem dX10_dataArrives_48 : decode cX10_dataArrives 48 = .ok (.iload_n 3, 1) := by decide +kernel
theorem dX10_dataArrives_49 : decode cX10_dataArrives 49 = .ok (.invokevirtual 102, 3) := by decide +kernel
theorem dX10_dataArrives_52 : decode cX10_dataArrives 52 = .ok (.getfield 72, 3) := by decide +kernel
theorem dX10_dataArrives_55 : decode cX10_dataArrives 55 = .ok (.aload_n 2, 1) := by decide +kernel
theorem dX10_dataArrives_56 : decode cX10_dataArrives 56 = .ok (.getfield 178, 3) := by decide +kernel
theorem dX10_dataArrives_59 : decode cX10_dataArrives 59 = .ok (.invokevirtual 316, 3) := by decide +kernel
theorem dX10_dataArrives_62 : decode cX10_dataArrives 62 = .ok (.aload_n 0, 1) := by decide +kernel
theorem dX10_dataArrives_63 : decode cX10_dataArrives 63 = .ok (.iload_n 3, 1) := by decide +kernel
theorem dX10_dataArrives_64 : decode cX10_dataArrives 64 = .ok (.invokevirtual 102, 3) := by decide +kernel
theorem dX10_dataArrives_67 : decode cX10_dataArrives 67 = .ok (.getfield 72, 3) := by decide +kernel
theorem dX10_dataArrives_70 : decode cX10_dataArrives 70 = .ok (.lload 4, 2) := by decide +kernel
theorem dX10_dataArrives_72 : decode cX10_dataArrives 72 = .ok (.invokevirtual 316, 3) := by decide +kernel
theorem dX10_dataArrives_75 : decode cX10_dataArrives 75 = .ok (.iconst 0, 1) := by decide +kernel
theorem dX10_dataArrives_76 : decode cX10_dataArrives 76 = .ok (.istore 6, 2) := by decide +kernel
theorem dX10_dataArrives_78 : decode cX10_dataArrives 78 = .ok (.iload 6, 2) := by decide +kernel
theorem dX10_dataArrives_80 : decode cX10_dataArrives 80 = .ok (.bipush 8, 2) := by decide +kernel
theorem dX10_dataArrives_82 : decode cX10_dataArrives 82 = .ok (.if_icmp .ge 64, 3) := by decide +kernel
theorem dX10_dataArrives_85 : decode cX10_dataArrives 85 = .ok (.aload_n 0, 1) := by decide +kernel
theorem dX10_dataArrives_86 : decode cX10_dataArrives 86 = .ok (.iload 6, 2) := by decide +kernel
theorem dX10_dataArrives_88 : decode cX10_dataArrives 88 = .ok (.aload_n 1, 1) := by decide +kernel
theorem dX10_dataArrives_89 : decode cX10_dataArrives 89 = .ok (.getfield 216, 3) := by decide +kernel
theorem dX10_dataArrives_92 : decode cX10_dataArrives 92 = .ok (.invokevirtual 320, 3) := by decide +kernel
theorem dX10_dataArrives_95 : decode cX10_dataArrives 95 = .ok (.ifCond .eq 45, 3) := by decide +kernel
theorem dX10_dataArrives_98 : decode cX10_dataArrives 98 = .ok (.aload_n 2, 1) := by decide +kernel
theorem dX10_dataArrives_99 : decode cX10_dataArrives 99 = .ok (.getfield 171, 3) := by decide +kernel
theorem dX10_dataArrives_102 : decode cX10_dataArrives 102 = .ok (.iload 6, 2) := by decide +kernel
theorem dX10_dataArrives_104 : decode cX10_dataArrives 104 = .ok (.invokestatic 323, 3) := by decide +kernel
theorem dX10_dataArrives_107 : decode cX10_dataArrives 107 = .ok (.ifCond .ne 33, 3) := by decide +kernel
theorem dX10_dataArrives_110 : decode cX10_dataArrives 110 = .ok (.aload_n 0, 1) := by decide +kernel
theorem dX10_dataArrives_111 : decode cX10_dataArrives 111 = .ok (.iload 6, 2) := by decide +kernel
theorem dX10_dataArrives_113 : decode cX10_dataArrives 113 = .ok (.invokevirtual 102, 3) := by decide +kernel
theorem dX10_dataArrives_116 : decode cX10_dataArrives 116 = .ok (.getfield 72, 3) := by decide +kernel
theorem dX10_dataArrives_119 : decode cX10_dataArrives 119 = .ok (.iload 6, 2) := by decide +kernel
theorem dX10_dataArrives_121 : decode cX10_dataArrives 121 = .ok (.lload 4, 2) := by decide +kernel
theorem dX10_dataArrives_123 : decode cX10_dataArrives 123 = .ok (.iconst 1, 1) := by decide +kernel
theorem dX10_dataArrives_124 : decode cX10_dataArrives 124 = .ok (.invokestatic 314, 3) := by decide +kernel
theorem dX10_dataArrives_127 : decode cX10_dataArrives 127 = .ok (.invokestatic 327, 3) := by decide +kernel
theorem dX10_dataArrives_130 : decode cX10_dataArrives 130 = .ok (.invokevirtual 316, 3) := by decide +kernel
theorem dX10_dataArrives_133 : decode cX10_dataArrives 133 = .ok (.aload_n 0, 1) := by decide +kernel
theorem dX10_dataArrives_134 : decode cX10_dataArrives 134 = .ok (.aload_n 2, 1) := by decide +kernel
theorem dX10_dataArrives_135 : decode cX10_dataArrives 135 = .ok (.iload 6, 2) := by decide +kernel
theorem dX10_dataArrives_137 : decode cX10_dataArrives 137 = .ok (.invokevirtual 331, 3) := by decide +kernel
theorem dX10_dataArrives_140 : decode cX10_dataArrives 140 = .ok (.iinc 6 1, 3) := by decide +kernel
theorem dX10_dataArrives_143 : decode cX10_dataArrives 143 = .ok (.goto (-65), 3) := by decide +kernel
theorem dX10_dataArrives_146 : decode cX10_dataArrives 146 = .ok (.iload_n 3, 1) := by decide +kernel
theorem dX10_dataArrives_147 : decode cX10_dataArrives 147 = .ok (.aload_n 2, 1) := by decide +kernel
theorem dX10_dataArrives_148 : decode cX10_dataArrives 148 = .ok (.getfield 162, 3) := by decide +kernel
theorem dX10_dataArrives_151 : decode cX10_dataArrives 151 = .ok (.if_icmp .ne 14, 3) := by decide +kernel
theorem dX10_dataArrives_154 : decode cX10_dataArrives 154 = .ok (.aload_n 0, 1) := by decide +kernel
theorem dX10_dataArrives_155 : decode cX10_dataArrives 155 = .ok (.aload_n 2, 1) := by decide +kernel
theorem dX10_dataArrives_156 : decode cX10_dataArrives 156 = .ok (.iconst 2, 1) := by decide +kernel
theorem dX10_dataArrives_157 : decode cX10_dataArrives 157 = .ok (.bipush 9, 2) := by decide +kernel
theorem dX10_dataArrives_159 : decode cX10_dataArrives 159 = .ok (.invokevirtual 266, 3) := by decide +kernel
theorem dX10_dataArrives_162 : decode cX10_dataArrives 162 = .ok (.goto 12, 3) := by decide +kernel
theorem dX10_dataArrives_165 : decode cX10_dataArrives 165 = .ok (.aload_n 0, 1) := by decide +kernel
theorem dX10_dataArrives_166 : decode cX10_dataArrives 166 = .ok (.aload_n 2, 1) := by decide +kernel
theorem dX10_dataArrives_167 : decode cX10_dataArrives 167 = .ok (.aload_n 2, 1) := by decide +kernel
theorem dX10_dataArrives_168 : decode cX10_dataArrives 168 = .ok (.getfield 178, 3) := by decide +kernel
theorem dX10_dataArrives_171 : decode cX10_dataArrives 171 = .ok (.invokevirtual 270, 3) := by decide +kernel
theorem dX10_dataArrives_174 : decode cX10_dataArrives 174 = .ok (.return_, 1) := by decide +kernel
theorem dX10_overhears_0 : decode cX10_overhears 0 = .ok (.aload_n 0, 1) := by decide +kernel
theorem dX10_overhears_1 : decode cX10_overhears 1 = .ok (.getfield 64, 3) := by decide +kernel
theorem dX10_overhears_4 : decode cX10_overhears 4 = .ok (.iload_n 1, 1) := by decide +kernel
theorem dX10_overhears_5 : decode cX10_overhears 5 = .ok (.iload_n 2, 1) := by decide +kernel
theorem dX10_overhears_6 : decode cX10_overhears 6 = .ok (.invokestatic 222, 3) := by decide +kernel
theorem dX10_overhears_9 : decode cX10_overhears 9 = .ok (.ifCond .eq 18, 3) := by decide +kernel
theorem dX10_overhears_12 : decode cX10_overhears 12 = .ok (.aload_n 0, 1) := by decide +kernel
theorem dX10_overhears_13 : decode cX10_overhears 13 = .ok (.iload_n 1, 1) := by decide +kernel
theorem dX10_overhears_14 : decode cX10_overhears 14 = .ok (.invokevirtual 102, 3) := by decide +kernel
theorem dX10_overhears_17 : decode cX10_overhears 17 = .ok (.getfield 116, 3) := by decide +kernel
theorem dX10_overhears_20 : decode cX10_overhears 20 = .ok (.ifCond .eq 7, 3) := by decide +kernel
theorem dX10_overhears_23 : decode cX10_overhears 23 = .ok (.iconst 1, 1) := by decide +kernel
theorem dX10_overhears_24 : decode cX10_overhears 24 = .ok (.goto 4, 3) := by decide +kernel
theorem dX10_overhears_27 : decode cX10_overhears 27 = .ok (.iconst 0, 1) := by decide +kernel
theorem dX10_overhears_28 : decode cX10_overhears 28 = .ok (.ireturn, 1) := by decide +kernel
theorem dX10_shorten_0 : decode cX10_shorten 0 = .ok (.aload_n 1, 1) := by decide +kernel
theorem dX10_shorten_1 : decode cX10_shorten 1 = .ok (.getfield 178, 3) := by decide +kernel
theorem dX10_shorten_4 : decode cX10_shorten 4 = .ok (.iload_n 2, 1) := by decide +kernel
theorem dX10_shorten_5 : decode cX10_shorten 5 = .ok (.invokestatic 256, 3) := by decide +kernel
theorem dX10_shorten_8 : decode cX10_shorten 8 = .ok (.istore_n 3, 1) := by decide +kernel
theorem dX10_shorten_9 : decode cX10_shorten 9 = .ok (.iload_n 3, 1) := by decide +kernel
theorem dX10_shorten_10 : decode cX10_shorten 10 = .ok (.iconst (-1), 1) := by decide +kernel
theorem dX10_shorten_11 : decode cX10_shorten 11 = .ok (.if_icmp .eq 14, 3) := by decide +kernel
theorem dX10_shorten_14 : decode cX10_shorten 14 = .ok (.aload_n 1, 1) := by decide +kernel
theorem dX10_shorten_15 : decode cX10_shorten 15 = .ok (.getfield 187, 3) := by decide +kernel
theorem dX10_shorten_18 : decode cX10_shorten 18 = .ok (.iload_n 2, 1) := by decide +kernel
theorem dX10_shorten_19 : decode cX10_shorten 19 = .ok (.ishr, 1) := by decide +kernel
theorem dX10_shorten_20 : decode cX10_shorten 20 = .ok (.iconst 1, 1) := by decide +kernel
theorem dX10_shorten_21 : decode cX10_shorten 21 = .ok (.iand, 1) := by decide +kernel
theorem dX10_shorten_22 : decode cX10_shorten 22 = .ok (.ifCond .eq 4, 3) := by decide +kernel
theorem dX10_shorten_25 : decode cX10_shorten 25 = .ok (.return_, 1) := by decide +kernel
theorem dX10_shorten_26 : decode cX10_shorten 26 = .ok (.aload_n 1, 1) := by decide +kernel
theorem dX10_shorten_27 : decode cX10_shorten 27 = .ok (.dup, 1) := by decide +kernel
theorem dX10_shorten_28 : decode cX10_shorten 28 = .ok (.getfield 187, 3) := by decide +kernel
theorem dX10_shorten_31 : decode cX10_shorten 31 = .ok (.iconst 1, 1) := by decide +kernel
theorem dX10_shorten_32 : decode cX10_shorten 32 = .ok (.iload_n 2, 1) := by decide +kernel
theorem dX10_shorten_33 : decode cX10_shorten 33 = .ok (.ishl, 1) := by decide +kernel
theorem dX10_shorten_34 : decode cX10_shorten 34 = .ok (.ior, 1) := by decide +kernel
theorem dX10_shorten_35 : decode cX10_shorten 35 = .ok (.putfield 187, 3) := by decide +kernel
theorem dX10_shorten_38 : decode cX10_shorten 38 = .ok (.aload_n 0, 1) := by decide +kernel
theorem dX10_shorten_39 : decode cX10_shorten 39 = .ok (.getfield 15, 3) := by decide +kernel
theorem dX10_shorten_42 : decode cX10_shorten 42 = .ok (.iconst 5, 1) := by decide +kernel
theorem dX10_shorten_43 : decode cX10_shorten 43 = .ok (.dup2, 1) := by decide +kernel
theorem dX10_shorten_44 : decode cX10_shorten 44 = .ok (.iaload, 1) := by decide +kernel
theorem dX10_shorten_45 : decode cX10_shorten 45 = .ok (.iconst 1, 1) := by decide +kernel
theorem dX10_shorten_46 : decode cX10_shorten 46 = .ok (.iadd, 1) := by decide +kernel
theorem dX10_shorten_47 : decode cX10_shorten 47 = .ok (.iastore, 1) := by decide +kernel
theorem dX10_shorten_48 : decode cX10_shorten 48 = .ok (.aload_n 1, 1) := by decide +kernel
theorem dX10_shorten_49 : decode cX10_shorten 49 = .ok (.getfield 171, 3) := by decide +kernel
theorem dX10_shorten_52 : decode cX10_shorten 52 = .ok (.aload_n 1, 1) := by decide +kernel
theorem dX10_shorten_53 : decode cX10_shorten 53 = .ok (.getfield 171, 3) := by decide +kernel
theorem dX10_shorten_56 : decode cX10_shorten 56 = .ok (.invokestatic 174, 3) := by decide +kernel
theorem dX10_shorten_59 : decode cX10_shorten 59 = .ok (.iconst 1, 1) := by decide +kernel
theorem dX10_shorten_60 : decode cX10_shorten 60 = .ok (.isub, 1) := by decide +kernel
theorem dX10_shorten_61 : decode cX10_shorten 61 = .ok (.invokestatic 335, 3) := by decide +kernel
theorem dX10_shorten_64 : decode cX10_shorten 64 = .ok (.lstore 4, 2) := by decide +kernel
theorem dX10_shorten_66 : decode cX10_shorten 66 = .ok (.aload_n 0, 1) := by decide +kernel
theorem dX10_shorten_67 : decode cX10_shorten 67 = .ok (.iload_n 2, 1) := by decide +kernel
theorem dX10_shorten_68 : decode cX10_shorten 68 = .ok (.lload 4, 2) := by decide +kernel
theorem dX10_shorten_70 : decode cX10_shorten 70 = .ok (.aload_n 1, 1) := by decide +kernel
theorem dX10_shorten_71 : decode cX10_shorten 71 = .ok (.getfield 178, 3) := by decide +kernel
theorem dX10_shorten_74 : decode cX10_shorten 74 = .ok (.iload_n 3, 1) := by decide +kernel
theorem dX10_shorten_75 : decode cX10_shorten 75 = .ok (.invokestatic 314, 3) := by decide +kernel
theorem dX10_shorten_78 : decode cX10_shorten 78 = .ok (.invokestatic 338, 3) := by decide +kernel
theorem dX10_shorten_81 : decode cX10_shorten 81 = .ok (.invokevirtual 342, 3) := by decide +kernel
theorem dX10_shorten_84 : decode cX10_shorten 84 = .ok (.return_, 1) := by decide +kernel
theorem dX10_requestArrives_0 : decode cX10_requestArrives 0 = .ok (.iconst 0, 1) := by decide +kernel
theorem dX10_requestArrives_1 : decode cX10_requestArrives 1 = .ok (.istore_n 2, 1) := by decide +kernel
theorem dX10_requestArrives_2 : decode cX10_requestArrives 2 = .ok (.iload_n 2, 1) := by decide +kernel
theorem dX10_requestArrives_3 : decode cX10_requestArrives 3 = .ok (.bipush 8, 2) := by decide +kernel
theorem dX10_requestArrives_5 : decode cX10_requestArrives 5 = .ok (.if_icmp .ge 68, 3) := by decide +kernel
theorem dX10_requestArrives_8 : decode cX10_requestArrives 8 = .ok (.aload_n 0, 1) := by decide +kernel
theorem dX10_requestArrives_9 : decode cX10_requestArrives 9 = .ok (.getfield 64, 3) := by decide +kernel
theorem dX10_requestArrives_12 : decode cX10_requestArrives 12 = .ok (.iload_n 2, 1) := by decide +kernel
theorem dX10_requestArrives_13 : decode cX10_requestArrives 13 = .ok (.aload_n 1, 1) := by decide +kernel
theorem dX10_requestArrives_14 : decode cX10_requestArrives 14 = .ok (.getfield 216, 3) := by decide +kernel
theorem dX10_requestArrives_17 : decode cX10_requestArrives 17 = .ok (.invokestatic 222, 3) := by decide +kernel
theorem dX10_requestArrives_20 : decode cX10_requestArrives 20 = .ok (.ifCond .eq 47, 3) := by decide +kernel
theorem dX10_requestArrives_23 : decode cX10_requestArrives 23 = .ok (.aload_n 0, 1) := by decide +kernel
theorem dX10_requestArrives_24 : decode cX10_requestArrives 24 = .ok (.iload_n 2, 1) := by decide +kernel
theorem dX10_requestArrives_25 : decode cX10_requestArrives 25 = .ok (.invokevirtual 102, 3) := by decide +kernel
theorem dX10_requestArrives_28 : decode cX10_requestArrives 28 = .ok (.getfield 72, 3) := by decide +kernel
theorem dX10_requestArrives_31 : decode cX10_requestArrives 31 = .ok (.aload_n 1, 1) := by decide +kernel
theorem dX10_requestArrives_32 : decode cX10_requestArrives 32 = .ok (.getfield 255, 3) := by decide +kernel
theorem dX10_requestArrives_35 : decode cX10_requestArrives 35 = .ok (.invokevirtual 298, 3) := by decide +kernel
theorem dX10_requestArrives_38 : decode cX10_requestArrives 38 = .ok (.aload_n 0, 1) := by decide +kernel
theorem dX10_requestArrives_39 : decode cX10_requestArrives 39 = .ok (.iload_n 2, 1) := by decide +kernel
theorem dX10_requestArrives_40 : decode cX10_requestArrives 40 = .ok (.aload_n 1, 1) := by decide +kernel
theorem dX10_requestArrives_41 : decode cX10_requestArrives 41 = .ok (.invokevirtual 345, 3) := by decide +kernel
theorem dX10_requestArrives_44 : decode cX10_requestArrives 44 = .ok (.ifCond .eq 12, 3) := by decide +kernel
theorem dX10_requestArrives_47 : decode cX10_requestArrives 47 = .ok (.aload_n 0, 1) := by decide +kernel
theorem dX10_requestArrives_48 : decode cX10_requestArrives 48 = .ok (.iload_n 2, 1) := by decide +kernel
theorem dX10_requestArrives_49 : decode cX10_requestArrives 49 = .ok (.aload_n 1, 1) := by decide +kernel
theorem dX10_requestArrives_50 : decode cX10_requestArrives 50 = .ok (.invokevirtual 349, 3) := by decide +kernel
theorem dX10_requestArrives_53 : decode cX10_requestArrives 53 = .ok (.goto 14, 3) := by decide +kernel
theorem dX10_requestArrives_56 : decode cX10_requestArrives 56 = .ok (.aload_n 0, 1) := by decide +kernel
theorem dX10_requestArrives_57 : decode cX10_requestArrives 57 = .ok (.getfield 15, 3) := by decide +kernel
theorem dX10_requestArrives_60 : decode cX10_requestArrives 60 = .ok (.bipush 7, 2) := by decide +kernel
theorem dX10_requestArrives_62 : decode cX10_requestArrives 62 = .ok (.dup2, 1) := by decide +kernel
theorem dX10_requestArrives_63 : decode cX10_requestArrives 63 = .ok (.iaload, 1) := by decide +kernel
theorem dX10_requestArrives_64 : decode cX10_requestArrives 64 = .ok (.iconst 1, 1) := by decide +kernel
theorem dX10_requestArrives_65 : decode cX10_requestArrives 65 = .ok (.iadd, 1) := by decide +kernel
theorem dX10_requestArrives_66 : decode cX10_requestArrives 66 = .ok (.iastore, 1) := by decide +kernel
theorem dX10_requestArrives_67 : decode cX10_requestArrives 67 = .ok (.iinc 2 1, 3) := by decide +kernel
theorem dX10_requestArrives_70 : decode cX10_requestArrives 70 = .ok (.goto (-68), 3) := by decide +kernel
theorem dX10_requestArrives_73 : decode cX10_requestArrives 73 = .ok (.return_, 1) := by decide +kernel
theorem dX10_isNew_0 : decode cX10_isNew 0 = .ok (.ldc2_w 353, 3) := by decide +kernel
theorem dX10_isNew_3 : decode cX10_isNew 3 = .ok (.aload_n 2, 1) := by decide +kernel
theorem dX10_isNew_4 : decode cX10_isNew 4 = .ok (.getfield 311, 3) := by decide +kernel
theorem dX10_isNew_7 : decode cX10_isNew 7 = .ok (.iconst 0, 1) := by decide +kernel
theorem dX10_isNew_8 : decode cX10_isNew 8 = .ok (.invokestatic 259, 3) := by decide +kernel
theorem dX10_isNew_11 : decode cX10_isNew 11 = .ok (.i2l, 1) := by decide +kernel
theorem dX10_isNew_12 : decode cX10_isNew 12 = .ok (.lmul, 1) := by decide +kernel
theorem dX10_isNew_13 : decode cX10_isNew 13 = .ok (.aload_n 2, 1) := by decide +kernel
theorem dX10_isNew_14 : decode cX10_isNew 14 = .ok (.getfield 254, 3) := by decide +kernel
theorem dX10_isNew_17 : decode cX10_isNew 17 = .ok (.i2l, 1) := by decide +kernel
theorem dX10_isNew_18 : decode cX10_isNew 18 = .ok (.ladd, 1) := by decide +kernel
theorem dX10_isNew_19 : decode cX10_isNew 19 = .ok (.lstore_n 3, 1) := by decide +kernel
theorem dX10_isNew_20 : decode cX10_isNew 20 = .ok (.aload_n 0, 1) := by decide +kernel
theorem dX10_isNew_21 : decode cX10_isNew 21 = .ok (.iload_n 1, 1) := by decide +kernel
theorem dX10_isNew_22 : decode cX10_isNew 22 = .ok (.invokevirtual 102, 3) := by decide +kernel
theorem dX10_isNew_25 : decode cX10_isNew 25 = .ok (.getfield 135, 3) := by decide +kernel
theorem dX10_isNew_28 : decode cX10_isNew 28 = .ok (.astore 5, 2) := by decide +kernel
theorem dX10_isNew_30 : decode cX10_isNew 30 = .ok (.aload_n 2, 1) := by decide +kernel
theorem dX10_isNew_31 : decode cX10_isNew 31 = .ok (.getfield 311, 3) := by decide +kernel
theorem dX10_isNew_34 : decode cX10_isNew 34 = .ok (.iload_n 1, 1) := by decide +kernel
theorem dX10_isNew_35 : decode cX10_isNew 35 = .ok (.invokestatic 323, 3) := by decide +kernel
theorem dX10_isNew_38 : decode cX10_isNew 38 = .ok (.ifCond .ne 12, 3) := by decide +kernel
theorem dX10_isNew_41 : decode cX10_isNew 41 = .ok (.aload 5, 2) := by decide +kernel
theorem dX10_isNew_43 : decode cX10_isNew 43 = .ok (.lload_n 3, 1) := by decide +kernel
theorem dX10_isNew_44 : decode cX10_isNew 44 = .ok (.invokevirtual 355, 3) := by decide +kernel
theorem dX10_isNew_47 : decode cX10_isNew 47 = .ok (.ifCond .eq 5, 3) := by decide +kernel
theorem dX10_isNew_50 : decode cX10_isNew 50 = .ok (.iconst 0, 1) := by decide +kernel
theorem dX10_isNew_51 : decode cX10_isNew 51 = .ok (.ireturn, 1) := by decide +kernel
theorem dX10_isNew_52 : decode cX10_isNew 52 = .ok (.aload 5, 2) := by decide +kernel
theorem dX10_isNew_54 : decode cX10_isNew 54 = .ok (.lload_n 3, 1) := by decide +kernel
theorem dX10_isNew_55 : decode cX10_isNew 55 = .ok (.aload_n 0, 1) := by decide +kernel
theorem dX10_isNew_56 : decode cX10_isNew 56 = .ok (.getfield 9, 3) := by decide +kernel
theorem dX10_isNew_59 : decode cX10_isNew 59 = .ok (.iconst 3, 1) := by decide +kernel
theorem dX10_isNew_60 : decode cX10_isNew 60 = .ok (.iaload, 1) := by decide +kernel
theorem dX10_isNew_61 : decode cX10_isNew 61 = .ok (.invokevirtual 358, 3) := by decide +kernel
theorem dX10_isNew_64 : decode cX10_isNew 64 = .ok (.iconst 1, 1) := by decide +kernel
theorem dX10_isNew_65 : decode cX10_isNew 65 = .ok (.ireturn, 1) := by decide +kernel
theorem dX10_answer_0 : decode cX10_answer 0 = .ok (.aload_n 0, 1) := by decide +kernel
theorem dX10_answer_1 : decode cX10_answer 1 = .ok (.iload_n 1, 1) := by decide +kernel
theorem dX10_answer_2 : decode cX10_answer 2 = .ok (.invokevirtual 102, 3) := by decide +kernel
theorem dX10_answer_5 : decode cX10_answer 5 = .ok (.getfield 72, 3) := by decide +kernel
theorem dX10_answer_8 : decode cX10_answer 8 = .ok (.astore_n 3, 1) := by decide +kernel
theorem dX10_answer_9 : decode cX10_answer 9 = .ok (.aload_n 3, 1) := by decide +kernel
theorem dX10_answer_10 : decode cX10_answer 10 = .ok (.iload_n 1, 1) := by decide +kernel
theorem dX10_answer_11 : decode cX10_answer 11 = .ok (.aload_n 2, 1) := by decide +kernel
theorem dX10_answer_12 : decode cX10_answer 12 = .ok (.getfield 311, 3) := by decide +kernel
theorem dX10_answer_15 : decode cX10_answer 15 = .ok (.invokestatic 304, 3) := by decide +kernel
theorem dX10_answer_18 : decode cX10_answer 18 = .ok (.invokestatic 327, 3) := by decide +kernel
theorem dX10_answer_21 : decode cX10_answer 21 = .ok (.invokevirtual 316, 3) := by decide +kernel
theorem dX10_answer_24 : decode cX10_answer 24 = .ok (.aload_n 2, 1) := by decide +kernel
theorem dX10_answer_25 : decode cX10_answer 25 = .ok (.getfield 311, 3) := by decide +kernel
theorem dX10_answer_28 : decode cX10_answer 28 = .ok (.iload_n 1, 1) := by decide +kernel
theorem dX10_answer_29 : decode cX10_answer 29 = .ok (.invokestatic 287, 3) := by decide +kernel
theorem dX10_answer_32 : decode cX10_answer 32 = .ok (.lstore 4, 2) := by decide +kernel
theorem dX10_answer_34 : decode cX10_answer 34 = .ok (.iload_n 1, 1) := by decide +kernel
theorem dX10_answer_35 : decode cX10_answer 35 = .ok (.aload_n 2, 1) := by decide +kernel
theorem dX10_answer_36 : decode cX10_answer 36 = .ok (.getfield 301, 3) := by decide +kernel
theorem dX10_answer_39 : decode cX10_answer 39 = .ok (.if_icmp .ne 11, 3) := by decide +kernel
theorem dX10_answer_42 : decode cX10_answer 42 = .ok (.aload_n 0, 1) := by decide +kernel
theorem dX10_answer_43 : decode cX10_answer 43 = .ok (.iload_n 1, 1) := by decide +kernel
theorem dX10_answer_44 : decode cX10_answer 44 = .ok (.lload 4, 2) := by decide +kernel
theorem dX10_answer_46 : decode cX10_answer 46 = .ok (.invokevirtual 342, 3) := by decide +kernel
theorem dX10_answer_49 : decode cX10_answer 49 = .ok (.return_, 1) := by decide +kernel
theorem dX10_answer_50 : decode cX10_answer 50 = .ok (.aload_n 3, 1) := by decide +kernel
theorem dX10_answer_51 : decode cX10_answer 51 = .ok (.aload_n 2, 1) := by decide +kernel
theorem dX10_answer_52 : decode cX10_answer 52 = .ok (.getfield 301, 3) := by decide +kernel
theorem dX10_answer_55 : decode cX10_answer 55 = .ok (.invokevirtual 106, 3) := by decide +kernel
theorem dX10_answer_58 : decode cX10_answer 58 = .ok (.lstore 6, 2) := by decide +kernel
theorem dX10_answer_60 : decode cX10_answer 60 = .ok (.lload 6, 2) := by decide +kernel
theorem dX10_answer_62 : decode cX10_answer 62 = .ok (.lconst 0, 1) := by decide +kernel
theorem dX10_answer_63 : decode cX10_answer 63 = .ok (.lcmp, 1) := by decide +kernel
theorem dX10_answer_64 : decode cX10_answer 64 = .ok (.ifCond .ne 7, 3) := by decide +kernel
theorem dX10_answer_67 : decode cX10_answer 67 = .ok (.lconst 0, 1) := by decide +kernel
theorem dX10_answer_68 : decode cX10_answer 68 = .ok (.goto 12, 3) := by decide +kernel
theorem dX10_answer_71 : decode cX10_answer 71 = .ok (.aload_n 2, 1) := by decide +kernel
theorem dX10_answer_72 : decode cX10_answer 72 = .ok (.getfield 311, 3) := by decide +kernel
theorem dX10_answer_75 : decode cX10_answer 75 = .ok (.lload 6, 2) := by decide +kernel
theorem dX10_answer_77 : decode cX10_answer 77 = .ok (.invokestatic 338, 3) := by decide +kernel
theorem dX10_answer_80 : decode cX10_answer 80 = .ok (.lstore 8, 2) := by decide +kernel
theorem dX10_answer_82 : decode cX10_answer 82 = .ok (.lload 8, 2) := by decide +kernel
theorem dX10_answer_84 : decode cX10_answer 84 = .ok (.lconst 0, 1) := by decide +kernel
theorem dX10_answer_85 : decode cX10_answer 85 = .ok (.lcmp, 1) := by decide +kernel
theorem dX10_answer_86 : decode cX10_answer 86 = .ok (.ifCond .eq 29, 3) := by decide +kernel
theorem dX10_answer_89 : decode cX10_answer 89 = .ok (.lload 8, 2) := by decide +kernel
theorem dX10_answer_91 : decode cX10_answer 91 = .ok (.invokestatic 174, 3) := by decide +kernel
theorem dX10_answer_94 : decode cX10_answer 94 = .ok (.iconst 1, 1) := by decide +kernel
theorem dX10_answer_95 : decode cX10_answer 95 = .ok (.isub, 1) := by decide +kernel
theorem dX10_answer_96 : decode cX10_answer 96 = .ok (.aload_n 0, 1) := by decide +kernel
theorem dX10_answer_97 : decode cX10_answer 97 = .ok (.getfield 9, 3) := by decide +kernel
theorem dX10_answer_100 : decode cX10_answer 100 = .ok (.iconst 1, 1) := by decide +kernel
theorem dX10_answer_101 : decode cX10_answer 101 = .ok (.iaload, 1) := by decide +kernel
theorem dX10_answer_102 : decode cX10_answer 102 = .ok (.if_icmp .gt 13, 3) := by decide +kernel
theorem dX10_answer_105 : decode cX10_answer 105 = .ok (.aload_n 0, 1) := by decide +kernel
theorem dX10_answer_106 : decode cX10_answer 106 = .ok (.iload_n 1, 1) := by decide +kernel
theorem dX10_answer_107 : decode cX10_answer 107 = .ok (.lload 8, 2) := by decide +kernel
theorem dX10_answer_109 : decode cX10_answer 109 = .ok (.invokevirtual 342, 3) := by decide +kernel
theorem dX10_answer_112 : decode cX10_answer 112 = .ok (.goto 38, 3) := by decide +kernel
theorem dX10_answer_115 : decode cX10_answer 115 = .ok (.lload 4, 2) := by decide +kernel
theorem dX10_answer_117 : decode cX10_answer 117 = .ok (.invokestatic 174, 3) := by decide +kernel
theorem dX10_answer_120 : decode cX10_answer 120 = .ok (.iconst 1, 1) := by decide +kernel
theorem dX10_answer_121 : decode cX10_answer 121 = .ok (.isub, 1) := by decide +kernel
theorem dX10_answer_122 : decode cX10_answer 122 = .ok (.aload_n 0, 1) := by decide +kernel
theorem dX10_answer_123 : decode cX10_answer 123 = .ok (.getfield 9, 3) := by decide +kernel
theorem dX10_answer_126 : decode cX10_answer 126 = .ok (.iconst 1, 1) := by decide +kernel
theorem dX10_answer_127 : decode cX10_answer 127 = .ok (.iaload, 1) := by decide +kernel
theorem dX10_answer_128 : decode cX10_answer 128 = .ok (.if_icmp .ge 22, 3) := by decide +kernel
theorem dX10_answer_131 : decode cX10_answer 131 = .ok (.aload_n 0, 1) := by decide +kernel
theorem dX10_answer_132 : decode cX10_answer 132 = .ok (.iload_n 1, 1) := by decide +kernel
theorem dX10_answer_133 : decode cX10_answer 133 = .ok (.aload_n 2, 1) := by decide +kernel
theorem dX10_answer_134 : decode cX10_answer 134 = .ok (.getfield 301, 3) := by decide +kernel
theorem dX10_answer_137 : decode cX10_answer 137 = .ok (.aload_n 2, 1) := by decide +kernel
theorem dX10_answer_138 : decode cX10_answer 138 = .ok (.getfield 254, 3) := by decide +kernel
theorem dX10_answer_141 : decode cX10_answer 141 = .ok (.aload_n 2, 1) := by decide +kernel
theorem dX10_answer_142 : decode cX10_answer 142 = .ok (.getfield 255, 3) := by decide +kernel
theorem dX10_answer_145 : decode cX10_answer 145 = .ok (.lload 4, 2) := by decide +kernel
theorem dX10_answer_147 : decode cX10_answer 147 = .ok (.invokevirtual 291, 3) := by decide +kernel
theorem dX10_answer_150 : decode cX10_answer 150 = .ok (.return_, 1) := by decide +kernel
theorem dX10_replyArrives_0 : decode cX10_replyArrives 0 = .ok (.aload_n 1, 1) := by decide +kernel
theorem dX10_replyArrives_1 : decode cX10_replyArrives 1 = .ok (.getfield 219, 3) := by decide +kernel
theorem dX10_replyArrives_4 : decode cX10_replyArrives 4 = .ok (.istore_n 2, 1) := by decide +kernel
theorem dX10_replyArrives_5 : decode cX10_replyArrives 5 = .ok (.aload_n 1, 1) := by decide +kernel
theorem dX10_replyArrives_6 : decode cX10_replyArrives 6 = .ok (.getfield 311, 3) := by decide +kernel
theorem dX10_replyArrives_9 : decode cX10_replyArrives 9 = .ok (.iload_n 2, 1) := by decide +kernel
theorem dX10_replyArrives_10 : decode cX10_replyArrives 10 = .ok (.invokestatic 256, 3) := by decide +kernel
theorem dX10_replyArrives_13 : decode cX10_replyArrives 13 = .ok (.istore_n 3, 1) := by decide +kernel
theorem dX10_replyArrives_14 : decode cX10_replyArrives 14 = .ok (.aload_n 0, 1) := by decide +kernel
theorem dX10_replyArrives_15 : decode cX10_replyArrives 15 = .ok (.iload_n 2, 1) := by decide +kernel
theorem dX10_replyArrives_16 : decode cX10_replyArrives 16 = .ok (.invokevirtual 102, 3) := by decide +kernel
theorem dX10_replyArrives_19 : decode cX10_replyArrives 19 = .ok (.getfield 72, 3) := by decide +kernel
theorem dX10_replyArrives_22 : decode cX10_replyArrives 22 = .ok (.aload_n 1, 1) := by decide +kernel
theorem dX10_replyArrives_23 : decode cX10_replyArrives 23 = .ok (.getfield 311, 3) := by decide +kernel
theorem dX10_replyArrives_26 : decode cX10_replyArrives 26 = .ok (.iload_n 3, 1) := by decide +kernel
theorem dX10_replyArrives_27 : decode cX10_replyArrives 27 = .ok (.invokestatic 314, 3) := by decide +kernel
theorem dX10_replyArrives_30 : decode cX10_replyArrives 30 = .ok (.invokevirtual 316, 3) := by decide +kernel
theorem dX10_replyArrives_33 : decode cX10_replyArrives 33 = .ok (.iload_n 3, 1) := by decide +kernel
theorem dX10_replyArrives_34 : decode cX10_replyArrives 34 = .ok (.ifCond .le 12, 3) := by decide +kernel
theorem dX10_replyArrives_37 : decode cX10_replyArrives 37 = .ok (.aload_n 0, 1) := by decide +kernel
theorem dX10_replyArrives_38 : decode cX10_replyArrives 38 = .ok (.iload_n 2, 1) := by decide +kernel
theorem dX10_replyArrives_39 : decode cX10_replyArrives 39 = .ok (.aload_n 1, 1) := by decide +kernel
theorem dX10_replyArrives_40 : decode cX10_replyArrives 40 = .ok (.getfield 311, 3) := by decide +kernel
theorem dX10_replyArrives_43 : decode cX10_replyArrives 43 = .ok (.invokevirtual 342, 3) := by decide +kernel
theorem dX10_replyArrives_46 : decode cX10_replyArrives 46 = .ok (.aload_n 1, 1) := by decide +kernel
theorem dX10_replyArrives_47 : decode cX10_replyArrives 47 = .ok (.getfield 311, 3) := by decide +kernel
theorem dX10_replyArrives_50 : decode cX10_replyArrives 50 = .ok (.iload_n 3, 1) := by decide +kernel
theorem dX10_replyArrives_51 : decode cX10_replyArrives 51 = .ok (.iconst 1, 1) := by decide +kernel
theorem dX10_replyArrives_52 : decode cX10_replyArrives 52 = .ok (.iadd, 1) := by decide +kernel
theorem dX10_replyArrives_53 : decode cX10_replyArrives 53 = .ok (.invokestatic 314, 3) := by decide +kernel
theorem dX10_replyArrives_56 : decode cX10_replyArrives 56 = .ok (.lstore 4, 2) := by decide +kernel
theorem dX10_replyArrives_58 : decode cX10_replyArrives 58 = .ok (.iconst 0, 1) := by decide +kernel
theorem dX10_replyArrives_59 : decode cX10_replyArrives 59 = .ok (.istore 6, 2) := by decide +kernel
theorem dX10_replyArrives_61 : decode cX10_replyArrives 61 = .ok (.iload 6, 2) := by decide +kernel
theorem dX10_replyArrives_63 : decode cX10_replyArrives 63 = .ok (.bipush 8, 2) := by decide +kernel
theorem dX10_replyArrives_65 : decode cX10_replyArrives 65 = .ok (.if_icmp .ge 57, 3) := by decide +kernel
theorem dX10_replyArrives_68 : decode cX10_replyArrives 68 = .ok (.iload 6, 2) := by decide +kernel
theorem dX10_replyArrives_70 : decode cX10_replyArrives 70 = .ok (.iload_n 2, 1) := by decide +kernel
theorem dX10_replyArrives_71 : decode cX10_replyArrives 71 = .ok (.if_icmp .eq 45, 3) := by decide +kernel
theorem dX10_replyArrives_74 : decode cX10_replyArrives 74 = .ok (.aload_n 0, 1) := by decide +kernel
theorem dX10_replyArrives_75 : decode cX10_replyArrives 75 = .ok (.iload 6, 2) := by decide +kernel
theorem dX10_replyArrives_77 : decode cX10_replyArrives 77 = .ok (.aload_n 1, 1) := by decide +kernel
theorem dX10_replyArrives_78 : decode cX10_replyArrives 78 = .ok (.getfield 216, 3) := by decide +kernel
theorem dX10_replyArrives_81 : decode cX10_replyArrives 81 = .ok (.invokevirtual 320, 3) := by decide +kernel
theorem dX10_replyArrives_84 : decode cX10_replyArrives 84 = .ok (.ifCond .eq 32, 3) := by decide +kernel
theorem dX10_replyArrives_87 : decode cX10_replyArrives 87 = .ok (.lload 4, 2) := by decide +kernel
theorem dX10_replyArrives_89 : decode cX10_replyArrives 89 = .ok (.iload 6, 2) := by decide +kernel
theorem dX10_replyArrives_91 : decode cX10_replyArrives 91 = .ok (.invokestatic 323, 3) := by decide +kernel
theorem dX10_replyArrives_94 : decode cX10_replyArrives 94 = .ok (.ifCond .ne 22, 3) := by decide +kernel
theorem dX10_replyArrives_97 : decode cX10_replyArrives 97 = .ok (.aload_n 0, 1) := by decide +kernel
theorem dX10_replyArrives_98 : decode cX10_replyArrives 98 = .ok (.iload 6, 2) := by decide +kernel
theorem dX10_replyArrives_100 : decode cX10_replyArrives 100 = .ok (.invokevirtual 102, 3) := by decide +kernel
theorem dX10_replyArrives_103 : decode cX10_replyArrives 103 = .ok (.getfield 72, 3) := by decide +kernel
theorem dX10_replyArrives_106 : decode cX10_replyArrives 106 = .ok (.iload 6, 2) := by decide +kernel
theorem dX10_replyArrives_108 : decode cX10_replyArrives 108 = .ok (.lload 4, 2) := by decide +kernel
theorem dX10_replyArrives_110 : decode cX10_replyArrives 110 = .ok (.invokestatic 327, 3) := by decide +kernel
theorem dX10_replyArrives_113 : decode cX10_replyArrives 113 = .ok (.invokevirtual 316, 3) := by decide +kernel
theorem dX10_replyArrives_116 : decode cX10_replyArrives 116 = .ok (.iinc 6 1, 3) := by decide +kernel
theorem dX10_replyArrives_119 : decode cX10_replyArrives 119 = .ok (.goto (-58), 3) := by decide +kernel
theorem dX10_replyArrives_122 : decode cX10_replyArrives 122 = .ok (.return_, 1) := by decide +kernel
theorem dX10_errorArrives_0 : decode cX10_errorArrives 0 = .ok (.aload_n 1, 1) := by decide +kernel
theorem dX10_errorArrives_1 : decode cX10_errorArrives 1 = .ok (.getfield 219, 3) := by decide +kernel
theorem dX10_errorArrives_4 : decode cX10_errorArrives 4 = .ok (.istore_n 2, 1) := by decide +kernel
theorem dX10_errorArrives_5 : decode cX10_errorArrives 5 = .ok (.aload_n 1, 1) := by decide +kernel
theorem dX10_errorArrives_6 : decode cX10_errorArrives 6 = .ok (.getfield 311, 3) := by decide +kernel
theorem dX10_errorArrives_9 : decode cX10_errorArrives 9 = .ok (.iconst 2, 1) := by decide +kernel
theorem dX10_errorArrives_10 : decode cX10_errorArrives 10 = .ok (.invokestatic 259, 3) := by decide +kernel
theorem dX10_errorArrives_13 : decode cX10_errorArrives 13 = .ok (.istore_n 3, 1) := by decide +kernel
theorem dX10_errorArrives_14 : decode cX10_errorArrives 14 = .ok (.aload_n 0, 1) := by decide +kernel
theorem dX10_errorArrives_15 : decode cX10_errorArrives 15 = .ok (.iload_n 2, 1) := by decide +kernel
theorem dX10_errorArrives_16 : decode cX10_errorArrives 16 = .ok (.invokevirtual 102, 3) := by decide +kernel
theorem dX10_errorArrives_19 : decode cX10_errorArrives 19 = .ok (.getfield 72, 3) := by decide +kernel
theorem dX10_errorArrives_22 : decode cX10_errorArrives 22 = .ok (.aload_n 1, 1) := by decide +kernel
theorem dX10_errorArrives_23 : decode cX10_errorArrives 23 = .ok (.getfield 301, 3) := by decide +kernel
theorem dX10_errorArrives_26 : decode cX10_errorArrives 26 = .ok (.invokevirtual 298, 3) := by decide +kernel
theorem dX10_errorArrives_29 : decode cX10_errorArrives 29 = .ok (.iload_n 3, 1) := by decide +kernel
theorem dX10_errorArrives_30 : decode cX10_errorArrives 30 = .ok (.iconst (-1), 1) := by decide +kernel
theorem dX10_errorArrives_31 : decode cX10_errorArrives 31 = .ok (.if_icmp .ne 18, 3) := by decide +kernel
theorem dX10_errorArrives_34 : decode cX10_errorArrives 34 = .ok (.aload_n 0, 1) := by decide +kernel
theorem dX10_errorArrives_35 : decode cX10_errorArrives 35 = .ok (.iload_n 2, 1) := by decide +kernel
theorem dX10_errorArrives_36 : decode cX10_errorArrives 36 = .ok (.invokevirtual 102, 3) := by decide +kernel
theorem dX10_errorArrives_39 : decode cX10_errorArrives 39 = .ok (.aload_n 1, 1) := by decide +kernel
theorem dX10_errorArrives_40 : decode cX10_errorArrives 40 = .ok (.getfield 301, 3) := by decide +kernel
theorem dX10_errorArrives_43 : decode cX10_errorArrives 43 = .ok (.putfield 132, 3) := by decide +kernel
theorem dX10_errorArrives_46 : decode cX10_errorArrives 46 = .ok (.goto 23, 3) := by decide +kernel
