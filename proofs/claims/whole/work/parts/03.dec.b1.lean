theorem dX10_errorArrives_49 : decode cX10_errorArrives 49 = .ok (.aload_n 0, 1) := by decide +kernel
theorem dX10_errorArrives_50 : decode cX10_errorArrives 50 = .ok (.iconst 3, 1) := by decide +kernel
theorem dX10_errorArrives_51 : decode cX10_errorArrives 51 = .ok (.iload_n 2, 1) := by decide +kernel
theorem dX10_errorArrives_52 : decode cX10_errorArrives 52 = .ok (.iload_n 3, 1) := by decide +kernel
theorem dX10_errorArrives_53 : decode cX10_errorArrives 53 = .ok (.aload_n 1, 1) := by decide +kernel
theorem dX10_errorArrives_54 : decode cX10_errorArrives 54 = .ok (.getfield 301, 3) := by decide +kernel
theorem dX10_errorArrives_57 : decode cX10_errorArrives 57 = .ok (.aload_n 1, 1) := by decide +kernel
theorem dX10_errorArrives_58 : decode cX10_errorArrives 58 = .ok (.getfield 311, 3) := by decide +kernel
theorem dX10_errorArrives_61 : decode cX10_errorArrives 61 = .ok (.iconst 1, 1) := by decide +kernel
theorem dX10_errorArrives_62 : decode cX10_errorArrives 62 = .ok (.invokestatic 314, 3) := by decide +kernel
theorem dX10_errorArrives_65 : decode cX10_errorArrives 65 = .ok (.invokevirtual 250, 3) := by decide +kernel
theorem dX10_errorArrives_68 : decode cX10_errorArrives 68 = .ok (.pop, 1) := by decide +kernel
theorem dX10_errorArrives_69 : decode cX10_errorArrives 69 = .ok (.iconst 0, 1) := by decide +kernel
theorem dX10_errorArrives_70 : decode cX10_errorArrives 70 = .ok (.istore 4, 2) := by decide +kernel
theorem dX10_errorArrives_72 : decode cX10_errorArrives 72 = .ok (.iload 4, 2) := by decide +kernel
theorem dX10_errorArrives_74 : decode cX10_errorArrives 74 = .ok (.bipush 8, 2) := by decide +kernel
theorem dX10_errorArrives_76 : decode cX10_errorArrives 76 = .ok (.if_icmp .ge 44, 3) := by decide +kernel
theorem dX10_errorArrives_79 : decode cX10_errorArrives 79 = .ok (.iload 4, 2) := by decide +kernel
theorem dX10_errorArrives_81 : decode cX10_errorArrives 81 = .ok (.iload_n 2, 1) := by decide +kernel
theorem dX10_errorArrives_82 : decode cX10_errorArrives 82 = .ok (.if_icmp .eq 32, 3) := by decide +kernel
theorem dX10_errorArrives_85 : decode cX10_errorArrives 85 = .ok (.aload_n 0, 1) := by decide +kernel
theorem dX10_errorArrives_86 : decode cX10_errorArrives 86 = .ok (.iload 4, 2) := by decide +kernel
theorem dX10_errorArrives_88 : decode cX10_errorArrives 88 = .ok (.aload_n 1, 1) := by decide +kernel
theorem dX10_errorArrives_89 : decode cX10_errorArrives 89 = .ok (.getfield 216, 3) := by decide +kernel
theorem dX10_errorArrives_92 : decode cX10_errorArrives 92 = .ok (.invokevirtual 320, 3) := by decide +kernel
theorem dX10_errorArrives_95 : decode cX10_errorArrives 95 = .ok (.ifCond .eq 19, 3) := by decide +kernel
theorem dX10_errorArrives_98 : decode cX10_errorArrives 98 = .ok (.aload_n 0, 1) := by decide +kernel
theorem dX10_errorArrives_99 : decode cX10_errorArrives 99 = .ok (.iload 4, 2) := by decide +kernel
theorem dX10_errorArrives_101 : decode cX10_errorArrives 101 = .ok (.invokevirtual 102, 3) := by decide +kernel
theorem dX10_errorArrives_104 : decode cX10_errorArrives 104 = .ok (.getfield 72, 3) := by decide +kernel
theorem dX10_errorArrives_107 : decode cX10_errorArrives 107 = .ok (.aload_n 1, 1) := by decide +kernel
theorem dX10_errorArrives_108 : decode cX10_errorArrives 108 = .ok (.getfield 301, 3) := by decide +kernel
theorem dX10_errorArrives_111 : decode cX10_errorArrives 111 = .ok (.invokevirtual 298, 3) := by decide +kernel
theorem dX10_errorArrives_114 : decode cX10_errorArrives 114 = .ok (.iinc 4 1, 3) := by decide +kernel
theorem dX10_errorArrives_117 : decode cX10_errorArrives 117 = .ok (.goto (-45), 3) := by decide +kernel
theorem dX10_errorArrives_120 : decode cX10_errorArrives 120 = .ok (.return_, 1) := by decide +kernel
theorem dX10_drain_0 : decode cX10_drain 0 = .ok (.aload_n 0, 1) := by decide +kernel
theorem dX10_drain_1 : decode cX10_drain 1 = .ok (.iload_n 1, 1) := by decide +kernel
theorem dX10_drain_2 : decode cX10_drain 2 = .ok (.invokevirtual 102, 3) := by decide +kernel
theorem dX10_drain_5 : decode cX10_drain 5 = .ok (.astore_n 2, 1) := by decide +kernel
theorem dX10_drain_6 : decode cX10_drain 6 = .ok (.aload_n 2, 1) := by decide +kernel
theorem dX10_drain_7 : decode cX10_drain 7 = .ok (.getfield 126, 3) := by decide +kernel
theorem dX10_drain_10 : decode cX10_drain 10 = .ok (.istore_n 3, 1) := by decide +kernel
theorem dX10_drain_11 : decode cX10_drain 11 = .ok (.aload_n 2, 1) := by decide +kernel
theorem dX10_drain_12 : decode cX10_drain 12 = .ok (.iconst 0, 1) := by decide +kernel
theorem dX10_drain_13 : decode cX10_drain 13 = .ok (.putfield 126, 3) := by decide +kernel
theorem dX10_drain_16 : decode cX10_drain 16 = .ok (.iconst 0, 1) := by decide +kernel
theorem dX10_drain_17 : decode cX10_drain 17 = .ok (.istore 4, 2) := by decide +kernel
theorem dX10_drain_19 : decode cX10_drain 19 = .ok (.iload 4, 2) := by decide +kernel
theorem dX10_drain_21 : decode cX10_drain 21 = .ok (.iload_n 3, 1) := by decide +kernel
theorem dX10_drain_22 : decode cX10_drain 22 = .ok (.if_icmp .ge 115, 3) := by decide +kernel
theorem dX10_drain_25 : decode cX10_drain 25 = .ok (.iload 4, 2) := by decide +kernel
theorem dX10_drain_27 : decode cX10_drain 27 = .ok (.iconst 4, 1) := by decide +kernel
theorem dX10_drain_28 : decode cX10_drain 28 = .ok (.if_icmp .ge 109, 3) := by decide +kernel
theorem dX10_drain_31 : decode cX10_drain 31 = .ok (.aload_n 0, 1) := by decide +kernel
theorem dX10_drain_32 : decode cX10_drain 32 = .ok (.aload_n 2, 1) := by decide +kernel
theorem dX10_drain_33 : decode cX10_drain 33 = .ok (.getfield 277, 3) := by decide +kernel
theorem dX10_drain_36 : decode cX10_drain 36 = .ok (.iload 4, 2) := by decide +kernel
theorem dX10_drain_38 : decode cX10_drain 38 = .ok (.iaload, 1) := by decide +kernel
theorem dX10_drain_39 : decode cX10_drain 39 = .ok (.invokevirtual 155, 3) := by decide +kernel
theorem dX10_drain_42 : decode cX10_drain 42 = .ok (.astore 5, 2) := by decide +kernel
theorem dX10_drain_44 : decode cX10_drain 44 = .ok (.aload_n 2, 1) := by decide +kernel
theorem dX10_drain_45 : decode cX10_drain 45 = .ok (.getfield 72, 3) := by decide +kernel
theorem dX10_drain_48 : decode cX10_drain 48 = .ok (.aload 5, 2) := by decide +kernel
theorem dX10_drain_50 : decode cX10_drain 50 = .ok (.getfield 162, 3) := by decide +kernel
theorem dX10_drain_53 : decode cX10_drain 53 = .ok (.invokevirtual 106, 3) := by decide +kernel
theorem dX10_drain_56 : decode cX10_drain 56 = .ok (.lstore 6, 2) := by decide +kernel
theorem dX10_drain_58 : decode cX10_drain 58 = .ok (.lload 6, 2) := by decide +kernel
theorem dX10_drain_60 : decode cX10_drain 60 = .ok (.lconst 0, 1) := by decide +kernel
theorem dX10_drain_61 : decode cX10_drain 61 = .ok (.lcmp, 1) := by decide +kernel
theorem dX10_drain_62 : decode cX10_drain 62 = .ok (.ifCond .eq 14, 3) := by decide +kernel
theorem dX10_drain_65 : decode cX10_drain 65 = .ok (.aload_n 0, 1) := by decide +kernel
theorem dX10_drain_66 : decode cX10_drain 66 = .ok (.aload 5, 2) := by decide +kernel
theorem dX10_drain_68 : decode cX10_drain 68 = .ok (.lload 6, 2) := by decide +kernel
theorem dX10_drain_70 : decode cX10_drain 70 = .ok (.invokevirtual 270, 3) := by decide +kernel
theorem dX10_drain_73 : decode cX10_drain 73 = .ok (.goto 58, 3) := by decide +kernel
theorem dX10_drain_76 : decode cX10_drain 76 = .ok (.aload_n 0, 1) := by decide +kernel
theorem dX10_drain_77 : decode cX10_drain 77 = .ok (.getfield 57, 3) := by decide +kernel
theorem dX10_drain_80 : decode cX10_drain 80 = .ok (.aload 5, 2) := by decide +kernel
theorem dX10_drain_82 : decode cX10_drain 82 = .ok (.getfield 274, 3) := by decide +kernel
theorem dX10_drain_85 : decode cX10_drain 85 = .ok (.isub, 1) := by decide +kernel
theorem dX10_drain_86 : decode cX10_drain 86 = .ok (.aload_n 0, 1) := by decide +kernel
theorem dX10_drain_87 : decode cX10_drain 87 = .ok (.getfield 9, 3) := by decide +kernel
theorem dX10_drain_90 : decode cX10_drain 90 = .ok (.iconst 5, 1) := by decide +kernel
theorem dX10_drain_91 : decode cX10_drain 91 = .ok (.iaload, 1) := by decide +kernel
theorem dX10_drain_92 : decode cX10_drain 92 = .ok (.if_icmp .lt 15, 3) := by decide +kernel
theorem dX10_drain_95 : decode cX10_drain 95 = .ok (.aload_n 0, 1) := by decide +kernel
theorem dX10_drain_96 : decode cX10_drain 96 = .ok (.aload 5, 2) := by decide +kernel
theorem dX10_drain_98 : decode cX10_drain 98 = .ok (.iconst 3, 1) := by decide +kernel
theorem dX10_drain_99 : decode cX10_drain 99 = .ok (.bipush 10, 2) := by decide +kernel
theorem dX10_drain_101 : decode cX10_drain 101 = .ok (.invokevirtual 266, 3) := by decide +kernel
theorem dX10_drain_104 : decode cX10_drain 104 = .ok (.goto 27, 3) := by decide +kernel
theorem dX10_drain_107 : decode cX10_drain 107 = .ok (.aload_n 2, 1) := by decide +kernel
theorem dX10_drain_108 : decode cX10_drain 108 = .ok (.getfield 277, 3) := by decide +kernel
theorem dX10_drain_111 : decode cX10_drain 111 = .ok (.aload_n 2, 1) := by decide +kernel
theorem dX10_drain_112 : decode cX10_drain 112 = .ok (.getfield 126, 3) := by decide +kernel
theorem dX10_drain_115 : decode cX10_drain 115 = .ok (.aload 5, 2) := by decide +kernel
theorem dX10_drain_117 : decode cX10_drain 117 = .ok (.getfield 200, 3) := by decide +kernel
theorem dX10_drain_120 : decode cX10_drain 120 = .ok (.iastore, 1) := by decide +kernel
theorem dX10_drain_121 : decode cX10_drain 121 = .ok (.aload_n 2, 1) := by decide +kernel
theorem dX10_drain_122 : decode cX10_drain 122 = .ok (.dup, 1) := by decide +kernel
theorem dX10_drain_123 : decode cX10_drain 123 = .ok (.getfield 126, 3) := by decide +kernel
theorem dX10_drain_126 : decode cX10_drain 126 = .ok (.iconst 1, 1) := by decide +kernel
theorem dX10_drain_127 : decode cX10_drain 127 = .ok (.iadd, 1) := by decide +kernel
theorem dX10_drain_128 : decode cX10_drain 128 = .ok (.putfield 126, 3) := by decide +kernel
theorem dX10_drain_131 : decode cX10_drain 131 = .ok (.iinc 4 1, 3) := by decide +kernel
theorem dX10_drain_134 : decode cX10_drain 134 = .ok (.goto (-115), 3) := by decide +kernel
theorem dX10_drain_137 : decode cX10_drain 137 = .ok (.return_, 1) := by decide +kernel
theorem dX10_askOn_0 : decode cX10_askOn 0 = .ok (.aload_n 0, 1) := by decide +kernel
theorem dX10_askOn_1 : decode cX10_askOn 1 = .ok (.iload_n 1, 1) := by decide +kernel
theorem dX10_askOn_2 : decode cX10_askOn 2 = .ok (.invokevirtual 102, 3) := by decide +kernel
theorem dX10_askOn_5 : decode cX10_askOn 5 = .ok (.astore_n 2, 1) := by decide +kernel
theorem dX10_askOn_6 : decode cX10_askOn 6 = .ok (.iconst 0, 1) := by decide +kernel
theorem dX10_askOn_7 : decode cX10_askOn 7 = .ok (.istore_n 3, 1) := by decide +kernel
theorem dX10_askOn_8 : decode cX10_askOn 8 = .ok (.iload_n 3, 1) := by decide +kernel
theorem dX10_askOn_9 : decode cX10_askOn 9 = .ok (.bipush 8, 2) := by decide +kernel
theorem dX10_askOn_11 : decode cX10_askOn 11 = .ok (.if_icmp .ge 73, 3) := by decide +kernel
theorem dX10_askOn_14 : decode cX10_askOn 14 = .ok (.aload_n 2, 1) := by decide +kernel
theorem dX10_askOn_15 : decode cX10_askOn 15 = .ok (.getfield 138, 3) := by decide +kernel
theorem dX10_askOn_18 : decode cX10_askOn 18 = .ok (.iload_n 3, 1) := by decide +kernel
theorem dX10_askOn_19 : decode cX10_askOn 19 = .ok (.ishr, 1) := by decide +kernel
theorem dX10_askOn_20 : decode cX10_askOn 20 = .ok (.iconst 1, 1) := by decide +kernel
theorem dX10_askOn_21 : decode cX10_askOn 21 = .ok (.iand, 1) := by decide +kernel
theorem dX10_askOn_22 : decode cX10_askOn 22 = .ok (.ifCond .eq 56, 3) := by decide +kernel
theorem dX10_askOn_25 : decode cX10_askOn 25 = .ok (.aload_n 0, 1) := by decide +kernel
theorem dX10_askOn_26 : decode cX10_askOn 26 = .ok (.aload_n 2, 1) := by decide +kernel
theorem dX10_askOn_27 : decode cX10_askOn 27 = .ok (.iload_n 3, 1) := by decide +kernel
theorem dX10_askOn_28 : decode cX10_askOn 28 = .ok (.invokevirtual 362, 3) := by decide +kernel
theorem dX10_askOn_31 : decode cX10_askOn 31 = .ok (.ifCond .ne 20, 3) := by decide +kernel
theorem dX10_askOn_34 : decode cX10_askOn 34 = .ok (.aload_n 2, 1) := by decide +kernel
theorem dX10_askOn_35 : decode cX10_askOn 35 = .ok (.dup, 1) := by decide +kernel
theorem dX10_askOn_36 : decode cX10_askOn 36 = .ok (.getfield 138, 3) := by decide +kernel
theorem dX10_askOn_39 : decode cX10_askOn 39 = .ok (.iconst 1, 1) := by decide +kernel
theorem dX10_askOn_40 : decode cX10_askOn 40 = .ok (.iload_n 3, 1) := by decide +kernel
theorem dX10_askOn_41 : decode cX10_askOn 41 = .ok (.ishl, 1) := by decide +kernel
theorem dX10_askOn_42 : decode cX10_askOn 42 = .ok (.iconst (-1), 1) := by decide +kernel
theorem dX10_askOn_43 : decode cX10_askOn 43 = .ok (.ixor, 1) := by decide +kernel
theorem dX10_askOn_44 : decode cX10_askOn 44 = .ok (.iand, 1) := by decide +kernel
theorem dX10_askOn_45 : decode cX10_askOn 45 = .ok (.putfield 138, 3) := by decide +kernel
theorem dX10_askOn_48 : decode cX10_askOn 48 = .ok (.goto 30, 3) := by decide +kernel
theorem dX10_askOn_51 : decode cX10_askOn 51 = .ok (.aload_n 0, 1) := by decide +kernel
theorem dX10_askOn_52 : decode cX10_askOn 52 = .ok (.getfield 57, 3) := by decide +kernel
theorem dX10_askOn_55 : decode cX10_askOn 55 = .ok (.aload_n 2, 1) := by decide +kernel
theorem dX10_askOn_56 : decode cX10_askOn 56 = .ok (.getfield 284, 3) := by decide +kernel
theorem dX10_askOn_59 : decode cX10_askOn 59 = .ok (.iload_n 3, 1) := by decide +kernel
theorem dX10_askOn_60 : decode cX10_askOn 60 = .ok (.iaload, 1) := by decide +kernel
theorem dX10_askOn_61 : decode cX10_askOn 61 = .ok (.isub, 1) := by decide +kernel
theorem dX10_askOn_62 : decode cX10_askOn 62 = .ok (.aload_n 0, 1) := by decide +kernel
theorem dX10_askOn_63 : decode cX10_askOn 63 = .ok (.getfield 9, 3) := by decide +kernel
theorem dX10_askOn_66 : decode cX10_askOn 66 = .ok (.bipush 6, 2) := by decide +kernel
theorem dX10_askOn_68 : decode cX10_askOn 68 = .ok (.iaload, 1) := by decide +kernel
theorem dX10_askOn_69 : decode cX10_askOn 69 = .ok (.if_icmp .lt 9, 3) := by decide +kernel
theorem dX10_askOn_72 : decode cX10_askOn 72 = .ok (.aload_n 0, 1) := by decide +kernel
theorem dX10_askOn_73 : decode cX10_askOn 73 = .ok (.iload_n 1, 1) := by decide +kernel
theorem dX10_askOn_74 : decode cX10_askOn 74 = .ok (.iload_n 3, 1) := by decide +kernel
theorem dX10_askOn_75 : decode cX10_askOn 75 = .ok (.invokevirtual 280, 3) := by decide +kernel
theorem dX10_askOn_78 : decode cX10_askOn 78 = .ok (.iinc 3 1, 3) := by decide +kernel
theorem dX10_askOn_81 : decode cX10_askOn 81 = .ok (.goto (-73), 3) := by decide +kernel
theorem dX10_askOn_84 : decode cX10_askOn 84 = .ok (.return_, 1) := by decide +kernel
theorem dX10_isNeeded_0 : decode cX10_isNeeded 0 = .ok (.iconst 0, 1) := by decide +kernel
theorem dX10_isNeeded_1 : decode cX10_isNeeded 1 = .ok (.istore_n 3, 1) := by decide +kernel
theorem dX10_isNeeded_2 : decode cX10_isNeeded 2 = .ok (.iload_n 3, 1) := by decide +kernel
theorem dX10_isNeeded_3 : decode cX10_isNeeded 3 = .ok (.aload_n 1, 1) := by decide +kernel
theorem dX10_isNeeded_4 : decode cX10_isNeeded 4 = .ok (.getfield 126, 3) := by decide +kernel
theorem dX10_isNeeded_7 : decode cX10_isNeeded 7 = .ok (.if_icmp .ge 33, 3) := by decide +kernel
theorem dX10_isNeeded_10 : decode cX10_isNeeded 10 = .ok (.iload_n 3, 1) := by decide +kernel
theorem dX10_isNeeded_11 : decode cX10_isNeeded 11 = .ok (.iconst 4, 1) := by decide +kernel
theorem dX10_isNeeded_12 : decode cX10_isNeeded 12 = .ok (.if_icmp .ge 28, 3) := by decide +kernel
theorem dX10_isNeeded_15 : decode cX10_isNeeded 15 = .ok (.aload_n 0, 1) := by decide +kernel
theorem dX10_isNeeded_16 : decode cX10_isNeeded 16 = .ok (.aload_n 1, 1) := by decide +kernel
theorem dX10_isNeeded_17 : decode cX10_isNeeded 17 = .ok (.getfield 277, 3) := by decide +kernel
theorem dX10_isNeeded_20 : decode cX10_isNeeded 20 = .ok (.iload_n 3, 1) := by decide +kernel
theorem dX10_isNeeded_21 : decode cX10_isNeeded 21 = .ok (.iaload, 1) := by decide +kernel
theorem dX10_isNeeded_22 : decode cX10_isNeeded 22 = .ok (.invokevirtual 155, 3) := by decide +kernel
theorem dX10_isNeeded_25 : decode cX10_isNeeded 25 = .ok (.getfield 162, 3) := by decide +kernel
theorem dX10_isNeeded_28 : decode cX10_isNeeded 28 = .ok (.iload_n 2, 1) := by decide +kernel
theorem dX10_isNeeded_29 : decode cX10_isNeeded 29 = .ok (.if_icmp .ne 5, 3) := by decide +kernel
theorem dX10_isNeeded_32 : decode cX10_isNeeded 32 = .ok (.iconst 1, 1) := by decide +kernel
theorem dX10_isNeeded_33 : decode cX10_isNeeded 33 = .ok (.ireturn, 1) := by decide +kernel
theorem dX10_isNeeded_34 : decode cX10_isNeeded 34 = .ok (.iinc 3 1, 3) := by decide +kernel
theorem dX10_isNeeded_37 : decode cX10_isNeeded 37 = .ok (.goto (-35), 3) := by decide +kernel
theorem dX10_isNeeded_40 : decode cX10_isNeeded 40 = .ok (.iconst 0, 1) := by decide +kernel
theorem dX10_isNeeded_41 : decode cX10_isNeeded 41 = .ok (.ireturn, 1) := by decide +kernel
