theorem dX6_readNumber_10 : decode cX6_readNumber 10 = .ok (.aload_n 0, 1) := by decide +kernel
theorem dX6_readNumber_11 : decode cX6_readNumber 11 = .ok (.getfield 72, 3) := by decide +kernel
theorem dX6_readNumber_14 : decode cX6_readNumber 14 = .ok (.invokevirtual 68, 3) := by decide +kernel
theorem dX6_readNumber_17 : decode cX6_readNumber 17 = .ok (.iconst (-1), 1) := by decide +kernel
theorem dX6_readNumber_18 : decode cX6_readNumber 18 = .ok (.ireturn, 1) := by decide +kernel
theorem dX6_readNumber_19 : decode cX6_readNumber 19 = .ok (.iconst 0, 1) := by decide +kernel
theorem dX6_readNumber_20 : decode cX6_readNumber 20 = .ok (.istore_n 3, 1) := by decide +kernel
theorem dX6_readNumber_21 : decode cX6_readNumber 21 = .ok (.aload_n 0, 1) := by decide +kernel
theorem dX6_readNumber_22 : decode cX6_readNumber 22 = .ok (.getfield 72, 3) := by decide +kernel
theorem dX6_readNumber_25 : decode cX6_readNumber 25 = .ok (.istore 4, 2) := by decide +kernel
theorem dX6_readNumber_27 : decode cX6_readNumber 27 = .ok (.iload 4, 2) := by decide +kernel
theorem dX6_readNumber_29 : decode cX6_readNumber 29 = .ok (.aload_n 0, 1) := by decide +kernel
theorem dX6_readNumber_30 : decode cX6_readNumber 30 = .ok (.getfield 54, 3) := by decide +kernel
theorem dX6_readNumber_33 : decode cX6_readNumber 33 = .ok (.if_icmp .ge 27, 3) := by decide +kernel
theorem dX6_readNumber_36 : decode cX6_readNumber 36 = .ok (.bipush 10, 2) := by decide +kernel
theorem dX6_readNumber_38 : decode cX6_readNumber 38 = .ok (.iload_n 3, 1) := by decide +kernel
theorem dX6_readNumber_39 : decode cX6_readNumber 39 = .ok (.imul, 1) := by decide +kernel
theorem dX6_readNumber_40 : decode cX6_readNumber 40 = .ok (.aload_n 0, 1) := by decide +kernel
theorem dX6_readNumber_41 : decode cX6_readNumber 41 = .ok (.getfield 50, 3) := by decide +kernel
theorem dX6_readNumber_44 : decode cX6_readNumber 44 = .ok (.iload 4, 2) := by decide +kernel
theorem dX6_readNumber_46 : decode cX6_readNumber 46 = .ok (.invokevirtual 75, 3) := by decide +kernel
theorem dX6_readNumber_49 : decode cX6_readNumber 49 = .ok (.iadd, 1) := by decide +kernel
theorem dX6_readNumber_50 : decode cX6_readNumber 50 = .ok (.bipush 48, 2) := by decide +kernel
theorem dX6_readNumber_52 : decode cX6_readNumber 52 = .ok (.isub, 1) := by decide +kernel
theorem dX6_readNumber_53 : decode cX6_readNumber 53 = .ok (.istore_n 3, 1) := by decide +kernel
theorem dX6_readNumber_54 : decode cX6_readNumber 54 = .ok (.iinc 4 1, 3) := by decide +kernel
theorem dX6_readNumber_57 : decode cX6_readNumber 57 = .ok (.goto (-30), 3) := by decide +kernel
theorem dX6_readNumber_60 : decode cX6_readNumber 60 = .ok (.iload_n 1, 1) := by decide +kernel
theorem dX6_readNumber_61 : decode cX6_readNumber 61 = .ok (.ifCond .lt 13, 3) := by decide +kernel
theorem dX6_readNumber_64 : decode cX6_readNumber 64 = .ok (.iload_n 1, 1) := by decide +kernel
theorem dX6_readNumber_65 : decode cX6_readNumber 65 = .ok (.bipush 8, 2) := by decide +kernel
theorem dX6_readNumber_67 : decode cX6_readNumber 67 = .ok (.if_icmp .ge 7, 3) := by decide +kernel
theorem dX6_readNumber_70 : decode cX6_readNumber 70 = .ok (.iconst 1, 1) := by decide +kernel
theorem dX6_readNumber_71 : decode cX6_readNumber 71 = .ok (.goto 4, 3) := by decide +kernel
theorem dX6_readNumber_74 : decode cX6_readNumber 74 = .ok (.iconst 0, 1) := by decide +kernel
theorem dX6_readNumber_75 : decode cX6_readNumber 75 = .ok (.istore 4, 2) := by decide +kernel
theorem dX6_readNumber_77 : decode cX6_readNumber 77 = .ok (.iload 4, 2) := by decide +kernel
theorem dX6_readNumber_79 : decode cX6_readNumber 79 = .ok (.ifCond .eq 11, 3) := by decide +kernel
theorem dX6_readNumber_82 : decode cX6_readNumber 82 = .ok (.getstatic 109, 3) := by decide +kernel
theorem dX6_readNumber_85 : decode cX6_readNumber 85 = .ok (.iload_n 1, 1) := by decide +kernel
theorem dX6_readNumber_86 : decode cX6_readNumber 86 = .ok (.iaload, 1) := by decide +kernel
theorem dX6_readNumber_87 : decode cX6_readNumber 87 = .ok (.goto 4, 3) := by decide +kernel
theorem dX6_readNumber_90 : decode cX6_readNumber 90 = .ok (.iconst 0, 1) := by decide +kernel
theorem dX6_readNumber_91 : decode cX6_readNumber 91 = .ok (.istore 5, 2) := by decide +kernel
theorem dX6_readNumber_93 : decode cX6_readNumber 93 = .ok (.iload 4, 2) := by decide +kernel
theorem dX6_readNumber_95 : decode cX6_readNumber 95 = .ok (.ifCond .eq 11, 3) := by decide +kernel
theorem dX6_readNumber_98 : decode cX6_readNumber 98 = .ok (.getstatic 112, 3) := by decide +kernel
theorem dX6_readNumber_101 : decode cX6_readNumber 101 = .ok (.iload_n 1, 1) := by decide +kernel
theorem dX6_readNumber_102 : decode cX6_readNumber 102 = .ok (.iaload, 1) := by decide +kernel
theorem dX6_readNumber_103 : decode cX6_readNumber 103 = .ok (.goto 5, 3) := by decide +kernel
theorem dX6_readNumber_106 : decode cX6_readNumber 106 = .ok (.bipush 7, 2) := by decide +kernel
theorem dX6_readNumber_108 : decode cX6_readNumber 108 = .ok (.istore 6, 2) := by decide +kernel
theorem dX6_readNumber_110 : decode cX6_readNumber 110 = .ok (.iload_n 3, 1) := by decide +kernel
theorem dX6_readNumber_111 : decode cX6_readNumber 111 = .ok (.iload 5, 2) := by decide +kernel
theorem dX6_readNumber_113 : decode cX6_readNumber 113 = .ok (.if_icmp .lt 14, 3) := by decide +kernel
theorem dX6_readNumber_116 : decode cX6_readNumber 116 = .ok (.iload_n 3, 1) := by decide +kernel
theorem dX6_readNumber_117 : decode cX6_readNumber 117 = .ok (.iload 6, 2) := by decide +kernel
theorem dX6_readNumber_119 : decode cX6_readNumber 119 = .ok (.if_icmp .gt 8, 3) := by decide +kernel
theorem dX6_readNumber_122 : decode cX6_readNumber 122 = .ok (.iload_n 3, 1) := by decide +kernel
theorem dX6_readNumber_123 : decode cX6_readNumber 123 = .ok (.iload_n 2, 1) := by decide +kernel
theorem dX6_readNumber_124 : decode cX6_readNumber 124 = .ok (.if_icmp .ne 7, 3) := by decide +kernel
theorem dX6_readNumber_127 : decode cX6_readNumber 127 = .ok (.iconst 1, 1) := by decide +kernel
theorem dX6_readNumber_128 : decode cX6_readNumber 128 = .ok (.goto 4, 3) := by decide +kernel
theorem dX6_readNumber_131 : decode cX6_readNumber 131 = .ok (.iconst 0, 1) := by decide +kernel
theorem dX6_readNumber_132 : decode cX6_readNumber 132 = .ok (.istore 7, 2) := by decide +kernel
theorem dX6_readNumber_134 : decode cX6_readNumber 134 = .ok (.iload 7, 2) := by decide +kernel
theorem dX6_readNumber_136 : decode cX6_readNumber 136 = .ok (.ifCond .eq 19, 3) := by decide +kernel
theorem dX6_readNumber_139 : decode cX6_readNumber 139 = .ok (.aload_n 0, 1) := by decide +kernel
theorem dX6_readNumber_140 : decode cX6_readNumber 140 = .ok (.getfield 44, 3) := by decide +kernel
theorem dX6_readNumber_143 : decode cX6_readNumber 143 = .ok (.iconst (-1), 1) := by decide +kernel
theorem dX6_readNumber_144 : decode cX6_readNumber 144 = .ok (.if_icmp .ne 11, 3) := by decide +kernel
theorem dX6_readNumber_147 : decode cX6_readNumber 147 = .ok (.aload_n 0, 1) := by decide +kernel
theorem dX6_readNumber_148 : decode cX6_readNumber 148 = .ok (.aload_n 0, 1) := by decide +kernel
theorem dX6_readNumber_149 : decode cX6_readNumber 149 = .ok (.getfield 72, 3) := by decide +kernel
theorem dX6_readNumber_152 : decode cX6_readNumber 152 = .ok (.putfield 44, 3) := by decide +kernel
theorem dX6_readNumber_155 : decode cX6_readNumber 155 = .ok (.iload 4, 2) := by decide +kernel
theorem dX6_readNumber_157 : decode cX6_readNumber 157 = .ok (.ifCond .ne 29, 3) := by decide +kernel
theorem dX6_readNumber_160 : decode cX6_readNumber 160 = .ok (.iload_n 3, 1) := by decide +kernel
theorem dX6_readNumber_161 : decode cX6_readNumber 161 = .ok (.bipush 8, 2) := by decide +kernel
theorem dX6_readNumber_163 : decode cX6_readNumber 163 = .ok (.if_icmp .ge 23, 3) := by decide +kernel
theorem dX6_readNumber_166 : decode cX6_readNumber 166 = .ok (.aload_n 0, 1) := by decide +kernel
theorem dX6_readNumber_167 : decode cX6_readNumber 167 = .ok (.getfield 15, 3) := by decide +kernel
theorem dX6_readNumber_170 : decode cX6_readNumber 170 = .ok (.iload_n 3, 1) := by decide +kernel
theorem dX6_readNumber_171 : decode cX6_readNumber 171 = .ok (.iaload, 1) := by decide +kernel
theorem dX6_readNumber_172 : decode cX6_readNumber 172 = .ok (.iconst (-1), 1) := by decide +kernel
theorem dX6_readNumber_173 : decode cX6_readNumber 173 = .ok (.if_icmp .ne 13, 3) := by decide +kernel
theorem dX6_readNumber_176 : decode cX6_readNumber 176 = .ok (.aload_n 0, 1) := by decide +kernel
theorem dX6_readNumber_177 : decode cX6_readNumber 177 = .ok (.getfield 15, 3) := by decide +kernel
theorem dX6_readNumber_180 : decode cX6_readNumber 180 = .ok (.iload_n 3, 1) := by decide +kernel
theorem dX6_readNumber_181 : decode cX6_readNumber 181 = .ok (.aload_n 0, 1) := by decide +kernel
theorem dX6_readNumber_182 : decode cX6_readNumber 182 = .ok (.getfield 72, 3) := by decide +kernel
theorem dX6_readNumber_185 : decode cX6_readNumber 185 = .ok (.iastore, 1) := by decide +kernel
theorem dX6_readNumber_186 : decode cX6_readNumber 186 = .ok (.aload_n 0, 1) := by decide +kernel
theorem dX6_readNumber_187 : decode cX6_readNumber 187 = .ok (.invokevirtual 57, 3) := by decide +kernel
theorem dX6_readNumber_190 : decode cX6_readNumber 190 = .ok (.iload_n 3, 1) := by decide +kernel
theorem dX6_readNumber_191 : decode cX6_readNumber 191 = .ok (.ireturn, 1) := by decide +kernel
theorem dX6_tell_0 : decode cX6_tell 0 = .ok (.iload_n 1, 1) := by decide +kernel
theorem dX6_tell_1 : decode cX6_tell 1 = .ok (.ifCond .lt 19, 3) := by decide +kernel
theorem dX6_tell_4 : decode cX6_tell 4 = .ok (.iload_n 1, 1) := by decide +kernel
theorem dX6_tell_5 : decode cX6_tell 5 = .ok (.bipush 8, 2) := by decide +kernel
theorem dX6_tell_7 : decode cX6_tell 7 = .ok (.if_icmp .ge 13, 3) := by decide +kernel
theorem dX6_tell_10 : decode cX6_tell 10 = .ok (.aload_n 0, 1) := by decide +kernel
theorem dX6_tell_11 : decode cX6_tell 11 = .ok (.getfield 9, 3) := by decide +kernel
theorem dX6_tell_14 : decode cX6_tell 14 = .ok (.iload_n 1, 1) := by decide +kernel
theorem dX6_tell_15 : decode cX6_tell 15 = .ok (.iload_n 2, 1) := by decide +kernel
theorem dX6_tell_16 : decode cX6_tell 16 = .ok (.iastore, 1) := by decide +kernel
theorem dX6_tell_17 : decode cX6_tell 17 = .ok (.goto 59, 3) := by decide +kernel
theorem dX6_tell_20 : decode cX6_tell 20 = .ok (.iload_n 1, 1) := by decide +kernel
theorem dX6_tell_21 : decode cX6_tell 21 = .ok (.bipush 8, 2) := by decide +kernel
theorem dX6_tell_23 : decode cX6_tell 23 = .ok (.if_icmp .ne 20, 3) := by decide +kernel
theorem dX6_tell_26 : decode cX6_tell 26 = .ok (.aload_n 0, 1) := by decide +kernel
theorem dX6_tell_27 : decode cX6_tell 27 = .ok (.dup, 1) := by decide +kernel
theorem dX6_tell_28 : decode cX6_tell 28 = .ok (.getfield 27, 3) := by decide +kernel
theorem dX6_tell_31 : decode cX6_tell 31 = .ok (.iload_n 2, 1) := by decide +kernel
theorem dX6_tell_32 : decode cX6_tell 32 = .ok (.iload_n 3, 1) := by decide +kernel
theorem dX6_tell_33 : decode cX6_tell 33 = .ok (.invokestatic 115, 3) := by decide +kernel
theorem dX6_tell_36 : decode cX6_tell 36 = .ok (.lor, 1) := by decide +kernel
theorem dX6_tell_37 : decode cX6_tell 37 = .ok (.putfield 27, 3) := by decide +kernel
theorem dX6_tell_40 : decode cX6_tell 40 = .ok (.goto 36, 3) := by decide +kernel
theorem dX6_tell_43 : decode cX6_tell 43 = .ok (.iload_n 1, 1) := by decide +kernel
theorem dX6_tell_44 : decode cX6_tell 44 = .ok (.bipush 9, 2) := by decide +kernel
theorem dX6_tell_46 : decode cX6_tell 46 = .ok (.if_icmp .ne 18, 3) := by decide +kernel
theorem dX6_tell_49 : decode cX6_tell 49 = .ok (.aload_n 0, 1) := by decide +kernel
theorem dX6_tell_50 : decode cX6_tell 50 = .ok (.dup, 1) := by decide +kernel
theorem dX6_tell_51 : decode cX6_tell 51 = .ok (.getfield 31, 3) := by decide +kernel
theorem dX6_tell_54 : decode cX6_tell 54 = .ok (.iconst 1, 1) := by decide +kernel
theorem dX6_tell_55 : decode cX6_tell 55 = .ok (.iload_n 2, 1) := by decide +kernel
theorem dX6_tell_56 : decode cX6_tell 56 = .ok (.ishl, 1) := by decide +kernel
theorem dX6_tell_57 : decode cX6_tell 57 = .ok (.ior, 1) := by decide +kernel
theorem dX6_tell_58 : decode cX6_tell 58 = .ok (.putfield 31, 3) := by decide +kernel
theorem dX6_tell_61 : decode cX6_tell 61 = .ok (.goto 15, 3) := by decide +kernel
theorem dX6_tell_64 : decode cX6_tell 64 = .ok (.aload_n 0, 1) := by decide +kernel
theorem dX6_tell_65 : decode cX6_tell 65 = .ok (.dup, 1) := by decide +kernel
theorem dX6_tell_66 : decode cX6_tell 66 = .ok (.getfield 35, 3) := by decide +kernel
theorem dX6_tell_69 : decode cX6_tell 69 = .ok (.iconst 1, 1) := by decide +kernel
theorem dX6_tell_70 : decode cX6_tell 70 = .ok (.iload_n 2, 1) := by decide +kernel
theorem dX6_tell_71 : decode cX6_tell 71 = .ok (.ishl, 1) := by decide +kernel
theorem dX6_tell_72 : decode cX6_tell 72 = .ok (.ior, 1) := by decide +kernel
theorem dX6_tell_73 : decode cX6_tell 73 = .ok (.putfield 35, 3) := by decide +kernel
theorem dX6_tell_76 : decode cX6_tell 76 = .ok (.return_, 1) := by decide +kernel
theorem dX7_init_0 : decode cX7_init 0 = .ok (.aload_n 0, 1) := by decide +kernel
theorem dX7_init_1 : decode cX7_init 1 = .ok (.invokespecial 1, 3) := by decide +kernel
theorem dX7_init_4 : decode cX7_init 4 = .ok (.aload_n 0, 1) := by decide +kernel
theorem dX7_init_5 : decode cX7_init 5 = .ok (.iload_n 1, 1) := by decide +kernel
theorem dX7_init_6 : decode cX7_init 6 = .ok (.iconst 1, 1) := by decide +kernel
theorem dX7_init_7 : decode cX7_init 7 = .ok (.invokestatic 7, 3) := by decide +kernel
theorem dX7_init_10 : decode cX7_init 10 = .ok (.newarray .long, 2) := by decide +kernel
theorem dX7_init_12 : decode cX7_init 12 = .ok (.putfield 13, 3) := by decide +kernel
theorem dX7_init_15 : decode cX7_init 15 = .ok (.return_, 1) := by decide +kernel
theorem dX7_get_0 : decode cX7_get 0 = .ok (.iload_n 1, 1) := by decide +kernel
theorem dX7_get_1 : decode cX7_get 1 = .ok (.ifCond .lt 29, 3) := by decide +kernel
theorem dX7_get_4 : decode cX7_get 4 = .ok (.iload_n 1, 1) := by decide +kernel
theorem dX7_get_5 : decode cX7_get 5 = .ok (.aload_n 0, 1) := by decide +kernel
theorem dX7_get_6 : decode cX7_get 6 = .ok (.getfield 19, 3) := by decide +kernel
theorem dX7_get_9 : decode cX7_get 9 = .ok (.if_icmp .ge 21, 3) := by decide +kernel
theorem dX7_get_12 : decode cX7_get 12 = .ok (.iload_n 1, 1) := by decide +kernel
theorem dX7_get_13 : decode cX7_get 13 = .ok (.aload_n 0, 1) := by decide +kernel
theorem dX7_get_14 : decode cX7_get 14 = .ok (.getfield 13, 3) := by decide +kernel
theorem dX7_get_17 : decode cX7_get 17 = .ok (.arraylength, 1) := by decide +kernel
theorem dX7_get_18 : decode cX7_get 18 = .ok (.if_icmp .ge 12, 3) := by decide +kernel
theorem dX7_get_21 : decode cX7_get 21 = .ok (.aload_n 0, 1) := by decide +kernel
theorem dX7_get_22 : decode cX7_get 22 = .ok (.getfield 13, 3) := by decide +kernel
theorem dX7_get_25 : decode cX7_get 25 = .ok (.iload_n 1, 1) := by decide +kernel
theorem dX7_get_26 : decode cX7_get 26 = .ok (.laload, 1) := by decide +kernel
theorem dX7_get_27 : decode cX7_get 27 = .ok (.goto 4, 3) := by decide +kernel
theorem dX7_get_30 : decode cX7_get 30 = .ok (.lconst 0, 1) := by decide +kernel
theorem dX7_get_31 : decode cX7_get 31 = .ok (.lreturn, 1) := by decide +kernel
theorem dX7_holds_0 : decode cX7_holds 0 = .ok (.aload_n 0, 1) := by decide +kernel
theorem dX7_holds_1 : decode cX7_holds 1 = .ok (.lload_n 1, 1) := by decide +kernel
theorem dX7_holds_2 : decode cX7_holds 2 = .ok (.invokevirtual 23, 3) := by decide +kernel
theorem dX7_holds_5 : decode cX7_holds 5 = .ok (.aload_n 0, 1) := by decide +kernel
theorem dX7_holds_6 : decode cX7_holds 6 = .ok (.getfield 19, 3) := by decide +kernel
theorem dX7_holds_9 : decode cX7_holds 9 = .ok (.if_icmp .ge 7, 3) := by decide +kernel
theorem dX7_holds_12 : decode cX7_holds 12 = .ok (.iconst 1, 1) := by decide +kernel
theorem dX7_holds_13 : decode cX7_holds 13 = .ok (.goto 4, 3) := by decide +kernel
theorem dX7_holds_16 : decode cX7_holds 16 = .ok (.iconst 0, 1) := by decide +kernel
theorem dX7_holds_17 : decode cX7_holds 17 = .ok (.ireturn, 1) := by decide +kernel
theorem dX7_indexOf_0 : decode cX7_indexOf 0 = .ok (.iconst 0, 1) := by decide +kernel
theorem dX7_indexOf_1 : decode cX7_indexOf 1 = .ok (.istore_n 3, 1) := by decide +kernel
theorem dX7_indexOf_2 : decode cX7_indexOf 2 = .ok (.iload_n 3, 1) := by decide +kernel
theorem dX7_indexOf_3 : decode cX7_indexOf 3 = .ok (.aload_n 0, 1) := by decide +kernel
theorem dX7_indexOf_4 : decode cX7_indexOf 4 = .ok (.getfield 19, 3) := by decide +kernel
theorem dX7_indexOf_7 : decode cX7_indexOf 7 = .ok (.if_icmp .ge 29, 3) := by decide +kernel
theorem dX7_indexOf_10 : decode cX7_indexOf 10 = .ok (.iload_n 3, 1) := by decide +kernel
theorem dX7_indexOf_11 : decode cX7_indexOf 11 = .ok (.aload_n 0, 1) := by decide +kernel
theorem dX7_indexOf_12 : decode cX7_indexOf 12 = .ok (.getfield 13, 3) := by decide +kernel
theorem dX7_indexOf_15 : decode cX7_indexOf 15 = .ok (.arraylength, 1) := by decide +kernel
theorem dX7_indexOf_16 : decode cX7_indexOf 16 = .ok (.if_icmp .ge 20, 3) := by decide +kernel
theorem dX7_indexOf_19 : decode cX7_indexOf 19 = .ok (.aload_n 0, 1) := by decide +kernel
theorem dX7_indexOf_20 : decode cX7_indexOf 20 = .ok (.getfield 13, 3) := by decide +kernel
theorem dX7_indexOf_23 : decode cX7_indexOf 23 = .ok (.iload_n 3, 1) := by decide +kernel
theorem dX7_indexOf_24 : decode cX7_indexOf 24 = .ok (.laload, 1) := by decide +kernel
theorem dX7_indexOf_25 : decode cX7_indexOf 25 = .ok (.lload_n 1, 1) := by decide +kernel
theorem dX7_indexOf_26 : decode cX7_indexOf 26 = .ok (.lcmp, 1) := by decide +kernel
theorem dX7_indexOf_27 : decode cX7_indexOf 27 = .ok (.ifCond .eq 9, 3) := by decide +kernel
theorem dX7_indexOf_30 : decode cX7_indexOf 30 = .ok (.iinc 3 1, 3) := by decide +kernel
theorem dX7_indexOf_33 : decode cX7_indexOf 33 = .ok (.goto (-31), 3) := by decide +kernel
theorem dX7_indexOf_36 : decode cX7_indexOf 36 = .ok (.iload_n 3, 1) := by decide +kernel
theorem dX7_indexOf_37 : decode cX7_indexOf 37 = .ok (.ireturn, 1) := by decide +kernel
theorem dX7_touch_0 : decode cX7_touch 0 = .ok (.aload_n 0, 1) := by decide +kernel
theorem dX7_touch_1 : decode cX7_touch 1 = .ok (.lload_n 1, 1) := by decide +kernel
theorem dX7_touch_2 : decode cX7_touch 2 = .ok (.invokevirtual 23, 3) := by decide +kernel
theorem dX7_touch_5 : decode cX7_touch 5 = .ok (.istore 4, 2) := by decide +kernel
theorem dX7_touch_7 : decode cX7_touch 7 = .ok (.iload 4, 2) := by decide +kernel
theorem dX7_touch_9 : decode cX7_touch 9 = .ok (.aload_n 0, 1) := by decide +kernel
theorem dX7_touch_10 : decode cX7_touch 10 = .ok (.getfield 19, 3) := by decide +kernel
theorem dX7_touch_13 : decode cX7_touch 13 = .ok (.if_icmp .ne 33, 3) := by decide +kernel
theorem dX7_touch_16 : decode cX7_touch 16 = .ok (.aload_n 0, 1) := by decide +kernel
theorem dX7_touch_17 : decode cX7_touch 17 = .ok (.getfield 19, 3) := by decide +kernel
theorem dX7_touch_20 : decode cX7_touch 20 = .ok (.iload_n 3, 1) := by decide +kernel
theorem dX7_touch_21 : decode cX7_touch 21 = .ok (.if_icmp .ge 25, 3) := by decide +kernel
theorem dX7_touch_24 : decode cX7_touch 24 = .ok (.aload_n 0, 1) := by decide +kernel
theorem dX7_touch_25 : decode cX7_touch 25 = .ok (.getfield 19, 3) := by decide +kernel
theorem dX7_touch_28 : decode cX7_touch 28 = .ok (.aload_n 0, 1) := by decide +kernel
theorem dX7_touch_29 : decode cX7_touch 29 = .ok (.getfield 13, 3) := by decide +kernel
theorem dX7_touch_32 : decode cX7_touch 32 = .ok (.arraylength, 1) := by decide +kernel
theorem dX7_touch_33 : decode cX7_touch 33 = .ok (.if_icmp .ge 13, 3) := by decide +kernel
theorem dX7_touch_36 : decode cX7_touch 36 = .ok (.aload_n 0, 1) := by decide +kernel
theorem dX7_touch_37 : decode cX7_touch 37 = .ok (.dup, 1) := by decide +kernel
theorem dX7_touch_38 : decode cX7_touch 38 = .ok (.getfield 19, 3) := by decide +kernel
theorem dX7_touch_41 : decode cX7_touch 41 = .ok (.iconst 1, 1) := by decide +kernel
theorem dX7_touch_42 : decode cX7_touch 42 = .ok (.iadd, 1) := by decide +kernel
theorem dX7_touch_43 : decode cX7_touch 43 = .ok (.putfield 19, 3) := by decide +kernel
theorem dX7_touch_46 : decode cX7_touch 46 = .ok (.iload 4, 2) := by decide +kernel
theorem dX7_touch_48 : decode cX7_touch 48 = .ok (.aload_n 0, 1) := by decide +kernel
theorem dX7_touch_49 : decode cX7_touch 49 = .ok (.getfield 19, 3) := by decide +kernel
theorem dX7_touch_52 : decode cX7_touch 52 = .ok (.iconst 1, 1) := by decide +kernel
theorem dX7_touch_53 : decode cX7_touch 53 = .ok (.isub, 1) := by decide +kernel
theorem dX7_touch_54 : decode cX7_touch 54 = .ok (.invokestatic 27, 3) := by decide +kernel
theorem dX7_touch_57 : decode cX7_touch 57 = .ok (.istore 5, 2) := by decide +kernel
theorem dX7_touch_59 : decode cX7_touch 59 = .ok (.iload 5, 2) := by decide +kernel
theorem dX7_touch_61 : decode cX7_touch 61 = .ok (.ifCond .le 25, 3) := by decide +kernel
theorem dX7_touch_64 : decode cX7_touch 64 = .ok (.aload_n 0, 1) := by decide +kernel
theorem dX7_touch_65 : decode cX7_touch 65 = .ok (.getfield 13, 3) := by decide +kernel
theorem dX7_touch_68 : decode cX7_touch 68 = .ok (.iload 5, 2) := by decide +kernel
theorem dX7_touch_70 : decode cX7_touch 70 = .ok (.aload_n 0, 1) := by decide +kernel
theorem dX7_touch_71 : decode cX7_touch 71 = .ok (.getfield 13, 3) := by decide +kernel
theorem dX7_touch_74 : decode cX7_touch 74 = .ok (.iload 5, 2) := by decide +kernel
theorem dX7_touch_76 : decode cX7_touch 76 = .ok (.iconst 1, 1) := by decide +kernel
theorem dX7_touch_77 : decode cX7_touch 77 = .ok (.isub, 1) := by decide +kernel
theorem dX7_touch_78 : decode cX7_touch 78 = .ok (.laload, 1) := by decide +kernel
theorem dX7_touch_79 : decode cX7_touch 79 = .ok (.lastore, 1) := by decide +kernel
theorem dX7_touch_80 : decode cX7_touch 80 = .ok (.iinc 5 (-1), 3) := by decide +kernel
theorem dX7_touch_83 : decode cX7_touch 83 = .ok (.goto (-24), 3) := by decide +kernel
theorem dX7_touch_86 : decode cX7_touch 86 = .ok (.aload_n 0, 1) := by decide +kernel
theorem dX7_touch_87 : decode cX7_touch 87 = .ok (.getfield 13, 3) := by decide +kernel
theorem dX7_touch_90 : decode cX7_touch 90 = .ok (.iconst 0, 1) := by decide +kernel
theorem dX7_touch_91 : decode cX7_touch 91 = .ok (.lload_n 1, 1) := by decide +kernel
theorem dX7_touch_92 : decode cX7_touch 92 = .ok (.lastore, 1) := by decide +kernel
theorem dX7_touch_93 : decode cX7_touch 93 = .ok (.return_, 1) := by decide +kernel
theorem dX7_copyFrom_0 : decode cX7_copyFrom 0 = .ok (.aload_n 0, 1) := by decide +kernel
theorem dX7_copyFrom_1 : decode cX7_copyFrom 1 = .ok (.aload_n 1, 1) := by decide +kernel
theorem dX7_copyFrom_2 : decode cX7_copyFrom 2 = .ok (.getfield 19, 3) := by decide +kernel
theorem dX7_copyFrom_5 : decode cX7_copyFrom 5 = .ok (.aload_n 0, 1) := by decide +kernel
theorem dX7_copyFrom_6 : decode cX7_copyFrom 6 = .ok (.getfield 13, 3) := by decide +kernel
theorem dX7_copyFrom_9 : decode cX7_copyFrom 9 = .ok (.arraylength, 1) := by decide +kernel
theorem dX7_copyFrom_10 : decode cX7_copyFrom 10 = .ok (.invokestatic 27, 3) := by decide +kernel
theorem dX7_copyFrom_13 : decode cX7_copyFrom 13 = .ok (.putfield 19, 3) := by decide +kernel
theorem dX7_copyFrom_16 : decode cX7_copyFrom 16 = .ok (.aload_n 1, 1) := by decide +kernel
theorem dX7_copyFrom_17 : decode cX7_copyFrom 17 = .ok (.getfield 13, 3) := by decide +kernel
theorem dX7_copyFrom_20 : decode cX7_copyFrom 20 = .ok (.iconst 0, 1) := by decide +kernel
theorem dX7_copyFrom_21 : decode cX7_copyFrom 21 = .ok (.aload_n 0, 1) := by decide +kernel
theorem dX7_copyFrom_22 : decode cX7_copyFrom 22 = .ok (.getfield 13, 3) := by decide +kernel
theorem dX7_copyFrom_25 : decode cX7_copyFrom 25 = .ok (.iconst 0, 1) := by decide +kernel
theorem dX7_copyFrom_26 : decode cX7_copyFrom 26 = .ok (.aload_n 0, 1) := by decide +kernel
theorem dX7_copyFrom_27 : decode cX7_copyFrom 27 = .ok (.getfield 13, 3) := by decide +kernel
theorem dX7_copyFrom_30 : decode cX7_copyFrom 30 = .ok (.arraylength, 1) := by decide +kernel
theorem dX7_copyFrom_31 : decode cX7_copyFrom 31 = .ok (.aload_n 1, 1) := by decide +kernel
theorem dX7_copyFrom_32 : decode cX7_copyFrom 32 = .ok (.getfield 13, 3) := by decide +kernel
theorem dX7_copyFrom_35 : decode cX7_copyFrom 35 = .ok (.arraylength, 1) := by decide +kernel
theorem dX7_copyFrom_36 : decode cX7_copyFrom 36 = .ok (.invokestatic 27, 3) := by decide +kernel
theorem dX7_copyFrom_39 : decode cX7_copyFrom 39 = .ok (.invokestatic 30, 3) := by decide +kernel
theorem dX7_copyFrom_42 : decode cX7_copyFrom 42 = .ok (.return_, 1) := by decide +kernel
theorem dX8_at_0 : decode cX8_at 0 = .ok (.iload_n 2, 1) := by decide +kernel
theorem dX8_at_1 : decode cX8_at 1 = .ok (.ifCond .lt 9, 3) := by decide +kernel
theorem dX8_at_4 : decode cX8_at 4 = .ok (.iload_n 2, 1) := by decide +kernel
theorem dX8_at_5 : decode cX8_at 5 = .ok (.bipush 8, 2) := by decide +kernel
theorem dX8_at_7 : decode cX8_at 7 = .ok (.if_icmp .lt 7, 3) := by decide +kernel
theorem dX8_at_10 : decode cX8_at 10 = .ok (.iconst (-1), 1) := by decide +kernel
theorem dX8_at_11 : decode cX8_at 11 = .ok (.goto 15, 3) := by decide +kernel
theorem dX8_at_14 : decode cX8_at 14 = .ok (.lload_n 0, 1) := by decide +kernel
theorem dX8_at_15 : decode cX8_at 15 = .ok (.iconst 4, 1) := by decide +kernel
theorem dX8_at_16 : decode cX8_at 16 = .ok (.iload_n 2, 1) := by decide +kernel
theorem dX8_at_17 : decode cX8_at 17 = .ok (.imul, 1) := by decide +kernel
theorem dX8_at_18 : decode cX8_at 18 = .ok (.lushr, 1) := by decide +kernel
theorem dX8_at_19 : decode cX8_at 19 = .ok (.ldc2_w 9, 3) := by decide +kernel
theorem dX8_at_22 : decode cX8_at 22 = .ok (.land, 1) := by decide +kernel
theorem dX8_at_23 : decode cX8_at 23 = .ok (.l2i, 1) := by decide +kernel
theorem dX8_at_24 : decode cX8_at 24 = .ok (.iconst 1, 1) := by decide +kernel
theorem dX8_at_25 : decode cX8_at 25 = .ok (.isub, 1) := by decide +kernel
theorem dX8_at_26 : decode cX8_at 26 = .ok (.ireturn, 1) := by decide +kernel
theorem dX8_length_0 : decode cX8_length 0 = .ok (.iconst 0, 1) := by decide +kernel
theorem dX8_length_1 : decode cX8_length 1 = .ok (.istore_n 2, 1) := by decide +kernel
theorem dX8_length_2 : decode cX8_length 2 = .ok (.iload_n 2, 1) := by decide +kernel
theorem dX8_length_3 : decode cX8_length 3 = .ok (.bipush 8, 2) := by decide +kernel
theorem dX8_length_5 : decode cX8_length 5 = .ok (.if_icmp .ge 19, 3) := by decide +kernel
theorem dX8_length_8 : decode cX8_length 8 = .ok (.lload_n 0, 1) := by decide +kernel
theorem dX8_length_9 : decode cX8_length 9 = .ok (.iconst 4, 1) := by decide +kernel
theorem dX8_length_10 : decode cX8_length 10 = .ok (.iload_n 2, 1) := by decide +kernel
theorem dX8_length_11 : decode cX8_length 11 = .ok (.imul, 1) := by decide +kernel
theorem dX8_length_12 : decode cX8_length 12 = .ok (.lushr, 1) := by decide +kernel
theorem dX8_length_13 : decode cX8_length 13 = .ok (.lconst 0, 1) := by decide +kernel
theorem dX8_length_14 : decode cX8_length 14 = .ok (.lcmp, 1) := by decide +kernel
theorem dX8_length_15 : decode cX8_length 15 = .ok (.ifCond .eq 9, 3) := by decide +kernel
theorem dX8_length_18 : decode cX8_length 18 = .ok (.iinc 2 1, 3) := by decide +kernel
theorem dX8_length_21 : decode cX8_length 21 = .ok (.goto (-19), 3) := by decide +kernel
theorem dX8_length_24 : decode cX8_length 24 = .ok (.iload_n 2, 1) := by decide +kernel
theorem dX8_length_25 : decode cX8_length 25 = .ok (.ireturn, 1) := by decide +kernel
theorem dX8_indexOf_0 : decode cX8_indexOf 0 = .ok (.iconst 0, 1) := by decide +kernel
theorem dX8_indexOf_1 : decode cX8_indexOf 1 = .ok (.istore_n 3, 1) := by decide +kernel
theorem dX8_indexOf_2 : decode cX8_indexOf 2 = .ok (.iload_n 3, 1) := by decide +kernel
theorem dX8_indexOf_3 : decode cX8_indexOf 3 = .ok (.bipush 8, 2) := by decide +kernel
theorem dX8_indexOf_5 : decode cX8_indexOf 5 = .ok (.if_icmp .ge 38, 3) := by decide +kernel
theorem dX8_indexOf_8 : decode cX8_indexOf 8 = .ok (.lload_n 0, 1) := by decide +kernel
theorem dX8_indexOf_9 : decode cX8_indexOf 9 = .ok (.iconst 4, 1) := by decide +kernel
theorem dX8_indexOf_10 : decode cX8_indexOf 10 = .ok (.iload_n 3, 1) := by decide +kernel
theorem dX8_indexOf_11 : decode cX8_indexOf 11 = .ok (.imul, 1) := by decide +kernel
theorem dX8_indexOf_12 : decode cX8_indexOf 12 = .ok (.lushr, 1) := by decide +kernel
theorem dX8_indexOf_13 : decode cX8_indexOf 13 = .ok (.lconst 0, 1) := by decide +kernel
theorem dX8_indexOf_14 : decode cX8_indexOf 14 = .ok (.lcmp, 1) := by decide +kernel
theorem dX8_indexOf_15 : decode cX8_indexOf 15 = .ok (.ifCond .eq 28, 3) := by decide +kernel
theorem dX8_indexOf_18 : decode cX8_indexOf 18 = .ok (.lload_n 0, 1) := by decide +kernel
theorem dX8_indexOf_19 : decode cX8_indexOf 19 = .ok (.iconst 4, 1) := by decide +kernel
theorem dX8_indexOf_20 : decode cX8_indexOf 20 = .ok (.iload_n 3, 1) := by decide +kernel
theorem dX8_indexOf_21 : decode cX8_indexOf 21 = .ok (.imul, 1) := by decide +kernel
theorem dX8_indexOf_22 : decode cX8_indexOf 22 = .ok (.lushr, 1) := by decide +kernel
theorem dX8_indexOf_23 : decode cX8_indexOf 23 = .ok (.ldc2_w 9, 3) := by decide +kernel
theorem dX8_indexOf_26 : decode cX8_indexOf 26 = .ok (.land, 1) := by decide +kernel
theorem dX8_indexOf_27 : decode cX8_indexOf 27 = .ok (.iload_n 2, 1) := by decide +kernel
theorem dX8_indexOf_28 : decode cX8_indexOf 28 = .ok (.iconst 1, 1) := by decide +kernel
theorem dX8_indexOf_29 : decode cX8_indexOf 29 = .ok (.iadd, 1) := by decide +kernel
theorem dX8_indexOf_30 : decode cX8_indexOf 30 = .ok (.i2l, 1) := by decide +kernel
theorem dX8_indexOf_31 : decode cX8_indexOf 31 = .ok (.lcmp, 1) := by decide +kernel
theorem dX8_indexOf_32 : decode cX8_indexOf 32 = .ok (.ifCond .ne 5, 3) := by decide +kernel
theorem dX8_indexOf_35 : decode cX8_indexOf 35 = .ok (.iload_n 3, 1) := by decide +kernel
theorem dX8_indexOf_36 : decode cX8_indexOf 36 = .ok (.ireturn, 1) := by decide +kernel
theorem dX8_indexOf_37 : decode cX8_indexOf 37 = .ok (.iinc 3 1, 3) := by decide +kernel
theorem dX8_indexOf_40 : decode cX8_indexOf 40 = .ok (.goto (-38), 3) := by decide +kernel
theorem dX8_indexOf_43 : decode cX8_indexOf 43 = .ok (.iconst (-1), 1) := by decide +kernel
theorem dX8_indexOf_44 : decode cX8_indexOf 44 = .ok (.ireturn, 1) := by decide +kernel
theorem dX8_holds_0 : decode cX8_holds 0 = .ok (.lload_n 0, 1) := by decide +kernel
theorem dX8_holds_1 : decode cX8_holds 1 = .ok (.iload_n 2, 1) := by decide +kernel
theorem dX8_holds_2 : decode cX8_holds 2 = .ok (.invokestatic 11, 3) := by decide +kernel
theorem dX8_holds_5 : decode cX8_holds 5 = .ok (.iconst (-1), 1) := by decide +kernel
theorem dX8_holds_6 : decode cX8_holds 6 = .ok (.if_icmp .eq 7, 3) := by decide +kernel
theorem dX8_holds_9 : decode cX8_holds 9 = .ok (.iconst 1, 1) := by decide +kernel
theorem dX8_holds_10 : decode cX8_holds 10 = .ok (.goto 4, 3) := by decide +kernel
theorem dX8_holds_13 : decode cX8_holds 13 = .ok (.iconst 0, 1) := by decide +kernel
theorem dX8_holds_14 : decode cX8_holds 14 = .ok (.ireturn, 1) := by decide +kernel
theorem dX8_with_0 : decode cX8_with 0 = .ok (.lload_n 0, 1) := by decide +kernel
theorem dX8_with_1 : decode cX8_with 1 = .ok (.invokestatic 17, 3) := by decide +kernel
theorem dX8_with_4 : decode cX8_with 4 = .ok (.istore_n 3, 1) := by decide +kernel
theorem dX8_with_5 : decode cX8_with 5 = .ok (.iload_n 3, 1) := by decide +kernel
theorem dX8_with_6 : decode cX8_with 6 = .ok (.bipush 8, 2) := by decide +kernel
theorem dX8_with_8 : decode cX8_with 8 = .ok (.if_icmp .ge 16, 3) := by decide +kernel
theorem dX8_with_11 : decode cX8_with 11 = .ok (.lload_n 0, 1) := by decide +kernel
theorem dX8_with_12 : decode cX8_with 12 = .ok (.iload_n 2, 1) := by decide +kernel
theorem dX8_with_13 : decode cX8_with 13 = .ok (.iconst 1, 1) := by decide +kernel
theorem dX8_with_14 : decode cX8_with 14 = .ok (.iadd, 1) := by decide +kernel
theorem dX8_with_15 : decode cX8_with 15 = .ok (.i2l, 1) := by decide +kernel
theorem dX8_with_16 : decode cX8_with 16 = .ok (.iconst 4, 1) := by decide +kernel
theorem dX8_with_17 : decode cX8_with 17 = .ok (.iload_n 3, 1) := by decide +kernel
theorem dX8_with_18 : decode cX8_with 18 = .ok (.imul, 1) := by decide +kernel
theorem dX8_with_19 : decode cX8_with 19 = .ok (.lshl, 1) := by decide +kernel
theorem dX8_with_20 : decode cX8_with 20 = .ok (.lor, 1) := by decide +kernel
theorem dX8_with_21 : decode cX8_with 21 = .ok (.goto 4, 3) := by decide +kernel
theorem dX8_with_24 : decode cX8_with 24 = .ok (.lload_n 0, 1) := by decide +kernel
theorem dX8_with_25 : decode cX8_with 25 = .ok (.lreturn, 1) := by decide +kernel
theorem dX8_behind_0 : decode cX8_behind 0 = .ok (.lload_n 1, 1) := by decide +kernel
theorem dX8_behind_1 : decode cX8_behind 1 = .ok (.bipush 7, 2) := by decide +kernel
theorem dX8_behind_3 : decode cX8_behind 3 = .ok (.invokestatic 21, 3) := by decide +kernel
theorem dX8_behind_6 : decode cX8_behind 6 = .ok (.iconst 4, 1) := by decide +kernel
theorem dX8_behind_7 : decode cX8_behind 7 = .ok (.lshl, 1) := by decide +kernel
theorem dX8_behind_8 : decode cX8_behind 8 = .ok (.iload_n 0, 1) := by decide +kernel
theorem dX8_behind_9 : decode cX8_behind 9 = .ok (.iconst 1, 1) := by decide +kernel
theorem dX8_behind_10 : decode cX8_behind 10 = .ok (.iadd, 1) := by decide +kernel
theorem dX8_behind_11 : decode cX8_behind 11 = .ok (.i2l, 1) := by decide +kernel
theorem dX8_behind_12 : decode cX8_behind 12 = .ok (.lor, 1) := by decide +kernel
theorem dX8_behind_13 : decode cX8_behind 13 = .ok (.lreturn, 1) := by decide +kernel
theorem dX8_first_0 : decode cX8_first 0 = .ok (.iload_n 2, 1) := by decide +kernel
theorem dX8_first_1 : decode cX8_first 1 = .ok (.ifCond .lt 9, 3) := by decide +kernel
theorem dX8_first_4 : decode cX8_first 4 = .ok (.iload_n 2, 1) := by decide +kernel
theorem dX8_first_5 : decode cX8_first 5 = .ok (.bipush 8, 2) := by decide +kernel
theorem dX8_first_7 : decode cX8_first 7 = .ok (.if_icmp .le 7, 3) := by decide +kernel
theorem dX8_first_10 : decode cX8_first 10 = .ok (.lload_n 0, 1) := by decide +kernel
theorem dX8_first_11 : decode cX8_first 11 = .ok (.goto 12, 3) := by decide +kernel
theorem dX8_first_14 : decode cX8_first 14 = .ok (.lload_n 0, 1) := by decide +kernel
theorem dX8_first_15 : decode cX8_first 15 = .ok (.lconst 1, 1) := by decide +kernel
theorem dX8_first_16 : decode cX8_first 16 = .ok (.iconst 4, 1) := by decide +kernel
theorem dX8_first_17 : decode cX8_first 17 = .ok (.iload_n 2, 1) := by decide +kernel
theorem dX8_first_18 : decode cX8_first 18 = .ok (.imul, 1) := by decide +kernel
theorem dX8_first_19 : decode cX8_first 19 = .ok (.lshl, 1) := by decide +kernel
theorem dX8_first_20 : decode cX8_first 20 = .ok (.lconst 1, 1) := by decide +kernel
theorem dX8_first_21 : decode cX8_first 21 = .ok (.lsub, 1) := by decide +kernel
theorem dX8_first_22 : decode cX8_first 22 = .ok (.land, 1) := by decide +kernel
theorem dX8_first_23 : decode cX8_first 23 = .ok (.lreturn, 1) := by decide +kernel
theorem dX8_from_0 : decode cX8_from 0 = .ok (.iload_n 2, 1) := by decide +kernel
theorem dX8_from_1 : decode cX8_from 1 = .ok (.ifCond .lt 9, 3) := by decide +kernel
theorem dX8_from_4 : decode cX8_from 4 = .ok (.iload_n 2, 1) := by decide +kernel
theorem dX8_from_5 : decode cX8_from 5 = .ok (.bipush 8, 2) := by decide +kernel
theorem dX8_from_7 : decode cX8_from 7 = .ok (.if_icmp .le 7, 3) := by decide +kernel
theorem dX8_from_10 : decode cX8_from 10 = .ok (.lconst 0, 1) := by decide +kernel
theorem dX8_from_11 : decode cX8_from 11 = .ok (.goto 8, 3) := by decide +kernel
theorem dX8_from_14 : decode cX8_from 14 = .ok (.lload_n 0, 1) := by decide +kernel
theorem dX8_from_15 : decode cX8_from 15 = .ok (.iconst 4, 1) := by decide +kernel
theorem dX8_from_16 : decode cX8_from 16 = .ok (.iload_n 2, 1) := by decide +kernel
theorem dX8_from_17 : decode cX8_from 17 = .ok (.imul, 1) := by decide +kernel
theorem dX8_from_18 : decode cX8_from 18 = .ok (.lushr, 1) := by decide +kernel
theorem dX8_from_19 : decode cX8_from 19 = .ok (.lreturn, 1) := by decide +kernel
theorem dX8_reversed_0 : decode cX8_reversed 0 = .ok (.lconst 0, 1) := by decide +kernel
theorem dX8_reversed_1 : decode cX8_reversed 1 = .ok (.lstore_n 2, 1) := by decide +kernel
theorem dX8_reversed_2 : decode cX8_reversed 2 = .ok (.iconst 0, 1) := by decide +kernel
theorem dX8_reversed_3 : decode cX8_reversed 3 = .ok (.istore 4, 2) := by decide +kernel
theorem dX8_reversed_5 : decode cX8_reversed 5 = .ok (.iload 4, 2) := by decide +kernel
theorem dX8_reversed_7 : decode cX8_reversed 7 = .ok (.bipush 8, 2) := by decide +kernel
theorem dX8_reversed_9 : decode cX8_reversed 9 = .ok (.if_icmp .ge 35, 3) := by decide +kernel
theorem dX8_reversed_12 : decode cX8_reversed 12 = .ok (.lload_n 0, 1) := by decide +kernel
theorem dX8_reversed_13 : decode cX8_reversed 13 = .ok (.iconst 4, 1) := by decide +kernel
theorem dX8_reversed_14 : decode cX8_reversed 14 = .ok (.iload 4, 2) := by decide +kernel
theorem dX8_reversed_16 : decode cX8_reversed 16 = .ok (.imul, 1) := by decide +kernel
theorem dX8_reversed_17 : decode cX8_reversed 17 = .ok (.lushr, 1) := by decide +kernel
theorem dX8_reversed_18 : decode cX8_reversed 18 = .ok (.lconst 0, 1) := by decide +kernel
theorem dX8_reversed_19 : decode cX8_reversed 19 = .ok (.lcmp, 1) := by decide +kernel
theorem dX8_reversed_20 : decode cX8_reversed 20 = .ok (.ifCond .eq 24, 3) := by decide +kernel
theorem dX8_reversed_23 : decode cX8_reversed 23 = .ok (.lload_n 2, 1) := by decide +kernel
theorem dX8_reversed_24 : decode cX8_reversed 24 = .ok (.iconst 4, 1) := by decide +kernel
theorem dX8_reversed_25 : decode cX8_reversed 25 = .ok (.lshl, 1) := by decide +kernel
theorem dX8_reversed_26 : decode cX8_reversed 26 = .ok (.lload_n 0, 1) := by decide +kernel
theorem dX8_reversed_27 : decode cX8_reversed 27 = .ok (.iconst 4, 1) := by decide +kernel
theorem dX8_reversed_28 : decode cX8_reversed 28 = .ok (.iload 4, 2) := by decide +kernel
theorem dX8_reversed_30 : decode cX8_reversed 30 = .ok (.imul, 1) := by decide +kernel
theorem dX8_reversed_31 : decode cX8_reversed 31 = .ok (.lushr, 1) := by decide +kernel
theorem dX8_reversed_32 : decode cX8_reversed 32 = .ok (.ldc2_w 9, 3) := by decide +kernel
theorem dX8_reversed_35 : decode cX8_reversed 35 = .ok (.land, 1) := by decide +kernel
theorem dX8_reversed_36 : decode cX8_reversed 36 = .ok (.lor, 1) := by decide +kernel
theorem dX8_reversed_37 : decode cX8_reversed 37 = .ok (.lstore_n 2, 1) := by decide +kernel
theorem dX8_reversed_38 : decode cX8_reversed 38 = .ok (.iinc 4 1, 3) := by decide +kernel
theorem dX8_reversed_41 : decode cX8_reversed 41 = .ok (.goto (-36), 3) := by decide +kernel
theorem dX8_reversed_44 : decode cX8_reversed 44 = .ok (.lload_n 2, 1) := by decide +kernel
theorem dX8_reversed_45 : decode cX8_reversed 45 = .ok (.lreturn, 1) := by decide +kernel
theorem dX8_joined_0 : decode cX8_joined 0 = .ok (.lload_n 0, 1) := by decide +kernel
theorem dX8_joined_1 : decode cX8_joined 1 = .ok (.invokestatic 25, 3) := by decide +kernel
theorem dX8_joined_4 : decode cX8_joined 4 = .ok (.lload_n 2, 1) := by decide +kernel
theorem dX8_joined_5 : decode cX8_joined 5 = .ok (.invokestatic 25, 3) := by decide +kernel
theorem dX8_joined_8 : decode cX8_joined 8 = .ok (.iand, 1) := by decide +kernel
theorem dX8_joined_9 : decode cX8_joined 9 = .ok (.ifCond .eq 7, 3) := by decide +kernel
theorem dX8_joined_12 : decode cX8_joined 12 = .ok (.lconst 0, 1) := by decide +kernel
theorem dX8_joined_13 : decode cX8_joined 13 = .ok (.goto 13, 3) := by decide +kernel
theorem dX8_joined_16 : decode cX8_joined 16 = .ok (.lload_n 0, 1) := by decide +kernel
theorem dX8_joined_17 : decode cX8_joined 17 = .ok (.lload_n 2, 1) := by decide +kernel
theorem dX8_joined_18 : decode cX8_joined 18 = .ok (.iconst 4, 1) := by decide +kernel
theorem dX8_joined_19 : decode cX8_joined 19 = .ok (.lload_n 0, 1) := by decide +kernel
theorem dX8_joined_20 : decode cX8_joined 20 = .ok (.invokestatic 17, 3) := by decide +kernel
theorem dX8_joined_23 : decode cX8_joined 23 = .ok (.imul, 1) := by decide +kernel
theorem dX8_joined_24 : decode cX8_joined 24 = .ok (.lshl, 1) := by decide +kernel
theorem dX8_joined_25 : decode cX8_joined 25 = .ok (.lor, 1) := by decide +kernel
theorem dX8_joined_26 : decode cX8_joined 26 = .ok (.lreturn, 1) := by decide +kernel
theorem dX8_nodes_0 : decode cX8_nodes 0 = .ok (.iconst 0, 1) := by decide +kernel
theorem dX8_nodes_1 : decode cX8_nodes 1 = .ok (.istore_n 2, 1) := by decide +kernel
theorem dX8_nodes_2 : decode cX8_nodes 2 = .ok (.iconst 0, 1) := by decide +kernel
theorem dX8_nodes_3 : decode cX8_nodes 3 = .ok (.istore_n 3, 1) := by decide +kernel
theorem dX8_nodes_4 : decode cX8_nodes 4 = .ok (.iload_n 3, 1) := by decide +kernel
theorem dX8_nodes_5 : decode cX8_nodes 5 = .ok (.bipush 8, 2) := by decide +kernel
theorem dX8_nodes_7 : decode cX8_nodes 7 = .ok (.if_icmp .ge 36, 3) := by decide +kernel
theorem dX8_nodes_10 : decode cX8_nodes 10 = .ok (.lload_n 0, 1) := by decide +kernel
theorem dX8_nodes_11 : decode cX8_nodes 11 = .ok (.iconst 4, 1) := by decide +kernel
theorem dX8_nodes_12 : decode cX8_nodes 12 = .ok (.iload_n 3, 1) := by decide +kernel
theorem dX8_nodes_13 : decode cX8_nodes 13 = .ok (.imul, 1) := by decide +kernel
theorem dX8_nodes_14 : decode cX8_nodes 14 = .ok (.lushr, 1) := by decide +kernel
theorem dX8_nodes_15 : decode cX8_nodes 15 = .ok (.lconst 0, 1) := by decide +kernel
theorem dX8_nodes_16 : decode cX8_nodes 16 = .ok (.lcmp, 1) := by decide +kernel
theorem dX8_nodes_17 : decode cX8_nodes 17 = .ok (.ifCond .eq 26, 3) := by decide +kernel
theorem dX8_nodes_20 : decode cX8_nodes 20 = .ok (.iload_n 2, 1) := by decide +kernel
theorem dX8_nodes_21 : decode cX8_nodes 21 = .ok (.iconst 1, 1) := by decide +kernel
theorem dX8_nodes_22 : decode cX8_nodes 22 = .ok (.lload_n 0, 1) := by decide +kernel
theorem dX8_nodes_23 : decode cX8_nodes 23 = .ok (.iconst 4, 1) := by decide +kernel
theorem dX8_nodes_24 : decode cX8_nodes 24 = .ok (.iload_n 3, 1) := by decide +kernel
theorem dX8_nodes_25 : decode cX8_nodes 25 = .ok (.imul, 1) := by decide +kernel
theorem dX8_nodes_26 : decode cX8_nodes 26 = .ok (.lushr, 1) := by decide +kernel
theorem dX8_nodes_27 : decode cX8_nodes 27 = .ok (.ldc2_w 9, 3) := by decide +kernel
theorem dX8_nodes_30 : decode cX8_nodes 30 = .ok (.land, 1) := by decide +kernel
theorem dX8_nodes_31 : decode cX8_nodes 31 = .ok (.l2i, 1) := by decide +kernel
theorem dX8_nodes_32 : decode cX8_nodes 32 = .ok (.iconst 1, 1) := by decide +kernel
theorem dX8_nodes_33 : decode cX8_nodes 33 = .ok (.isub, 1) := by decide +kernel
theorem dX8_nodes_34 : decode cX8_nodes 34 = .ok (.ishl, 1) := by decide +kernel
theorem dX8_nodes_35 : decode cX8_nodes 35 = .ok (.ior, 1) := by decide +kernel
theorem dX8_nodes_36 : decode cX8_nodes 36 = .ok (.istore_n 2, 1) := by decide +kernel
theorem dX8_nodes_37 : decode cX8_nodes 37 = .ok (.iinc 3 1, 3) := by decide +kernel
theorem dX8_nodes_40 : decode cX8_nodes 40 = .ok (.goto (-36), 3) := by decide +kernel
theorem dX8_nodes_43 : decode cX8_nodes 43 = .ok (.iload_n 2, 1) := by decide +kernel
theorem dX8_nodes_44 : decode cX8_nodes 44 = .ok (.ireturn, 1) := by decide +kernel
theorem dX9_init_0 : decode cX9_init 0 = .ok (.aload_n 0, 1) := by decide +kernel
theorem dX9_init_1 : decode cX9_init 1 = .ok (.invokespecial 3, 3) := by decide +kernel
theorem dX9_init_4 : decode cX9_init 4 = .ok (.aload_n 0, 1) := by decide +kernel
theorem dX9_init_5 : decode cX9_init 5 = .ok (.sipush 400, 3) := by decide +kernel
theorem dX9_init_8 : decode cX9_init 8 = .ok (.newarray .byte, 2) := by decide +kernel
theorem dX9_init_10 : decode cX9_init 10 = .ok (.putfield 11, 3) := by decide +kernel
theorem dX9_init_13 : decode cX9_init 13 = .ok (.aload_n 0, 1) := by decide +kernel
theorem dX9_init_14 : decode cX9_init 14 = .ok (.iconst (-1), 1) := by decide +kernel
theorem dX9_init_15 : decode cX9_init 15 = .ok (.putfield 15, 3) := by decide +kernel
theorem dX9_init_18 : decode cX9_init 18 = .ok (.return_, 1) := by decide +kernel
theorem dX9_take_0 : decode cX9_take 0 = .ok (.iconst 0, 1) := by decide +kernel
theorem dX9_take_1 : decode cX9_take 1 = .ok (.istore_n 3, 1) := by decide +kernel
theorem dX9_take_2 : decode cX9_take 2 = .ok (.iload_n 3, 1) := by decide +kernel
theorem dX9_take_3 : decode cX9_take 3 = .ok (.bipush 8, 2) := by decide +kernel
theorem dX9_take_5 : decode cX9_take 5 = .ok (.if_icmp .ge 27, 3) := by decide +kernel
theorem dX9_take_8 : decode cX9_take 8 = .ok (.lload_n 1, 1) := by decide +kernel
theorem dX9_take_9 : decode cX9_take 9 = .ok (.bipush 56, 2) := by decide +kernel
theorem dX9_take_11 : decode cX9_take 11 = .ok (.bipush 8, 2) := by decide +kernel
theorem dX9_take_13 : decode cX9_take 13 = .ok (.iload_n 3, 1) := by decide +kernel
theorem dX9_take_14 : decode cX9_take 14 = .ok (.imul, 1) := by decide +kernel
theorem dX9_take_15 : decode cX9_take 15 = .ok (.isub, 1) := by decide +kernel
theorem dX9_take_16 : decode cX9_take 16 = .ok (.lushr, 1) := by decide +kernel
theorem dX9_take_17 : decode cX9_take 17 = .ok (.ldc2_w 19, 3) := by decide +kernel
theorem dX9_take_20 : decode cX9_take 20 = .ok (.land, 1) := by decide +kernel
theorem dX9_take_21 : decode cX9_take 21 = .ok (.lconst 0, 1) := by decide +kernel
theorem dX9_take_22 : decode cX9_take 22 = .ok (.lcmp, 1) := by decide +kernel
theorem dX9_take_23 : decode cX9_take 23 = .ok (.ifCond .eq 9, 3) := by decide +kernel
theorem dX9_take_26 : decode cX9_take 26 = .ok (.iinc 3 1, 3) := by decide +kernel
theorem dX9_take_29 : decode cX9_take 29 = .ok (.goto (-27), 3) := by decide +kernel
theorem dX9_take_32 : decode cX9_take 32 = .ok (.aload_n 0, 1) := by decide +kernel
theorem dX9_take_33 : decode cX9_take 33 = .ok (.getfield 21, 3) := by decide +kernel
theorem dX9_take_36 : decode cX9_take 36 = .ok (.iload_n 3, 1) := by decide +kernel
theorem dX9_take_37 : decode cX9_take 37 = .ok (.iadd, 1) := by decide +kernel
theorem dX9_take_38 : decode cX9_take 38 = .ok (.sipush 400, 3) := by decide +kernel
theorem dX9_take_41 : decode cX9_take 41 = .ok (.if_icmp .le 5, 3) := by decide +kernel
theorem dX9_take_44 : decode cX9_take 44 = .ok (.iconst (-1), 1) := by decide +kernel
theorem dX9_take_45 : decode cX9_take 45 = .ok (.ireturn, 1) := by decide +kernel
theorem dX9_take_46 : decode cX9_take 46 = .ok (.iconst 0, 1) := by decide +kernel
theorem dX9_take_47 : decode cX9_take 47 = .ok (.istore 4, 2) := by decide +kernel
theorem dX9_take_49 : decode cX9_take 49 = .ok (.iload 4, 2) := by decide +kernel
theorem dX9_take_51 : decode cX9_take 51 = .ok (.iload_n 3, 1) := by decide +kernel
theorem dX9_take_52 : decode cX9_take 52 = .ok (.if_icmp .ge 50, 3) := by decide +kernel
theorem dX9_take_55 : decode cX9_take 55 = .ok (.aload_n 0, 1) := by decide +kernel
theorem dX9_take_56 : decode cX9_take 56 = .ok (.getfield 21, 3) := by decide +kernel
theorem dX9_take_59 : decode cX9_take 59 = .ok (.sipush 400, 3) := by decide +kernel
theorem dX9_take_62 : decode cX9_take 62 = .ok (.if_icmp .ge 40, 3) := by decide +kernel
theorem dX9_take_65 : decode cX9_take 65 = .ok (.aload_n 0, 1) := by decide +kernel
theorem dX9_take_66 : decode cX9_take 66 = .ok (.getfield 11, 3) := by decide +kernel
theorem dX9_take_69 : decode cX9_take 69 = .ok (.aload_n 0, 1) := by decide +kernel
theorem dX9_take_70 : decode cX9_take 70 = .ok (.getfield 21, 3) := by decide +kernel
theorem dX9_take_73 : decode cX9_take 73 = .ok (.lload_n 1, 1) := by decide +kernel
theorem dX9_take_74 : decode cX9_take 74 = .ok (.bipush 56, 2) := by decide +kernel
theorem dX9_take_76 : decode cX9_take 76 = .ok (.bipush 8, 2) := by decide +kernel
theorem dX9_take_78 : decode cX9_take 78 = .ok (.iload 4, 2) := by decide +kernel
theorem dX9_take_80 : decode cX9_take 80 = .ok (.imul, 1) := by decide +kernel
theorem dX9_take_81 : decode cX9_take 81 = .ok (.isub, 1) := by decide +kernel
theorem dX9_take_82 : decode cX9_take 82 = .ok (.lushr, 1) := by decide +kernel
theorem dX9_take_83 : decode cX9_take 83 = .ok (.l2i, 1) := by decide +kernel
theorem dX9_take_84 : decode cX9_take 84 = .ok (.i2b, 1) := by decide +kernel
theorem dX9_take_85 : decode cX9_take 85 = .ok (.bastore, 1) := by decide +kernel
theorem dX9_take_86 : decode cX9_take 86 = .ok (.aload_n 0, 1) := by decide +kernel
theorem dX9_take_87 : decode cX9_take 87 = .ok (.dup, 1) := by decide +kernel
theorem dX9_take_88 : decode cX9_take 88 = .ok (.getfield 21, 3) := by decide +kernel
theorem dX9_take_91 : decode cX9_take 91 = .ok (.iconst 1, 1) := by decide +kernel
theorem dX9_take_92 : decode cX9_take 92 = .ok (.iadd, 1) := by decide +kernel
theorem dX9_take_93 : decode cX9_take 93 = .ok (.putfield 21, 3) := by decide +kernel
theorem dX9_take_96 : decode cX9_take 96 = .ok (.iinc 4 1, 3) := by decide +kernel
theorem dX9_take_99 : decode cX9_take 99 = .ok (.goto (-50), 3) := by decide +kernel
theorem dX9_take_102 : decode cX9_take 102 = .ok (.aload_n 0, 1) := by decide +kernel
theorem dX9_take_103 : decode cX9_take 103 = .ok (.getfield 21, 3) := by decide +kernel
theorem dX9_take_106 : decode cX9_take 106 = .ok (.ireturn, 1) := by decide +kernel
theorem dX9_byteAt_0 : decode cX9_byteAt 0 = .ok (.iload_n 1, 1) := by decide +kernel
theorem dX9_byteAt_1 : decode cX9_byteAt 1 = .ok (.ifCond .lt 24, 3) := by decide +kernel
theorem dX9_byteAt_4 : decode cX9_byteAt 4 = .ok (.iload_n 1, 1) := by decide +kernel
theorem dX9_byteAt_5 : decode cX9_byteAt 5 = .ok (.aload_n 0, 1) := by decide +kernel
theorem dX9_byteAt_6 : decode cX9_byteAt 6 = .ok (.getfield 21, 3) := by decide +kernel
theorem dX9_byteAt_9 : decode cX9_byteAt 9 = .ok (.if_icmp .ge 16, 3) := by decide +kernel
theorem dX9_byteAt_12 : decode cX9_byteAt 12 = .ok (.aload_n 0, 1) := by decide +kernel
theorem dX9_byteAt_13 : decode cX9_byteAt 13 = .ok (.getfield 11, 3) := by decide +kernel
theorem dX9_byteAt_16 : decode cX9_byteAt 16 = .ok (.iload_n 1, 1) := by decide +kernel
theorem dX9_byteAt_17 : decode cX9_byteAt 17 = .ok (.baload, 1) := by decide +kernel
theorem dX9_byteAt_18 : decode cX9_byteAt 18 = .ok (.sipush 255, 3) := by decide +kernel
theorem dX9_byteAt_21 : decode cX9_byteAt 21 = .ok (.iand, 1) := by decide +kernel
theorem dX9_byteAt_22 : decode cX9_byteAt 22 = .ok (.goto 4, 3) := by decide +kernel
theorem dX9_byteAt_25 : decode cX9_byteAt 25 = .ok (.iconst (-1), 1) := by decide +kernel
theorem dX9_byteAt_26 : decode cX9_byteAt 26 = .ok (.ireturn, 1) := by decide +kernel
theorem dX9_copyFrom_0 : decode cX9_copyFrom 0 = .ok (.aload_n 1, 1) := by decide +kernel
theorem dX9_copyFrom_1 : decode cX9_copyFrom 1 = .ok (.getfield 11, 3) := by decide +kernel
theorem dX9_copyFrom_4 : decode cX9_copyFrom 4 = .ok (.iconst 0, 1) := by decide +kernel
theorem dX9_copyFrom_5 : decode cX9_copyFrom 5 = .ok (.aload_n 0, 1) := by decide +kernel
theorem dX9_copyFrom_6 : decode cX9_copyFrom 6 = .ok (.getfield 11, 3) := by decide +kernel
theorem dX9_copyFrom_9 : decode cX9_copyFrom 9 = .ok (.iconst 0, 1) := by decide +kernel
theorem dX9_copyFrom_10 : decode cX9_copyFrom 10 = .ok (.sipush 400, 3) := by decide +kernel
theorem dX9_copyFrom_13 : decode cX9_copyFrom 13 = .ok (.invokestatic 24, 3) := by decide +kernel
theorem dX9_copyFrom_16 : decode cX9_copyFrom 16 = .ok (.aload_n 0, 1) := by decide +kernel
theorem dX9_copyFrom_17 : decode cX9_copyFrom 17 = .ok (.aload_n 1, 1) := by decide +kernel
theorem dX9_copyFrom_18 : decode cX9_copyFrom 18 = .ok (.getfield 21, 3) := by decide +kernel
theorem dX9_copyFrom_21 : decode cX9_copyFrom 21 = .ok (.putfield 21, 3) := by decide +kernel
theorem dX9_copyFrom_24 : decode cX9_copyFrom 24 = .ok (.aload_n 0, 1) := by decide +kernel
theorem dX9_copyFrom_25 : decode cX9_copyFrom 25 = .ok (.aload_n 1, 1) := by decide +kernel
theorem dX9_copyFrom_26 : decode cX9_copyFrom 26 = .ok (.getfield 30, 3) := by decide +kernel
theorem dX9_copyFrom_29 : decode cX9_copyFrom 29 = .ok (.putfield 30, 3) := by decide +kernel
theorem dX9_copyFrom_32 : decode cX9_copyFrom 32 = .ok (.aload_n 0, 1) := by decide +kernel
theorem dX9_copyFrom_33 : decode cX9_copyFrom 33 = .ok (.aload_n 1, 1) := by decide +kernel
theorem dX9_copyFrom_34 : decode cX9_copyFrom 34 = .ok (.getfield 15, 3) := by decide +kernel
theorem dX9_copyFrom_37 : decode cX9_copyFrom 37 = .ok (.putfield 15, 3) := by decide +kernel
theorem dX9_copyFrom_40 : decode cX9_copyFrom 40 = .ok (.return_, 1) := by decide +kernel
