theorem dX12_learnsPath_81 : decode cX12_learnsPath 81 = .ok (.iadd, 1) := by decide +kernel
theorem dX12_learnsPath_82 : decode cX12_learnsPath 82 = .ok (.aload_n 0, 1) := by decide +kernel
theorem dX12_learnsPath_83 : decode cX12_learnsPath 83 = .ok (.getfield 30, 3) := by decide +kernel
theorem dX12_learnsPath_86 : decode cX12_learnsPath 86 = .ok (.iload_n 2, 1) := by decide +kernel
theorem dX12_learnsPath_87 : decode cX12_learnsPath 87 = .ok (.iaload, 1) := by decide +kernel
theorem dX12_learnsPath_88 : decode cX12_learnsPath 88 = .ok (.invokevirtual 170, 3) := by decide +kernel
theorem dX12_learnsPath_91 : decode cX12_learnsPath 91 = .ok (.iinc 2 1, 3) := by decide +kernel
theorem dX12_learnsPath_94 : decode cX12_learnsPath 94 = .ok (.goto (-26), 3) := by decide +kernel
theorem dX12_learnsPath_97 : decode cX12_learnsPath 97 = .ok (.return_, 1) := by decide +kernel
theorem dX12_linkKept_0 : decode cX12_linkKept 0 = .ok (.iconst 0, 1) := by decide +kernel
theorem dX12_linkKept_1 : decode cX12_linkKept 1 = .ok (.istore 4, 2) := by decide +kernel
theorem dX12_linkKept_3 : decode cX12_linkKept 3 = .ok (.iload 4, 2) := by decide +kernel
theorem dX12_linkKept_5 : decode cX12_linkKept 5 = .ok (.aload_n 0, 1) := by decide +kernel
theorem dX12_linkKept_6 : decode cX12_linkKept 6 = .ok (.iload_n 1, 1) := by decide +kernel
theorem dX12_linkKept_7 : decode cX12_linkKept 7 = .ok (.iconst 2, 1) := by decide +kernel
theorem dX12_linkKept_8 : decode cX12_linkKept 8 = .ok (.invokevirtual 180, 3) := by decide +kernel
theorem dX12_linkKept_11 : decode cX12_linkKept 11 = .ok (.if_icmp .ge 54, 3) := by decide +kernel
theorem dX12_linkKept_14 : decode cX12_linkKept 14 = .ok (.aload_n 0, 1) := by decide +kernel
theorem dX12_linkKept_15 : decode cX12_linkKept 15 = .ok (.iload_n 1, 1) := by decide +kernel
theorem dX12_linkKept_16 : decode cX12_linkKept 16 = .ok (.bipush 15, 2) := by decide +kernel
theorem dX12_linkKept_18 : decode cX12_linkKept 18 = .ok (.iconst 2, 1) := by decide +kernel
theorem dX12_linkKept_19 : decode cX12_linkKept 19 = .ok (.iload 4, 2) := by decide +kernel
theorem dX12_linkKept_21 : decode cX12_linkKept 21 = .ok (.imul, 1) := by decide +kernel
theorem dX12_linkKept_22 : decode cX12_linkKept 22 = .ok (.iadd, 1) := by decide +kernel
theorem dX12_linkKept_23 : decode cX12_linkKept 23 = .ok (.invokevirtual 180, 3) := by decide +kernel
theorem dX12_linkKept_26 : decode cX12_linkKept 26 = .ok (.iload_n 2, 1) := by decide +kernel
theorem dX12_linkKept_27 : decode cX12_linkKept 27 = .ok (.iload_n 3, 1) := by decide +kernel
theorem dX12_linkKept_28 : decode cX12_linkKept 28 = .ok (.invokestatic 63, 3) := by decide +kernel
theorem dX12_linkKept_31 : decode cX12_linkKept 31 = .ok (.if_icmp .ne 28, 3) := by decide +kernel
theorem dX12_linkKept_34 : decode cX12_linkKept 34 = .ok (.aload_n 0, 1) := by decide +kernel
theorem dX12_linkKept_35 : decode cX12_linkKept 35 = .ok (.iload_n 1, 1) := by decide +kernel
theorem dX12_linkKept_36 : decode cX12_linkKept 36 = .ok (.bipush 15, 2) := by decide +kernel
theorem dX12_linkKept_38 : decode cX12_linkKept 38 = .ok (.iconst 2, 1) := by decide +kernel
theorem dX12_linkKept_39 : decode cX12_linkKept 39 = .ok (.iload 4, 2) := by decide +kernel
theorem dX12_linkKept_41 : decode cX12_linkKept 41 = .ok (.imul, 1) := by decide +kernel
theorem dX12_linkKept_42 : decode cX12_linkKept 42 = .ok (.iadd, 1) := by decide +kernel
theorem dX12_linkKept_43 : decode cX12_linkKept 43 = .ok (.iconst 1, 1) := by decide +kernel
theorem dX12_linkKept_44 : decode cX12_linkKept 44 = .ok (.iadd, 1) := by decide +kernel
theorem dX12_linkKept_45 : decode cX12_linkKept 45 = .ok (.invokevirtual 180, 3) := by decide +kernel
theorem dX12_linkKept_48 : decode cX12_linkKept 48 = .ok (.iload_n 2, 1) := by decide +kernel
theorem dX12_linkKept_49 : decode cX12_linkKept 49 = .ok (.iload_n 3, 1) := by decide +kernel
theorem dX12_linkKept_50 : decode cX12_linkKept 50 = .ok (.invokestatic 67, 3) := by decide +kernel
theorem dX12_linkKept_53 : decode cX12_linkKept 53 = .ok (.if_icmp .ne 6, 3) := by decide +kernel
theorem dX12_linkKept_56 : decode cX12_linkKept 56 = .ok (.iload 4, 2) := by decide +kernel
theorem dX12_linkKept_58 : decode cX12_linkKept 58 = .ok (.ireturn, 1) := by decide +kernel
theorem dX12_linkKept_59 : decode cX12_linkKept 59 = .ok (.iinc 4 1, 3) := by decide +kernel
theorem dX12_linkKept_62 : decode cX12_linkKept 62 = .ok (.goto (-59), 3) := by decide +kernel
theorem dX12_linkKept_65 : decode cX12_linkKept 65 = .ok (.iconst (-1), 1) := by decide +kernel
theorem dX12_linkKept_66 : decode cX12_linkKept 66 = .ok (.ireturn, 1) := by decide +kernel
theorem dX12_learnsLink_0 : decode cX12_learnsLink 0 = .ok (.aload_n 0, 1) := by decide +kernel
theorem dX12_learnsLink_1 : decode cX12_learnsLink 1 = .ok (.iload_n 1, 1) := by decide +kernel
theorem dX12_learnsLink_2 : decode cX12_learnsLink 2 = .ok (.iload_n 2, 1) := by decide +kernel
theorem dX12_learnsLink_3 : decode cX12_learnsLink 3 = .ok (.iload_n 3, 1) := by decide +kernel
theorem dX12_learnsLink_4 : decode cX12_learnsLink 4 = .ok (.invokevirtual 202, 3) := by decide +kernel
theorem dX12_learnsLink_7 : decode cX12_learnsLink 7 = .ok (.istore 4, 2) := by decide +kernel
theorem dX12_learnsLink_9 : decode cX12_learnsLink 9 = .ok (.iload 4, 2) := by decide +kernel
theorem dX12_learnsLink_11 : decode cX12_learnsLink 11 = .ok (.iconst (-1), 1) := by decide +kernel
theorem dX12_learnsLink_12 : decode cX12_learnsLink 12 = .ok (.if_icmp .eq 11, 3) := by decide +kernel
theorem dX12_learnsLink_15 : decode cX12_learnsLink 15 = .ok (.aload_n 0, 1) := by decide +kernel
theorem dX12_learnsLink_16 : decode cX12_learnsLink 16 = .ok (.iload_n 1, 1) := by decide +kernel
theorem dX12_learnsLink_17 : decode cX12_learnsLink 17 = .ok (.iload 4, 2) := by decide +kernel
theorem dX12_learnsLink_19 : decode cX12_learnsLink 19 = .ok (.iconst 2, 1) := by decide +kernel
theorem dX12_learnsLink_20 : decode cX12_learnsLink 20 = .ok (.invokevirtual 196, 3) := by decide +kernel
theorem dX12_learnsLink_23 : decode cX12_learnsLink 23 = .ok (.aload_n 0, 1) := by decide +kernel
theorem dX12_learnsLink_24 : decode cX12_learnsLink 24 = .ok (.iload_n 1, 1) := by decide +kernel
theorem dX12_learnsLink_25 : decode cX12_learnsLink 25 = .ok (.iconst 2, 1) := by decide +kernel
theorem dX12_learnsLink_26 : decode cX12_learnsLink 26 = .ok (.iconst 3, 1) := by decide +kernel
theorem dX12_learnsLink_27 : decode cX12_learnsLink 27 = .ok (.aload_n 0, 1) := by decide +kernel
theorem dX12_learnsLink_28 : decode cX12_learnsLink 28 = .ok (.getfield 7, 3) := by decide +kernel
theorem dX12_learnsLink_31 : decode cX12_learnsLink 31 = .ok (.iconst 2, 1) := by decide +kernel
theorem dX12_learnsLink_32 : decode cX12_learnsLink 32 = .ok (.iaload, 1) := by decide +kernel
theorem dX12_learnsLink_33 : decode cX12_learnsLink 33 = .ok (.imul, 1) := by decide +kernel
theorem dX12_learnsLink_34 : decode cX12_learnsLink 34 = .ok (.invokevirtual 199, 3) := by decide +kernel
theorem dX12_learnsLink_37 : decode cX12_learnsLink 37 = .ok (.aload_n 0, 1) := by decide +kernel
theorem dX12_learnsLink_38 : decode cX12_learnsLink 38 = .ok (.iload_n 1, 1) := by decide +kernel
theorem dX12_learnsLink_39 : decode cX12_learnsLink 39 = .ok (.bipush 15, 2) := by decide +kernel
theorem dX12_learnsLink_41 : decode cX12_learnsLink 41 = .ok (.iload_n 2, 1) := by decide +kernel
theorem dX12_learnsLink_42 : decode cX12_learnsLink 42 = .ok (.iload_n 3, 1) := by decide +kernel
theorem dX12_learnsLink_43 : decode cX12_learnsLink 43 = .ok (.invokestatic 63, 3) := by decide +kernel
theorem dX12_learnsLink_46 : decode cX12_learnsLink 46 = .ok (.invokevirtual 170, 3) := by decide +kernel
theorem dX12_learnsLink_49 : decode cX12_learnsLink 49 = .ok (.aload_n 0, 1) := by decide +kernel
theorem dX12_learnsLink_50 : decode cX12_learnsLink 50 = .ok (.iload_n 1, 1) := by decide +kernel
theorem dX12_learnsLink_51 : decode cX12_learnsLink 51 = .ok (.bipush 16, 2) := by decide +kernel
theorem dX12_learnsLink_53 : decode cX12_learnsLink 53 = .ok (.iload_n 2, 1) := by decide +kernel
theorem dX12_learnsLink_54 : decode cX12_learnsLink 54 = .ok (.iload_n 3, 1) := by decide +kernel
theorem dX12_learnsLink_55 : decode cX12_learnsLink 55 = .ok (.invokestatic 67, 3) := by decide +kernel
theorem dX12_learnsLink_58 : decode cX12_learnsLink 58 = .ok (.invokevirtual 170, 3) := by decide +kernel
theorem dX12_learnsLink_61 : decode cX12_learnsLink 61 = .ok (.return_, 1) := by decide +kernel
theorem dX12_learns_0 : decode cX12_learns 0 = .ok (.aload_n 0, 1) := by decide +kernel
theorem dX12_learns_1 : decode cX12_learns 1 = .ok (.aload_n 0, 1) := by decide +kernel
theorem dX12_learns_2 : decode cX12_learns 2 = .ok (.getfield 186, 3) := by decide +kernel
theorem dX12_learns_5 : decode cX12_learns 5 = .ok (.aload_n 0, 1) := by decide +kernel
theorem dX12_learns_6 : decode cX12_learns 6 = .ok (.getfield 7, 3) := by decide +kernel
theorem dX12_learns_9 : decode cX12_learns 9 = .ok (.iconst 1, 1) := by decide +kernel
theorem dX12_learns_10 : decode cX12_learns 10 = .ok (.iaload, 1) := by decide +kernel
theorem dX12_learns_11 : decode cX12_learns 11 = .ok (.iconst 1, 1) := by decide +kernel
theorem dX12_learns_12 : decode cX12_learns 12 = .ok (.iadd, 1) := by decide +kernel
theorem dX12_learns_13 : decode cX12_learns 13 = .ok (.invokestatic 63, 3) := by decide +kernel
theorem dX12_learns_16 : decode cX12_learns 16 = .ok (.putfield 186, 3) := by decide +kernel
theorem dX12_learns_19 : decode cX12_learns 19 = .ok (.aload_n 0, 1) := by decide +kernel
theorem dX12_learns_20 : decode cX12_learns 20 = .ok (.getfield 186, 3) := by decide +kernel
theorem dX12_learns_23 : decode cX12_learns 23 = .ok (.iconst 2, 1) := by decide +kernel
theorem dX12_learns_24 : decode cX12_learns 24 = .ok (.if_icmp .ge 4, 3) := by decide +kernel
theorem dX12_learns_27 : decode cX12_learns 27 = .ok (.return_, 1) := by decide +kernel
theorem dX12_learns_28 : decode cX12_learns 28 = .ok (.aload_n 0, 1) := by decide +kernel
theorem dX12_learns_29 : decode cX12_learns 29 = .ok (.iload_n 1, 1) := by decide +kernel
theorem dX12_learns_30 : decode cX12_learns 30 = .ok (.iconst 0, 1) := by decide +kernel
theorem dX12_learns_31 : decode cX12_learns 31 = .ok (.invokevirtual 180, 3) := by decide +kernel
theorem dX12_learns_34 : decode cX12_learns 34 = .ok (.ifCond .ne 9, 3) := by decide +kernel
theorem dX12_learns_37 : decode cX12_learns 37 = .ok (.aload_n 0, 1) := by decide +kernel
theorem dX12_learns_38 : decode cX12_learns 38 = .ok (.iload_n 1, 1) := by decide +kernel
theorem dX12_learns_39 : decode cX12_learns 39 = .ok (.invokevirtual 205, 3) := by decide +kernel
theorem dX12_learns_42 : decode cX12_learns 42 = .ok (.return_, 1) := by decide +kernel
theorem dX12_learns_43 : decode cX12_learns 43 = .ok (.iconst 1, 1) := by decide +kernel
theorem dX12_learns_44 : decode cX12_learns 44 = .ok (.istore_n 2, 1) := by decide +kernel
theorem dX12_learns_45 : decode cX12_learns 45 = .ok (.iload_n 2, 1) := by decide +kernel
theorem dX12_learns_46 : decode cX12_learns 46 = .ok (.aload_n 0, 1) := by decide +kernel
theorem dX12_learns_47 : decode cX12_learns 47 = .ok (.getfield 186, 3) := by decide +kernel
theorem dX12_learns_50 : decode cX12_learns 50 = .ok (.if_icmp .ge 28, 3) := by decide +kernel
theorem dX12_learns_53 : decode cX12_learns 53 = .ok (.aload_n 0, 1) := by decide +kernel
theorem dX12_learns_54 : decode cX12_learns 54 = .ok (.iload_n 1, 1) := by decide +kernel
theorem dX12_learns_55 : decode cX12_learns 55 = .ok (.aload_n 0, 1) := by decide +kernel
theorem dX12_learns_56 : decode cX12_learns 56 = .ok (.getfield 30, 3) := by decide +kernel
theorem dX12_learns_59 : decode cX12_learns 59 = .ok (.iload_n 2, 1) := by decide +kernel
theorem dX12_learns_60 : decode cX12_learns 60 = .ok (.iconst 1, 1) := by decide +kernel
theorem dX12_learns_61 : decode cX12_learns 61 = .ok (.isub, 1) := by decide +kernel
theorem dX12_learns_62 : decode cX12_learns 62 = .ok (.iaload, 1) := by decide +kernel
theorem dX12_learns_63 : decode cX12_learns 63 = .ok (.aload_n 0, 1) := by decide +kernel
theorem dX12_learns_64 : decode cX12_learns 64 = .ok (.getfield 30, 3) := by decide +kernel
theorem dX12_learns_67 : decode cX12_learns 67 = .ok (.iload_n 2, 1) := by decide +kernel
theorem dX12_learns_68 : decode cX12_learns 68 = .ok (.iaload, 1) := by decide +kernel
theorem dX12_learns_69 : decode cX12_learns 69 = .ok (.invokevirtual 209, 3) := by decide +kernel
theorem dX12_learns_72 : decode cX12_learns 72 = .ok (.iinc 2 1, 3) := by decide +kernel
theorem dX12_learns_75 : decode cX12_learns 75 = .ok (.goto (-30), 3) := by decide +kernel
theorem dX12_learns_78 : decode cX12_learns 78 = .ok (.return_, 1) := by decide +kernel
theorem dX12_beginsLesson_0 : decode cX12_beginsLesson 0 = .ok (.aload_n 0, 1) := by decide +kernel
theorem dX12_beginsLesson_1 : decode cX12_beginsLesson 1 = .ok (.getfield 30, 3) := by decide +kernel
theorem dX12_beginsLesson_4 : decode cX12_beginsLesson 4 = .ok (.iconst 0, 1) := by decide +kernel
theorem dX12_beginsLesson_5 : decode cX12_beginsLesson 5 = .ok (.iload_n 1, 1) := by decide +kernel
theorem dX12_beginsLesson_6 : decode cX12_beginsLesson 6 = .ok (.iastore, 1) := by decide +kernel
theorem dX12_beginsLesson_7 : decode cX12_beginsLesson 7 = .ok (.aload_n 0, 1) := by decide +kernel
theorem dX12_beginsLesson_8 : decode cX12_beginsLesson 8 = .ok (.iconst 1, 1) := by decide +kernel
theorem dX12_beginsLesson_9 : decode cX12_beginsLesson 9 = .ok (.putfield 186, 3) := by decide +kernel
theorem dX12_beginsLesson_12 : decode cX12_beginsLesson 12 = .ok (.return_, 1) := by decide +kernel
theorem dX12_addsLesson_0 : decode cX12_addsLesson 0 = .ok (.aload_n 0, 1) := by decide +kernel
theorem dX12_addsLesson_1 : decode cX12_addsLesson 1 = .ok (.getfield 186, 3) := by decide +kernel
theorem dX12_addsLesson_4 : decode cX12_addsLesson 4 = .ok (.bipush 9, 2) := by decide +kernel
theorem dX12_addsLesson_6 : decode cX12_addsLesson 6 = .ok (.if_icmp .ge 23, 3) := by decide +kernel
theorem dX12_addsLesson_9 : decode cX12_addsLesson 9 = .ok (.aload_n 0, 1) := by decide +kernel
theorem dX12_addsLesson_10 : decode cX12_addsLesson 10 = .ok (.getfield 30, 3) := by decide +kernel
theorem dX12_addsLesson_13 : decode cX12_addsLesson 13 = .ok (.aload_n 0, 1) := by decide +kernel
theorem dX12_addsLesson_14 : decode cX12_addsLesson 14 = .ok (.getfield 186, 3) := by decide +kernel
theorem dX12_addsLesson_17 : decode cX12_addsLesson 17 = .ok (.iload_n 1, 1) := by decide +kernel
theorem dX12_addsLesson_18 : decode cX12_addsLesson 18 = .ok (.iastore, 1) := by decide +kernel
theorem dX12_addsLesson_19 : decode cX12_addsLesson 19 = .ok (.aload_n 0, 1) := by decide +kernel
theorem dX12_addsLesson_20 : decode cX12_addsLesson 20 = .ok (.dup, 1) := by decide +kernel
theorem dX12_addsLesson_21 : decode cX12_addsLesson 21 = .ok (.getfield 186, 3) := by decide +kernel
theorem dX12_addsLesson_24 : decode cX12_addsLesson 24 = .ok (.iconst 1, 1) := by decide +kernel
theorem dX12_addsLesson_25 : decode cX12_addsLesson 25 = .ok (.iadd, 1) := by decide +kernel
theorem dX12_addsLesson_26 : decode cX12_addsLesson 26 = .ok (.putfield 186, 3) := by decide +kernel
theorem dX12_addsLesson_29 : decode cX12_addsLesson 29 = .ok (.return_, 1) := by decide +kernel
theorem dX12_isVain_0 : decode cX12_isVain 0 = .ok (.aload_n 0, 1) := by decide +kernel
theorem dX12_isVain_1 : decode cX12_isVain 1 = .ok (.aload_n 0, 1) := by decide +kernel
theorem dX12_isVain_2 : decode cX12_isVain 2 = .ok (.iload_n 1, 1) := by decide +kernel
theorem dX12_isVain_3 : decode cX12_isVain 3 = .ok (.iload_n 2, 1) := by decide +kernel
theorem dX12_isVain_4 : decode cX12_isVain 4 = .ok (.invokevirtual 183, 3) := by decide +kernel
theorem dX12_isVain_7 : decode cX12_isVain 7 = .ok (.putfield 186, 3) := by decide +kernel
theorem dX12_isVain_10 : decode cX12_isVain 10 = .ok (.iconst 0, 1) := by decide +kernel
theorem dX12_isVain_11 : decode cX12_isVain 11 = .ok (.istore_n 3, 1) := by decide +kernel
theorem dX12_isVain_12 : decode cX12_isVain 12 = .ok (.iload_n 3, 1) := by decide +kernel
theorem dX12_isVain_13 : decode cX12_isVain 13 = .ok (.aload_n 0, 1) := by decide +kernel
theorem dX12_isVain_14 : decode cX12_isVain 14 = .ok (.getfield 186, 3) := by decide +kernel
theorem dX12_isVain_17 : decode cX12_isVain 17 = .ok (.if_icmp .ge 22, 3) := by decide +kernel
theorem dX12_isVain_20 : decode cX12_isVain 20 = .ok (.aload_n 0, 1) := by decide +kernel
theorem dX12_isVain_21 : decode cX12_isVain 21 = .ok (.getfield 30, 3) := by decide +kernel
theorem dX12_isVain_24 : decode cX12_isVain 24 = .ok (.iload_n 3, 1) := by decide +kernel
theorem dX12_isVain_25 : decode cX12_isVain 25 = .ok (.aload_n 0, 1) := by decide +kernel
theorem dX12_isVain_26 : decode cX12_isVain 26 = .ok (.iload_n 1, 1) := by decide +kernel
theorem dX12_isVain_27 : decode cX12_isVain 27 = .ok (.iload_n 2, 1) := by decide +kernel
theorem dX12_isVain_28 : decode cX12_isVain 28 = .ok (.iload_n 3, 1) := by decide +kernel
theorem dX12_isVain_29 : decode cX12_isVain 29 = .ok (.invokevirtual 189, 3) := by decide +kernel
theorem dX12_isVain_32 : decode cX12_isVain 32 = .ok (.iastore, 1) := by decide +kernel
theorem dX12_isVain_33 : decode cX12_isVain 33 = .ok (.iinc 3 1, 3) := by decide +kernel
theorem dX12_isVain_36 : decode cX12_isVain 36 = .ok (.goto (-24), 3) := by decide +kernel
theorem dX12_isVain_39 : decode cX12_isVain 39 = .ok (.aload_n 0, 1) := by decide +kernel
theorem dX12_isVain_40 : decode cX12_isVain 40 = .ok (.getfield 186, 3) := by decide +kernel
theorem dX12_isVain_43 : decode cX12_isVain 43 = .ok (.iconst 2, 1) := by decide +kernel
theorem dX12_isVain_44 : decode cX12_isVain 44 = .ok (.if_icmp .ge 7, 3) := by decide +kernel
theorem dX12_isVain_47 : decode cX12_isVain 47 = .ok (.iconst 1, 1) := by decide +kernel
theorem dX12_isVain_48 : decode cX12_isVain 48 = .ok (.goto 4, 3) := by decide +kernel
theorem dX12_isVain_51 : decode cX12_isVain 51 = .ok (.iconst 0, 1) := by decide +kernel
theorem dX12_isVain_52 : decode cX12_isVain 52 = .ok (.istore_n 3, 1) := by decide +kernel
theorem dX12_isVain_53 : decode cX12_isVain 53 = .ok (.iconst 0, 1) := by decide +kernel
theorem dX12_isVain_54 : decode cX12_isVain 54 = .ok (.istore 4, 2) := by decide +kernel
theorem dX12_isVain_56 : decode cX12_isVain 56 = .ok (.iload 4, 2) := by decide +kernel
theorem dX12_isVain_58 : decode cX12_isVain 58 = .ok (.iload_n 2, 1) := by decide +kernel
theorem dX12_isVain_59 : decode cX12_isVain 59 = .ok (.if_icmp .ge 21, 3) := by decide +kernel
theorem dX12_isVain_62 : decode cX12_isVain 62 = .ok (.iload_n 3, 1) := by decide +kernel
theorem dX12_isVain_63 : decode cX12_isVain 63 = .ok (.ifCond .ne 17, 3) := by decide +kernel
theorem dX12_isVain_66 : decode cX12_isVain 66 = .ok (.aload_n 0, 1) := by decide +kernel
theorem dX12_isVain_67 : decode cX12_isVain 67 = .ok (.iload_n 1, 1) := by decide +kernel
theorem dX12_isVain_68 : decode cX12_isVain 68 = .ok (.iload 4, 2) := by decide +kernel
theorem dX12_isVain_70 : decode cX12_isVain 70 = .ok (.invokevirtual 193, 3) := by decide +kernel
theorem dX12_isVain_73 : decode cX12_isVain 73 = .ok (.istore_n 3, 1) := by decide +kernel
theorem dX12_isVain_74 : decode cX12_isVain 74 = .ok (.iinc 4 1, 3) := by decide +kernel
theorem dX12_isVain_77 : decode cX12_isVain 77 = .ok (.goto (-21), 3) := by decide +kernel
theorem dX12_isVain_80 : decode cX12_isVain 80 = .ok (.iload_n 3, 1) := by decide +kernel
theorem dX12_isVain_81 : decode cX12_isVain 81 = .ok (.ireturn, 1) := by decide +kernel
theorem dX12_forgetsPaths_0 : decode cX12_forgetsPaths 0 = .ok (.iconst 0, 1) := by decide +kernel
theorem dX12_forgetsPaths_1 : decode cX12_forgetsPaths 1 = .ok (.istore 4, 2) := by decide +kernel
theorem dX12_forgetsPaths_3 : decode cX12_forgetsPaths 3 = .ok (.iload 4, 2) := by decide +kernel
theorem dX12_forgetsPaths_5 : decode cX12_forgetsPaths 5 = .ok (.aload_n 0, 1) := by decide +kernel
theorem dX12_forgetsPaths_6 : decode cX12_forgetsPaths 6 = .ok (.iload_n 1, 1) := by decide +kernel
theorem dX12_forgetsPaths_7 : decode cX12_forgetsPaths 7 = .ok (.iconst 2, 1) := by decide +kernel
theorem dX12_forgetsPaths_8 : decode cX12_forgetsPaths 8 = .ok (.invokevirtual 180, 3) := by decide +kernel
theorem dX12_forgetsPaths_11 : decode cX12_forgetsPaths 11 = .ok (.if_icmp .ge 93, 3) := by decide +kernel
theorem dX12_forgetsPaths_14 : decode cX12_forgetsPaths 14 = .ok (.iconst 1, 1) := by decide +kernel
theorem dX12_forgetsPaths_15 : decode cX12_forgetsPaths 15 = .ok (.istore 5, 2) := by decide +kernel
theorem dX12_forgetsPaths_17 : decode cX12_forgetsPaths 17 = .ok (.iload 5, 2) := by decide +kernel
theorem dX12_forgetsPaths_19 : decode cX12_forgetsPaths 19 = .ok (.aload_n 0, 1) := by decide +kernel
theorem dX12_forgetsPaths_20 : decode cX12_forgetsPaths 20 = .ok (.iload_n 1, 1) := by decide +kernel
theorem dX12_forgetsPaths_21 : decode cX12_forgetsPaths 21 = .ok (.iload 4, 2) := by decide +kernel
theorem dX12_forgetsPaths_23 : decode cX12_forgetsPaths 23 = .ok (.invokevirtual 183, 3) := by decide +kernel
theorem dX12_forgetsPaths_26 : decode cX12_forgetsPaths 26 = .ok (.if_icmp .ge 72, 3) := by decide +kernel
theorem dX12_forgetsPaths_29 : decode cX12_forgetsPaths 29 = .ok (.aload_n 0, 1) := by decide +kernel
theorem dX12_forgetsPaths_30 : decode cX12_forgetsPaths 30 = .ok (.iload_n 1, 1) := by decide +kernel
theorem dX12_forgetsPaths_31 : decode cX12_forgetsPaths 31 = .ok (.iload 4, 2) := by decide +kernel
theorem dX12_forgetsPaths_33 : decode cX12_forgetsPaths 33 = .ok (.iload 5, 2) := by decide +kernel
theorem dX12_forgetsPaths_35 : decode cX12_forgetsPaths 35 = .ok (.iconst 1, 1) := by decide +kernel
theorem dX12_forgetsPaths_36 : decode cX12_forgetsPaths 36 = .ok (.isub, 1) := by decide +kernel
theorem dX12_forgetsPaths_37 : decode cX12_forgetsPaths 37 = .ok (.invokevirtual 189, 3) := by decide +kernel
theorem dX12_forgetsPaths_40 : decode cX12_forgetsPaths 40 = .ok (.istore 6, 2) := by decide +kernel
theorem dX12_forgetsPaths_42 : decode cX12_forgetsPaths 42 = .ok (.aload_n 0, 1) := by decide +kernel
theorem dX12_forgetsPaths_43 : decode cX12_forgetsPaths 43 = .ok (.iload_n 1, 1) := by decide +kernel
theorem dX12_forgetsPaths_44 : decode cX12_forgetsPaths 44 = .ok (.iload 4, 2) := by decide +kernel
theorem dX12_forgetsPaths_46 : decode cX12_forgetsPaths 46 = .ok (.iload 5, 2) := by decide +kernel
theorem dX12_forgetsPaths_48 : decode cX12_forgetsPaths 48 = .ok (.invokevirtual 189, 3) := by decide +kernel
theorem dX12_forgetsPaths_51 : decode cX12_forgetsPaths 51 = .ok (.istore 7, 2) := by decide +kernel
theorem dX12_forgetsPaths_53 : decode cX12_forgetsPaths 53 = .ok (.iload 6, 2) := by decide +kernel
theorem dX12_forgetsPaths_55 : decode cX12_forgetsPaths 55 = .ok (.iload_n 2, 1) := by decide +kernel
theorem dX12_forgetsPaths_56 : decode cX12_forgetsPaths 56 = .ok (.if_icmp .ne 9, 3) := by decide +kernel
theorem dX12_forgetsPaths_59 : decode cX12_forgetsPaths 59 = .ok (.iload 7, 2) := by decide +kernel
theorem dX12_forgetsPaths_61 : decode cX12_forgetsPaths 61 = .ok (.iload_n 3, 1) := by decide +kernel
theorem dX12_forgetsPaths_62 : decode cX12_forgetsPaths 62 = .ok (.if_icmp .eq 15, 3) := by decide +kernel
theorem dX12_forgetsPaths_65 : decode cX12_forgetsPaths 65 = .ok (.iload 6, 2) := by decide +kernel
theorem dX12_forgetsPaths_67 : decode cX12_forgetsPaths 67 = .ok (.iload_n 3, 1) := by decide +kernel
theorem dX12_forgetsPaths_68 : decode cX12_forgetsPaths 68 = .ok (.if_icmp .ne 24, 3) := by decide +kernel
theorem dX12_forgetsPaths_71 : decode cX12_forgetsPaths 71 = .ok (.iload 7, 2) := by decide +kernel
theorem dX12_forgetsPaths_73 : decode cX12_forgetsPaths 73 = .ok (.iload_n 2, 1) := by decide +kernel
theorem dX12_forgetsPaths_74 : decode cX12_forgetsPaths 74 = .ok (.if_icmp .ne 18, 3) := by decide +kernel
theorem dX12_forgetsPaths_77 : decode cX12_forgetsPaths 77 = .ok (.aload_n 0, 1) := by decide +kernel
theorem dX12_forgetsPaths_78 : decode cX12_forgetsPaths 78 = .ok (.iload_n 1, 1) := by decide +kernel
theorem dX12_forgetsPaths_79 : decode cX12_forgetsPaths 79 = .ok (.bipush 15, 2) := by decide +kernel
theorem dX12_forgetsPaths_81 : decode cX12_forgetsPaths 81 = .ok (.bipush 9, 2) := by decide +kernel
theorem dX12_forgetsPaths_83 : decode cX12_forgetsPaths 83 = .ok (.iload 4, 2) := by decide +kernel
theorem dX12_forgetsPaths_85 : decode cX12_forgetsPaths 85 = .ok (.imul, 1) := by decide +kernel
theorem dX12_forgetsPaths_86 : decode cX12_forgetsPaths 86 = .ok (.iadd, 1) := by decide +kernel
theorem dX12_forgetsPaths_87 : decode cX12_forgetsPaths 87 = .ok (.iload 5, 2) := by decide +kernel
theorem dX12_forgetsPaths_89 : decode cX12_forgetsPaths 89 = .ok (.invokevirtual 170, 3) := by decide +kernel
theorem dX12_forgetsPaths_92 : decode cX12_forgetsPaths 92 = .ok (.iinc 5 1, 3) := by decide +kernel
theorem dX12_forgetsPaths_95 : decode cX12_forgetsPaths 95 = .ok (.goto (-78), 3) := by decide +kernel
theorem dX12_forgetsPaths_98 : decode cX12_forgetsPaths 98 = .ok (.iinc 4 1, 3) := by decide +kernel
theorem dX12_forgetsPaths_101 : decode cX12_forgetsPaths 101 = .ok (.goto (-98), 3) := by decide +kernel
theorem dX12_forgetsPaths_104 : decode cX12_forgetsPaths 104 = .ok (.iconst 0, 1) := by decide +kernel
theorem dX12_forgetsPaths_105 : decode cX12_forgetsPaths 105 = .ok (.istore 4, 2) := by decide +kernel
theorem dX12_forgetsPaths_107 : decode cX12_forgetsPaths 107 = .ok (.iload 4, 2) := by decide +kernel
theorem dX12_forgetsPaths_109 : decode cX12_forgetsPaths 109 = .ok (.aload_n 0, 1) := by decide +kernel
theorem dX12_forgetsPaths_110 : decode cX12_forgetsPaths 110 = .ok (.iload_n 1, 1) := by decide +kernel
theorem dX12_forgetsPaths_111 : decode cX12_forgetsPaths 111 = .ok (.iconst 2, 1) := by decide +kernel
theorem dX12_forgetsPaths_112 : decode cX12_forgetsPaths 112 = .ok (.invokevirtual 180, 3) := by decide +kernel
theorem dX12_forgetsPaths_115 : decode cX12_forgetsPaths 115 = .ok (.if_icmp .ge 31, 3) := by decide +kernel
theorem dX12_forgetsPaths_118 : decode cX12_forgetsPaths 118 = .ok (.aload_n 0, 1) := by decide +kernel
theorem dX12_forgetsPaths_119 : decode cX12_forgetsPaths 119 = .ok (.iload_n 1, 1) := by decide +kernel
theorem dX12_forgetsPaths_120 : decode cX12_forgetsPaths 120 = .ok (.iload 4, 2) := by decide +kernel
theorem dX12_forgetsPaths_122 : decode cX12_forgetsPaths 122 = .ok (.invokevirtual 212, 3) := by decide +kernel
theorem dX12_forgetsPaths_125 : decode cX12_forgetsPaths 125 = .ok (.ifCond .eq 15, 3) := by decide +kernel
theorem dX12_forgetsPaths_128 : decode cX12_forgetsPaths 128 = .ok (.aload_n 0, 1) := by decide +kernel
theorem dX12_forgetsPaths_129 : decode cX12_forgetsPaths 129 = .ok (.iload_n 1, 1) := by decide +kernel
theorem dX12_forgetsPaths_130 : decode cX12_forgetsPaths 130 = .ok (.iload 4, 2) := by decide +kernel
theorem dX12_forgetsPaths_132 : decode cX12_forgetsPaths 132 = .ok (.bipush 9, 2) := by decide +kernel
theorem dX12_forgetsPaths_134 : decode cX12_forgetsPaths 134 = .ok (.invokevirtual 196, 3) := by decide +kernel
theorem dX12_forgetsPaths_137 : decode cX12_forgetsPaths 137 = .ok (.goto (-30), 3) := by decide +kernel
theorem dX12_forgetsPaths_140 : decode cX12_forgetsPaths 140 = .ok (.iinc 4 1, 3) := by decide +kernel
theorem dX12_forgetsPaths_143 : decode cX12_forgetsPaths 143 = .ok (.goto (-36), 3) := by decide +kernel
theorem dX12_forgetsPaths_146 : decode cX12_forgetsPaths 146 = .ok (.return_, 1) := by decide +kernel
theorem dX12_forgets_0 : decode cX12_forgets 0 = .ok (.aload_n 0, 1) := by decide +kernel
theorem dX12_forgets_1 : decode cX12_forgets 1 = .ok (.iload_n 1, 1) := by decide +kernel
theorem dX12_forgets_2 : decode cX12_forgets 2 = .ok (.iconst 0, 1) := by decide +kernel
theorem dX12_forgets_3 : decode cX12_forgets 3 = .ok (.invokevirtual 180, 3) := by decide +kernel
theorem dX12_forgets_6 : decode cX12_forgets 6 = .ok (.ifCond .ne 11, 3) := by decide +kernel
theorem dX12_forgets_9 : decode cX12_forgets 9 = .ok (.aload_n 0, 1) := by decide +kernel
theorem dX12_forgets_10 : decode cX12_forgets 10 = .ok (.iload_n 1, 1) := by decide +kernel
theorem dX12_forgets_11 : decode cX12_forgets 11 = .ok (.iload_n 2, 1) := by decide +kernel
theorem dX12_forgets_12 : decode cX12_forgets 12 = .ok (.iload_n 3, 1) := by decide +kernel
theorem dX12_forgets_13 : decode cX12_forgets 13 = .ok (.invokevirtual 215, 3) := by decide +kernel
theorem dX12_forgets_16 : decode cX12_forgets 16 = .ok (.return_, 1) := by decide +kernel
theorem dX12_forgets_17 : decode cX12_forgets 17 = .ok (.aload_n 0, 1) := by decide +kernel
theorem dX12_forgets_18 : decode cX12_forgets 18 = .ok (.iload_n 1, 1) := by decide +kernel
theorem dX12_forgets_19 : decode cX12_forgets 19 = .ok (.iload_n 2, 1) := by decide +kernel
theorem dX12_forgets_20 : decode cX12_forgets 20 = .ok (.iload_n 3, 1) := by decide +kernel
theorem dX12_forgets_21 : decode cX12_forgets 21 = .ok (.invokevirtual 202, 3) := by decide +kernel
theorem dX12_forgets_24 : decode cX12_forgets 24 = .ok (.istore 4, 2) := by decide +kernel
theorem dX12_forgets_26 : decode cX12_forgets 26 = .ok (.iload 4, 2) := by decide +kernel
theorem dX12_forgets_28 : decode cX12_forgets 28 = .ok (.iconst (-1), 1) := by decide +kernel
theorem dX12_forgets_29 : decode cX12_forgets 29 = .ok (.if_icmp .eq 11, 3) := by decide +kernel
theorem dX12_forgets_32 : decode cX12_forgets 32 = .ok (.aload_n 0, 1) := by decide +kernel
theorem dX12_forgets_33 : decode cX12_forgets 33 = .ok (.iload_n 1, 1) := by decide +kernel
theorem dX12_forgets_34 : decode cX12_forgets 34 = .ok (.iload 4, 2) := by decide +kernel
theorem dX12_forgets_36 : decode cX12_forgets 36 = .ok (.iconst 2, 1) := by decide +kernel
theorem dX12_forgets_37 : decode cX12_forgets 37 = .ok (.invokevirtual 196, 3) := by decide +kernel
theorem dX12_forgets_40 : decode cX12_forgets 40 = .ok (.return_, 1) := by decide +kernel
theorem dX12_forgetsLink_0 : decode cX12_forgetsLink 0 = .ok (.iload_n 2, 1) := by decide +kernel
theorem dX12_forgetsLink_1 : decode cX12_forgetsLink 1 = .ok (.iconst (-1), 1) := by decide +kernel
theorem dX12_forgetsLink_2 : decode cX12_forgetsLink 2 = .ok (.if_icmp .eq 16, 3) := by decide +kernel
theorem dX12_forgetsLink_5 : decode cX12_forgetsLink 5 = .ok (.aload_n 0, 1) := by decide +kernel
theorem dX12_forgetsLink_6 : decode cX12_forgetsLink 6 = .ok (.iload_n 1, 1) := by decide +kernel
theorem dX12_forgetsLink_7 : decode cX12_forgetsLink 7 = .ok (.iload_n 2, 1) := by decide +kernel
theorem dX12_forgetsLink_8 : decode cX12_forgetsLink 8 = .ok (.bipush 10, 2) := by decide +kernel
theorem dX12_forgetsLink_10 : decode cX12_forgetsLink 10 = .ok (.idiv, 1) := by decide +kernel
theorem dX12_forgetsLink_11 : decode cX12_forgetsLink 11 = .ok (.iload_n 2, 1) := by decide +kernel
theorem dX12_forgetsLink_12 : decode cX12_forgetsLink 12 = .ok (.bipush 10, 2) := by decide +kernel
theorem dX12_forgetsLink_14 : decode cX12_forgetsLink 14 = .ok (.irem, 1) := by decide +kernel
theorem dX12_forgetsLink_15 : decode cX12_forgetsLink 15 = .ok (.invokevirtual 218, 3) := by decide +kernel
theorem dX12_forgetsLink_18 : decode cX12_forgetsLink 18 = .ok (.return_, 1) := by decide +kernel
theorem dX12_knows_0 : decode cX12_knows 0 = .ok (.aload_n 0, 1) := by decide +kernel
theorem dX12_knows_1 : decode cX12_knows 1 = .ok (.getfield 36, 3) := by decide +kernel
theorem dX12_knows_4 : decode cX12_knows 4 = .ok (.bipush 8, 2) := by decide +kernel
theorem dX12_knows_6 : decode cX12_knows 6 = .ok (.iload_n 1, 1) := by decide +kernel
theorem dX12_knows_7 : decode cX12_knows 7 = .ok (.imul, 1) := by decide +kernel
theorem dX12_knows_8 : decode cX12_knows 8 = .ok (.iload_n 2, 1) := by decide +kernel
theorem dX12_knows_9 : decode cX12_knows 9 = .ok (.iadd, 1) := by decide +kernel
theorem dX12_knows_10 : decode cX12_knows 10 = .ok (.iconst 1, 1) := by decide +kernel
theorem dX12_knows_11 : decode cX12_knows 11 = .ok (.bastore, 1) := by decide +kernel
theorem dX12_knows_12 : decode cX12_knows 12 = .ok (.aload_n 0, 1) := by decide +kernel
theorem dX12_knows_13 : decode cX12_knows 13 = .ok (.getfield 36, 3) := by decide +kernel
theorem dX12_knows_16 : decode cX12_knows 16 = .ok (.bipush 8, 2) := by decide +kernel
theorem dX12_knows_18 : decode cX12_knows 18 = .ok (.iload_n 2, 1) := by decide +kernel
theorem dX12_knows_19 : decode cX12_knows 19 = .ok (.imul, 1) := by decide +kernel
theorem dX12_knows_20 : decode cX12_knows 20 = .ok (.iload_n 1, 1) := by decide +kernel
theorem dX12_knows_21 : decode cX12_knows 21 = .ok (.iadd, 1) := by decide +kernel
theorem dX12_knows_22 : decode cX12_knows 22 = .ok (.iconst 1, 1) := by decide +kernel
theorem dX12_knows_23 : decode cX12_knows 23 = .ok (.bastore, 1) := by decide +kernel
theorem dX12_knows_24 : decode cX12_knows 24 = .ok (.return_, 1) := by decide +kernel
theorem dX12_laysKnown_0 : decode cX12_laysKnown 0 = .ok (.iconst 0, 1) := by decide +kernel
theorem dX12_laysKnown_1 : decode cX12_laysKnown 1 = .ok (.istore_n 2, 1) := by decide +kernel
theorem dX12_laysKnown_2 : decode cX12_laysKnown 2 = .ok (.iload_n 2, 1) := by decide +kernel
theorem dX12_laysKnown_3 : decode cX12_laysKnown 3 = .ok (.bipush 64, 2) := by decide +kernel
theorem dX12_laysKnown_5 : decode cX12_laysKnown 5 = .ok (.if_icmp .ge 16, 3) := by decide +kernel
theorem dX12_laysKnown_8 : decode cX12_laysKnown 8 = .ok (.aload_n 0, 1) := by decide +kernel
theorem dX12_laysKnown_9 : decode cX12_laysKnown 9 = .ok (.getfield 36, 3) := by decide +kernel
theorem dX12_laysKnown_12 : decode cX12_laysKnown 12 = .ok (.iload_n 2, 1) := by decide +kernel
theorem dX12_laysKnown_13 : decode cX12_laysKnown 13 = .ok (.iconst 0, 1) := by decide +kernel
theorem dX12_laysKnown_14 : decode cX12_laysKnown 14 = .ok (.bastore, 1) := by decide +kernel
theorem dX12_laysKnown_15 : decode cX12_laysKnown 15 = .ok (.iinc 2 1, 3) := by decide +kernel
theorem dX12_laysKnown_18 : decode cX12_laysKnown 18 = .ok (.goto (-16), 3) := by decide +kernel
theorem dX12_laysKnown_21 : decode cX12_laysKnown 21 = .ok (.iconst 0, 1) := by decide +kernel
theorem dX12_laysKnown_22 : decode cX12_laysKnown 22 = .ok (.istore_n 2, 1) := by decide +kernel
theorem dX12_laysKnown_23 : decode cX12_laysKnown 23 = .ok (.iload_n 2, 1) := by decide +kernel
theorem dX12_laysKnown_24 : decode cX12_laysKnown 24 = .ok (.aload_n 0, 1) := by decide +kernel
theorem dX12_laysKnown_25 : decode cX12_laysKnown 25 = .ok (.iload_n 1, 1) := by decide +kernel
theorem dX12_laysKnown_26 : decode cX12_laysKnown 26 = .ok (.iconst 2, 1) := by decide +kernel
theorem dX12_laysKnown_27 : decode cX12_laysKnown 27 = .ok (.invokevirtual 180, 3) := by decide +kernel
theorem dX12_laysKnown_30 : decode cX12_laysKnown 30 = .ok (.if_icmp .ge 94, 3) := by decide +kernel
theorem dX12_laysKnown_33 : decode cX12_laysKnown 33 = .ok (.aload_n 0, 1) := by decide +kernel
theorem dX12_laysKnown_34 : decode cX12_laysKnown 34 = .ok (.iload_n 1, 1) := by decide +kernel
theorem dX12_laysKnown_35 : decode cX12_laysKnown 35 = .ok (.iconst 0, 1) := by decide +kernel
theorem dX12_laysKnown_36 : decode cX12_laysKnown 36 = .ok (.invokevirtual 180, 3) := by decide +kernel
theorem dX12_laysKnown_39 : decode cX12_laysKnown 39 = .ok (.iconst 1, 1) := by decide +kernel
theorem dX12_laysKnown_40 : decode cX12_laysKnown 40 = .ok (.if_icmp .ne 31, 3) := by decide +kernel
theorem dX12_laysKnown_43 : decode cX12_laysKnown 43 = .ok (.aload_n 0, 1) := by decide +kernel
theorem dX12_laysKnown_44 : decode cX12_laysKnown 44 = .ok (.aload_n 0, 1) := by decide +kernel
theorem dX12_laysKnown_45 : decode cX12_laysKnown 45 = .ok (.iload_n 1, 1) := by decide +kernel
theorem dX12_laysKnown_46 : decode cX12_laysKnown 46 = .ok (.bipush 15, 2) := by decide +kernel
theorem dX12_laysKnown_48 : decode cX12_laysKnown 48 = .ok (.iconst 2, 1) := by decide +kernel
theorem dX12_laysKnown_49 : decode cX12_laysKnown 49 = .ok (.iload_n 2, 1) := by decide +kernel
theorem dX12_laysKnown_50 : decode cX12_laysKnown 50 = .ok (.imul, 1) := by decide +kernel
theorem dX12_laysKnown_51 : decode cX12_laysKnown 51 = .ok (.iadd, 1) := by decide +kernel
theorem dX12_laysKnown_52 : decode cX12_laysKnown 52 = .ok (.invokevirtual 180, 3) := by decide +kernel
theorem dX12_laysKnown_55 : decode cX12_laysKnown 55 = .ok (.aload_n 0, 1) := by decide +kernel
theorem dX12_laysKnown_56 : decode cX12_laysKnown 56 = .ok (.iload_n 1, 1) := by decide +kernel
theorem dX12_laysKnown_57 : decode cX12_laysKnown 57 = .ok (.bipush 15, 2) := by decide +kernel
theorem dX12_laysKnown_59 : decode cX12_laysKnown 59 = .ok (.iconst 2, 1) := by decide +kernel
theorem dX12_laysKnown_60 : decode cX12_laysKnown 60 = .ok (.iload_n 2, 1) := by decide +kernel
theorem dX12_laysKnown_61 : decode cX12_laysKnown 61 = .ok (.imul, 1) := by decide +kernel
theorem dX12_laysKnown_62 : decode cX12_laysKnown 62 = .ok (.iadd, 1) := by decide +kernel
theorem dX12_laysKnown_63 : decode cX12_laysKnown 63 = .ok (.iconst 1, 1) := by decide +kernel
theorem dX12_laysKnown_64 : decode cX12_laysKnown 64 = .ok (.iadd, 1) := by decide +kernel
theorem dX12_laysKnown_65 : decode cX12_laysKnown 65 = .ok (.invokevirtual 180, 3) := by decide +kernel
theorem dX12_laysKnown_68 : decode cX12_laysKnown 68 = .ok (.invokevirtual 221, 3) := by decide +kernel
theorem dX12_laysKnown_71 : decode cX12_laysKnown 71 = .ok (.iconst 1, 1) := by decide +kernel
theorem dX12_laysKnown_72 : decode cX12_laysKnown 72 = .ok (.istore_n 3, 1) := by decide +kernel
theorem dX12_laysKnown_73 : decode cX12_laysKnown 73 = .ok (.aload_n 0, 1) := by decide +kernel
theorem dX12_laysKnown_74 : decode cX12_laysKnown 74 = .ok (.iload_n 1, 1) := by decide +kernel
theorem dX12_laysKnown_75 : decode cX12_laysKnown 75 = .ok (.iconst 0, 1) := by decide +kernel
theorem dX12_laysKnown_76 : decode cX12_laysKnown 76 = .ok (.invokevirtual 180, 3) := by decide +kernel
theorem dX12_laysKnown_79 : decode cX12_laysKnown 79 = .ok (.ifCond .ne 39, 3) := by decide +kernel
theorem dX12_laysKnown_82 : decode cX12_laysKnown 82 = .ok (.iload_n 3, 1) := by decide +kernel
theorem dX12_laysKnown_83 : decode cX12_laysKnown 83 = .ok (.aload_n 0, 1) := by decide +kernel
theorem dX12_laysKnown_84 : decode cX12_laysKnown 84 = .ok (.iload_n 1, 1) := by decide +kernel
theorem dX12_laysKnown_85 : decode cX12_laysKnown 85 = .ok (.iload_n 2, 1) := by decide +kernel
theorem dX12_laysKnown_86 : decode cX12_laysKnown 86 = .ok (.invokevirtual 183, 3) := by decide +kernel
theorem dX12_laysKnown_89 : decode cX12_laysKnown 89 = .ok (.if_icmp .ge 29, 3) := by decide +kernel
theorem dX12_laysKnown_92 : decode cX12_laysKnown 92 = .ok (.aload_n 0, 1) := by decide +kernel
theorem dX12_laysKnown_93 : decode cX12_laysKnown 93 = .ok (.aload_n 0, 1) := by decide +kernel
theorem dX12_laysKnown_94 : decode cX12_laysKnown 94 = .ok (.iload_n 1, 1) := by decide +kernel
theorem dX12_laysKnown_95 : decode cX12_laysKnown 95 = .ok (.iload_n 2, 1) := by decide +kernel
theorem dX12_laysKnown_96 : decode cX12_laysKnown 96 = .ok (.iload_n 3, 1) := by decide +kernel
theorem dX12_laysKnown_97 : decode cX12_laysKnown 97 = .ok (.iconst 1, 1) := by decide +kernel
theorem dX12_laysKnown_98 : decode cX12_laysKnown 98 = .ok (.isub, 1) := by decide +kernel
theorem dX12_laysKnown_99 : decode cX12_laysKnown 99 = .ok (.invokevirtual 189, 3) := by decide +kernel
theorem dX12_laysKnown_102 : decode cX12_laysKnown 102 = .ok (.aload_n 0, 1) := by decide +kernel
theorem dX12_laysKnown_103 : decode cX12_laysKnown 103 = .ok (.iload_n 1, 1) := by decide +kernel
theorem dX12_laysKnown_104 : decode cX12_laysKnown 104 = .ok (.iload_n 2, 1) := by decide +kernel
theorem dX12_laysKnown_105 : decode cX12_laysKnown 105 = .ok (.iload_n 3, 1) := by decide +kernel
theorem dX12_laysKnown_106 : decode cX12_laysKnown 106 = .ok (.invokevirtual 189, 3) := by decide +kernel
theorem dX12_laysKnown_109 : decode cX12_laysKnown 109 = .ok (.invokevirtual 221, 3) := by decide +kernel
theorem dX12_laysKnown_112 : decode cX12_laysKnown 112 = .ok (.iinc 3 1, 3) := by decide +kernel
theorem dX12_laysKnown_115 : decode cX12_laysKnown 115 = .ok (.goto (-42), 3) := by decide +kernel
theorem dX12_laysKnown_118 : decode cX12_laysKnown 118 = .ok (.iinc 2 1, 3) := by decide +kernel
theorem dX12_laysKnown_121 : decode cX12_laysKnown 121 = .ok (.goto (-98), 3) := by decide +kernel
theorem dX12_laysKnown_124 : decode cX12_laysKnown 124 = .ok (.return_, 1) := by decide +kernel
theorem dX12_laysFar_0 : decode cX12_laysFar 0 = .ok (.iconst 0, 1) := by decide +kernel
theorem dX12_laysFar_1 : decode cX12_laysFar 1 = .ok (.istore_n 2, 1) := by decide +kernel
theorem dX12_laysFar_2 : decode cX12_laysFar 2 = .ok (.iload_n 2, 1) := by decide +kernel
theorem dX12_laysFar_3 : decode cX12_laysFar 3 = .ok (.bipush 8, 2) := by decide +kernel
theorem dX12_laysFar_5 : decode cX12_laysFar 5 = .ok (.if_icmp .ge 26, 3) := by decide +kernel
theorem dX12_laysFar_8 : decode cX12_laysFar 8 = .ok (.aload_n 0, 1) := by decide +kernel
theorem dX12_laysFar_9 : decode cX12_laysFar 9 = .ok (.getfield 39, 3) := by decide +kernel
theorem dX12_laysFar_12 : decode cX12_laysFar 12 = .ok (.iload_n 2, 1) := by decide +kernel
theorem dX12_laysFar_13 : decode cX12_laysFar 13 = .ok (.iload_n 2, 1) := by decide +kernel
theorem dX12_laysFar_14 : decode cX12_laysFar 14 = .ok (.iload_n 1, 1) := by decide +kernel
theorem dX12_laysFar_15 : decode cX12_laysFar 15 = .ok (.if_icmp .ne 7, 3) := by decide +kernel
theorem dX12_laysFar_18 : decode cX12_laysFar 18 = .ok (.iconst 0, 1) := by decide +kernel
theorem dX12_laysFar_19 : decode cX12_laysFar 19 = .ok (.goto 5, 3) := by decide +kernel
theorem dX12_laysFar_22 : decode cX12_laysFar 22 = .ok (.bipush 99, 2) := by decide +kernel
theorem dX12_laysFar_24 : decode cX12_laysFar 24 = .ok (.iastore, 1) := by decide +kernel
theorem dX12_laysFar_25 : decode cX12_laysFar 25 = .ok (.iinc 2 1, 3) := by decide +kernel
theorem dX12_laysFar_28 : decode cX12_laysFar 28 = .ok (.goto (-26), 3) := by decide +kernel
theorem dX12_laysFar_31 : decode cX12_laysFar 31 = .ok (.iconst 0, 1) := by decide +kernel
theorem dX12_laysFar_32 : decode cX12_laysFar 32 = .ok (.istore_n 2, 1) := by decide +kernel
theorem dX12_laysFar_33 : decode cX12_laysFar 33 = .ok (.iload_n 2, 1) := by decide +kernel
theorem dX12_laysFar_34 : decode cX12_laysFar 34 = .ok (.bipush 8, 2) := by decide +kernel
theorem dX12_laysFar_36 : decode cX12_laysFar 36 = .ok (.if_icmp .ge 64, 3) := by decide +kernel
theorem dX12_laysFar_39 : decode cX12_laysFar 39 = .ok (.iconst 0, 1) := by decide +kernel
theorem dX12_laysFar_40 : decode cX12_laysFar 40 = .ok (.istore_n 3, 1) := by decide +kernel
theorem dX12_laysFar_41 : decode cX12_laysFar 41 = .ok (.iload_n 3, 1) := by decide +kernel
theorem dX12_laysFar_42 : decode cX12_laysFar 42 = .ok (.bipush 64, 2) := by decide +kernel
theorem dX12_laysFar_44 : decode cX12_laysFar 44 = .ok (.if_icmp .ge 50, 3) := by decide +kernel
theorem dX12_laysFar_47 : decode cX12_laysFar 47 = .ok (.aload_n 0, 1) := by decide +kernel
theorem dX12_laysFar_48 : decode cX12_laysFar 48 = .ok (.getfield 36, 3) := by decide +kernel
theorem dX12_laysFar_51 : decode cX12_laysFar 51 = .ok (.iload_n 3, 1) := by decide +kernel
theorem dX12_laysFar_52 : decode cX12_laysFar 52 = .ok (.baload, 1) := by decide +kernel
theorem dX12_laysFar_53 : decode cX12_laysFar 53 = .ok (.ifCond .eq 35, 3) := by decide +kernel
theorem dX12_laysFar_56 : decode cX12_laysFar 56 = .ok (.aload_n 0, 1) := by decide +kernel
theorem dX12_laysFar_57 : decode cX12_laysFar 57 = .ok (.getfield 39, 3) := by decide +kernel
theorem dX12_laysFar_60 : decode cX12_laysFar 60 = .ok (.iload_n 3, 1) := by decide +kernel
theorem dX12_laysFar_61 : decode cX12_laysFar 61 = .ok (.bipush 8, 2) := by decide +kernel
theorem dX12_laysFar_63 : decode cX12_laysFar 63 = .ok (.idiv, 1) := by decide +kernel
theorem dX12_laysFar_64 : decode cX12_laysFar 64 = .ok (.aload_n 0, 1) := by decide +kernel
theorem dX12_laysFar_65 : decode cX12_laysFar 65 = .ok (.getfield 39, 3) := by decide +kernel
theorem dX12_laysFar_68 : decode cX12_laysFar 68 = .ok (.iload_n 3, 1) := by decide +kernel
theorem dX12_laysFar_69 : decode cX12_laysFar 69 = .ok (.bipush 8, 2) := by decide +kernel
theorem dX12_laysFar_71 : decode cX12_laysFar 71 = .ok (.idiv, 1) := by decide +kernel
theorem dX12_laysFar_72 : decode cX12_laysFar 72 = .ok (.iaload, 1) := by decide +kernel
theorem dX12_laysFar_73 : decode cX12_laysFar 73 = .ok (.aload_n 0, 1) := by decide +kernel
theorem dX12_laysFar_74 : decode cX12_laysFar 74 = .ok (.getfield 39, 3) := by decide +kernel
theorem dX12_laysFar_77 : decode cX12_laysFar 77 = .ok (.iload_n 3, 1) := by decide +kernel
theorem dX12_laysFar_78 : decode cX12_laysFar 78 = .ok (.bipush 8, 2) := by decide +kernel
theorem dX12_laysFar_80 : decode cX12_laysFar 80 = .ok (.irem, 1) := by decide +kernel
theorem dX12_laysFar_81 : decode cX12_laysFar 81 = .ok (.iaload, 1) := by decide +kernel
theorem dX12_laysFar_82 : decode cX12_laysFar 82 = .ok (.iconst 1, 1) := by decide +kernel
theorem dX12_laysFar_83 : decode cX12_laysFar 83 = .ok (.iadd, 1) := by decide +kernel
theorem dX12_laysFar_84 : decode cX12_laysFar 84 = .ok (.invokestatic 63, 3) := by decide +kernel
theorem dX12_laysFar_87 : decode cX12_laysFar 87 = .ok (.iastore, 1) := by decide +kernel
theorem dX12_laysFar_88 : decode cX12_laysFar 88 = .ok (.iinc 3 1, 3) := by decide +kernel
theorem dX12_laysFar_91 : decode cX12_laysFar 91 = .ok (.goto (-50), 3) := by decide +kernel
theorem dX12_laysFar_94 : decode cX12_laysFar 94 = .ok (.iinc 2 1, 3) := by decide +kernel
theorem dX12_laysFar_97 : decode cX12_laysFar 97 = .ok (.goto (-64), 3) := by decide +kernel
theorem dX12_laysFar_100 : decode cX12_laysFar 100 = .ok (.return_, 1) := by decide +kernel
theorem dX12_findsByMap_0 : decode cX12_findsByMap 0 = .ok (.aload_n 0, 1) := by decide +kernel
theorem dX12_findsByMap_1 : decode cX12_findsByMap 1 = .ok (.iload_n 1, 1) := by decide +kernel
theorem dX12_findsByMap_2 : decode cX12_findsByMap 2 = .ok (.invokevirtual 225, 3) := by decide +kernel
theorem dX12_findsByMap_5 : decode cX12_findsByMap 5 = .ok (.aload_n 0, 1) := by decide +kernel
theorem dX12_findsByMap_6 : decode cX12_findsByMap 6 = .ok (.iload_n 2, 1) := by decide +kernel
theorem dX12_findsByMap_7 : decode cX12_findsByMap 7 = .ok (.invokevirtual 228, 3) := by decide +kernel
theorem dX12_findsByMap_10 : decode cX12_findsByMap 10 = .ok (.aload_n 0, 1) := by decide +kernel
theorem dX12_findsByMap_11 : decode cX12_findsByMap 11 = .ok (.iconst 0, 1) := by decide +kernel
theorem dX12_findsByMap_12 : decode cX12_findsByMap 12 = .ok (.putfield 231, 3) := by decide +kernel
theorem dX12_findsByMap_15 : decode cX12_findsByMap 15 = .ok (.aload_n 0, 1) := by decide +kernel
theorem dX12_findsByMap_16 : decode cX12_findsByMap 16 = .ok (.getfield 39, 3) := by decide +kernel
theorem dX12_findsByMap_19 : decode cX12_findsByMap 19 = .ok (.iload_n 1, 1) := by decide +kernel
theorem dX12_findsByMap_20 : decode cX12_findsByMap 20 = .ok (.iaload, 1) := by decide +kernel
theorem dX12_findsByMap_21 : decode cX12_findsByMap 21 = .ok (.aload_n 0, 1) := by decide +kernel
theorem dX12_findsByMap_22 : decode cX12_findsByMap 22 = .ok (.getfield 7, 3) := by decide +kernel
theorem dX12_findsByMap_25 : decode cX12_findsByMap 25 = .ok (.iconst 1, 1) := by decide +kernel
theorem dX12_findsByMap_26 : decode cX12_findsByMap 26 = .ok (.iaload, 1) := by decide +kernel
theorem dX12_findsByMap_27 : decode cX12_findsByMap 27 = .ok (.if_icmp .le 4, 3) := by decide +kernel
theorem dX12_findsByMap_30 : decode cX12_findsByMap 30 = .ok (.return_, 1) := by decide +kernel
theorem dX12_findsByMap_31 : decode cX12_findsByMap 31 = .ok (.iload_n 1, 1) := by decide +kernel
theorem dX12_findsByMap_32 : decode cX12_findsByMap 32 = .ok (.istore_n 3, 1) := by decide +kernel
theorem dX12_findsByMap_33 : decode cX12_findsByMap 33 = .ok (.aload_n 0, 1) := by decide +kernel
theorem dX12_findsByMap_34 : decode cX12_findsByMap 34 = .ok (.getfield 33, 3) := by decide +kernel
theorem dX12_findsByMap_37 : decode cX12_findsByMap 37 = .ok (.iconst 0, 1) := by decide +kernel
theorem dX12_findsByMap_38 : decode cX12_findsByMap 38 = .ok (.iload_n 1, 1) := by decide +kernel
theorem dX12_findsByMap_39 : decode cX12_findsByMap 39 = .ok (.iastore, 1) := by decide +kernel
theorem dX12_findsByMap_40 : decode cX12_findsByMap 40 = .ok (.aload_n 0, 1) := by decide +kernel
theorem dX12_findsByMap_41 : decode cX12_findsByMap 41 = .ok (.iconst 1, 1) := by decide +kernel
theorem dX12_findsByMap_42 : decode cX12_findsByMap 42 = .ok (.putfield 231, 3) := by decide +kernel
theorem dX12_findsByMap_45 : decode cX12_findsByMap 45 = .ok (.iload_n 3, 1) := by decide +kernel
theorem dX12_findsByMap_46 : decode cX12_findsByMap 46 = .ok (.iload_n 2, 1) := by decide +kernel
theorem dX12_findsByMap_47 : decode cX12_findsByMap 47 = .ok (.if_icmp .eq 89, 3) := by decide +kernel
theorem dX12_findsByMap_50 : decode cX12_findsByMap 50 = .ok (.iconst (-1), 1) := by decide +kernel
theorem dX12_findsByMap_51 : decode cX12_findsByMap 51 = .ok (.istore 4, 2) := by decide +kernel
theorem dX12_findsByMap_53 : decode cX12_findsByMap 53 = .ok (.bipush 7, 2) := by decide +kernel
theorem dX12_findsByMap_55 : decode cX12_findsByMap 55 = .ok (.istore 5, 2) := by decide +kernel
theorem dX12_findsByMap_57 : decode cX12_findsByMap 57 = .ok (.iload 5, 2) := by decide +kernel
theorem dX12_findsByMap_59 : decode cX12_findsByMap 59 = .ok (.ifCond .lt 51, 3) := by decide +kernel
theorem dX12_findsByMap_62 : decode cX12_findsByMap 62 = .ok (.aload_n 0, 1) := by decide +kernel
theorem dX12_findsByMap_63 : decode cX12_findsByMap 63 = .ok (.getfield 36, 3) := by decide +kernel
theorem dX12_findsByMap_66 : decode cX12_findsByMap 66 = .ok (.bipush 8, 2) := by decide +kernel
theorem dX12_findsByMap_68 : decode cX12_findsByMap 68 = .ok (.iload_n 3, 1) := by decide +kernel
theorem dX12_findsByMap_69 : decode cX12_findsByMap 69 = .ok (.imul, 1) := by decide +kernel
theorem dX12_findsByMap_70 : decode cX12_findsByMap 70 = .ok (.iload 5, 2) := by decide +kernel
theorem dX12_findsByMap_72 : decode cX12_findsByMap 72 = .ok (.iadd, 1) := by decide +kernel
theorem dX12_findsByMap_73 : decode cX12_findsByMap 73 = .ok (.baload, 1) := by decide +kernel
theorem dX12_findsByMap_74 : decode cX12_findsByMap 74 = .ok (.ifCond .eq 26, 3) := by decide +kernel
theorem dX12_findsByMap_77 : decode cX12_findsByMap 77 = .ok (.aload_n 0, 1) := by decide +kernel
theorem dX12_findsByMap_78 : decode cX12_findsByMap 78 = .ok (.getfield 39, 3) := by decide +kernel
theorem dX12_findsByMap_81 : decode cX12_findsByMap 81 = .ok (.iload 5, 2) := by decide +kernel
theorem dX12_findsByMap_83 : decode cX12_findsByMap 83 = .ok (.iaload, 1) := by decide +kernel
theorem dX12_findsByMap_84 : decode cX12_findsByMap 84 = .ok (.aload_n 0, 1) := by decide +kernel
theorem dX12_findsByMap_85 : decode cX12_findsByMap 85 = .ok (.getfield 39, 3) := by decide +kernel
theorem dX12_findsByMap_88 : decode cX12_findsByMap 88 = .ok (.iload_n 3, 1) := by decide +kernel
theorem dX12_findsByMap_89 : decode cX12_findsByMap 89 = .ok (.iaload, 1) := by decide +kernel
theorem dX12_findsByMap_90 : decode cX12_findsByMap 90 = .ok (.iconst 1, 1) := by decide +kernel
theorem dX12_findsByMap_91 : decode cX12_findsByMap 91 = .ok (.isub, 1) := by decide +kernel
theorem dX12_findsByMap_92 : decode cX12_findsByMap 92 = .ok (.if_icmp .ne 8, 3) := by decide +kernel
theorem dX12_findsByMap_95 : decode cX12_findsByMap 95 = .ok (.iload 5, 2) := by decide +kernel
theorem dX12_findsByMap_97 : decode cX12_findsByMap 97 = .ok (.goto 5, 3) := by decide +kernel
theorem dX12_findsByMap_100 : decode cX12_findsByMap 100 = .ok (.iload 4, 2) := by decide +kernel
theorem dX12_findsByMap_102 : decode cX12_findsByMap 102 = .ok (.istore 4, 2) := by decide +kernel
theorem dX12_findsByMap_104 : decode cX12_findsByMap 104 = .ok (.iinc 5 (-1), 3) := by decide +kernel
theorem dX12_findsByMap_107 : decode cX12_findsByMap 107 = .ok (.goto (-50), 3) := by decide +kernel
theorem dX12_findsByMap_110 : decode cX12_findsByMap 110 = .ok (.iload 4, 2) := by decide +kernel
theorem dX12_findsByMap_112 : decode cX12_findsByMap 112 = .ok (.istore_n 3, 1) := by decide +kernel
theorem dX12_findsByMap_113 : decode cX12_findsByMap 113 = .ok (.aload_n 0, 1) := by decide +kernel
theorem dX12_findsByMap_114 : decode cX12_findsByMap 114 = .ok (.getfield 33, 3) := by decide +kernel
theorem dX12_findsByMap_117 : decode cX12_findsByMap 117 = .ok (.aload_n 0, 1) := by decide +kernel
theorem dX12_findsByMap_118 : decode cX12_findsByMap 118 = .ok (.getfield 231, 3) := by decide +kernel
theorem dX12_findsByMap_121 : decode cX12_findsByMap 121 = .ok (.iload_n 3, 1) := by decide +kernel
theorem dX12_findsByMap_122 : decode cX12_findsByMap 122 = .ok (.iastore, 1) := by decide +kernel
theorem dX12_findsByMap_123 : decode cX12_findsByMap 123 = .ok (.aload_n 0, 1) := by decide +kernel
theorem dX12_findsByMap_124 : decode cX12_findsByMap 124 = .ok (.dup, 1) := by decide +kernel
theorem dX12_findsByMap_125 : decode cX12_findsByMap 125 = .ok (.getfield 231, 3) := by decide +kernel
theorem dX12_findsByMap_128 : decode cX12_findsByMap 128 = .ok (.iconst 1, 1) := by decide +kernel
theorem dX12_findsByMap_129 : decode cX12_findsByMap 129 = .ok (.iadd, 1) := by decide +kernel
theorem dX12_findsByMap_130 : decode cX12_findsByMap 130 = .ok (.putfield 231, 3) := by decide +kernel
theorem dX12_findsByMap_133 : decode cX12_findsByMap 133 = .ok (.goto (-88), 3) := by decide +kernel
theorem dX12_findsByMap_136 : decode cX12_findsByMap 136 = .ok (.return_, 1) := by decide +kernel
theorem dX12_findsByPaths_0 : decode cX12_findsByPaths 0 = .ok (.aload_n 0, 1) := by decide +kernel
theorem dX12_findsByPaths_1 : decode cX12_findsByPaths 1 = .ok (.iconst 0, 1) := by decide +kernel
theorem dX12_findsByPaths_2 : decode cX12_findsByPaths 2 = .ok (.putfield 231, 3) := by decide +kernel
theorem dX12_findsByPaths_5 : decode cX12_findsByPaths 5 = .ok (.iconst 0, 1) := by decide +kernel
theorem dX12_findsByPaths_6 : decode cX12_findsByPaths 6 = .ok (.istore_n 3, 1) := by decide +kernel
theorem dX12_findsByPaths_7 : decode cX12_findsByPaths 7 = .ok (.iload_n 3, 1) := by decide +kernel
theorem dX12_findsByPaths_8 : decode cX12_findsByPaths 8 = .ok (.aload_n 0, 1) := by decide +kernel
theorem dX12_findsByPaths_9 : decode cX12_findsByPaths 9 = .ok (.iload_n 1, 1) := by decide +kernel
theorem dX12_findsByPaths_10 : decode cX12_findsByPaths 10 = .ok (.iconst 2, 1) := by decide +kernel
theorem dX12_findsByPaths_11 : decode cX12_findsByPaths 11 = .ok (.invokevirtual 180, 3) := by decide +kernel
theorem dX12_findsByPaths_14 : decode cX12_findsByPaths 14 = .ok (.if_icmp .ge 100, 3) := by decide +kernel
theorem dX12_findsByPaths_17 : decode cX12_findsByPaths 17 = .ok (.iconst 1, 1) := by decide +kernel
theorem dX12_findsByPaths_18 : decode cX12_findsByPaths 18 = .ok (.istore 4, 2) := by decide +kernel
theorem dX12_findsByPaths_20 : decode cX12_findsByPaths 20 = .ok (.iload 4, 2) := by decide +kernel
theorem dX12_findsByPaths_22 : decode cX12_findsByPaths 22 = .ok (.aload_n 0, 1) := by decide +kernel
theorem dX12_findsByPaths_23 : decode cX12_findsByPaths 23 = .ok (.iload_n 1, 1) := by decide +kernel
theorem dX12_findsByPaths_24 : decode cX12_findsByPaths 24 = .ok (.iload_n 3, 1) := by decide +kernel
theorem dX12_findsByPaths_25 : decode cX12_findsByPaths 25 = .ok (.invokevirtual 183, 3) := by decide +kernel
theorem dX12_findsByPaths_28 : decode cX12_findsByPaths 28 = .ok (.if_icmp .ge 80, 3) := by decide +kernel
theorem dX12_findsByPaths_31 : decode cX12_findsByPaths 31 = .ok (.aload_n 0, 1) := by decide +kernel
theorem dX12_findsByPaths_32 : decode cX12_findsByPaths 32 = .ok (.iload_n 1, 1) := by decide +kernel
theorem dX12_findsByPaths_33 : decode cX12_findsByPaths 33 = .ok (.iload_n 3, 1) := by decide +kernel
theorem dX12_findsByPaths_34 : decode cX12_findsByPaths 34 = .ok (.iload 4, 2) := by decide +kernel
theorem dX12_findsByPaths_36 : decode cX12_findsByPaths 36 = .ok (.invokevirtual 189, 3) := by decide +kernel
theorem dX12_findsByPaths_39 : decode cX12_findsByPaths 39 = .ok (.iload_n 2, 1) := by decide +kernel
theorem dX12_findsByPaths_40 : decode cX12_findsByPaths 40 = .ok (.if_icmp .ne 62, 3) := by decide +kernel
theorem dX12_findsByPaths_43 : decode cX12_findsByPaths 43 = .ok (.aload_n 0, 1) := by decide +kernel
theorem dX12_findsByPaths_44 : decode cX12_findsByPaths 44 = .ok (.getfield 231, 3) := by decide +kernel
theorem dX12_findsByPaths_47 : decode cX12_findsByPaths 47 = .ok (.ifCond .eq 14, 3) := by decide +kernel
theorem dX12_findsByPaths_50 : decode cX12_findsByPaths 50 = .ok (.iload 4, 2) := by decide +kernel
theorem dX12_findsByPaths_52 : decode cX12_findsByPaths 52 = .ok (.iconst 1, 1) := by decide +kernel
theorem dX12_findsByPaths_53 : decode cX12_findsByPaths 53 = .ok (.iadd, 1) := by decide +kernel
theorem dX12_findsByPaths_54 : decode cX12_findsByPaths 54 = .ok (.aload_n 0, 1) := by decide +kernel
theorem dX12_findsByPaths_55 : decode cX12_findsByPaths 55 = .ok (.getfield 231, 3) := by decide +kernel
theorem dX12_findsByPaths_58 : decode cX12_findsByPaths 58 = .ok (.if_icmp .ge 44, 3) := by decide +kernel
theorem dX12_findsByPaths_61 : decode cX12_findsByPaths 61 = .ok (.aload_n 0, 1) := by decide +kernel
theorem dX12_findsByPaths_62 : decode cX12_findsByPaths 62 = .ok (.iload 4, 2) := by decide +kernel
theorem dX12_findsByPaths_64 : decode cX12_findsByPaths 64 = .ok (.iconst 1, 1) := by decide +kernel
theorem dX12_findsByPaths_65 : decode cX12_findsByPaths 65 = .ok (.iadd, 1) := by decide +kernel
theorem dX12_findsByPaths_66 : decode cX12_findsByPaths 66 = .ok (.putfield 231, 3) := by decide +kernel
theorem dX12_findsByPaths_69 : decode cX12_findsByPaths 69 = .ok (.iconst 0, 1) := by decide +kernel
theorem dX12_findsByPaths_70 : decode cX12_findsByPaths 70 = .ok (.istore 5, 2) := by decide +kernel
theorem dX12_findsByPaths_72 : decode cX12_findsByPaths 72 = .ok (.iload 5, 2) := by decide +kernel
theorem dX12_findsByPaths_74 : decode cX12_findsByPaths 74 = .ok (.aload_n 0, 1) := by decide +kernel
theorem dX12_findsByPaths_75 : decode cX12_findsByPaths 75 = .ok (.getfield 231, 3) := by decide +kernel
theorem dX12_findsByPaths_78 : decode cX12_findsByPaths 78 = .ok (.if_icmp .ge 24, 3) := by decide +kernel
theorem dX12_findsByPaths_81 : decode cX12_findsByPaths 81 = .ok (.aload_n 0, 1) := by decide +kernel
theorem dX12_findsByPaths_82 : decode cX12_findsByPaths 82 = .ok (.getfield 33, 3) := by decide +kernel
theorem dX12_findsByPaths_85 : decode cX12_findsByPaths 85 = .ok (.iload 5, 2) := by decide +kernel
theorem dX12_findsByPaths_87 : decode cX12_findsByPaths 87 = .ok (.aload_n 0, 1) := by decide +kernel
theorem dX12_findsByPaths_88 : decode cX12_findsByPaths 88 = .ok (.iload_n 1, 1) := by decide +kernel
theorem dX12_findsByPaths_89 : decode cX12_findsByPaths 89 = .ok (.iload_n 3, 1) := by decide +kernel
theorem dX12_findsByPaths_90 : decode cX12_findsByPaths 90 = .ok (.iload 5, 2) := by decide +kernel
theorem dX12_findsByPaths_92 : decode cX12_findsByPaths 92 = .ok (.invokevirtual 189, 3) := by decide +kernel
theorem dX12_findsByPaths_95 : decode cX12_findsByPaths 95 = .ok (.iastore, 1) := by decide +kernel
theorem dX12_findsByPaths_96 : decode cX12_findsByPaths 96 = .ok (.iinc 5 1, 3) := by decide +kernel
theorem dX12_findsByPaths_99 : decode cX12_findsByPaths 99 = .ok (.goto (-27), 3) := by decide +kernel
theorem dX12_findsByPaths_102 : decode cX12_findsByPaths 102 = .ok (.iinc 4 1, 3) := by decide +kernel
theorem dX12_findsByPaths_105 : decode cX12_findsByPaths 105 = .ok (.goto (-85), 3) := by decide +kernel
theorem dX12_findsByPaths_108 : decode cX12_findsByPaths 108 = .ok (.iinc 3 1, 3) := by decide +kernel
theorem dX12_findsByPaths_111 : decode cX12_findsByPaths 111 = .ok (.goto (-104), 3) := by decide +kernel
theorem dX12_findsByPaths_114 : decode cX12_findsByPaths 114 = .ok (.return_, 1) := by decide +kernel
theorem dX12_finds_0 : decode cX12_finds 0 = .ok (.aload_n 0, 1) := by decide +kernel
theorem dX12_finds_1 : decode cX12_finds 1 = .ok (.iconst 0, 1) := by decide +kernel
theorem dX12_finds_2 : decode cX12_finds 2 = .ok (.putfield 231, 3) := by decide +kernel
theorem dX12_finds_5 : decode cX12_finds 5 = .ok (.iload_n 1, 1) := by decide +kernel
theorem dX12_finds_6 : decode cX12_finds 6 = .ok (.iload_n 2, 1) := by decide +kernel
theorem dX12_finds_7 : decode cX12_finds 7 = .ok (.if_icmp .eq 28, 3) := by decide +kernel
theorem dX12_finds_10 : decode cX12_finds 10 = .ok (.aload_n 0, 1) := by decide +kernel
theorem dX12_finds_11 : decode cX12_finds 11 = .ok (.iload_n 1, 1) := by decide +kernel
theorem dX12_finds_12 : decode cX12_finds 12 = .ok (.iconst 0, 1) := by decide +kernel
theorem dX12_finds_13 : decode cX12_finds 13 = .ok (.invokevirtual 180, 3) := by decide +kernel
theorem dX12_finds_16 : decode cX12_finds 16 = .ok (.iconst 1, 1) := by decide +kernel
theorem dX12_finds_17 : decode cX12_finds 17 = .ok (.if_icmp .ne 12, 3) := by decide +kernel
theorem dX12_finds_20 : decode cX12_finds 20 = .ok (.aload_n 0, 1) := by decide +kernel
theorem dX12_finds_21 : decode cX12_finds 21 = .ok (.iload_n 1, 1) := by decide +kernel
theorem dX12_finds_22 : decode cX12_finds 22 = .ok (.iload_n 2, 1) := by decide +kernel
theorem dX12_finds_23 : decode cX12_finds 23 = .ok (.invokevirtual 234, 3) := by decide +kernel
theorem dX12_finds_26 : decode cX12_finds 26 = .ok (.goto 9, 3) := by decide +kernel
theorem dX12_finds_29 : decode cX12_finds 29 = .ok (.aload_n 0, 1) := by decide +kernel
theorem dX12_finds_30 : decode cX12_finds 30 = .ok (.iload_n 1, 1) := by decide +kernel
theorem dX12_finds_31 : decode cX12_finds 31 = .ok (.iload_n 2, 1) := by decide +kernel
theorem dX12_finds_32 : decode cX12_finds 32 = .ok (.invokevirtual 237, 3) := by decide +kernel
theorem dX12_finds_35 : decode cX12_finds 35 = .ok (.aload_n 0, 1) := by decide +kernel
theorem dX12_finds_36 : decode cX12_finds 36 = .ok (.getfield 231, 3) := by decide +kernel
theorem dX12_finds_39 : decode cX12_finds 39 = .ok (.ifCond .le 7, 3) := by decide +kernel
theorem dX12_finds_42 : decode cX12_finds 42 = .ok (.iconst 1, 1) := by decide +kernel
theorem dX12_finds_43 : decode cX12_finds 43 = .ok (.goto 4, 3) := by decide +kernel
theorem dX12_finds_46 : decode cX12_finds 46 = .ok (.iconst 0, 1) := by decide +kernel
theorem dX12_finds_47 : decode cX12_finds 47 = .ok (.ireturn, 1) := by decide +kernel
theorem dX12_beginsFrame_0 : decode cX12_beginsFrame 0 = .ok (.aload_n 0, 1) := by decide +kernel
theorem dX12_beginsFrame_1 : decode cX12_beginsFrame 1 = .ok (.getfield 42, 3) := by decide +kernel
theorem dX12_beginsFrame_4 : decode cX12_beginsFrame 4 = .ok (.iconst 0, 1) := by decide +kernel
theorem dX12_beginsFrame_5 : decode cX12_beginsFrame 5 = .ok (.iload_n 1, 1) := by decide +kernel
theorem dX12_beginsFrame_6 : decode cX12_beginsFrame 6 = .ok (.iastore, 1) := by decide +kernel
theorem dX12_beginsFrame_7 : decode cX12_beginsFrame 7 = .ok (.aload_n 0, 1) := by decide +kernel
theorem dX12_beginsFrame_8 : decode cX12_beginsFrame 8 = .ok (.getfield 42, 3) := by decide +kernel
theorem dX12_beginsFrame_11 : decode cX12_beginsFrame 11 = .ok (.iconst 1, 1) := by decide +kernel
theorem dX12_beginsFrame_12 : decode cX12_beginsFrame 12 = .ok (.iload_n 2, 1) := by decide +kernel
theorem dX12_beginsFrame_13 : decode cX12_beginsFrame 13 = .ok (.iastore, 1) := by decide +kernel
theorem dX12_beginsFrame_14 : decode cX12_beginsFrame 14 = .ok (.aload_n 0, 1) := by decide +kernel
theorem dX12_beginsFrame_15 : decode cX12_beginsFrame 15 = .ok (.getfield 42, 3) := by decide +kernel
theorem dX12_beginsFrame_18 : decode cX12_beginsFrame 18 = .ok (.iconst 2, 1) := by decide +kernel
theorem dX12_beginsFrame_19 : decode cX12_beginsFrame 19 = .ok (.iload_n 3, 1) := by decide +kernel
theorem dX12_beginsFrame_20 : decode cX12_beginsFrame 20 = .ok (.iastore, 1) := by decide +kernel
theorem dX12_beginsFrame_21 : decode cX12_beginsFrame 21 = .ok (.aload_n 0, 1) := by decide +kernel
theorem dX12_beginsFrame_22 : decode cX12_beginsFrame 22 = .ok (.getfield 42, 3) := by decide +kernel
theorem dX12_beginsFrame_25 : decode cX12_beginsFrame 25 = .ok (.iconst 3, 1) := by decide +kernel
theorem dX12_beginsFrame_26 : decode cX12_beginsFrame 26 = .ok (.iload 4, 2) := by decide +kernel
theorem dX12_beginsFrame_28 : decode cX12_beginsFrame 28 = .ok (.iastore, 1) := by decide +kernel
theorem dX12_beginsFrame_29 : decode cX12_beginsFrame 29 = .ok (.aload_n 0, 1) := by decide +kernel
theorem dX12_beginsFrame_30 : decode cX12_beginsFrame 30 = .ok (.getfield 42, 3) := by decide +kernel
theorem dX12_beginsFrame_33 : decode cX12_beginsFrame 33 = .ok (.iconst 4, 1) := by decide +kernel
theorem dX12_beginsFrame_34 : decode cX12_beginsFrame 34 = .ok (.iload 5, 2) := by decide +kernel
theorem dX12_beginsFrame_36 : decode cX12_beginsFrame 36 = .ok (.iastore, 1) := by decide +kernel
theorem dX12_beginsFrame_37 : decode cX12_beginsFrame 37 = .ok (.aload_n 0, 1) := by decide +kernel
theorem dX12_beginsFrame_38 : decode cX12_beginsFrame 38 = .ok (.getfield 42, 3) := by decide +kernel
theorem dX12_beginsFrame_41 : decode cX12_beginsFrame 41 = .ok (.iconst 5, 1) := by decide +kernel
theorem dX12_beginsFrame_42 : decode cX12_beginsFrame 42 = .ok (.iload 6, 2) := by decide +kernel
theorem dX12_beginsFrame_44 : decode cX12_beginsFrame 44 = .ok (.iastore, 1) := by decide +kernel
theorem dX12_beginsFrame_45 : decode cX12_beginsFrame 45 = .ok (.aload_n 0, 1) := by decide +kernel
theorem dX12_beginsFrame_46 : decode cX12_beginsFrame 46 = .ok (.getfield 42, 3) := by decide +kernel
theorem dX12_beginsFrame_49 : decode cX12_beginsFrame 49 = .ok (.bipush 6, 2) := by decide +kernel
theorem dX12_beginsFrame_51 : decode cX12_beginsFrame 51 = .ok (.iconst 0, 1) := by decide +kernel
theorem dX12_beginsFrame_52 : decode cX12_beginsFrame 52 = .ok (.iastore, 1) := by decide +kernel
theorem dX12_beginsFrame_53 : decode cX12_beginsFrame 53 = .ok (.bipush 7, 2) := by decide +kernel
theorem dX12_beginsFrame_55 : decode cX12_beginsFrame 55 = .ok (.istore 7, 2) := by decide +kernel
theorem dX12_beginsFrame_57 : decode cX12_beginsFrame 57 = .ok (.iload 7, 2) := by decide +kernel
theorem dX12_beginsFrame_59 : decode cX12_beginsFrame 59 = .ok (.bipush 16, 2) := by decide +kernel
theorem dX12_beginsFrame_61 : decode cX12_beginsFrame 61 = .ok (.if_icmp .ge 17, 3) := by decide +kernel
theorem dX12_beginsFrame_64 : decode cX12_beginsFrame 64 = .ok (.aload_n 0, 1) := by decide +kernel
theorem dX12_beginsFrame_65 : decode cX12_beginsFrame 65 = .ok (.getfield 42, 3) := by decide +kernel
theorem dX12_beginsFrame_68 : decode cX12_beginsFrame 68 = .ok (.iload 7, 2) := by decide +kernel
theorem dX12_beginsFrame_70 : decode cX12_beginsFrame 70 = .ok (.iconst 0, 1) := by decide +kernel
theorem dX12_beginsFrame_71 : decode cX12_beginsFrame 71 = .ok (.iastore, 1) := by decide +kernel
theorem dX12_beginsFrame_72 : decode cX12_beginsFrame 72 = .ok (.iinc 7 1, 3) := by decide +kernel
theorem dX12_beginsFrame_75 : decode cX12_beginsFrame 75 = .ok (.goto (-18), 3) := by decide +kernel
theorem dX12_beginsFrame_78 : decode cX12_beginsFrame 78 = .ok (.return_, 1) := by decide +kernel
theorem dX12_addsFrame_0 : decode cX12_addsFrame 0 = .ok (.aload_n 0, 1) := by decide +kernel
theorem dX12_addsFrame_1 : decode cX12_addsFrame 1 = .ok (.getfield 42, 3) := by decide +kernel
theorem dX12_addsFrame_4 : decode cX12_addsFrame 4 = .ok (.bipush 7, 2) := by decide +kernel
theorem dX12_addsFrame_6 : decode cX12_addsFrame 6 = .ok (.aload_n 0, 1) := by decide +kernel
theorem dX12_addsFrame_7 : decode cX12_addsFrame 7 = .ok (.getfield 42, 3) := by decide +kernel
theorem dX12_addsFrame_10 : decode cX12_addsFrame 10 = .ok (.bipush 6, 2) := by decide +kernel
theorem dX12_addsFrame_12 : decode cX12_addsFrame 12 = .ok (.iaload, 1) := by decide +kernel
theorem dX12_addsFrame_13 : decode cX12_addsFrame 13 = .ok (.iadd, 1) := by decide +kernel
theorem dX12_addsFrame_14 : decode cX12_addsFrame 14 = .ok (.iload_n 1, 1) := by decide +kernel
theorem dX12_addsFrame_15 : decode cX12_addsFrame 15 = .ok (.iastore, 1) := by decide +kernel
theorem dX12_addsFrame_16 : decode cX12_addsFrame 16 = .ok (.aload_n 0, 1) := by decide +kernel
theorem dX12_addsFrame_17 : decode cX12_addsFrame 17 = .ok (.getfield 42, 3) := by decide +kernel
theorem dX12_addsFrame_20 : decode cX12_addsFrame 20 = .ok (.bipush 6, 2) := by decide +kernel
theorem dX12_addsFrame_22 : decode cX12_addsFrame 22 = .ok (.dup2, 1) := by decide +kernel
theorem dX12_addsFrame_23 : decode cX12_addsFrame 23 = .ok (.iaload, 1) := by decide +kernel
theorem dX12_addsFrame_24 : decode cX12_addsFrame 24 = .ok (.iconst 1, 1) := by decide +kernel
theorem dX12_addsFrame_25 : decode cX12_addsFrame 25 = .ok (.iadd, 1) := by decide +kernel
theorem dX12_addsFrame_26 : decode cX12_addsFrame 26 = .ok (.iastore, 1) := by decide +kernel
theorem dX12_addsFrame_27 : decode cX12_addsFrame 27 = .ok (.return_, 1) := by decide +kernel
theorem dX12_sends_0 : decode cX12_sends 0 = .ok (.aload_n 0, 1) := by decide +kernel
theorem dX12_sends_1 : decode cX12_sends 1 = .ok (.getfield 7, 3) := by decide +kernel
theorem dX12_sends_4 : decode cX12_sends 4 = .ok (.bipush 10, 2) := by decide +kernel
theorem dX12_sends_6 : decode cX12_sends 6 = .ok (.iaload, 1) := by decide +kernel
theorem dX12_sends_7 : decode cX12_sends 7 = .ok (.bipush 40, 2) := by decide +kernel
theorem dX12_sends_9 : decode cX12_sends 9 = .ok (.if_icmp .ne 12, 3) := by decide +kernel
theorem dX12_sends_12 : decode cX12_sends 12 = .ok (.aload_n 0, 1) := by decide +kernel
theorem dX12_sends_13 : decode cX12_sends 13 = .ok (.bipush 8, 2) := by decide +kernel
theorem dX12_sends_15 : decode cX12_sends 15 = .ok (.iconst 1, 1) := by decide +kernel
theorem dX12_sends_16 : decode cX12_sends 16 = .ok (.invokevirtual 240, 3) := by decide +kernel
theorem dX12_sends_19 : decode cX12_sends 19 = .ok (.iconst 0, 1) := by decide +kernel
theorem dX12_sends_20 : decode cX12_sends 20 = .ok (.ireturn, 1) := by decide +kernel
theorem dX12_sends_21 : decode cX12_sends 21 = .ok (.sipush 777, 3) := by decide +kernel
theorem dX12_sends_24 : decode cX12_sends 24 = .ok (.bipush 16, 2) := by decide +kernel
theorem dX12_sends_26 : decode cX12_sends 26 = .ok (.aload_n 0, 1) := by decide +kernel
theorem dX12_sends_27 : decode cX12_sends 27 = .ok (.getfield 7, 3) := by decide +kernel
theorem dX12_sends_30 : decode cX12_sends 30 = .ok (.bipush 10, 2) := by decide +kernel
theorem dX12_sends_32 : decode cX12_sends 32 = .ok (.iaload, 1) := by decide +kernel
theorem dX12_sends_33 : decode cX12_sends 33 = .ok (.imul, 1) := by decide +kernel
theorem dX12_sends_34 : decode cX12_sends 34 = .ok (.iadd, 1) := by decide +kernel
theorem dX12_sends_35 : decode cX12_sends 35 = .ok (.istore_n 1, 1) := by decide +kernel
theorem dX12_sends_36 : decode cX12_sends 36 = .ok (.iconst 0, 1) := by decide +kernel
theorem dX12_sends_37 : decode cX12_sends 37 = .ok (.istore_n 2, 1) := by decide +kernel
theorem dX12_sends_38 : decode cX12_sends 38 = .ok (.iload_n 2, 1) := by decide +kernel
theorem dX12_sends_39 : decode cX12_sends 39 = .ok (.bipush 16, 2) := by decide +kernel
theorem dX12_sends_41 : decode cX12_sends 41 = .ok (.if_icmp .ge 23, 3) := by decide +kernel
theorem dX12_sends_44 : decode cX12_sends 44 = .ok (.aload_n 0, 1) := by decide +kernel
theorem dX12_sends_45 : decode cX12_sends 45 = .ok (.getfield 7, 3) := by decide +kernel
theorem dX12_sends_48 : decode cX12_sends 48 = .ok (.iload_n 1, 1) := by decide +kernel
theorem dX12_sends_49 : decode cX12_sends 49 = .ok (.iload_n 2, 1) := by decide +kernel
theorem dX12_sends_50 : decode cX12_sends 50 = .ok (.iadd, 1) := by decide +kernel
theorem dX12_sends_51 : decode cX12_sends 51 = .ok (.aload_n 0, 1) := by decide +kernel
theorem dX12_sends_52 : decode cX12_sends 52 = .ok (.getfield 42, 3) := by decide +kernel
theorem dX12_sends_55 : decode cX12_sends 55 = .ok (.iload_n 2, 1) := by decide +kernel
theorem dX12_sends_56 : decode cX12_sends 56 = .ok (.iaload, 1) := by decide +kernel
theorem dX12_sends_57 : decode cX12_sends 57 = .ok (.iastore, 1) := by decide +kernel
theorem dX12_sends_58 : decode cX12_sends 58 = .ok (.iinc 2 1, 3) := by decide +kernel
theorem dX12_sends_61 : decode cX12_sends 61 = .ok (.goto (-23), 3) := by decide +kernel
theorem dX12_sends_64 : decode cX12_sends 64 = .ok (.aload_n 0, 1) := by decide +kernel
theorem dX12_sends_65 : decode cX12_sends 65 = .ok (.getfield 7, 3) := by decide +kernel
theorem dX12_sends_68 : decode cX12_sends 68 = .ok (.bipush 10, 2) := by decide +kernel
theorem dX12_sends_70 : decode cX12_sends 70 = .ok (.dup2, 1) := by decide +kernel
theorem dX12_sends_71 : decode cX12_sends 71 = .ok (.iaload, 1) := by decide +kernel
theorem dX12_sends_72 : decode cX12_sends 72 = .ok (.iconst 1, 1) := by decide +kernel
theorem dX12_sends_73 : decode cX12_sends 73 = .ok (.iadd, 1) := by decide +kernel
theorem dX12_sends_74 : decode cX12_sends 74 = .ok (.iastore, 1) := by decide +kernel
theorem dX12_sends_75 : decode cX12_sends 75 = .ok (.aload_n 0, 1) := by decide +kernel
theorem dX12_sends_76 : decode cX12_sends 76 = .ok (.aload_n 0, 1) := by decide +kernel
theorem dX12_sends_77 : decode cX12_sends 77 = .ok (.getfield 42, 3) := by decide +kernel
theorem dX12_sends_80 : decode cX12_sends 80 = .ok (.iconst 0, 1) := by decide +kernel
theorem dX12_sends_81 : decode cX12_sends 81 = .ok (.iaload, 1) := by decide +kernel
theorem dX12_sends_82 : decode cX12_sends 82 = .ok (.iconst 1, 1) := by decide +kernel
theorem dX12_sends_83 : decode cX12_sends 83 = .ok (.invokevirtual 240, 3) := by decide +kernel
theorem dX12_sends_86 : decode cX12_sends 86 = .ok (.iconst 1, 1) := by decide +kernel
theorem dX12_sends_87 : decode cX12_sends 87 = .ok (.ireturn, 1) := by decide +kernel
theorem dX12_isDone_0 : decode cX12_isDone 0 = .ok (.aload_n 0, 1) := by decide +kernel
theorem dX12_isDone_1 : decode cX12_isDone 1 = .ok (.iload_n 1, 1) := by decide +kernel
theorem dX12_isDone_2 : decode cX12_isDone 2 = .ok (.iconst 2, 1) := by decide +kernel
theorem dX12_isDone_3 : decode cX12_isDone 3 = .ok (.iload_n 2, 1) := by decide +kernel
theorem dX12_isDone_4 : decode cX12_isDone 4 = .ok (.invokevirtual 243, 3) := by decide +kernel
theorem dX12_isDone_7 : decode cX12_isDone 7 = .ok (.aload_n 0, 1) := by decide +kernel
theorem dX12_isDone_8 : decode cX12_isDone 8 = .ok (.iload_n 1, 1) := by decide +kernel
theorem dX12_isDone_9 : decode cX12_isDone 9 = .ok (.bipush 7, 2) := by decide +kernel
theorem dX12_isDone_11 : decode cX12_isDone 11 = .ok (.aload_n 0, 1) := by decide +kernel
theorem dX12_isDone_12 : decode cX12_isDone 12 = .ok (.getfield 7, 3) := by decide +kernel
theorem dX12_isDone_15 : decode cX12_isDone 15 = .ok (.bipush 8, 2) := by decide +kernel
theorem dX12_isDone_17 : decode cX12_isDone 17 = .ok (.iaload, 1) := by decide +kernel
theorem dX12_isDone_18 : decode cX12_isDone 18 = .ok (.invokevirtual 243, 3) := by decide +kernel
theorem dX12_isDone_21 : decode cX12_isDone 21 = .ok (.aload_n 0, 1) := by decide +kernel
theorem dX12_isDone_22 : decode cX12_isDone 22 = .ok (.iload_n 1, 1) := by decide +kernel
theorem dX12_isDone_23 : decode cX12_isDone 23 = .ok (.iconst 5, 1) := by decide +kernel
theorem dX12_isDone_24 : decode cX12_isDone 24 = .ok (.iconst 0, 1) := by decide +kernel
theorem dX12_isDone_25 : decode cX12_isDone 25 = .ok (.invokevirtual 243, 3) := by decide +kernel
theorem dX12_isDone_28 : decode cX12_isDone 28 = .ok (.aload_n 0, 1) := by decide +kernel
theorem dX12_isDone_29 : decode cX12_isDone 29 = .ok (.iload_n 2, 1) := by decide +kernel
theorem dX12_isDone_30 : decode cX12_isDone 30 = .ok (.iconst 2, 1) := by decide +kernel
theorem dX12_isDone_31 : decode cX12_isDone 31 = .ok (.if_icmp .ne 8, 3) := by decide +kernel
theorem dX12_isDone_34 : decode cX12_isDone 34 = .ok (.bipush 9, 2) := by decide +kernel
theorem dX12_isDone_36 : decode cX12_isDone 36 = .ok (.goto 5, 3) := by decide +kernel
theorem dX12_isDone_39 : decode cX12_isDone 39 = .ok (.bipush 10, 2) := by decide +kernel
theorem dX12_isDone_41 : decode cX12_isDone 41 = .ok (.iconst 1, 1) := by decide +kernel
theorem dX12_isDone_42 : decode cX12_isDone 42 = .ok (.invokevirtual 240, 3) := by decide +kernel
theorem dX12_isDone_45 : decode cX12_isDone 45 = .ok (.return_, 1) := by decide +kernel
theorem dX12_fliesOn_0 : decode cX12_fliesOn 0 = .ok (.aload_n 0, 1) := by decide +kernel
theorem dX12_fliesOn_1 : decode cX12_fliesOn 1 = .ok (.iload_n 1, 1) := by decide +kernel
theorem dX12_fliesOn_2 : decode cX12_fliesOn 2 = .ok (.bipush 10, 2) := by decide +kernel
theorem dX12_fliesOn_4 : decode cX12_fliesOn 4 = .ok (.aload_n 0, 1) := by decide +kernel
theorem dX12_fliesOn_5 : decode cX12_fliesOn 5 = .ok (.iload_n 1, 1) := by decide +kernel
theorem dX12_fliesOn_6 : decode cX12_fliesOn 6 = .ok (.iconst 4, 1) := by decide +kernel
theorem dX12_fliesOn_7 : decode cX12_fliesOn 7 = .ok (.invokevirtual 246, 3) := by decide +kernel
theorem dX12_fliesOn_10 : decode cX12_fliesOn 10 = .ok (.iadd, 1) := by decide +kernel
theorem dX12_fliesOn_11 : decode cX12_fliesOn 11 = .ok (.iconst 1, 1) := by decide +kernel
theorem dX12_fliesOn_12 : decode cX12_fliesOn 12 = .ok (.isub, 1) := by decide +kernel
theorem dX12_fliesOn_13 : decode cX12_fliesOn 13 = .ok (.invokevirtual 246, 3) := by decide +kernel
theorem dX12_fliesOn_16 : decode cX12_fliesOn 16 = .ok (.istore_n 2, 1) := by decide +kernel
theorem dX12_fliesOn_17 : decode cX12_fliesOn 17 = .ok (.aload_n 0, 1) := by decide +kernel
theorem dX12_fliesOn_18 : decode cX12_fliesOn 18 = .ok (.iconst 0, 1) := by decide +kernel
theorem dX12_fliesOn_19 : decode cX12_fliesOn 19 = .ok (.iload_n 2, 1) := by decide +kernel
theorem dX12_fliesOn_20 : decode cX12_fliesOn 20 = .ok (.iload_n 1, 1) := by decide +kernel
theorem dX12_fliesOn_21 : decode cX12_fliesOn 21 = .ok (.iconst (-1), 1) := by decide +kernel
theorem dX12_fliesOn_22 : decode cX12_fliesOn 22 = .ok (.iconst (-1), 1) := by decide +kernel
theorem dX12_fliesOn_23 : decode cX12_fliesOn 23 = .ok (.iconst (-1), 1) := by decide +kernel
theorem dX12_fliesOn_24 : decode cX12_fliesOn 24 = .ok (.invokevirtual 249, 3) := by decide +kernel
theorem dX12_fliesOn_27 : decode cX12_fliesOn 27 = .ok (.aload_n 0, 1) := by decide +kernel
theorem dX12_fliesOn_28 : decode cX12_fliesOn 28 = .ok (.iload_n 1, 1) := by decide +kernel
theorem dX12_fliesOn_29 : decode cX12_fliesOn 29 = .ok (.iconst 2, 1) := by decide +kernel
theorem dX12_fliesOn_30 : decode cX12_fliesOn 30 = .ok (.iconst 1, 1) := by decide +kernel
theorem dX12_fliesOn_31 : decode cX12_fliesOn 31 = .ok (.invokevirtual 243, 3) := by decide +kernel
theorem dX12_fliesOn_34 : decode cX12_fliesOn 34 = .ok (.aload_n 0, 1) := by decide +kernel
theorem dX12_fliesOn_35 : decode cX12_fliesOn 35 = .ok (.invokevirtual 253, 3) := by decide +kernel
theorem dX12_fliesOn_38 : decode cX12_fliesOn 38 = .ok (.ifCond .ne 9, 3) := by decide +kernel
theorem dX12_fliesOn_41 : decode cX12_fliesOn 41 = .ok (.aload_n 0, 1) := by decide +kernel
theorem dX12_fliesOn_42 : decode cX12_fliesOn 42 = .ok (.iload_n 1, 1) := by decide +kernel
theorem dX12_fliesOn_43 : decode cX12_fliesOn 43 = .ok (.iconst 3, 1) := by decide +kernel
theorem dX12_fliesOn_44 : decode cX12_fliesOn 44 = .ok (.invokevirtual 256, 3) := by decide +kernel
theorem dX12_fliesOn_47 : decode cX12_fliesOn 47 = .ok (.return_, 1) := by decide +kernel
theorem dX12_fliesByWay_0 : decode cX12_fliesByWay 0 = .ok (.iconst 0, 1) := by decide +kernel
theorem dX12_fliesByWay_1 : decode cX12_fliesByWay 1 = .ok (.istore_n 2, 1) := by decide +kernel
theorem dX12_fliesByWay_2 : decode cX12_fliesByWay 2 = .ok (.iload_n 2, 1) := by decide +kernel
theorem dX12_fliesByWay_3 : decode cX12_fliesByWay 3 = .ok (.aload_n 0, 1) := by decide +kernel
theorem dX12_fliesByWay_4 : decode cX12_fliesByWay 4 = .ok (.getfield 231, 3) := by decide +kernel
theorem dX12_fliesByWay_7 : decode cX12_fliesByWay 7 = .ok (.if_icmp .ge 24, 3) := by decide +kernel
theorem dX12_fliesByWay_10 : decode cX12_fliesByWay 10 = .ok (.aload_n 0, 1) := by decide +kernel
theorem dX12_fliesByWay_11 : decode cX12_fliesByWay 11 = .ok (.iload_n 1, 1) := by decide +kernel
theorem dX12_fliesByWay_12 : decode cX12_fliesByWay 12 = .ok (.bipush 18, 2) := by decide +kernel
theorem dX12_fliesByWay_14 : decode cX12_fliesByWay 14 = .ok (.iload_n 2, 1) := by decide +kernel
theorem dX12_fliesByWay_15 : decode cX12_fliesByWay 15 = .ok (.iadd, 1) := by decide +kernel
theorem dX12_fliesByWay_16 : decode cX12_fliesByWay 16 = .ok (.aload_n 0, 1) := by decide +kernel
theorem dX12_fliesByWay_17 : decode cX12_fliesByWay 17 = .ok (.getfield 33, 3) := by decide +kernel
theorem dX12_fliesByWay_20 : decode cX12_fliesByWay 20 = .ok (.iload_n 2, 1) := by decide +kernel
theorem dX12_fliesByWay_21 : decode cX12_fliesByWay 21 = .ok (.iaload, 1) := by decide +kernel
theorem dX12_fliesByWay_22 : decode cX12_fliesByWay 22 = .ok (.invokevirtual 243, 3) := by decide +kernel
theorem dX12_fliesByWay_25 : decode cX12_fliesByWay 25 = .ok (.iinc 2 1, 3) := by decide +kernel
theorem dX12_fliesByWay_28 : decode cX12_fliesByWay 28 = .ok (.goto (-26), 3) := by decide +kernel
theorem dX12_fliesByWay_31 : decode cX12_fliesByWay 31 = .ok (.aload_n 0, 1) := by decide +kernel
theorem dX12_fliesByWay_32 : decode cX12_fliesByWay 32 = .ok (.iload_n 1, 1) := by decide +kernel
theorem dX12_fliesByWay_33 : decode cX12_fliesByWay 33 = .ok (.iconst 5, 1) := by decide +kernel
theorem dX12_fliesByWay_34 : decode cX12_fliesByWay 34 = .ok (.aload_n 0, 1) := by decide +kernel
theorem dX12_fliesByWay_35 : decode cX12_fliesByWay 35 = .ok (.getfield 231, 3) := by decide +kernel
theorem dX12_fliesByWay_38 : decode cX12_fliesByWay 38 = .ok (.invokevirtual 243, 3) := by decide +kernel
theorem dX12_fliesByWay_41 : decode cX12_fliesByWay 41 = .ok (.aload_n 0, 1) := by decide +kernel
theorem dX12_fliesByWay_42 : decode cX12_fliesByWay 42 = .ok (.iload_n 1, 1) := by decide +kernel
theorem dX12_fliesByWay_43 : decode cX12_fliesByWay 43 = .ok (.invokevirtual 259, 3) := by decide +kernel
theorem dX12_fliesByWay_46 : decode cX12_fliesByWay 46 = .ok (.return_, 1) := by decide +kernel
theorem dX12_asks_0 : decode cX12_asks 0 = .ok (.aload_n 0, 1) := by decide +kernel
theorem dX12_asks_1 : decode cX12_asks 1 = .ok (.iload_n 1, 1) := by decide +kernel
theorem dX12_asks_2 : decode cX12_asks 2 = .ok (.iconst 4, 1) := by decide +kernel
theorem dX12_asks_3 : decode cX12_asks 3 = .ok (.aload_n 0, 1) := by decide +kernel
theorem dX12_asks_4 : decode cX12_asks 4 = .ok (.iload_n 1, 1) := by decide +kernel
theorem dX12_asks_5 : decode cX12_asks 5 = .ok (.iconst 4, 1) := by decide +kernel
theorem dX12_asks_6 : decode cX12_asks 6 = .ok (.invokevirtual 180, 3) := by decide +kernel
theorem dX12_asks_9 : decode cX12_asks 9 = .ok (.iconst 1, 1) := by decide +kernel
theorem dX12_asks_10 : decode cX12_asks 10 = .ok (.iadd, 1) := by decide +kernel
theorem dX12_asks_11 : decode cX12_asks 11 = .ok (.invokevirtual 170, 3) := by decide +kernel
theorem dX12_asks_14 : decode cX12_asks 14 = .ok (.aload_n 0, 1) := by decide +kernel
theorem dX12_asks_15 : decode cX12_asks 15 = .ok (.iload_n 1, 1) := by decide +kernel
theorem dX12_asks_16 : decode cX12_asks 16 = .ok (.bipush 7, 2) := by decide +kernel
theorem dX12_asks_18 : decode cX12_asks 18 = .ok (.iload_n 2, 1) := by decide +kernel
theorem dX12_asks_19 : decode cX12_asks 19 = .ok (.iadd, 1) := by decide +kernel
theorem dX12_asks_20 : decode cX12_asks 20 = .ok (.aload_n 0, 1) := by decide +kernel
theorem dX12_asks_21 : decode cX12_asks 21 = .ok (.getfield 7, 3) := by decide +kernel
theorem dX12_asks_24 : decode cX12_asks 24 = .ok (.bipush 8, 2) := by decide +kernel
theorem dX12_asks_26 : decode cX12_asks 26 = .ok (.iaload, 1) := by decide +kernel
theorem dX12_asks_27 : decode cX12_asks 27 = .ok (.invokevirtual 170, 3) := by decide +kernel
theorem dX12_asks_30 : decode cX12_asks 30 = .ok (.aload_n 0, 1) := by decide +kernel
theorem dX12_asks_31 : decode cX12_asks 31 = .ok (.iconst 1, 1) := by decide +kernel
theorem dX12_asks_32 : decode cX12_asks 32 = .ok (.iload_n 1, 1) := by decide +kernel
theorem dX12_asks_33 : decode cX12_asks 33 = .ok (.iload_n 2, 1) := by decide +kernel
theorem dX12_asks_34 : decode cX12_asks 34 = .ok (.aload_n 0, 1) := by decide +kernel
theorem dX12_asks_35 : decode cX12_asks 35 = .ok (.iload_n 1, 1) := by decide +kernel
theorem dX12_asks_36 : decode cX12_asks 36 = .ok (.iconst 4, 1) := by decide +kernel
theorem dX12_asks_37 : decode cX12_asks 37 = .ok (.invokevirtual 180, 3) := by decide +kernel
theorem dX12_asks_40 : decode cX12_asks 40 = .ok (.aload_n 0, 1) := by decide +kernel
theorem dX12_asks_41 : decode cX12_asks 41 = .ok (.iload_n 1, 1) := by decide +kernel
theorem dX12_asks_42 : decode cX12_asks 42 = .ok (.iconst 5, 1) := by decide +kernel
theorem dX12_asks_43 : decode cX12_asks 43 = .ok (.invokevirtual 180, 3) := by decide +kernel
theorem dX12_asks_46 : decode cX12_asks 46 = .ok (.iconst (-1), 1) := by decide +kernel
theorem dX12_asks_47 : decode cX12_asks 47 = .ok (.invokevirtual 249, 3) := by decide +kernel
theorem dX12_asks_50 : decode cX12_asks 50 = .ok (.aload_n 0, 1) := by decide +kernel
theorem dX12_asks_51 : decode cX12_asks 51 = .ok (.iload_n 1, 1) := by decide +kernel
theorem dX12_asks_52 : decode cX12_asks 52 = .ok (.invokevirtual 262, 3) := by decide +kernel
theorem dX12_asks_55 : decode cX12_asks 55 = .ok (.aload_n 0, 1) := by decide +kernel
theorem dX12_asks_56 : decode cX12_asks 56 = .ok (.invokevirtual 253, 3) := by decide +kernel
theorem dX12_asks_59 : decode cX12_asks 59 = .ok (.istore_n 3, 1) := by decide +kernel
theorem dX12_asks_60 : decode cX12_asks 60 = .ok (.return_, 1) := by decide +kernel
theorem dX12_serves_0 : decode cX12_serves 0 = .ok (.aload_n 0, 1) := by decide +kernel
theorem dX12_serves_1 : decode cX12_serves 1 = .ok (.iload_n 1, 1) := by decide +kernel
theorem dX12_serves_2 : decode cX12_serves 2 = .ok (.iconst 0, 1) := by decide +kernel
theorem dX12_serves_3 : decode cX12_serves 3 = .ok (.invokevirtual 246, 3) := by decide +kernel
theorem dX12_serves_6 : decode cX12_serves 6 = .ok (.istore_n 2, 1) := by decide +kernel
theorem dX12_serves_7 : decode cX12_serves 7 = .ok (.aload_n 0, 1) := by decide +kernel
theorem dX12_serves_8 : decode cX12_serves 8 = .ok (.iload_n 1, 1) := by decide +kernel
theorem dX12_serves_9 : decode cX12_serves 9 = .ok (.iconst 1, 1) := by decide +kernel
theorem dX12_serves_10 : decode cX12_serves 10 = .ok (.invokevirtual 246, 3) := by decide +kernel
theorem dX12_serves_13 : decode cX12_serves 13 = .ok (.istore_n 3, 1) := by decide +kernel
theorem dX12_serves_14 : decode cX12_serves 14 = .ok (.aload_n 0, 1) := by decide +kernel
theorem dX12_serves_15 : decode cX12_serves 15 = .ok (.iload_n 2, 1) := by decide +kernel
theorem dX12_serves_16 : decode cX12_serves 16 = .ok (.iload_n 3, 1) := by decide +kernel
theorem dX12_serves_17 : decode cX12_serves 17 = .ok (.invokevirtual 265, 3) := by decide +kernel
theorem dX12_serves_20 : decode cX12_serves 20 = .ok (.ifCond .eq 9, 3) := by decide +kernel
theorem dX12_serves_23 : decode cX12_serves 23 = .ok (.aload_n 0, 1) := by decide +kernel
theorem dX12_serves_24 : decode cX12_serves 24 = .ok (.iload_n 1, 1) := by decide +kernel
theorem dX12_serves_25 : decode cX12_serves 25 = .ok (.invokevirtual 268, 3) := by decide +kernel
theorem dX12_serves_28 : decode cX12_serves 28 = .ok (.return_, 1) := by decide +kernel
theorem dX12_serves_29 : decode cX12_serves 29 = .ok (.aload_n 0, 1) := by decide +kernel
theorem dX12_serves_30 : decode cX12_serves 30 = .ok (.iload_n 2, 1) := by decide +kernel
theorem dX12_serves_31 : decode cX12_serves 31 = .ok (.iconst 3, 1) := by decide +kernel
theorem dX12_serves_32 : decode cX12_serves 32 = .ok (.invokevirtual 180, 3) := by decide +kernel
theorem dX12_serves_35 : decode cX12_serves 35 = .ok (.istore 4, 2) := by decide +kernel
theorem dX12_serves_37 : decode cX12_serves 37 = .ok (.iload 4, 2) := by decide +kernel
theorem dX12_serves_39 : decode cX12_serves 39 = .ok (.aload_n 0, 1) := by decide +kernel
theorem dX12_serves_40 : decode cX12_serves 40 = .ok (.getfield 7, 3) := by decide +kernel
theorem dX12_serves_43 : decode cX12_serves 43 = .ok (.iconst 4, 1) := by decide +kernel
theorem dX12_serves_44 : decode cX12_serves 44 = .ok (.iaload, 1) := by decide +kernel
theorem dX12_serves_45 : decode cX12_serves 45 = .ok (.if_icmp .ne 10, 3) := by decide +kernel
theorem dX12_serves_48 : decode cX12_serves 48 = .ok (.aload_n 0, 1) := by decide +kernel
theorem dX12_serves_49 : decode cX12_serves 49 = .ok (.iload_n 1, 1) := by decide +kernel
theorem dX12_serves_50 : decode cX12_serves 50 = .ok (.iconst 3, 1) := by decide +kernel
theorem dX12_serves_51 : decode cX12_serves 51 = .ok (.invokevirtual 256, 3) := by decide +kernel
theorem dX12_serves_54 : decode cX12_serves 54 = .ok (.return_, 1) := by decide +kernel
theorem dX12_serves_55 : decode cX12_serves 55 = .ok (.aload_n 0, 1) := by decide +kernel
theorem dX12_serves_56 : decode cX12_serves 56 = .ok (.iload_n 1, 1) := by decide +kernel
theorem dX12_serves_57 : decode cX12_serves 57 = .ok (.iconst 2, 1) := by decide +kernel
theorem dX12_serves_58 : decode cX12_serves 58 = .ok (.iconst 0, 1) := by decide +kernel
theorem dX12_serves_59 : decode cX12_serves 59 = .ok (.invokevirtual 243, 3) := by decide +kernel
theorem dX12_serves_62 : decode cX12_serves 62 = .ok (.aload_n 0, 1) := by decide +kernel
theorem dX12_serves_63 : decode cX12_serves 63 = .ok (.iload_n 1, 1) := by decide +kernel
theorem dX12_serves_64 : decode cX12_serves 64 = .ok (.iconst 5, 1) := by decide +kernel
theorem dX12_serves_65 : decode cX12_serves 65 = .ok (.iconst 0, 1) := by decide +kernel
theorem dX12_serves_66 : decode cX12_serves 66 = .ok (.invokevirtual 243, 3) := by decide +kernel
theorem dX12_serves_69 : decode cX12_serves 69 = .ok (.aload_n 0, 1) := by decide +kernel
theorem dX12_serves_70 : decode cX12_serves 70 = .ok (.iload_n 1, 1) := by decide +kernel
theorem dX12_serves_71 : decode cX12_serves 71 = .ok (.bipush 9, 2) := by decide +kernel
theorem dX12_serves_73 : decode cX12_serves 73 = .ok (.aload_n 0, 1) := by decide +kernel
theorem dX12_serves_74 : decode cX12_serves 74 = .ok (.getfield 7, 3) := by decide +kernel
theorem dX12_serves_77 : decode cX12_serves 77 = .ok (.bipush 8, 2) := by decide +kernel
theorem dX12_serves_79 : decode cX12_serves 79 = .ok (.iaload, 1) := by decide +kernel
theorem dX12_serves_80 : decode cX12_serves 80 = .ok (.invokevirtual 243, 3) := by decide +kernel
theorem dX12_serves_83 : decode cX12_serves 83 = .ok (.aload_n 0, 1) := by decide +kernel
theorem dX12_serves_84 : decode cX12_serves 84 = .ok (.iload_n 2, 1) := by decide +kernel
theorem dX12_serves_85 : decode cX12_serves 85 = .ok (.bipush 81, 2) := by decide +kernel
theorem dX12_serves_87 : decode cX12_serves 87 = .ok (.iload 4, 2) := by decide +kernel
theorem dX12_serves_89 : decode cX12_serves 89 = .ok (.iadd, 1) := by decide +kernel
theorem dX12_serves_90 : decode cX12_serves 90 = .ok (.iload_n 1, 1) := by decide +kernel
theorem dX12_serves_91 : decode cX12_serves 91 = .ok (.invokevirtual 170, 3) := by decide +kernel
theorem dX12_serves_94 : decode cX12_serves 94 = .ok (.aload_n 0, 1) := by decide +kernel
theorem dX12_serves_95 : decode cX12_serves 95 = .ok (.iload_n 2, 1) := by decide +kernel
theorem dX12_serves_96 : decode cX12_serves 96 = .ok (.iconst 3, 1) := by decide +kernel
theorem dX12_serves_97 : decode cX12_serves 97 = .ok (.iload 4, 2) := by decide +kernel
theorem dX12_serves_99 : decode cX12_serves 99 = .ok (.iconst 1, 1) := by decide +kernel
theorem dX12_serves_100 : decode cX12_serves 100 = .ok (.iadd, 1) := by decide +kernel
theorem dX12_serves_101 : decode cX12_serves 101 = .ok (.invokevirtual 170, 3) := by decide +kernel
theorem dX12_serves_104 : decode cX12_serves 104 = .ok (.aload_n 0, 1) := by decide +kernel
theorem dX12_serves_105 : decode cX12_serves 105 = .ok (.iload_n 2, 1) := by decide +kernel
theorem dX12_serves_106 : decode cX12_serves 106 = .ok (.bipush 7, 2) := by decide +kernel
theorem dX12_serves_108 : decode cX12_serves 108 = .ok (.iload_n 3, 1) := by decide +kernel
theorem dX12_serves_109 : decode cX12_serves 109 = .ok (.iadd, 1) := by decide +kernel
theorem dX12_serves_110 : decode cX12_serves 110 = .ok (.invokevirtual 180, 3) := by decide +kernel
theorem dX12_serves_113 : decode cX12_serves 113 = .ok (.iconst (-1), 1) := by decide +kernel
theorem dX12_serves_114 : decode cX12_serves 114 = .ok (.if_icmp .ne 9, 3) := by decide +kernel
theorem dX12_serves_117 : decode cX12_serves 117 = .ok (.aload_n 0, 1) := by decide +kernel
theorem dX12_serves_118 : decode cX12_serves 118 = .ok (.iload_n 2, 1) := by decide +kernel
theorem dX12_serves_119 : decode cX12_serves 119 = .ok (.iload_n 3, 1) := by decide +kernel
theorem dX12_serves_120 : decode cX12_serves 120 = .ok (.invokevirtual 271, 3) := by decide +kernel
theorem dX12_serves_123 : decode cX12_serves 123 = .ok (.return_, 1) := by decide +kernel
theorem dX12_rowAt_0 : decode cX12_rowAt 0 = .ok (.aload_n 0, 1) := by decide +kernel
theorem dX12_rowAt_1 : decode cX12_rowAt 1 = .ok (.getfield 45, 3) := by decide +kernel
theorem dX12_rowAt_4 : decode cX12_rowAt 4 = .ok (.bipush 7, 2) := by decide +kernel
theorem dX12_rowAt_6 : decode cX12_rowAt 6 = .ok (.iload_n 1, 1) := by decide +kernel
theorem dX12_rowAt_7 : decode cX12_rowAt 7 = .ok (.iadd, 1) := by decide +kernel
theorem dX12_rowAt_8 : decode cX12_rowAt 8 = .ok (.iaload, 1) := by decide +kernel
theorem dX12_rowAt_9 : decode cX12_rowAt 9 = .ok (.ireturn, 1) := by decide +kernel
theorem dX12_isInRow_0 : decode cX12_isInRow 0 = .ok (.iload_n 2, 1) := by decide +kernel
theorem dX12_isInRow_1 : decode cX12_isInRow 1 = .ok (.istore_n 3, 1) := by decide +kernel
theorem dX12_isInRow_2 : decode cX12_isInRow 2 = .ok (.iload_n 3, 1) := by decide +kernel
theorem dX12_isInRow_3 : decode cX12_isInRow 3 = .ok (.aload_n 0, 1) := by decide +kernel
theorem dX12_isInRow_4 : decode cX12_isInRow 4 = .ok (.getfield 45, 3) := by decide +kernel
theorem dX12_isInRow_7 : decode cX12_isInRow 7 = .ok (.bipush 6, 2) := by decide +kernel
theorem dX12_isInRow_9 : decode cX12_isInRow 9 = .ok (.iaload, 1) := by decide +kernel
theorem dX12_isInRow_10 : decode cX12_isInRow 10 = .ok (.if_icmp .ge 20, 3) := by decide +kernel
theorem dX12_isInRow_13 : decode cX12_isInRow 13 = .ok (.aload_n 0, 1) := by decide +kernel
theorem dX12_isInRow_14 : decode cX12_isInRow 14 = .ok (.iload_n 3, 1) := by decide +kernel
theorem dX12_isInRow_15 : decode cX12_isInRow 15 = .ok (.invokevirtual 274, 3) := by decide +kernel
theorem dX12_isInRow_18 : decode cX12_isInRow 18 = .ok (.iload_n 1, 1) := by decide +kernel
theorem dX12_isInRow_19 : decode cX12_isInRow 19 = .ok (.if_icmp .ne 5, 3) := by decide +kernel
theorem dX12_isInRow_22 : decode cX12_isInRow 22 = .ok (.iconst 1, 1) := by decide +kernel
theorem dX12_isInRow_23 : decode cX12_isInRow 23 = .ok (.ireturn, 1) := by decide +kernel
theorem dX12_isInRow_24 : decode cX12_isInRow 24 = .ok (.iinc 3 1, 3) := by decide +kernel
theorem dX12_isInRow_27 : decode cX12_isInRow 27 = .ok (.goto (-25), 3) := by decide +kernel
theorem dX12_isInRow_30 : decode cX12_isInRow 30 = .ok (.iconst 0, 1) := by decide +kernel
theorem dX12_isInRow_31 : decode cX12_isInRow 31 = .ok (.ireturn, 1) := by decide +kernel
theorem dX12_isNear_0 : decode cX12_isNear 0 = .ok (.iload_n 2, 1) := by decide +kernel
theorem dX12_isNear_1 : decode cX12_isNear 1 = .ok (.iload_n 1, 1) := by decide +kernel
theorem dX12_isNear_2 : decode cX12_isNear 2 = .ok (.if_icmp .eq 16, 3) := by decide +kernel
theorem dX12_isNear_5 : decode cX12_isNear 5 = .ok (.aload_n 0, 1) := by decide +kernel
theorem dX12_isNear_6 : decode cX12_isNear 6 = .ok (.iload_n 1, 1) := by decide +kernel
theorem dX12_isNear_7 : decode cX12_isNear 7 = .ok (.iload_n 2, 1) := by decide +kernel
theorem dX12_isNear_8 : decode cX12_isNear 8 = .ok (.invokevirtual 277, 3) := by decide +kernel
theorem dX12_isNear_11 : decode cX12_isNear 11 = .ok (.ifCond .eq 7, 3) := by decide +kernel
theorem dX12_isNear_14 : decode cX12_isNear 14 = .ok (.iconst 1, 1) := by decide +kernel
theorem dX12_isNear_15 : decode cX12_isNear 15 = .ok (.goto 4, 3) := by decide +kernel
theorem dX12_isNear_18 : decode cX12_isNear 18 = .ok (.iconst 0, 1) := by decide +kernel
theorem dX12_isNear_19 : decode cX12_isNear 19 = .ok (.ireturn, 1) := by decide +kernel
theorem dX12_trailAt_0 : decode cX12_trailAt 0 = .ok (.aload_n 0, 1) := by decide +kernel
theorem dX12_trailAt_1 : decode cX12_trailAt 1 = .ok (.iload_n 1, 1) := by decide +kernel
theorem dX12_trailAt_2 : decode cX12_trailAt 2 = .ok (.bipush 10, 2) := by decide +kernel
theorem dX12_trailAt_4 : decode cX12_trailAt 4 = .ok (.iload_n 2, 1) := by decide +kernel
theorem dX12_trailAt_5 : decode cX12_trailAt 5 = .ok (.iadd, 1) := by decide +kernel
theorem dX12_trailAt_6 : decode cX12_trailAt 6 = .ok (.invokevirtual 246, 3) := by decide +kernel
theorem dX12_trailAt_9 : decode cX12_trailAt 9 = .ok (.ireturn, 1) := by decide +kernel
theorem dX12_isInTrail_0 : decode cX12_isInTrail 0 = .ok (.iconst 0, 1) := by decide +kernel
theorem dX12_isInTrail_1 : decode cX12_isInTrail 1 = .ok (.istore 4, 2) := by decide +kernel
theorem dX12_isInTrail_3 : decode cX12_isInTrail 3 = .ok (.iload 4, 2) := by decide +kernel
theorem dX12_isInTrail_5 : decode cX12_isInTrail 5 = .ok (.iload_n 3, 1) := by decide +kernel
theorem dX12_isInTrail_6 : decode cX12_isInTrail 6 = .ok (.if_icmp .ge 22, 3) := by decide +kernel
theorem dX12_isInTrail_9 : decode cX12_isInTrail 9 = .ok (.aload_n 0, 1) := by decide +kernel
theorem dX12_isInTrail_10 : decode cX12_isInTrail 10 = .ok (.iload_n 1, 1) := by decide +kernel
theorem dX12_isInTrail_11 : decode cX12_isInTrail 11 = .ok (.iload 4, 2) := by decide +kernel
theorem dX12_isInTrail_13 : decode cX12_isInTrail 13 = .ok (.invokevirtual 280, 3) := by decide +kernel
theorem dX12_isInTrail_16 : decode cX12_isInTrail 16 = .ok (.iload_n 2, 1) := by decide +kernel
theorem dX12_isInTrail_17 : decode cX12_isInTrail 17 = .ok (.if_icmp .ne 5, 3) := by decide +kernel
theorem dX12_isInTrail_20 : decode cX12_isInTrail 20 = .ok (.iconst 1, 1) := by decide +kernel
theorem dX12_isInTrail_21 : decode cX12_isInTrail 21 = .ok (.ireturn, 1) := by decide +kernel
theorem dX12_isInTrail_22 : decode cX12_isInTrail 22 = .ok (.iinc 4 1, 3) := by decide +kernel
theorem dX12_isInTrail_25 : decode cX12_isInTrail 25 = .ok (.goto (-22), 3) := by decide +kernel
theorem dX12_isInTrail_28 : decode cX12_isInTrail 28 = .ok (.iconst 0, 1) := by decide +kernel
theorem dX12_isInTrail_29 : decode cX12_isInTrail 29 = .ok (.ireturn, 1) := by decide +kernel
theorem dX12_isClear_0 : decode cX12_isClear 0 = .ok (.iconst 1, 1) := by decide +kernel
theorem dX12_isClear_1 : decode cX12_isClear 1 = .ok (.istore_n 2, 1) := by decide +kernel
theorem dX12_isClear_2 : decode cX12_isClear 2 = .ok (.iload_n 2, 1) := by decide +kernel
theorem dX12_isClear_3 : decode cX12_isClear 3 = .ok (.aload_n 0, 1) := by decide +kernel
theorem dX12_isClear_4 : decode cX12_isClear 4 = .ok (.getfield 231, 3) := by decide +kernel
theorem dX12_isClear_7 : decode cX12_isClear 7 = .ok (.if_icmp .ge 31, 3) := by decide +kernel
theorem dX12_isClear_10 : decode cX12_isClear 10 = .ok (.aload_n 0, 1) := by decide +kernel
theorem dX12_isClear_11 : decode cX12_isClear 11 = .ok (.iload_n 1, 1) := by decide +kernel
theorem dX12_isClear_12 : decode cX12_isClear 12 = .ok (.aload_n 0, 1) := by decide +kernel
theorem dX12_isClear_13 : decode cX12_isClear 13 = .ok (.getfield 33, 3) := by decide +kernel
theorem dX12_isClear_16 : decode cX12_isClear 16 = .ok (.iload_n 2, 1) := by decide +kernel
theorem dX12_isClear_17 : decode cX12_isClear 17 = .ok (.iaload, 1) := by decide +kernel
theorem dX12_isClear_18 : decode cX12_isClear 18 = .ok (.aload_n 0, 1) := by decide +kernel
theorem dX12_isClear_19 : decode cX12_isClear 19 = .ok (.iload_n 1, 1) := by decide +kernel
theorem dX12_isClear_20 : decode cX12_isClear 20 = .ok (.iconst 4, 1) := by decide +kernel
theorem dX12_isClear_21 : decode cX12_isClear 21 = .ok (.invokevirtual 246, 3) := by decide +kernel
theorem dX12_isClear_24 : decode cX12_isClear 24 = .ok (.invokevirtual 283, 3) := by decide +kernel
theorem dX12_isClear_27 : decode cX12_isClear 27 = .ok (.ifCond .eq 5, 3) := by decide +kernel
theorem dX12_isClear_30 : decode cX12_isClear 30 = .ok (.iconst 0, 1) := by decide +kernel
theorem dX12_isClear_31 : decode cX12_isClear 31 = .ok (.ireturn, 1) := by decide +kernel
theorem dX12_isClear_32 : decode cX12_isClear 32 = .ok (.iinc 2 1, 3) := by decide +kernel
theorem dX12_isClear_35 : decode cX12_isClear 35 = .ok (.goto (-33), 3) := by decide +kernel
theorem dX12_isClear_38 : decode cX12_isClear 38 = .ok (.iconst 1, 1) := by decide +kernel
theorem dX12_isClear_39 : decode cX12_isClear 39 = .ok (.ireturn, 1) := by decide +kernel
theorem dX12_breaks_0 : decode cX12_breaks 0 = .ok (.aload_n 0, 1) := by decide +kernel
theorem dX12_breaks_1 : decode cX12_breaks 1 = .ok (.bipush 6, 2) := by decide +kernel
theorem dX12_breaks_3 : decode cX12_breaks 3 = .ok (.iconst 1, 1) := by decide +kernel
theorem dX12_breaks_4 : decode cX12_breaks 4 = .ok (.invokevirtual 240, 3) := by decide +kernel
theorem dX12_breaks_7 : decode cX12_breaks 7 = .ok (.aload_n 0, 1) := by decide +kernel
theorem dX12_breaks_8 : decode cX12_breaks 8 = .ok (.iload_n 2, 1) := by decide +kernel
theorem dX12_breaks_9 : decode cX12_breaks 9 = .ok (.iload_n 2, 1) := by decide +kernel
theorem dX12_breaks_10 : decode cX12_breaks 10 = .ok (.iload_n 3, 1) := by decide +kernel
theorem dX12_breaks_11 : decode cX12_breaks 11 = .ok (.invokevirtual 218, 3) := by decide +kernel
theorem dX12_breaks_14 : decode cX12_breaks 14 = .ok (.iload_n 2, 1) := by decide +kernel
theorem dX12_breaks_15 : decode cX12_breaks 15 = .ok (.aload_n 0, 1) := by decide +kernel
theorem dX12_breaks_16 : decode cX12_breaks 16 = .ok (.iload_n 1, 1) := by decide +kernel
theorem dX12_breaks_17 : decode cX12_breaks 17 = .ok (.iconst 0, 1) := by decide +kernel
theorem dX12_breaks_18 : decode cX12_breaks 18 = .ok (.invokevirtual 246, 3) := by decide +kernel
theorem dX12_breaks_21 : decode cX12_breaks 21 = .ok (.if_icmp .ne 20, 3) := by decide +kernel
theorem dX12_breaks_24 : decode cX12_breaks 24 = .ok (.aload_n 0, 1) := by decide +kernel
theorem dX12_breaks_25 : decode cX12_breaks 25 = .ok (.iload_n 2, 1) := by decide +kernel
theorem dX12_breaks_26 : decode cX12_breaks 26 = .ok (.iconst 5, 1) := by decide +kernel
theorem dX12_breaks_27 : decode cX12_breaks 27 = .ok (.iload_n 2, 1) := by decide +kernel
theorem dX12_breaks_28 : decode cX12_breaks 28 = .ok (.iload_n 3, 1) := by decide +kernel
theorem dX12_breaks_29 : decode cX12_breaks 29 = .ok (.invokestatic 286, 3) := by decide +kernel
theorem dX12_breaks_32 : decode cX12_breaks 32 = .ok (.invokevirtual 170, 3) := by decide +kernel
theorem dX12_breaks_35 : decode cX12_breaks 35 = .ok (.aload_n 0, 1) := by decide +kernel
theorem dX12_breaks_36 : decode cX12_breaks 36 = .ok (.iload_n 1, 1) := by decide +kernel
theorem dX12_breaks_37 : decode cX12_breaks 37 = .ok (.invokevirtual 289, 3) := by decide +kernel
theorem dX12_breaks_40 : decode cX12_breaks 40 = .ok (.return_, 1) := by decide +kernel
theorem dX12_breaks_41 : decode cX12_breaks 41 = .ok (.aload_n 0, 1) := by decide +kernel
theorem dX12_breaks_42 : decode cX12_breaks 42 = .ok (.iconst 3, 1) := by decide +kernel
theorem dX12_breaks_43 : decode cX12_breaks 43 = .ok (.iload_n 2, 1) := by decide +kernel
theorem dX12_breaks_44 : decode cX12_breaks 44 = .ok (.iconst (-1), 1) := by decide +kernel
theorem dX12_breaks_45 : decode cX12_breaks 45 = .ok (.iconst (-1), 1) := by decide +kernel
theorem dX12_breaks_46 : decode cX12_breaks 46 = .ok (.iconst (-1), 1) := by decide +kernel
theorem dX12_breaks_47 : decode cX12_breaks 47 = .ok (.iload_n 2, 1) := by decide +kernel
theorem dX12_breaks_48 : decode cX12_breaks 48 = .ok (.iload_n 3, 1) := by decide +kernel
theorem dX12_breaks_49 : decode cX12_breaks 49 = .ok (.invokestatic 286, 3) := by decide +kernel
theorem dX12_breaks_52 : decode cX12_breaks 52 = .ok (.invokevirtual 249, 3) := by decide +kernel
theorem dX12_breaks_55 : decode cX12_breaks 55 = .ok (.aload_n 0, 1) := by decide +kernel
theorem dX12_breaks_56 : decode cX12_breaks 56 = .ok (.iload_n 1, 1) := by decide +kernel
theorem dX12_breaks_57 : decode cX12_breaks 57 = .ok (.iconst 4, 1) := by decide +kernel
theorem dX12_breaks_58 : decode cX12_breaks 58 = .ok (.invokevirtual 246, 3) := by decide +kernel
theorem dX12_breaks_61 : decode cX12_breaks 61 = .ok (.iconst 1, 1) := by decide +kernel
theorem dX12_breaks_62 : decode cX12_breaks 62 = .ok (.isub, 1) := by decide +kernel
theorem dX12_breaks_63 : decode cX12_breaks 63 = .ok (.istore 4, 2) := by decide +kernel
theorem dX12_breaks_65 : decode cX12_breaks 65 = .ok (.iload 4, 2) := by decide +kernel
theorem dX12_breaks_67 : decode cX12_breaks 67 = .ok (.ifCond .lt 20, 3) := by decide +kernel
theorem dX12_breaks_70 : decode cX12_breaks 70 = .ok (.aload_n 0, 1) := by decide +kernel
theorem dX12_breaks_71 : decode cX12_breaks 71 = .ok (.aload_n 0, 1) := by decide +kernel
theorem dX12_breaks_72 : decode cX12_breaks 72 = .ok (.iload_n 1, 1) := by decide +kernel
theorem dX12_breaks_73 : decode cX12_breaks 73 = .ok (.iload 4, 2) := by decide +kernel
theorem dX12_breaks_75 : decode cX12_breaks 75 = .ok (.invokevirtual 280, 3) := by decide +kernel
theorem dX12_breaks_78 : decode cX12_breaks 78 = .ok (.invokevirtual 262, 3) := by decide +kernel
theorem dX12_breaks_81 : decode cX12_breaks 81 = .ok (.iinc 4 (-1), 3) := by decide +kernel
theorem dX12_breaks_84 : decode cX12_breaks 84 = .ok (.goto (-19), 3) := by decide +kernel
theorem dX12_breaks_87 : decode cX12_breaks 87 = .ok (.aload_n 0, 1) := by decide +kernel
theorem dX12_breaks_88 : decode cX12_breaks 88 = .ok (.invokevirtual 253, 3) := by decide +kernel
theorem dX12_breaks_91 : decode cX12_breaks 91 = .ok (.istore 4, 2) := by decide +kernel
theorem dX12_breaks_93 : decode cX12_breaks 93 = .ok (.aload_n 0, 1) := by decide +kernel
theorem dX12_breaks_94 : decode cX12_breaks 94 = .ok (.iload_n 1, 1) := by decide +kernel
theorem dX12_breaks_95 : decode cX12_breaks 95 = .ok (.iconst 3, 1) := by decide +kernel
theorem dX12_breaks_96 : decode cX12_breaks 96 = .ok (.invokevirtual 246, 3) := by decide +kernel
theorem dX12_breaks_99 : decode cX12_breaks 99 = .ok (.aload_n 0, 1) := by decide +kernel
theorem dX12_breaks_100 : decode cX12_breaks 100 = .ok (.getfield 7, 3) := by decide +kernel
theorem dX12_breaks_103 : decode cX12_breaks 103 = .ok (.bipush 7, 2) := by decide +kernel
theorem dX12_breaks_105 : decode cX12_breaks 105 = .ok (.iaload, 1) := by decide +kernel
theorem dX12_breaks_106 : decode cX12_breaks 106 = .ok (.if_icmp .ge 53, 3) := by decide +kernel
theorem dX12_breaks_109 : decode cX12_breaks 109 = .ok (.aload_n 0, 1) := by decide +kernel
theorem dX12_breaks_110 : decode cX12_breaks 110 = .ok (.iload_n 2, 1) := by decide +kernel
theorem dX12_breaks_111 : decode cX12_breaks 111 = .ok (.aload_n 0, 1) := by decide +kernel
theorem dX12_breaks_112 : decode cX12_breaks 112 = .ok (.iload_n 1, 1) := by decide +kernel
theorem dX12_breaks_113 : decode cX12_breaks 113 = .ok (.iconst 1, 1) := by decide +kernel
theorem dX12_breaks_114 : decode cX12_breaks 114 = .ok (.invokevirtual 246, 3) := by decide +kernel
theorem dX12_breaks_117 : decode cX12_breaks 117 = .ok (.invokevirtual 265, 3) := by decide +kernel
theorem dX12_breaks_120 : decode cX12_breaks 120 = .ok (.ifCond .eq 39, 3) := by decide +kernel
theorem dX12_breaks_123 : decode cX12_breaks 123 = .ok (.aload_n 0, 1) := by decide +kernel
theorem dX12_breaks_124 : decode cX12_breaks 124 = .ok (.iload_n 1, 1) := by decide +kernel
theorem dX12_breaks_125 : decode cX12_breaks 125 = .ok (.invokevirtual 292, 3) := by decide +kernel
theorem dX12_breaks_128 : decode cX12_breaks 128 = .ok (.ifCond .eq 31, 3) := by decide +kernel
theorem dX12_breaks_131 : decode cX12_breaks 131 = .ok (.aload_n 0, 1) := by decide +kernel
theorem dX12_breaks_132 : decode cX12_breaks 132 = .ok (.iload_n 1, 1) := by decide +kernel
theorem dX12_breaks_133 : decode cX12_breaks 133 = .ok (.iconst 3, 1) := by decide +kernel
theorem dX12_breaks_134 : decode cX12_breaks 134 = .ok (.aload_n 0, 1) := by decide +kernel
theorem dX12_breaks_135 : decode cX12_breaks 135 = .ok (.iload_n 1, 1) := by decide +kernel
theorem dX12_breaks_136 : decode cX12_breaks 136 = .ok (.iconst 3, 1) := by decide +kernel
theorem dX12_breaks_137 : decode cX12_breaks 137 = .ok (.invokevirtual 246, 3) := by decide +kernel
theorem dX12_breaks_140 : decode cX12_breaks 140 = .ok (.iconst 1, 1) := by decide +kernel
theorem dX12_breaks_141 : decode cX12_breaks 141 = .ok (.iadd, 1) := by decide +kernel
theorem dX12_breaks_142 : decode cX12_breaks 142 = .ok (.invokevirtual 243, 3) := by decide +kernel
theorem dX12_breaks_145 : decode cX12_breaks 145 = .ok (.aload_n 0, 1) := by decide +kernel
theorem dX12_breaks_146 : decode cX12_breaks 146 = .ok (.iconst 4, 1) := by decide +kernel
theorem dX12_breaks_147 : decode cX12_breaks 147 = .ok (.iconst 1, 1) := by decide +kernel
theorem dX12_breaks_148 : decode cX12_breaks 148 = .ok (.invokevirtual 240, 3) := by decide +kernel
theorem dX12_breaks_151 : decode cX12_breaks 151 = .ok (.aload_n 0, 1) := by decide +kernel
theorem dX12_breaks_152 : decode cX12_breaks 152 = .ok (.iload_n 1, 1) := by decide +kernel
theorem dX12_breaks_153 : decode cX12_breaks 153 = .ok (.invokevirtual 268, 3) := by decide +kernel
theorem dX12_breaks_156 : decode cX12_breaks 156 = .ok (.goto 9, 3) := by decide +kernel
theorem dX12_breaks_159 : decode cX12_breaks 159 = .ok (.aload_n 0, 1) := by decide +kernel
theorem dX12_breaks_160 : decode cX12_breaks 160 = .ok (.iload_n 1, 1) := by decide +kernel
theorem dX12_breaks_161 : decode cX12_breaks 161 = .ok (.iconst 3, 1) := by decide +kernel
theorem dX12_breaks_162 : decode cX12_breaks 162 = .ok (.invokevirtual 256, 3) := by decide +kernel
theorem dX12_breaks_165 : decode cX12_breaks 165 = .ok (.return_, 1) := by decide +kernel
theorem dX12_movesOn_0 : decode cX12_movesOn 0 = .ok (.aload_n 0, 1) := by decide +kernel
theorem dX12_movesOn_1 : decode cX12_movesOn 1 = .ok (.iload_n 1, 1) := by decide +kernel
theorem dX12_movesOn_2 : decode cX12_movesOn 2 = .ok (.iconst 4, 1) := by decide +kernel
theorem dX12_movesOn_3 : decode cX12_movesOn 3 = .ok (.invokevirtual 246, 3) := by decide +kernel
theorem dX12_movesOn_6 : decode cX12_movesOn 6 = .ok (.istore_n 3, 1) := by decide +kernel
theorem dX12_movesOn_7 : decode cX12_movesOn 7 = .ok (.aload_n 0, 1) := by decide +kernel
theorem dX12_movesOn_8 : decode cX12_movesOn 8 = .ok (.iload_n 1, 1) := by decide +kernel
theorem dX12_movesOn_9 : decode cX12_movesOn 9 = .ok (.bipush 10, 2) := by decide +kernel
theorem dX12_movesOn_11 : decode cX12_movesOn 11 = .ok (.iload_n 3, 1) := by decide +kernel
theorem dX12_movesOn_12 : decode cX12_movesOn 12 = .ok (.iadd, 1) := by decide +kernel
theorem dX12_movesOn_13 : decode cX12_movesOn 13 = .ok (.iload_n 2, 1) := by decide +kernel
theorem dX12_movesOn_14 : decode cX12_movesOn 14 = .ok (.invokevirtual 243, 3) := by decide +kernel
theorem dX12_movesOn_17 : decode cX12_movesOn 17 = .ok (.aload_n 0, 1) := by decide +kernel
theorem dX12_movesOn_18 : decode cX12_movesOn 18 = .ok (.iload_n 1, 1) := by decide +kernel
theorem dX12_movesOn_19 : decode cX12_movesOn 19 = .ok (.iconst 4, 1) := by decide +kernel
theorem dX12_movesOn_20 : decode cX12_movesOn 20 = .ok (.iload_n 3, 1) := by decide +kernel
theorem dX12_movesOn_21 : decode cX12_movesOn 21 = .ok (.iconst 1, 1) := by decide +kernel
theorem dX12_movesOn_22 : decode cX12_movesOn 22 = .ok (.iadd, 1) := by decide +kernel
theorem dX12_movesOn_23 : decode cX12_movesOn 23 = .ok (.invokevirtual 243, 3) := by decide +kernel
theorem dX12_movesOn_26 : decode cX12_movesOn 26 = .ok (.aload_n 0, 1) := by decide +kernel
theorem dX12_movesOn_27 : decode cX12_movesOn 27 = .ok (.iload_n 1, 1) := by decide +kernel
theorem dX12_movesOn_28 : decode cX12_movesOn 28 = .ok (.iconst 5, 1) := by decide +kernel
theorem dX12_movesOn_29 : decode cX12_movesOn 29 = .ok (.invokevirtual 246, 3) := by decide +kernel
theorem dX12_movesOn_32 : decode cX12_movesOn 32 = .ok (.iconst 1, 1) := by decide +kernel
theorem dX12_movesOn_33 : decode cX12_movesOn 33 = .ok (.isub, 1) := by decide +kernel
theorem dX12_movesOn_34 : decode cX12_movesOn 34 = .ok (.istore 4, 2) := by decide +kernel
theorem dX12_movesOn_36 : decode cX12_movesOn 36 = .ok (.iconst 0, 1) := by decide +kernel
theorem dX12_movesOn_37 : decode cX12_movesOn 37 = .ok (.istore 5, 2) := by decide +kernel
theorem dX12_movesOn_39 : decode cX12_movesOn 39 = .ok (.iload 5, 2) := by decide +kernel
theorem dX12_movesOn_41 : decode cX12_movesOn 41 = .ok (.iload 4, 2) := by decide +kernel
theorem dX12_movesOn_43 : decode cX12_movesOn 43 = .ok (.if_icmp .ge 31, 3) := by decide +kernel
theorem dX12_movesOn_46 : decode cX12_movesOn 46 = .ok (.aload_n 0, 1) := by decide +kernel
theorem dX12_movesOn_47 : decode cX12_movesOn 47 = .ok (.iload_n 1, 1) := by decide +kernel
theorem dX12_movesOn_48 : decode cX12_movesOn 48 = .ok (.bipush 18, 2) := by decide +kernel
theorem dX12_movesOn_50 : decode cX12_movesOn 50 = .ok (.iload 5, 2) := by decide +kernel
theorem dX12_movesOn_52 : decode cX12_movesOn 52 = .ok (.iadd, 1) := by decide +kernel
theorem dX12_movesOn_53 : decode cX12_movesOn 53 = .ok (.aload_n 0, 1) := by decide +kernel
theorem dX12_movesOn_54 : decode cX12_movesOn 54 = .ok (.iload_n 1, 1) := by decide +kernel
theorem dX12_movesOn_55 : decode cX12_movesOn 55 = .ok (.bipush 18, 2) := by decide +kernel
theorem dX12_movesOn_57 : decode cX12_movesOn 57 = .ok (.iload 5, 2) := by decide +kernel
theorem dX12_movesOn_59 : decode cX12_movesOn 59 = .ok (.iadd, 1) := by decide +kernel
theorem dX12_movesOn_60 : decode cX12_movesOn 60 = .ok (.iconst 1, 1) := by decide +kernel
theorem dX12_movesOn_61 : decode cX12_movesOn 61 = .ok (.iadd, 1) := by decide +kernel
theorem dX12_movesOn_62 : decode cX12_movesOn 62 = .ok (.invokevirtual 246, 3) := by decide +kernel
theorem dX12_movesOn_65 : decode cX12_movesOn 65 = .ok (.invokevirtual 243, 3) := by decide +kernel
theorem dX12_movesOn_68 : decode cX12_movesOn 68 = .ok (.iinc 5 1, 3) := by decide +kernel
theorem dX12_movesOn_71 : decode cX12_movesOn 71 = .ok (.goto (-32), 3) := by decide +kernel
theorem dX12_movesOn_74 : decode cX12_movesOn 74 = .ok (.aload_n 0, 1) := by decide +kernel
theorem dX12_movesOn_75 : decode cX12_movesOn 75 = .ok (.iload_n 1, 1) := by decide +kernel
theorem dX12_movesOn_76 : decode cX12_movesOn 76 = .ok (.iconst 5, 1) := by decide +kernel
theorem dX12_movesOn_77 : decode cX12_movesOn 77 = .ok (.iload 4, 2) := by decide +kernel
theorem dX12_movesOn_79 : decode cX12_movesOn 79 = .ok (.invokevirtual 243, 3) := by decide +kernel
theorem dX12_movesOn_82 : decode cX12_movesOn 82 = .ok (.return_, 1) := by decide +kernel
theorem dX12_addsTrail_0 : decode cX12_addsTrail 0 = .ok (.iload_n 2, 1) := by decide +kernel
theorem dX12_addsTrail_1 : decode cX12_addsTrail 1 = .ok (.istore_n 3, 1) := by decide +kernel
theorem dX12_addsTrail_2 : decode cX12_addsTrail 2 = .ok (.iload_n 3, 1) := by decide +kernel
theorem dX12_addsTrail_3 : decode cX12_addsTrail 3 = .ok (.ifCond .lt 19, 3) := by decide +kernel
theorem dX12_addsTrail_6 : decode cX12_addsTrail 6 = .ok (.aload_n 0, 1) := by decide +kernel
theorem dX12_addsTrail_7 : decode cX12_addsTrail 7 = .ok (.aload_n 0, 1) := by decide +kernel
theorem dX12_addsTrail_8 : decode cX12_addsTrail 8 = .ok (.iload_n 1, 1) := by decide +kernel
theorem dX12_addsTrail_9 : decode cX12_addsTrail 9 = .ok (.iload_n 3, 1) := by decide +kernel
theorem dX12_addsTrail_10 : decode cX12_addsTrail 10 = .ok (.invokevirtual 280, 3) := by decide +kernel
theorem dX12_addsTrail_13 : decode cX12_addsTrail 13 = .ok (.invokevirtual 295, 3) := by decide +kernel
theorem dX12_addsTrail_16 : decode cX12_addsTrail 16 = .ok (.iinc 3 (-1), 3) := by decide +kernel
theorem dX12_addsTrail_19 : decode cX12_addsTrail 19 = .ok (.goto (-17), 3) := by decide +kernel
theorem dX12_addsTrail_22 : decode cX12_addsTrail 22 = .ok (.return_, 1) := by decide +kernel
theorem dX12_shortens_0 : decode cX12_shortens 0 = .ok (.aload_n 0, 1) := by decide +kernel
theorem dX12_shortens_1 : decode cX12_shortens 1 = .ok (.iload_n 1, 1) := by decide +kernel
theorem dX12_shortens_2 : decode cX12_shortens 2 = .ok (.iconst 5, 1) := by decide +kernel
theorem dX12_shortens_3 : decode cX12_shortens 3 = .ok (.invokevirtual 246, 3) := by decide +kernel
theorem dX12_shortens_6 : decode cX12_shortens 6 = .ok (.istore 4, 2) := by decide +kernel
theorem dX12_shortens_8 : decode cX12_shortens 8 = .ok (.iconst 1, 1) := by decide +kernel
theorem dX12_shortens_9 : decode cX12_shortens 9 = .ok (.istore 5, 2) := by decide +kernel
theorem dX12_shortens_11 : decode cX12_shortens 11 = .ok (.iload 5, 2) := by decide +kernel
theorem dX12_shortens_13 : decode cX12_shortens 13 = .ok (.iload 4, 2) := by decide +kernel
theorem dX12_shortens_15 : decode cX12_shortens 15 = .ok (.if_icmp .ge 23, 3) := by decide +kernel
theorem dX12_shortens_18 : decode cX12_shortens 18 = .ok (.aload_n 0, 1) := by decide +kernel
theorem dX12_shortens_19 : decode cX12_shortens 19 = .ok (.iload_n 1, 1) := by decide +kernel
theorem dX12_shortens_20 : decode cX12_shortens 20 = .ok (.bipush 18, 2) := by decide +kernel
theorem dX12_shortens_22 : decode cX12_shortens 22 = .ok (.iload 5, 2) := by decide +kernel
theorem dX12_shortens_24 : decode cX12_shortens 24 = .ok (.iadd, 1) := by decide +kernel
theorem dX12_shortens_25 : decode cX12_shortens 25 = .ok (.invokevirtual 246, 3) := by decide +kernel
theorem dX12_shortens_28 : decode cX12_shortens 28 = .ok (.iload_n 3, 1) := by decide +kernel
theorem dX12_shortens_29 : decode cX12_shortens 29 = .ok (.if_icmp .eq 9, 3) := by decide +kernel
theorem dX12_shortens_32 : decode cX12_shortens 32 = .ok (.iinc 5 1, 3) := by decide +kernel
theorem dX12_shortens_35 : decode cX12_shortens 35 = .ok (.goto (-24), 3) := by decide +kernel
theorem dX12_shortens_38 : decode cX12_shortens 38 = .ok (.iload 5, 2) := by decide +kernel
theorem dX12_shortens_40 : decode cX12_shortens 40 = .ok (.iload 4, 2) := by decide +kernel
theorem dX12_shortens_42 : decode cX12_shortens 42 = .ok (.if_icmp .ge 17, 3) := by decide +kernel
theorem dX12_shortens_45 : decode cX12_shortens 45 = .ok (.aload_n 0, 1) := by decide +kernel
theorem dX12_shortens_46 : decode cX12_shortens 46 = .ok (.iload_n 1, 1) := by decide +kernel
theorem dX12_shortens_47 : decode cX12_shortens 47 = .ok (.bipush 8, 2) := by decide +kernel
theorem dX12_shortens_49 : decode cX12_shortens 49 = .ok (.invokevirtual 246, 3) := by decide +kernel
theorem dX12_shortens_52 : decode cX12_shortens 52 = .ok (.iload_n 3, 1) := by decide +kernel
theorem dX12_shortens_53 : decode cX12_shortens 53 = .ok (.invokestatic 166, 3) := by decide +kernel
theorem dX12_shortens_56 : decode cX12_shortens 56 = .ok (.ifCond .eq 4, 3) := by decide +kernel
theorem dX12_shortens_59 : decode cX12_shortens 59 = .ok (.return_, 1) := by decide +kernel
theorem dX12_shortens_60 : decode cX12_shortens 60 = .ok (.aload_n 0, 1) := by decide +kernel
theorem dX12_shortens_61 : decode cX12_shortens 61 = .ok (.iload_n 1, 1) := by decide +kernel
theorem dX12_shortens_62 : decode cX12_shortens 62 = .ok (.bipush 8, 2) := by decide +kernel
theorem dX12_shortens_64 : decode cX12_shortens 64 = .ok (.aload_n 0, 1) := by decide +kernel
theorem dX12_shortens_65 : decode cX12_shortens 65 = .ok (.iload_n 1, 1) := by decide +kernel
theorem dX12_shortens_66 : decode cX12_shortens 66 = .ok (.bipush 8, 2) := by decide +kernel
theorem dX12_shortens_68 : decode cX12_shortens 68 = .ok (.invokevirtual 246, 3) := by decide +kernel
theorem dX12_shortens_71 : decode cX12_shortens 71 = .ok (.iconst 1, 1) := by decide +kernel
theorem dX12_shortens_72 : decode cX12_shortens 72 = .ok (.iload_n 3, 1) := by decide +kernel
theorem dX12_shortens_73 : decode cX12_shortens 73 = .ok (.ishl, 1) := by decide +kernel
theorem dX12_shortens_74 : decode cX12_shortens 74 = .ok (.ior, 1) := by decide +kernel
theorem dX12_shortens_75 : decode cX12_shortens 75 = .ok (.invokevirtual 243, 3) := by decide +kernel
theorem dX12_shortens_78 : decode cX12_shortens 78 = .ok (.aload_n 0, 1) := by decide +kernel
theorem dX12_shortens_79 : decode cX12_shortens 79 = .ok (.iconst 5, 1) := by decide +kernel
theorem dX12_shortens_80 : decode cX12_shortens 80 = .ok (.iconst 1, 1) := by decide +kernel
theorem dX12_shortens_81 : decode cX12_shortens 81 = .ok (.invokevirtual 240, 3) := by decide +kernel
theorem dX12_shortens_84 : decode cX12_shortens 84 = .ok (.aload_n 0, 1) := by decide +kernel
theorem dX12_shortens_85 : decode cX12_shortens 85 = .ok (.iconst 2, 1) := by decide +kernel
theorem dX12_shortens_86 : decode cX12_shortens 86 = .ok (.iload_n 3, 1) := by decide +kernel
theorem dX12_shortens_87 : decode cX12_shortens 87 = .ok (.iconst (-1), 1) := by decide +kernel
theorem dX12_shortens_88 : decode cX12_shortens 88 = .ok (.iconst (-1), 1) := by decide +kernel
theorem dX12_shortens_89 : decode cX12_shortens 89 = .ok (.iconst (-1), 1) := by decide +kernel
theorem dX12_shortens_90 : decode cX12_shortens 90 = .ok (.iconst (-1), 1) := by decide +kernel
theorem dX12_shortens_91 : decode cX12_shortens 91 = .ok (.invokevirtual 249, 3) := by decide +kernel
theorem dX12_shortens_94 : decode cX12_shortens 94 = .ok (.iconst 0, 1) := by decide +kernel
theorem dX12_shortens_95 : decode cX12_shortens 95 = .ok (.istore 6, 2) := by decide +kernel
theorem dX12_shortens_97 : decode cX12_shortens 97 = .ok (.iload 6, 2) := by decide +kernel
theorem dX12_shortens_99 : decode cX12_shortens 99 = .ok (.aload_n 0, 1) := by decide +kernel
theorem dX12_shortens_100 : decode cX12_shortens 100 = .ok (.iload_n 1, 1) := by decide +kernel
theorem dX12_shortens_101 : decode cX12_shortens 101 = .ok (.iconst 4, 1) := by decide +kernel
theorem dX12_shortens_102 : decode cX12_shortens 102 = .ok (.invokevirtual 246, 3) := by decide +kernel
theorem dX12_shortens_105 : decode cX12_shortens 105 = .ok (.iconst 1, 1) := by decide +kernel
theorem dX12_shortens_106 : decode cX12_shortens 106 = .ok (.isub, 1) := by decide +kernel
theorem dX12_shortens_107 : decode cX12_shortens 107 = .ok (.if_icmp .ge 20, 3) := by decide +kernel
theorem dX12_shortens_110 : decode cX12_shortens 110 = .ok (.aload_n 0, 1) := by decide +kernel
theorem dX12_shortens_111 : decode cX12_shortens 111 = .ok (.aload_n 0, 1) := by decide +kernel
