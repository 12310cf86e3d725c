theorem dX12_init_0 : decode cX12_init 0 = .ok (.aload_n 0, 1) := by decide +kernel
theorem dX12_init_1 : decode cX12_init 1 = .ok (.invokespecial 1, 3) := by decide +kernel
theorem dX12_init_4 : decode cX12_init 4 = .ok (.aload_n 0, 1) := by decide +kernel
theorem dX12_init_5 : decode cX12_init 5 = .ok (.sipush 12285, 3) := by decide +kernel
theorem dX12_init_8 : decode cX12_init 8 = .ok (.newarray .int, 2) := by decide +kernel
theorem dX12_init_10 : decode cX12_init 10 = .ok (.putfield 7, 3) := by decide +kernel
theorem dX12_init_13 : decode cX12_init 13 = .ok (.aload_n 0, 1) := by decide +kernel
theorem dX12_init_14 : decode cX12_init 14 = .ok (.sipush 2000, 3) := by decide +kernel
theorem dX12_init_17 : decode cX12_init 17 = .ok (.newarray .byte, 2) := by decide +kernel
theorem dX12_init_19 : decode cX12_init 19 = .ok (.putfield 13, 3) := by decide +kernel
theorem dX12_init_22 : decode cX12_init 22 = .ok (.aload_n 0, 1) := by decide +kernel
theorem dX12_init_23 : decode cX12_init 23 = .ok (.iconst 3, 1) := by decide +kernel
theorem dX12_init_24 : decode cX12_init 24 = .ok (.newarray .boolean, 2) := by decide +kernel
theorem dX12_init_26 : decode cX12_init 26 = .ok (.putfield 17, 3) := by decide +kernel
theorem dX12_init_29 : decode cX12_init 29 = .ok (.aload_n 0, 1) := by decide +kernel
theorem dX12_init_30 : decode cX12_init 30 = .ok (.bipush 8, 2) := by decide +kernel
theorem dX12_init_32 : decode cX12_init 32 = .ok (.newarray .int, 2) := by decide +kernel
theorem dX12_init_34 : decode cX12_init 34 = .ok (.putfield 21, 3) := by decide +kernel
theorem dX12_init_37 : decode cX12_init 37 = .ok (.aload_n 0, 1) := by decide +kernel
theorem dX12_init_38 : decode cX12_init 38 = .ok (.bipush 64, 2) := by decide +kernel
theorem dX12_init_40 : decode cX12_init 40 = .ok (.newarray .int, 2) := by decide +kernel
theorem dX12_init_42 : decode cX12_init 42 = .ok (.putfield 24, 3) := by decide +kernel
theorem dX12_init_45 : decode cX12_init 45 = .ok (.aload_n 0, 1) := by decide +kernel
theorem dX12_init_46 : decode cX12_init 46 = .ok (.bipush 8, 2) := by decide +kernel
theorem dX12_init_48 : decode cX12_init 48 = .ok (.newarray .int, 2) := by decide +kernel
theorem dX12_init_50 : decode cX12_init 50 = .ok (.putfield 27, 3) := by decide +kernel
theorem dX12_init_53 : decode cX12_init 53 = .ok (.aload_n 0, 1) := by decide +kernel
theorem dX12_init_54 : decode cX12_init 54 = .ok (.bipush 9, 2) := by decide +kernel
theorem dX12_init_56 : decode cX12_init 56 = .ok (.newarray .int, 2) := by decide +kernel
theorem dX12_init_58 : decode cX12_init 58 = .ok (.putfield 30, 3) := by decide +kernel
theorem dX12_init_61 : decode cX12_init 61 = .ok (.aload_n 0, 1) := by decide +kernel
theorem dX12_init_62 : decode cX12_init 62 = .ok (.bipush 9, 2) := by decide +kernel
theorem dX12_init_64 : decode cX12_init 64 = .ok (.newarray .int, 2) := by decide +kernel
theorem dX12_init_66 : decode cX12_init 66 = .ok (.putfield 33, 3) := by decide +kernel
theorem dX12_init_69 : decode cX12_init 69 = .ok (.aload_n 0, 1) := by decide +kernel
theorem dX12_init_70 : decode cX12_init 70 = .ok (.bipush 64, 2) := by decide +kernel
theorem dX12_init_72 : decode cX12_init 72 = .ok (.newarray .boolean, 2) := by decide +kernel
theorem dX12_init_74 : decode cX12_init 74 = .ok (.putfield 36, 3) := by decide +kernel
theorem dX12_init_77 : decode cX12_init 77 = .ok (.aload_n 0, 1) := by decide +kernel
theorem dX12_init_78 : decode cX12_init 78 = .ok (.bipush 8, 2) := by decide +kernel
theorem dX12_init_80 : decode cX12_init 80 = .ok (.newarray .int, 2) := by decide +kernel
theorem dX12_init_82 : decode cX12_init 82 = .ok (.putfield 39, 3) := by decide +kernel
theorem dX12_init_85 : decode cX12_init 85 = .ok (.aload_n 0, 1) := by decide +kernel
theorem dX12_init_86 : decode cX12_init 86 = .ok (.bipush 16, 2) := by decide +kernel
theorem dX12_init_88 : decode cX12_init 88 = .ok (.newarray .int, 2) := by decide +kernel
theorem dX12_init_90 : decode cX12_init 90 = .ok (.putfield 42, 3) := by decide +kernel
theorem dX12_init_93 : decode cX12_init 93 = .ok (.aload_n 0, 1) := by decide +kernel
theorem dX12_init_94 : decode cX12_init 94 = .ok (.bipush 16, 2) := by decide +kernel
theorem dX12_init_96 : decode cX12_init 96 = .ok (.newarray .int, 2) := by decide +kernel
theorem dX12_init_98 : decode cX12_init 98 = .ok (.putfield 45, 3) := by decide +kernel
theorem dX12_init_101 : decode cX12_init 101 = .ok (.aload_n 0, 1) := by decide +kernel
theorem dX12_init_102 : decode cX12_init 102 = .ok (.invokevirtual 48, 3) := by decide +kernel
theorem dX12_init_105 : decode cX12_init 105 = .ok (.aload_n 0, 1) := by decide +kernel
theorem dX12_init_106 : decode cX12_init 106 = .ok (.getfield 7, 3) := by decide +kernel
theorem dX12_init_109 : decode cX12_init 109 = .ok (.bipush 13, 2) := by decide +kernel
theorem dX12_init_111 : decode cX12_init 111 = .ok (.iconst (-1), 1) := by decide +kernel
theorem dX12_init_112 : decode cX12_init 112 = .ok (.iastore, 1) := by decide +kernel
theorem dX12_init_113 : decode cX12_init 113 = .ok (.return_, 1) := by decide +kernel
theorem dX12_in_0 : decode cX12_in 0 = .ok (.iload_n 0, 1) := by decide +kernel
theorem dX12_in_1 : decode cX12_in 1 = .ok (.iload_n 1, 1) := by decide +kernel
theorem dX12_in_2 : decode cX12_in 2 = .ok (.if_icmp .lt 12, 3) := by decide +kernel
theorem dX12_in_5 : decode cX12_in 5 = .ok (.iload_n 0, 1) := by decide +kernel
theorem dX12_in_6 : decode cX12_in 6 = .ok (.iload_n 2, 1) := by decide +kernel
theorem dX12_in_7 : decode cX12_in 7 = .ok (.if_icmp .gt 7, 3) := by decide +kernel
theorem dX12_in_10 : decode cX12_in 10 = .ok (.iconst 1, 1) := by decide +kernel
theorem dX12_in_11 : decode cX12_in 11 = .ok (.goto 4, 3) := by decide +kernel
theorem dX12_in_14 : decode cX12_in 14 = .ok (.iconst 0, 1) := by decide +kernel
theorem dX12_in_15 : decode cX12_in 15 = .ok (.ireturn, 1) := by decide +kernel
theorem dX12_has_0 : decode cX12_has 0 = .ok (.iload_n 0, 1) := by decide +kernel
theorem dX12_has_1 : decode cX12_has 1 = .ok (.iload_n 1, 1) := by decide +kernel
theorem dX12_has_2 : decode cX12_has 2 = .ok (.ishr, 1) := by decide +kernel
theorem dX12_has_3 : decode cX12_has 3 = .ok (.iconst 1, 1) := by decide +kernel
theorem dX12_has_4 : decode cX12_has 4 = .ok (.iand, 1) := by decide +kernel
theorem dX12_has_5 : decode cX12_has 5 = .ok (.iconst 1, 1) := by decide +kernel
theorem dX12_has_6 : decode cX12_has 6 = .ok (.if_icmp .ne 7, 3) := by decide +kernel
theorem dX12_has_9 : decode cX12_has 9 = .ok (.iconst 1, 1) := by decide +kernel
theorem dX12_has_10 : decode cX12_has 10 = .ok (.goto 4, 3) := by decide +kernel
theorem dX12_has_13 : decode cX12_has 13 = .ok (.iconst 0, 1) := by decide +kernel
theorem dX12_has_14 : decode cX12_has 14 = .ok (.ireturn, 1) := by decide +kernel
theorem dX12_greater_0 : decode cX12_greater 0 = .ok (.iload_n 0, 1) := by decide +kernel
theorem dX12_greater_1 : decode cX12_greater 1 = .ok (.iload_n 1, 1) := by decide +kernel
theorem dX12_greater_2 : decode cX12_greater 2 = .ok (.if_icmp .le 7, 3) := by decide +kernel
theorem dX12_greater_5 : decode cX12_greater 5 = .ok (.iload_n 0, 1) := by decide +kernel
theorem dX12_greater_6 : decode cX12_greater 6 = .ok (.goto 4, 3) := by decide +kernel
theorem dX12_greater_9 : decode cX12_greater 9 = .ok (.iload_n 1, 1) := by decide +kernel
theorem dX12_greater_10 : decode cX12_greater 10 = .ok (.ireturn, 1) := by decide +kernel
theorem dX12_lesser_0 : decode cX12_lesser 0 = .ok (.iload_n 0, 1) := by decide +kernel
theorem dX12_lesser_1 : decode cX12_lesser 1 = .ok (.iload_n 1, 1) := by decide +kernel
theorem dX12_lesser_2 : decode cX12_lesser 2 = .ok (.if_icmp .ge 7, 3) := by decide +kernel
theorem dX12_lesser_5 : decode cX12_lesser 5 = .ok (.iload_n 0, 1) := by decide +kernel
theorem dX12_lesser_6 : decode cX12_lesser 6 = .ok (.goto 4, 3) := by decide +kernel
theorem dX12_lesser_9 : decode cX12_lesser 9 = .ok (.iload_n 1, 1) := by decide +kernel
theorem dX12_lesser_10 : decode cX12_lesser 10 = .ok (.ireturn, 1) := by decide +kernel
theorem dX12_isNode_0 : decode cX12_isNode 0 = .ok (.iload_n 1, 1) := by decide +kernel
theorem dX12_isNode_1 : decode cX12_isNode 1 = .ok (.iconst 0, 1) := by decide +kernel
theorem dX12_isNode_2 : decode cX12_isNode 2 = .ok (.aload_n 0, 1) := by decide +kernel
theorem dX12_isNode_3 : decode cX12_isNode 3 = .ok (.getfield 7, 3) := by decide +kernel
theorem dX12_isNode_6 : decode cX12_isNode 6 = .ok (.iconst 0, 1) := by decide +kernel
theorem dX12_isNode_7 : decode cX12_isNode 7 = .ok (.iaload, 1) := by decide +kernel
theorem dX12_isNode_8 : decode cX12_isNode 8 = .ok (.iconst 1, 1) := by decide +kernel
theorem dX12_isNode_9 : decode cX12_isNode 9 = .ok (.isub, 1) := by decide +kernel
theorem dX12_isNode_10 : decode cX12_isNode 10 = .ok (.invokestatic 55, 3) := by decide +kernel
theorem dX12_isNode_13 : decode cX12_isNode 13 = .ok (.ireturn, 1) := by decide +kernel
theorem dX12_areTwo_0 : decode cX12_areTwo 0 = .ok (.aload_n 0, 1) := by decide +kernel
theorem dX12_areTwo_1 : decode cX12_areTwo 1 = .ok (.iload_n 1, 1) := by decide +kernel
theorem dX12_areTwo_2 : decode cX12_areTwo 2 = .ok (.invokevirtual 59, 3) := by decide +kernel
theorem dX12_areTwo_5 : decode cX12_areTwo 5 = .ok (.ifCond .eq 20, 3) := by decide +kernel
theorem dX12_areTwo_8 : decode cX12_areTwo 8 = .ok (.aload_n 0, 1) := by decide +kernel
theorem dX12_areTwo_9 : decode cX12_areTwo 9 = .ok (.iload_n 2, 1) := by decide +kernel
theorem dX12_areTwo_10 : decode cX12_areTwo 10 = .ok (.invokevirtual 59, 3) := by decide +kernel
theorem dX12_areTwo_13 : decode cX12_areTwo 13 = .ok (.ifCond .eq 12, 3) := by decide +kernel
theorem dX12_areTwo_16 : decode cX12_areTwo 16 = .ok (.iload_n 1, 1) := by decide +kernel
theorem dX12_areTwo_17 : decode cX12_areTwo 17 = .ok (.iload_n 2, 1) := by decide +kernel
theorem dX12_areTwo_18 : decode cX12_areTwo 18 = .ok (.if_icmp .eq 7, 3) := by decide +kernel
theorem dX12_areTwo_21 : decode cX12_areTwo 21 = .ok (.iconst 1, 1) := by decide +kernel
theorem dX12_areTwo_22 : decode cX12_areTwo 22 = .ok (.goto 4, 3) := by decide +kernel
theorem dX12_areTwo_25 : decode cX12_areTwo 25 = .ok (.iconst 0, 1) := by decide +kernel
theorem dX12_areTwo_26 : decode cX12_areTwo 26 = .ok (.ireturn, 1) := by decide +kernel
theorem dX12_of_0 : decode cX12_of 0 = .ok (.aload_n 0, 1) := by decide +kernel
theorem dX12_of_1 : decode cX12_of 1 = .ok (.getfield 7, 3) := by decide +kernel
theorem dX12_of_4 : decode cX12_of 4 = .ok (.bipush 89, 2) := by decide +kernel
theorem dX12_of_6 : decode cX12_of 6 = .ok (.bipush 86, 2) := by decide +kernel
theorem dX12_of_8 : decode cX12_of 8 = .ok (.iload_n 1, 1) := by decide +kernel
theorem dX12_of_9 : decode cX12_of 9 = .ok (.imul, 1) := by decide +kernel
theorem dX12_of_10 : decode cX12_of 10 = .ok (.iadd, 1) := by decide +kernel
theorem dX12_of_11 : decode cX12_of 11 = .ok (.iload_n 2, 1) := by decide +kernel
theorem dX12_of_12 : decode cX12_of 12 = .ok (.iadd, 1) := by decide +kernel
theorem dX12_of_13 : decode cX12_of 13 = .ok (.iaload, 1) := by decide +kernel
theorem dX12_of_14 : decode cX12_of 14 = .ok (.ireturn, 1) := by decide +kernel
theorem dX12_lay_0 : decode cX12_lay 0 = .ok (.aload_n 0, 1) := by decide +kernel
theorem dX12_lay_1 : decode cX12_lay 1 = .ok (.getfield 7, 3) := by decide +kernel
theorem dX12_lay_4 : decode cX12_lay 4 = .ok (.bipush 89, 2) := by decide +kernel
theorem dX12_lay_6 : decode cX12_lay 6 = .ok (.bipush 86, 2) := by decide +kernel
theorem dX12_lay_8 : decode cX12_lay 8 = .ok (.iload_n 1, 1) := by decide +kernel
theorem dX12_lay_9 : decode cX12_lay 9 = .ok (.imul, 1) := by decide +kernel
theorem dX12_lay_10 : decode cX12_lay 10 = .ok (.iadd, 1) := by decide +kernel
theorem dX12_lay_11 : decode cX12_lay 11 = .ok (.iload_n 2, 1) := by decide +kernel
theorem dX12_lay_12 : decode cX12_lay 12 = .ok (.iadd, 1) := by decide +kernel
theorem dX12_lay_13 : decode cX12_lay 13 = .ok (.iload_n 3, 1) := by decide +kernel
theorem dX12_lay_14 : decode cX12_lay 14 = .ok (.iastore, 1) := by decide +kernel
theorem dX12_lay_15 : decode cX12_lay 15 = .ok (.return_, 1) := by decide +kernel
theorem dX12_ofData_0 : decode cX12_ofData 0 = .ok (.aload_n 0, 1) := by decide +kernel
theorem dX12_ofData_1 : decode cX12_ofData 1 = .ok (.getfield 7, 3) := by decide +kernel
theorem dX12_ofData_4 : decode cX12_ofData 4 = .ok (.sipush 1417, 3) := by decide +kernel
theorem dX12_ofData_7 : decode cX12_ofData 7 = .ok (.bipush 26, 2) := by decide +kernel
theorem dX12_ofData_9 : decode cX12_ofData 9 = .ok (.iload_n 1, 1) := by decide +kernel
theorem dX12_ofData_10 : decode cX12_ofData 10 = .ok (.imul, 1) := by decide +kernel
theorem dX12_ofData_11 : decode cX12_ofData 11 = .ok (.iadd, 1) := by decide +kernel
theorem dX12_ofData_12 : decode cX12_ofData 12 = .ok (.iload_n 2, 1) := by decide +kernel
theorem dX12_ofData_13 : decode cX12_ofData 13 = .ok (.iadd, 1) := by decide +kernel
theorem dX12_ofData_14 : decode cX12_ofData 14 = .ok (.iaload, 1) := by decide +kernel
theorem dX12_ofData_15 : decode cX12_ofData 15 = .ok (.ireturn, 1) := by decide +kernel
theorem dX12_layData_0 : decode cX12_layData 0 = .ok (.aload_n 0, 1) := by decide +kernel
theorem dX12_layData_1 : decode cX12_layData 1 = .ok (.getfield 7, 3) := by decide +kernel
theorem dX12_layData_4 : decode cX12_layData 4 = .ok (.sipush 1417, 3) := by decide +kernel
theorem dX12_layData_7 : decode cX12_layData 7 = .ok (.bipush 26, 2) := by decide +kernel
theorem dX12_layData_9 : decode cX12_layData 9 = .ok (.iload_n 1, 1) := by decide +kernel
theorem dX12_layData_10 : decode cX12_layData 10 = .ok (.imul, 1) := by decide +kernel
theorem dX12_layData_11 : decode cX12_layData 11 = .ok (.iadd, 1) := by decide +kernel
theorem dX12_layData_12 : decode cX12_layData 12 = .ok (.iload_n 2, 1) := by decide +kernel
theorem dX12_layData_13 : decode cX12_layData 13 = .ok (.iadd, 1) := by decide +kernel
theorem dX12_layData_14 : decode cX12_layData 14 = .ok (.iload_n 3, 1) := by decide +kernel
theorem dX12_layData_15 : decode cX12_layData 15 = .ok (.iastore, 1) := by decide +kernel
theorem dX12_layData_16 : decode cX12_layData 16 = .ok (.return_, 1) := by decide +kernel
theorem dX12_isUp_0 : decode cX12_isUp 0 = .ok (.aload_n 0, 1) := by decide +kernel
theorem dX12_isUp_1 : decode cX12_isUp 1 = .ok (.getfield 7, 3) := by decide +kernel
theorem dX12_isUp_4 : decode cX12_isUp 4 = .ok (.bipush 25, 2) := by decide +kernel
theorem dX12_isUp_6 : decode cX12_isUp 6 = .ok (.bipush 8, 2) := by decide +kernel
theorem dX12_isUp_8 : decode cX12_isUp 8 = .ok (.iload_n 1, 1) := by decide +kernel
theorem dX12_isUp_9 : decode cX12_isUp 9 = .ok (.imul, 1) := by decide +kernel
theorem dX12_isUp_10 : decode cX12_isUp 10 = .ok (.iadd, 1) := by decide +kernel
theorem dX12_isUp_11 : decode cX12_isUp 11 = .ok (.iload_n 2, 1) := by decide +kernel
theorem dX12_isUp_12 : decode cX12_isUp 12 = .ok (.iadd, 1) := by decide +kernel
theorem dX12_isUp_13 : decode cX12_isUp 13 = .ok (.iaload, 1) := by decide +kernel
theorem dX12_isUp_14 : decode cX12_isUp 14 = .ok (.iconst 1, 1) := by decide +kernel
theorem dX12_isUp_15 : decode cX12_isUp 15 = .ok (.if_icmp .ne 7, 3) := by decide +kernel
theorem dX12_isUp_18 : decode cX12_isUp 18 = .ok (.iconst 1, 1) := by decide +kernel
theorem dX12_isUp_19 : decode cX12_isUp 19 = .ok (.goto 4, 3) := by decide +kernel
theorem dX12_isUp_22 : decode cX12_isUp 22 = .ok (.iconst 0, 1) := by decide +kernel
theorem dX12_isUp_23 : decode cX12_isUp 23 = .ok (.ireturn, 1) := by decide +kernel
theorem dX12_layUp_0 : decode cX12_layUp 0 = .ok (.aload_n 0, 1) := by decide +kernel
theorem dX12_layUp_1 : decode cX12_layUp 1 = .ok (.getfield 7, 3) := by decide +kernel
theorem dX12_layUp_4 : decode cX12_layUp 4 = .ok (.bipush 25, 2) := by decide +kernel
theorem dX12_layUp_6 : decode cX12_layUp 6 = .ok (.bipush 8, 2) := by decide +kernel
theorem dX12_layUp_8 : decode cX12_layUp 8 = .ok (.iload_n 1, 1) := by decide +kernel
theorem dX12_layUp_9 : decode cX12_layUp 9 = .ok (.imul, 1) := by decide +kernel
theorem dX12_layUp_10 : decode cX12_layUp 10 = .ok (.iadd, 1) := by decide +kernel
theorem dX12_layUp_11 : decode cX12_layUp 11 = .ok (.iload_n 2, 1) := by decide +kernel
theorem dX12_layUp_12 : decode cX12_layUp 12 = .ok (.iadd, 1) := by decide +kernel
theorem dX12_layUp_13 : decode cX12_layUp 13 = .ok (.iload_n 3, 1) := by decide +kernel
theorem dX12_layUp_14 : decode cX12_layUp 14 = .ok (.iastore, 1) := by decide +kernel
theorem dX12_layUp_15 : decode cX12_layUp 15 = .ok (.aload_n 0, 1) := by decide +kernel
theorem dX12_layUp_16 : decode cX12_layUp 16 = .ok (.getfield 7, 3) := by decide +kernel
theorem dX12_layUp_19 : decode cX12_layUp 19 = .ok (.bipush 25, 2) := by decide +kernel
theorem dX12_layUp_21 : decode cX12_layUp 21 = .ok (.bipush 8, 2) := by decide +kernel
theorem dX12_layUp_23 : decode cX12_layUp 23 = .ok (.iload_n 2, 1) := by decide +kernel
theorem dX12_layUp_24 : decode cX12_layUp 24 = .ok (.imul, 1) := by decide +kernel
theorem dX12_layUp_25 : decode cX12_layUp 25 = .ok (.iadd, 1) := by decide +kernel
theorem dX12_layUp_26 : decode cX12_layUp 26 = .ok (.iload_n 1, 1) := by decide +kernel
theorem dX12_layUp_27 : decode cX12_layUp 27 = .ok (.iadd, 1) := by decide +kernel
theorem dX12_layUp_28 : decode cX12_layUp 28 = .ok (.iload_n 3, 1) := by decide +kernel
theorem dX12_layUp_29 : decode cX12_layUp 29 = .ok (.iastore, 1) := by decide +kernel
theorem dX12_layUp_30 : decode cX12_layUp 30 = .ok (.return_, 1) := by decide +kernel
theorem dX12_linkOf_0 : decode cX12_linkOf 0 = .ok (.bipush 10, 2) := by decide +kernel
theorem dX12_linkOf_2 : decode cX12_linkOf 2 = .ok (.iload_n 0, 1) := by decide +kernel
theorem dX12_linkOf_3 : decode cX12_linkOf 3 = .ok (.iload_n 1, 1) := by decide +kernel
theorem dX12_linkOf_4 : decode cX12_linkOf 4 = .ok (.invokestatic 63, 3) := by decide +kernel
theorem dX12_linkOf_7 : decode cX12_linkOf 7 = .ok (.imul, 1) := by decide +kernel
theorem dX12_linkOf_8 : decode cX12_linkOf 8 = .ok (.iload_n 0, 1) := by decide +kernel
theorem dX12_linkOf_9 : decode cX12_linkOf 9 = .ok (.iload_n 1, 1) := by decide +kernel
theorem dX12_linkOf_10 : decode cX12_linkOf 10 = .ok (.invokestatic 67, 3) := by decide +kernel
theorem dX12_linkOf_13 : decode cX12_linkOf 13 = .ok (.iadd, 1) := by decide +kernel
theorem dX12_linkOf_14 : decode cX12_linkOf 14 = .ok (.ireturn, 1) := by decide +kernel
theorem dX12_tally_0 : decode cX12_tally 0 = .ok (.aload_n 0, 1) := by decide +kernel
theorem dX12_tally_1 : decode cX12_tally 1 = .ok (.getfield 7, 3) := by decide +kernel
theorem dX12_tally_4 : decode cX12_tally 4 = .ok (.bipush 14, 2) := by decide +kernel
theorem dX12_tally_6 : decode cX12_tally 6 = .ok (.iload_n 1, 1) := by decide +kernel
theorem dX12_tally_7 : decode cX12_tally 7 = .ok (.iadd, 1) := by decide +kernel
theorem dX12_tally_8 : decode cX12_tally 8 = .ok (.dup2, 1) := by decide +kernel
theorem dX12_tally_9 : decode cX12_tally 9 = .ok (.iaload, 1) := by decide +kernel
theorem dX12_tally_10 : decode cX12_tally 10 = .ok (.iload_n 2, 1) := by decide +kernel
theorem dX12_tally_11 : decode cX12_tally 11 = .ok (.iadd, 1) := by decide +kernel
theorem dX12_tally_12 : decode cX12_tally 12 = .ok (.iastore, 1) := by decide +kernel
theorem dX12_tally_13 : decode cX12_tally 13 = .ok (.return_, 1) := by decide +kernel
theorem dX12_say_0 : decode cX12_say 0 = .ok (.aload_n 0, 1) := by decide +kernel
theorem dX12_say_1 : decode cX12_say 1 = .ok (.iconst 0, 1) := by decide +kernel
theorem dX12_say_2 : decode cX12_say 2 = .ok (.putfield 51, 3) := by decide +kernel
theorem dX12_say_5 : decode cX12_say 5 = .ok (.iconst 0, 1) := by decide +kernel
theorem dX12_say_6 : decode cX12_say 6 = .ok (.istore_n 3, 1) := by decide +kernel
theorem dX12_say_7 : decode cX12_say 7 = .ok (.iload_n 3, 1) := by decide +kernel
theorem dX12_say_8 : decode cX12_say 8 = .ok (.bipush 8, 2) := by decide +kernel
theorem dX12_say_10 : decode cX12_say 10 = .ok (.if_icmp .ge 27, 3) := by decide +kernel
theorem dX12_say_13 : decode cX12_say 13 = .ok (.lload_n 1, 1) := by decide +kernel
theorem dX12_say_14 : decode cX12_say 14 = .ok (.bipush 56, 2) := by decide +kernel
theorem dX12_say_16 : decode cX12_say 16 = .ok (.bipush 8, 2) := by decide +kernel
theorem dX12_say_18 : decode cX12_say 18 = .ok (.iload_n 3, 1) := by decide +kernel
theorem dX12_say_19 : decode cX12_say 19 = .ok (.imul, 1) := by decide +kernel
theorem dX12_say_20 : decode cX12_say 20 = .ok (.isub, 1) := by decide +kernel
theorem dX12_say_21 : decode cX12_say 21 = .ok (.lshr, 1) := by decide +kernel
theorem dX12_say_22 : decode cX12_say 22 = .ok (.ldc2_w 70, 3) := by decide +kernel
theorem dX12_say_25 : decode cX12_say 25 = .ok (.land, 1) := by decide +kernel
theorem dX12_say_26 : decode cX12_say 26 = .ok (.lconst 0, 1) := by decide +kernel
theorem dX12_say_27 : decode cX12_say 27 = .ok (.lcmp, 1) := by decide +kernel
theorem dX12_say_28 : decode cX12_say 28 = .ok (.ifCond .eq 9, 3) := by decide +kernel
theorem dX12_say_31 : decode cX12_say 31 = .ok (.iinc 3 1, 3) := by decide +kernel
theorem dX12_say_34 : decode cX12_say 34 = .ok (.goto (-27), 3) := by decide +kernel
theorem dX12_say_37 : decode cX12_say 37 = .ok (.aload_n 0, 1) := by decide +kernel
theorem dX12_say_38 : decode cX12_say 38 = .ok (.getfield 7, 3) := by decide +kernel
theorem dX12_say_41 : decode cX12_say 41 = .ok (.bipush 11, 2) := by decide +kernel
theorem dX12_say_43 : decode cX12_say 43 = .ok (.iaload, 1) := by decide +kernel
theorem dX12_say_44 : decode cX12_say 44 = .ok (.iload_n 3, 1) := by decide +kernel
theorem dX12_say_45 : decode cX12_say 45 = .ok (.iadd, 1) := by decide +kernel
theorem dX12_say_46 : decode cX12_say 46 = .ok (.sipush 400, 3) := by decide +kernel
theorem dX12_say_49 : decode cX12_say 49 = .ok (.if_icmp .le 5, 3) := by decide +kernel
theorem dX12_say_52 : decode cX12_say 52 = .ok (.iconst (-1), 1) := by decide +kernel
theorem dX12_say_53 : decode cX12_say 53 = .ok (.ireturn, 1) := by decide +kernel
theorem dX12_say_54 : decode cX12_say 54 = .ok (.iconst 0, 1) := by decide +kernel
theorem dX12_say_55 : decode cX12_say 55 = .ok (.istore 4, 2) := by decide +kernel
theorem dX12_say_57 : decode cX12_say 57 = .ok (.iload 4, 2) := by decide +kernel
theorem dX12_say_59 : decode cX12_say 59 = .ok (.iload_n 3, 1) := by decide +kernel
theorem dX12_say_60 : decode cX12_say 60 = .ok (.if_icmp .ge 44, 3) := by decide +kernel
theorem dX12_say_63 : decode cX12_say 63 = .ok (.aload_n 0, 1) := by decide +kernel
theorem dX12_say_64 : decode cX12_say 64 = .ok (.getfield 13, 3) := by decide +kernel
theorem dX12_say_67 : decode cX12_say 67 = .ok (.aload_n 0, 1) := by decide +kernel
theorem dX12_say_68 : decode cX12_say 68 = .ok (.getfield 7, 3) := by decide +kernel
theorem dX12_say_71 : decode cX12_say 71 = .ok (.bipush 11, 2) := by decide +kernel
theorem dX12_say_73 : decode cX12_say 73 = .ok (.iaload, 1) := by decide +kernel
theorem dX12_say_74 : decode cX12_say 74 = .ok (.lload_n 1, 1) := by decide +kernel
theorem dX12_say_75 : decode cX12_say 75 = .ok (.bipush 56, 2) := by decide +kernel
theorem dX12_say_77 : decode cX12_say 77 = .ok (.bipush 8, 2) := by decide +kernel
theorem dX12_say_79 : decode cX12_say 79 = .ok (.iload 4, 2) := by decide +kernel
theorem dX12_say_81 : decode cX12_say 81 = .ok (.imul, 1) := by decide +kernel
theorem dX12_say_82 : decode cX12_say 82 = .ok (.isub, 1) := by decide +kernel
theorem dX12_say_83 : decode cX12_say 83 = .ok (.lshr, 1) := by decide +kernel
theorem dX12_say_84 : decode cX12_say 84 = .ok (.l2i, 1) := by decide +kernel
theorem dX12_say_85 : decode cX12_say 85 = .ok (.i2b, 1) := by decide +kernel
theorem dX12_say_86 : decode cX12_say 86 = .ok (.bastore, 1) := by decide +kernel
theorem dX12_say_87 : decode cX12_say 87 = .ok (.aload_n 0, 1) := by decide +kernel
theorem dX12_say_88 : decode cX12_say 88 = .ok (.getfield 7, 3) := by decide +kernel
theorem dX12_say_91 : decode cX12_say 91 = .ok (.bipush 11, 2) := by decide +kernel
theorem dX12_say_93 : decode cX12_say 93 = .ok (.dup2, 1) := by decide +kernel
theorem dX12_say_94 : decode cX12_say 94 = .ok (.iaload, 1) := by decide +kernel
theorem dX12_say_95 : decode cX12_say 95 = .ok (.iconst 1, 1) := by decide +kernel
theorem dX12_say_96 : decode cX12_say 96 = .ok (.iadd, 1) := by decide +kernel
theorem dX12_say_97 : decode cX12_say 97 = .ok (.iastore, 1) := by decide +kernel
theorem dX12_say_98 : decode cX12_say 98 = .ok (.iinc 4 1, 3) := by decide +kernel
theorem dX12_say_101 : decode cX12_say 101 = .ok (.goto (-44), 3) := by decide +kernel
theorem dX12_say_104 : decode cX12_say 104 = .ok (.aload_n 0, 1) := by decide +kernel
theorem dX12_say_105 : decode cX12_say 105 = .ok (.getfield 7, 3) := by decide +kernel
theorem dX12_say_108 : decode cX12_say 108 = .ok (.bipush 11, 2) := by decide +kernel
theorem dX12_say_110 : decode cX12_say 110 = .ok (.iaload, 1) := by decide +kernel
theorem dX12_say_111 : decode cX12_say 111 = .ok (.ireturn, 1) := by decide +kernel
theorem dX12_see_0 : decode cX12_see 0 = .ok (.aload_n 0, 1) := by decide +kernel
theorem dX12_see_1 : decode cX12_see 1 = .ok (.getfield 72, 3) := by decide +kernel
theorem dX12_see_4 : decode cX12_see 4 = .ok (.aload_n 0, 1) := by decide +kernel
theorem dX12_see_5 : decode cX12_see 5 = .ok (.getfield 75, 3) := by decide +kernel
theorem dX12_see_8 : decode cX12_see 8 = .ok (.if_icmp .ge 19, 3) := by decide +kernel
theorem dX12_see_11 : decode cX12_see 11 = .ok (.aload_n 0, 1) := by decide +kernel
theorem dX12_see_12 : decode cX12_see 12 = .ok (.getfield 13, 3) := by decide +kernel
theorem dX12_see_15 : decode cX12_see 15 = .ok (.aload_n 0, 1) := by decide +kernel
theorem dX12_see_16 : decode cX12_see 16 = .ok (.getfield 72, 3) := by decide +kernel
theorem dX12_see_19 : decode cX12_see 19 = .ok (.baload, 1) := by decide +kernel
theorem dX12_see_20 : decode cX12_see 20 = .ok (.sipush 255, 3) := by decide +kernel
theorem dX12_see_23 : decode cX12_see 23 = .ok (.iand, 1) := by decide +kernel
theorem dX12_see_24 : decode cX12_see 24 = .ok (.goto 4, 3) := by decide +kernel
theorem dX12_see_27 : decode cX12_see 27 = .ok (.iconst (-1), 1) := by decide +kernel
theorem dX12_see_28 : decode cX12_see 28 = .ok (.ireturn, 1) := by decide +kernel
theorem dX12_token_0 : decode cX12_token 0 = .ok (.aload_n 0, 1) := by decide +kernel
theorem dX12_token_1 : decode cX12_token 1 = .ok (.invokevirtual 78, 3) := by decide +kernel
theorem dX12_token_4 : decode cX12_token 4 = .ok (.bipush 10, 2) := by decide +kernel
theorem dX12_token_6 : decode cX12_token 6 = .ok (.if_icmp .eq 12, 3) := by decide +kernel
theorem dX12_token_9 : decode cX12_token 9 = .ok (.aload_n 0, 1) := by decide +kernel
theorem dX12_token_10 : decode cX12_token 10 = .ok (.invokevirtual 78, 3) := by decide +kernel
theorem dX12_token_13 : decode cX12_token 13 = .ok (.bipush 32, 2) := by decide +kernel
theorem dX12_token_15 : decode cX12_token 15 = .ok (.if_icmp .ne 16, 3) := by decide +kernel
theorem dX12_token_18 : decode cX12_token 18 = .ok (.aload_n 0, 1) := by decide +kernel
theorem dX12_token_19 : decode cX12_token 19 = .ok (.dup, 1) := by decide +kernel
theorem dX12_token_20 : decode cX12_token 20 = .ok (.getfield 72, 3) := by decide +kernel
theorem dX12_token_23 : decode cX12_token 23 = .ok (.iconst 1, 1) := by decide +kernel
theorem dX12_token_24 : decode cX12_token 24 = .ok (.iadd, 1) := by decide +kernel
theorem dX12_token_25 : decode cX12_token 25 = .ok (.putfield 72, 3) := by decide +kernel
theorem dX12_token_28 : decode cX12_token 28 = .ok (.goto (-28), 3) := by decide +kernel
theorem dX12_token_31 : decode cX12_token 31 = .ok (.aload_n 0, 1) := by decide +kernel
theorem dX12_token_32 : decode cX12_token 32 = .ok (.aload_n 0, 1) := by decide +kernel
theorem dX12_token_33 : decode cX12_token 33 = .ok (.getfield 72, 3) := by decide +kernel
theorem dX12_token_36 : decode cX12_token 36 = .ok (.putfield 82, 3) := by decide +kernel
theorem dX12_token_39 : decode cX12_token 39 = .ok (.aload_n 0, 1) := by decide +kernel
theorem dX12_token_40 : decode cX12_token 40 = .ok (.invokevirtual 78, 3) := by decide +kernel
theorem dX12_token_43 : decode cX12_token 43 = .ok (.istore_n 1, 1) := by decide +kernel
theorem dX12_token_44 : decode cX12_token 44 = .ok (.aload_n 0, 1) := by decide +kernel
theorem dX12_token_45 : decode cX12_token 45 = .ok (.lconst 0, 1) := by decide +kernel
theorem dX12_token_46 : decode cX12_token 46 = .ok (.putfield 85, 3) := by decide +kernel
theorem dX12_token_49 : decode cX12_token 49 = .ok (.iconst 0, 1) := by decide +kernel
theorem dX12_token_50 : decode cX12_token 50 = .ok (.istore_n 2, 1) := by decide +kernel
theorem dX12_token_51 : decode cX12_token 51 = .ok (.iload_n 1, 1) := by decide +kernel
theorem dX12_token_52 : decode cX12_token 52 = .ok (.ifCond .ge 11, 3) := by decide +kernel
theorem dX12_token_55 : decode cX12_token 55 = .ok (.aload_n 0, 1) := by decide +kernel
theorem dX12_token_56 : decode cX12_token 56 = .ok (.iconst 0, 1) := by decide +kernel
theorem dX12_token_57 : decode cX12_token 57 = .ok (.putfield 89, 3) := by decide +kernel
theorem dX12_token_60 : decode cX12_token 60 = .ok (.goto 206, 3) := by decide +kernel
theorem dX12_token_63 : decode cX12_token 63 = .ok (.iload_n 1, 1) := by decide +kernel
theorem dX12_token_64 : decode cX12_token 64 = .ok (.bipush 97, 2) := by decide +kernel
theorem dX12_token_66 : decode cX12_token 66 = .ok (.bipush 122, 2) := by decide +kernel
theorem dX12_token_68 : decode cX12_token 68 = .ok (.invokestatic 55, 3) := by decide +kernel
theorem dX12_token_71 : decode cX12_token 71 = .ok (.ifCond .eq 76, 3) := by decide +kernel
theorem dX12_token_74 : decode cX12_token 74 = .ok (.aload_n 0, 1) := by decide +kernel
theorem dX12_token_75 : decode cX12_token 75 = .ok (.invokevirtual 78, 3) := by decide +kernel
theorem dX12_token_78 : decode cX12_token 78 = .ok (.bipush 97, 2) := by decide +kernel
theorem dX12_token_80 : decode cX12_token 80 = .ok (.bipush 122, 2) := by decide +kernel
theorem dX12_token_82 : decode cX12_token 82 = .ok (.invokestatic 55, 3) := by decide +kernel
theorem dX12_token_85 : decode cX12_token 85 = .ok (.ifCond .eq 36, 3) := by decide +kernel
theorem dX12_token_88 : decode cX12_token 88 = .ok (.aload_n 0, 1) := by decide +kernel
theorem dX12_token_89 : decode cX12_token 89 = .ok (.aload_n 0, 1) := by decide +kernel
theorem dX12_token_90 : decode cX12_token 90 = .ok (.getfield 85, 3) := by decide +kernel
theorem dX12_token_93 : decode cX12_token 93 = .ok (.bipush 8, 2) := by decide +kernel
theorem dX12_token_95 : decode cX12_token 95 = .ok (.lshl, 1) := by decide +kernel
theorem dX12_token_96 : decode cX12_token 96 = .ok (.aload_n 0, 1) := by decide +kernel
theorem dX12_token_97 : decode cX12_token 97 = .ok (.invokevirtual 78, 3) := by decide +kernel
theorem dX12_token_100 : decode cX12_token 100 = .ok (.i2l, 1) := by decide +kernel
theorem dX12_token_101 : decode cX12_token 101 = .ok (.lor, 1) := by decide +kernel
theorem dX12_token_102 : decode cX12_token 102 = .ok (.putfield 85, 3) := by decide +kernel
theorem dX12_token_105 : decode cX12_token 105 = .ok (.aload_n 0, 1) := by decide +kernel
theorem dX12_token_106 : decode cX12_token 106 = .ok (.dup, 1) := by decide +kernel
theorem dX12_token_107 : decode cX12_token 107 = .ok (.getfield 72, 3) := by decide +kernel
theorem dX12_token_110 : decode cX12_token 110 = .ok (.iconst 1, 1) := by decide +kernel
theorem dX12_token_111 : decode cX12_token 111 = .ok (.iadd, 1) := by decide +kernel
theorem dX12_token_112 : decode cX12_token 112 = .ok (.putfield 72, 3) := by decide +kernel
theorem dX12_token_115 : decode cX12_token 115 = .ok (.iinc 2 1, 3) := by decide +kernel
theorem dX12_token_118 : decode cX12_token 118 = .ok (.goto (-44), 3) := by decide +kernel
theorem dX12_token_121 : decode cX12_token 121 = .ok (.aload_n 0, 1) := by decide +kernel
theorem dX12_token_122 : decode cX12_token 122 = .ok (.iload_n 2, 1) := by decide +kernel
theorem dX12_token_123 : decode cX12_token 123 = .ok (.bipush 8, 2) := by decide +kernel
theorem dX12_token_125 : decode cX12_token 125 = .ok (.if_icmp .le 7, 3) := by decide +kernel
theorem dX12_token_128 : decode cX12_token 128 = .ok (.lconst 0, 1) := by decide +kernel
theorem dX12_token_129 : decode cX12_token 129 = .ok (.goto 7, 3) := by decide +kernel
theorem dX12_token_132 : decode cX12_token 132 = .ok (.aload_n 0, 1) := by decide +kernel
theorem dX12_token_133 : decode cX12_token 133 = .ok (.getfield 85, 3) := by decide +kernel
theorem dX12_token_136 : decode cX12_token 136 = .ok (.putfield 85, 3) := by decide +kernel
theorem dX12_token_139 : decode cX12_token 139 = .ok (.aload_n 0, 1) := by decide +kernel
theorem dX12_token_140 : decode cX12_token 140 = .ok (.iconst 2, 1) := by decide +kernel
theorem dX12_token_141 : decode cX12_token 141 = .ok (.putfield 89, 3) := by decide +kernel
theorem dX12_token_144 : decode cX12_token 144 = .ok (.goto 122, 3) := by decide +kernel
theorem dX12_token_147 : decode cX12_token 147 = .ok (.iload_n 1, 1) := by decide +kernel
theorem dX12_token_148 : decode cX12_token 148 = .ok (.bipush 48, 2) := by decide +kernel
theorem dX12_token_150 : decode cX12_token 150 = .ok (.bipush 57, 2) := by decide +kernel
theorem dX12_token_152 : decode cX12_token 152 = .ok (.invokestatic 55, 3) := by decide +kernel
theorem dX12_token_155 : decode cX12_token 155 = .ok (.ifCond .eq 86, 3) := by decide +kernel
theorem dX12_token_158 : decode cX12_token 158 = .ok (.aload_n 0, 1) := by decide +kernel
theorem dX12_token_159 : decode cX12_token 159 = .ok (.iconst 0, 1) := by decide +kernel
theorem dX12_token_160 : decode cX12_token 160 = .ok (.putfield 92, 3) := by decide +kernel
theorem dX12_token_163 : decode cX12_token 163 = .ok (.aload_n 0, 1) := by decide +kernel
theorem dX12_token_164 : decode cX12_token 164 = .ok (.invokevirtual 78, 3) := by decide +kernel
theorem dX12_token_167 : decode cX12_token 167 = .ok (.bipush 48, 2) := by decide +kernel
theorem dX12_token_169 : decode cX12_token 169 = .ok (.bipush 57, 2) := by decide +kernel
theorem dX12_token_171 : decode cX12_token 171 = .ok (.invokestatic 55, 3) := by decide +kernel
theorem dX12_token_174 : decode cX12_token 174 = .ok (.ifCond .eq 50, 3) := by decide +kernel
theorem dX12_token_177 : decode cX12_token 177 = .ok (.aload_n 0, 1) := by decide +kernel
theorem dX12_token_178 : decode cX12_token 178 = .ok (.iload_n 2, 1) := by decide +kernel
theorem dX12_token_179 : decode cX12_token 179 = .ok (.iconst 2, 1) := by decide +kernel
theorem dX12_token_180 : decode cX12_token 180 = .ok (.if_icmp .ge 21, 3) := by decide +kernel
theorem dX12_token_183 : decode cX12_token 183 = .ok (.bipush 10, 2) := by decide +kernel
theorem dX12_token_185 : decode cX12_token 185 = .ok (.aload_n 0, 1) := by decide +kernel
theorem dX12_token_186 : decode cX12_token 186 = .ok (.getfield 92, 3) := by decide +kernel
theorem dX12_token_189 : decode cX12_token 189 = .ok (.imul, 1) := by decide +kernel
theorem dX12_token_190 : decode cX12_token 190 = .ok (.aload_n 0, 1) := by decide +kernel
theorem dX12_token_191 : decode cX12_token 191 = .ok (.invokevirtual 78, 3) := by decide +kernel
theorem dX12_token_194 : decode cX12_token 194 = .ok (.iadd, 1) := by decide +kernel
theorem dX12_token_195 : decode cX12_token 195 = .ok (.bipush 48, 2) := by decide +kernel
theorem dX12_token_197 : decode cX12_token 197 = .ok (.isub, 1) := by decide +kernel
theorem dX12_token_198 : decode cX12_token 198 = .ok (.goto 7, 3) := by decide +kernel
theorem dX12_token_201 : decode cX12_token 201 = .ok (.aload_n 0, 1) := by decide +kernel
theorem dX12_token_202 : decode cX12_token 202 = .ok (.getfield 92, 3) := by decide +kernel
theorem dX12_token_205 : decode cX12_token 205 = .ok (.putfield 92, 3) := by decide +kernel
theorem dX12_token_208 : decode cX12_token 208 = .ok (.aload_n 0, 1) := by decide +kernel
theorem dX12_token_209 : decode cX12_token 209 = .ok (.dup, 1) := by decide +kernel
theorem dX12_token_210 : decode cX12_token 210 = .ok (.getfield 72, 3) := by decide +kernel
theorem dX12_token_213 : decode cX12_token 213 = .ok (.iconst 1, 1) := by decide +kernel
theorem dX12_token_214 : decode cX12_token 214 = .ok (.iadd, 1) := by decide +kernel
theorem dX12_token_215 : decode cX12_token 215 = .ok (.putfield 72, 3) := by decide +kernel
theorem dX12_token_218 : decode cX12_token 218 = .ok (.iinc 2 1, 3) := by decide +kernel
theorem dX12_token_221 : decode cX12_token 221 = .ok (.goto (-58), 3) := by decide +kernel
theorem dX12_token_224 : decode cX12_token 224 = .ok (.aload_n 0, 1) := by decide +kernel
theorem dX12_token_225 : decode cX12_token 225 = .ok (.iload_n 2, 1) := by decide +kernel
theorem dX12_token_226 : decode cX12_token 226 = .ok (.iconst 2, 1) := by decide +kernel
theorem dX12_token_227 : decode cX12_token 227 = .ok (.if_icmp .le 7, 3) := by decide +kernel
theorem dX12_token_230 : decode cX12_token 230 = .ok (.iconst 1, 1) := by decide +kernel
theorem dX12_token_231 : decode cX12_token 231 = .ok (.goto 4, 3) := by decide +kernel
theorem dX12_token_234 : decode cX12_token 234 = .ok (.iconst 3, 1) := by decide +kernel
theorem dX12_token_235 : decode cX12_token 235 = .ok (.putfield 89, 3) := by decide +kernel
theorem dX12_token_238 : decode cX12_token 238 = .ok (.goto 28, 3) := by decide +kernel
theorem dX12_token_241 : decode cX12_token 241 = .ok (.aload_n 0, 1) := by decide +kernel
theorem dX12_token_242 : decode cX12_token 242 = .ok (.dup, 1) := by decide +kernel
theorem dX12_token_243 : decode cX12_token 243 = .ok (.getfield 72, 3) := by decide +kernel
theorem dX12_token_246 : decode cX12_token 246 = .ok (.iconst 1, 1) := by decide +kernel
theorem dX12_token_247 : decode cX12_token 247 = .ok (.iadd, 1) := by decide +kernel
theorem dX12_token_248 : decode cX12_token 248 = .ok (.putfield 72, 3) := by decide +kernel
theorem dX12_token_251 : decode cX12_token 251 = .ok (.aload_n 0, 1) := by decide +kernel
theorem dX12_token_252 : decode cX12_token 252 = .ok (.iload_n 1, 1) := by decide +kernel
theorem dX12_token_253 : decode cX12_token 253 = .ok (.bipush 59, 2) := by decide +kernel
theorem dX12_token_255 : decode cX12_token 255 = .ok (.if_icmp .ne 7, 3) := by decide +kernel
theorem dX12_token_258 : decode cX12_token 258 = .ok (.iconst 4, 1) := by decide +kernel
theorem dX12_token_259 : decode cX12_token 259 = .ok (.goto 4, 3) := by decide +kernel
theorem dX12_token_262 : decode cX12_token 262 = .ok (.iconst 1, 1) := by decide +kernel
theorem dX12_token_263 : decode cX12_token 263 = .ok (.putfield 89, 3) := by decide +kernel
theorem dX12_token_266 : decode cX12_token 266 = .ok (.return_, 1) := by decide +kernel
theorem dX12_settingBy_0 : decode cX12_settingBy 0 = .ok (.lload_n 0, 1) := by decide +kernel
theorem dX12_settingBy_1 : decode cX12_settingBy 1 = .ok (.ldc2_w 95, 3) := by decide +kernel
theorem dX12_settingBy_4 : decode cX12_settingBy 4 = .ok (.lcmp, 1) := by decide +kernel
theorem dX12_settingBy_5 : decode cX12_settingBy 5 = .ok (.ifCond .ne 7, 3) := by decide +kernel
theorem dX12_settingBy_8 : decode cX12_settingBy 8 = .ok (.iconst 0, 1) := by decide +kernel
theorem dX12_settingBy_9 : decode cX12_settingBy 9 = .ok (.goto 90, 3) := by decide +kernel
theorem dX12_settingBy_12 : decode cX12_settingBy 12 = .ok (.lload_n 0, 1) := by decide +kernel
theorem dX12_settingBy_13 : decode cX12_settingBy 13 = .ok (.ldc2_w 97, 3) := by decide +kernel
theorem dX12_settingBy_16 : decode cX12_settingBy 16 = .ok (.lcmp, 1) := by decide +kernel
theorem dX12_settingBy_17 : decode cX12_settingBy 17 = .ok (.ifCond .ne 7, 3) := by decide +kernel
theorem dX12_settingBy_20 : decode cX12_settingBy 20 = .ok (.iconst 1, 1) := by decide +kernel
theorem dX12_settingBy_21 : decode cX12_settingBy 21 = .ok (.goto 78, 3) := by decide +kernel
theorem dX12_settingBy_24 : decode cX12_settingBy 24 = .ok (.lload_n 0, 1) := by decide +kernel
theorem dX12_settingBy_25 : decode cX12_settingBy 25 = .ok (.ldc2_w 99, 3) := by decide +kernel
theorem dX12_settingBy_28 : decode cX12_settingBy 28 = .ok (.lcmp, 1) := by decide +kernel
theorem dX12_settingBy_29 : decode cX12_settingBy 29 = .ok (.ifCond .ne 7, 3) := by decide +kernel
theorem dX12_settingBy_32 : decode cX12_settingBy 32 = .ok (.iconst 2, 1) := by decide +kernel
theorem dX12_settingBy_33 : decode cX12_settingBy 33 = .ok (.goto 66, 3) := by decide +kernel
theorem dX12_settingBy_36 : decode cX12_settingBy 36 = .ok (.lload_n 0, 1) := by decide +kernel
theorem dX12_settingBy_37 : decode cX12_settingBy 37 = .ok (.ldc2_w 101, 3) := by decide +kernel
theorem dX12_settingBy_40 : decode cX12_settingBy 40 = .ok (.lcmp, 1) := by decide +kernel
theorem dX12_settingBy_41 : decode cX12_settingBy 41 = .ok (.ifCond .ne 7, 3) := by decide +kernel
theorem dX12_settingBy_44 : decode cX12_settingBy 44 = .ok (.iconst 3, 1) := by decide +kernel
theorem dX12_settingBy_45 : decode cX12_settingBy 45 = .ok (.goto 54, 3) := by decide +kernel
theorem dX12_settingBy_48 : decode cX12_settingBy 48 = .ok (.lload_n 0, 1) := by decide +kernel
theorem dX12_settingBy_49 : decode cX12_settingBy 49 = .ok (.ldc2_w 103, 3) := by decide +kernel
theorem dX12_settingBy_52 : decode cX12_settingBy 52 = .ok (.lcmp, 1) := by decide +kernel
theorem dX12_settingBy_53 : decode cX12_settingBy 53 = .ok (.ifCond .ne 7, 3) := by decide +kernel
theorem dX12_settingBy_56 : decode cX12_settingBy 56 = .ok (.iconst 4, 1) := by decide +kernel
theorem dX12_settingBy_57 : decode cX12_settingBy 57 = .ok (.goto 42, 3) := by decide +kernel
theorem dX12_settingBy_60 : decode cX12_settingBy 60 = .ok (.lload_n 0, 1) := by decide +kernel
theorem dX12_settingBy_61 : decode cX12_settingBy 61 = .ok (.ldc2_w 105, 3) := by decide +kernel
theorem dX12_settingBy_64 : decode cX12_settingBy 64 = .ok (.lcmp, 1) := by decide +kernel
theorem dX12_settingBy_65 : decode cX12_settingBy 65 = .ok (.ifCond .ne 7, 3) := by decide +kernel
theorem dX12_settingBy_68 : decode cX12_settingBy 68 = .ok (.iconst 5, 1) := by decide +kernel
theorem dX12_settingBy_69 : decode cX12_settingBy 69 = .ok (.goto 30, 3) := by decide +kernel
theorem dX12_settingBy_72 : decode cX12_settingBy 72 = .ok (.lload_n 0, 1) := by decide +kernel
theorem dX12_settingBy_73 : decode cX12_settingBy 73 = .ok (.ldc2_w 107, 3) := by decide +kernel
theorem dX12_settingBy_76 : decode cX12_settingBy 76 = .ok (.lcmp, 1) := by decide +kernel
theorem dX12_settingBy_77 : decode cX12_settingBy 77 = .ok (.ifCond .ne 8, 3) := by decide +kernel
theorem dX12_settingBy_80 : decode cX12_settingBy 80 = .ok (.bipush 6, 2) := by decide +kernel
theorem dX12_settingBy_82 : decode cX12_settingBy 82 = .ok (.goto 17, 3) := by decide +kernel
theorem dX12_settingBy_85 : decode cX12_settingBy 85 = .ok (.lload_n 0, 1) := by decide +kernel
theorem dX12_settingBy_86 : decode cX12_settingBy 86 = .ok (.ldc2_w 109, 3) := by decide +kernel
theorem dX12_settingBy_89 : decode cX12_settingBy 89 = .ok (.lcmp, 1) := by decide +kernel
theorem dX12_settingBy_90 : decode cX12_settingBy 90 = .ok (.ifCond .ne 8, 3) := by decide +kernel
theorem dX12_settingBy_93 : decode cX12_settingBy 93 = .ok (.bipush 7, 2) := by decide +kernel
theorem dX12_settingBy_95 : decode cX12_settingBy 95 = .ok (.goto 4, 3) := by decide +kernel
theorem dX12_settingBy_98 : decode cX12_settingBy 98 = .ok (.iconst (-1), 1) := by decide +kernel
theorem dX12_settingBy_99 : decode cX12_settingBy 99 = .ok (.ireturn, 1) := by decide +kernel
theorem dX12_leastOf_0 : decode cX12_leastOf 0 = .ok (.iload_n 0, 1) := by decide +kernel
theorem dX12_leastOf_1 : decode cX12_leastOf 1 = .ok (.ifCond .ne 7, 3) := by decide +kernel
theorem dX12_leastOf_4 : decode cX12_leastOf 4 = .ok (.iconst 2, 1) := by decide +kernel
theorem dX12_leastOf_5 : decode cX12_leastOf 5 = .ok (.goto 14, 3) := by decide +kernel
theorem dX12_leastOf_8 : decode cX12_leastOf 8 = .ok (.iload_n 0, 1) := by decide +kernel
theorem dX12_leastOf_9 : decode cX12_leastOf 9 = .ok (.bipush 7, 2) := by decide +kernel
theorem dX12_leastOf_11 : decode cX12_leastOf 11 = .ok (.if_icmp .ne 7, 3) := by decide +kernel
theorem dX12_leastOf_14 : decode cX12_leastOf 14 = .ok (.iconst 0, 1) := by decide +kernel
theorem dX12_leastOf_15 : decode cX12_leastOf 15 = .ok (.goto 4, 3) := by decide +kernel
theorem dX12_leastOf_18 : decode cX12_leastOf 18 = .ok (.iconst 1, 1) := by decide +kernel
theorem dX12_leastOf_19 : decode cX12_leastOf 19 = .ok (.ireturn, 1) := by decide +kernel
theorem dX12_mostOf_0 : decode cX12_mostOf 0 = .ok (.iload_n 0, 1) := by decide +kernel
theorem dX12_mostOf_1 : decode cX12_mostOf 1 = .ok (.ifCond .ne 8, 3) := by decide +kernel
theorem dX12_mostOf_4 : decode cX12_mostOf 4 = .ok (.bipush 8, 2) := by decide +kernel
theorem dX12_mostOf_6 : decode cX12_mostOf 6 = .ok (.goto 59, 3) := by decide +kernel
theorem dX12_mostOf_9 : decode cX12_mostOf 9 = .ok (.iload_n 0, 1) := by decide +kernel
theorem dX12_mostOf_10 : decode cX12_mostOf 10 = .ok (.iconst 1, 1) := by decide +kernel
theorem dX12_mostOf_11 : decode cX12_mostOf 11 = .ok (.if_icmp .ne 8, 3) := by decide +kernel
theorem dX12_mostOf_14 : decode cX12_mostOf 14 = .ok (.bipush 7, 2) := by decide +kernel
theorem dX12_mostOf_16 : decode cX12_mostOf 16 = .ok (.goto 49, 3) := by decide +kernel
theorem dX12_mostOf_19 : decode cX12_mostOf 19 = .ok (.iload_n 0, 1) := by decide +kernel
theorem dX12_mostOf_20 : decode cX12_mostOf 20 = .ok (.iconst 2, 1) := by decide +kernel
theorem dX12_mostOf_21 : decode cX12_mostOf 21 = .ok (.if_icmp .eq 8, 3) := by decide +kernel
theorem dX12_mostOf_24 : decode cX12_mostOf 24 = .ok (.iload_n 0, 1) := by decide +kernel
theorem dX12_mostOf_25 : decode cX12_mostOf 25 = .ok (.iconst 3, 1) := by decide +kernel
theorem dX12_mostOf_26 : decode cX12_mostOf 26 = .ok (.if_icmp .ne 8, 3) := by decide +kernel
theorem dX12_mostOf_29 : decode cX12_mostOf 29 = .ok (.bipush 6, 2) := by decide +kernel
theorem dX12_mostOf_31 : decode cX12_mostOf 31 = .ok (.goto 34, 3) := by decide +kernel
theorem dX12_mostOf_34 : decode cX12_mostOf 34 = .ok (.iload_n 0, 1) := by decide +kernel
theorem dX12_mostOf_35 : decode cX12_mostOf 35 = .ok (.iconst 4, 1) := by decide +kernel
theorem dX12_mostOf_36 : decode cX12_mostOf 36 = .ok (.if_icmp .ne 7, 3) := by decide +kernel
theorem dX12_mostOf_39 : decode cX12_mostOf 39 = .ok (.iconst 4, 1) := by decide +kernel
theorem dX12_mostOf_40 : decode cX12_mostOf 40 = .ok (.goto 25, 3) := by decide +kernel
theorem dX12_mostOf_43 : decode cX12_mostOf 43 = .ok (.iload_n 0, 1) := by decide +kernel
theorem dX12_mostOf_44 : decode cX12_mostOf 44 = .ok (.iconst 5, 1) := by decide +kernel
theorem dX12_mostOf_45 : decode cX12_mostOf 45 = .ok (.if_icmp .ne 8, 3) := by decide +kernel
theorem dX12_mostOf_48 : decode cX12_mostOf 48 = .ok (.bipush 20, 2) := by decide +kernel
theorem dX12_mostOf_50 : decode cX12_mostOf 50 = .ok (.goto 15, 3) := by decide +kernel
theorem dX12_mostOf_53 : decode cX12_mostOf 53 = .ok (.iload_n 0, 1) := by decide +kernel
theorem dX12_mostOf_54 : decode cX12_mostOf 54 = .ok (.bipush 6, 2) := by decide +kernel
theorem dX12_mostOf_56 : decode cX12_mostOf 56 = .ok (.if_icmp .ne 8, 3) := by decide +kernel
theorem dX12_mostOf_59 : decode cX12_mostOf 59 = .ok (.bipush 9, 2) := by decide +kernel
theorem dX12_mostOf_61 : decode cX12_mostOf 61 = .ok (.goto 4, 3) := by decide +kernel
theorem dX12_mostOf_64 : decode cX12_mostOf 64 = .ok (.iconst 3, 1) := by decide +kernel
theorem dX12_mostOf_65 : decode cX12_mostOf 65 = .ok (.ireturn, 1) := by decide +kernel
theorem dX12_fails_0 : decode cX12_fails 0 = .ok (.aload_n 0, 1) := by decide +kernel
theorem dX12_fails_1 : decode cX12_fails 1 = .ok (.aload_n 0, 1) := by decide +kernel
theorem dX12_fails_2 : decode cX12_fails 2 = .ok (.getfield 82, 3) := by decide +kernel
theorem dX12_fails_5 : decode cX12_fails 5 = .ok (.putfield 111, 3) := by decide +kernel
theorem dX12_fails_8 : decode cX12_fails 8 = .ok (.iconst 0, 1) := by decide +kernel
theorem dX12_fails_9 : decode cX12_fails 9 = .ok (.ireturn, 1) := by decide +kernel
theorem dX12_takes_0 : decode cX12_takes 0 = .ok (.aload_n 0, 1) := by decide +kernel
theorem dX12_takes_1 : decode cX12_takes 1 = .ok (.getfield 89, 3) := by decide +kernel
theorem dX12_takes_4 : decode cX12_takes 4 = .ok (.iconst 3, 1) := by decide +kernel
theorem dX12_takes_5 : decode cX12_takes 5 = .ok (.if_icmp .eq 8, 3) := by decide +kernel
theorem dX12_takes_8 : decode cX12_takes 8 = .ok (.aload_n 0, 1) := by decide +kernel
theorem dX12_takes_9 : decode cX12_takes 9 = .ok (.invokevirtual 114, 3) := by decide +kernel
theorem dX12_takes_12 : decode cX12_takes 12 = .ok (.ireturn, 1) := by decide +kernel
theorem dX12_takes_13 : decode cX12_takes 13 = .ok (.aload_n 0, 1) := by decide +kernel
theorem dX12_takes_14 : decode cX12_takes 14 = .ok (.aload_n 0, 1) := by decide +kernel
theorem dX12_takes_15 : decode cX12_takes 15 = .ok (.getfield 92, 3) := by decide +kernel
theorem dX12_takes_18 : decode cX12_takes 18 = .ok (.putfield 118, 3) := by decide +kernel
theorem dX12_takes_21 : decode cX12_takes 21 = .ok (.aload_n 0, 1) := by decide +kernel
theorem dX12_takes_22 : decode cX12_takes 22 = .ok (.getfield 92, 3) := by decide +kernel
theorem dX12_takes_25 : decode cX12_takes 25 = .ok (.iload_n 1, 1) := by decide +kernel
theorem dX12_takes_26 : decode cX12_takes 26 = .ok (.iload_n 2, 1) := by decide +kernel
theorem dX12_takes_27 : decode cX12_takes 27 = .ok (.invokestatic 55, 3) := by decide +kernel
theorem dX12_takes_30 : decode cX12_takes 30 = .ok (.ifCond .eq 11, 3) := by decide +kernel
theorem dX12_takes_33 : decode cX12_takes 33 = .ok (.aload_n 0, 1) := by decide +kernel
theorem dX12_takes_34 : decode cX12_takes 34 = .ok (.getfield 92, 3) := by decide +kernel
theorem dX12_takes_37 : decode cX12_takes 37 = .ok (.iload_n 3, 1) := by decide +kernel
theorem dX12_takes_38 : decode cX12_takes 38 = .ok (.if_icmp .ne 31, 3) := by decide +kernel
theorem dX12_takes_41 : decode cX12_takes 41 = .ok (.aload_n 0, 1) := by decide +kernel
theorem dX12_takes_42 : decode cX12_takes 42 = .ok (.aload_n 0, 1) := by decide +kernel
theorem dX12_takes_43 : decode cX12_takes 43 = .ok (.getfield 121, 3) := by decide +kernel
theorem dX12_takes_46 : decode cX12_takes 46 = .ok (.iconst (-1), 1) := by decide +kernel
theorem dX12_takes_47 : decode cX12_takes 47 = .ok (.if_icmp .ne 10, 3) := by decide +kernel
theorem dX12_takes_50 : decode cX12_takes 50 = .ok (.aload_n 0, 1) := by decide +kernel
theorem dX12_takes_51 : decode cX12_takes 51 = .ok (.getfield 82, 3) := by decide +kernel
theorem dX12_takes_54 : decode cX12_takes 54 = .ok (.goto 7, 3) := by decide +kernel
theorem dX12_takes_57 : decode cX12_takes 57 = .ok (.aload_n 0, 1) := by decide +kernel
theorem dX12_takes_58 : decode cX12_takes 58 = .ok (.getfield 121, 3) := by decide +kernel
theorem dX12_takes_61 : decode cX12_takes 61 = .ok (.putfield 121, 3) := by decide +kernel
theorem dX12_takes_64 : decode cX12_takes 64 = .ok (.aload_n 0, 1) := by decide +kernel
theorem dX12_takes_65 : decode cX12_takes 65 = .ok (.iload_n 1, 1) := by decide +kernel
theorem dX12_takes_66 : decode cX12_takes 66 = .ok (.putfield 118, 3) := by decide +kernel
theorem dX12_takes_69 : decode cX12_takes 69 = .ok (.aload_n 0, 1) := by decide +kernel
theorem dX12_takes_70 : decode cX12_takes 70 = .ok (.invokevirtual 124, 3) := by decide +kernel
theorem dX12_takes_73 : decode cX12_takes 73 = .ok (.iconst 1, 1) := by decide +kernel
theorem dX12_takes_74 : decode cX12_takes 74 = .ok (.ireturn, 1) := by decide +kernel
theorem dX12_takesNode_0 : decode cX12_takesNode 0 = .ok (.aload_n 0, 1) := by decide +kernel
theorem dX12_takesNode_1 : decode cX12_takesNode 1 = .ok (.getfield 82, 3) := by decide +kernel
theorem dX12_takesNode_4 : decode cX12_takesNode 4 = .ok (.istore_n 2, 1) := by decide +kernel
theorem dX12_takesNode_5 : decode cX12_takesNode 5 = .ok (.aload_n 0, 1) := by decide +kernel
theorem dX12_takesNode_6 : decode cX12_takesNode 6 = .ok (.iconst 0, 1) := by decide +kernel
theorem dX12_takesNode_7 : decode cX12_takesNode 7 = .ok (.bipush 7, 2) := by decide +kernel
theorem dX12_takesNode_9 : decode cX12_takesNode 9 = .ok (.iload_n 1, 1) := by decide +kernel
theorem dX12_takesNode_10 : decode cX12_takesNode 10 = .ok (.invokevirtual 127, 3) := by decide +kernel
theorem dX12_takesNode_13 : decode cX12_takesNode 13 = .ok (.ifCond .ne 5, 3) := by decide +kernel
theorem dX12_takesNode_16 : decode cX12_takesNode 16 = .ok (.iconst 0, 1) := by decide +kernel
theorem dX12_takesNode_17 : decode cX12_takesNode 17 = .ok (.ireturn, 1) := by decide +kernel
theorem dX12_takesNode_18 : decode cX12_takesNode 18 = .ok (.aload_n 0, 1) := by decide +kernel
theorem dX12_takesNode_19 : decode cX12_takesNode 19 = .ok (.getfield 27, 3) := by decide +kernel
theorem dX12_takesNode_22 : decode cX12_takesNode 22 = .ok (.aload_n 0, 1) := by decide +kernel
theorem dX12_takesNode_23 : decode cX12_takesNode 23 = .ok (.getfield 118, 3) := by decide +kernel
theorem dX12_takesNode_26 : decode cX12_takesNode 26 = .ok (.aload_n 0, 1) := by decide +kernel
theorem dX12_takesNode_27 : decode cX12_takesNode 27 = .ok (.getfield 27, 3) := by decide +kernel
theorem dX12_takesNode_30 : decode cX12_takesNode 30 = .ok (.aload_n 0, 1) := by decide +kernel
theorem dX12_takesNode_31 : decode cX12_takesNode 31 = .ok (.getfield 118, 3) := by decide +kernel
theorem dX12_takesNode_34 : decode cX12_takesNode 34 = .ok (.iaload, 1) := by decide +kernel
theorem dX12_takesNode_35 : decode cX12_takesNode 35 = .ok (.iconst (-1), 1) := by decide +kernel
theorem dX12_takesNode_36 : decode cX12_takesNode 36 = .ok (.if_icmp .ne 7, 3) := by decide +kernel
theorem dX12_takesNode_39 : decode cX12_takesNode 39 = .ok (.iload_n 2, 1) := by decide +kernel
theorem dX12_takesNode_40 : decode cX12_takesNode 40 = .ok (.goto 12, 3) := by decide +kernel
theorem dX12_takesNode_43 : decode cX12_takesNode 43 = .ok (.aload_n 0, 1) := by decide +kernel
theorem dX12_takesNode_44 : decode cX12_takesNode 44 = .ok (.getfield 27, 3) := by decide +kernel
theorem dX12_takesNode_47 : decode cX12_takesNode 47 = .ok (.aload_n 0, 1) := by decide +kernel
theorem dX12_takesNode_48 : decode cX12_takesNode 48 = .ok (.getfield 118, 3) := by decide +kernel
theorem dX12_takesNode_51 : decode cX12_takesNode 51 = .ok (.iaload, 1) := by decide +kernel
theorem dX12_takesNode_52 : decode cX12_takesNode 52 = .ok (.iastore, 1) := by decide +kernel
theorem dX12_takesNode_53 : decode cX12_takesNode 53 = .ok (.iconst 1, 1) := by decide +kernel
theorem dX12_takesNode_54 : decode cX12_takesNode 54 = .ok (.ireturn, 1) := by decide +kernel
theorem dX12_line_0 : decode cX12_line 0 = .ok (.lload_n 1, 1) := by decide +kernel
theorem dX12_line_1 : decode cX12_line 1 = .ok (.invokestatic 130, 3) := by decide +kernel
theorem dX12_line_4 : decode cX12_line 4 = .ok (.istore_n 3, 1) := by decide +kernel
theorem dX12_line_5 : decode cX12_line 5 = .ok (.iload_n 3, 1) := by decide +kernel
theorem dX12_line_6 : decode cX12_line 6 = .ok (.iconst (-1), 1) := by decide +kernel
theorem dX12_line_7 : decode cX12_line 7 = .ok (.if_icmp .ne 32, 3) := by decide +kernel
theorem dX12_line_10 : decode cX12_line 10 = .ok (.lload_n 1, 1) := by decide +kernel
theorem dX12_line_11 : decode cX12_line 11 = .ok (.ldc2_w 134, 3) := by decide +kernel
theorem dX12_line_14 : decode cX12_line 14 = .ok (.lcmp, 1) := by decide +kernel
theorem dX12_line_15 : decode cX12_line 15 = .ok (.ifCond .eq 24, 3) := by decide +kernel
theorem dX12_line_18 : decode cX12_line 18 = .ok (.lload_n 1, 1) := by decide +kernel
theorem dX12_line_19 : decode cX12_line 19 = .ok (.ldc2_w 136, 3) := by decide +kernel
theorem dX12_line_22 : decode cX12_line 22 = .ok (.lcmp, 1) := by decide +kernel
theorem dX12_line_23 : decode cX12_line 23 = .ok (.ifCond .eq 16, 3) := by decide +kernel
theorem dX12_line_26 : decode cX12_line 26 = .ok (.lload_n 1, 1) := by decide +kernel
theorem dX12_line_27 : decode cX12_line 27 = .ok (.ldc2_w 138, 3) := by decide +kernel
theorem dX12_line_30 : decode cX12_line 30 = .ok (.lcmp, 1) := by decide +kernel
theorem dX12_line_31 : decode cX12_line 31 = .ok (.ifCond .eq 8, 3) := by decide +kernel
theorem dX12_line_34 : decode cX12_line 34 = .ok (.aload_n 0, 1) := by decide +kernel
theorem dX12_line_35 : decode cX12_line 35 = .ok (.invokevirtual 114, 3) := by decide +kernel
theorem dX12_line_38 : decode cX12_line 38 = .ok (.ireturn, 1) := by decide +kernel
theorem dX12_line_39 : decode cX12_line 39 = .ok (.aload_n 0, 1) := by decide +kernel
theorem dX12_line_40 : decode cX12_line 40 = .ok (.invokevirtual 124, 3) := by decide +kernel
theorem dX12_line_43 : decode cX12_line 43 = .ok (.iload_n 3, 1) := by decide +kernel
theorem dX12_line_44 : decode cX12_line 44 = .ok (.iconst (-1), 1) := by decide +kernel
theorem dX12_line_45 : decode cX12_line 45 = .ok (.if_icmp .eq 33, 3) := by decide +kernel
theorem dX12_line_48 : decode cX12_line 48 = .ok (.aload_n 0, 1) := by decide +kernel
theorem dX12_line_49 : decode cX12_line 49 = .ok (.iload_n 3, 1) := by decide +kernel
theorem dX12_line_50 : decode cX12_line 50 = .ok (.invokestatic 140, 3) := by decide +kernel
theorem dX12_line_53 : decode cX12_line 53 = .ok (.iload_n 3, 1) := by decide +kernel
theorem dX12_line_54 : decode cX12_line 54 = .ok (.invokestatic 144, 3) := by decide +kernel
theorem dX12_line_57 : decode cX12_line 57 = .ok (.iconst (-1), 1) := by decide +kernel
theorem dX12_line_58 : decode cX12_line 58 = .ok (.invokevirtual 127, 3) := by decide +kernel
theorem dX12_line_61 : decode cX12_line 61 = .ok (.ifCond .ne 5, 3) := by decide +kernel
theorem dX12_line_64 : decode cX12_line 64 = .ok (.iconst 0, 1) := by decide +kernel
theorem dX12_line_65 : decode cX12_line 65 = .ok (.ireturn, 1) := by decide +kernel
theorem dX12_line_66 : decode cX12_line 66 = .ok (.aload_n 0, 1) := by decide +kernel
theorem dX12_line_67 : decode cX12_line 67 = .ok (.getfield 21, 3) := by decide +kernel
theorem dX12_line_70 : decode cX12_line 70 = .ok (.iload_n 3, 1) := by decide +kernel
theorem dX12_line_71 : decode cX12_line 71 = .ok (.aload_n 0, 1) := by decide +kernel
theorem dX12_line_72 : decode cX12_line 72 = .ok (.getfield 118, 3) := by decide +kernel
theorem dX12_line_75 : decode cX12_line 75 = .ok (.iastore, 1) := by decide +kernel
theorem dX12_line_76 : decode cX12_line 76 = .ok (.iconst 1, 1) := by decide +kernel
theorem dX12_line_77 : decode cX12_line 77 = .ok (.ireturn, 1) := by decide +kernel
theorem dX12_line_78 : decode cX12_line 78 = .ok (.aload_n 0, 1) := by decide +kernel
theorem dX12_line_79 : decode cX12_line 79 = .ok (.iconst (-1), 1) := by decide +kernel
theorem dX12_line_80 : decode cX12_line 80 = .ok (.invokevirtual 147, 3) := by decide +kernel
theorem dX12_line_83 : decode cX12_line 83 = .ok (.ifCond .ne 5, 3) := by decide +kernel
theorem dX12_line_86 : decode cX12_line 86 = .ok (.iconst 0, 1) := by decide +kernel
theorem dX12_line_87 : decode cX12_line 87 = .ok (.ireturn, 1) := by decide +kernel
theorem dX12_line_88 : decode cX12_line 88 = .ok (.aload_n 0, 1) := by decide +kernel
theorem dX12_line_89 : decode cX12_line 89 = .ok (.getfield 118, 3) := by decide +kernel
theorem dX12_line_92 : decode cX12_line 92 = .ok (.istore 4, 2) := by decide +kernel
theorem dX12_line_94 : decode cX12_line 94 = .ok (.aload_n 0, 1) := by decide +kernel
theorem dX12_line_95 : decode cX12_line 95 = .ok (.dup, 1) := by decide +kernel
theorem dX12_line_96 : decode cX12_line 96 = .ok (.getfield 150, 3) := by decide +kernel
theorem dX12_line_99 : decode cX12_line 99 = .ok (.lload_n 1, 1) := by decide +kernel
theorem dX12_line_100 : decode cX12_line 100 = .ok (.ldc2_w 136, 3) := by decide +kernel
theorem dX12_line_103 : decode cX12_line 103 = .ok (.lcmp, 1) := by decide +kernel
theorem dX12_line_104 : decode cX12_line 104 = .ok (.ifCond .ne 10, 3) := by decide +kernel
theorem dX12_line_107 : decode cX12_line 107 = .ok (.iconst 1, 1) := by decide +kernel
theorem dX12_line_108 : decode cX12_line 108 = .ok (.iload 4, 2) := by decide +kernel
theorem dX12_line_110 : decode cX12_line 110 = .ok (.ishl, 1) := by decide +kernel
theorem dX12_line_111 : decode cX12_line 111 = .ok (.goto 4, 3) := by decide +kernel
theorem dX12_line_114 : decode cX12_line 114 = .ok (.iconst 0, 1) := by decide +kernel
theorem dX12_line_115 : decode cX12_line 115 = .ok (.ior, 1) := by decide +kernel
theorem dX12_line_116 : decode cX12_line 116 = .ok (.putfield 150, 3) := by decide +kernel
theorem dX12_line_119 : decode cX12_line 119 = .ok (.aload_n 0, 1) := by decide +kernel
theorem dX12_line_120 : decode cX12_line 120 = .ok (.dup, 1) := by decide +kernel
theorem dX12_line_121 : decode cX12_line 121 = .ok (.getfield 153, 3) := by decide +kernel
theorem dX12_line_124 : decode cX12_line 124 = .ok (.lload_n 1, 1) := by decide +kernel
theorem dX12_line_125 : decode cX12_line 125 = .ok (.ldc2_w 138, 3) := by decide +kernel
theorem dX12_line_128 : decode cX12_line 128 = .ok (.lcmp, 1) := by decide +kernel
theorem dX12_line_129 : decode cX12_line 129 = .ok (.ifCond .ne 10, 3) := by decide +kernel
theorem dX12_line_132 : decode cX12_line 132 = .ok (.iconst 1, 1) := by decide +kernel
theorem dX12_line_133 : decode cX12_line 133 = .ok (.iload 4, 2) := by decide +kernel
theorem dX12_line_135 : decode cX12_line 135 = .ok (.ishl, 1) := by decide +kernel
theorem dX12_line_136 : decode cX12_line 136 = .ok (.goto 4, 3) := by decide +kernel
theorem dX12_line_139 : decode cX12_line 139 = .ok (.iconst 0, 1) := by decide +kernel
theorem dX12_line_140 : decode cX12_line 140 = .ok (.ior, 1) := by decide +kernel
theorem dX12_line_141 : decode cX12_line 141 = .ok (.putfield 153, 3) := by decide +kernel
theorem dX12_line_144 : decode cX12_line 144 = .ok (.lload_n 1, 1) := by decide +kernel
theorem dX12_line_145 : decode cX12_line 145 = .ok (.ldc2_w 134, 3) := by decide +kernel
theorem dX12_line_148 : decode cX12_line 148 = .ok (.lcmp, 1) := by decide +kernel
theorem dX12_line_149 : decode cX12_line 149 = .ok (.ifCond .ne 46, 3) := by decide +kernel
theorem dX12_line_152 : decode cX12_line 152 = .ok (.aload_n 0, 1) := by decide +kernel
theorem dX12_line_153 : decode cX12_line 153 = .ok (.iload 4, 2) := by decide +kernel
theorem dX12_line_155 : decode cX12_line 155 = .ok (.invokevirtual 147, 3) := by decide +kernel
theorem dX12_line_158 : decode cX12_line 158 = .ok (.ifCond .ne 5, 3) := by decide +kernel
theorem dX12_line_161 : decode cX12_line 161 = .ok (.iconst 0, 1) := by decide +kernel
theorem dX12_line_162 : decode cX12_line 162 = .ok (.ireturn, 1) := by decide +kernel
theorem dX12_line_163 : decode cX12_line 163 = .ok (.aload_n 0, 1) := by decide +kernel
theorem dX12_line_164 : decode cX12_line 164 = .ok (.getfield 24, 3) := by decide +kernel
theorem dX12_line_167 : decode cX12_line 167 = .ok (.bipush 8, 2) := by decide +kernel
theorem dX12_line_169 : decode cX12_line 169 = .ok (.iload 4, 2) := by decide +kernel
theorem dX12_line_171 : decode cX12_line 171 = .ok (.imul, 1) := by decide +kernel
theorem dX12_line_172 : decode cX12_line 172 = .ok (.aload_n 0, 1) := by decide +kernel
theorem dX12_line_173 : decode cX12_line 173 = .ok (.getfield 118, 3) := by decide +kernel
theorem dX12_line_176 : decode cX12_line 176 = .ok (.iadd, 1) := by decide +kernel
theorem dX12_line_177 : decode cX12_line 177 = .ok (.iconst 1, 1) := by decide +kernel
theorem dX12_line_178 : decode cX12_line 178 = .ok (.iastore, 1) := by decide +kernel
theorem dX12_line_179 : decode cX12_line 179 = .ok (.aload_n 0, 1) := by decide +kernel
theorem dX12_line_180 : decode cX12_line 180 = .ok (.getfield 24, 3) := by decide +kernel
theorem dX12_line_183 : decode cX12_line 183 = .ok (.bipush 8, 2) := by decide +kernel
theorem dX12_line_185 : decode cX12_line 185 = .ok (.aload_n 0, 1) := by decide +kernel
theorem dX12_line_186 : decode cX12_line 186 = .ok (.getfield 118, 3) := by decide +kernel
theorem dX12_line_189 : decode cX12_line 189 = .ok (.imul, 1) := by decide +kernel
theorem dX12_line_190 : decode cX12_line 190 = .ok (.iload 4, 2) := by decide +kernel
theorem dX12_line_192 : decode cX12_line 192 = .ok (.iadd, 1) := by decide +kernel
theorem dX12_line_193 : decode cX12_line 193 = .ok (.iconst 1, 1) := by decide +kernel
theorem dX12_line_194 : decode cX12_line 194 = .ok (.iastore, 1) := by decide +kernel
theorem dX12_line_195 : decode cX12_line 195 = .ok (.iconst 1, 1) := by decide +kernel
theorem dX12_line_196 : decode cX12_line 196 = .ok (.ireturn, 1) := by decide +kernel
theorem dX12_atFirst_0 : decode cX12_atFirst 0 = .ok (.aload_n 0, 1) := by decide +kernel
theorem dX12_atFirst_1 : decode cX12_atFirst 1 = .ok (.getfield 21, 3) := by decide +kernel
theorem dX12_atFirst_4 : decode cX12_atFirst 4 = .ok (.iconst 0, 1) := by decide +kernel
theorem dX12_atFirst_5 : decode cX12_atFirst 5 = .ok (.iconst 2, 1) := by decide +kernel
theorem dX12_atFirst_6 : decode cX12_atFirst 6 = .ok (.iastore, 1) := by decide +kernel
theorem dX12_atFirst_7 : decode cX12_atFirst 7 = .ok (.aload_n 0, 1) := by decide +kernel
theorem dX12_atFirst_8 : decode cX12_atFirst 8 = .ok (.getfield 21, 3) := by decide +kernel
theorem dX12_atFirst_11 : decode cX12_atFirst 11 = .ok (.iconst 1, 1) := by decide +kernel
theorem dX12_atFirst_12 : decode cX12_atFirst 12 = .ok (.bipush 7, 2) := by decide +kernel
theorem dX12_atFirst_14 : decode cX12_atFirst 14 = .ok (.iastore, 1) := by decide +kernel
theorem dX12_atFirst_15 : decode cX12_atFirst 15 = .ok (.aload_n 0, 1) := by decide +kernel
theorem dX12_atFirst_16 : decode cX12_atFirst 16 = .ok (.getfield 21, 3) := by decide +kernel
theorem dX12_atFirst_19 : decode cX12_atFirst 19 = .ok (.iconst 2, 1) := by decide +kernel
theorem dX12_atFirst_20 : decode cX12_atFirst 20 = .ok (.iconst 4, 1) := by decide +kernel
theorem dX12_atFirst_21 : decode cX12_atFirst 21 = .ok (.iastore, 1) := by decide +kernel
theorem dX12_atFirst_22 : decode cX12_atFirst 22 = .ok (.aload_n 0, 1) := by decide +kernel
theorem dX12_atFirst_23 : decode cX12_atFirst 23 = .ok (.getfield 21, 3) := by decide +kernel
theorem dX12_atFirst_26 : decode cX12_atFirst 26 = .ok (.iconst 3, 1) := by decide +kernel
theorem dX12_atFirst_27 : decode cX12_atFirst 27 = .ok (.iconst 4, 1) := by decide +kernel
theorem dX12_atFirst_28 : decode cX12_atFirst 28 = .ok (.iastore, 1) := by decide +kernel
theorem dX12_atFirst_29 : decode cX12_atFirst 29 = .ok (.aload_n 0, 1) := by decide +kernel
theorem dX12_atFirst_30 : decode cX12_atFirst 30 = .ok (.getfield 21, 3) := by decide +kernel
theorem dX12_atFirst_33 : decode cX12_atFirst 33 = .ok (.iconst 4, 1) := by decide +kernel
theorem dX12_atFirst_34 : decode cX12_atFirst 34 = .ok (.iconst 3, 1) := by decide +kernel
theorem dX12_atFirst_35 : decode cX12_atFirst 35 = .ok (.iastore, 1) := by decide +kernel
theorem dX12_atFirst_36 : decode cX12_atFirst 36 = .ok (.aload_n 0, 1) := by decide +kernel
theorem dX12_atFirst_37 : decode cX12_atFirst 37 = .ok (.getfield 21, 3) := by decide +kernel
theorem dX12_atFirst_40 : decode cX12_atFirst 40 = .ok (.iconst 5, 1) := by decide +kernel
theorem dX12_atFirst_41 : decode cX12_atFirst 41 = .ok (.bipush 9, 2) := by decide +kernel
theorem dX12_atFirst_43 : decode cX12_atFirst 43 = .ok (.iastore, 1) := by decide +kernel
theorem dX12_atFirst_44 : decode cX12_atFirst 44 = .ok (.aload_n 0, 1) := by decide +kernel
theorem dX12_atFirst_45 : decode cX12_atFirst 45 = .ok (.getfield 21, 3) := by decide +kernel
theorem dX12_atFirst_48 : decode cX12_atFirst 48 = .ok (.bipush 6, 2) := by decide +kernel
theorem dX12_atFirst_50 : decode cX12_atFirst 50 = .ok (.iconst 3, 1) := by decide +kernel
theorem dX12_atFirst_51 : decode cX12_atFirst 51 = .ok (.iastore, 1) := by decide +kernel
theorem dX12_atFirst_52 : decode cX12_atFirst 52 = .ok (.aload_n 0, 1) := by decide +kernel
theorem dX12_atFirst_53 : decode cX12_atFirst 53 = .ok (.getfield 21, 3) := by decide +kernel
theorem dX12_atFirst_56 : decode cX12_atFirst 56 = .ok (.bipush 7, 2) := by decide +kernel
theorem dX12_atFirst_58 : decode cX12_atFirst 58 = .ok (.iconst 1, 1) := by decide +kernel
theorem dX12_atFirst_59 : decode cX12_atFirst 59 = .ok (.iastore, 1) := by decide +kernel
theorem dX12_atFirst_60 : decode cX12_atFirst 60 = .ok (.aload_n 0, 1) := by decide +kernel
theorem dX12_atFirst_61 : decode cX12_atFirst 61 = .ok (.iconst 0, 1) := by decide +kernel
theorem dX12_atFirst_62 : decode cX12_atFirst 62 = .ok (.putfield 150, 3) := by decide +kernel
theorem dX12_atFirst_65 : decode cX12_atFirst 65 = .ok (.aload_n 0, 1) := by decide +kernel
theorem dX12_atFirst_66 : decode cX12_atFirst 66 = .ok (.iconst 0, 1) := by decide +kernel
theorem dX12_atFirst_67 : decode cX12_atFirst 67 = .ok (.putfield 153, 3) := by decide +kernel
theorem dX12_atFirst_70 : decode cX12_atFirst 70 = .ok (.iconst 0, 1) := by decide +kernel
theorem dX12_atFirst_71 : decode cX12_atFirst 71 = .ok (.istore_n 1, 1) := by decide +kernel
theorem dX12_atFirst_72 : decode cX12_atFirst 72 = .ok (.iload_n 1, 1) := by decide +kernel
theorem dX12_atFirst_73 : decode cX12_atFirst 73 = .ok (.bipush 64, 2) := by decide +kernel
theorem dX12_atFirst_75 : decode cX12_atFirst 75 = .ok (.if_icmp .ge 16, 3) := by decide +kernel
theorem dX12_atFirst_78 : decode cX12_atFirst 78 = .ok (.aload_n 0, 1) := by decide +kernel
theorem dX12_atFirst_79 : decode cX12_atFirst 79 = .ok (.getfield 24, 3) := by decide +kernel
theorem dX12_atFirst_82 : decode cX12_atFirst 82 = .ok (.iload_n 1, 1) := by decide +kernel
theorem dX12_atFirst_83 : decode cX12_atFirst 83 = .ok (.iconst 0, 1) := by decide +kernel
theorem dX12_atFirst_84 : decode cX12_atFirst 84 = .ok (.iastore, 1) := by decide +kernel
theorem dX12_atFirst_85 : decode cX12_atFirst 85 = .ok (.iinc 1 1, 3) := by decide +kernel
theorem dX12_atFirst_88 : decode cX12_atFirst 88 = .ok (.goto (-16), 3) := by decide +kernel
theorem dX12_atFirst_91 : decode cX12_atFirst 91 = .ok (.iconst 0, 1) := by decide +kernel
theorem dX12_atFirst_92 : decode cX12_atFirst 92 = .ok (.istore_n 1, 1) := by decide +kernel
theorem dX12_atFirst_93 : decode cX12_atFirst 93 = .ok (.iload_n 1, 1) := by decide +kernel
theorem dX12_atFirst_94 : decode cX12_atFirst 94 = .ok (.bipush 8, 2) := by decide +kernel
theorem dX12_atFirst_96 : decode cX12_atFirst 96 = .ok (.if_icmp .ge 16, 3) := by decide +kernel
theorem dX12_atFirst_99 : decode cX12_atFirst 99 = .ok (.aload_n 0, 1) := by decide +kernel
theorem dX12_atFirst_100 : decode cX12_atFirst 100 = .ok (.getfield 27, 3) := by decide +kernel
theorem dX12_atFirst_103 : decode cX12_atFirst 103 = .ok (.iload_n 1, 1) := by decide +kernel
theorem dX12_atFirst_104 : decode cX12_atFirst 104 = .ok (.iconst (-1), 1) := by decide +kernel
theorem dX12_atFirst_105 : decode cX12_atFirst 105 = .ok (.iastore, 1) := by decide +kernel
theorem dX12_atFirst_106 : decode cX12_atFirst 106 = .ok (.iinc 1 1, 3) := by decide +kernel
theorem dX12_atFirst_109 : decode cX12_atFirst 109 = .ok (.goto (-16), 3) := by decide +kernel
theorem dX12_atFirst_112 : decode cX12_atFirst 112 = .ok (.aload_n 0, 1) := by decide +kernel
theorem dX12_atFirst_113 : decode cX12_atFirst 113 = .ok (.iconst (-1), 1) := by decide +kernel
theorem dX12_atFirst_114 : decode cX12_atFirst 114 = .ok (.putfield 121, 3) := by decide +kernel
theorem dX12_atFirst_117 : decode cX12_atFirst 117 = .ok (.aload_n 0, 1) := by decide +kernel
theorem dX12_atFirst_118 : decode cX12_atFirst 118 = .ok (.iconst 0, 1) := by decide +kernel
theorem dX12_atFirst_119 : decode cX12_atFirst 119 = .ok (.putfield 72, 3) := by decide +kernel
theorem dX12_atFirst_122 : decode cX12_atFirst 122 = .ok (.return_, 1) := by decide +kernel
theorem dX12_allLines_0 : decode cX12_allLines 0 = .ok (.iconst 1, 1) := by decide +kernel
theorem dX12_allLines_1 : decode cX12_allLines 1 = .ok (.istore_n 1, 1) := by decide +kernel
theorem dX12_allLines_2 : decode cX12_allLines 2 = .ok (.iload_n 1, 1) := by decide +kernel
theorem dX12_allLines_3 : decode cX12_allLines 3 = .ok (.ifCond .eq 59, 3) := by decide +kernel
theorem dX12_allLines_6 : decode cX12_allLines 6 = .ok (.aload_n 0, 1) := by decide +kernel
theorem dX12_allLines_7 : decode cX12_allLines 7 = .ok (.getfield 89, 3) := by decide +kernel
theorem dX12_allLines_10 : decode cX12_allLines 10 = .ok (.ifCond .eq 52, 3) := by decide +kernel
theorem dX12_allLines_13 : decode cX12_allLines 13 = .ok (.aload_n 0, 1) := by decide +kernel
theorem dX12_allLines_14 : decode cX12_allLines 14 = .ok (.aload_n 0, 1) := by decide +kernel
theorem dX12_allLines_15 : decode cX12_allLines 15 = .ok (.getfield 89, 3) := by decide +kernel
theorem dX12_allLines_18 : decode cX12_allLines 18 = .ok (.iconst 2, 1) := by decide +kernel
theorem dX12_allLines_19 : decode cX12_allLines 19 = .ok (.if_icmp .ne 10, 3) := by decide +kernel
theorem dX12_allLines_22 : decode cX12_allLines 22 = .ok (.aload_n 0, 1) := by decide +kernel
theorem dX12_allLines_23 : decode cX12_allLines 23 = .ok (.getfield 85, 3) := by decide +kernel
theorem dX12_allLines_26 : decode cX12_allLines 26 = .ok (.goto 4, 3) := by decide +kernel
theorem dX12_allLines_29 : decode cX12_allLines 29 = .ok (.lconst 0, 1) := by decide +kernel
theorem dX12_allLines_30 : decode cX12_allLines 30 = .ok (.invokevirtual 156, 3) := by decide +kernel
theorem dX12_allLines_33 : decode cX12_allLines 33 = .ok (.istore_n 1, 1) := by decide +kernel
theorem dX12_allLines_34 : decode cX12_allLines 34 = .ok (.iload_n 1, 1) := by decide +kernel
theorem dX12_allLines_35 : decode cX12_allLines 35 = .ok (.ifCond .eq 16, 3) := by decide +kernel
theorem dX12_allLines_38 : decode cX12_allLines 38 = .ok (.aload_n 0, 1) := by decide +kernel
theorem dX12_allLines_39 : decode cX12_allLines 39 = .ok (.getfield 89, 3) := by decide +kernel
theorem dX12_allLines_42 : decode cX12_allLines 42 = .ok (.iconst 4, 1) := by decide +kernel
theorem dX12_allLines_43 : decode cX12_allLines 43 = .ok (.if_icmp .eq 8, 3) := by decide +kernel
theorem dX12_allLines_46 : decode cX12_allLines 46 = .ok (.aload_n 0, 1) := by decide +kernel
theorem dX12_allLines_47 : decode cX12_allLines 47 = .ok (.invokevirtual 114, 3) := by decide +kernel
theorem dX12_allLines_50 : decode cX12_allLines 50 = .ok (.istore_n 1, 1) := by decide +kernel
theorem dX12_allLines_51 : decode cX12_allLines 51 = .ok (.iload_n 1, 1) := by decide +kernel
theorem dX12_allLines_52 : decode cX12_allLines 52 = .ok (.ifCond .eq (-50), 3) := by decide +kernel
theorem dX12_allLines_55 : decode cX12_allLines 55 = .ok (.aload_n 0, 1) := by decide +kernel
theorem dX12_allLines_56 : decode cX12_allLines 56 = .ok (.invokevirtual 124, 3) := by decide +kernel
theorem dX12_allLines_59 : decode cX12_allLines 59 = .ok (.goto (-57), 3) := by decide +kernel
theorem dX12_allLines_62 : decode cX12_allLines 62 = .ok (.iload_n 1, 1) := by decide +kernel
theorem dX12_allLines_63 : decode cX12_allLines 63 = .ok (.ireturn, 1) := by decide +kernel
theorem dX12_missing_0 : decode cX12_missing 0 = .ok (.iconst (-1), 1) := by decide +kernel
theorem dX12_missing_1 : decode cX12_missing 1 = .ok (.istore_n 1, 1) := by decide +kernel
theorem dX12_missing_2 : decode cX12_missing 2 = .ok (.aload_n 0, 1) := by decide +kernel
theorem dX12_missing_3 : decode cX12_missing 3 = .ok (.getfield 21, 3) := by decide +kernel
theorem dX12_missing_6 : decode cX12_missing 6 = .ok (.iconst 0, 1) := by decide +kernel
theorem dX12_missing_7 : decode cX12_missing 7 = .ok (.iaload, 1) := by decide +kernel
theorem dX12_missing_8 : decode cX12_missing 8 = .ok (.istore_n 2, 1) := by decide +kernel
theorem dX12_missing_9 : decode cX12_missing 9 = .ok (.iload_n 2, 1) := by decide +kernel
theorem dX12_missing_10 : decode cX12_missing 10 = .ok (.bipush 8, 2) := by decide +kernel
theorem dX12_missing_12 : decode cX12_missing 12 = .ok (.if_icmp .ge 45, 3) := by decide +kernel
theorem dX12_missing_15 : decode cX12_missing 15 = .ok (.aload_n 0, 1) := by decide +kernel
theorem dX12_missing_16 : decode cX12_missing 16 = .ok (.getfield 27, 3) := by decide +kernel
theorem dX12_missing_19 : decode cX12_missing 19 = .ok (.iload_n 2, 1) := by decide +kernel
theorem dX12_missing_20 : decode cX12_missing 20 = .ok (.iaload, 1) := by decide +kernel
theorem dX12_missing_21 : decode cX12_missing 21 = .ok (.iconst (-1), 1) := by decide +kernel
theorem dX12_missing_22 : decode cX12_missing 22 = .ok (.if_icmp .eq 27, 3) := by decide +kernel
theorem dX12_missing_25 : decode cX12_missing 25 = .ok (.iload_n 1, 1) := by decide +kernel
theorem dX12_missing_26 : decode cX12_missing 26 = .ok (.iconst (-1), 1) := by decide +kernel
theorem dX12_missing_27 : decode cX12_missing 27 = .ok (.if_icmp .eq 13, 3) := by decide +kernel
theorem dX12_missing_30 : decode cX12_missing 30 = .ok (.aload_n 0, 1) := by decide +kernel
theorem dX12_missing_31 : decode cX12_missing 31 = .ok (.getfield 27, 3) := by decide +kernel
theorem dX12_missing_34 : decode cX12_missing 34 = .ok (.iload_n 2, 1) := by decide +kernel
theorem dX12_missing_35 : decode cX12_missing 35 = .ok (.iaload, 1) := by decide +kernel
theorem dX12_missing_36 : decode cX12_missing 36 = .ok (.iload_n 1, 1) := by decide +kernel
theorem dX12_missing_37 : decode cX12_missing 37 = .ok (.if_icmp .ge 12, 3) := by decide +kernel
theorem dX12_missing_40 : decode cX12_missing 40 = .ok (.aload_n 0, 1) := by decide +kernel
theorem dX12_missing_41 : decode cX12_missing 41 = .ok (.getfield 27, 3) := by decide +kernel
theorem dX12_missing_44 : decode cX12_missing 44 = .ok (.iload_n 2, 1) := by decide +kernel
theorem dX12_missing_45 : decode cX12_missing 45 = .ok (.iaload, 1) := by decide +kernel
theorem dX12_missing_46 : decode cX12_missing 46 = .ok (.goto 4, 3) := by decide +kernel
theorem dX12_missing_49 : decode cX12_missing 49 = .ok (.iload_n 1, 1) := by decide +kernel
theorem dX12_missing_50 : decode cX12_missing 50 = .ok (.istore_n 1, 1) := by decide +kernel
theorem dX12_missing_51 : decode cX12_missing 51 = .ok (.iinc 2 1, 3) := by decide +kernel
theorem dX12_missing_54 : decode cX12_missing 54 = .ok (.goto (-45), 3) := by decide +kernel
theorem dX12_missing_57 : decode cX12_missing 57 = .ok (.iload_n 1, 1) := by decide +kernel
theorem dX12_missing_58 : decode cX12_missing 58 = .ok (.ireturn, 1) := by decide +kernel
theorem dX12_startsAll_0 : decode cX12_startsAll 0 = .ok (.aload_n 0, 1) := by decide +kernel
theorem dX12_startsAll_1 : decode cX12_startsAll 1 = .ok (.invokevirtual 160, 3) := by decide +kernel
theorem dX12_startsAll_4 : decode cX12_startsAll 4 = .ok (.aload_n 0, 1) := by decide +kernel
theorem dX12_startsAll_5 : decode cX12_startsAll 5 = .ok (.invokevirtual 163, 3) := by decide +kernel
theorem dX12_startsAll_8 : decode cX12_startsAll 8 = .ok (.return_, 1) := by decide +kernel
theorem dX12_taken_0 : decode cX12_taken 0 = .ok (.aload_n 0, 1) := by decide +kernel
theorem dX12_taken_1 : decode cX12_taken 1 = .ok (.getfield 7, 3) := by decide +kernel
theorem dX12_taken_4 : decode cX12_taken 4 = .ok (.bipush 11, 2) := by decide +kernel
theorem dX12_taken_6 : decode cX12_taken 6 = .ok (.iaload, 1) := by decide +kernel
theorem dX12_taken_7 : decode cX12_taken 7 = .ok (.istore_n 1, 1) := by decide +kernel
theorem dX12_taken_8 : decode cX12_taken 8 = .ok (.aload_n 0, 1) := by decide +kernel
theorem dX12_taken_9 : decode cX12_taken 9 = .ok (.getfield 7, 3) := by decide +kernel
theorem dX12_taken_12 : decode cX12_taken 12 = .ok (.bipush 12, 2) := by decide +kernel
theorem dX12_taken_14 : decode cX12_taken 14 = .ok (.iaload, 1) := by decide +kernel
theorem dX12_taken_15 : decode cX12_taken 15 = .ok (.istore_n 2, 1) := by decide +kernel
theorem dX12_taken_16 : decode cX12_taken 16 = .ok (.aload_n 0, 1) := by decide +kernel
theorem dX12_taken_17 : decode cX12_taken 17 = .ok (.getfield 7, 3) := by decide +kernel
theorem dX12_taken_20 : decode cX12_taken 20 = .ok (.bipush 13, 2) := by decide +kernel
theorem dX12_taken_22 : decode cX12_taken 22 = .ok (.iaload, 1) := by decide +kernel
theorem dX12_taken_23 : decode cX12_taken 23 = .ok (.istore_n 3, 1) := by decide +kernel
theorem dX12_taken_24 : decode cX12_taken 24 = .ok (.iconst 0, 1) := by decide +kernel
theorem dX12_taken_25 : decode cX12_taken 25 = .ok (.istore 4, 2) := by decide +kernel
theorem dX12_taken_27 : decode cX12_taken 27 = .ok (.iload 4, 2) := by decide +kernel
theorem dX12_taken_29 : decode cX12_taken 29 = .ok (.sipush 2457, 3) := by decide +kernel
theorem dX12_taken_32 : decode cX12_taken 32 = .ok (.if_icmp .ge 17, 3) := by decide +kernel
theorem dX12_taken_35 : decode cX12_taken 35 = .ok (.aload_n 0, 1) := by decide +kernel
theorem dX12_taken_36 : decode cX12_taken 36 = .ok (.getfield 7, 3) := by decide +kernel
theorem dX12_taken_39 : decode cX12_taken 39 = .ok (.iload 4, 2) := by decide +kernel
theorem dX12_taken_41 : decode cX12_taken 41 = .ok (.iconst 0, 1) := by decide +kernel
theorem dX12_taken_42 : decode cX12_taken 42 = .ok (.iastore, 1) := by decide +kernel
theorem dX12_taken_43 : decode cX12_taken 43 = .ok (.iinc 4 1, 3) := by decide +kernel
theorem dX12_taken_46 : decode cX12_taken 46 = .ok (.goto (-19), 3) := by decide +kernel
theorem dX12_taken_49 : decode cX12_taken 49 = .ok (.aload_n 0, 1) := by decide +kernel
theorem dX12_taken_50 : decode cX12_taken 50 = .ok (.getfield 7, 3) := by decide +kernel
theorem dX12_taken_53 : decode cX12_taken 53 = .ok (.bipush 11, 2) := by decide +kernel
theorem dX12_taken_55 : decode cX12_taken 55 = .ok (.iload_n 1, 1) := by decide +kernel
theorem dX12_taken_56 : decode cX12_taken 56 = .ok (.iastore, 1) := by decide +kernel
theorem dX12_taken_57 : decode cX12_taken 57 = .ok (.aload_n 0, 1) := by decide +kernel
theorem dX12_taken_58 : decode cX12_taken 58 = .ok (.getfield 7, 3) := by decide +kernel
theorem dX12_taken_61 : decode cX12_taken 61 = .ok (.bipush 12, 2) := by decide +kernel
theorem dX12_taken_63 : decode cX12_taken 63 = .ok (.iload_n 2, 1) := by decide +kernel
theorem dX12_taken_64 : decode cX12_taken 64 = .ok (.iastore, 1) := by decide +kernel
theorem dX12_taken_65 : decode cX12_taken 65 = .ok (.aload_n 0, 1) := by decide +kernel
theorem dX12_taken_66 : decode cX12_taken 66 = .ok (.getfield 7, 3) := by decide +kernel
theorem dX12_taken_69 : decode cX12_taken 69 = .ok (.bipush 13, 2) := by decide +kernel
theorem dX12_taken_71 : decode cX12_taken 71 = .ok (.iload_n 3, 1) := by decide +kernel
theorem dX12_taken_72 : decode cX12_taken 72 = .ok (.iastore, 1) := by decide +kernel
theorem dX12_taken_73 : decode cX12_taken 73 = .ok (.iconst 0, 1) := by decide +kernel
theorem dX12_taken_74 : decode cX12_taken 74 = .ok (.istore 4, 2) := by decide +kernel
theorem dX12_taken_76 : decode cX12_taken 76 = .ok (.iload 4, 2) := by decide +kernel
theorem dX12_taken_78 : decode cX12_taken 78 = .ok (.bipush 8, 2) := by decide +kernel
theorem dX12_taken_80 : decode cX12_taken 80 = .ok (.if_icmp .ge 23, 3) := by decide +kernel
theorem dX12_taken_83 : decode cX12_taken 83 = .ok (.aload_n 0, 1) := by decide +kernel
theorem dX12_taken_84 : decode cX12_taken 84 = .ok (.getfield 7, 3) := by decide +kernel
theorem dX12_taken_87 : decode cX12_taken 87 = .ok (.iload 4, 2) := by decide +kernel
theorem dX12_taken_89 : decode cX12_taken 89 = .ok (.aload_n 0, 1) := by decide +kernel
theorem dX12_taken_90 : decode cX12_taken 90 = .ok (.getfield 21, 3) := by decide +kernel
theorem dX12_taken_93 : decode cX12_taken 93 = .ok (.iload 4, 2) := by decide +kernel
theorem dX12_taken_95 : decode cX12_taken 95 = .ok (.iaload, 1) := by decide +kernel
theorem dX12_taken_96 : decode cX12_taken 96 = .ok (.iastore, 1) := by decide +kernel
theorem dX12_taken_97 : decode cX12_taken 97 = .ok (.iinc 4 1, 3) := by decide +kernel
theorem dX12_taken_100 : decode cX12_taken 100 = .ok (.goto (-24), 3) := by decide +kernel
theorem dX12_taken_103 : decode cX12_taken 103 = .ok (.iconst 0, 1) := by decide +kernel
theorem dX12_taken_104 : decode cX12_taken 104 = .ok (.istore 4, 2) := by decide +kernel
theorem dX12_taken_106 : decode cX12_taken 106 = .ok (.iload 4, 2) := by decide +kernel
theorem dX12_taken_108 : decode cX12_taken 108 = .ok (.bipush 64, 2) := by decide +kernel
theorem dX12_taken_110 : decode cX12_taken 110 = .ok (.if_icmp .ge 26, 3) := by decide +kernel
theorem dX12_taken_113 : decode cX12_taken 113 = .ok (.aload_n 0, 1) := by decide +kernel
theorem dX12_taken_114 : decode cX12_taken 114 = .ok (.getfield 7, 3) := by decide +kernel
theorem dX12_taken_117 : decode cX12_taken 117 = .ok (.bipush 25, 2) := by decide +kernel
theorem dX12_taken_119 : decode cX12_taken 119 = .ok (.iload 4, 2) := by decide +kernel
theorem dX12_taken_121 : decode cX12_taken 121 = .ok (.iadd, 1) := by decide +kernel
theorem dX12_taken_122 : decode cX12_taken 122 = .ok (.aload_n 0, 1) := by decide +kernel
theorem dX12_taken_123 : decode cX12_taken 123 = .ok (.getfield 24, 3) := by decide +kernel
theorem dX12_taken_126 : decode cX12_taken 126 = .ok (.iload 4, 2) := by decide +kernel
theorem dX12_taken_128 : decode cX12_taken 128 = .ok (.iaload, 1) := by decide +kernel
theorem dX12_taken_129 : decode cX12_taken 129 = .ok (.iastore, 1) := by decide +kernel
theorem dX12_taken_130 : decode cX12_taken 130 = .ok (.iinc 4 1, 3) := by decide +kernel
theorem dX12_taken_133 : decode cX12_taken 133 = .ok (.goto (-27), 3) := by decide +kernel
theorem dX12_taken_136 : decode cX12_taken 136 = .ok (.iconst 0, 1) := by decide +kernel
theorem dX12_taken_137 : decode cX12_taken 137 = .ok (.istore 4, 2) := by decide +kernel
theorem dX12_taken_139 : decode cX12_taken 139 = .ok (.iload 4, 2) := by decide +kernel
theorem dX12_taken_141 : decode cX12_taken 141 = .ok (.bipush 8, 2) := by decide +kernel
theorem dX12_taken_143 : decode cX12_taken 143 = .ok (.if_icmp .ge 93, 3) := by decide +kernel
theorem dX12_taken_146 : decode cX12_taken 146 = .ok (.aload_n 0, 1) := by decide +kernel
theorem dX12_taken_147 : decode cX12_taken 147 = .ok (.iload 4, 2) := by decide +kernel
theorem dX12_taken_149 : decode cX12_taken 149 = .ok (.iconst 0, 1) := by decide +kernel
theorem dX12_taken_150 : decode cX12_taken 150 = .ok (.aload_n 0, 1) := by decide +kernel
theorem dX12_taken_151 : decode cX12_taken 151 = .ok (.getfield 150, 3) := by decide +kernel
theorem dX12_taken_154 : decode cX12_taken 154 = .ok (.iload 4, 2) := by decide +kernel
theorem dX12_taken_156 : decode cX12_taken 156 = .ok (.invokestatic 166, 3) := by decide +kernel
theorem dX12_taken_159 : decode cX12_taken 159 = .ok (.ifCond .eq 7, 3) := by decide +kernel
theorem dX12_taken_162 : decode cX12_taken 162 = .ok (.iconst 1, 1) := by decide +kernel
theorem dX12_taken_163 : decode cX12_taken 163 = .ok (.goto 4, 3) := by decide +kernel
theorem dX12_taken_166 : decode cX12_taken 166 = .ok (.iconst 0, 1) := by decide +kernel
theorem dX12_taken_167 : decode cX12_taken 167 = .ok (.invokevirtual 170, 3) := by decide +kernel
theorem dX12_taken_170 : decode cX12_taken 170 = .ok (.aload_n 0, 1) := by decide +kernel
theorem dX12_taken_171 : decode cX12_taken 171 = .ok (.iload 4, 2) := by decide +kernel
theorem dX12_taken_173 : decode cX12_taken 173 = .ok (.iconst 1, 1) := by decide +kernel
theorem dX12_taken_174 : decode cX12_taken 174 = .ok (.aload_n 0, 1) := by decide +kernel
theorem dX12_taken_175 : decode cX12_taken 175 = .ok (.getfield 153, 3) := by decide +kernel
theorem dX12_taken_178 : decode cX12_taken 178 = .ok (.iload 4, 2) := by decide +kernel
theorem dX12_taken_180 : decode cX12_taken 180 = .ok (.invokestatic 166, 3) := by decide +kernel
theorem dX12_taken_183 : decode cX12_taken 183 = .ok (.ifCond .eq 7, 3) := by decide +kernel
theorem dX12_taken_186 : decode cX12_taken 186 = .ok (.iconst 0, 1) := by decide +kernel
theorem dX12_taken_187 : decode cX12_taken 187 = .ok (.goto 4, 3) := by decide +kernel
theorem dX12_taken_190 : decode cX12_taken 190 = .ok (.iconst 1, 1) := by decide +kernel
theorem dX12_taken_191 : decode cX12_taken 191 = .ok (.invokevirtual 170, 3) := by decide +kernel
theorem dX12_taken_194 : decode cX12_taken 194 = .ok (.aload_n 0, 1) := by decide +kernel
theorem dX12_taken_195 : decode cX12_taken 195 = .ok (.iload 4, 2) := by decide +kernel
theorem dX12_taken_197 : decode cX12_taken 197 = .ok (.iconst 5, 1) := by decide +kernel
theorem dX12_taken_198 : decode cX12_taken 198 = .ok (.iconst (-1), 1) := by decide +kernel
theorem dX12_taken_199 : decode cX12_taken 199 = .ok (.invokevirtual 170, 3) := by decide +kernel
theorem dX12_taken_202 : decode cX12_taken 202 = .ok (.iconst 0, 1) := by decide +kernel
theorem dX12_taken_203 : decode cX12_taken 203 = .ok (.istore 5, 2) := by decide +kernel
theorem dX12_taken_205 : decode cX12_taken 205 = .ok (.iload 5, 2) := by decide +kernel
theorem dX12_taken_207 : decode cX12_taken 207 = .ok (.bipush 8, 2) := by decide +kernel
theorem dX12_taken_209 : decode cX12_taken 209 = .ok (.if_icmp .ge 21, 3) := by decide +kernel
theorem dX12_taken_212 : decode cX12_taken 212 = .ok (.aload_n 0, 1) := by decide +kernel
theorem dX12_taken_213 : decode cX12_taken 213 = .ok (.iload 4, 2) := by decide +kernel
theorem dX12_taken_215 : decode cX12_taken 215 = .ok (.bipush 7, 2) := by decide +kernel
theorem dX12_taken_217 : decode cX12_taken 217 = .ok (.iload 5, 2) := by decide +kernel
theorem dX12_taken_219 : decode cX12_taken 219 = .ok (.iadd, 1) := by decide +kernel
theorem dX12_taken_220 : decode cX12_taken 220 = .ok (.iconst (-1), 1) := by decide +kernel
theorem dX12_taken_221 : decode cX12_taken 221 = .ok (.invokevirtual 170, 3) := by decide +kernel
theorem dX12_taken_224 : decode cX12_taken 224 = .ok (.iinc 5 1, 3) := by decide +kernel
theorem dX12_taken_227 : decode cX12_taken 227 = .ok (.goto (-22), 3) := by decide +kernel
theorem dX12_taken_230 : decode cX12_taken 230 = .ok (.iinc 4 1, 3) := by decide +kernel
theorem dX12_taken_233 : decode cX12_taken 233 = .ok (.goto (-94), 3) := by decide +kernel
theorem dX12_taken_236 : decode cX12_taken 236 = .ok (.return_, 1) := by decide +kernel
theorem dX12_net_0 : decode cX12_net 0 = .ok (.aload_n 0, 1) := by decide +kernel
theorem dX12_net_1 : decode cX12_net 1 = .ok (.iconst 0, 1) := by decide +kernel
theorem dX12_net_2 : decode cX12_net 2 = .ok (.putfield 51, 3) := by decide +kernel
theorem dX12_net_5 : decode cX12_net 5 = .ok (.aload_n 0, 1) := by decide +kernel
theorem dX12_net_6 : decode cX12_net 6 = .ok (.aload_n 0, 1) := by decide +kernel
theorem dX12_net_7 : decode cX12_net 7 = .ok (.getfield 7, 3) := by decide +kernel
theorem dX12_net_10 : decode cX12_net 10 = .ok (.bipush 11, 2) := by decide +kernel
theorem dX12_net_12 : decode cX12_net 12 = .ok (.iaload, 1) := by decide +kernel
theorem dX12_net_13 : decode cX12_net 13 = .ok (.putfield 75, 3) := by decide +kernel
theorem dX12_net_16 : decode cX12_net 16 = .ok (.aload_n 0, 1) := by decide +kernel
theorem dX12_net_17 : decode cX12_net 17 = .ok (.getfield 7, 3) := by decide +kernel
theorem dX12_net_20 : decode cX12_net 20 = .ok (.bipush 11, 2) := by decide +kernel
theorem dX12_net_22 : decode cX12_net 22 = .ok (.iconst 0, 1) := by decide +kernel
theorem dX12_net_23 : decode cX12_net 23 = .ok (.iastore, 1) := by decide +kernel
theorem dX12_net_24 : decode cX12_net 24 = .ok (.aload_n 0, 1) := by decide +kernel
theorem dX12_net_25 : decode cX12_net 25 = .ok (.invokevirtual 160, 3) := by decide +kernel
theorem dX12_net_28 : decode cX12_net 28 = .ok (.aload_n 0, 1) := by decide +kernel
theorem dX12_net_29 : decode cX12_net 29 = .ok (.invokevirtual 124, 3) := by decide +kernel
theorem dX12_net_32 : decode cX12_net 32 = .ok (.aload_n 0, 1) := by decide +kernel
theorem dX12_net_33 : decode cX12_net 33 = .ok (.invokevirtual 174, 3) := by decide +kernel
theorem dX12_net_36 : decode cX12_net 36 = .ok (.istore_n 1, 1) := by decide +kernel
theorem dX12_net_37 : decode cX12_net 37 = .ok (.aload_n 0, 1) := by decide +kernel
theorem dX12_net_38 : decode cX12_net 38 = .ok (.invokevirtual 177, 3) := by decide +kernel
theorem dX12_net_41 : decode cX12_net 41 = .ok (.istore_n 2, 1) := by decide +kernel
theorem dX12_net_42 : decode cX12_net 42 = .ok (.aload_n 0, 1) := by decide +kernel
theorem dX12_net_43 : decode cX12_net 43 = .ok (.getfield 7, 3) := by decide +kernel
theorem dX12_net_46 : decode cX12_net 46 = .ok (.bipush 12, 2) := by decide +kernel
theorem dX12_net_48 : decode cX12_net 48 = .ok (.iload_n 1, 1) := by decide +kernel
theorem dX12_net_49 : decode cX12_net 49 = .ok (.ifCond .ne 7, 3) := by decide +kernel
theorem dX12_net_52 : decode cX12_net 52 = .ok (.iconst 1, 1) := by decide +kernel
theorem dX12_net_53 : decode cX12_net 53 = .ok (.goto 25, 3) := by decide +kernel
theorem dX12_net_56 : decode cX12_net 56 = .ok (.aload_n 0, 1) := by decide +kernel
theorem dX12_net_57 : decode cX12_net 57 = .ok (.getfield 121, 3) := by decide +kernel
theorem dX12_net_60 : decode cX12_net 60 = .ok (.iconst (-1), 1) := by decide +kernel
theorem dX12_net_61 : decode cX12_net 61 = .ok (.if_icmp .eq 7, 3) := by decide +kernel
theorem dX12_net_64 : decode cX12_net 64 = .ok (.iconst 2, 1) := by decide +kernel
theorem dX12_net_65 : decode cX12_net 65 = .ok (.goto 13, 3) := by decide +kernel
theorem dX12_net_68 : decode cX12_net 68 = .ok (.iload_n 2, 1) := by decide +kernel
theorem dX12_net_69 : decode cX12_net 69 = .ok (.iconst (-1), 1) := by decide +kernel
theorem dX12_net_70 : decode cX12_net 70 = .ok (.if_icmp .eq 7, 3) := by decide +kernel
theorem dX12_net_73 : decode cX12_net 73 = .ok (.iconst 3, 1) := by decide +kernel
theorem dX12_net_74 : decode cX12_net 74 = .ok (.goto 4, 3) := by decide +kernel
theorem dX12_net_77 : decode cX12_net 77 = .ok (.iconst 0, 1) := by decide +kernel
theorem dX12_net_78 : decode cX12_net 78 = .ok (.iastore, 1) := by decide +kernel
theorem dX12_net_79 : decode cX12_net 79 = .ok (.aload_n 0, 1) := by decide +kernel
theorem dX12_net_80 : decode cX12_net 80 = .ok (.getfield 7, 3) := by decide +kernel
theorem dX12_net_83 : decode cX12_net 83 = .ok (.bipush 13, 2) := by decide +kernel
theorem dX12_net_85 : decode cX12_net 85 = .ok (.iload_n 1, 1) := by decide +kernel
theorem dX12_net_86 : decode cX12_net 86 = .ok (.ifCond .ne 10, 3) := by decide +kernel
theorem dX12_net_89 : decode cX12_net 89 = .ok (.aload_n 0, 1) := by decide +kernel
theorem dX12_net_90 : decode cX12_net 90 = .ok (.getfield 111, 3) := by decide +kernel
theorem dX12_net_93 : decode cX12_net 93 = .ok (.goto 19, 3) := by decide +kernel
theorem dX12_net_96 : decode cX12_net 96 = .ok (.aload_n 0, 1) := by decide +kernel
theorem dX12_net_97 : decode cX12_net 97 = .ok (.getfield 121, 3) := by decide +kernel
theorem dX12_net_100 : decode cX12_net 100 = .ok (.iconst (-1), 1) := by decide +kernel
theorem dX12_net_101 : decode cX12_net 101 = .ok (.if_icmp .eq 10, 3) := by decide +kernel
theorem dX12_net_104 : decode cX12_net 104 = .ok (.aload_n 0, 1) := by decide +kernel
theorem dX12_net_105 : decode cX12_net 105 = .ok (.getfield 121, 3) := by decide +kernel
theorem dX12_net_108 : decode cX12_net 108 = .ok (.goto 4, 3) := by decide +kernel
theorem dX12_net_111 : decode cX12_net 111 = .ok (.iload_n 2, 1) := by decide +kernel
theorem dX12_net_112 : decode cX12_net 112 = .ok (.iastore, 1) := by decide +kernel
theorem dX12_net_113 : decode cX12_net 113 = .ok (.aload_n 0, 1) := by decide +kernel
theorem dX12_net_114 : decode cX12_net 114 = .ok (.getfield 7, 3) := by decide +kernel
theorem dX12_net_117 : decode cX12_net 117 = .ok (.bipush 12, 2) := by decide +kernel
theorem dX12_net_119 : decode cX12_net 119 = .ok (.iaload, 1) := by decide +kernel
theorem dX12_net_120 : decode cX12_net 120 = .ok (.ifCond .eq 5, 3) := by decide +kernel
theorem dX12_net_123 : decode cX12_net 123 = .ok (.iconst (-1), 1) := by decide +kernel
theorem dX12_net_124 : decode cX12_net 124 = .ok (.ireturn, 1) := by decide +kernel
theorem dX12_net_125 : decode cX12_net 125 = .ok (.aload_n 0, 1) := by decide +kernel
theorem dX12_net_126 : decode cX12_net 126 = .ok (.invokevirtual 163, 3) := by decide +kernel
theorem dX12_net_129 : decode cX12_net 129 = .ok (.aload_n 0, 1) := by decide +kernel
theorem dX12_net_130 : decode cX12_net 130 = .ok (.getfield 7, 3) := by decide +kernel
theorem dX12_net_133 : decode cX12_net 133 = .ok (.iconst 0, 1) := by decide +kernel
theorem dX12_net_134 : decode cX12_net 134 = .ok (.iaload, 1) := by decide +kernel
theorem dX12_net_135 : decode cX12_net 135 = .ok (.ireturn, 1) := by decide +kernel
theorem dX12_fault_0 : decode cX12_fault 0 = .ok (.aload_n 0, 1) := by decide +kernel
theorem dX12_fault_1 : decode cX12_fault 1 = .ok (.iconst 0, 1) := by decide +kernel
theorem dX12_fault_2 : decode cX12_fault 2 = .ok (.putfield 51, 3) := by decide +kernel
theorem dX12_fault_5 : decode cX12_fault 5 = .ok (.iload_n 1, 1) := by decide +kernel
theorem dX12_fault_6 : decode cX12_fault 6 = .ok (.ifCond .eq 13, 3) := by decide +kernel
theorem dX12_fault_9 : decode cX12_fault 9 = .ok (.aload_n 0, 1) := by decide +kernel
theorem dX12_fault_10 : decode cX12_fault 10 = .ok (.getfield 7, 3) := by decide +kernel
theorem dX12_fault_13 : decode cX12_fault 13 = .ok (.bipush 13, 2) := by decide +kernel
theorem dX12_fault_15 : decode cX12_fault 15 = .ok (.iaload, 1) := by decide +kernel
theorem dX12_fault_16 : decode cX12_fault 16 = .ok (.goto 10, 3) := by decide +kernel
theorem dX12_fault_19 : decode cX12_fault 19 = .ok (.aload_n 0, 1) := by decide +kernel
theorem dX12_fault_20 : decode cX12_fault 20 = .ok (.getfield 7, 3) := by decide +kernel
theorem dX12_fault_23 : decode cX12_fault 23 = .ok (.bipush 12, 2) := by decide +kernel
theorem dX12_fault_25 : decode cX12_fault 25 = .ok (.iaload, 1) := by decide +kernel
theorem dX12_fault_26 : decode cX12_fault 26 = .ok (.ireturn, 1) := by decide +kernel
theorem dX12_pathAt_0 : decode cX12_pathAt 0 = .ok (.aload_n 0, 1) := by decide +kernel
theorem dX12_pathAt_1 : decode cX12_pathAt 1 = .ok (.iload_n 1, 1) := by decide +kernel
theorem dX12_pathAt_2 : decode cX12_pathAt 2 = .ok (.bipush 15, 2) := by decide +kernel
theorem dX12_pathAt_4 : decode cX12_pathAt 4 = .ok (.bipush 9, 2) := by decide +kernel
theorem dX12_pathAt_6 : decode cX12_pathAt 6 = .ok (.iload_n 2, 1) := by decide +kernel
theorem dX12_pathAt_7 : decode cX12_pathAt 7 = .ok (.imul, 1) := by decide +kernel
theorem dX12_pathAt_8 : decode cX12_pathAt 8 = .ok (.iadd, 1) := by decide +kernel
theorem dX12_pathAt_9 : decode cX12_pathAt 9 = .ok (.iconst 1, 1) := by decide +kernel
theorem dX12_pathAt_10 : decode cX12_pathAt 10 = .ok (.iadd, 1) := by decide +kernel
theorem dX12_pathAt_11 : decode cX12_pathAt 11 = .ok (.iload_n 3, 1) := by decide +kernel
theorem dX12_pathAt_12 : decode cX12_pathAt 12 = .ok (.iadd, 1) := by decide +kernel
theorem dX12_pathAt_13 : decode cX12_pathAt 13 = .ok (.invokevirtual 180, 3) := by decide +kernel
theorem dX12_pathAt_16 : decode cX12_pathAt 16 = .ok (.ireturn, 1) := by decide +kernel
theorem dX12_pathMany_0 : decode cX12_pathMany 0 = .ok (.aload_n 0, 1) := by decide +kernel
theorem dX12_pathMany_1 : decode cX12_pathMany 1 = .ok (.iload_n 1, 1) := by decide +kernel
theorem dX12_pathMany_2 : decode cX12_pathMany 2 = .ok (.bipush 15, 2) := by decide +kernel
theorem dX12_pathMany_4 : decode cX12_pathMany 4 = .ok (.bipush 9, 2) := by decide +kernel
theorem dX12_pathMany_6 : decode cX12_pathMany 6 = .ok (.iload_n 2, 1) := by decide +kernel
theorem dX12_pathMany_7 : decode cX12_pathMany 7 = .ok (.imul, 1) := by decide +kernel
theorem dX12_pathMany_8 : decode cX12_pathMany 8 = .ok (.iadd, 1) := by decide +kernel
theorem dX12_pathMany_9 : decode cX12_pathMany 9 = .ok (.invokevirtual 180, 3) := by decide +kernel
theorem dX12_pathMany_12 : decode cX12_pathMany 12 = .ok (.ireturn, 1) := by decide +kernel
theorem dX12_isLesson_0 : decode cX12_isLesson 0 = .ok (.aload_n 0, 1) := by decide +kernel
theorem dX12_isLesson_1 : decode cX12_isLesson 1 = .ok (.iload_n 1, 1) := by decide +kernel
theorem dX12_isLesson_2 : decode cX12_isLesson 2 = .ok (.iload_n 2, 1) := by decide +kernel
theorem dX12_isLesson_3 : decode cX12_isLesson 3 = .ok (.invokevirtual 183, 3) := by decide +kernel
theorem dX12_isLesson_6 : decode cX12_isLesson 6 = .ok (.aload_n 0, 1) := by decide +kernel
theorem dX12_isLesson_7 : decode cX12_isLesson 7 = .ok (.getfield 186, 3) := by decide +kernel
theorem dX12_isLesson_10 : decode cX12_isLesson 10 = .ok (.if_icmp .ne 7, 3) := by decide +kernel
theorem dX12_isLesson_13 : decode cX12_isLesson 13 = .ok (.iconst 1, 1) := by decide +kernel
theorem dX12_isLesson_14 : decode cX12_isLesson 14 = .ok (.goto 4, 3) := by decide +kernel
theorem dX12_isLesson_17 : decode cX12_isLesson 17 = .ok (.iconst 0, 1) := by decide +kernel
theorem dX12_isLesson_18 : decode cX12_isLesson 18 = .ok (.istore_n 3, 1) := by decide +kernel
theorem dX12_isLesson_19 : decode cX12_isLesson 19 = .ok (.iconst 0, 1) := by decide +kernel
theorem dX12_isLesson_20 : decode cX12_isLesson 20 = .ok (.istore 4, 2) := by decide +kernel
theorem dX12_isLesson_22 : decode cX12_isLesson 22 = .ok (.iload 4, 2) := by decide +kernel
theorem dX12_isLesson_24 : decode cX12_isLesson 24 = .ok (.aload_n 0, 1) := by decide +kernel
theorem dX12_isLesson_25 : decode cX12_isLesson 25 = .ok (.getfield 186, 3) := by decide +kernel
theorem dX12_isLesson_28 : decode cX12_isLesson 28 = .ok (.if_icmp .ge 37, 3) := by decide +kernel
theorem dX12_isLesson_31 : decode cX12_isLesson 31 = .ok (.iload_n 3, 1) := by decide +kernel
theorem dX12_isLesson_32 : decode cX12_isLesson 32 = .ok (.ifCond .eq 33, 3) := by decide +kernel
theorem dX12_isLesson_35 : decode cX12_isLesson 35 = .ok (.aload_n 0, 1) := by decide +kernel
theorem dX12_isLesson_36 : decode cX12_isLesson 36 = .ok (.iload_n 1, 1) := by decide +kernel
theorem dX12_isLesson_37 : decode cX12_isLesson 37 = .ok (.iload_n 2, 1) := by decide +kernel
theorem dX12_isLesson_38 : decode cX12_isLesson 38 = .ok (.iload 4, 2) := by decide +kernel
theorem dX12_isLesson_40 : decode cX12_isLesson 40 = .ok (.invokevirtual 189, 3) := by decide +kernel
theorem dX12_isLesson_43 : decode cX12_isLesson 43 = .ok (.aload_n 0, 1) := by decide +kernel
theorem dX12_isLesson_44 : decode cX12_isLesson 44 = .ok (.getfield 30, 3) := by decide +kernel
theorem dX12_isLesson_47 : decode cX12_isLesson 47 = .ok (.iload 4, 2) := by decide +kernel
theorem dX12_isLesson_49 : decode cX12_isLesson 49 = .ok (.iaload, 1) := by decide +kernel
theorem dX12_isLesson_50 : decode cX12_isLesson 50 = .ok (.if_icmp .ne 7, 3) := by decide +kernel
theorem dX12_isLesson_53 : decode cX12_isLesson 53 = .ok (.iconst 1, 1) := by decide +kernel
theorem dX12_isLesson_54 : decode cX12_isLesson 54 = .ok (.goto 4, 3) := by decide +kernel
theorem dX12_isLesson_57 : decode cX12_isLesson 57 = .ok (.iconst 0, 1) := by decide +kernel
theorem dX12_isLesson_58 : decode cX12_isLesson 58 = .ok (.istore_n 3, 1) := by decide +kernel
theorem dX12_isLesson_59 : decode cX12_isLesson 59 = .ok (.iinc 4 1, 3) := by decide +kernel
theorem dX12_isLesson_62 : decode cX12_isLesson 62 = .ok (.goto (-40), 3) := by decide +kernel
theorem dX12_isLesson_65 : decode cX12_isLesson 65 = .ok (.iload_n 3, 1) := by decide +kernel
theorem dX12_isLesson_66 : decode cX12_isLesson 66 = .ok (.ireturn, 1) := by decide +kernel
theorem dX12_dropsKept_0 : decode cX12_dropsKept 0 = .ok (.bipush 15, 2) := by decide +kernel
theorem dX12_dropsKept_2 : decode cX12_dropsKept 2 = .ok (.iload_n 3, 1) := by decide +kernel
theorem dX12_dropsKept_3 : decode cX12_dropsKept 3 = .ok (.iload_n 2, 1) := by decide +kernel
theorem dX12_dropsKept_4 : decode cX12_dropsKept 4 = .ok (.imul, 1) := by decide +kernel
theorem dX12_dropsKept_5 : decode cX12_dropsKept 5 = .ok (.iadd, 1) := by decide +kernel
theorem dX12_dropsKept_6 : decode cX12_dropsKept 6 = .ok (.istore 4, 2) := by decide +kernel
theorem dX12_dropsKept_8 : decode cX12_dropsKept 8 = .ok (.iload 4, 2) := by decide +kernel
theorem dX12_dropsKept_10 : decode cX12_dropsKept 10 = .ok (.bipush 15, 2) := by decide +kernel
theorem dX12_dropsKept_12 : decode cX12_dropsKept 12 = .ok (.iload_n 3, 1) := by decide +kernel
theorem dX12_dropsKept_13 : decode cX12_dropsKept 13 = .ok (.aload_n 0, 1) := by decide +kernel
theorem dX12_dropsKept_14 : decode cX12_dropsKept 14 = .ok (.iload_n 1, 1) := by decide +kernel
theorem dX12_dropsKept_15 : decode cX12_dropsKept 15 = .ok (.iconst 2, 1) := by decide +kernel
theorem dX12_dropsKept_16 : decode cX12_dropsKept 16 = .ok (.invokevirtual 180, 3) := by decide +kernel
theorem dX12_dropsKept_19 : decode cX12_dropsKept 19 = .ok (.iconst 1, 1) := by decide +kernel
theorem dX12_dropsKept_20 : decode cX12_dropsKept 20 = .ok (.isub, 1) := by decide +kernel
theorem dX12_dropsKept_21 : decode cX12_dropsKept 21 = .ok (.imul, 1) := by decide +kernel
theorem dX12_dropsKept_22 : decode cX12_dropsKept 22 = .ok (.iadd, 1) := by decide +kernel
theorem dX12_dropsKept_23 : decode cX12_dropsKept 23 = .ok (.if_icmp .ge 25, 3) := by decide +kernel
theorem dX12_dropsKept_26 : decode cX12_dropsKept 26 = .ok (.aload_n 0, 1) := by decide +kernel
theorem dX12_dropsKept_27 : decode cX12_dropsKept 27 = .ok (.iload_n 1, 1) := by decide +kernel
theorem dX12_dropsKept_28 : decode cX12_dropsKept 28 = .ok (.iload 4, 2) := by decide +kernel
theorem dX12_dropsKept_30 : decode cX12_dropsKept 30 = .ok (.aload_n 0, 1) := by decide +kernel
theorem dX12_dropsKept_31 : decode cX12_dropsKept 31 = .ok (.iload_n 1, 1) := by decide +kernel
theorem dX12_dropsKept_32 : decode cX12_dropsKept 32 = .ok (.iload 4, 2) := by decide +kernel
theorem dX12_dropsKept_34 : decode cX12_dropsKept 34 = .ok (.iload_n 3, 1) := by decide +kernel
theorem dX12_dropsKept_35 : decode cX12_dropsKept 35 = .ok (.iadd, 1) := by decide +kernel
theorem dX12_dropsKept_36 : decode cX12_dropsKept 36 = .ok (.invokevirtual 180, 3) := by decide +kernel
theorem dX12_dropsKept_39 : decode cX12_dropsKept 39 = .ok (.invokevirtual 170, 3) := by decide +kernel
theorem dX12_dropsKept_42 : decode cX12_dropsKept 42 = .ok (.iinc 4 1, 3) := by decide +kernel
theorem dX12_dropsKept_45 : decode cX12_dropsKept 45 = .ok (.goto (-37), 3) := by decide +kernel
theorem dX12_dropsKept_48 : decode cX12_dropsKept 48 = .ok (.aload_n 0, 1) := by decide +kernel
theorem dX12_dropsKept_49 : decode cX12_dropsKept 49 = .ok (.iload_n 1, 1) := by decide +kernel
theorem dX12_dropsKept_50 : decode cX12_dropsKept 50 = .ok (.iconst 2, 1) := by decide +kernel
theorem dX12_dropsKept_51 : decode cX12_dropsKept 51 = .ok (.aload_n 0, 1) := by decide +kernel
theorem dX12_dropsKept_52 : decode cX12_dropsKept 52 = .ok (.iload_n 1, 1) := by decide +kernel
theorem dX12_dropsKept_53 : decode cX12_dropsKept 53 = .ok (.iconst 2, 1) := by decide +kernel
theorem dX12_dropsKept_54 : decode cX12_dropsKept 54 = .ok (.invokevirtual 180, 3) := by decide +kernel
theorem dX12_dropsKept_57 : decode cX12_dropsKept 57 = .ok (.iconst 1, 1) := by decide +kernel
theorem dX12_dropsKept_58 : decode cX12_dropsKept 58 = .ok (.isub, 1) := by decide +kernel
theorem dX12_dropsKept_59 : decode cX12_dropsKept 59 = .ok (.invokevirtual 170, 3) := by decide +kernel
theorem dX12_dropsKept_62 : decode cX12_dropsKept 62 = .ok (.return_, 1) := by decide +kernel
theorem dX12_opens_0 : decode cX12_opens 0 = .ok (.aload_n 0, 1) := by decide +kernel
theorem dX12_opens_1 : decode cX12_opens 1 = .ok (.iload_n 1, 1) := by decide +kernel
theorem dX12_opens_2 : decode cX12_opens 2 = .ok (.iconst 2, 1) := by decide +kernel
theorem dX12_opens_3 : decode cX12_opens 3 = .ok (.invokevirtual 180, 3) := by decide +kernel
theorem dX12_opens_6 : decode cX12_opens 6 = .ok (.iload_n 3, 1) := by decide +kernel
theorem dX12_opens_7 : decode cX12_opens 7 = .ok (.if_icmp .ne 12, 3) := by decide +kernel
theorem dX12_opens_10 : decode cX12_opens 10 = .ok (.aload_n 0, 1) := by decide +kernel
theorem dX12_opens_11 : decode cX12_opens 11 = .ok (.iload_n 1, 1) := by decide +kernel
theorem dX12_opens_12 : decode cX12_opens 12 = .ok (.iconst 2, 1) := by decide +kernel
theorem dX12_opens_13 : decode cX12_opens 13 = .ok (.iload_n 3, 1) := by decide +kernel
theorem dX12_opens_14 : decode cX12_opens 14 = .ok (.iconst 1, 1) := by decide +kernel
theorem dX12_opens_15 : decode cX12_opens 15 = .ok (.isub, 1) := by decide +kernel
theorem dX12_opens_16 : decode cX12_opens 16 = .ok (.invokevirtual 170, 3) := by decide +kernel
theorem dX12_opens_19 : decode cX12_opens 19 = .ok (.bipush 15, 2) := by decide +kernel
theorem dX12_opens_21 : decode cX12_opens 21 = .ok (.iload_n 2, 1) := by decide +kernel
theorem dX12_opens_22 : decode cX12_opens 22 = .ok (.aload_n 0, 1) := by decide +kernel
theorem dX12_opens_23 : decode cX12_opens 23 = .ok (.iload_n 1, 1) := by decide +kernel
theorem dX12_opens_24 : decode cX12_opens 24 = .ok (.iconst 2, 1) := by decide +kernel
theorem dX12_opens_25 : decode cX12_opens 25 = .ok (.invokevirtual 180, 3) := by decide +kernel
theorem dX12_opens_28 : decode cX12_opens 28 = .ok (.iconst 1, 1) := by decide +kernel
theorem dX12_opens_29 : decode cX12_opens 29 = .ok (.iadd, 1) := by decide +kernel
theorem dX12_opens_30 : decode cX12_opens 30 = .ok (.imul, 1) := by decide +kernel
theorem dX12_opens_31 : decode cX12_opens 31 = .ok (.iadd, 1) := by decide +kernel
theorem dX12_opens_32 : decode cX12_opens 32 = .ok (.iconst 1, 1) := by decide +kernel
theorem dX12_opens_33 : decode cX12_opens 33 = .ok (.isub, 1) := by decide +kernel
theorem dX12_opens_34 : decode cX12_opens 34 = .ok (.istore 4, 2) := by decide +kernel
theorem dX12_opens_36 : decode cX12_opens 36 = .ok (.iload 4, 2) := by decide +kernel
theorem dX12_opens_38 : decode cX12_opens 38 = .ok (.bipush 15, 2) := by decide +kernel
theorem dX12_opens_40 : decode cX12_opens 40 = .ok (.iload_n 2, 1) := by decide +kernel
theorem dX12_opens_41 : decode cX12_opens 41 = .ok (.iadd, 1) := by decide +kernel
theorem dX12_opens_42 : decode cX12_opens 42 = .ok (.if_icmp .lt 25, 3) := by decide +kernel
theorem dX12_opens_45 : decode cX12_opens 45 = .ok (.aload_n 0, 1) := by decide +kernel
theorem dX12_opens_46 : decode cX12_opens 46 = .ok (.iload_n 1, 1) := by decide +kernel
theorem dX12_opens_47 : decode cX12_opens 47 = .ok (.iload 4, 2) := by decide +kernel
theorem dX12_opens_49 : decode cX12_opens 49 = .ok (.aload_n 0, 1) := by decide +kernel
theorem dX12_opens_50 : decode cX12_opens 50 = .ok (.iload_n 1, 1) := by decide +kernel
theorem dX12_opens_51 : decode cX12_opens 51 = .ok (.iload 4, 2) := by decide +kernel
theorem dX12_opens_53 : decode cX12_opens 53 = .ok (.iload_n 2, 1) := by decide +kernel
theorem dX12_opens_54 : decode cX12_opens 54 = .ok (.isub, 1) := by decide +kernel
theorem dX12_opens_55 : decode cX12_opens 55 = .ok (.invokevirtual 180, 3) := by decide +kernel
theorem dX12_opens_58 : decode cX12_opens 58 = .ok (.invokevirtual 170, 3) := by decide +kernel
theorem dX12_opens_61 : decode cX12_opens 61 = .ok (.iinc 4 (-1), 3) := by decide +kernel
theorem dX12_opens_64 : decode cX12_opens 64 = .ok (.goto (-28), 3) := by decide +kernel
theorem dX12_opens_67 : decode cX12_opens 67 = .ok (.aload_n 0, 1) := by decide +kernel
theorem dX12_opens_68 : decode cX12_opens 68 = .ok (.iload_n 1, 1) := by decide +kernel
theorem dX12_opens_69 : decode cX12_opens 69 = .ok (.iconst 2, 1) := by decide +kernel
theorem dX12_opens_70 : decode cX12_opens 70 = .ok (.aload_n 0, 1) := by decide +kernel
theorem dX12_opens_71 : decode cX12_opens 71 = .ok (.iload_n 1, 1) := by decide +kernel
theorem dX12_opens_72 : decode cX12_opens 72 = .ok (.iconst 2, 1) := by decide +kernel
theorem dX12_opens_73 : decode cX12_opens 73 = .ok (.invokevirtual 180, 3) := by decide +kernel
theorem dX12_opens_76 : decode cX12_opens 76 = .ok (.iconst 1, 1) := by decide +kernel
theorem dX12_opens_77 : decode cX12_opens 77 = .ok (.iadd, 1) := by decide +kernel
theorem dX12_opens_78 : decode cX12_opens 78 = .ok (.invokevirtual 170, 3) := by decide +kernel
theorem dX12_opens_81 : decode cX12_opens 81 = .ok (.return_, 1) := by decide +kernel
theorem dX12_learnsPath_0 : decode cX12_learnsPath 0 = .ok (.iconst 0, 1) := by decide +kernel
theorem dX12_learnsPath_1 : decode cX12_learnsPath 1 = .ok (.istore_n 2, 1) := by decide +kernel
theorem dX12_learnsPath_2 : decode cX12_learnsPath 2 = .ok (.iload_n 2, 1) := by decide +kernel
theorem dX12_learnsPath_3 : decode cX12_learnsPath 3 = .ok (.aload_n 0, 1) := by decide +kernel
theorem dX12_learnsPath_4 : decode cX12_learnsPath 4 = .ok (.iload_n 1, 1) := by decide +kernel
theorem dX12_learnsPath_5 : decode cX12_learnsPath 5 = .ok (.iconst 2, 1) := by decide +kernel
theorem dX12_learnsPath_6 : decode cX12_learnsPath 6 = .ok (.invokevirtual 180, 3) := by decide +kernel
theorem dX12_learnsPath_9 : decode cX12_learnsPath 9 = .ok (.if_icmp .ge 33, 3) := by decide +kernel
theorem dX12_learnsPath_12 : decode cX12_learnsPath 12 = .ok (.aload_n 0, 1) := by decide +kernel
theorem dX12_learnsPath_13 : decode cX12_learnsPath 13 = .ok (.iload_n 1, 1) := by decide +kernel
theorem dX12_learnsPath_14 : decode cX12_learnsPath 14 = .ok (.iload_n 2, 1) := by decide +kernel
theorem dX12_learnsPath_15 : decode cX12_learnsPath 15 = .ok (.invokevirtual 193, 3) := by decide +kernel
theorem dX12_learnsPath_18 : decode cX12_learnsPath 18 = .ok (.ifCond .eq 18, 3) := by decide +kernel
theorem dX12_learnsPath_21 : decode cX12_learnsPath 21 = .ok (.aload_n 0, 1) := by decide +kernel
theorem dX12_learnsPath_22 : decode cX12_learnsPath 22 = .ok (.iload_n 1, 1) := by decide +kernel
theorem dX12_learnsPath_23 : decode cX12_learnsPath 23 = .ok (.iload_n 2, 1) := by decide +kernel
theorem dX12_learnsPath_24 : decode cX12_learnsPath 24 = .ok (.bipush 9, 2) := by decide +kernel
theorem dX12_learnsPath_26 : decode cX12_learnsPath 26 = .ok (.invokevirtual 196, 3) := by decide +kernel
theorem dX12_learnsPath_29 : decode cX12_learnsPath 29 = .ok (.aload_n 0, 1) := by decide +kernel
theorem dX12_learnsPath_30 : decode cX12_learnsPath 30 = .ok (.iload_n 1, 1) := by decide +kernel
theorem dX12_learnsPath_31 : decode cX12_learnsPath 31 = .ok (.iconst 2, 1) := by decide +kernel
theorem dX12_learnsPath_32 : decode cX12_learnsPath 32 = .ok (.invokevirtual 180, 3) := by decide +kernel
theorem dX12_learnsPath_35 : decode cX12_learnsPath 35 = .ok (.istore_n 2, 1) := by decide +kernel
theorem dX12_learnsPath_36 : decode cX12_learnsPath 36 = .ok (.iinc 2 1, 3) := by decide +kernel
theorem dX12_learnsPath_39 : decode cX12_learnsPath 39 = .ok (.goto (-37), 3) := by decide +kernel
theorem dX12_learnsPath_42 : decode cX12_learnsPath 42 = .ok (.aload_n 0, 1) := by decide +kernel
theorem dX12_learnsPath_43 : decode cX12_learnsPath 43 = .ok (.iload_n 1, 1) := by decide +kernel
theorem dX12_learnsPath_44 : decode cX12_learnsPath 44 = .ok (.bipush 9, 2) := by decide +kernel
theorem dX12_learnsPath_46 : decode cX12_learnsPath 46 = .ok (.aload_n 0, 1) := by decide +kernel
theorem dX12_learnsPath_47 : decode cX12_learnsPath 47 = .ok (.getfield 7, 3) := by decide +kernel
theorem dX12_learnsPath_50 : decode cX12_learnsPath 50 = .ok (.iconst 2, 1) := by decide +kernel
theorem dX12_learnsPath_51 : decode cX12_learnsPath 51 = .ok (.iaload, 1) := by decide +kernel
theorem dX12_learnsPath_52 : decode cX12_learnsPath 52 = .ok (.invokevirtual 199, 3) := by decide +kernel
theorem dX12_learnsPath_55 : decode cX12_learnsPath 55 = .ok (.aload_n 0, 1) := by decide +kernel
theorem dX12_learnsPath_56 : decode cX12_learnsPath 56 = .ok (.iload_n 1, 1) := by decide +kernel
theorem dX12_learnsPath_57 : decode cX12_learnsPath 57 = .ok (.bipush 15, 2) := by decide +kernel
theorem dX12_learnsPath_59 : decode cX12_learnsPath 59 = .ok (.aload_n 0, 1) := by decide +kernel
theorem dX12_learnsPath_60 : decode cX12_learnsPath 60 = .ok (.getfield 186, 3) := by decide +kernel
theorem dX12_learnsPath_63 : decode cX12_learnsPath 63 = .ok (.invokevirtual 170, 3) := by decide +kernel
theorem dX12_learnsPath_66 : decode cX12_learnsPath 66 = .ok (.iconst 0, 1) := by decide +kernel
theorem dX12_learnsPath_67 : decode cX12_learnsPath 67 = .ok (.istore_n 2, 1) := by decide +kernel
theorem dX12_learnsPath_68 : decode cX12_learnsPath 68 = .ok (.iload_n 2, 1) := by decide +kernel
theorem dX12_learnsPath_69 : decode cX12_learnsPath 69 = .ok (.aload_n 0, 1) := by decide +kernel
theorem dX12_learnsPath_70 : decode cX12_learnsPath 70 = .ok (.getfield 186, 3) := by decide +kernel
theorem dX12_learnsPath_73 : decode cX12_learnsPath 73 = .ok (.if_icmp .ge 24, 3) := by decide +kernel
theorem dX12_learnsPath_76 : decode cX12_learnsPath 76 = .ok (.aload_n 0, 1) := by decide +kernel
theorem dX12_learnsPath_77 : decode cX12_learnsPath 77 = .ok (.iload_n 1, 1) := by decide +kernel
theorem dX12_learnsPath_78 : decode cX12_learnsPath 78 = .ok (.bipush 16, 2) := by decide +kernel
theorem dX12_learnsPath_80 : decode cX12_learnsPath 80 = .ok (.iload_n 2, 1) := by decide +kernel
