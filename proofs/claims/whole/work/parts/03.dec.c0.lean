theorem dX11_init_0 : decode cX11_init 0 = .ok (.aload_n 0, 1) := by decide +kernel
theorem dX11_init_1 : decode cX11_init 1 = .ok (.invokespecial 1, 3) := by decide +kernel
theorem dX11_init_4 : decode cX11_init 4 = .ok (.aload_n 0, 1) := by decide +kernel
theorem dX11_init_5 : decode cX11_init 5 = .ok (.new 7, 3) := by decide +kernel
theorem dX11_init_8 : decode cX11_init 8 = .ok (.dup, 1) := by decide +kernel
theorem dX11_init_9 : decode cX11_init 9 = .ok (.invokespecial 9, 3) := by decide +kernel
theorem dX11_init_12 : decode cX11_init 12 = .ok (.putfield 10, 3) := by decide +kernel
theorem dX11_init_15 : decode cX11_init 15 = .ok (.aload_n 0, 1) := by decide +kernel
theorem dX11_init_16 : decode cX11_init 16 = .ok (.new 16, 3) := by decide +kernel
theorem dX11_init_19 : decode cX11_init 19 = .ok (.dup, 1) := by decide +kernel
theorem dX11_init_20 : decode cX11_init 20 = .ok (.invokespecial 18, 3) := by decide +kernel
theorem dX11_init_23 : decode cX11_init 23 = .ok (.putfield 19, 3) := by decide +kernel
theorem dX11_init_26 : decode cX11_init 26 = .ok (.aload_n 0, 1) := by decide +kernel
theorem dX11_init_27 : decode cX11_init 27 = .ok (.new 23, 3) := by decide +kernel
theorem dX11_init_30 : decode cX11_init 30 = .ok (.dup, 1) := by decide +kernel
theorem dX11_init_31 : decode cX11_init 31 = .ok (.invokespecial 25, 3) := by decide +kernel
theorem dX11_init_34 : decode cX11_init 34 = .ok (.putfield 26, 3) := by decide +kernel
theorem dX11_init_37 : decode cX11_init 37 = .ok (.aload_n 0, 1) := by decide +kernel
theorem dX11_init_38 : decode cX11_init 38 = .ok (.new 23, 3) := by decide +kernel
theorem dX11_init_41 : decode cX11_init 41 = .ok (.dup, 1) := by decide +kernel
theorem dX11_init_42 : decode cX11_init 42 = .ok (.invokespecial 25, 3) := by decide +kernel
theorem dX11_init_45 : decode cX11_init 45 = .ok (.putfield 30, 3) := by decide +kernel
theorem dX11_init_48 : decode cX11_init 48 = .ok (.aload_n 0, 1) := by decide +kernel
theorem dX11_init_49 : decode cX11_init 49 = .ok (.iconst 3, 1) := by decide +kernel
theorem dX11_init_50 : decode cX11_init 50 = .ok (.anewarray 7, 3) := by decide +kernel
theorem dX11_init_53 : decode cX11_init 53 = .ok (.putfield 33, 3) := by decide +kernel
theorem dX11_init_56 : decode cX11_init 56 = .ok (.aload_n 0, 1) := by decide +kernel
theorem dX11_init_57 : decode cX11_init 57 = .ok (.iconst 3, 1) := by decide +kernel
theorem dX11_init_58 : decode cX11_init 58 = .ok (.anewarray 23, 3) := by decide +kernel
theorem dX11_init_61 : decode cX11_init 61 = .ok (.putfield 37, 3) := by decide +kernel
theorem dX11_init_64 : decode cX11_init 64 = .ok (.iconst 0, 1) := by decide +kernel
theorem dX11_init_65 : decode cX11_init 65 = .ok (.istore_n 1, 1) := by decide +kernel
theorem dX11_init_66 : decode cX11_init 66 = .ok (.iload_n 1, 1) := by decide +kernel
theorem dX11_init_67 : decode cX11_init 67 = .ok (.iconst 3, 1) := by decide +kernel
theorem dX11_init_68 : decode cX11_init 68 = .ok (.if_icmp .ge 35, 3) := by decide +kernel
theorem dX11_init_71 : decode cX11_init 71 = .ok (.aload_n 0, 1) := by decide +kernel
theorem dX11_init_72 : decode cX11_init 72 = .ok (.getfield 33, 3) := by decide +kernel
theorem dX11_init_75 : decode cX11_init 75 = .ok (.iload_n 1, 1) := by decide +kernel
theorem dX11_init_76 : decode cX11_init 76 = .ok (.new 7, 3) := by decide +kernel
theorem dX11_init_79 : decode cX11_init 79 = .ok (.dup, 1) := by decide +kernel
theorem dX11_init_80 : decode cX11_init 80 = .ok (.invokespecial 9, 3) := by decide +kernel
theorem dX11_init_83 : decode cX11_init 83 = .ok (.aastore, 1) := by decide +kernel
theorem dX11_init_84 : decode cX11_init 84 = .ok (.aload_n 0, 1) := by decide +kernel
theorem dX11_init_85 : decode cX11_init 85 = .ok (.getfield 37, 3) := by decide +kernel
theorem dX11_init_88 : decode cX11_init 88 = .ok (.iload_n 1, 1) := by decide +kernel
theorem dX11_init_89 : decode cX11_init 89 = .ok (.new 23, 3) := by decide +kernel
theorem dX11_init_92 : decode cX11_init 92 = .ok (.dup, 1) := by decide +kernel
theorem dX11_init_93 : decode cX11_init 93 = .ok (.invokespecial 25, 3) := by decide +kernel
theorem dX11_init_96 : decode cX11_init 96 = .ok (.aastore, 1) := by decide +kernel
theorem dX11_init_97 : decode cX11_init 97 = .ok (.iinc 1 1, 3) := by decide +kernel
theorem dX11_init_100 : decode cX11_init 100 = .ok (.goto (-34), 3) := by decide +kernel
theorem dX11_init_103 : decode cX11_init 103 = .ok (.aload_n 0, 1) := by decide +kernel
theorem dX11_init_104 : decode cX11_init 104 = .ok (.getfield 19, 3) := by decide +kernel
theorem dX11_init_107 : decode cX11_init 107 = .ok (.invokevirtual 41, 3) := by decide +kernel
theorem dX11_init_110 : decode cX11_init 110 = .ok (.aload_n 0, 1) := by decide +kernel
theorem dX11_init_111 : decode cX11_init 111 = .ok (.getfield 26, 3) := by decide +kernel
theorem dX11_init_114 : decode cX11_init 114 = .ok (.aload_n 0, 1) := by decide +kernel
theorem dX11_init_115 : decode cX11_init 115 = .ok (.getfield 19, 3) := by decide +kernel
theorem dX11_init_118 : decode cX11_init 118 = .ok (.invokevirtual 44, 3) := by decide +kernel
theorem dX11_init_121 : decode cX11_init 121 = .ok (.return_, 1) := by decide +kernel
theorem dX11_say_0 : decode cX11_say 0 = .ok (.aload_n 0, 1) := by decide +kernel
theorem dX11_say_1 : decode cX11_say 1 = .ok (.getfield 10, 3) := by decide +kernel
theorem dX11_say_4 : decode cX11_say 4 = .ok (.lload_n 1, 1) := by decide +kernel
theorem dX11_say_5 : decode cX11_say 5 = .ok (.invokevirtual 48, 3) := by decide +kernel
theorem dX11_say_8 : decode cX11_say 8 = .ok (.ireturn, 1) := by decide +kernel
theorem dX11_net_0 : decode cX11_net 0 = .ok (.aload_n 0, 1) := by decide +kernel
theorem dX11_net_1 : decode cX11_net 1 = .ok (.getfield 19, 3) := by decide +kernel
theorem dX11_net_4 : decode cX11_net 4 = .ok (.aload_n 0, 1) := by decide +kernel
theorem dX11_net_5 : decode cX11_net 5 = .ok (.getfield 10, 3) := by decide +kernel
theorem dX11_net_8 : decode cX11_net 8 = .ok (.invokevirtual 52, 3) := by decide +kernel
theorem dX11_net_11 : decode cX11_net 11 = .ok (.aload_n 0, 1) := by decide +kernel
theorem dX11_net_12 : decode cX11_net 12 = .ok (.getfield 10, 3) := by decide +kernel
theorem dX11_net_15 : decode cX11_net 15 = .ok (.iconst 0, 1) := by decide +kernel
theorem dX11_net_16 : decode cX11_net 16 = .ok (.putfield 56, 3) := by decide +kernel
theorem dX11_net_19 : decode cX11_net 19 = .ok (.aload_n 0, 1) := by decide +kernel
theorem dX11_net_20 : decode cX11_net 20 = .ok (.getfield 10, 3) := by decide +kernel
theorem dX11_net_23 : decode cX11_net 23 = .ok (.aload_n 0, 1) := by decide +kernel
theorem dX11_net_24 : decode cX11_net 24 = .ok (.getfield 19, 3) := by decide +kernel
theorem dX11_net_27 : decode cX11_net 27 = .ok (.getfield 60, 3) := by decide +kernel
theorem dX11_net_30 : decode cX11_net 30 = .ok (.putfield 63, 3) := by decide +kernel
theorem dX11_net_33 : decode cX11_net 33 = .ok (.aload_n 0, 1) := by decide +kernel
theorem dX11_net_34 : decode cX11_net 34 = .ok (.getfield 10, 3) := by decide +kernel
theorem dX11_net_37 : decode cX11_net 37 = .ok (.aload_n 0, 1) := by decide +kernel
theorem dX11_net_38 : decode cX11_net 38 = .ok (.getfield 19, 3) := by decide +kernel
theorem dX11_net_41 : decode cX11_net 41 = .ok (.getfield 64, 3) := by decide +kernel
theorem dX11_net_44 : decode cX11_net 44 = .ok (.putfield 67, 3) := by decide +kernel
theorem dX11_net_47 : decode cX11_net 47 = .ok (.aload_n 0, 1) := by decide +kernel
theorem dX11_net_48 : decode cX11_net 48 = .ok (.getfield 19, 3) := by decide +kernel
theorem dX11_net_51 : decode cX11_net 51 = .ok (.getfield 60, 3) := by decide +kernel
theorem dX11_net_54 : decode cX11_net 54 = .ok (.ifCond .eq 5, 3) := by decide +kernel
theorem dX11_net_57 : decode cX11_net 57 = .ok (.iconst (-1), 1) := by decide +kernel
theorem dX11_net_58 : decode cX11_net 58 = .ok (.ireturn, 1) := by decide +kernel
theorem dX11_net_59 : decode cX11_net 59 = .ok (.aload_n 0, 1) := by decide +kernel
theorem dX11_net_60 : decode cX11_net 60 = .ok (.getfield 26, 3) := by decide +kernel
theorem dX11_net_63 : decode cX11_net 63 = .ok (.aload_n 0, 1) := by decide +kernel
theorem dX11_net_64 : decode cX11_net 64 = .ok (.getfield 19, 3) := by decide +kernel
theorem dX11_net_67 : decode cX11_net 67 = .ok (.invokevirtual 44, 3) := by decide +kernel
theorem dX11_net_70 : decode cX11_net 70 = .ok (.aload_n 0, 1) := by decide +kernel
theorem dX11_net_71 : decode cX11_net 71 = .ok (.getfield 26, 3) := by decide +kernel
theorem dX11_net_74 : decode cX11_net 74 = .ok (.getfield 68, 3) := by decide +kernel
theorem dX11_net_77 : decode cX11_net 77 = .ok (.iconst 0, 1) := by decide +kernel
theorem dX11_net_78 : decode cX11_net 78 = .ok (.iaload, 1) := by decide +kernel
theorem dX11_net_79 : decode cX11_net 79 = .ok (.ireturn, 1) := by decide +kernel
theorem dX11_fault_0 : decode cX11_fault 0 = .ok (.iload_n 1, 1) := by decide +kernel
theorem dX11_fault_1 : decode cX11_fault 1 = .ok (.ifCond .eq 13, 3) := by decide +kernel
theorem dX11_fault_4 : decode cX11_fault 4 = .ok (.aload_n 0, 1) := by decide +kernel
theorem dX11_fault_5 : decode cX11_fault 5 = .ok (.getfield 10, 3) := by decide +kernel
theorem dX11_fault_8 : decode cX11_fault 8 = .ok (.getfield 67, 3) := by decide +kernel
theorem dX11_fault_11 : decode cX11_fault 11 = .ok (.goto 10, 3) := by decide +kernel
theorem dX11_fault_14 : decode cX11_fault 14 = .ok (.aload_n 0, 1) := by decide +kernel
theorem dX11_fault_15 : decode cX11_fault 15 = .ok (.getfield 10, 3) := by decide +kernel
theorem dX11_fault_18 : decode cX11_fault 18 = .ok (.getfield 63, 3) := by decide +kernel
theorem dX11_fault_21 : decode cX11_fault 21 = .ok (.ireturn, 1) := by decide +kernel
theorem dX11_send_0 : decode cX11_send 0 = .ok (.aload_n 0, 1) := by decide +kernel
theorem dX11_send_1 : decode cX11_send 1 = .ok (.getfield 26, 3) := by decide +kernel
theorem dX11_send_4 : decode cX11_send 4 = .ok (.iload_n 1, 1) := by decide +kernel
theorem dX11_send_5 : decode cX11_send 5 = .ok (.iload_n 2, 1) := by decide +kernel
theorem dX11_send_6 : decode cX11_send 6 = .ok (.invokevirtual 72, 3) := by decide +kernel
theorem dX11_send_9 : decode cX11_send 9 = .ok (.ireturn, 1) := by decide +kernel
theorem dX11_turn_0 : decode cX11_turn 0 = .ok (.aload_n 0, 1) := by decide +kernel
theorem dX11_turn_1 : decode cX11_turn 1 = .ok (.getfield 26, 3) := by decide +kernel
theorem dX11_turn_4 : decode cX11_turn 4 = .ok (.iload_n 1, 1) := by decide +kernel
theorem dX11_turn_5 : decode cX11_turn 5 = .ok (.iload_n 2, 1) := by decide +kernel
theorem dX11_turn_6 : decode cX11_turn 6 = .ok (.invokevirtual 76, 3) := by decide +kernel
theorem dX11_turn_9 : decode cX11_turn 9 = .ok (.ifCond .eq 19, 3) := by decide +kernel
theorem dX11_turn_12 : decode cX11_turn 12 = .ok (.aload_n 0, 1) := by decide +kernel
theorem dX11_turn_13 : decode cX11_turn 13 = .ok (.getfield 26, 3) := by decide +kernel
theorem dX11_turn_16 : decode cX11_turn 16 = .ok (.getfield 80, 3) := by decide +kernel
theorem dX11_turn_19 : decode cX11_turn 19 = .ok (.iload_n 1, 1) := by decide +kernel
theorem dX11_turn_20 : decode cX11_turn 20 = .ok (.iload_n 2, 1) := by decide +kernel
theorem dX11_turn_21 : decode cX11_turn 21 = .ok (.invokestatic 84, 3) := by decide +kernel
theorem dX11_turn_24 : decode cX11_turn 24 = .ok (.iload_n 3, 1) := by decide +kernel
theorem dX11_turn_25 : decode cX11_turn 25 = .ok (.if_icmp .eq 5, 3) := by decide +kernel
theorem dX11_turn_28 : decode cX11_turn 28 = .ok (.iconst 0, 1) := by decide +kernel
theorem dX11_turn_29 : decode cX11_turn 29 = .ok (.ireturn, 1) := by decide +kernel
theorem dX11_turn_30 : decode cX11_turn 30 = .ok (.aload_n 0, 1) := by decide +kernel
theorem dX11_turn_31 : decode cX11_turn 31 = .ok (.getfield 26, 3) := by decide +kernel
theorem dX11_turn_34 : decode cX11_turn 34 = .ok (.dup, 1) := by decide +kernel
theorem dX11_turn_35 : decode cX11_turn 35 = .ok (.getfield 80, 3) := by decide +kernel
theorem dX11_turn_38 : decode cX11_turn 38 = .ok (.iload_n 1, 1) := by decide +kernel
theorem dX11_turn_39 : decode cX11_turn 39 = .ok (.iload_n 2, 1) := by decide +kernel
theorem dX11_turn_40 : decode cX11_turn 40 = .ok (.invokestatic 90, 3) := by decide +kernel
theorem dX11_turn_43 : decode cX11_turn 43 = .ok (.lxor, 1) := by decide +kernel
theorem dX11_turn_44 : decode cX11_turn 44 = .ok (.putfield 80, 3) := by decide +kernel
theorem dX11_turn_47 : decode cX11_turn 47 = .ok (.iconst 1, 1) := by decide +kernel
theorem dX11_turn_48 : decode cX11_turn 48 = .ok (.ireturn, 1) := by decide +kernel
theorem dX11_ticks_0 : decode cX11_ticks 0 = .ok (.iload_n 1, 1) := by decide +kernel
theorem dX11_ticks_1 : decode cX11_ticks 1 = .ok (.iconst 1, 1) := by decide +kernel
theorem dX11_ticks_2 : decode cX11_ticks 2 = .ok (.if_icmp .lt 24, 3) := by decide +kernel
theorem dX11_ticks_5 : decode cX11_ticks 5 = .ok (.iload_n 1, 1) := by decide +kernel
theorem dX11_ticks_6 : decode cX11_ticks 6 = .ok (.bipush 6, 2) := by decide +kernel
theorem dX11_ticks_8 : decode cX11_ticks 8 = .ok (.if_icmp .gt 18, 3) := by decide +kernel
theorem dX11_ticks_11 : decode cX11_ticks 11 = .ok (.aload_n 0, 1) := by decide +kernel
theorem dX11_ticks_12 : decode cX11_ticks 12 = .ok (.getfield 26, 3) := by decide +kernel
theorem dX11_ticks_15 : decode cX11_ticks 15 = .ok (.getfield 94, 3) := by decide +kernel
theorem dX11_ticks_18 : decode cX11_ticks 18 = .ok (.iload_n 1, 1) := by decide +kernel
theorem dX11_ticks_19 : decode cX11_ticks 19 = .ok (.iadd, 1) := by decide +kernel
theorem dX11_ticks_20 : decode cX11_ticks 20 = .ok (.sipush 900, 3) := by decide +kernel
theorem dX11_ticks_23 : decode cX11_ticks 23 = .ok (.if_icmp .le 5, 3) := by decide +kernel
theorem dX11_ticks_26 : decode cX11_ticks 26 = .ok (.iconst (-1), 1) := by decide +kernel
theorem dX11_ticks_27 : decode cX11_ticks 27 = .ok (.ireturn, 1) := by decide +kernel
theorem dX11_ticks_28 : decode cX11_ticks 28 = .ok (.iconst 0, 1) := by decide +kernel
theorem dX11_ticks_29 : decode cX11_ticks 29 = .ok (.istore_n 2, 1) := by decide +kernel
theorem dX11_ticks_30 : decode cX11_ticks 30 = .ok (.iload_n 2, 1) := by decide +kernel
theorem dX11_ticks_31 : decode cX11_ticks 31 = .ok (.iload_n 1, 1) := by decide +kernel
theorem dX11_ticks_32 : decode cX11_ticks 32 = .ok (.if_icmp .ge 17, 3) := by decide +kernel
theorem dX11_ticks_35 : decode cX11_ticks 35 = .ok (.aload_n 0, 1) := by decide +kernel
theorem dX11_ticks_36 : decode cX11_ticks 36 = .ok (.getfield 26, 3) := by decide +kernel
theorem dX11_ticks_39 : decode cX11_ticks 39 = .ok (.iconst 0, 1) := by decide +kernel
theorem dX11_ticks_40 : decode cX11_ticks 40 = .ok (.invokevirtual 97, 3) := by decide +kernel
theorem dX11_ticks_43 : decode cX11_ticks 43 = .ok (.iinc 2 1, 3) := by decide +kernel
theorem dX11_ticks_46 : decode cX11_ticks 46 = .ok (.goto (-16), 3) := by decide +kernel
theorem dX11_ticks_49 : decode cX11_ticks 49 = .ok (.aload_n 0, 1) := by decide +kernel
theorem dX11_ticks_50 : decode cX11_ticks 50 = .ok (.getfield 26, 3) := by decide +kernel
theorem dX11_ticks_53 : decode cX11_ticks 53 = .ok (.getfield 94, 3) := by decide +kernel
theorem dX11_ticks_56 : decode cX11_ticks 56 = .ok (.ireturn, 1) := by decide +kernel
theorem dX11_has_0 : decode cX11_has 0 = .ok (.iload_n 1, 1) := by decide +kernel
theorem dX11_has_1 : decode cX11_has 1 = .ok (.ifCond .lt 19, 3) := by decide +kernel
theorem dX11_has_4 : decode cX11_has 4 = .ok (.iload_n 1, 1) := by decide +kernel
theorem dX11_has_5 : decode cX11_has 5 = .ok (.bipush 8, 2) := by decide +kernel
theorem dX11_has_7 : decode cX11_has 7 = .ok (.if_icmp .ge 13, 3) := by decide +kernel
theorem dX11_has_10 : decode cX11_has 10 = .ok (.aload_n 0, 1) := by decide +kernel
theorem dX11_has_11 : decode cX11_has 11 = .ok (.getfield 26, 3) := by decide +kernel
theorem dX11_has_14 : decode cX11_has 14 = .ok (.getfield 68, 3) := by decide +kernel
theorem dX11_has_17 : decode cX11_has 17 = .ok (.iload_n 1, 1) := by decide +kernel
theorem dX11_has_18 : decode cX11_has 18 = .ok (.iaload, 1) := by decide +kernel
theorem dX11_has_19 : decode cX11_has 19 = .ok (.ireturn, 1) := by decide +kernel
theorem dX11_has_20 : decode cX11_has 20 = .ok (.iload_n 1, 1) := by decide +kernel
theorem dX11_has_21 : decode cX11_has 21 = .ok (.tableswitch 66 8 11 #[31, 39, 47, 58], 31) := by decide +kernel
theorem dX11_has_52 : decode cX11_has 52 = .ok (.aload_n 0, 1) := by decide +kernel
theorem dX11_has_53 : decode cX11_has 53 = .ok (.getfield 26, 3) := by decide +kernel
theorem dX11_has_56 : decode cX11_has 56 = .ok (.getfield 94, 3) := by decide +kernel
theorem dX11_has_59 : decode cX11_has 59 = .ok (.ireturn, 1) := by decide +kernel
theorem dX11_has_60 : decode cX11_has 60 = .ok (.aload_n 0, 1) := by decide +kernel
theorem dX11_has_61 : decode cX11_has 61 = .ok (.getfield 26, 3) := by decide +kernel
theorem dX11_has_64 : decode cX11_has 64 = .ok (.getfield 101, 3) := by decide +kernel
theorem dX11_has_67 : decode cX11_has 67 = .ok (.ireturn, 1) := by decide +kernel
theorem dX11_has_68 : decode cX11_has 68 = .ok (.aload_n 0, 1) := by decide +kernel
theorem dX11_has_69 : decode cX11_has 69 = .ok (.getfield 26, 3) := by decide +kernel
theorem dX11_has_72 : decode cX11_has 72 = .ok (.getfield 104, 3) := by decide +kernel
theorem dX11_has_75 : decode cX11_has 75 = .ok (.getfield 108, 3) := by decide +kernel
theorem dX11_has_78 : decode cX11_has 78 = .ok (.ireturn, 1) := by decide +kernel
theorem dX11_has_79 : decode cX11_has 79 = .ok (.aload_n 0, 1) := by decide +kernel
theorem dX11_has_80 : decode cX11_has 80 = .ok (.getfield 10, 3) := by decide +kernel
theorem dX11_has_83 : decode cX11_has 83 = .ok (.getfield 56, 3) := by decide +kernel
theorem dX11_has_86 : decode cX11_has 86 = .ok (.ireturn, 1) := by decide +kernel
theorem dX11_has_87 : decode cX11_has 87 = .ok (.iconst (-1), 1) := by decide +kernel
theorem dX11_has_88 : decode cX11_has 88 = .ok (.ireturn, 1) := by decide +kernel
theorem dX11_node_0 : decode cX11_node 0 = .ok (.aload_n 0, 1) := by decide +kernel
theorem dX11_node_1 : decode cX11_node 1 = .ok (.getfield 26, 3) := by decide +kernel
theorem dX11_node_4 : decode cX11_node 4 = .ok (.iload_n 1, 1) := by decide +kernel
theorem dX11_node_5 : decode cX11_node 5 = .ok (.invokevirtual 111, 3) := by decide +kernel
theorem dX11_node_8 : decode cX11_node 8 = .ok (.ifCond .eq 15, 3) := by decide +kernel
theorem dX11_node_11 : decode cX11_node 11 = .ok (.aload_n 0, 1) := by decide +kernel
theorem dX11_node_12 : decode cX11_node 12 = .ok (.getfield 26, 3) := by decide +kernel
theorem dX11_node_15 : decode cX11_node 15 = .ok (.iload_n 1, 1) := by decide +kernel
theorem dX11_node_16 : decode cX11_node 16 = .ok (.iload_n 2, 1) := by decide +kernel
theorem dX11_node_17 : decode cX11_node 17 = .ok (.invokevirtual 115, 3) := by decide +kernel
theorem dX11_node_20 : decode cX11_node 20 = .ok (.goto 5, 3) := by decide +kernel
theorem dX11_node_23 : decode cX11_node 23 = .ok (.bipush (-2), 2) := by decide +kernel
theorem dX11_node_25 : decode cX11_node 25 = .ok (.ireturn, 1) := by decide +kernel
theorem dX11_kept_0 : decode cX11_kept 0 = .ok (.aload_n 0, 1) := by decide +kernel
theorem dX11_kept_1 : decode cX11_kept 1 = .ok (.getfield 26, 3) := by decide +kernel
theorem dX11_kept_4 : decode cX11_kept 4 = .ok (.iload_n 1, 1) := by decide +kernel
theorem dX11_kept_5 : decode cX11_kept 5 = .ok (.invokevirtual 111, 3) := by decide +kernel
theorem dX11_kept_8 : decode cX11_kept 8 = .ok (.ifCond .eq 28, 3) := by decide +kernel
theorem dX11_kept_11 : decode cX11_kept 11 = .ok (.aload_n 0, 1) := by decide +kernel
theorem dX11_kept_12 : decode cX11_kept 12 = .ok (.getfield 26, 3) := by decide +kernel
theorem dX11_kept_15 : decode cX11_kept 15 = .ok (.iload_n 1, 1) := by decide +kernel
theorem dX11_kept_16 : decode cX11_kept 16 = .ok (.invokevirtual 118, 3) := by decide +kernel
theorem dX11_kept_19 : decode cX11_kept 19 = .ok (.getfield 122, 3) := by decide +kernel
theorem dX11_kept_22 : decode cX11_kept 22 = .ok (.getfield 128, 3) := by decide +kernel
theorem dX11_kept_25 : decode cX11_kept 25 = .ok (.iload_n 2, 1) := by decide +kernel
theorem dX11_kept_26 : decode cX11_kept 26 = .ok (.invokevirtual 134, 3) := by decide +kernel
theorem dX11_kept_29 : decode cX11_kept 29 = .ok (.iload_n 3, 1) := by decide +kernel
theorem dX11_kept_30 : decode cX11_kept 30 = .ok (.invokestatic 140, 3) := by decide +kernel
theorem dX11_kept_33 : decode cX11_kept 33 = .ok (.goto 4, 3) := by decide +kernel
theorem dX11_kept_36 : decode cX11_kept 36 = .ok (.iconst (-1), 1) := by decide +kernel
theorem dX11_kept_37 : decode cX11_kept 37 = .ok (.ireturn, 1) := by decide +kernel
theorem dX11_seen_0 : decode cX11_seen 0 = .ok (.aload_n 0, 1) := by decide +kernel
theorem dX11_seen_1 : decode cX11_seen 1 = .ok (.getfield 26, 3) := by decide +kernel
theorem dX11_seen_4 : decode cX11_seen 4 = .ok (.iload_n 1, 1) := by decide +kernel
theorem dX11_seen_5 : decode cX11_seen 5 = .ok (.invokevirtual 111, 3) := by decide +kernel
theorem dX11_seen_8 : decode cX11_seen 8 = .ok (.ifCond .eq 25, 3) := by decide +kernel
theorem dX11_seen_11 : decode cX11_seen 11 = .ok (.iload_n 2, 1) := by decide +kernel
theorem dX11_seen_12 : decode cX11_seen 12 = .ok (.ifCond .lt 21, 3) := by decide +kernel
theorem dX11_seen_15 : decode cX11_seen 15 = .ok (.iload_n 2, 1) := by decide +kernel
theorem dX11_seen_16 : decode cX11_seen 16 = .ok (.aload_n 0, 1) := by decide +kernel
theorem dX11_seen_17 : decode cX11_seen 17 = .ok (.getfield 26, 3) := by decide +kernel
theorem dX11_seen_20 : decode cX11_seen 20 = .ok (.iload_n 1, 1) := by decide +kernel
theorem dX11_seen_21 : decode cX11_seen 21 = .ok (.invokevirtual 118, 3) := by decide +kernel
theorem dX11_seen_24 : decode cX11_seen 24 = .ok (.getfield 146, 3) := by decide +kernel
theorem dX11_seen_27 : decode cX11_seen 27 = .ok (.getfield 149, 3) := by decide +kernel
theorem dX11_seen_30 : decode cX11_seen 30 = .ok (.if_icmp .lt 5, 3) := by decide +kernel
theorem dX11_seen_33 : decode cX11_seen 33 = .ok (.iconst (-1), 1) := by decide +kernel
theorem dX11_seen_34 : decode cX11_seen 34 = .ok (.ireturn, 1) := by decide +kernel
theorem dX11_seen_35 : decode cX11_seen 35 = .ok (.aload_n 0, 1) := by decide +kernel
theorem dX11_seen_36 : decode cX11_seen 36 = .ok (.getfield 26, 3) := by decide +kernel
theorem dX11_seen_39 : decode cX11_seen 39 = .ok (.iload_n 1, 1) := by decide +kernel
theorem dX11_seen_40 : decode cX11_seen 40 = .ok (.invokevirtual 118, 3) := by decide +kernel
theorem dX11_seen_43 : decode cX11_seen 43 = .ok (.getfield 146, 3) := by decide +kernel
theorem dX11_seen_46 : decode cX11_seen 46 = .ok (.iload_n 2, 1) := by decide +kernel
theorem dX11_seen_47 : decode cX11_seen 47 = .ok (.invokevirtual 134, 3) := by decide +kernel
theorem dX11_seen_50 : decode cX11_seen 50 = .ok (.l2i, 1) := by decide +kernel
theorem dX11_seen_51 : decode cX11_seen 51 = .ok (.ireturn, 1) := by decide +kernel
theorem dX11_waits_0 : decode cX11_waits 0 = .ok (.aload_n 0, 1) := by decide +kernel
theorem dX11_waits_1 : decode cX11_waits 1 = .ok (.getfield 26, 3) := by decide +kernel
theorem dX11_waits_4 : decode cX11_waits 4 = .ok (.iload_n 1, 1) := by decide +kernel
theorem dX11_waits_5 : decode cX11_waits 5 = .ok (.invokevirtual 111, 3) := by decide +kernel
theorem dX11_waits_8 : decode cX11_waits 8 = .ok (.ifCond .eq 18, 3) := by decide +kernel
theorem dX11_waits_11 : decode cX11_waits 11 = .ok (.aload_n 0, 1) := by decide +kernel
theorem dX11_waits_12 : decode cX11_waits 12 = .ok (.getfield 26, 3) := by decide +kernel
theorem dX11_waits_15 : decode cX11_waits 15 = .ok (.iload_n 1, 1) := by decide +kernel
theorem dX11_waits_16 : decode cX11_waits 16 = .ok (.invokevirtual 118, 3) := by decide +kernel
theorem dX11_waits_19 : decode cX11_waits 19 = .ok (.iload_n 2, 1) := by decide +kernel
theorem dX11_waits_20 : decode cX11_waits 20 = .ok (.invokevirtual 150, 3) := by decide +kernel
theorem dX11_waits_23 : decode cX11_waits 23 = .ok (.goto 4, 3) := by decide +kernel
theorem dX11_waits_26 : decode cX11_waits 26 = .ok (.iconst (-1), 1) := by decide +kernel
theorem dX11_waits_27 : decode cX11_waits 27 = .ok (.ireturn, 1) := by decide +kernel
theorem dX11_way_0 : decode cX11_way 0 = .ok (.aload_n 0, 1) := by decide +kernel
theorem dX11_way_1 : decode cX11_way 1 = .ok (.getfield 26, 3) := by decide +kernel
theorem dX11_way_4 : decode cX11_way 4 = .ok (.iload_n 1, 1) := by decide +kernel
theorem dX11_way_5 : decode cX11_way 5 = .ok (.iload_n 2, 1) := by decide +kernel
theorem dX11_way_6 : decode cX11_way 6 = .ok (.invokevirtual 154, 3) := by decide +kernel
theorem dX11_way_9 : decode cX11_way 9 = .ok (.iload_n 3, 1) := by decide +kernel
theorem dX11_way_10 : decode cX11_way 10 = .ok (.invokestatic 140, 3) := by decide +kernel
theorem dX11_way_13 : decode cX11_way 13 = .ok (.ireturn, 1) := by decide +kernel
theorem dX11_hops_0 : decode cX11_hops 0 = .ok (.aload_n 0, 1) := by decide +kernel
theorem dX11_hops_1 : decode cX11_hops 1 = .ok (.getfield 26, 3) := by decide +kernel
theorem dX11_hops_4 : decode cX11_hops 4 = .ok (.iload_n 1, 1) := by decide +kernel
theorem dX11_hops_5 : decode cX11_hops 5 = .ok (.iload_n 2, 1) := by decide +kernel
theorem dX11_hops_6 : decode cX11_hops 6 = .ok (.invokevirtual 154, 3) := by decide +kernel
theorem dX11_hops_9 : decode cX11_hops 9 = .ok (.lstore_n 3, 1) := by decide +kernel
theorem dX11_hops_10 : decode cX11_hops 10 = .ok (.lload_n 3, 1) := by decide +kernel
theorem dX11_hops_11 : decode cX11_hops 11 = .ok (.lconst 0, 1) := by decide +kernel
theorem dX11_hops_12 : decode cX11_hops 12 = .ok (.lcmp, 1) := by decide +kernel
theorem dX11_hops_13 : decode cX11_hops 13 = .ok (.ifCond .ne 7, 3) := by decide +kernel
theorem dX11_hops_16 : decode cX11_hops 16 = .ok (.iconst (-1), 1) := by decide +kernel
theorem dX11_hops_17 : decode cX11_hops 17 = .ok (.goto 9, 3) := by decide +kernel
theorem dX11_hops_20 : decode cX11_hops 20 = .ok (.lload_n 3, 1) := by decide +kernel
theorem dX11_hops_21 : decode cX11_hops 21 = .ok (.invokestatic 157, 3) := by decide +kernel
theorem dX11_hops_24 : decode cX11_hops 24 = .ok (.iconst 1, 1) := by decide +kernel
theorem dX11_hops_25 : decode cX11_hops 25 = .ok (.isub, 1) := by decide +kernel
theorem dX11_hops_26 : decode cX11_hops 26 = .ok (.ireturn, 1) := by decide +kernel
theorem dX11_data_0 : decode cX11_data 0 = .ok (.aload_n 0, 1) := by decide +kernel
theorem dX11_data_1 : decode cX11_data 1 = .ok (.getfield 26, 3) := by decide +kernel
theorem dX11_data_4 : decode cX11_data 4 = .ok (.iload_n 1, 1) := by decide +kernel
theorem dX11_data_5 : decode cX11_data 5 = .ok (.iload_n 2, 1) := by decide +kernel
theorem dX11_data_6 : decode cX11_data 6 = .ok (.invokevirtual 160, 3) := by decide +kernel
theorem dX11_data_9 : decode cX11_data 9 = .ok (.ireturn, 1) := by decide +kernel
theorem dX11_trail_0 : decode cX11_trail 0 = .ok (.iload_n 1, 1) := by decide +kernel
theorem dX11_trail_1 : decode cX11_trail 1 = .ok (.ifCond .lt 14, 3) := by decide +kernel
theorem dX11_trail_4 : decode cX11_trail 4 = .ok (.iload_n 1, 1) := by decide +kernel
theorem dX11_trail_5 : decode cX11_trail 5 = .ok (.aload_n 0, 1) := by decide +kernel
theorem dX11_trail_6 : decode cX11_trail 6 = .ok (.getfield 26, 3) := by decide +kernel
theorem dX11_trail_9 : decode cX11_trail 9 = .ok (.getfield 101, 3) := by decide +kernel
theorem dX11_trail_12 : decode cX11_trail 12 = .ok (.if_icmp .lt 5, 3) := by decide +kernel
theorem dX11_trail_15 : decode cX11_trail 15 = .ok (.iconst (-1), 1) := by decide +kernel
theorem dX11_trail_16 : decode cX11_trail 16 = .ok (.ireturn, 1) := by decide +kernel
theorem dX11_trail_17 : decode cX11_trail 17 = .ok (.aload_n 0, 1) := by decide +kernel
theorem dX11_trail_18 : decode cX11_trail 18 = .ok (.getfield 26, 3) := by decide +kernel
theorem dX11_trail_21 : decode cX11_trail 21 = .ok (.iload_n 1, 1) := by decide +kernel
theorem dX11_trail_22 : decode cX11_trail 22 = .ok (.invokevirtual 163, 3) := by decide +kernel
theorem dX11_trail_25 : decode cX11_trail 25 = .ok (.astore 4, 2) := by decide +kernel
theorem dX11_trail_27 : decode cX11_trail 27 = .ok (.iload_n 3, 1) := by decide +kernel
theorem dX11_trail_28 : decode cX11_trail 28 = .ok (.ifCond .eq 11, 3) := by decide +kernel
theorem dX11_trail_31 : decode cX11_trail 31 = .ok (.aload 4, 2) := by decide +kernel
theorem dX11_trail_33 : decode cX11_trail 33 = .ok (.getfield 167, 3) := by decide +kernel
theorem dX11_trail_36 : decode cX11_trail 36 = .ok (.goto 8, 3) := by decide +kernel
theorem dX11_trail_39 : decode cX11_trail 39 = .ok (.aload 4, 2) := by decide +kernel
theorem dX11_trail_41 : decode cX11_trail 41 = .ok (.getfield 172, 3) := by decide +kernel
theorem dX11_trail_44 : decode cX11_trail 44 = .ok (.iload_n 2, 1) := by decide +kernel
theorem dX11_trail_45 : decode cX11_trail 45 = .ok (.invokestatic 140, 3) := by decide +kernel
theorem dX11_trail_48 : decode cX11_trail 48 = .ok (.ireturn, 1) := by decide +kernel
theorem dX11_air_0 : decode cX11_air 0 = .ok (.aload_n 0, 1) := by decide +kernel
theorem dX11_air_1 : decode cX11_air 1 = .ok (.getfield 26, 3) := by decide +kernel
theorem dX11_air_4 : decode cX11_air 4 = .ok (.getfield 104, 3) := by decide +kernel
theorem dX11_air_7 : decode cX11_air 7 = .ok (.iload_n 1, 1) := by decide +kernel
theorem dX11_air_8 : decode cX11_air 8 = .ok (.invokevirtual 175, 3) := by decide +kernel
theorem dX11_air_11 : decode cX11_air 11 = .ok (.astore_n 3, 1) := by decide +kernel
theorem dX11_air_12 : decode cX11_air 12 = .ok (.aload_n 3, 1) := by decide +kernel
theorem dX11_air_13 : decode cX11_air 13 = .ok (.ifnonnull 6, 3) := by decide +kernel
theorem dX11_air_16 : decode cX11_air 16 = .ok (.bipush (-2), 2) := by decide +kernel
theorem dX11_air_18 : decode cX11_air 18 = .ok (.ireturn, 1) := by decide +kernel
theorem dX11_air_19 : decode cX11_air 19 = .ok (.iload_n 2, 1) := by decide +kernel
theorem dX11_air_20 : decode cX11_air 20 = .ok (.tableswitch 70 0 5 #[40, 45, 50, 55, 60, 65], 40) := by decide +kernel
theorem dX11_air_60 : decode cX11_air 60 = .ok (.aload_n 3, 1) := by decide +kernel
theorem dX11_air_61 : decode cX11_air 61 = .ok (.getfield 179, 3) := by decide +kernel
theorem dX11_air_64 : decode cX11_air 64 = .ok (.ireturn, 1) := by decide +kernel
theorem dX11_air_65 : decode cX11_air 65 = .ok (.aload_n 3, 1) := by decide +kernel
theorem dX11_air_66 : decode cX11_air 66 = .ok (.getfield 184, 3) := by decide +kernel
theorem dX11_air_69 : decode cX11_air 69 = .ok (.ireturn, 1) := by decide +kernel
theorem dX11_air_70 : decode cX11_air 70 = .ok (.aload_n 3, 1) := by decide +kernel
theorem dX11_air_71 : decode cX11_air 71 = .ok (.getfield 187, 3) := by decide +kernel
theorem dX11_air_74 : decode cX11_air 74 = .ok (.ireturn, 1) := by decide +kernel
theorem dX11_air_75 : decode cX11_air 75 = .ok (.aload_n 3, 1) := by decide +kernel
theorem dX11_air_76 : decode cX11_air 76 = .ok (.getfield 190, 3) := by decide +kernel
theorem dX11_air_79 : decode cX11_air 79 = .ok (.ireturn, 1) := by decide +kernel
theorem dX11_air_80 : decode cX11_air 80 = .ok (.aload_n 3, 1) := by decide +kernel
theorem dX11_air_81 : decode cX11_air 81 = .ok (.getfield 193, 3) := by decide +kernel
theorem dX11_air_84 : decode cX11_air 84 = .ok (.ireturn, 1) := by decide +kernel
theorem dX11_air_85 : decode cX11_air 85 = .ok (.aload_n 3, 1) := by decide +kernel
theorem dX11_air_86 : decode cX11_air 86 = .ok (.getfield 196, 3) := by decide +kernel
theorem dX11_air_89 : decode cX11_air 89 = .ok (.ireturn, 1) := by decide +kernel
theorem dX11_air_90 : decode cX11_air 90 = .ok (.bipush (-2), 2) := by decide +kernel
theorem dX11_air_92 : decode cX11_air 92 = .ok (.ireturn, 1) := by decide +kernel
theorem dX11_row_0 : decode cX11_row 0 = .ok (.aload_n 0, 1) := by decide +kernel
theorem dX11_row_1 : decode cX11_row 1 = .ok (.getfield 26, 3) := by decide +kernel
theorem dX11_row_4 : decode cX11_row 4 = .ok (.getfield 104, 3) := by decide +kernel
theorem dX11_row_7 : decode cX11_row 7 = .ok (.iload_n 1, 1) := by decide +kernel
theorem dX11_row_8 : decode cX11_row 8 = .ok (.invokevirtual 175, 3) := by decide +kernel
theorem dX11_row_11 : decode cX11_row 11 = .ok (.astore_n 3, 1) := by decide +kernel
theorem dX11_row_12 : decode cX11_row 12 = .ok (.aload_n 3, 1) := by decide +kernel
theorem dX11_row_13 : decode cX11_row 13 = .ok (.ifnonnull 7, 3) := by decide +kernel
theorem dX11_row_16 : decode cX11_row 16 = .ok (.iconst (-1), 1) := by decide +kernel
theorem dX11_row_17 : decode cX11_row 17 = .ok (.goto 11, 3) := by decide +kernel
theorem dX11_row_20 : decode cX11_row 20 = .ok (.aload_n 3, 1) := by decide +kernel
theorem dX11_row_21 : decode cX11_row 21 = .ok (.getfield 199, 3) := by decide +kernel
theorem dX11_row_24 : decode cX11_row 24 = .ok (.iload_n 2, 1) := by decide +kernel
theorem dX11_row_25 : decode cX11_row 25 = .ok (.invokestatic 140, 3) := by decide +kernel
theorem dX11_row_28 : decode cX11_row 28 = .ok (.ireturn, 1) := by decide +kernel
theorem dX11_tally_0 : decode cX11_tally 0 = .ok (.iload_n 1, 1) := by decide +kernel
theorem dX11_tally_1 : decode cX11_tally 1 = .ok (.ifCond .lt 21, 3) := by decide +kernel
theorem dX11_tally_4 : decode cX11_tally 4 = .ok (.iload_n 1, 1) := by decide +kernel
theorem dX11_tally_5 : decode cX11_tally 5 = .ok (.bipush 11, 2) := by decide +kernel
theorem dX11_tally_7 : decode cX11_tally 7 = .ok (.if_icmp .ge 15, 3) := by decide +kernel
theorem dX11_tally_10 : decode cX11_tally 10 = .ok (.aload_n 0, 1) := by decide +kernel
theorem dX11_tally_11 : decode cX11_tally 11 = .ok (.getfield 26, 3) := by decide +kernel
theorem dX11_tally_14 : decode cX11_tally 14 = .ok (.getfield 202, 3) := by decide +kernel
theorem dX11_tally_17 : decode cX11_tally 17 = .ok (.iload_n 1, 1) := by decide +kernel
theorem dX11_tally_18 : decode cX11_tally 18 = .ok (.iaload, 1) := by decide +kernel
theorem dX11_tally_19 : decode cX11_tally 19 = .ok (.goto 4, 3) := by decide +kernel
theorem dX11_tally_22 : decode cX11_tally 22 = .ok (.iconst (-1), 1) := by decide +kernel
theorem dX11_tally_23 : decode cX11_tally 23 = .ok (.ireturn, 1) := by decide +kernel
theorem dX11_far_0 : decode cX11_far 0 = .ok (.aload_n 0, 1) := by decide +kernel
theorem dX11_far_1 : decode cX11_far 1 = .ok (.getfield 26, 3) := by decide +kernel
theorem dX11_far_4 : decode cX11_far 4 = .ok (.iload_n 1, 1) := by decide +kernel
theorem dX11_far_5 : decode cX11_far 5 = .ok (.invokevirtual 111, 3) := by decide +kernel
theorem dX11_far_8 : decode cX11_far 8 = .ok (.ifCond .eq 29, 3) := by decide +kernel
theorem dX11_far_11 : decode cX11_far 11 = .ok (.aload_n 0, 1) := by decide +kernel
theorem dX11_far_12 : decode cX11_far 12 = .ok (.getfield 26, 3) := by decide +kernel
theorem dX11_far_15 : decode cX11_far 15 = .ok (.iload_n 2, 1) := by decide +kernel
theorem dX11_far_16 : decode cX11_far 16 = .ok (.invokevirtual 111, 3) := by decide +kernel
theorem dX11_far_19 : decode cX11_far 19 = .ok (.ifCond .eq 18, 3) := by decide +kernel
theorem dX11_far_22 : decode cX11_far 22 = .ok (.aload_n 0, 1) := by decide +kernel
theorem dX11_far_23 : decode cX11_far 23 = .ok (.getfield 26, 3) := by decide +kernel
theorem dX11_far_26 : decode cX11_far 26 = .ok (.getfield 80, 3) := by decide +kernel
theorem dX11_far_29 : decode cX11_far 29 = .ok (.iload_n 1, 1) := by decide +kernel
theorem dX11_far_30 : decode cX11_far 30 = .ok (.iload_n 2, 1) := by decide +kernel
theorem dX11_far_31 : decode cX11_far 31 = .ok (.invokestatic 205, 3) := by decide +kernel
theorem dX11_far_34 : decode cX11_far 34 = .ok (.goto 4, 3) := by decide +kernel
theorem dX11_far_37 : decode cX11_far 37 = .ok (.iconst (-1), 1) := by decide +kernel
theorem dX11_far_38 : decode cX11_far 38 = .ok (.ireturn, 1) := by decide +kernel
theorem dX11_holders_0 : decode cX11_holders 0 = .ok (.aload_n 0, 1) := by decide +kernel
theorem dX11_holders_1 : decode cX11_holders 1 = .ok (.getfield 26, 3) := by decide +kernel
theorem dX11_holders_4 : decode cX11_holders 4 = .ok (.iload_n 1, 1) := by decide +kernel
theorem dX11_holders_5 : decode cX11_holders 5 = .ok (.iload_n 2, 1) := by decide +kernel
theorem dX11_holders_6 : decode cX11_holders 6 = .ok (.invokevirtual 76, 3) := by decide +kernel
theorem dX11_holders_9 : decode cX11_holders 9 = .ok (.ifCond .ne 5, 3) := by decide +kernel
theorem dX11_holders_12 : decode cX11_holders 12 = .ok (.iconst (-1), 1) := by decide +kernel
theorem dX11_holders_13 : decode cX11_holders 13 = .ok (.ireturn, 1) := by decide +kernel
theorem dX11_holders_14 : decode cX11_holders 14 = .ok (.iconst 0, 1) := by decide +kernel
theorem dX11_holders_15 : decode cX11_holders 15 = .ok (.istore_n 3, 1) := by decide +kernel
theorem dX11_holders_16 : decode cX11_holders 16 = .ok (.iconst 0, 1) := by decide +kernel
theorem dX11_holders_17 : decode cX11_holders 17 = .ok (.istore 4, 2) := by decide +kernel
theorem dX11_holders_19 : decode cX11_holders 19 = .ok (.iload 4, 2) := by decide +kernel
theorem dX11_holders_21 : decode cX11_holders 21 = .ok (.bipush 8, 2) := by decide +kernel
theorem dX11_holders_23 : decode cX11_holders 23 = .ok (.if_icmp .ge 39, 3) := by decide +kernel
theorem dX11_holders_26 : decode cX11_holders 26 = .ok (.aload_n 0, 1) := by decide +kernel
theorem dX11_holders_27 : decode cX11_holders 27 = .ok (.getfield 26, 3) := by decide +kernel
theorem dX11_holders_30 : decode cX11_holders 30 = .ok (.iload 4, 2) := by decide +kernel
theorem dX11_holders_32 : decode cX11_holders 32 = .ok (.invokevirtual 118, 3) := by decide +kernel
theorem dX11_holders_35 : decode cX11_holders 35 = .ok (.getfield 122, 3) := by decide +kernel
theorem dX11_holders_38 : decode cX11_holders 38 = .ok (.invokevirtual 209, 3) := by decide +kernel
theorem dX11_holders_41 : decode cX11_holders 41 = .ok (.iload_n 1, 1) := by decide +kernel
theorem dX11_holders_42 : decode cX11_holders 42 = .ok (.iload_n 2, 1) := by decide +kernel
theorem dX11_holders_43 : decode cX11_holders 43 = .ok (.invokestatic 84, 3) := by decide +kernel
theorem dX11_holders_46 : decode cX11_holders 46 = .ok (.ifCond .eq 10, 3) := by decide +kernel
theorem dX11_holders_49 : decode cX11_holders 49 = .ok (.iload_n 3, 1) := by decide +kernel
theorem dX11_holders_50 : decode cX11_holders 50 = .ok (.iconst 1, 1) := by decide +kernel
theorem dX11_holders_51 : decode cX11_holders 51 = .ok (.iload 4, 2) := by decide +kernel
theorem dX11_holders_53 : decode cX11_holders 53 = .ok (.ishl, 1) := by decide +kernel
theorem dX11_holders_54 : decode cX11_holders 54 = .ok (.ior, 1) := by decide +kernel
theorem dX11_holders_55 : decode cX11_holders 55 = .ok (.istore_n 3, 1) := by decide +kernel
theorem dX11_holders_56 : decode cX11_holders 56 = .ok (.iinc 4 1, 3) := by decide +kernel
theorem dX11_holders_59 : decode cX11_holders 59 = .ok (.goto (-40), 3) := by decide +kernel
theorem dX11_holders_62 : decode cX11_holders 62 = .ok (.iload_n 3, 1) := by decide +kernel
theorem dX11_holders_63 : decode cX11_holders 63 = .ok (.ireturn, 1) := by decide +kernel
theorem dX11_stale_0 : decode cX11_stale 0 = .ok (.aload_n 0, 1) := by decide +kernel
theorem dX11_stale_1 : decode cX11_stale 1 = .ok (.getfield 26, 3) := by decide +kernel
theorem dX11_stale_4 : decode cX11_stale 4 = .ok (.iload_n 1, 1) := by decide +kernel
theorem dX11_stale_5 : decode cX11_stale 5 = .ok (.invokevirtual 111, 3) := by decide +kernel
theorem dX11_stale_8 : decode cX11_stale 8 = .ok (.ifCond .ne 5, 3) := by decide +kernel
theorem dX11_stale_11 : decode cX11_stale 11 = .ok (.iconst (-1), 1) := by decide +kernel
theorem dX11_stale_12 : decode cX11_stale 12 = .ok (.ireturn, 1) := by decide +kernel
theorem dX11_stale_13 : decode cX11_stale 13 = .ok (.aload_n 0, 1) := by decide +kernel
theorem dX11_stale_14 : decode cX11_stale 14 = .ok (.getfield 26, 3) := by decide +kernel
theorem dX11_stale_17 : decode cX11_stale 17 = .ok (.iload_n 1, 1) := by decide +kernel
theorem dX11_stale_18 : decode cX11_stale 18 = .ok (.invokevirtual 118, 3) := by decide +kernel
theorem dX11_stale_21 : decode cX11_stale 21 = .ok (.getfield 122, 3) := by decide +kernel
theorem dX11_stale_24 : decode cX11_stale 24 = .ok (.invokevirtual 209, 3) := by decide +kernel
theorem dX11_stale_27 : decode cX11_stale 27 = .ok (.aload_n 0, 1) := by decide +kernel
theorem dX11_stale_28 : decode cX11_stale 28 = .ok (.getfield 26, 3) := by decide +kernel
theorem dX11_stale_31 : decode cX11_stale 31 = .ok (.getfield 80, 3) := by decide +kernel
theorem dX11_stale_34 : decode cX11_stale 34 = .ok (.ldc2_w 213, 3) := by decide +kernel
theorem dX11_stale_37 : decode cX11_stale 37 = .ok (.lxor, 1) := by decide +kernel
theorem dX11_stale_38 : decode cX11_stale 38 = .ok (.land, 1) := by decide +kernel
theorem dX11_stale_39 : decode cX11_stale 39 = .ok (.invokestatic 215, 3) := by decide +kernel
theorem dX11_stale_42 : decode cX11_stale 42 = .ok (.ireturn, 1) := by decide +kernel
theorem dX11_sound_0 : decode cX11_sound 0 = .ok (.aload_n 0, 1) := by decide +kernel
theorem dX11_sound_1 : decode cX11_sound 1 = .ok (.getfield 26, 3) := by decide +kernel
theorem dX11_sound_4 : decode cX11_sound 4 = .ok (.iload_n 1, 1) := by decide +kernel
theorem dX11_sound_5 : decode cX11_sound 5 = .ok (.iload_n 2, 1) := by decide +kernel
theorem dX11_sound_6 : decode cX11_sound 6 = .ok (.invokevirtual 154, 3) := by decide +kernel
theorem dX11_sound_9 : decode cX11_sound 9 = .ok (.lstore_n 3, 1) := by decide +kernel
theorem dX11_sound_10 : decode cX11_sound 10 = .ok (.lload_n 3, 1) := by decide +kernel
theorem dX11_sound_11 : decode cX11_sound 11 = .ok (.lconst 0, 1) := by decide +kernel
theorem dX11_sound_12 : decode cX11_sound 12 = .ok (.lcmp, 1) := by decide +kernel
theorem dX11_sound_13 : decode cX11_sound 13 = .ok (.ifCond .eq 28, 3) := by decide +kernel
theorem dX11_sound_16 : decode cX11_sound 16 = .ok (.lload_n 3, 1) := by decide +kernel
theorem dX11_sound_17 : decode cX11_sound 17 = .ok (.invokestatic 217, 3) := by decide +kernel
theorem dX11_sound_20 : decode cX11_sound 20 = .ok (.aload_n 0, 1) := by decide +kernel
theorem dX11_sound_21 : decode cX11_sound 21 = .ok (.getfield 26, 3) := by decide +kernel
theorem dX11_sound_24 : decode cX11_sound 24 = .ok (.getfield 80, 3) := by decide +kernel
theorem dX11_sound_27 : decode cX11_sound 27 = .ok (.ldc2_w 213, 3) := by decide +kernel
theorem dX11_sound_30 : decode cX11_sound 30 = .ok (.lxor, 1) := by decide +kernel
theorem dX11_sound_31 : decode cX11_sound 31 = .ok (.land, 1) := by decide +kernel
theorem dX11_sound_32 : decode cX11_sound 32 = .ok (.lconst 0, 1) := by decide +kernel
theorem dX11_sound_33 : decode cX11_sound 33 = .ok (.lcmp, 1) := by decide +kernel
theorem dX11_sound_34 : decode cX11_sound 34 = .ok (.ifCond .ne 7, 3) := by decide +kernel
theorem dX11_sound_37 : decode cX11_sound 37 = .ok (.iconst 1, 1) := by decide +kernel
theorem dX11_sound_38 : decode cX11_sound 38 = .ok (.goto 4, 3) := by decide +kernel
theorem dX11_sound_41 : decode cX11_sound 41 = .ok (.iconst 0, 1) := by decide +kernel
theorem dX11_sound_42 : decode cX11_sound 42 = .ok (.ireturn, 1) := by decide +kernel
theorem dX11_mapped_0 : decode cX11_mapped 0 = .ok (.aload_n 0, 1) := by decide +kernel
theorem dX11_mapped_1 : decode cX11_mapped 1 = .ok (.getfield 26, 3) := by decide +kernel
theorem dX11_mapped_4 : decode cX11_mapped 4 = .ok (.iload_n 1, 1) := by decide +kernel
theorem dX11_mapped_5 : decode cX11_mapped 5 = .ok (.iload_n 2, 1) := by decide +kernel
theorem dX11_mapped_6 : decode cX11_mapped 6 = .ok (.invokevirtual 76, 3) := by decide +kernel
theorem dX11_mapped_9 : decode cX11_mapped 9 = .ok (.ifCond .ne 5, 3) := by decide +kernel
theorem dX11_mapped_12 : decode cX11_mapped 12 = .ok (.iconst (-1), 1) := by decide +kernel
theorem dX11_mapped_13 : decode cX11_mapped 13 = .ok (.ireturn, 1) := by decide +kernel
theorem dX11_mapped_14 : decode cX11_mapped 14 = .ok (.aload_n 0, 1) := by decide +kernel
theorem dX11_mapped_15 : decode cX11_mapped 15 = .ok (.getfield 26, 3) := by decide +kernel
theorem dX11_mapped_18 : decode cX11_mapped 18 = .ok (.iload_n 1, 1) := by decide +kernel
theorem dX11_mapped_19 : decode cX11_mapped 19 = .ok (.invokevirtual 118, 3) := by decide +kernel
theorem dX11_mapped_22 : decode cX11_mapped 22 = .ok (.getfield 122, 3) := by decide +kernel
theorem dX11_mapped_25 : decode cX11_mapped 25 = .ok (.invokevirtual 209, 3) := by decide +kernel
theorem dX11_mapped_28 : decode cX11_mapped 28 = .ok (.iload_n 1, 1) := by decide +kernel
theorem dX11_mapped_29 : decode cX11_mapped 29 = .ok (.iload_n 2, 1) := by decide +kernel
theorem dX11_mapped_30 : decode cX11_mapped 30 = .ok (.invokestatic 205, 3) := by decide +kernel
theorem dX11_mapped_33 : decode cX11_mapped 33 = .ok (.istore_n 3, 1) := by decide +kernel
theorem dX11_mapped_34 : decode cX11_mapped 34 = .ok (.iload_n 3, 1) := by decide +kernel
theorem dX11_mapped_35 : decode cX11_mapped 35 = .ok (.aload_n 0, 1) := by decide +kernel
theorem dX11_mapped_36 : decode cX11_mapped 36 = .ok (.getfield 26, 3) := by decide +kernel
theorem dX11_mapped_39 : decode cX11_mapped 39 = .ok (.getfield 68, 3) := by decide +kernel
theorem dX11_mapped_42 : decode cX11_mapped 42 = .ok (.iconst 1, 1) := by decide +kernel
theorem dX11_mapped_43 : decode cX11_mapped 43 = .ok (.iaload, 1) := by decide +kernel
theorem dX11_mapped_44 : decode cX11_mapped 44 = .ok (.if_icmp .gt 7, 3) := by decide +kernel
theorem dX11_mapped_47 : decode cX11_mapped 47 = .ok (.iload_n 3, 1) := by decide +kernel
theorem dX11_mapped_48 : decode cX11_mapped 48 = .ok (.goto 4, 3) := by decide +kernel
theorem dX11_mapped_51 : decode cX11_mapped 51 = .ok (.iconst (-1), 1) := by decide +kernel
theorem dX11_mapped_52 : decode cX11_mapped 52 = .ok (.ireturn, 1) := by decide +kernel
theorem dX11_bridges_0 : decode cX11_bridges 0 = .ok (.aload_n 0, 1) := by decide +kernel
theorem dX11_bridges_1 : decode cX11_bridges 1 = .ok (.getfield 26, 3) := by decide +kernel
theorem dX11_bridges_4 : decode cX11_bridges 4 = .ok (.iload_n 1, 1) := by decide +kernel
theorem dX11_bridges_5 : decode cX11_bridges 5 = .ok (.iload_n 2, 1) := by decide +kernel
theorem dX11_bridges_6 : decode cX11_bridges 6 = .ok (.invokevirtual 76, 3) := by decide +kernel
theorem dX11_bridges_9 : decode cX11_bridges 9 = .ok (.ifCond .ne 5, 3) := by decide +kernel
theorem dX11_bridges_12 : decode cX11_bridges 12 = .ok (.iconst (-1), 1) := by decide +kernel
theorem dX11_bridges_13 : decode cX11_bridges 13 = .ok (.ireturn, 1) := by decide +kernel
theorem dX11_bridges_14 : decode cX11_bridges 14 = .ok (.aload_n 0, 1) := by decide +kernel
theorem dX11_bridges_15 : decode cX11_bridges 15 = .ok (.getfield 26, 3) := by decide +kernel
theorem dX11_bridges_18 : decode cX11_bridges 18 = .ok (.getfield 80, 3) := by decide +kernel
theorem dX11_bridges_21 : decode cX11_bridges 21 = .ok (.iload_n 1, 1) := by decide +kernel
theorem dX11_bridges_22 : decode cX11_bridges 22 = .ok (.iload_n 2, 1) := by decide +kernel
theorem dX11_bridges_23 : decode cX11_bridges 23 = .ok (.invokestatic 205, 3) := by decide +kernel
theorem dX11_bridges_26 : decode cX11_bridges 26 = .ok (.iconst (-1), 1) := by decide +kernel
theorem dX11_bridges_27 : decode cX11_bridges 27 = .ok (.if_icmp .ne 5, 3) := by decide +kernel
theorem dX11_bridges_30 : decode cX11_bridges 30 = .ok (.iconst 0, 1) := by decide +kernel
theorem dX11_bridges_31 : decode cX11_bridges 31 = .ok (.ireturn, 1) := by decide +kernel
theorem dX11_bridges_32 : decode cX11_bridges 32 = .ok (.iconst 0, 1) := by decide +kernel
theorem dX11_bridges_33 : decode cX11_bridges 33 = .ok (.istore_n 3, 1) := by decide +kernel
theorem dX11_bridges_34 : decode cX11_bridges 34 = .ok (.iconst 0, 1) := by decide +kernel
theorem dX11_bridges_35 : decode cX11_bridges 35 = .ok (.istore 4, 2) := by decide +kernel
theorem dX11_bridges_37 : decode cX11_bridges 37 = .ok (.iload 4, 2) := by decide +kernel
theorem dX11_bridges_39 : decode cX11_bridges 39 = .ok (.bipush 8, 2) := by decide +kernel
theorem dX11_bridges_41 : decode cX11_bridges 41 = .ok (.if_icmp .ge 76, 3) := by decide +kernel
theorem dX11_bridges_44 : decode cX11_bridges 44 = .ok (.iload 4, 2) := by decide +kernel
theorem dX11_bridges_46 : decode cX11_bridges 46 = .ok (.iconst 1, 1) := by decide +kernel
theorem dX11_bridges_47 : decode cX11_bridges 47 = .ok (.iadd, 1) := by decide +kernel
theorem dX11_bridges_48 : decode cX11_bridges 48 = .ok (.istore 5, 2) := by decide +kernel
theorem dX11_bridges_50 : decode cX11_bridges 50 = .ok (.iload 5, 2) := by decide +kernel
theorem dX11_bridges_52 : decode cX11_bridges 52 = .ok (.bipush 8, 2) := by decide +kernel
theorem dX11_bridges_54 : decode cX11_bridges 54 = .ok (.if_icmp .ge 57, 3) := by decide +kernel
theorem dX11_bridges_57 : decode cX11_bridges 57 = .ok (.aload_n 0, 1) := by decide +kernel
theorem dX11_bridges_58 : decode cX11_bridges 58 = .ok (.getfield 26, 3) := by decide +kernel
theorem dX11_bridges_61 : decode cX11_bridges 61 = .ok (.getfield 80, 3) := by decide +kernel
theorem dX11_bridges_64 : decode cX11_bridges 64 = .ok (.iload 4, 2) := by decide +kernel
theorem dX11_bridges_66 : decode cX11_bridges 66 = .ok (.iload 5, 2) := by decide +kernel
theorem dX11_bridges_68 : decode cX11_bridges 68 = .ok (.invokestatic 84, 3) := by decide +kernel
theorem dX11_bridges_71 : decode cX11_bridges 71 = .ok (.ifCond .eq 34, 3) := by decide +kernel
theorem dX11_bridges_74 : decode cX11_bridges 74 = .ok (.aload_n 0, 1) := by decide +kernel
theorem dX11_bridges_75 : decode cX11_bridges 75 = .ok (.getfield 26, 3) := by decide +kernel
theorem dX11_bridges_78 : decode cX11_bridges 78 = .ok (.getfield 80, 3) := by decide +kernel
theorem dX11_bridges_81 : decode cX11_bridges 81 = .ok (.iload 4, 2) := by decide +kernel
theorem dX11_bridges_83 : decode cX11_bridges 83 = .ok (.iload 5, 2) := by decide +kernel
theorem dX11_bridges_85 : decode cX11_bridges 85 = .ok (.invokestatic 90, 3) := by decide +kernel
theorem dX11_bridges_88 : decode cX11_bridges 88 = .ok (.ldc2_w 213, 3) := by decide +kernel
theorem dX11_bridges_91 : decode cX11_bridges 91 = .ok (.lxor, 1) := by decide +kernel
theorem dX11_bridges_92 : decode cX11_bridges 92 = .ok (.land, 1) := by decide +kernel
theorem dX11_bridges_93 : decode cX11_bridges 93 = .ok (.iload_n 1, 1) := by decide +kernel
theorem dX11_bridges_94 : decode cX11_bridges 94 = .ok (.iload_n 2, 1) := by decide +kernel
theorem dX11_bridges_95 : decode cX11_bridges 95 = .ok (.invokestatic 205, 3) := by decide +kernel
theorem dX11_bridges_98 : decode cX11_bridges 98 = .ok (.iconst (-1), 1) := by decide +kernel
theorem dX11_bridges_99 : decode cX11_bridges 99 = .ok (.if_icmp .ne 6, 3) := by decide +kernel
theorem dX11_bridges_102 : decode cX11_bridges 102 = .ok (.iinc 3 1, 3) := by decide +kernel
theorem dX11_bridges_105 : decode cX11_bridges 105 = .ok (.iinc 5 1, 3) := by decide +kernel
theorem dX11_bridges_108 : decode cX11_bridges 108 = .ok (.goto (-58), 3) := by decide +kernel
theorem dX11_bridges_111 : decode cX11_bridges 111 = .ok (.iinc 4 1, 3) := by decide +kernel
theorem dX11_bridges_114 : decode cX11_bridges 114 = .ok (.goto (-77), 3) := by decide +kernel
theorem dX11_bridges_117 : decode cX11_bridges 117 = .ok (.iload_n 3, 1) := by decide +kernel
theorem dX11_bridges_118 : decode cX11_bridges 118 = .ok (.ireturn, 1) := by decide +kernel
theorem dX11_ahead_0 : decode cX11_ahead 0 = .ok (.iload_n 1, 1) := by decide +kernel
theorem dX11_ahead_1 : decode cX11_ahead 1 = .ok (.invokestatic 221, 3) := by decide +kernel
theorem dX11_ahead_4 : decode cX11_ahead 4 = .ok (.ifCond .ne 5, 3) := by decide +kernel
theorem dX11_ahead_7 : decode cX11_ahead 7 = .ok (.iconst (-1), 1) := by decide +kernel
theorem dX11_ahead_8 : decode cX11_ahead 8 = .ok (.ireturn, 1) := by decide +kernel
theorem dX11_ahead_9 : decode cX11_ahead 9 = .ok (.aload_n 0, 1) := by decide +kernel
theorem dX11_ahead_10 : decode cX11_ahead 10 = .ok (.getfield 30, 3) := by decide +kernel
theorem dX11_ahead_13 : decode cX11_ahead 13 = .ok (.aload_n 0, 1) := by decide +kernel
theorem dX11_ahead_14 : decode cX11_ahead 14 = .ok (.getfield 26, 3) := by decide +kernel
theorem dX11_ahead_17 : decode cX11_ahead 17 = .ok (.invokevirtual 224, 3) := by decide +kernel
theorem dX11_ahead_20 : decode cX11_ahead 20 = .ok (.iconst 0, 1) := by decide +kernel
theorem dX11_ahead_21 : decode cX11_ahead 21 = .ok (.istore_n 3, 1) := by decide +kernel
theorem dX11_ahead_22 : decode cX11_ahead 22 = .ok (.iload_n 3, 1) := by decide +kernel
theorem dX11_ahead_23 : decode cX11_ahead 23 = .ok (.iload_n 1, 1) := by decide +kernel
theorem dX11_ahead_24 : decode cX11_ahead 24 = .ok (.if_icmp .ge 17, 3) := by decide +kernel
theorem dX11_ahead_27 : decode cX11_ahead 27 = .ok (.aload_n 0, 1) := by decide +kernel
theorem dX11_ahead_28 : decode cX11_ahead 28 = .ok (.getfield 30, 3) := by decide +kernel
theorem dX11_ahead_31 : decode cX11_ahead 31 = .ok (.iconst 0, 1) := by decide +kernel
theorem dX11_ahead_32 : decode cX11_ahead 32 = .ok (.invokevirtual 97, 3) := by decide +kernel
theorem dX11_ahead_35 : decode cX11_ahead 35 = .ok (.iinc 3 1, 3) := by decide +kernel
theorem dX11_ahead_38 : decode cX11_ahead 38 = .ok (.goto (-16), 3) := by decide +kernel
theorem dX11_ahead_41 : decode cX11_ahead 41 = .ok (.aload_n 0, 1) := by decide +kernel
theorem dX11_ahead_42 : decode cX11_ahead 42 = .ok (.getfield 30, 3) := by decide +kernel
theorem dX11_ahead_45 : decode cX11_ahead 45 = .ok (.iload_n 2, 1) := by decide +kernel
theorem dX11_ahead_46 : decode cX11_ahead 46 = .ok (.invokevirtual 228, 3) := by decide +kernel
theorem dX11_ahead_49 : decode cX11_ahead 49 = .ok (.ireturn, 1) := by decide +kernel
theorem dX11_turned_0 : decode cX11_turned 0 = .ok (.aload_n 0, 1) := by decide +kernel
theorem dX11_turned_1 : decode cX11_turned 1 = .ok (.getfield 26, 3) := by decide +kernel
theorem dX11_turned_4 : decode cX11_turned 4 = .ok (.iload_n 1, 1) := by decide +kernel
theorem dX11_turned_5 : decode cX11_turned 5 = .ok (.iload_n 2, 1) := by decide +kernel
theorem dX11_turned_6 : decode cX11_turned 6 = .ok (.invokevirtual 76, 3) := by decide +kernel
theorem dX11_turned_9 : decode cX11_turned 9 = .ok (.ifCond .eq 10, 3) := by decide +kernel
theorem dX11_turned_12 : decode cX11_turned 12 = .ok (.iload_n 3, 1) := by decide +kernel
theorem dX11_turned_13 : decode cX11_turned 13 = .ok (.invokestatic 221, 3) := by decide +kernel
theorem dX11_turned_16 : decode cX11_turned 16 = .ok (.ifCond .ne 5, 3) := by decide +kernel
theorem dX11_turned_19 : decode cX11_turned 19 = .ok (.iconst (-1), 1) := by decide +kernel
theorem dX11_turned_20 : decode cX11_turned 20 = .ok (.ireturn, 1) := by decide +kernel
theorem dX11_turned_21 : decode cX11_turned 21 = .ok (.aload_n 0, 1) := by decide +kernel
theorem dX11_turned_22 : decode cX11_turned 22 = .ok (.getfield 30, 3) := by decide +kernel
theorem dX11_turned_25 : decode cX11_turned 25 = .ok (.aload_n 0, 1) := by decide +kernel
theorem dX11_turned_26 : decode cX11_turned 26 = .ok (.getfield 26, 3) := by decide +kernel
theorem dX11_turned_29 : decode cX11_turned 29 = .ok (.invokevirtual 224, 3) := by decide +kernel
theorem dX11_turned_32 : decode cX11_turned 32 = .ok (.aload_n 0, 1) := by decide +kernel
theorem dX11_turned_33 : decode cX11_turned 33 = .ok (.getfield 30, 3) := by decide +kernel
theorem dX11_turned_36 : decode cX11_turned 36 = .ok (.dup, 1) := by decide +kernel
theorem dX11_turned_37 : decode cX11_turned 37 = .ok (.getfield 80, 3) := by decide +kernel
theorem dX11_turned_40 : decode cX11_turned 40 = .ok (.iload_n 1, 1) := by decide +kernel
theorem dX11_turned_41 : decode cX11_turned 41 = .ok (.iload_n 2, 1) := by decide +kernel
theorem dX11_turned_42 : decode cX11_turned 42 = .ok (.invokestatic 90, 3) := by decide +kernel
theorem dX11_turned_45 : decode cX11_turned 45 = .ok (.lxor, 1) := by decide +kernel
theorem dX11_turned_46 : decode cX11_turned 46 = .ok (.putfield 80, 3) := by decide +kernel
theorem dX11_turned_49 : decode cX11_turned 49 = .ok (.iconst 0, 1) := by decide +kernel
theorem dX11_turned_50 : decode cX11_turned 50 = .ok (.istore 5, 2) := by decide +kernel
theorem dX11_turned_52 : decode cX11_turned 52 = .ok (.iload 5, 2) := by decide +kernel
theorem dX11_turned_54 : decode cX11_turned 54 = .ok (.iload_n 3, 1) := by decide +kernel
theorem dX11_turned_55 : decode cX11_turned 55 = .ok (.if_icmp .ge 17, 3) := by decide +kernel
theorem dX11_turned_58 : decode cX11_turned 58 = .ok (.aload_n 0, 1) := by decide +kernel
theorem dX11_turned_59 : decode cX11_turned 59 = .ok (.getfield 30, 3) := by decide +kernel
theorem dX11_turned_62 : decode cX11_turned 62 = .ok (.iconst 0, 1) := by decide +kernel
theorem dX11_turned_63 : decode cX11_turned 63 = .ok (.invokevirtual 97, 3) := by decide +kernel
theorem dX11_turned_66 : decode cX11_turned 66 = .ok (.iinc 5 1, 3) := by decide +kernel
theorem dX11_turned_69 : decode cX11_turned 69 = .ok (.goto (-17), 3) := by decide +kernel
theorem dX11_turned_72 : decode cX11_turned 72 = .ok (.aload_n 0, 1) := by decide +kernel
theorem dX11_turned_73 : decode cX11_turned 73 = .ok (.getfield 30, 3) := by decide +kernel
theorem dX11_turned_76 : decode cX11_turned 76 = .ok (.iload 4, 2) := by decide +kernel
theorem dX11_turned_78 : decode cX11_turned 78 = .ok (.invokevirtual 228, 3) := by decide +kernel
theorem dX11_turned_81 : decode cX11_turned 81 = .ok (.ireturn, 1) := by decide +kernel
theorem dX11_sent_0 : decode cX11_sent 0 = .ok (.iload_n 3, 1) := by decide +kernel
theorem dX11_sent_1 : decode cX11_sent 1 = .ok (.invokestatic 221, 3) := by decide +kernel
theorem dX11_sent_4 : decode cX11_sent 4 = .ok (.ifCond .ne 6, 3) := by decide +kernel
theorem dX11_sent_7 : decode cX11_sent 7 = .ok (.bipush (-2), 2) := by decide +kernel
theorem dX11_sent_9 : decode cX11_sent 9 = .ok (.ireturn, 1) := by decide +kernel
theorem dX11_sent_10 : decode cX11_sent 10 = .ok (.aload_n 0, 1) := by decide +kernel
theorem dX11_sent_11 : decode cX11_sent 11 = .ok (.getfield 30, 3) := by decide +kernel
theorem dX11_sent_14 : decode cX11_sent 14 = .ok (.aload_n 0, 1) := by decide +kernel
theorem dX11_sent_15 : decode cX11_sent 15 = .ok (.getfield 26, 3) := by decide +kernel
theorem dX11_sent_18 : decode cX11_sent 18 = .ok (.invokevirtual 224, 3) := by decide +kernel
theorem dX11_sent_21 : decode cX11_sent 21 = .ok (.aload_n 0, 1) := by decide +kernel
theorem dX11_sent_22 : decode cX11_sent 22 = .ok (.getfield 30, 3) := by decide +kernel
theorem dX11_sent_25 : decode cX11_sent 25 = .ok (.iload_n 1, 1) := by decide +kernel
theorem dX11_sent_26 : decode cX11_sent 26 = .ok (.iload_n 2, 1) := by decide +kernel
theorem dX11_sent_27 : decode cX11_sent 27 = .ok (.invokevirtual 72, 3) := by decide +kernel
theorem dX11_sent_30 : decode cX11_sent 30 = .ok (.istore 5, 2) := by decide +kernel
theorem dX11_sent_32 : decode cX11_sent 32 = .ok (.iconst 0, 1) := by decide +kernel
theorem dX11_sent_33 : decode cX11_sent 33 = .ok (.istore 6, 2) := by decide +kernel
theorem dX11_sent_35 : decode cX11_sent 35 = .ok (.iload 6, 2) := by decide +kernel
theorem dX11_sent_37 : decode cX11_sent 37 = .ok (.iload_n 3, 1) := by decide +kernel
theorem dX11_sent_38 : decode cX11_sent 38 = .ok (.if_icmp .ge 17, 3) := by decide +kernel
theorem dX11_sent_41 : decode cX11_sent 41 = .ok (.aload_n 0, 1) := by decide +kernel
theorem dX11_sent_42 : decode cX11_sent 42 = .ok (.getfield 30, 3) := by decide +kernel
theorem dX11_sent_45 : decode cX11_sent 45 = .ok (.iconst 0, 1) := by decide +kernel
theorem dX11_sent_46 : decode cX11_sent 46 = .ok (.invokevirtual 97, 3) := by decide +kernel
theorem dX11_sent_49 : decode cX11_sent 49 = .ok (.iinc 6 1, 3) := by decide +kernel
theorem dX11_sent_52 : decode cX11_sent 52 = .ok (.goto (-17), 3) := by decide +kernel
theorem dX11_sent_55 : decode cX11_sent 55 = .ok (.aload_n 0, 1) := by decide +kernel
theorem dX11_sent_56 : decode cX11_sent 56 = .ok (.getfield 30, 3) := by decide +kernel
theorem dX11_sent_59 : decode cX11_sent 59 = .ok (.iload 5, 2) := by decide +kernel
theorem dX11_sent_61 : decode cX11_sent 61 = .ok (.iload 4, 2) := by decide +kernel
theorem dX11_sent_63 : decode cX11_sent 63 = .ok (.invokevirtual 160, 3) := by decide +kernel
theorem dX11_sent_66 : decode cX11_sent 66 = .ok (.ireturn, 1) := by decide +kernel
theorem dX11_flood_0 : decode cX11_flood 0 = .ok (.aload_n 0, 1) := by decide +kernel
theorem dX11_flood_1 : decode cX11_flood 1 = .ok (.getfield 26, 3) := by decide +kernel
theorem dX11_flood_4 : decode cX11_flood 4 = .ok (.iload_n 1, 1) := by decide +kernel
theorem dX11_flood_5 : decode cX11_flood 5 = .ok (.iload_n 2, 1) := by decide +kernel
theorem dX11_flood_6 : decode cX11_flood 6 = .ok (.invokevirtual 76, 3) := by decide +kernel
theorem dX11_flood_9 : decode cX11_flood 9 = .ok (.ifCond .ne 5, 3) := by decide +kernel
theorem dX11_flood_12 : decode cX11_flood 12 = .ok (.iconst (-1), 1) := by decide +kernel
theorem dX11_flood_13 : decode cX11_flood 13 = .ok (.ireturn, 1) := by decide +kernel
theorem dX11_flood_14 : decode cX11_flood 14 = .ok (.aload_n 0, 1) := by decide +kernel
theorem dX11_flood_15 : decode cX11_flood 15 = .ok (.getfield 30, 3) := by decide +kernel
theorem dX11_flood_18 : decode cX11_flood 18 = .ok (.aload_n 0, 1) := by decide +kernel
theorem dX11_flood_19 : decode cX11_flood 19 = .ok (.getfield 26, 3) := by decide +kernel
theorem dX11_flood_22 : decode cX11_flood 22 = .ok (.invokevirtual 224, 3) := by decide +kernel
theorem dX11_flood_25 : decode cX11_flood 25 = .ok (.aload_n 0, 1) := by decide +kernel
theorem dX11_flood_26 : decode cX11_flood 26 = .ok (.getfield 30, 3) := by decide +kernel
theorem dX11_flood_29 : decode cX11_flood 29 = .ok (.getfield 104, 3) := by decide +kernel
theorem dX11_flood_32 : decode cX11_flood 32 = .ok (.iconst 0, 1) := by decide +kernel
theorem dX11_flood_33 : decode cX11_flood 33 = .ok (.putfield 108, 3) := by decide +kernel
theorem dX11_flood_36 : decode cX11_flood 36 = .ok (.aload_n 0, 1) := by decide +kernel
theorem dX11_flood_37 : decode cX11_flood 37 = .ok (.getfield 30, 3) := by decide +kernel
theorem dX11_flood_40 : decode cX11_flood 40 = .ok (.iload_n 1, 1) := by decide +kernel
theorem dX11_flood_41 : decode cX11_flood 41 = .ok (.iload_n 2, 1) := by decide +kernel
theorem dX11_flood_42 : decode cX11_flood 42 = .ok (.invokevirtual 231, 3) := by decide +kernel
theorem dX11_flood_45 : decode cX11_flood 45 = .ok (.iconst 0, 1) := by decide +kernel
theorem dX11_flood_46 : decode cX11_flood 46 = .ok (.istore 4, 2) := by decide +kernel
theorem dX11_flood_48 : decode cX11_flood 48 = .ok (.iload 4, 2) := by decide +kernel
theorem dX11_flood_50 : decode cX11_flood 50 = .ok (.bipush 8, 2) := by decide +kernel
theorem dX11_flood_52 : decode cX11_flood 52 = .ok (.if_icmp .ge 31, 3) := by decide +kernel
theorem dX11_flood_55 : decode cX11_flood 55 = .ok (.aload_n 0, 1) := by decide +kernel
theorem dX11_flood_56 : decode cX11_flood 56 = .ok (.getfield 30, 3) := by decide +kernel
theorem dX11_flood_59 : decode cX11_flood 59 = .ok (.getfield 104, 3) := by decide +kernel
theorem dX11_flood_62 : decode cX11_flood 62 = .ok (.iconst 1, 1) := by decide +kernel
theorem dX11_flood_63 : decode cX11_flood 63 = .ok (.invokevirtual 235, 3) := by decide +kernel
theorem dX11_flood_66 : decode cX11_flood 66 = .ok (.ifCond .eq 17, 3) := by decide +kernel
theorem dX11_flood_69 : decode cX11_flood 69 = .ok (.aload_n 0, 1) := by decide +kernel
theorem dX11_flood_70 : decode cX11_flood 70 = .ok (.getfield 30, 3) := by decide +kernel
theorem dX11_flood_73 : decode cX11_flood 73 = .ok (.iconst 1, 1) := by decide +kernel
theorem dX11_flood_74 : decode cX11_flood 74 = .ok (.invokevirtual 97, 3) := by decide +kernel
theorem dX11_flood_77 : decode cX11_flood 77 = .ok (.iinc 4 1, 3) := by decide +kernel
theorem dX11_flood_80 : decode cX11_flood 80 = .ok (.goto (-32), 3) := by decide +kernel
theorem dX11_flood_83 : decode cX11_flood 83 = .ok (.iload_n 3, 1) := by decide +kernel
theorem dX11_flood_84 : decode cX11_flood 84 = .ok (.ifCond .eq 7, 3) := by decide +kernel
theorem dX11_flood_87 : decode cX11_flood 87 = .ok (.iconst 2, 1) := by decide +kernel
theorem dX11_flood_88 : decode cX11_flood 88 = .ok (.goto 4, 3) := by decide +kernel
theorem dX11_flood_91 : decode cX11_flood 91 = .ok (.iconst 1, 1) := by decide +kernel
theorem dX11_flood_92 : decode cX11_flood 92 = .ok (.istore 4, 2) := by decide +kernel
theorem dX11_flood_94 : decode cX11_flood 94 = .ok (.aload_n 0, 1) := by decide +kernel
theorem dX11_flood_95 : decode cX11_flood 95 = .ok (.getfield 30, 3) := by decide +kernel
theorem dX11_flood_98 : decode cX11_flood 98 = .ok (.getfield 202, 3) := by decide +kernel
theorem dX11_flood_101 : decode cX11_flood 101 = .ok (.iload 4, 2) := by decide +kernel
theorem dX11_flood_103 : decode cX11_flood 103 = .ok (.iaload, 1) := by decide +kernel
theorem dX11_flood_104 : decode cX11_flood 104 = .ok (.aload_n 0, 1) := by decide +kernel
theorem dX11_flood_105 : decode cX11_flood 105 = .ok (.getfield 26, 3) := by decide +kernel
theorem dX11_flood_108 : decode cX11_flood 108 = .ok (.getfield 202, 3) := by decide +kernel
theorem dX11_flood_111 : decode cX11_flood 111 = .ok (.iload 4, 2) := by decide +kernel
theorem dX11_flood_113 : decode cX11_flood 113 = .ok (.iaload, 1) := by decide +kernel
theorem dX11_flood_114 : decode cX11_flood 114 = .ok (.isub, 1) := by decide +kernel
theorem dX11_flood_115 : decode cX11_flood 115 = .ok (.ireturn, 1) := by decide +kernel
theorem dX11_quiet_0 : decode cX11_quiet 0 = .ok (.aload_n 0, 1) := by decide +kernel
theorem dX11_quiet_1 : decode cX11_quiet 1 = .ok (.getfield 30, 3) := by decide +kernel
theorem dX11_quiet_4 : decode cX11_quiet 4 = .ok (.aload_n 0, 1) := by decide +kernel
theorem dX11_quiet_5 : decode cX11_quiet 5 = .ok (.getfield 26, 3) := by decide +kernel
theorem dX11_quiet_8 : decode cX11_quiet 8 = .ok (.invokevirtual 224, 3) := by decide +kernel
theorem dX11_quiet_11 : decode cX11_quiet 11 = .ok (.iconst 0, 1) := by decide +kernel
theorem dX11_quiet_12 : decode cX11_quiet 12 = .ok (.istore_n 1, 1) := by decide +kernel
theorem dX11_quiet_13 : decode cX11_quiet 13 = .ok (.iload_n 1, 1) := by decide +kernel
theorem dX11_quiet_14 : decode cX11_quiet 14 = .ok (.bipush 12, 2) := by decide +kernel
theorem dX11_quiet_16 : decode cX11_quiet 16 = .ok (.if_icmp .ge 27, 3) := by decide +kernel
theorem dX11_quiet_19 : decode cX11_quiet 19 = .ok (.aload_n 0, 1) := by decide +kernel
theorem dX11_quiet_20 : decode cX11_quiet 20 = .ok (.getfield 30, 3) := by decide +kernel
theorem dX11_quiet_23 : decode cX11_quiet 23 = .ok (.invokevirtual 238, 3) := by decide +kernel
theorem dX11_quiet_26 : decode cX11_quiet 26 = .ok (.ifCond .ne 17, 3) := by decide +kernel
theorem dX11_quiet_29 : decode cX11_quiet 29 = .ok (.aload_n 0, 1) := by decide +kernel
theorem dX11_quiet_30 : decode cX11_quiet 30 = .ok (.getfield 30, 3) := by decide +kernel
theorem dX11_quiet_33 : decode cX11_quiet 33 = .ok (.iconst 0, 1) := by decide +kernel
theorem dX11_quiet_34 : decode cX11_quiet 34 = .ok (.invokevirtual 97, 3) := by decide +kernel
theorem dX11_quiet_37 : decode cX11_quiet 37 = .ok (.iinc 1 1, 3) := by decide +kernel
theorem dX11_quiet_40 : decode cX11_quiet 40 = .ok (.goto (-27), 3) := by decide +kernel
theorem dX11_quiet_43 : decode cX11_quiet 43 = .ok (.aload_n 0, 1) := by decide +kernel
theorem dX11_quiet_44 : decode cX11_quiet 44 = .ok (.getfield 30, 3) := by decide +kernel
theorem dX11_quiet_47 : decode cX11_quiet 47 = .ok (.invokevirtual 238, 3) := by decide +kernel
theorem dX11_quiet_50 : decode cX11_quiet 50 = .ok (.ifCond .eq 21, 3) := by decide +kernel
theorem dX11_quiet_53 : decode cX11_quiet 53 = .ok (.aload_n 0, 1) := by decide +kernel
theorem dX11_quiet_54 : decode cX11_quiet 54 = .ok (.getfield 30, 3) := by decide +kernel
theorem dX11_quiet_57 : decode cX11_quiet 57 = .ok (.getfield 94, 3) := by decide +kernel
theorem dX11_quiet_60 : decode cX11_quiet 60 = .ok (.aload_n 0, 1) := by decide +kernel
theorem dX11_quiet_61 : decode cX11_quiet 61 = .ok (.getfield 26, 3) := by decide +kernel
theorem dX11_quiet_64 : decode cX11_quiet 64 = .ok (.getfield 94, 3) := by decide +kernel
theorem dX11_quiet_67 : decode cX11_quiet 67 = .ok (.isub, 1) := by decide +kernel
theorem dX11_quiet_68 : decode cX11_quiet 68 = .ok (.goto 4, 3) := by decide +kernel
theorem dX11_quiet_71 : decode cX11_quiet 71 = .ok (.iconst (-1), 1) := by decide +kernel
theorem dX11_quiet_72 : decode cX11_quiet 72 = .ok (.ireturn, 1) := by decide +kernel
theorem dX11_image_0 : decode cX11_image 0 = .ok (.iload_n 1, 1) := by decide +kernel
theorem dX11_image_1 : decode cX11_image 1 = .ok (.ifCond .lt 8, 3) := by decide +kernel
theorem dX11_image_4 : decode cX11_image 4 = .ok (.iload_n 1, 1) := by decide +kernel
theorem dX11_image_5 : decode cX11_image 5 = .ok (.iconst 3, 1) := by decide +kernel
theorem dX11_image_6 : decode cX11_image 6 = .ok (.if_icmp .lt 5, 3) := by decide +kernel
theorem dX11_image_9 : decode cX11_image 9 = .ok (.iconst 0, 1) := by decide +kernel
theorem dX11_image_10 : decode cX11_image 10 = .ok (.ireturn, 1) := by decide +kernel
theorem dX11_image_11 : decode cX11_image 11 = .ok (.aload_n 0, 1) := by decide +kernel
theorem dX11_image_12 : decode cX11_image 12 = .ok (.dup, 1) := by decide +kernel
theorem dX11_image_13 : decode cX11_image 13 = .ok (.getfield 242, 3) := by decide +kernel
theorem dX11_image_16 : decode cX11_image 16 = .ok (.iconst 1, 1) := by decide +kernel
theorem dX11_image_17 : decode cX11_image 17 = .ok (.iload_n 1, 1) := by decide +kernel
theorem dX11_image_18 : decode cX11_image 18 = .ok (.ishl, 1) := by decide +kernel
theorem dX11_image_19 : decode cX11_image 19 = .ok (.ior, 1) := by decide +kernel
theorem dX11_image_20 : decode cX11_image 20 = .ok (.putfield 242, 3) := by decide +kernel
theorem dX11_image_23 : decode cX11_image 23 = .ok (.aload_n 0, 1) := by decide +kernel
theorem dX11_image_24 : decode cX11_image 24 = .ok (.getfield 33, 3) := by decide +kernel
theorem dX11_image_27 : decode cX11_image 27 = .ok (.iload_n 1, 1) := by decide +kernel
theorem dX11_image_28 : decode cX11_image 28 = .ok (.aaload, 1) := by decide +kernel
theorem dX11_image_29 : decode cX11_image 29 = .ok (.aload_n 0, 1) := by decide +kernel
theorem dX11_image_30 : decode cX11_image 30 = .ok (.getfield 10, 3) := by decide +kernel
theorem dX11_image_33 : decode cX11_image 33 = .ok (.invokevirtual 245, 3) := by decide +kernel
theorem dX11_image_36 : decode cX11_image 36 = .ok (.aload_n 0, 1) := by decide +kernel
theorem dX11_image_37 : decode cX11_image 37 = .ok (.getfield 37, 3) := by decide +kernel
theorem dX11_image_40 : decode cX11_image 40 = .ok (.iload_n 1, 1) := by decide +kernel
theorem dX11_image_41 : decode cX11_image 41 = .ok (.aaload, 1) := by decide +kernel
theorem dX11_image_42 : decode cX11_image 42 = .ok (.aload_n 0, 1) := by decide +kernel
theorem dX11_image_43 : decode cX11_image 43 = .ok (.getfield 26, 3) := by decide +kernel
theorem dX11_image_46 : decode cX11_image 46 = .ok (.invokevirtual 224, 3) := by decide +kernel
theorem dX11_image_49 : decode cX11_image 49 = .ok (.iconst 1, 1) := by decide +kernel
theorem dX11_image_50 : decode cX11_image 50 = .ok (.ireturn, 1) := by decide +kernel
theorem dX11_again_0 : decode cX11_again 0 = .ok (.iload_n 1, 1) := by decide +kernel
theorem dX11_again_1 : decode cX11_again 1 = .ok (.ifCond .lt 19, 3) := by decide +kernel
theorem dX11_again_4 : decode cX11_again 4 = .ok (.iload_n 1, 1) := by decide +kernel
theorem dX11_again_5 : decode cX11_again 5 = .ok (.iconst 3, 1) := by decide +kernel
theorem dX11_again_6 : decode cX11_again 6 = .ok (.if_icmp .ge 14, 3) := by decide +kernel
theorem dX11_again_9 : decode cX11_again 9 = .ok (.aload_n 0, 1) := by decide +kernel
theorem dX11_again_10 : decode cX11_again 10 = .ok (.getfield 242, 3) := by decide +kernel
theorem dX11_again_13 : decode cX11_again 13 = .ok (.iload_n 1, 1) := by decide +kernel
theorem dX11_again_14 : decode cX11_again 14 = .ok (.ishr, 1) := by decide +kernel
theorem dX11_again_15 : decode cX11_again 15 = .ok (.iconst 1, 1) := by decide +kernel
theorem dX11_again_16 : decode cX11_again 16 = .ok (.iand, 1) := by decide +kernel
theorem dX11_again_17 : decode cX11_again 17 = .ok (.ifCond .ne 5, 3) := by decide +kernel
theorem dX11_again_20 : decode cX11_again 20 = .ok (.iconst 0, 1) := by decide +kernel
theorem dX11_again_21 : decode cX11_again 21 = .ok (.ireturn, 1) := by decide +kernel
theorem dX11_again_22 : decode cX11_again 22 = .ok (.aload_n 0, 1) := by decide +kernel
theorem dX11_again_23 : decode cX11_again 23 = .ok (.getfield 10, 3) := by decide +kernel
theorem dX11_again_26 : decode cX11_again 26 = .ok (.aload_n 0, 1) := by decide +kernel
theorem dX11_again_27 : decode cX11_again 27 = .ok (.getfield 33, 3) := by decide +kernel
theorem dX11_again_30 : decode cX11_again 30 = .ok (.iload_n 1, 1) := by decide +kernel
theorem dX11_again_31 : decode cX11_again 31 = .ok (.aaload, 1) := by decide +kernel
theorem dX11_again_32 : decode cX11_again 32 = .ok (.invokevirtual 245, 3) := by decide +kernel
theorem dX11_again_35 : decode cX11_again 35 = .ok (.aload_n 0, 1) := by decide +kernel
theorem dX11_again_36 : decode cX11_again 36 = .ok (.getfield 26, 3) := by decide +kernel
theorem dX11_again_39 : decode cX11_again 39 = .ok (.aload_n 0, 1) := by decide +kernel
theorem dX11_again_40 : decode cX11_again 40 = .ok (.getfield 37, 3) := by decide +kernel
theorem dX11_again_43 : decode cX11_again 43 = .ok (.iload_n 1, 1) := by decide +kernel
theorem dX11_again_44 : decode cX11_again 44 = .ok (.aaload, 1) := by decide +kernel
theorem dX11_again_45 : decode cX11_again 45 = .ok (.invokevirtual 224, 3) := by decide +kernel
theorem dX11_again_48 : decode cX11_again 48 = .ok (.iconst 1, 1) := by decide +kernel
theorem dX11_again_49 : decode cX11_again 49 = .ok (.ireturn, 1) := by decide +kernel
theorem dX11_mayGoBy_0 : decode cX11_mayGoBy 0 = .ok (.iload_n 0, 1) := by decide +kernel
theorem dX11_mayGoBy_1 : decode cX11_mayGoBy 1 = .ok (.ifCond .lt 13, 3) := by decide +kernel
theorem dX11_mayGoBy_4 : decode cX11_mayGoBy 4 = .ok (.iload_n 0, 1) := by decide +kernel
theorem dX11_mayGoBy_5 : decode cX11_mayGoBy 5 = .ok (.bipush 6, 2) := by decide +kernel
theorem dX11_mayGoBy_7 : decode cX11_mayGoBy 7 = .ok (.if_icmp .gt 7, 3) := by decide +kernel
theorem dX11_mayGoBy_10 : decode cX11_mayGoBy 10 = .ok (.iconst 1, 1) := by decide +kernel
theorem dX11_mayGoBy_11 : decode cX11_mayGoBy 11 = .ok (.goto 4, 3) := by decide +kernel
theorem dX11_mayGoBy_14 : decode cX11_mayGoBy 14 = .ok (.iconst 0, 1) := by decide +kernel
theorem dX11_mayGoBy_15 : decode cX11_mayGoBy 15 = .ok (.ireturn, 1) := by decide +kernel
theorem dJ6_bitCount_0f7a4_0 : decode cJ6_bitCount_0f7a4 0 = .ok (.iload_n 0, 1) := by decide +kernel
theorem dJ6_bitCount_0f7a4_1 : decode cJ6_bitCount_0f7a4 1 = .ok (.iload_n 0, 1) := by decide +kernel
theorem dJ6_bitCount_0f7a4_2 : decode cJ6_bitCount_0f7a4 2 = .ok (.iconst 1, 1) := by decide +kernel
theorem dJ6_bitCount_0f7a4_3 : decode cJ6_bitCount_0f7a4 3 = .ok (.iushr, 1) := by decide +kernel
theorem dJ6_bitCount_0f7a4_4 : decode cJ6_bitCount_0f7a4 4 = .ok (.ldc_w 265, 3) := by decide +kernel
theorem dJ6_bitCount_0f7a4_7 : decode cJ6_bitCount_0f7a4 7 = .ok (.iand, 1) := by decide +kernel
theorem dJ6_bitCount_0f7a4_8 : decode cJ6_bitCount_0f7a4 8 = .ok (.isub, 1) := by decide +kernel
theorem dJ6_bitCount_0f7a4_9 : decode cJ6_bitCount_0f7a4 9 = .ok (.istore_n 0, 1) := by decide +kernel
theorem dJ6_bitCount_0f7a4_10 : decode cJ6_bitCount_0f7a4 10 = .ok (.iload_n 0, 1) := by decide +kernel
theorem dJ6_bitCount_0f7a4_11 : decode cJ6_bitCount_0f7a4 11 = .ok (.ldc_w 266, 3) := by decide +kernel
theorem dJ6_bitCount_0f7a4_14 : decode cJ6_bitCount_0f7a4 14 = .ok (.iand, 1) := by decide +kernel
theorem dJ6_bitCount_0f7a4_15 : decode cJ6_bitCount_0f7a4 15 = .ok (.iload_n 0, 1) := by decide +kernel
theorem dJ6_bitCount_0f7a4_16 : decode cJ6_bitCount_0f7a4 16 = .ok (.iconst 2, 1) := by decide +kernel
theorem dJ6_bitCount_0f7a4_17 : decode cJ6_bitCount_0f7a4 17 = .ok (.iushr, 1) := by decide +kernel
theorem dJ6_bitCount_0f7a4_18 : decode cJ6_bitCount_0f7a4 18 = .ok (.ldc_w 266, 3) := by decide +kernel
theorem dJ6_bitCount_0f7a4_21 : decode cJ6_bitCount_0f7a4 21 = .ok (.iand, 1) := by decide +kernel
theorem dJ6_bitCount_0f7a4_22 : decode cJ6_bitCount_0f7a4 22 = .ok (.iadd, 1) := by decide +kernel
theorem dJ6_bitCount_0f7a4_23 : decode cJ6_bitCount_0f7a4 23 = .ok (.istore_n 0, 1) := by decide +kernel
theorem dJ6_bitCount_0f7a4_24 : decode cJ6_bitCount_0f7a4 24 = .ok (.iload_n 0, 1) := by decide +kernel
theorem dJ6_bitCount_0f7a4_25 : decode cJ6_bitCount_0f7a4 25 = .ok (.iload_n 0, 1) := by decide +kernel
theorem dJ6_bitCount_0f7a4_26 : decode cJ6_bitCount_0f7a4 26 = .ok (.iconst 4, 1) := by decide +kernel
theorem dJ6_bitCount_0f7a4_27 : decode cJ6_bitCount_0f7a4 27 = .ok (.iushr, 1) := by decide +kernel
theorem dJ6_bitCount_0f7a4_28 : decode cJ6_bitCount_0f7a4 28 = .ok (.iadd, 1) := by decide +kernel
theorem dJ6_bitCount_0f7a4_29 : decode cJ6_bitCount_0f7a4 29 = .ok (.ldc_w 267, 3) := by decide +kernel
theorem dJ6_bitCount_0f7a4_32 : decode cJ6_bitCount_0f7a4 32 = .ok (.iand, 1) := by decide +kernel
theorem dJ6_bitCount_0f7a4_33 : decode cJ6_bitCount_0f7a4 33 = .ok (.istore_n 0, 1) := by decide +kernel
theorem dJ6_bitCount_0f7a4_34 : decode cJ6_bitCount_0f7a4 34 = .ok (.iload_n 0, 1) := by decide +kernel
theorem dJ6_bitCount_0f7a4_35 : decode cJ6_bitCount_0f7a4 35 = .ok (.iload_n 0, 1) := by decide +kernel
theorem dJ6_bitCount_0f7a4_36 : decode cJ6_bitCount_0f7a4 36 = .ok (.bipush 8, 2) := by decide +kernel
theorem dJ6_bitCount_0f7a4_38 : decode cJ6_bitCount_0f7a4 38 = .ok (.iushr, 1) := by decide +kernel
theorem dJ6_bitCount_0f7a4_39 : decode cJ6_bitCount_0f7a4 39 = .ok (.iadd, 1) := by decide +kernel
theorem dJ6_bitCount_0f7a4_40 : decode cJ6_bitCount_0f7a4 40 = .ok (.istore_n 0, 1) := by decide +kernel
theorem dJ6_bitCount_0f7a4_41 : decode cJ6_bitCount_0f7a4 41 = .ok (.iload_n 0, 1) := by decide +kernel
theorem dJ6_bitCount_0f7a4_42 : decode cJ6_bitCount_0f7a4 42 = .ok (.iload_n 0, 1) := by decide +kernel
theorem dJ6_bitCount_0f7a4_43 : decode cJ6_bitCount_0f7a4 43 = .ok (.bipush 16, 2) := by decide +kernel
theorem dJ6_bitCount_0f7a4_45 : decode cJ6_bitCount_0f7a4 45 = .ok (.iushr, 1) := by decide +kernel
theorem dJ6_bitCount_0f7a4_46 : decode cJ6_bitCount_0f7a4 46 = .ok (.iadd, 1) := by decide +kernel
theorem dJ6_bitCount_0f7a4_47 : decode cJ6_bitCount_0f7a4 47 = .ok (.istore_n 0, 1) := by decide +kernel
theorem dJ6_bitCount_0f7a4_48 : decode cJ6_bitCount_0f7a4 48 = .ok (.iload_n 0, 1) := by decide +kernel
theorem dJ6_bitCount_0f7a4_49 : decode cJ6_bitCount_0f7a4 49 = .ok (.bipush 63, 2) := by decide +kernel
theorem dJ6_bitCount_0f7a4_51 : decode cJ6_bitCount_0f7a4 51 = .ok (.iand, 1) := by decide +kernel
theorem dJ6_bitCount_0f7a4_52 : decode cJ6_bitCount_0f7a4 52 = .ok (.ireturn, 1) := by decide +kernel
theorem dJ13_bitCount_95d88_0 : decode cJ13_bitCount_95d88 0 = .ok (.lload_n 0, 1) := by decide +kernel
theorem dJ13_bitCount_95d88_1 : decode cJ13_bitCount_95d88 1 = .ok (.lload_n 0, 1) := by decide +kernel
theorem dJ13_bitCount_95d88_2 : decode cJ13_bitCount_95d88 2 = .ok (.iconst 1, 1) := by decide +kernel
theorem dJ13_bitCount_95d88_3 : decode cJ13_bitCount_95d88 3 = .ok (.lushr, 1) := by decide +kernel
theorem dJ13_bitCount_95d88_4 : decode cJ13_bitCount_95d88 4 = .ok (.ldc2_w 314, 3) := by decide +kernel
theorem dJ13_bitCount_95d88_7 : decode cJ13_bitCount_95d88 7 = .ok (.land, 1) := by decide +kernel
theorem dJ13_bitCount_95d88_8 : decode cJ13_bitCount_95d88 8 = .ok (.lsub, 1) := by decide +kernel
theorem dJ13_bitCount_95d88_9 : decode cJ13_bitCount_95d88 9 = .ok (.lstore_n 0, 1) := by decide +kernel
theorem dJ13_bitCount_95d88_10 : decode cJ13_bitCount_95d88 10 = .ok (.lload_n 0, 1) := by decide +kernel
theorem dJ13_bitCount_95d88_11 : decode cJ13_bitCount_95d88 11 = .ok (.ldc2_w 316, 3) := by decide +kernel
theorem dJ13_bitCount_95d88_14 : decode cJ13_bitCount_95d88 14 = .ok (.land, 1) := by decide +kernel
theorem dJ13_bitCount_95d88_15 : decode cJ13_bitCount_95d88 15 = .ok (.lload_n 0, 1) := by decide +kernel
theorem dJ13_bitCount_95d88_16 : decode cJ13_bitCount_95d88 16 = .ok (.iconst 2, 1) := by decide +kernel
theorem dJ13_bitCount_95d88_17 : decode cJ13_bitCount_95d88 17 = .ok (.lushr, 1) := by decide +kernel
theorem dJ13_bitCount_95d88_18 : decode cJ13_bitCount_95d88 18 = .ok (.ldc2_w 316, 3) := by decide +kernel
theorem dJ13_bitCount_95d88_21 : decode cJ13_bitCount_95d88 21 = .ok (.land, 1) := by decide +kernel
theorem dJ13_bitCount_95d88_22 : decode cJ13_bitCount_95d88 22 = .ok (.ladd, 1) := by decide +kernel
theorem dJ13_bitCount_95d88_23 : decode cJ13_bitCount_95d88 23 = .ok (.lstore_n 0, 1) := by decide +kernel
theorem dJ13_bitCount_95d88_24 : decode cJ13_bitCount_95d88 24 = .ok (.lload_n 0, 1) := by decide +kernel
theorem dJ13_bitCount_95d88_25 : decode cJ13_bitCount_95d88 25 = .ok (.lload_n 0, 1) := by decide +kernel
theorem dJ13_bitCount_95d88_26 : decode cJ13_bitCount_95d88 26 = .ok (.iconst 4, 1) := by decide +kernel
theorem dJ13_bitCount_95d88_27 : decode cJ13_bitCount_95d88 27 = .ok (.lushr, 1) := by decide +kernel
theorem dJ13_bitCount_95d88_28 : decode cJ13_bitCount_95d88 28 = .ok (.ladd, 1) := by decide +kernel
theorem dJ13_bitCount_95d88_29 : decode cJ13_bitCount_95d88 29 = .ok (.ldc2_w 318, 3) := by decide +kernel
theorem dJ13_bitCount_95d88_32 : decode cJ13_bitCount_95d88 32 = .ok (.land, 1) := by decide +kernel
theorem dJ13_bitCount_95d88_33 : decode cJ13_bitCount_95d88 33 = .ok (.lstore_n 0, 1) := by decide +kernel
theorem dJ13_bitCount_95d88_34 : decode cJ13_bitCount_95d88 34 = .ok (.lload_n 0, 1) := by decide +kernel
theorem dJ13_bitCount_95d88_35 : decode cJ13_bitCount_95d88 35 = .ok (.lload_n 0, 1) := by decide +kernel
theorem dJ13_bitCount_95d88_36 : decode cJ13_bitCount_95d88 36 = .ok (.bipush 8, 2) := by decide +kernel
theorem dJ13_bitCount_95d88_38 : decode cJ13_bitCount_95d88 38 = .ok (.lushr, 1) := by decide +kernel
theorem dJ13_bitCount_95d88_39 : decode cJ13_bitCount_95d88 39 = .ok (.ladd, 1) := by decide +kernel
theorem dJ13_bitCount_95d88_40 : decode cJ13_bitCount_95d88 40 = .ok (.lstore_n 0, 1) := by decide +kernel
theorem dJ13_bitCount_95d88_41 : decode cJ13_bitCount_95d88 41 = .ok (.lload_n 0, 1) := by decide +kernel
theorem dJ13_bitCount_95d88_42 : decode cJ13_bitCount_95d88 42 = .ok (.lload_n 0, 1) := by decide +kernel
theorem dJ13_bitCount_95d88_43 : decode cJ13_bitCount_95d88 43 = .ok (.bipush 16, 2) := by decide +kernel
theorem dJ13_bitCount_95d88_45 : decode cJ13_bitCount_95d88 45 = .ok (.lushr, 1) := by decide +kernel
theorem dJ13_bitCount_95d88_46 : decode cJ13_bitCount_95d88 46 = .ok (.ladd, 1) := by decide +kernel
theorem dJ13_bitCount_95d88_47 : decode cJ13_bitCount_95d88 47 = .ok (.lstore_n 0, 1) := by decide +kernel
theorem dJ13_bitCount_95d88_48 : decode cJ13_bitCount_95d88 48 = .ok (.lload_n 0, 1) := by decide +kernel
theorem dJ13_bitCount_95d88_49 : decode cJ13_bitCount_95d88 49 = .ok (.lload_n 0, 1) := by decide +kernel
theorem dJ13_bitCount_95d88_50 : decode cJ13_bitCount_95d88 50 = .ok (.bipush 32, 2) := by decide +kernel
theorem dJ13_bitCount_95d88_52 : decode cJ13_bitCount_95d88 52 = .ok (.lushr, 1) := by decide +kernel
theorem dJ13_bitCount_95d88_53 : decode cJ13_bitCount_95d88 53 = .ok (.ladd, 1) := by decide +kernel
theorem dJ13_bitCount_95d88_54 : decode cJ13_bitCount_95d88 54 = .ok (.lstore_n 0, 1) := by decide +kernel
theorem dJ13_bitCount_95d88_55 : decode cJ13_bitCount_95d88 55 = .ok (.lload_n 0, 1) := by decide +kernel
theorem dJ13_bitCount_95d88_56 : decode cJ13_bitCount_95d88 56 = .ok (.l2i, 1) := by decide +kernel
theorem dJ13_bitCount_95d88_57 : decode cJ13_bitCount_95d88 57 = .ok (.bipush 127, 2) := by decide +kernel
theorem dJ13_bitCount_95d88_59 : decode cJ13_bitCount_95d88 59 = .ok (.iand, 1) := by decide +kernel
theorem dJ13_bitCount_95d88_60 : decode cJ13_bitCount_95d88 60 = .ok (.ireturn, 1) := by decide +kernel
theorem dJ9_abs_0f7a4_0 : decode cJ9_abs_0f7a4 0 = .ok (.iload_n 0, 1) := by decide +kernel
theorem dJ9_abs_0f7a4_1 : decode cJ9_abs_0f7a4 1 = .ok (.ifCond .ge 8, 3) := by decide +kernel
theorem dJ9_abs_0f7a4_4 : decode cJ9_abs_0f7a4 4 = .ok (.iload_n 0, 1) := by decide +kernel
theorem dJ9_abs_0f7a4_5 : decode cJ9_abs_0f7a4 5 = .ok (.ineg, 1) := by decide +kernel
theorem dJ9_abs_0f7a4_6 : decode cJ9_abs_0f7a4 6 = .ok (.goto 4, 3) := by decide +kernel
theorem dJ9_abs_0f7a4_9 : decode cJ9_abs_0f7a4 9 = .ok (.iload_n 0, 1) := by decide +kernel
theorem dJ9_abs_0f7a4_10 : decode cJ9_abs_0f7a4 10 = .ok (.ireturn, 1) := by decide +kernel
theorem dJ9_max_7cf53_0 : decode cJ9_max_7cf53 0 = .ok (.iload_n 0, 1) := by decide +kernel
theorem dJ9_max_7cf53_1 : decode cJ9_max_7cf53 1 = .ok (.iload_n 1, 1) := by decide +kernel
theorem dJ9_max_7cf53_2 : decode cJ9_max_7cf53 2 = .ok (.if_icmp .lt 7, 3) := by decide +kernel
theorem dJ9_max_7cf53_5 : decode cJ9_max_7cf53 5 = .ok (.iload_n 0, 1) := by decide +kernel
theorem dJ9_max_7cf53_6 : decode cJ9_max_7cf53 6 = .ok (.goto 4, 3) := by decide +kernel
theorem dJ9_max_7cf53_9 : decode cJ9_max_7cf53 9 = .ok (.iload_n 1, 1) := by decide +kernel
theorem dJ9_max_7cf53_10 : decode cJ9_max_7cf53 10 = .ok (.ireturn, 1) := by decide +kernel
theorem dJ9_min_7cf53_0 : decode cJ9_min_7cf53 0 = .ok (.iload_n 0, 1) := by decide +kernel
theorem dJ9_min_7cf53_1 : decode cJ9_min_7cf53 1 = .ok (.iload_n 1, 1) := by decide +kernel
theorem dJ9_min_7cf53_2 : decode cJ9_min_7cf53 2 = .ok (.if_icmp .gt 7, 3) := by decide +kernel
theorem dJ9_min_7cf53_5 : decode cJ9_min_7cf53 5 = .ok (.iload_n 0, 1) := by decide +kernel
theorem dJ9_min_7cf53_6 : decode cJ9_min_7cf53 6 = .ok (.goto 4, 3) := by decide +kernel
theorem dJ9_min_7cf53_9 : decode cJ9_min_7cf53 9 = .ok (.iload_n 1, 1) := by decide +kernel
theorem dJ9_min_7cf53_10 : decode cJ9_min_7cf53 10 = .ok (.ireturn, 1) := by decide +kernel
theorem dJ0_charAt_5068e_0 : decode cJ0_charAt_5068e 0 = .ok (.aload_n 0, 1) := by decide +kernel
theorem dJ0_charAt_5068e_1 : decode cJ0_charAt_5068e 1 = .ok (.invokevirtual 492, 3) := by decide +kernel
theorem dJ0_charAt_5068e_4 : decode cJ0_charAt_5068e 4 = .ok (.ifCond .eq 12, 3) := by decide +kernel
theorem dJ0_charAt_5068e_7 : decode cJ0_charAt_5068e 7 = .ok (.aload_n 0, 1) := by decide +kernel
theorem dJ0_charAt_5068e_8 : decode cJ0_charAt_5068e 8 = .ok (.getfield 9, 3) := by decide +kernel
theorem dJ0_charAt_5068e_11 : decode cJ0_charAt_5068e 11 = .ok (.iload_n 1, 1) := by decide +kernel
theorem dJ0_charAt_5068e_12 : decode cJ0_charAt_5068e 12 = .ok (.invokestatic 495, 3) := by decide +kernel
theorem dJ0_charAt_5068e_15 : decode cJ0_charAt_5068e 15 = .ok (.ireturn, 1) := by decide +kernel
theorem dJ0_charAt_5068e_16 : decode cJ0_charAt_5068e 16 = .ok (.aload_n 0, 1) := by decide +kernel
theorem dJ0_charAt_5068e_17 : decode cJ0_charAt_5068e 17 = .ok (.getfield 9, 3) := by decide +kernel
theorem dJ0_charAt_5068e_20 : decode cJ0_charAt_5068e 20 = .ok (.iload_n 1, 1) := by decide +kernel
theorem dJ0_charAt_5068e_21 : decode cJ0_charAt_5068e 21 = .ok (.invokestatic 498, 3) := by decide +kernel
theorem dJ0_charAt_5068e_24 : decode cJ0_charAt_5068e 24 = .ok (.ireturn, 1) := by decide +kernel
theorem dJ0_isLatin1_aae02_0 : decode cJ0_isLatin1_aae02 0 = .ok (.getstatic 38, 3) := by decide +kernel
theorem dJ0_isLatin1_aae02_3 : decode cJ0_isLatin1_aae02 3 = .ok (.ifCond .eq 14, 3) := by decide +kernel
theorem dJ0_isLatin1_aae02_6 : decode cJ0_isLatin1_aae02 6 = .ok (.aload_n 0, 1) := by decide +kernel
theorem dJ0_isLatin1_aae02_7 : decode cJ0_isLatin1_aae02 7 = .ok (.getfield 15, 3) := by decide +kernel
theorem dJ0_isLatin1_aae02_10 : decode cJ0_isLatin1_aae02 10 = .ok (.ifCond .ne 7, 3) := by decide +kernel
theorem dJ0_isLatin1_aae02_13 : decode cJ0_isLatin1_aae02 13 = .ok (.iconst 1, 1) := by decide +kernel
theorem dJ0_isLatin1_aae02_14 : decode cJ0_isLatin1_aae02 14 = .ok (.goto 4, 3) := by decide +kernel
theorem dJ0_isLatin1_aae02_17 : decode cJ0_isLatin1_aae02 17 = .ok (.iconst 0, 1) := by decide +kernel
theorem dJ0_isLatin1_aae02_18 : decode cJ0_isLatin1_aae02 18 = .ok (.ireturn, 1) := by decide +kernel
theorem dJ0_checkIndex_df160_0 : decode cJ0_checkIndex_df160 0 = .ok (.iload_n 0, 1) := by decide +kernel
theorem dJ0_checkIndex_df160_1 : decode cJ0_checkIndex_df160 1 = .ok (.iload_n 1, 1) := by decide +kernel
theorem dJ0_checkIndex_df160_2 : decode cJ0_checkIndex_df160 2 = .ok (.getstatic 1053, 3) := by decide +kernel
theorem dJ0_checkIndex_df160_5 : decode cJ0_checkIndex_df160 5 = .ok (.invokestatic 1059, 3) := by decide +kernel
theorem dJ0_checkIndex_df160_8 : decode cJ0_checkIndex_df160 8 = .ok (.pop, 1) := by decide +kernel
theorem dJ0_checkIndex_df160_9 : decode cJ0_checkIndex_df160 9 = .ok (.return_, 1) := by decide +kernel
theorem dJ1_charAt_3b067_0 : decode cJ1_charAt_3b067 0 = .ok (.iload_n 1, 1) := by decide +kernel
theorem dJ1_charAt_3b067_1 : decode cJ1_charAt_3b067 1 = .ok (.aload_n 0, 1) := by decide +kernel
theorem dJ1_charAt_3b067_2 : decode cJ1_charAt_3b067 2 = .ok (.arraylength, 1) := by decide +kernel
theorem dJ1_charAt_3b067_3 : decode cJ1_charAt_3b067 3 = .ok (.invokestatic 9, 3) := by decide +kernel
theorem dJ1_charAt_3b067_6 : decode cJ1_charAt_3b067 6 = .ok (.aload_n 0, 1) := by decide +kernel
theorem dJ1_charAt_3b067_7 : decode cJ1_charAt_3b067 7 = .ok (.iload_n 1, 1) := by decide +kernel
theorem dJ1_charAt_3b067_8 : decode cJ1_charAt_3b067 8 = .ok (.baload, 1) := by decide +kernel
theorem dJ1_charAt_3b067_9 : decode cJ1_charAt_3b067 9 = .ok (.sipush 255, 3) := by decide +kernel
theorem dJ1_charAt_3b067_12 : decode cJ1_charAt_3b067 12 = .ok (.iand, 1) := by decide +kernel
theorem dJ1_charAt_3b067_13 : decode cJ1_charAt_3b067 13 = .ok (.i2c, 1) := by decide +kernel
theorem dJ1_charAt_3b067_14 : decode cJ1_charAt_3b067 14 = .ok (.ireturn, 1) := by decide +kernel
theorem dJ2_getChar_3b067_0 : decode cJ2_getChar_3b067 0 = .ok (.getstatic 44, 3) := by decide +kernel
theorem dJ2_getChar_3b067_3 : decode cJ2_getChar_3b067 3 = .ok (.ifCond .ne 25, 3) := by decide +kernel
theorem dJ2_getChar_3b067_6 : decode cJ2_getChar_3b067 6 = .ok (.iload_n 1, 1) := by decide +kernel
theorem dJ2_getChar_3b067_7 : decode cJ2_getChar_3b067 7 = .ok (.ifCond .lt 11, 3) := by decide +kernel
theorem dJ2_getChar_3b067_10 : decode cJ2_getChar_3b067 10 = .ok (.iload_n 1, 1) := by decide +kernel
theorem dJ2_getChar_3b067_11 : decode cJ2_getChar_3b067 11 = .ok (.aload_n 0, 1) := by decide +kernel
theorem dJ2_getChar_3b067_12 : decode cJ2_getChar_3b067 12 = .ok (.invokestatic 48, 3) := by decide +kernel
theorem dJ2_getChar_3b067_15 : decode cJ2_getChar_3b067 15 = .ok (.if_icmp .lt 13, 3) := by decide +kernel
theorem dJ2_getChar_3b067_18 : decode cJ2_getChar_3b067 18 = .ok (.new 52, 3) := by decide +kernel
theorem dJ2_getChar_3b067_21 : decode cJ2_getChar_3b067 21 = .ok (.dup, 1) := by decide +kernel
theorem dJ2_getChar_3b067_22 : decode cJ2_getChar_3b067 22 = .ok (.ldc 54, 2) := by decide +kernel
theorem dJ2_getChar_3b067_24 : decode cJ2_getChar_3b067 24 = .ok (.invokespecial 56, 3) := by decide +kernel
theorem dJ2_getChar_3b067_27 : decode cJ2_getChar_3b067 27 = .ok (.athrow, 1) := by decide +kernel
theorem dJ2_getChar_3b067_28 : decode cJ2_getChar_3b067 28 = .ok (.iload_n 1, 1) := by decide +kernel
theorem dJ2_getChar_3b067_29 : decode cJ2_getChar_3b067 29 = .ok (.iconst 1, 1) := by decide +kernel
theorem dJ2_getChar_3b067_30 : decode cJ2_getChar_3b067 30 = .ok (.ishl, 1) := by decide +kernel
theorem dJ2_getChar_3b067_31 : decode cJ2_getChar_3b067 31 = .ok (.istore_n 1, 1) := by decide +kernel
theorem dJ2_getChar_3b067_32 : decode cJ2_getChar_3b067 32 = .ok (.aload_n 0, 1) := by decide +kernel
theorem dJ2_getChar_3b067_33 : decode cJ2_getChar_3b067 33 = .ok (.iload_n 1, 1) := by decide +kernel
theorem dJ2_getChar_3b067_34 : decode cJ2_getChar_3b067 34 = .ok (.iinc 1 1, 3) := by decide +kernel
theorem dJ2_getChar_3b067_37 : decode cJ2_getChar_3b067 37 = .ok (.baload, 1) := by decide +kernel
theorem dJ2_getChar_3b067_38 : decode cJ2_getChar_3b067 38 = .ok (.sipush 255, 3) := by decide +kernel
theorem dJ2_getChar_3b067_41 : decode cJ2_getChar_3b067 41 = .ok (.iand, 1) := by decide +kernel
theorem dJ2_getChar_3b067_42 : decode cJ2_getChar_3b067 42 = .ok (.getstatic 59, 3) := by decide +kernel
theorem dJ2_getChar_3b067_45 : decode cJ2_getChar_3b067 45 = .ok (.ishl, 1) := by decide +kernel
theorem dJ2_getChar_3b067_46 : decode cJ2_getChar_3b067 46 = .ok (.aload_n 0, 1) := by decide +kernel
theorem dJ2_getChar_3b067_47 : decode cJ2_getChar_3b067 47 = .ok (.iload_n 1, 1) := by decide +kernel
theorem dJ2_getChar_3b067_48 : decode cJ2_getChar_3b067 48 = .ok (.baload, 1) := by decide +kernel
theorem dJ2_getChar_3b067_49 : decode cJ2_getChar_3b067 49 = .ok (.sipush 255, 3) := by decide +kernel
theorem dJ2_getChar_3b067_52 : decode cJ2_getChar_3b067 52 = .ok (.iand, 1) := by decide +kernel
theorem dJ2_getChar_3b067_53 : decode cJ2_getChar_3b067 53 = .ok (.getstatic 63, 3) := by decide +kernel
theorem dJ2_getChar_3b067_56 : decode cJ2_getChar_3b067 56 = .ok (.ishl, 1) := by decide +kernel
theorem dJ2_getChar_3b067_57 : decode cJ2_getChar_3b067 57 = .ok (.ior, 1) := by decide +kernel
theorem dJ2_getChar_3b067_58 : decode cJ2_getChar_3b067 58 = .ok (.i2c, 1) := by decide +kernel
theorem dJ2_getChar_3b067_59 : decode cJ2_getChar_3b067 59 = .ok (.ireturn, 1) := by decide +kernel
theorem dJ2_length_9d52b_0 : decode cJ2_length_9d52b 0 = .ok (.aload_n 0, 1) := by decide +kernel
theorem dJ2_length_9d52b_1 : decode cJ2_length_9d52b 1 = .ok (.arraylength, 1) := by decide +kernel
theorem dJ2_length_9d52b_2 : decode cJ2_length_9d52b 2 = .ok (.iconst 1, 1) := by decide +kernel
theorem dJ2_length_9d52b_3 : decode cJ2_length_9d52b 3 = .ok (.ishr, 1) := by decide +kernel
theorem dJ2_length_9d52b_4 : decode cJ2_length_9d52b 4 = .ok (.ireturn, 1) := by decide +kernel
theorem dJ2_charAt_3b067_0 : decode cJ2_charAt_3b067 0 = .ok (.iload_n 1, 1) := by decide +kernel
theorem dJ2_charAt_3b067_1 : decode cJ2_charAt_3b067 1 = .ok (.aload_n 0, 1) := by decide +kernel
theorem dJ2_charAt_3b067_2 : decode cJ2_charAt_3b067 2 = .ok (.invokestatic 67, 3) := by decide +kernel
theorem dJ2_charAt_3b067_5 : decode cJ2_charAt_3b067 5 = .ok (.aload_n 0, 1) := by decide +kernel
theorem dJ2_charAt_3b067_6 : decode cJ2_charAt_3b067 6 = .ok (.iload_n 1, 1) := by decide +kernel
theorem dJ2_charAt_3b067_7 : decode cJ2_charAt_3b067 7 = .ok (.invokestatic 71, 3) := by decide +kernel
theorem dJ2_charAt_3b067_10 : decode cJ2_charAt_3b067 10 = .ok (.ireturn, 1) := by decide +kernel
theorem dJ2_checkIndex_2214a_0 : decode cJ2_checkIndex_2214a 0 = .ok (.iload_n 0, 1) := by decide +kernel
theorem dJ2_checkIndex_2214a_1 : decode cJ2_checkIndex_2214a 1 = .ok (.aload_n 1, 1) := by decide +kernel
theorem dJ2_checkIndex_2214a_2 : decode cJ2_checkIndex_2214a 2 = .ok (.invokestatic 48, 3) := by decide +kernel
theorem dJ2_checkIndex_2214a_5 : decode cJ2_checkIndex_2214a 5 = .ok (.invokestatic 414, 3) := by decide +kernel
theorem dJ2_checkIndex_2214a_8 : decode cJ2_checkIndex_2214a 8 = .ok (.return_, 1) := by decide +kernel
theorem dJ3_checkIndex_8e157_0 : decode cJ3_checkIndex_8e157 0 = .ok (.iload_n 0, 1) := by decide +kernel
theorem dJ3_checkIndex_8e157_1 : decode cJ3_checkIndex_8e157 1 = .ok (.ifCond .lt 8, 3) := by decide +kernel
theorem dJ3_checkIndex_8e157_4 : decode cJ3_checkIndex_8e157 4 = .ok (.iload_n 0, 1) := by decide +kernel
theorem dJ3_checkIndex_8e157_5 : decode cJ3_checkIndex_8e157 5 = .ok (.iload_n 1, 1) := by decide +kernel
theorem dJ3_checkIndex_8e157_6 : decode cJ3_checkIndex_8e157 6 = .ok (.if_icmp .lt 10, 3) := by decide +kernel
theorem dJ3_checkIndex_8e157_9 : decode cJ3_checkIndex_8e157 9 = .ok (.aload_n 2, 1) := by decide +kernel
theorem dJ3_checkIndex_8e157_10 : decode cJ3_checkIndex_8e157 10 = .ok (.iload_n 0, 1) := by decide +kernel
theorem dJ3_checkIndex_8e157_11 : decode cJ3_checkIndex_8e157 11 = .ok (.iload_n 1, 1) := by decide +kernel
theorem dJ3_checkIndex_8e157_12 : decode cJ3_checkIndex_8e157 12 = .ok (.invokestatic 95, 3) := by decide +kernel
theorem dJ3_checkIndex_8e157_15 : decode cJ3_checkIndex_8e157 15 = .ok (.athrow, 1) := by decide +kernel
theorem dJ3_checkIndex_8e157_16 : decode cJ3_checkIndex_8e157 16 = .ok (.iload_n 0, 1) := by decide +kernel
theorem dJ3_checkIndex_8e157_17 : decode cJ3_checkIndex_8e157 17 = .ok (.ireturn, 1) := by decide +kernel
