theorem dX12_kept_23 : decode cX12_kept 23 = .ok (.invokestatic 55, 3) := by decide +kernel
theorem dX12_kept_26 : decode cX12_kept 26 = .ok (.ifCond .ne 5, 3) := by decide +kernel
theorem dX12_kept_29 : decode cX12_kept 29 = .ok (.iconst (-1), 1) := by decide +kernel
theorem dX12_kept_30 : decode cX12_kept 30 = .ok (.ireturn, 1) := by decide +kernel
theorem dX12_kept_31 : decode cX12_kept 31 = .ok (.aload_n 0, 1) := by decide +kernel
theorem dX12_kept_32 : decode cX12_kept 32 = .ok (.iload_n 1, 1) := by decide +kernel
theorem dX12_kept_33 : decode cX12_kept 33 = .ok (.iconst 0, 1) := by decide +kernel
theorem dX12_kept_34 : decode cX12_kept 34 = .ok (.invokevirtual 180, 3) := by decide +kernel
theorem dX12_kept_37 : decode cX12_kept 37 = .ok (.iconst 1, 1) := by decide +kernel
theorem dX12_kept_38 : decode cX12_kept 38 = .ok (.if_icmp .ne 30, 3) := by decide +kernel
theorem dX12_kept_41 : decode cX12_kept 41 = .ok (.iload_n 3, 1) := by decide +kernel
theorem dX12_kept_42 : decode cX12_kept 42 = .ok (.iconst 0, 1) := by decide +kernel
theorem dX12_kept_43 : decode cX12_kept 43 = .ok (.iconst 1, 1) := by decide +kernel
theorem dX12_kept_44 : decode cX12_kept 44 = .ok (.invokestatic 55, 3) := by decide +kernel
theorem dX12_kept_47 : decode cX12_kept 47 = .ok (.ifCond .eq 19, 3) := by decide +kernel
theorem dX12_kept_50 : decode cX12_kept 50 = .ok (.aload_n 0, 1) := by decide +kernel
theorem dX12_kept_51 : decode cX12_kept 51 = .ok (.iload_n 1, 1) := by decide +kernel
theorem dX12_kept_52 : decode cX12_kept 52 = .ok (.bipush 15, 2) := by decide +kernel
theorem dX12_kept_54 : decode cX12_kept 54 = .ok (.iconst 2, 1) := by decide +kernel
theorem dX12_kept_55 : decode cX12_kept 55 = .ok (.iload_n 2, 1) := by decide +kernel
theorem dX12_kept_56 : decode cX12_kept 56 = .ok (.imul, 1) := by decide +kernel
theorem dX12_kept_57 : decode cX12_kept 57 = .ok (.iadd, 1) := by decide +kernel
theorem dX12_kept_58 : decode cX12_kept 58 = .ok (.iload_n 3, 1) := by decide +kernel
theorem dX12_kept_59 : decode cX12_kept 59 = .ok (.iadd, 1) := by decide +kernel
theorem dX12_kept_60 : decode cX12_kept 60 = .ok (.invokevirtual 180, 3) := by decide +kernel
theorem dX12_kept_63 : decode cX12_kept 63 = .ok (.goto 4, 3) := by decide +kernel
theorem dX12_kept_66 : decode cX12_kept 66 = .ok (.iconst (-1), 1) := by decide +kernel
theorem dX12_kept_67 : decode cX12_kept 67 = .ok (.ireturn, 1) := by decide +kernel
theorem dX12_kept_68 : decode cX12_kept 68 = .ok (.iload_n 3, 1) := by decide +kernel
theorem dX12_kept_69 : decode cX12_kept 69 = .ok (.iconst 0, 1) := by decide +kernel
theorem dX12_kept_70 : decode cX12_kept 70 = .ok (.aload_n 0, 1) := by decide +kernel
theorem dX12_kept_71 : decode cX12_kept 71 = .ok (.iload_n 1, 1) := by decide +kernel
theorem dX12_kept_72 : decode cX12_kept 72 = .ok (.iload_n 2, 1) := by decide +kernel
theorem dX12_kept_73 : decode cX12_kept 73 = .ok (.invokevirtual 183, 3) := by decide +kernel
theorem dX12_kept_76 : decode cX12_kept 76 = .ok (.iconst 1, 1) := by decide +kernel
theorem dX12_kept_77 : decode cX12_kept 77 = .ok (.isub, 1) := by decide +kernel
theorem dX12_kept_78 : decode cX12_kept 78 = .ok (.invokestatic 55, 3) := by decide +kernel
theorem dX12_kept_81 : decode cX12_kept 81 = .ok (.ifCond .eq 13, 3) := by decide +kernel
theorem dX12_kept_84 : decode cX12_kept 84 = .ok (.aload_n 0, 1) := by decide +kernel
theorem dX12_kept_85 : decode cX12_kept 85 = .ok (.iload_n 1, 1) := by decide +kernel
theorem dX12_kept_86 : decode cX12_kept 86 = .ok (.iload_n 2, 1) := by decide +kernel
theorem dX12_kept_87 : decode cX12_kept 87 = .ok (.iload_n 3, 1) := by decide +kernel
theorem dX12_kept_88 : decode cX12_kept 88 = .ok (.invokevirtual 189, 3) := by decide +kernel
theorem dX12_kept_91 : decode cX12_kept 91 = .ok (.goto 4, 3) := by decide +kernel
theorem dX12_kept_94 : decode cX12_kept 94 = .ok (.iconst (-1), 1) := by decide +kernel
theorem dX12_kept_95 : decode cX12_kept 95 = .ok (.ireturn, 1) := by decide +kernel
theorem dX12_seen_0 : decode cX12_seen 0 = .ok (.aload_n 0, 1) := by decide +kernel
theorem dX12_seen_1 : decode cX12_seen 1 = .ok (.iconst 0, 1) := by decide +kernel
theorem dX12_seen_2 : decode cX12_seen 2 = .ok (.putfield 51, 3) := by decide +kernel
theorem dX12_seen_5 : decode cX12_seen 5 = .ok (.aload_n 0, 1) := by decide +kernel
theorem dX12_seen_6 : decode cX12_seen 6 = .ok (.iload_n 1, 1) := by decide +kernel
theorem dX12_seen_7 : decode cX12_seen 7 = .ok (.invokevirtual 59, 3) := by decide +kernel
theorem dX12_seen_10 : decode cX12_seen 10 = .ok (.ifCond .eq 52, 3) := by decide +kernel
theorem dX12_seen_13 : decode cX12_seen 13 = .ok (.iload_n 2, 1) := by decide +kernel
theorem dX12_seen_14 : decode cX12_seen 14 = .ok (.iconst 0, 1) := by decide +kernel
theorem dX12_seen_15 : decode cX12_seen 15 = .ok (.aload_n 0, 1) := by decide +kernel
theorem dX12_seen_16 : decode cX12_seen 16 = .ok (.iload_n 1, 1) := by decide +kernel
theorem dX12_seen_17 : decode cX12_seen 17 = .ok (.bipush 6, 2) := by decide +kernel
theorem dX12_seen_19 : decode cX12_seen 19 = .ok (.invokevirtual 180, 3) := by decide +kernel
theorem dX12_seen_22 : decode cX12_seen 22 = .ok (.iconst 1, 1) := by decide +kernel
theorem dX12_seen_23 : decode cX12_seen 23 = .ok (.isub, 1) := by decide +kernel
theorem dX12_seen_24 : decode cX12_seen 24 = .ok (.invokestatic 55, 3) := by decide +kernel
theorem dX12_seen_27 : decode cX12_seen 27 = .ok (.ifCond .eq 35, 3) := by decide +kernel
theorem dX12_seen_30 : decode cX12_seen 30 = .ok (.ldc_w 394, 3) := by decide +kernel
theorem dX12_seen_33 : decode cX12_seen 33 = .ok (.aload_n 0, 1) := by decide +kernel
theorem dX12_seen_34 : decode cX12_seen 34 = .ok (.iload_n 1, 1) := by decide +kernel
theorem dX12_seen_35 : decode cX12_seen 35 = .ok (.bipush 69, 2) := by decide +kernel
theorem dX12_seen_37 : decode cX12_seen 37 = .ok (.iconst 2, 1) := by decide +kernel
theorem dX12_seen_38 : decode cX12_seen 38 = .ok (.iload_n 2, 1) := by decide +kernel
theorem dX12_seen_39 : decode cX12_seen 39 = .ok (.imul, 1) := by decide +kernel
theorem dX12_seen_40 : decode cX12_seen 40 = .ok (.iadd, 1) := by decide +kernel
theorem dX12_seen_41 : decode cX12_seen 41 = .ok (.invokevirtual 180, 3) := by decide +kernel
theorem dX12_seen_44 : decode cX12_seen 44 = .ok (.imul, 1) := by decide +kernel
theorem dX12_seen_45 : decode cX12_seen 45 = .ok (.aload_n 0, 1) := by decide +kernel
theorem dX12_seen_46 : decode cX12_seen 46 = .ok (.iload_n 1, 1) := by decide +kernel
theorem dX12_seen_47 : decode cX12_seen 47 = .ok (.bipush 69, 2) := by decide +kernel
theorem dX12_seen_49 : decode cX12_seen 49 = .ok (.iconst 2, 1) := by decide +kernel
theorem dX12_seen_50 : decode cX12_seen 50 = .ok (.iload_n 2, 1) := by decide +kernel
theorem dX12_seen_51 : decode cX12_seen 51 = .ok (.imul, 1) := by decide +kernel
theorem dX12_seen_52 : decode cX12_seen 52 = .ok (.iadd, 1) := by decide +kernel
theorem dX12_seen_53 : decode cX12_seen 53 = .ok (.iconst 1, 1) := by decide +kernel
theorem dX12_seen_54 : decode cX12_seen 54 = .ok (.iadd, 1) := by decide +kernel
theorem dX12_seen_55 : decode cX12_seen 55 = .ok (.invokevirtual 180, 3) := by decide +kernel
theorem dX12_seen_58 : decode cX12_seen 58 = .ok (.iadd, 1) := by decide +kernel
theorem dX12_seen_59 : decode cX12_seen 59 = .ok (.goto 4, 3) := by decide +kernel
theorem dX12_seen_62 : decode cX12_seen 62 = .ok (.iconst (-1), 1) := by decide +kernel
theorem dX12_seen_63 : decode cX12_seen 63 = .ok (.ireturn, 1) := by decide +kernel
theorem dX12_waits_0 : decode cX12_waits 0 = .ok (.aload_n 0, 1) := by decide +kernel
theorem dX12_waits_1 : decode cX12_waits 1 = .ok (.iconst 0, 1) := by decide +kernel
theorem dX12_waits_2 : decode cX12_waits 2 = .ok (.putfield 51, 3) := by decide +kernel
theorem dX12_waits_5 : decode cX12_waits 5 = .ok (.aload_n 0, 1) := by decide +kernel
theorem dX12_waits_6 : decode cX12_waits 6 = .ok (.iload_n 1, 1) := by decide +kernel
theorem dX12_waits_7 : decode cX12_waits 7 = .ok (.invokevirtual 59, 3) := by decide +kernel
theorem dX12_waits_10 : decode cX12_waits 10 = .ok (.ifCond .eq 31, 3) := by decide +kernel
theorem dX12_waits_13 : decode cX12_waits 13 = .ok (.iload_n 2, 1) := by decide +kernel
theorem dX12_waits_14 : decode cX12_waits 14 = .ok (.iconst 0, 1) := by decide +kernel
theorem dX12_waits_15 : decode cX12_waits 15 = .ok (.aload_n 0, 1) := by decide +kernel
theorem dX12_waits_16 : decode cX12_waits 16 = .ok (.iload_n 1, 1) := by decide +kernel
theorem dX12_waits_17 : decode cX12_waits 17 = .ok (.iconst 3, 1) := by decide +kernel
theorem dX12_waits_18 : decode cX12_waits 18 = .ok (.invokevirtual 180, 3) := by decide +kernel
theorem dX12_waits_21 : decode cX12_waits 21 = .ok (.iconst 1, 1) := by decide +kernel
theorem dX12_waits_22 : decode cX12_waits 22 = .ok (.isub, 1) := by decide +kernel
theorem dX12_waits_23 : decode cX12_waits 23 = .ok (.invokestatic 55, 3) := by decide +kernel
theorem dX12_waits_26 : decode cX12_waits 26 = .ok (.ifCond .eq 15, 3) := by decide +kernel
theorem dX12_waits_29 : decode cX12_waits 29 = .ok (.aload_n 0, 1) := by decide +kernel
theorem dX12_waits_30 : decode cX12_waits 30 = .ok (.iload_n 1, 1) := by decide +kernel
theorem dX12_waits_31 : decode cX12_waits 31 = .ok (.bipush 81, 2) := by decide +kernel
theorem dX12_waits_33 : decode cX12_waits 33 = .ok (.iload_n 2, 1) := by decide +kernel
theorem dX12_waits_34 : decode cX12_waits 34 = .ok (.iadd, 1) := by decide +kernel
theorem dX12_waits_35 : decode cX12_waits 35 = .ok (.invokevirtual 180, 3) := by decide +kernel
theorem dX12_waits_38 : decode cX12_waits 38 = .ok (.goto 4, 3) := by decide +kernel
theorem dX12_waits_41 : decode cX12_waits 41 = .ok (.iconst (-1), 1) := by decide +kernel
theorem dX12_waits_42 : decode cX12_waits 42 = .ok (.ireturn, 1) := by decide +kernel
theorem dX12_way_0 : decode cX12_way 0 = .ok (.aload_n 0, 1) := by decide +kernel
theorem dX12_way_1 : decode cX12_way 1 = .ok (.iconst 0, 1) := by decide +kernel
theorem dX12_way_2 : decode cX12_way 2 = .ok (.putfield 51, 3) := by decide +kernel
theorem dX12_way_5 : decode cX12_way 5 = .ok (.aload_n 0, 1) := by decide +kernel
theorem dX12_way_6 : decode cX12_way 6 = .ok (.iload_n 1, 1) := by decide +kernel
theorem dX12_way_7 : decode cX12_way 7 = .ok (.iload_n 2, 1) := by decide +kernel
theorem dX12_way_8 : decode cX12_way 8 = .ok (.invokevirtual 373, 3) := by decide +kernel
theorem dX12_way_11 : decode cX12_way 11 = .ok (.ifCond .eq 35, 3) := by decide +kernel
theorem dX12_way_14 : decode cX12_way 14 = .ok (.aload_n 0, 1) := by decide +kernel
theorem dX12_way_15 : decode cX12_way 15 = .ok (.iload_n 1, 1) := by decide +kernel
theorem dX12_way_16 : decode cX12_way 16 = .ok (.iload_n 2, 1) := by decide +kernel
theorem dX12_way_17 : decode cX12_way 17 = .ok (.invokevirtual 265, 3) := by decide +kernel
theorem dX12_way_20 : decode cX12_way 20 = .ok (.ifCond .eq 26, 3) := by decide +kernel
theorem dX12_way_23 : decode cX12_way 23 = .ok (.iload_n 3, 1) := by decide +kernel
theorem dX12_way_24 : decode cX12_way 24 = .ok (.iconst 0, 1) := by decide +kernel
theorem dX12_way_25 : decode cX12_way 25 = .ok (.aload_n 0, 1) := by decide +kernel
theorem dX12_way_26 : decode cX12_way 26 = .ok (.getfield 231, 3) := by decide +kernel
theorem dX12_way_29 : decode cX12_way 29 = .ok (.iconst 1, 1) := by decide +kernel
theorem dX12_way_30 : decode cX12_way 30 = .ok (.isub, 1) := by decide +kernel
theorem dX12_way_31 : decode cX12_way 31 = .ok (.invokestatic 55, 3) := by decide +kernel
theorem dX12_way_34 : decode cX12_way 34 = .ok (.ifCond .eq 12, 3) := by decide +kernel
theorem dX12_way_37 : decode cX12_way 37 = .ok (.aload_n 0, 1) := by decide +kernel
theorem dX12_way_38 : decode cX12_way 38 = .ok (.getfield 33, 3) := by decide +kernel
theorem dX12_way_41 : decode cX12_way 41 = .ok (.iload_n 3, 1) := by decide +kernel
theorem dX12_way_42 : decode cX12_way 42 = .ok (.iaload, 1) := by decide +kernel
theorem dX12_way_43 : decode cX12_way 43 = .ok (.goto 4, 3) := by decide +kernel
theorem dX12_way_46 : decode cX12_way 46 = .ok (.iconst (-1), 1) := by decide +kernel
theorem dX12_way_47 : decode cX12_way 47 = .ok (.ireturn, 1) := by decide +kernel
theorem dX12_hops_0 : decode cX12_hops 0 = .ok (.aload_n 0, 1) := by decide +kernel
theorem dX12_hops_1 : decode cX12_hops 1 = .ok (.iconst 0, 1) := by decide +kernel
theorem dX12_hops_2 : decode cX12_hops 2 = .ok (.putfield 51, 3) := by decide +kernel
theorem dX12_hops_5 : decode cX12_hops 5 = .ok (.aload_n 0, 1) := by decide +kernel
theorem dX12_hops_6 : decode cX12_hops 6 = .ok (.iload_n 1, 1) := by decide +kernel
theorem dX12_hops_7 : decode cX12_hops 7 = .ok (.iload_n 2, 1) := by decide +kernel
theorem dX12_hops_8 : decode cX12_hops 8 = .ok (.invokevirtual 373, 3) := by decide +kernel
theorem dX12_hops_11 : decode cX12_hops 11 = .ok (.ifCond .eq 21, 3) := by decide +kernel
theorem dX12_hops_14 : decode cX12_hops 14 = .ok (.aload_n 0, 1) := by decide +kernel
theorem dX12_hops_15 : decode cX12_hops 15 = .ok (.iload_n 1, 1) := by decide +kernel
theorem dX12_hops_16 : decode cX12_hops 16 = .ok (.iload_n 2, 1) := by decide +kernel
theorem dX12_hops_17 : decode cX12_hops 17 = .ok (.invokevirtual 265, 3) := by decide +kernel
theorem dX12_hops_20 : decode cX12_hops 20 = .ok (.ifCond .eq 12, 3) := by decide +kernel
theorem dX12_hops_23 : decode cX12_hops 23 = .ok (.aload_n 0, 1) := by decide +kernel
theorem dX12_hops_24 : decode cX12_hops 24 = .ok (.getfield 231, 3) := by decide +kernel
theorem dX12_hops_27 : decode cX12_hops 27 = .ok (.iconst 1, 1) := by decide +kernel
theorem dX12_hops_28 : decode cX12_hops 28 = .ok (.isub, 1) := by decide +kernel
theorem dX12_hops_29 : decode cX12_hops 29 = .ok (.goto 4, 3) := by decide +kernel
theorem dX12_hops_32 : decode cX12_hops 32 = .ok (.iconst (-1), 1) := by decide +kernel
theorem dX12_hops_33 : decode cX12_hops 33 = .ok (.ireturn, 1) := by decide +kernel
theorem dX12_ofDatum_0 : decode cX12_ofDatum 0 = .ok (.iload_n 2, 1) := by decide +kernel
theorem dX12_ofDatum_1 : decode cX12_ofDatum 1 = .ok (.iconst 0, 1) := by decide +kernel
theorem dX12_ofDatum_2 : decode cX12_ofDatum 2 = .ok (.bipush 8, 2) := by decide +kernel
theorem dX12_ofDatum_4 : decode cX12_ofDatum 4 = .ok (.invokestatic 55, 3) := by decide +kernel
theorem dX12_ofDatum_7 : decode cX12_ofDatum 7 = .ok (.ifCond .eq 12, 3) := by decide +kernel
theorem dX12_ofDatum_10 : decode cX12_ofDatum 10 = .ok (.aload_n 0, 1) := by decide +kernel
theorem dX12_ofDatum_11 : decode cX12_ofDatum 11 = .ok (.iload_n 1, 1) := by decide +kernel
theorem dX12_ofDatum_12 : decode cX12_ofDatum 12 = .ok (.iload_n 2, 1) := by decide +kernel
theorem dX12_ofDatum_13 : decode cX12_ofDatum 13 = .ok (.invokevirtual 246, 3) := by decide +kernel
theorem dX12_ofDatum_16 : decode cX12_ofDatum 16 = .ok (.goto 5, 3) := by decide +kernel
theorem dX12_ofDatum_19 : decode cX12_ofDatum 19 = .ok (.bipush (-2), 2) := by decide +kernel
theorem dX12_ofDatum_21 : decode cX12_ofDatum 21 = .ok (.ireturn, 1) := by decide +kernel
theorem dX12_data_0 : decode cX12_data 0 = .ok (.aload_n 0, 1) := by decide +kernel
theorem dX12_data_1 : decode cX12_data 1 = .ok (.iconst 0, 1) := by decide +kernel
theorem dX12_data_2 : decode cX12_data 2 = .ok (.putfield 51, 3) := by decide +kernel
theorem dX12_data_5 : decode cX12_data 5 = .ok (.iload_n 1, 1) := by decide +kernel
theorem dX12_data_6 : decode cX12_data 6 = .ok (.iconst 0, 1) := by decide +kernel
theorem dX12_data_7 : decode cX12_data 7 = .ok (.aload_n 0, 1) := by decide +kernel
theorem dX12_data_8 : decode cX12_data 8 = .ok (.getfield 7, 3) := by decide +kernel
theorem dX12_data_11 : decode cX12_data 11 = .ok (.bipush 9, 2) := by decide +kernel
theorem dX12_data_13 : decode cX12_data 13 = .ok (.iaload, 1) := by decide +kernel
theorem dX12_data_14 : decode cX12_data 14 = .ok (.iconst 1, 1) := by decide +kernel
theorem dX12_data_15 : decode cX12_data 15 = .ok (.isub, 1) := by decide +kernel
theorem dX12_data_16 : decode cX12_data 16 = .ok (.invokestatic 55, 3) := by decide +kernel
theorem dX12_data_19 : decode cX12_data 19 = .ok (.ifCond .eq 12, 3) := by decide +kernel
theorem dX12_data_22 : decode cX12_data 22 = .ok (.aload_n 0, 1) := by decide +kernel
theorem dX12_data_23 : decode cX12_data 23 = .ok (.iload_n 1, 1) := by decide +kernel
theorem dX12_data_24 : decode cX12_data 24 = .ok (.iload_n 2, 1) := by decide +kernel
theorem dX12_data_25 : decode cX12_data 25 = .ok (.invokevirtual 395, 3) := by decide +kernel
theorem dX12_data_28 : decode cX12_data 28 = .ok (.goto 5, 3) := by decide +kernel
theorem dX12_data_31 : decode cX12_data 31 = .ok (.bipush (-2), 2) := by decide +kernel
theorem dX12_data_33 : decode cX12_data 33 = .ok (.ireturn, 1) := by decide +kernel
theorem dX12_trail_0 : decode cX12_trail 0 = .ok (.aload_n 0, 1) := by decide +kernel
theorem dX12_trail_1 : decode cX12_trail 1 = .ok (.iconst 0, 1) := by decide +kernel
theorem dX12_trail_2 : decode cX12_trail 2 = .ok (.putfield 51, 3) := by decide +kernel
theorem dX12_trail_5 : decode cX12_trail 5 = .ok (.iload_n 1, 1) := by decide +kernel
theorem dX12_trail_6 : decode cX12_trail 6 = .ok (.iconst 0, 1) := by decide +kernel
theorem dX12_trail_7 : decode cX12_trail 7 = .ok (.aload_n 0, 1) := by decide +kernel
theorem dX12_trail_8 : decode cX12_trail 8 = .ok (.getfield 7, 3) := by decide +kernel
theorem dX12_trail_11 : decode cX12_trail 11 = .ok (.bipush 9, 2) := by decide +kernel
theorem dX12_trail_13 : decode cX12_trail 13 = .ok (.iaload, 1) := by decide +kernel
theorem dX12_trail_14 : decode cX12_trail 14 = .ok (.iconst 1, 1) := by decide +kernel
theorem dX12_trail_15 : decode cX12_trail 15 = .ok (.isub, 1) := by decide +kernel
theorem dX12_trail_16 : decode cX12_trail 16 = .ok (.invokestatic 55, 3) := by decide +kernel
theorem dX12_trail_19 : decode cX12_trail 19 = .ok (.ifCond .eq 27, 3) := by decide +kernel
theorem dX12_trail_22 : decode cX12_trail 22 = .ok (.iload_n 2, 1) := by decide +kernel
theorem dX12_trail_23 : decode cX12_trail 23 = .ok (.iconst 0, 1) := by decide +kernel
theorem dX12_trail_24 : decode cX12_trail 24 = .ok (.aload_n 0, 1) := by decide +kernel
theorem dX12_trail_25 : decode cX12_trail 25 = .ok (.iload_n 1, 1) := by decide +kernel
theorem dX12_trail_26 : decode cX12_trail 26 = .ok (.iload_n 3, 1) := by decide +kernel
theorem dX12_trail_27 : decode cX12_trail 27 = .ok (.ifCond .eq 7, 3) := by decide +kernel
theorem dX12_trail_30 : decode cX12_trail 30 = .ok (.iconst 5, 1) := by decide +kernel
theorem dX12_trail_31 : decode cX12_trail 31 = .ok (.goto 4, 3) := by decide +kernel
theorem dX12_trail_34 : decode cX12_trail 34 = .ok (.iconst 4, 1) := by decide +kernel
theorem dX12_trail_35 : decode cX12_trail 35 = .ok (.invokevirtual 246, 3) := by decide +kernel
theorem dX12_trail_38 : decode cX12_trail 38 = .ok (.iconst 1, 1) := by decide +kernel
theorem dX12_trail_39 : decode cX12_trail 39 = .ok (.isub, 1) := by decide +kernel
theorem dX12_trail_40 : decode cX12_trail 40 = .ok (.invokestatic 55, 3) := by decide +kernel
theorem dX12_trail_43 : decode cX12_trail 43 = .ok (.ifCond .ne 5, 3) := by decide +kernel
theorem dX12_trail_46 : decode cX12_trail 46 = .ok (.iconst (-1), 1) := by decide +kernel
theorem dX12_trail_47 : decode cX12_trail 47 = .ok (.ireturn, 1) := by decide +kernel
theorem dX12_trail_48 : decode cX12_trail 48 = .ok (.aload_n 0, 1) := by decide +kernel
theorem dX12_trail_49 : decode cX12_trail 49 = .ok (.iload_n 1, 1) := by decide +kernel
theorem dX12_trail_50 : decode cX12_trail 50 = .ok (.iload_n 3, 1) := by decide +kernel
theorem dX12_trail_51 : decode cX12_trail 51 = .ok (.ifCond .eq 8, 3) := by decide +kernel
theorem dX12_trail_54 : decode cX12_trail 54 = .ok (.bipush 18, 2) := by decide +kernel
theorem dX12_trail_56 : decode cX12_trail 56 = .ok (.goto 5, 3) := by decide +kernel
theorem dX12_trail_59 : decode cX12_trail 59 = .ok (.bipush 10, 2) := by decide +kernel
theorem dX12_trail_61 : decode cX12_trail 61 = .ok (.iload_n 2, 1) := by decide +kernel
theorem dX12_trail_62 : decode cX12_trail 62 = .ok (.iadd, 1) := by decide +kernel
theorem dX12_trail_63 : decode cX12_trail 63 = .ok (.invokevirtual 246, 3) := by decide +kernel
theorem dX12_trail_66 : decode cX12_trail 66 = .ok (.ireturn, 1) := by decide +kernel
theorem dX12_frameAt_0 : decode cX12_frameAt 0 = .ok (.aload_n 0, 1) := by decide +kernel
theorem dX12_frameAt_1 : decode cX12_frameAt 1 = .ok (.getfield 7, 3) := by decide +kernel
theorem dX12_frameAt_4 : decode cX12_frameAt 4 = .ok (.sipush 777, 3) := by decide +kernel
theorem dX12_frameAt_7 : decode cX12_frameAt 7 = .ok (.bipush 16, 2) := by decide +kernel
theorem dX12_frameAt_9 : decode cX12_frameAt 9 = .ok (.iload_n 1, 1) := by decide +kernel
theorem dX12_frameAt_10 : decode cX12_frameAt 10 = .ok (.imul, 1) := by decide +kernel
theorem dX12_frameAt_11 : decode cX12_frameAt 11 = .ok (.iadd, 1) := by decide +kernel
theorem dX12_frameAt_12 : decode cX12_frameAt 12 = .ok (.iload_n 2, 1) := by decide +kernel
theorem dX12_frameAt_13 : decode cX12_frameAt 13 = .ok (.iadd, 1) := by decide +kernel
theorem dX12_frameAt_14 : decode cX12_frameAt 14 = .ok (.iaload, 1) := by decide +kernel
theorem dX12_frameAt_15 : decode cX12_frameAt 15 = .ok (.ireturn, 1) := by decide +kernel
theorem dX12_whomOf_0 : decode cX12_whomOf 0 = .ok (.aload_n 0, 1) := by decide +kernel
theorem dX12_whomOf_1 : decode cX12_whomOf 1 = .ok (.iload_n 1, 1) := by decide +kernel
theorem dX12_whomOf_2 : decode cX12_whomOf 2 = .ok (.iconst 0, 1) := by decide +kernel
theorem dX12_whomOf_3 : decode cX12_whomOf 3 = .ok (.invokevirtual 398, 3) := by decide +kernel
theorem dX12_whomOf_6 : decode cX12_whomOf 6 = .ok (.istore_n 2, 1) := by decide +kernel
theorem dX12_whomOf_7 : decode cX12_whomOf 7 = .ok (.iload_n 2, 1) := by decide +kernel
theorem dX12_whomOf_8 : decode cX12_whomOf 8 = .ok (.ifCond .ne 16, 3) := by decide +kernel
theorem dX12_whomOf_11 : decode cX12_whomOf 11 = .ok (.aload_n 0, 1) := by decide +kernel
theorem dX12_whomOf_12 : decode cX12_whomOf 12 = .ok (.aload_n 0, 1) := by decide +kernel
theorem dX12_whomOf_13 : decode cX12_whomOf 13 = .ok (.iload_n 1, 1) := by decide +kernel
theorem dX12_whomOf_14 : decode cX12_whomOf 14 = .ok (.iconst 2, 1) := by decide +kernel
theorem dX12_whomOf_15 : decode cX12_whomOf 15 = .ok (.invokevirtual 398, 3) := by decide +kernel
theorem dX12_whomOf_18 : decode cX12_whomOf 18 = .ok (.bipush 19, 2) := by decide +kernel
theorem dX12_whomOf_20 : decode cX12_whomOf 20 = .ok (.invokevirtual 246, 3) := by decide +kernel
theorem dX12_whomOf_23 : decode cX12_whomOf 23 = .ok (.ireturn, 1) := by decide +kernel
theorem dX12_whomOf_24 : decode cX12_whomOf 24 = .ok (.aload_n 0, 1) := by decide +kernel
theorem dX12_whomOf_25 : decode cX12_whomOf 25 = .ok (.iload_n 1, 1) := by decide +kernel
theorem dX12_whomOf_26 : decode cX12_whomOf 26 = .ok (.bipush 6, 2) := by decide +kernel
theorem dX12_whomOf_28 : decode cX12_whomOf 28 = .ok (.invokevirtual 398, 3) := by decide +kernel
theorem dX12_whomOf_31 : decode cX12_whomOf 31 = .ok (.istore_n 3, 1) := by decide +kernel
theorem dX12_whomOf_32 : decode cX12_whomOf 32 = .ok (.iconst 0, 1) := by decide +kernel
theorem dX12_whomOf_33 : decode cX12_whomOf 33 = .ok (.istore 4, 2) := by decide +kernel
theorem dX12_whomOf_35 : decode cX12_whomOf 35 = .ok (.iload 4, 2) := by decide +kernel
theorem dX12_whomOf_37 : decode cX12_whomOf 37 = .ok (.iload_n 3, 1) := by decide +kernel
theorem dX12_whomOf_38 : decode cX12_whomOf 38 = .ok (.if_icmp .ge 58, 3) := by decide +kernel
theorem dX12_whomOf_41 : decode cX12_whomOf 41 = .ok (.iload_n 2, 1) := by decide +kernel
theorem dX12_whomOf_42 : decode cX12_whomOf 42 = .ok (.iconst 1, 1) := by decide +kernel
theorem dX12_whomOf_43 : decode cX12_whomOf 43 = .ok (.if_icmp .eq 53, 3) := by decide +kernel
theorem dX12_whomOf_46 : decode cX12_whomOf 46 = .ok (.aload_n 0, 1) := by decide +kernel
theorem dX12_whomOf_47 : decode cX12_whomOf 47 = .ok (.iload_n 1, 1) := by decide +kernel
theorem dX12_whomOf_48 : decode cX12_whomOf 48 = .ok (.bipush 7, 2) := by decide +kernel
theorem dX12_whomOf_50 : decode cX12_whomOf 50 = .ok (.iload 4, 2) := by decide +kernel
theorem dX12_whomOf_52 : decode cX12_whomOf 52 = .ok (.iadd, 1) := by decide +kernel
theorem dX12_whomOf_53 : decode cX12_whomOf 53 = .ok (.invokevirtual 398, 3) := by decide +kernel
theorem dX12_whomOf_56 : decode cX12_whomOf 56 = .ok (.aload_n 0, 1) := by decide +kernel
theorem dX12_whomOf_57 : decode cX12_whomOf 57 = .ok (.iload_n 1, 1) := by decide +kernel
theorem dX12_whomOf_58 : decode cX12_whomOf 58 = .ok (.iconst 1, 1) := by decide +kernel
theorem dX12_whomOf_59 : decode cX12_whomOf 59 = .ok (.invokevirtual 398, 3) := by decide +kernel
theorem dX12_whomOf_62 : decode cX12_whomOf 62 = .ok (.if_icmp .ne 28, 3) := by decide +kernel
theorem dX12_whomOf_65 : decode cX12_whomOf 65 = .ok (.aload_n 0, 1) := by decide +kernel
theorem dX12_whomOf_66 : decode cX12_whomOf 66 = .ok (.iload_n 1, 1) := by decide +kernel
theorem dX12_whomOf_67 : decode cX12_whomOf 67 = .ok (.bipush 7, 2) := by decide +kernel
theorem dX12_whomOf_69 : decode cX12_whomOf 69 = .ok (.iload_n 2, 1) := by decide +kernel
theorem dX12_whomOf_70 : decode cX12_whomOf 70 = .ok (.iconst 2, 1) := by decide +kernel
theorem dX12_whomOf_71 : decode cX12_whomOf 71 = .ok (.if_icmp .ne 10, 3) := by decide +kernel
theorem dX12_whomOf_74 : decode cX12_whomOf 74 = .ok (.iload 4, 2) := by decide +kernel
theorem dX12_whomOf_76 : decode cX12_whomOf 76 = .ok (.iconst 1, 1) := by decide +kernel
theorem dX12_whomOf_77 : decode cX12_whomOf 77 = .ok (.isub, 1) := by decide +kernel
theorem dX12_whomOf_78 : decode cX12_whomOf 78 = .ok (.goto 7, 3) := by decide +kernel
theorem dX12_whomOf_81 : decode cX12_whomOf 81 = .ok (.iload 4, 2) := by decide +kernel
theorem dX12_whomOf_83 : decode cX12_whomOf 83 = .ok (.iconst 1, 1) := by decide +kernel
theorem dX12_whomOf_84 : decode cX12_whomOf 84 = .ok (.iadd, 1) := by decide +kernel
theorem dX12_whomOf_85 : decode cX12_whomOf 85 = .ok (.iadd, 1) := by decide +kernel
theorem dX12_whomOf_86 : decode cX12_whomOf 86 = .ok (.invokevirtual 398, 3) := by decide +kernel
theorem dX12_whomOf_89 : decode cX12_whomOf 89 = .ok (.ireturn, 1) := by decide +kernel
theorem dX12_whomOf_90 : decode cX12_whomOf 90 = .ok (.iinc 4 1, 3) := by decide +kernel
theorem dX12_whomOf_93 : decode cX12_whomOf 93 = .ok (.goto (-58), 3) := by decide +kernel
theorem dX12_whomOf_96 : decode cX12_whomOf 96 = .ok (.iconst (-1), 1) := by decide +kernel
theorem dX12_whomOf_97 : decode cX12_whomOf 97 = .ok (.ireturn, 1) := by decide +kernel
theorem dX12_whatOf_0 : decode cX12_whatOf 0 = .ok (.aload_n 0, 1) := by decide +kernel
theorem dX12_whatOf_1 : decode cX12_whatOf 1 = .ok (.iload_n 1, 1) := by decide +kernel
theorem dX12_whatOf_2 : decode cX12_whatOf 2 = .ok (.iconst 0, 1) := by decide +kernel
theorem dX12_whatOf_3 : decode cX12_whatOf 3 = .ok (.invokevirtual 398, 3) := by decide +kernel
theorem dX12_whatOf_6 : decode cX12_whatOf 6 = .ok (.istore_n 2, 1) := by decide +kernel
theorem dX12_whatOf_7 : decode cX12_whatOf 7 = .ok (.iload_n 2, 1) := by decide +kernel
theorem dX12_whatOf_8 : decode cX12_whatOf 8 = .ok (.iconst 2, 1) := by decide +kernel
theorem dX12_whatOf_9 : decode cX12_whatOf 9 = .ok (.if_icmp .ne 21, 3) := by decide +kernel
theorem dX12_whatOf_12 : decode cX12_whatOf 12 = .ok (.aload_n 0, 1) := by decide +kernel
theorem dX12_whatOf_13 : decode cX12_whatOf 13 = .ok (.iload_n 1, 1) := by decide +kernel
theorem dX12_whatOf_14 : decode cX12_whatOf 14 = .ok (.bipush 6, 2) := by decide +kernel
theorem dX12_whatOf_16 : decode cX12_whatOf 16 = .ok (.aload_n 0, 1) := by decide +kernel
theorem dX12_whatOf_17 : decode cX12_whatOf 17 = .ok (.iload_n 1, 1) := by decide +kernel
theorem dX12_whatOf_18 : decode cX12_whatOf 18 = .ok (.bipush 6, 2) := by decide +kernel
theorem dX12_whatOf_20 : decode cX12_whatOf 20 = .ok (.invokevirtual 398, 3) := by decide +kernel
theorem dX12_whatOf_23 : decode cX12_whatOf 23 = .ok (.iadd, 1) := by decide +kernel
theorem dX12_whatOf_24 : decode cX12_whatOf 24 = .ok (.invokevirtual 398, 3) := by decide +kernel
theorem dX12_whatOf_27 : decode cX12_whatOf 27 = .ok (.goto 18, 3) := by decide +kernel
theorem dX12_whatOf_30 : decode cX12_whatOf 30 = .ok (.aload_n 0, 1) := by decide +kernel
theorem dX12_whatOf_31 : decode cX12_whatOf 31 = .ok (.iload_n 1, 1) := by decide +kernel
theorem dX12_whatOf_32 : decode cX12_whatOf 32 = .ok (.iload_n 2, 1) := by decide +kernel
theorem dX12_whatOf_33 : decode cX12_whatOf 33 = .ok (.iconst 3, 1) := by decide +kernel
theorem dX12_whatOf_34 : decode cX12_whatOf 34 = .ok (.if_icmp .ne 7, 3) := by decide +kernel
theorem dX12_whatOf_37 : decode cX12_whatOf 37 = .ok (.iconst 5, 1) := by decide +kernel
theorem dX12_whatOf_38 : decode cX12_whatOf 38 = .ok (.goto 4, 3) := by decide +kernel
theorem dX12_whatOf_41 : decode cX12_whatOf 41 = .ok (.iconst 2, 1) := by decide +kernel
theorem dX12_whatOf_42 : decode cX12_whatOf 42 = .ok (.invokevirtual 398, 3) := by decide +kernel
theorem dX12_whatOf_45 : decode cX12_whatOf 45 = .ok (.ireturn, 1) := by decide +kernel
theorem dX12_air_0 : decode cX12_air 0 = .ok (.aload_n 0, 1) := by decide +kernel
theorem dX12_air_1 : decode cX12_air 1 = .ok (.iconst 0, 1) := by decide +kernel
theorem dX12_air_2 : decode cX12_air 2 = .ok (.putfield 51, 3) := by decide +kernel
theorem dX12_air_5 : decode cX12_air 5 = .ok (.iload_n 1, 1) := by decide +kernel
theorem dX12_air_6 : decode cX12_air 6 = .ok (.iconst 0, 1) := by decide +kernel
theorem dX12_air_7 : decode cX12_air 7 = .ok (.aload_n 0, 1) := by decide +kernel
theorem dX12_air_8 : decode cX12_air 8 = .ok (.getfield 7, 3) := by decide +kernel
theorem dX12_air_11 : decode cX12_air 11 = .ok (.bipush 10, 2) := by decide +kernel
theorem dX12_air_13 : decode cX12_air 13 = .ok (.iaload, 1) := by decide +kernel
theorem dX12_air_14 : decode cX12_air 14 = .ok (.iconst 1, 1) := by decide +kernel
theorem dX12_air_15 : decode cX12_air 15 = .ok (.isub, 1) := by decide +kernel
theorem dX12_air_16 : decode cX12_air 16 = .ok (.invokestatic 55, 3) := by decide +kernel
theorem dX12_air_19 : decode cX12_air 19 = .ok (.ifCond .ne 6, 3) := by decide +kernel
theorem dX12_air_22 : decode cX12_air 22 = .ok (.bipush (-2), 2) := by decide +kernel
theorem dX12_air_24 : decode cX12_air 24 = .ok (.ireturn, 1) := by decide +kernel
theorem dX12_air_25 : decode cX12_air 25 = .ok (.iload_n 2, 1) := by decide +kernel
theorem dX12_air_26 : decode cX12_air 26 = .ok (.tableswitch 80 0 5 #[38, 38, 45, 51, 57, 57], 38) := by decide +kernel
theorem dX12_air_64 : decode cX12_air 64 = .ok (.aload_n 0, 1) := by decide +kernel
theorem dX12_air_65 : decode cX12_air 65 = .ok (.iload_n 1, 1) := by decide +kernel
theorem dX12_air_66 : decode cX12_air 66 = .ok (.iload_n 2, 1) := by decide +kernel
theorem dX12_air_67 : decode cX12_air 67 = .ok (.invokevirtual 398, 3) := by decide +kernel
theorem dX12_air_70 : decode cX12_air 70 = .ok (.ireturn, 1) := by decide +kernel
theorem dX12_air_71 : decode cX12_air 71 = .ok (.aload_n 0, 1) := by decide +kernel
theorem dX12_air_72 : decode cX12_air 72 = .ok (.iload_n 1, 1) := by decide +kernel
theorem dX12_air_73 : decode cX12_air 73 = .ok (.invokevirtual 401, 3) := by decide +kernel
theorem dX12_air_76 : decode cX12_air 76 = .ok (.ireturn, 1) := by decide +kernel
theorem dX12_air_77 : decode cX12_air 77 = .ok (.aload_n 0, 1) := by decide +kernel
theorem dX12_air_78 : decode cX12_air 78 = .ok (.iload_n 1, 1) := by decide +kernel
theorem dX12_air_79 : decode cX12_air 79 = .ok (.invokevirtual 404, 3) := by decide +kernel
theorem dX12_air_82 : decode cX12_air 82 = .ok (.ireturn, 1) := by decide +kernel
theorem dX12_air_83 : decode cX12_air 83 = .ok (.aload_n 0, 1) := by decide +kernel
theorem dX12_air_84 : decode cX12_air 84 = .ok (.iload_n 1, 1) := by decide +kernel
theorem dX12_air_85 : decode cX12_air 85 = .ok (.iconst 0, 1) := by decide +kernel
theorem dX12_air_86 : decode cX12_air 86 = .ok (.invokevirtual 398, 3) := by decide +kernel
theorem dX12_air_89 : decode cX12_air 89 = .ok (.iconst 1, 1) := by decide +kernel
theorem dX12_air_90 : decode cX12_air 90 = .ok (.if_icmp .ne 14, 3) := by decide +kernel
theorem dX12_air_93 : decode cX12_air 93 = .ok (.aload_n 0, 1) := by decide +kernel
theorem dX12_air_94 : decode cX12_air 94 = .ok (.iload_n 1, 1) := by decide +kernel
theorem dX12_air_95 : decode cX12_air 95 = .ok (.iload_n 2, 1) := by decide +kernel
theorem dX12_air_96 : decode cX12_air 96 = .ok (.iconst 1, 1) := by decide +kernel
theorem dX12_air_97 : decode cX12_air 97 = .ok (.isub, 1) := by decide +kernel
theorem dX12_air_98 : decode cX12_air 98 = .ok (.invokevirtual 398, 3) := by decide +kernel
theorem dX12_air_101 : decode cX12_air 101 = .ok (.goto 4, 3) := by decide +kernel
theorem dX12_air_104 : decode cX12_air 104 = .ok (.iconst (-1), 1) := by decide +kernel
theorem dX12_air_105 : decode cX12_air 105 = .ok (.ireturn, 1) := by decide +kernel
theorem dX12_air_106 : decode cX12_air 106 = .ok (.bipush (-2), 2) := by decide +kernel
theorem dX12_air_108 : decode cX12_air 108 = .ok (.ireturn, 1) := by decide +kernel
theorem dX12_row_0 : decode cX12_row 0 = .ok (.aload_n 0, 1) := by decide +kernel
theorem dX12_row_1 : decode cX12_row 1 = .ok (.iconst 0, 1) := by decide +kernel
theorem dX12_row_2 : decode cX12_row 2 = .ok (.putfield 51, 3) := by decide +kernel
theorem dX12_row_5 : decode cX12_row 5 = .ok (.iload_n 1, 1) := by decide +kernel
theorem dX12_row_6 : decode cX12_row 6 = .ok (.iconst 0, 1) := by decide +kernel
theorem dX12_row_7 : decode cX12_row 7 = .ok (.aload_n 0, 1) := by decide +kernel
theorem dX12_row_8 : decode cX12_row 8 = .ok (.getfield 7, 3) := by decide +kernel
theorem dX12_row_11 : decode cX12_row 11 = .ok (.bipush 10, 2) := by decide +kernel
theorem dX12_row_13 : decode cX12_row 13 = .ok (.iaload, 1) := by decide +kernel
theorem dX12_row_14 : decode cX12_row 14 = .ok (.iconst 1, 1) := by decide +kernel
theorem dX12_row_15 : decode cX12_row 15 = .ok (.isub, 1) := by decide +kernel
theorem dX12_row_16 : decode cX12_row 16 = .ok (.invokestatic 55, 3) := by decide +kernel
theorem dX12_row_19 : decode cX12_row 19 = .ok (.ifCond .ne 5, 3) := by decide +kernel
theorem dX12_row_22 : decode cX12_row 22 = .ok (.iconst (-1), 1) := by decide +kernel
theorem dX12_row_23 : decode cX12_row 23 = .ok (.ireturn, 1) := by decide +kernel
theorem dX12_row_24 : decode cX12_row 24 = .ok (.aload_n 0, 1) := by decide +kernel
theorem dX12_row_25 : decode cX12_row 25 = .ok (.iload_n 1, 1) := by decide +kernel
theorem dX12_row_26 : decode cX12_row 26 = .ok (.iconst 0, 1) := by decide +kernel
theorem dX12_row_27 : decode cX12_row 27 = .ok (.invokevirtual 398, 3) := by decide +kernel
theorem dX12_row_30 : decode cX12_row 30 = .ok (.ifCond .ne 43, 3) := by decide +kernel
theorem dX12_row_33 : decode cX12_row 33 = .ok (.iload_n 2, 1) := by decide +kernel
theorem dX12_row_34 : decode cX12_row 34 = .ok (.iconst 0, 1) := by decide +kernel
theorem dX12_row_35 : decode cX12_row 35 = .ok (.aload_n 0, 1) := by decide +kernel
theorem dX12_row_36 : decode cX12_row 36 = .ok (.aload_n 0, 1) := by decide +kernel
theorem dX12_row_37 : decode cX12_row 37 = .ok (.iload_n 1, 1) := by decide +kernel
theorem dX12_row_38 : decode cX12_row 38 = .ok (.iconst 2, 1) := by decide +kernel
theorem dX12_row_39 : decode cX12_row 39 = .ok (.invokevirtual 398, 3) := by decide +kernel
theorem dX12_row_42 : decode cX12_row 42 = .ok (.iconst 5, 1) := by decide +kernel
theorem dX12_row_43 : decode cX12_row 43 = .ok (.invokevirtual 246, 3) := by decide +kernel
theorem dX12_row_46 : decode cX12_row 46 = .ok (.iconst 1, 1) := by decide +kernel
theorem dX12_row_47 : decode cX12_row 47 = .ok (.isub, 1) := by decide +kernel
theorem dX12_row_48 : decode cX12_row 48 = .ok (.invokestatic 55, 3) := by decide +kernel
theorem dX12_row_51 : decode cX12_row 51 = .ok (.ifCond .eq 20, 3) := by decide +kernel
theorem dX12_row_54 : decode cX12_row 54 = .ok (.aload_n 0, 1) := by decide +kernel
theorem dX12_row_55 : decode cX12_row 55 = .ok (.aload_n 0, 1) := by decide +kernel
theorem dX12_row_56 : decode cX12_row 56 = .ok (.iload_n 1, 1) := by decide +kernel
theorem dX12_row_57 : decode cX12_row 57 = .ok (.iconst 2, 1) := by decide +kernel
theorem dX12_row_58 : decode cX12_row 58 = .ok (.invokevirtual 398, 3) := by decide +kernel
theorem dX12_row_61 : decode cX12_row 61 = .ok (.bipush 18, 2) := by decide +kernel
theorem dX12_row_63 : decode cX12_row 63 = .ok (.iload_n 2, 1) := by decide +kernel
theorem dX12_row_64 : decode cX12_row 64 = .ok (.iadd, 1) := by decide +kernel
theorem dX12_row_65 : decode cX12_row 65 = .ok (.invokevirtual 246, 3) := by decide +kernel
theorem dX12_row_68 : decode cX12_row 68 = .ok (.goto 4, 3) := by decide +kernel
theorem dX12_row_71 : decode cX12_row 71 = .ok (.iconst (-1), 1) := by decide +kernel
theorem dX12_row_72 : decode cX12_row 72 = .ok (.ireturn, 1) := by decide +kernel
theorem dX12_row_73 : decode cX12_row 73 = .ok (.iload_n 2, 1) := by decide +kernel
theorem dX12_row_74 : decode cX12_row 74 = .ok (.iconst 0, 1) := by decide +kernel
theorem dX12_row_75 : decode cX12_row 75 = .ok (.aload_n 0, 1) := by decide +kernel
theorem dX12_row_76 : decode cX12_row 76 = .ok (.iload_n 1, 1) := by decide +kernel
theorem dX12_row_77 : decode cX12_row 77 = .ok (.bipush 6, 2) := by decide +kernel
theorem dX12_row_79 : decode cX12_row 79 = .ok (.invokevirtual 398, 3) := by decide +kernel
theorem dX12_row_82 : decode cX12_row 82 = .ok (.iconst 1, 1) := by decide +kernel
theorem dX12_row_83 : decode cX12_row 83 = .ok (.isub, 1) := by decide +kernel
theorem dX12_row_84 : decode cX12_row 84 = .ok (.invokestatic 55, 3) := by decide +kernel
theorem dX12_row_87 : decode cX12_row 87 = .ok (.ifCond .eq 15, 3) := by decide +kernel
theorem dX12_row_90 : decode cX12_row 90 = .ok (.aload_n 0, 1) := by decide +kernel
theorem dX12_row_91 : decode cX12_row 91 = .ok (.iload_n 1, 1) := by decide +kernel
theorem dX12_row_92 : decode cX12_row 92 = .ok (.bipush 7, 2) := by decide +kernel
theorem dX12_row_94 : decode cX12_row 94 = .ok (.iload_n 2, 1) := by decide +kernel
theorem dX12_row_95 : decode cX12_row 95 = .ok (.iadd, 1) := by decide +kernel
theorem dX12_row_96 : decode cX12_row 96 = .ok (.invokevirtual 398, 3) := by decide +kernel
theorem dX12_row_99 : decode cX12_row 99 = .ok (.goto 4, 3) := by decide +kernel
theorem dX12_row_102 : decode cX12_row 102 = .ok (.iconst (-1), 1) := by decide +kernel
theorem dX12_row_103 : decode cX12_row 103 = .ok (.ireturn, 1) := by decide +kernel
theorem dX12_tally__0 : decode cX12_tally_ 0 = .ok (.aload_n 0, 1) := by decide +kernel
theorem dX12_tally__1 : decode cX12_tally_ 1 = .ok (.iconst 0, 1) := by decide +kernel
theorem dX12_tally__2 : decode cX12_tally_ 2 = .ok (.putfield 51, 3) := by decide +kernel
theorem dX12_tally__5 : decode cX12_tally_ 5 = .ok (.iload_n 1, 1) := by decide +kernel
theorem dX12_tally__6 : decode cX12_tally_ 6 = .ok (.iconst 0, 1) := by decide +kernel
theorem dX12_tally__7 : decode cX12_tally_ 7 = .ok (.bipush 10, 2) := by decide +kernel
theorem dX12_tally__9 : decode cX12_tally_ 9 = .ok (.invokestatic 55, 3) := by decide +kernel
theorem dX12_tally__12 : decode cX12_tally_ 12 = .ok (.ifCond .eq 15, 3) := by decide +kernel
theorem dX12_tally__15 : decode cX12_tally_ 15 = .ok (.aload_n 0, 1) := by decide +kernel
theorem dX12_tally__16 : decode cX12_tally_ 16 = .ok (.getfield 7, 3) := by decide +kernel
theorem dX12_tally__19 : decode cX12_tally_ 19 = .ok (.bipush 14, 2) := by decide +kernel
theorem dX12_tally__21 : decode cX12_tally_ 21 = .ok (.iload_n 1, 1) := by decide +kernel
theorem dX12_tally__22 : decode cX12_tally_ 22 = .ok (.iadd, 1) := by decide +kernel
theorem dX12_tally__23 : decode cX12_tally_ 23 = .ok (.iaload, 1) := by decide +kernel
theorem dX12_tally__24 : decode cX12_tally_ 24 = .ok (.goto 4, 3) := by decide +kernel
theorem dX12_tally__27 : decode cX12_tally_ 27 = .ok (.iconst (-1), 1) := by decide +kernel
theorem dX12_tally__28 : decode cX12_tally_ 28 = .ok (.ireturn, 1) := by decide +kernel
theorem dX12_laysUp_0 : decode cX12_laysUp 0 = .ok (.iconst 0, 1) := by decide +kernel
theorem dX12_laysUp_1 : decode cX12_laysUp 1 = .ok (.istore_n 1, 1) := by decide +kernel
theorem dX12_laysUp_2 : decode cX12_laysUp 2 = .ok (.iload_n 1, 1) := by decide +kernel
theorem dX12_laysUp_3 : decode cX12_laysUp 3 = .ok (.bipush 64, 2) := by decide +kernel
theorem dX12_laysUp_5 : decode cX12_laysUp 5 = .ok (.if_icmp .ge 33, 3) := by decide +kernel
theorem dX12_laysUp_8 : decode cX12_laysUp 8 = .ok (.aload_n 0, 1) := by decide +kernel
theorem dX12_laysUp_9 : decode cX12_laysUp 9 = .ok (.getfield 36, 3) := by decide +kernel
theorem dX12_laysUp_12 : decode cX12_laysUp 12 = .ok (.iload_n 1, 1) := by decide +kernel
theorem dX12_laysUp_13 : decode cX12_laysUp 13 = .ok (.aload_n 0, 1) := by decide +kernel
theorem dX12_laysUp_14 : decode cX12_laysUp 14 = .ok (.getfield 7, 3) := by decide +kernel
theorem dX12_laysUp_17 : decode cX12_laysUp 17 = .ok (.bipush 25, 2) := by decide +kernel
theorem dX12_laysUp_19 : decode cX12_laysUp 19 = .ok (.iload_n 1, 1) := by decide +kernel
theorem dX12_laysUp_20 : decode cX12_laysUp 20 = .ok (.iadd, 1) := by decide +kernel
theorem dX12_laysUp_21 : decode cX12_laysUp 21 = .ok (.iaload, 1) := by decide +kernel
theorem dX12_laysUp_22 : decode cX12_laysUp 22 = .ok (.iconst 1, 1) := by decide +kernel
theorem dX12_laysUp_23 : decode cX12_laysUp 23 = .ok (.if_icmp .ne 7, 3) := by decide +kernel
theorem dX12_laysUp_26 : decode cX12_laysUp 26 = .ok (.iconst 1, 1) := by decide +kernel
theorem dX12_laysUp_27 : decode cX12_laysUp 27 = .ok (.goto 4, 3) := by decide +kernel
theorem dX12_laysUp_30 : decode cX12_laysUp 30 = .ok (.iconst 0, 1) := by decide +kernel
theorem dX12_laysUp_31 : decode cX12_laysUp 31 = .ok (.bastore, 1) := by decide +kernel
theorem dX12_laysUp_32 : decode cX12_laysUp 32 = .ok (.iinc 1 1, 3) := by decide +kernel
theorem dX12_laysUp_35 : decode cX12_laysUp 35 = .ok (.goto (-33), 3) := by decide +kernel
theorem dX12_laysUp_38 : decode cX12_laysUp 38 = .ok (.return_, 1) := by decide +kernel
theorem dX12_far_0 : decode cX12_far 0 = .ok (.aload_n 0, 1) := by decide +kernel
theorem dX12_far_1 : decode cX12_far 1 = .ok (.iconst 0, 1) := by decide +kernel
theorem dX12_far_2 : decode cX12_far 2 = .ok (.putfield 51, 3) := by decide +kernel
theorem dX12_far_5 : decode cX12_far 5 = .ok (.aload_n 0, 1) := by decide +kernel
theorem dX12_far_6 : decode cX12_far 6 = .ok (.iload_n 1, 1) := by decide +kernel
theorem dX12_far_7 : decode cX12_far 7 = .ok (.invokevirtual 59, 3) := by decide +kernel
theorem dX12_far_10 : decode cX12_far 10 = .ok (.ifCond .eq 11, 3) := by decide +kernel
theorem dX12_far_13 : decode cX12_far 13 = .ok (.aload_n 0, 1) := by decide +kernel
theorem dX12_far_14 : decode cX12_far 14 = .ok (.iload_n 2, 1) := by decide +kernel
theorem dX12_far_15 : decode cX12_far 15 = .ok (.invokevirtual 59, 3) := by decide +kernel
theorem dX12_far_18 : decode cX12_far 18 = .ok (.ifCond .ne 5, 3) := by decide +kernel
theorem dX12_far_21 : decode cX12_far 21 = .ok (.iconst (-1), 1) := by decide +kernel
theorem dX12_far_22 : decode cX12_far 22 = .ok (.ireturn, 1) := by decide +kernel
theorem dX12_far_23 : decode cX12_far 23 = .ok (.aload_n 0, 1) := by decide +kernel
theorem dX12_far_24 : decode cX12_far 24 = .ok (.invokevirtual 407, 3) := by decide +kernel
theorem dX12_far_27 : decode cX12_far 27 = .ok (.aload_n 0, 1) := by decide +kernel
theorem dX12_far_28 : decode cX12_far 28 = .ok (.iload_n 2, 1) := by decide +kernel
theorem dX12_far_29 : decode cX12_far 29 = .ok (.invokevirtual 228, 3) := by decide +kernel
theorem dX12_far_32 : decode cX12_far 32 = .ok (.aload_n 0, 1) := by decide +kernel
theorem dX12_far_33 : decode cX12_far 33 = .ok (.getfield 39, 3) := by decide +kernel
theorem dX12_far_36 : decode cX12_far 36 = .ok (.iload_n 1, 1) := by decide +kernel
theorem dX12_far_37 : decode cX12_far 37 = .ok (.iaload, 1) := by decide +kernel
theorem dX12_far_38 : decode cX12_far 38 = .ok (.bipush 99, 2) := by decide +kernel
theorem dX12_far_40 : decode cX12_far 40 = .ok (.if_icmp .ge 12, 3) := by decide +kernel
theorem dX12_far_43 : decode cX12_far 43 = .ok (.aload_n 0, 1) := by decide +kernel
theorem dX12_far_44 : decode cX12_far 44 = .ok (.getfield 39, 3) := by decide +kernel
theorem dX12_far_47 : decode cX12_far 47 = .ok (.iload_n 1, 1) := by decide +kernel
theorem dX12_far_48 : decode cX12_far 48 = .ok (.iaload, 1) := by decide +kernel
theorem dX12_far_49 : decode cX12_far 49 = .ok (.goto 4, 3) := by decide +kernel
theorem dX12_far_52 : decode cX12_far 52 = .ok (.iconst (-1), 1) := by decide +kernel
theorem dX12_far_53 : decode cX12_far 53 = .ok (.ireturn, 1) := by decide +kernel
theorem dX12_holders_0 : decode cX12_holders 0 = .ok (.aload_n 0, 1) := by decide +kernel
theorem dX12_holders_1 : decode cX12_holders 1 = .ok (.iconst 0, 1) := by decide +kernel
theorem dX12_holders_2 : decode cX12_holders 2 = .ok (.putfield 51, 3) := by decide +kernel
theorem dX12_holders_5 : decode cX12_holders 5 = .ok (.aload_n 0, 1) := by decide +kernel
theorem dX12_holders_6 : decode cX12_holders 6 = .ok (.iload_n 1, 1) := by decide +kernel
theorem dX12_holders_7 : decode cX12_holders 7 = .ok (.iload_n 2, 1) := by decide +kernel
theorem dX12_holders_8 : decode cX12_holders 8 = .ok (.invokevirtual 373, 3) := by decide +kernel
theorem dX12_holders_11 : decode cX12_holders 11 = .ok (.ifCond .ne 5, 3) := by decide +kernel
theorem dX12_holders_14 : decode cX12_holders 14 = .ok (.iconst (-1), 1) := by decide +kernel
theorem dX12_holders_15 : decode cX12_holders 15 = .ok (.ireturn, 1) := by decide +kernel
theorem dX12_holders_16 : decode cX12_holders 16 = .ok (.iconst 0, 1) := by decide +kernel
theorem dX12_holders_17 : decode cX12_holders 17 = .ok (.istore_n 3, 1) := by decide +kernel
theorem dX12_holders_18 : decode cX12_holders 18 = .ok (.iconst 0, 1) := by decide +kernel
theorem dX12_holders_19 : decode cX12_holders 19 = .ok (.istore 4, 2) := by decide +kernel
theorem dX12_holders_21 : decode cX12_holders 21 = .ok (.iload 4, 2) := by decide +kernel
theorem dX12_holders_23 : decode cX12_holders 23 = .ok (.aload_n 0, 1) := by decide +kernel
theorem dX12_holders_24 : decode cX12_holders 24 = .ok (.getfield 7, 3) := by decide +kernel
theorem dX12_holders_27 : decode cX12_holders 27 = .ok (.iconst 0, 1) := by decide +kernel
theorem dX12_holders_28 : decode cX12_holders 28 = .ok (.iaload, 1) := by decide +kernel
theorem dX12_holders_29 : decode cX12_holders 29 = .ok (.if_icmp .ge 40, 3) := by decide +kernel
theorem dX12_holders_32 : decode cX12_holders 32 = .ok (.aload_n 0, 1) := by decide +kernel
theorem dX12_holders_33 : decode cX12_holders 33 = .ok (.iload 4, 2) := by decide +kernel
theorem dX12_holders_35 : decode cX12_holders 35 = .ok (.invokevirtual 225, 3) := by decide +kernel
theorem dX12_holders_38 : decode cX12_holders 38 = .ok (.iload_n 3, 1) := by decide +kernel
theorem dX12_holders_39 : decode cX12_holders 39 = .ok (.aload_n 0, 1) := by decide +kernel
theorem dX12_holders_40 : decode cX12_holders 40 = .ok (.getfield 36, 3) := by decide +kernel
theorem dX12_holders_43 : decode cX12_holders 43 = .ok (.bipush 8, 2) := by decide +kernel
theorem dX12_holders_45 : decode cX12_holders 45 = .ok (.iload_n 1, 1) := by decide +kernel
theorem dX12_holders_46 : decode cX12_holders 46 = .ok (.imul, 1) := by decide +kernel
theorem dX12_holders_47 : decode cX12_holders 47 = .ok (.iload_n 2, 1) := by decide +kernel
theorem dX12_holders_48 : decode cX12_holders 48 = .ok (.iadd, 1) := by decide +kernel
theorem dX12_holders_49 : decode cX12_holders 49 = .ok (.baload, 1) := by decide +kernel
theorem dX12_holders_50 : decode cX12_holders 50 = .ok (.ifCond .eq 10, 3) := by decide +kernel
theorem dX12_holders_53 : decode cX12_holders 53 = .ok (.iconst 1, 1) := by decide +kernel
theorem dX12_holders_54 : decode cX12_holders 54 = .ok (.iload 4, 2) := by decide +kernel
theorem dX12_holders_56 : decode cX12_holders 56 = .ok (.ishl, 1) := by decide +kernel
theorem dX12_holders_57 : decode cX12_holders 57 = .ok (.goto 4, 3) := by decide +kernel
theorem dX12_holders_60 : decode cX12_holders 60 = .ok (.iconst 0, 1) := by decide +kernel
theorem dX12_holders_61 : decode cX12_holders 61 = .ok (.ior, 1) := by decide +kernel
theorem dX12_holders_62 : decode cX12_holders 62 = .ok (.istore_n 3, 1) := by decide +kernel
theorem dX12_holders_63 : decode cX12_holders 63 = .ok (.iinc 4 1, 3) := by decide +kernel
theorem dX12_holders_66 : decode cX12_holders 66 = .ok (.goto (-45), 3) := by decide +kernel
theorem dX12_holders_69 : decode cX12_holders 69 = .ok (.iload_n 3, 1) := by decide +kernel
theorem dX12_holders_70 : decode cX12_holders 70 = .ok (.ireturn, 1) := by decide +kernel
theorem dX12_stale_0 : decode cX12_stale 0 = .ok (.aload_n 0, 1) := by decide +kernel
theorem dX12_stale_1 : decode cX12_stale 1 = .ok (.iconst 0, 1) := by decide +kernel
theorem dX12_stale_2 : decode cX12_stale 2 = .ok (.putfield 51, 3) := by decide +kernel
theorem dX12_stale_5 : decode cX12_stale 5 = .ok (.aload_n 0, 1) := by decide +kernel
theorem dX12_stale_6 : decode cX12_stale 6 = .ok (.iload_n 1, 1) := by decide +kernel
theorem dX12_stale_7 : decode cX12_stale 7 = .ok (.invokevirtual 59, 3) := by decide +kernel
theorem dX12_stale_10 : decode cX12_stale 10 = .ok (.ifCond .ne 5, 3) := by decide +kernel
theorem dX12_stale_13 : decode cX12_stale 13 = .ok (.iconst (-1), 1) := by decide +kernel
theorem dX12_stale_14 : decode cX12_stale 14 = .ok (.ireturn, 1) := by decide +kernel
theorem dX12_stale_15 : decode cX12_stale 15 = .ok (.aload_n 0, 1) := by decide +kernel
theorem dX12_stale_16 : decode cX12_stale 16 = .ok (.iload_n 1, 1) := by decide +kernel
theorem dX12_stale_17 : decode cX12_stale 17 = .ok (.invokevirtual 225, 3) := by decide +kernel
theorem dX12_stale_20 : decode cX12_stale 20 = .ok (.iconst 0, 1) := by decide +kernel
theorem dX12_stale_21 : decode cX12_stale 21 = .ok (.istore_n 2, 1) := by decide +kernel
theorem dX12_stale_22 : decode cX12_stale 22 = .ok (.iconst 0, 1) := by decide +kernel
theorem dX12_stale_23 : decode cX12_stale 23 = .ok (.istore_n 3, 1) := by decide +kernel
theorem dX12_stale_24 : decode cX12_stale 24 = .ok (.iload_n 3, 1) := by decide +kernel
theorem dX12_stale_25 : decode cX12_stale 25 = .ok (.bipush 64, 2) := by decide +kernel
theorem dX12_stale_27 : decode cX12_stale 27 = .ok (.if_icmp .ge 49, 3) := by decide +kernel
theorem dX12_stale_30 : decode cX12_stale 30 = .ok (.iload_n 2, 1) := by decide +kernel
theorem dX12_stale_31 : decode cX12_stale 31 = .ok (.aload_n 0, 1) := by decide +kernel
theorem dX12_stale_32 : decode cX12_stale 32 = .ok (.getfield 36, 3) := by decide +kernel
theorem dX12_stale_35 : decode cX12_stale 35 = .ok (.iload_n 3, 1) := by decide +kernel
theorem dX12_stale_36 : decode cX12_stale 36 = .ok (.baload, 1) := by decide +kernel
theorem dX12_stale_37 : decode cX12_stale 37 = .ok (.ifCond .eq 30, 3) := by decide +kernel
theorem dX12_stale_40 : decode cX12_stale 40 = .ok (.iload_n 3, 1) := by decide +kernel
theorem dX12_stale_41 : decode cX12_stale 41 = .ok (.bipush 8, 2) := by decide +kernel
theorem dX12_stale_43 : decode cX12_stale 43 = .ok (.idiv, 1) := by decide +kernel
theorem dX12_stale_44 : decode cX12_stale 44 = .ok (.iload_n 3, 1) := by decide +kernel
theorem dX12_stale_45 : decode cX12_stale 45 = .ok (.bipush 8, 2) := by decide +kernel
theorem dX12_stale_47 : decode cX12_stale 47 = .ok (.irem, 1) := by decide +kernel
theorem dX12_stale_48 : decode cX12_stale 48 = .ok (.if_icmp .ge 19, 3) := by decide +kernel
theorem dX12_stale_51 : decode cX12_stale 51 = .ok (.aload_n 0, 1) := by decide +kernel
theorem dX12_stale_52 : decode cX12_stale 52 = .ok (.getfield 7, 3) := by decide +kernel
theorem dX12_stale_55 : decode cX12_stale 55 = .ok (.bipush 25, 2) := by decide +kernel
theorem dX12_stale_57 : decode cX12_stale 57 = .ok (.iload_n 3, 1) := by decide +kernel
theorem dX12_stale_58 : decode cX12_stale 58 = .ok (.iadd, 1) := by decide +kernel
theorem dX12_stale_59 : decode cX12_stale 59 = .ok (.iaload, 1) := by decide +kernel
theorem dX12_stale_60 : decode cX12_stale 60 = .ok (.ifCond .ne 7, 3) := by decide +kernel
theorem dX12_stale_63 : decode cX12_stale 63 = .ok (.iconst 1, 1) := by decide +kernel
theorem dX12_stale_64 : decode cX12_stale 64 = .ok (.goto 4, 3) := by decide +kernel
theorem dX12_stale_67 : decode cX12_stale 67 = .ok (.iconst 0, 1) := by decide +kernel
theorem dX12_stale_68 : decode cX12_stale 68 = .ok (.iadd, 1) := by decide +kernel
theorem dX12_stale_69 : decode cX12_stale 69 = .ok (.istore_n 2, 1) := by decide +kernel
theorem dX12_stale_70 : decode cX12_stale 70 = .ok (.iinc 3 1, 3) := by decide +kernel
theorem dX12_stale_73 : decode cX12_stale 73 = .ok (.goto (-49), 3) := by decide +kernel
theorem dX12_stale_76 : decode cX12_stale 76 = .ok (.iload_n 2, 1) := by decide +kernel
theorem dX12_stale_77 : decode cX12_stale 77 = .ok (.ireturn, 1) := by decide +kernel
theorem dX12_sound_0 : decode cX12_sound 0 = .ok (.aload_n 0, 1) := by decide +kernel
theorem dX12_sound_1 : decode cX12_sound 1 = .ok (.iconst 0, 1) := by decide +kernel
theorem dX12_sound_2 : decode cX12_sound 2 = .ok (.putfield 51, 3) := by decide +kernel
theorem dX12_sound_5 : decode cX12_sound 5 = .ok (.aload_n 0, 1) := by decide +kernel
theorem dX12_sound_6 : decode cX12_sound 6 = .ok (.iload_n 1, 1) := by decide +kernel
theorem dX12_sound_7 : decode cX12_sound 7 = .ok (.iload_n 2, 1) := by decide +kernel
theorem dX12_sound_8 : decode cX12_sound 8 = .ok (.invokevirtual 373, 3) := by decide +kernel
theorem dX12_sound_11 : decode cX12_sound 11 = .ok (.ifCond .eq 16, 3) := by decide +kernel
theorem dX12_sound_14 : decode cX12_sound 14 = .ok (.aload_n 0, 1) := by decide +kernel
theorem dX12_sound_15 : decode cX12_sound 15 = .ok (.iload_n 1, 1) := by decide +kernel
theorem dX12_sound_16 : decode cX12_sound 16 = .ok (.iload_n 2, 1) := by decide +kernel
theorem dX12_sound_17 : decode cX12_sound 17 = .ok (.invokevirtual 265, 3) := by decide +kernel
theorem dX12_sound_20 : decode cX12_sound 20 = .ok (.ifCond .eq 7, 3) := by decide +kernel
theorem dX12_sound_23 : decode cX12_sound 23 = .ok (.iconst 1, 1) := by decide +kernel
theorem dX12_sound_24 : decode cX12_sound 24 = .ok (.goto 4, 3) := by decide +kernel
theorem dX12_sound_27 : decode cX12_sound 27 = .ok (.iconst 0, 1) := by decide +kernel
theorem dX12_sound_28 : decode cX12_sound 28 = .ok (.istore_n 3, 1) := by decide +kernel
theorem dX12_sound_29 : decode cX12_sound 29 = .ok (.iconst 1, 1) := by decide +kernel
theorem dX12_sound_30 : decode cX12_sound 30 = .ok (.istore 4, 2) := by decide +kernel
theorem dX12_sound_32 : decode cX12_sound 32 = .ok (.iload 4, 2) := by decide +kernel
theorem dX12_sound_34 : decode cX12_sound 34 = .ok (.aload_n 0, 1) := by decide +kernel
theorem dX12_sound_35 : decode cX12_sound 35 = .ok (.getfield 231, 3) := by decide +kernel
theorem dX12_sound_38 : decode cX12_sound 38 = .ok (.if_icmp .ge 34, 3) := by decide +kernel
theorem dX12_sound_41 : decode cX12_sound 41 = .ok (.iload_n 3, 1) := by decide +kernel
theorem dX12_sound_42 : decode cX12_sound 42 = .ok (.ifCond .eq 30, 3) := by decide +kernel
theorem dX12_sound_45 : decode cX12_sound 45 = .ok (.aload_n 0, 1) := by decide +kernel
theorem dX12_sound_46 : decode cX12_sound 46 = .ok (.aload_n 0, 1) := by decide +kernel
theorem dX12_sound_47 : decode cX12_sound 47 = .ok (.getfield 33, 3) := by decide +kernel
theorem dX12_sound_50 : decode cX12_sound 50 = .ok (.iload 4, 2) := by decide +kernel
theorem dX12_sound_52 : decode cX12_sound 52 = .ok (.iconst 1, 1) := by decide +kernel
theorem dX12_sound_53 : decode cX12_sound 53 = .ok (.isub, 1) := by decide +kernel
theorem dX12_sound_54 : decode cX12_sound 54 = .ok (.iaload, 1) := by decide +kernel
theorem dX12_sound_55 : decode cX12_sound 55 = .ok (.aload_n 0, 1) := by decide +kernel
theorem dX12_sound_56 : decode cX12_sound 56 = .ok (.getfield 33, 3) := by decide +kernel
theorem dX12_sound_59 : decode cX12_sound 59 = .ok (.iload 4, 2) := by decide +kernel
theorem dX12_sound_61 : decode cX12_sound 61 = .ok (.iaload, 1) := by decide +kernel
theorem dX12_sound_62 : decode cX12_sound 62 = .ok (.invokevirtual 277, 3) := by decide +kernel
theorem dX12_sound_65 : decode cX12_sound 65 = .ok (.istore_n 3, 1) := by decide +kernel
theorem dX12_sound_66 : decode cX12_sound 66 = .ok (.iinc 4 1, 3) := by decide +kernel
theorem dX12_sound_69 : decode cX12_sound 69 = .ok (.goto (-37), 3) := by decide +kernel
theorem dX12_sound_72 : decode cX12_sound 72 = .ok (.iload_n 3, 1) := by decide +kernel
theorem dX12_sound_73 : decode cX12_sound 73 = .ok (.ireturn, 1) := by decide +kernel
theorem dX12_mapped_0 : decode cX12_mapped 0 = .ok (.aload_n 0, 1) := by decide +kernel
theorem dX12_mapped_1 : decode cX12_mapped 1 = .ok (.iconst 0, 1) := by decide +kernel
theorem dX12_mapped_2 : decode cX12_mapped 2 = .ok (.putfield 51, 3) := by decide +kernel
theorem dX12_mapped_5 : decode cX12_mapped 5 = .ok (.aload_n 0, 1) := by decide +kernel
theorem dX12_mapped_6 : decode cX12_mapped 6 = .ok (.iload_n 1, 1) := by decide +kernel
theorem dX12_mapped_7 : decode cX12_mapped 7 = .ok (.iload_n 2, 1) := by decide +kernel
theorem dX12_mapped_8 : decode cX12_mapped 8 = .ok (.invokevirtual 373, 3) := by decide +kernel
theorem dX12_mapped_11 : decode cX12_mapped 11 = .ok (.ifCond .ne 5, 3) := by decide +kernel
theorem dX12_mapped_14 : decode cX12_mapped 14 = .ok (.iconst (-1), 1) := by decide +kernel
theorem dX12_mapped_15 : decode cX12_mapped 15 = .ok (.ireturn, 1) := by decide +kernel
theorem dX12_mapped_16 : decode cX12_mapped 16 = .ok (.aload_n 0, 1) := by decide +kernel
theorem dX12_mapped_17 : decode cX12_mapped 17 = .ok (.iload_n 1, 1) := by decide +kernel
theorem dX12_mapped_18 : decode cX12_mapped 18 = .ok (.invokevirtual 225, 3) := by decide +kernel
theorem dX12_mapped_21 : decode cX12_mapped 21 = .ok (.aload_n 0, 1) := by decide +kernel
theorem dX12_mapped_22 : decode cX12_mapped 22 = .ok (.iload_n 2, 1) := by decide +kernel
theorem dX12_mapped_23 : decode cX12_mapped 23 = .ok (.invokevirtual 228, 3) := by decide +kernel
theorem dX12_mapped_26 : decode cX12_mapped 26 = .ok (.aload_n 0, 1) := by decide +kernel
theorem dX12_mapped_27 : decode cX12_mapped 27 = .ok (.getfield 39, 3) := by decide +kernel
theorem dX12_mapped_30 : decode cX12_mapped 30 = .ok (.iload_n 1, 1) := by decide +kernel
theorem dX12_mapped_31 : decode cX12_mapped 31 = .ok (.iaload, 1) := by decide +kernel
theorem dX12_mapped_32 : decode cX12_mapped 32 = .ok (.aload_n 0, 1) := by decide +kernel
theorem dX12_mapped_33 : decode cX12_mapped 33 = .ok (.getfield 7, 3) := by decide +kernel
theorem dX12_mapped_36 : decode cX12_mapped 36 = .ok (.iconst 1, 1) := by decide +kernel
theorem dX12_mapped_37 : decode cX12_mapped 37 = .ok (.iaload, 1) := by decide +kernel
theorem dX12_mapped_38 : decode cX12_mapped 38 = .ok (.if_icmp .gt 12, 3) := by decide +kernel
theorem dX12_mapped_41 : decode cX12_mapped 41 = .ok (.aload_n 0, 1) := by decide +kernel
theorem dX12_mapped_42 : decode cX12_mapped 42 = .ok (.getfield 39, 3) := by decide +kernel
theorem dX12_mapped_45 : decode cX12_mapped 45 = .ok (.iload_n 1, 1) := by decide +kernel
theorem dX12_mapped_46 : decode cX12_mapped 46 = .ok (.iaload, 1) := by decide +kernel
theorem dX12_mapped_47 : decode cX12_mapped 47 = .ok (.goto 4, 3) := by decide +kernel
theorem dX12_mapped_50 : decode cX12_mapped 50 = .ok (.iconst (-1), 1) := by decide +kernel
theorem dX12_mapped_51 : decode cX12_mapped 51 = .ok (.ireturn, 1) := by decide +kernel
theorem dX12_bridges_0 : decode cX12_bridges 0 = .ok (.aload_n 0, 1) := by decide +kernel
theorem dX12_bridges_1 : decode cX12_bridges 1 = .ok (.iconst 0, 1) := by decide +kernel
theorem dX12_bridges_2 : decode cX12_bridges 2 = .ok (.putfield 51, 3) := by decide +kernel
theorem dX12_bridges_5 : decode cX12_bridges 5 = .ok (.aload_n 0, 1) := by decide +kernel
theorem dX12_bridges_6 : decode cX12_bridges 6 = .ok (.iload_n 1, 1) := by decide +kernel
theorem dX12_bridges_7 : decode cX12_bridges 7 = .ok (.iload_n 2, 1) := by decide +kernel
theorem dX12_bridges_8 : decode cX12_bridges 8 = .ok (.invokevirtual 373, 3) := by decide +kernel
theorem dX12_bridges_11 : decode cX12_bridges 11 = .ok (.ifCond .ne 5, 3) := by decide +kernel
theorem dX12_bridges_14 : decode cX12_bridges 14 = .ok (.iconst (-1), 1) := by decide +kernel
theorem dX12_bridges_15 : decode cX12_bridges 15 = .ok (.ireturn, 1) := by decide +kernel
theorem dX12_bridges_16 : decode cX12_bridges 16 = .ok (.aload_n 0, 1) := by decide +kernel
theorem dX12_bridges_17 : decode cX12_bridges 17 = .ok (.invokevirtual 407, 3) := by decide +kernel
theorem dX12_bridges_20 : decode cX12_bridges 20 = .ok (.aload_n 0, 1) := by decide +kernel
theorem dX12_bridges_21 : decode cX12_bridges 21 = .ok (.iload_n 2, 1) := by decide +kernel
theorem dX12_bridges_22 : decode cX12_bridges 22 = .ok (.invokevirtual 228, 3) := by decide +kernel
theorem dX12_bridges_25 : decode cX12_bridges 25 = .ok (.iconst 0, 1) := by decide +kernel
theorem dX12_bridges_26 : decode cX12_bridges 26 = .ok (.istore_n 3, 1) := by decide +kernel
theorem dX12_bridges_27 : decode cX12_bridges 27 = .ok (.aload_n 0, 1) := by decide +kernel
theorem dX12_bridges_28 : decode cX12_bridges 28 = .ok (.getfield 39, 3) := by decide +kernel
theorem dX12_bridges_31 : decode cX12_bridges 31 = .ok (.iload_n 1, 1) := by decide +kernel
theorem dX12_bridges_32 : decode cX12_bridges 32 = .ok (.iaload, 1) := by decide +kernel
theorem dX12_bridges_33 : decode cX12_bridges 33 = .ok (.bipush 99, 2) := by decide +kernel
theorem dX12_bridges_35 : decode cX12_bridges 35 = .ok (.if_icmp .ge 7, 3) := by decide +kernel
theorem dX12_bridges_38 : decode cX12_bridges 38 = .ok (.iconst 1, 1) := by decide +kernel
theorem dX12_bridges_39 : decode cX12_bridges 39 = .ok (.goto 4, 3) := by decide +kernel
theorem dX12_bridges_42 : decode cX12_bridges 42 = .ok (.iconst 0, 1) := by decide +kernel
theorem dX12_bridges_43 : decode cX12_bridges 43 = .ok (.istore 4, 2) := by decide +kernel
theorem dX12_bridges_45 : decode cX12_bridges 45 = .ok (.iconst 0, 1) := by decide +kernel
theorem dX12_bridges_46 : decode cX12_bridges 46 = .ok (.istore 5, 2) := by decide +kernel
theorem dX12_bridges_48 : decode cX12_bridges 48 = .ok (.iload 5, 2) := by decide +kernel
theorem dX12_bridges_50 : decode cX12_bridges 50 = .ok (.bipush 64, 2) := by decide +kernel
theorem dX12_bridges_52 : decode cX12_bridges 52 = .ok (.if_icmp .ge 97, 3) := by decide +kernel
theorem dX12_bridges_55 : decode cX12_bridges 55 = .ok (.iload 4, 2) := by decide +kernel
theorem dX12_bridges_57 : decode cX12_bridges 57 = .ok (.ifCond .eq 92, 3) := by decide +kernel
theorem dX12_bridges_60 : decode cX12_bridges 60 = .ok (.iload 5, 2) := by decide +kernel
theorem dX12_bridges_62 : decode cX12_bridges 62 = .ok (.bipush 8, 2) := by decide +kernel
theorem dX12_bridges_64 : decode cX12_bridges 64 = .ok (.idiv, 1) := by decide +kernel
theorem dX12_bridges_65 : decode cX12_bridges 65 = .ok (.iload 5, 2) := by decide +kernel
theorem dX12_bridges_67 : decode cX12_bridges 67 = .ok (.bipush 8, 2) := by decide +kernel
theorem dX12_bridges_69 : decode cX12_bridges 69 = .ok (.irem, 1) := by decide +kernel
theorem dX12_bridges_70 : decode cX12_bridges 70 = .ok (.if_icmp .ge 73, 3) := by decide +kernel
theorem dX12_bridges_73 : decode cX12_bridges 73 = .ok (.aload_n 0, 1) := by decide +kernel
theorem dX12_bridges_74 : decode cX12_bridges 74 = .ok (.getfield 7, 3) := by decide +kernel
theorem dX12_bridges_77 : decode cX12_bridges 77 = .ok (.bipush 25, 2) := by decide +kernel
theorem dX12_bridges_79 : decode cX12_bridges 79 = .ok (.iload 5, 2) := by decide +kernel
theorem dX12_bridges_81 : decode cX12_bridges 81 = .ok (.iadd, 1) := by decide +kernel
theorem dX12_bridges_82 : decode cX12_bridges 82 = .ok (.iaload, 1) := by decide +kernel
theorem dX12_bridges_83 : decode cX12_bridges 83 = .ok (.iconst 1, 1) := by decide +kernel
theorem dX12_bridges_84 : decode cX12_bridges 84 = .ok (.if_icmp .ne 59, 3) := by decide +kernel
theorem dX12_bridges_87 : decode cX12_bridges 87 = .ok (.aload_n 0, 1) := by decide +kernel
theorem dX12_bridges_88 : decode cX12_bridges 88 = .ok (.invokevirtual 407, 3) := by decide +kernel
theorem dX12_bridges_91 : decode cX12_bridges 91 = .ok (.aload_n 0, 1) := by decide +kernel
theorem dX12_bridges_92 : decode cX12_bridges 92 = .ok (.getfield 36, 3) := by decide +kernel
theorem dX12_bridges_95 : decode cX12_bridges 95 = .ok (.iload 5, 2) := by decide +kernel
theorem dX12_bridges_97 : decode cX12_bridges 97 = .ok (.iconst 0, 1) := by decide +kernel
theorem dX12_bridges_98 : decode cX12_bridges 98 = .ok (.bastore, 1) := by decide +kernel
theorem dX12_bridges_99 : decode cX12_bridges 99 = .ok (.aload_n 0, 1) := by decide +kernel
theorem dX12_bridges_100 : decode cX12_bridges 100 = .ok (.getfield 36, 3) := by decide +kernel
theorem dX12_bridges_103 : decode cX12_bridges 103 = .ok (.bipush 8, 2) := by decide +kernel
theorem dX12_bridges_105 : decode cX12_bridges 105 = .ok (.iload 5, 2) := by decide +kernel
theorem dX12_bridges_107 : decode cX12_bridges 107 = .ok (.bipush 8, 2) := by decide +kernel
theorem dX12_bridges_109 : decode cX12_bridges 109 = .ok (.irem, 1) := by decide +kernel
theorem dX12_bridges_110 : decode cX12_bridges 110 = .ok (.imul, 1) := by decide +kernel
theorem dX12_bridges_111 : decode cX12_bridges 111 = .ok (.iload 5, 2) := by decide +kernel
theorem dX12_bridges_113 : decode cX12_bridges 113 = .ok (.bipush 8, 2) := by decide +kernel
theorem dX12_bridges_115 : decode cX12_bridges 115 = .ok (.idiv, 1) := by decide +kernel
theorem dX12_bridges_116 : decode cX12_bridges 116 = .ok (.iadd, 1) := by decide +kernel
theorem dX12_bridges_117 : decode cX12_bridges 117 = .ok (.iconst 0, 1) := by decide +kernel
theorem dX12_bridges_118 : decode cX12_bridges 118 = .ok (.bastore, 1) := by decide +kernel
theorem dX12_bridges_119 : decode cX12_bridges 119 = .ok (.aload_n 0, 1) := by decide +kernel
theorem dX12_bridges_120 : decode cX12_bridges 120 = .ok (.iload_n 2, 1) := by decide +kernel
theorem dX12_bridges_121 : decode cX12_bridges 121 = .ok (.invokevirtual 228, 3) := by decide +kernel
theorem dX12_bridges_124 : decode cX12_bridges 124 = .ok (.iload_n 3, 1) := by decide +kernel
theorem dX12_bridges_125 : decode cX12_bridges 125 = .ok (.aload_n 0, 1) := by decide +kernel
theorem dX12_bridges_126 : decode cX12_bridges 126 = .ok (.getfield 39, 3) := by decide +kernel
theorem dX12_bridges_129 : decode cX12_bridges 129 = .ok (.iload_n 1, 1) := by decide +kernel
theorem dX12_bridges_130 : decode cX12_bridges 130 = .ok (.iaload, 1) := by decide +kernel
theorem dX12_bridges_131 : decode cX12_bridges 131 = .ok (.bipush 99, 2) := by decide +kernel
theorem dX12_bridges_133 : decode cX12_bridges 133 = .ok (.if_icmp .ge 7, 3) := by decide +kernel
theorem dX12_bridges_136 : decode cX12_bridges 136 = .ok (.iconst 0, 1) := by decide +kernel
theorem dX12_bridges_137 : decode cX12_bridges 137 = .ok (.goto 4, 3) := by decide +kernel
theorem dX12_bridges_140 : decode cX12_bridges 140 = .ok (.iconst 1, 1) := by decide +kernel
theorem dX12_bridges_141 : decode cX12_bridges 141 = .ok (.iadd, 1) := by decide +kernel
theorem dX12_bridges_142 : decode cX12_bridges 142 = .ok (.istore_n 3, 1) := by decide +kernel
theorem dX12_bridges_143 : decode cX12_bridges 143 = .ok (.iinc 5 1, 3) := by decide +kernel
theorem dX12_bridges_146 : decode cX12_bridges 146 = .ok (.goto (-98), 3) := by decide +kernel
theorem dX12_bridges_149 : decode cX12_bridges 149 = .ok (.iload_n 3, 1) := by decide +kernel
theorem dX12_bridges_150 : decode cX12_bridges 150 = .ok (.ireturn, 1) := by decide +kernel
theorem dX12_copies_0 : decode cX12_copies 0 = .ok (.iconst 0, 1) := by decide +kernel
theorem dX12_copies_1 : decode cX12_copies 1 = .ok (.istore_n 3, 1) := by decide +kernel
theorem dX12_copies_2 : decode cX12_copies 2 = .ok (.iload_n 3, 1) := by decide +kernel
theorem dX12_copies_3 : decode cX12_copies 3 = .ok (.sipush 2457, 3) := by decide +kernel
theorem dX12_copies_6 : decode cX12_copies 6 = .ok (.if_icmp .ge 33, 3) := by decide +kernel
theorem dX12_copies_9 : decode cX12_copies 9 = .ok (.aload_n 0, 1) := by decide +kernel
theorem dX12_copies_10 : decode cX12_copies 10 = .ok (.getfield 7, 3) := by decide +kernel
theorem dX12_copies_13 : decode cX12_copies 13 = .ok (.sipush 2457, 3) := by decide +kernel
theorem dX12_copies_16 : decode cX12_copies 16 = .ok (.iload_n 2, 1) := by decide +kernel
theorem dX12_copies_17 : decode cX12_copies 17 = .ok (.imul, 1) := by decide +kernel
theorem dX12_copies_18 : decode cX12_copies 18 = .ok (.iload_n 3, 1) := by decide +kernel
theorem dX12_copies_19 : decode cX12_copies 19 = .ok (.iadd, 1) := by decide +kernel
theorem dX12_copies_20 : decode cX12_copies 20 = .ok (.aload_n 0, 1) := by decide +kernel
theorem dX12_copies_21 : decode cX12_copies 21 = .ok (.getfield 7, 3) := by decide +kernel
theorem dX12_copies_24 : decode cX12_copies 24 = .ok (.sipush 2457, 3) := by decide +kernel
theorem dX12_copies_27 : decode cX12_copies 27 = .ok (.iload_n 1, 1) := by decide +kernel
theorem dX12_copies_28 : decode cX12_copies 28 = .ok (.imul, 1) := by decide +kernel
theorem dX12_copies_29 : decode cX12_copies 29 = .ok (.iload_n 3, 1) := by decide +kernel
theorem dX12_copies_30 : decode cX12_copies 30 = .ok (.iadd, 1) := by decide +kernel
theorem dX12_copies_31 : decode cX12_copies 31 = .ok (.iaload, 1) := by decide +kernel
theorem dX12_copies_32 : decode cX12_copies 32 = .ok (.iastore, 1) := by decide +kernel
theorem dX12_copies_33 : decode cX12_copies 33 = .ok (.iinc 3 1, 3) := by decide +kernel
theorem dX12_copies_36 : decode cX12_copies 36 = .ok (.goto (-34), 3) := by decide +kernel
theorem dX12_copies_39 : decode cX12_copies 39 = .ok (.return_, 1) := by decide +kernel
theorem dX12_back_0 : decode cX12_back 0 = .ok (.aload_n 0, 1) := by decide +kernel
theorem dX12_back_1 : decode cX12_back 1 = .ok (.iconst 4, 1) := by decide +kernel
theorem dX12_back_2 : decode cX12_back 2 = .ok (.iconst 0, 1) := by decide +kernel
theorem dX12_back_3 : decode cX12_back 3 = .ok (.invokevirtual 410, 3) := by decide +kernel
theorem dX12_back_6 : decode cX12_back 6 = .ok (.iload_n 1, 1) := by decide +kernel
theorem dX12_back_7 : decode cX12_back 7 = .ok (.ireturn, 1) := by decide +kernel
theorem dX12_asAhead_0 : decode cX12_asAhead 0 = .ok (.iconst 0, 1) := by decide +kernel
theorem dX12_asAhead_1 : decode cX12_asAhead 1 = .ok (.istore_n 2, 1) := by decide +kernel
theorem dX12_asAhead_2 : decode cX12_asAhead 2 = .ok (.iconst 0, 1) := by decide +kernel
theorem dX12_asAhead_3 : decode cX12_asAhead 3 = .ok (.istore_n 3, 1) := by decide +kernel
theorem dX12_asAhead_4 : decode cX12_asAhead 4 = .ok (.iload_n 3, 1) := by decide +kernel
theorem dX12_asAhead_5 : decode cX12_asAhead 5 = .ok (.aload_n 0, 1) := by decide +kernel
theorem dX12_asAhead_6 : decode cX12_asAhead 6 = .ok (.getfield 7, 3) := by decide +kernel
theorem dX12_asAhead_9 : decode cX12_asAhead 9 = .ok (.bipush 9, 2) := by decide +kernel
theorem dX12_asAhead_11 : decode cX12_asAhead 11 = .ok (.iaload, 1) := by decide +kernel
theorem dX12_asAhead_12 : decode cX12_asAhead 12 = .ok (.if_icmp .ge 26, 3) := by decide +kernel
theorem dX12_asAhead_15 : decode cX12_asAhead 15 = .ok (.iload_n 2, 1) := by decide +kernel
theorem dX12_asAhead_16 : decode cX12_asAhead 16 = .ok (.aload_n 0, 1) := by decide +kernel
theorem dX12_asAhead_17 : decode cX12_asAhead 17 = .ok (.iload_n 3, 1) := by decide +kernel
theorem dX12_asAhead_18 : decode cX12_asAhead 18 = .ok (.iconst 2, 1) := by decide +kernel
theorem dX12_asAhead_19 : decode cX12_asAhead 19 = .ok (.invokevirtual 246, 3) := by decide +kernel
theorem dX12_asAhead_22 : decode cX12_asAhead 22 = .ok (.ifCond .ne 7, 3) := by decide +kernel
theorem dX12_asAhead_25 : decode cX12_asAhead 25 = .ok (.iconst 1, 1) := by decide +kernel
theorem dX12_asAhead_26 : decode cX12_asAhead 26 = .ok (.goto 4, 3) := by decide +kernel
theorem dX12_asAhead_29 : decode cX12_asAhead 29 = .ok (.iconst 0, 1) := by decide +kernel
theorem dX12_asAhead_30 : decode cX12_asAhead 30 = .ok (.iadd, 1) := by decide +kernel
theorem dX12_asAhead_31 : decode cX12_asAhead 31 = .ok (.istore_n 2, 1) := by decide +kernel
theorem dX12_asAhead_32 : decode cX12_asAhead 32 = .ok (.iinc 3 1, 3) := by decide +kernel
theorem dX12_asAhead_35 : decode cX12_asAhead 35 = .ok (.goto (-31), 3) := by decide +kernel
theorem dX12_asAhead_38 : decode cX12_asAhead 38 = .ok (.iload_n 1, 1) := by decide +kernel
theorem dX12_asAhead_39 : decode cX12_asAhead 39 = .ok (.bipush 11, 2) := by decide +kernel
theorem dX12_asAhead_41 : decode cX12_asAhead 41 = .ok (.if_icmp .ge 15, 3) := by decide +kernel
theorem dX12_asAhead_44 : decode cX12_asAhead 44 = .ok (.aload_n 0, 1) := by decide +kernel
theorem dX12_asAhead_45 : decode cX12_asAhead 45 = .ok (.getfield 7, 3) := by decide +kernel
theorem dX12_asAhead_48 : decode cX12_asAhead 48 = .ok (.bipush 14, 2) := by decide +kernel
theorem dX12_asAhead_50 : decode cX12_asAhead 50 = .ok (.iload_n 1, 1) := by decide +kernel
theorem dX12_asAhead_51 : decode cX12_asAhead 51 = .ok (.iadd, 1) := by decide +kernel
theorem dX12_asAhead_52 : decode cX12_asAhead 52 = .ok (.iaload, 1) := by decide +kernel
theorem dX12_asAhead_53 : decode cX12_asAhead 53 = .ok (.goto 20, 3) := by decide +kernel
theorem dX12_asAhead_56 : decode cX12_asAhead 56 = .ok (.iload_n 1, 1) := by decide +kernel
theorem dX12_asAhead_57 : decode cX12_asAhead 57 = .ok (.bipush 11, 2) := by decide +kernel
theorem dX12_asAhead_59 : decode cX12_asAhead 59 = .ok (.if_icmp .ne 13, 3) := by decide +kernel
theorem dX12_asAhead_62 : decode cX12_asAhead 62 = .ok (.aload_n 0, 1) := by decide +kernel
theorem dX12_asAhead_63 : decode cX12_asAhead 63 = .ok (.getfield 7, 3) := by decide +kernel
theorem dX12_asAhead_66 : decode cX12_asAhead 66 = .ok (.bipush 10, 2) := by decide +kernel
theorem dX12_asAhead_68 : decode cX12_asAhead 68 = .ok (.iaload, 1) := by decide +kernel
theorem dX12_asAhead_69 : decode cX12_asAhead 69 = .ok (.goto 4, 3) := by decide +kernel
theorem dX12_asAhead_72 : decode cX12_asAhead 72 = .ok (.iload_n 2, 1) := by decide +kernel
theorem dX12_asAhead_73 : decode cX12_asAhead 73 = .ok (.ireturn, 1) := by decide +kernel
theorem dX12_goesOn_0 : decode cX12_goesOn 0 = .ok (.iconst 0, 1) := by decide +kernel
theorem dX12_goesOn_1 : decode cX12_goesOn 1 = .ok (.istore_n 2, 1) := by decide +kernel
theorem dX12_goesOn_2 : decode cX12_goesOn 2 = .ok (.iload_n 2, 1) := by decide +kernel
theorem dX12_goesOn_3 : decode cX12_goesOn 3 = .ok (.iload_n 1, 1) := by decide +kernel
theorem dX12_goesOn_4 : decode cX12_goesOn 4 = .ok (.if_icmp .ge 13, 3) := by decide +kernel
theorem dX12_goesOn_7 : decode cX12_goesOn 7 = .ok (.aload_n 0, 1) := by decide +kernel
theorem dX12_goesOn_8 : decode cX12_goesOn 8 = .ok (.invokevirtual 382, 3) := by decide +kernel
theorem dX12_goesOn_11 : decode cX12_goesOn 11 = .ok (.iinc 2 1, 3) := by decide +kernel
theorem dX12_goesOn_14 : decode cX12_goesOn 14 = .ok (.goto (-12), 3) := by decide +kernel
theorem dX12_goesOn_17 : decode cX12_goesOn 17 = .ok (.return_, 1) := by decide +kernel
theorem dX12_ahead_0 : decode cX12_ahead 0 = .ok (.aload_n 0, 1) := by decide +kernel
theorem dX12_ahead_1 : decode cX12_ahead 1 = .ok (.iconst 0, 1) := by decide +kernel
theorem dX12_ahead_2 : decode cX12_ahead 2 = .ok (.putfield 51, 3) := by decide +kernel
theorem dX12_ahead_5 : decode cX12_ahead 5 = .ok (.iload_n 1, 1) := by decide +kernel
theorem dX12_ahead_6 : decode cX12_ahead 6 = .ok (.iconst 0, 1) := by decide +kernel
theorem dX12_ahead_7 : decode cX12_ahead 7 = .ok (.bipush 6, 2) := by decide +kernel
theorem dX12_ahead_9 : decode cX12_ahead 9 = .ok (.invokestatic 55, 3) := by decide +kernel
theorem dX12_ahead_12 : decode cX12_ahead 12 = .ok (.ifCond .eq 13, 3) := by decide +kernel
theorem dX12_ahead_15 : decode cX12_ahead 15 = .ok (.iload_n 2, 1) := by decide +kernel
theorem dX12_ahead_16 : decode cX12_ahead 16 = .ok (.iconst 0, 1) := by decide +kernel
theorem dX12_ahead_17 : decode cX12_ahead 17 = .ok (.bipush 12, 2) := by decide +kernel
theorem dX12_ahead_19 : decode cX12_ahead 19 = .ok (.invokestatic 55, 3) := by decide +kernel
theorem dX12_ahead_22 : decode cX12_ahead 22 = .ok (.ifCond .ne 5, 3) := by decide +kernel
theorem dX12_ahead_25 : decode cX12_ahead 25 = .ok (.iconst (-1), 1) := by decide +kernel
theorem dX12_ahead_26 : decode cX12_ahead 26 = .ok (.ireturn, 1) := by decide +kernel
theorem dX12_ahead_27 : decode cX12_ahead 27 = .ok (.aload_n 0, 1) := by decide +kernel
theorem dX12_ahead_28 : decode cX12_ahead 28 = .ok (.iconst 0, 1) := by decide +kernel
theorem dX12_ahead_29 : decode cX12_ahead 29 = .ok (.iconst 4, 1) := by decide +kernel
theorem dX12_ahead_30 : decode cX12_ahead 30 = .ok (.invokevirtual 410, 3) := by decide +kernel
theorem dX12_ahead_33 : decode cX12_ahead 33 = .ok (.aload_n 0, 1) := by decide +kernel
theorem dX12_ahead_34 : decode cX12_ahead 34 = .ok (.iload_n 1, 1) := by decide +kernel
theorem dX12_ahead_35 : decode cX12_ahead 35 = .ok (.invokevirtual 413, 3) := by decide +kernel
theorem dX12_ahead_38 : decode cX12_ahead 38 = .ok (.aload_n 0, 1) := by decide +kernel
theorem dX12_ahead_39 : decode cX12_ahead 39 = .ok (.aload_n 0, 1) := by decide +kernel
theorem dX12_ahead_40 : decode cX12_ahead 40 = .ok (.iload_n 2, 1) := by decide +kernel
theorem dX12_ahead_41 : decode cX12_ahead 41 = .ok (.invokevirtual 416, 3) := by decide +kernel
theorem dX12_ahead_44 : decode cX12_ahead 44 = .ok (.invokevirtual 419, 3) := by decide +kernel
theorem dX12_ahead_47 : decode cX12_ahead 47 = .ok (.ireturn, 1) := by decide +kernel
theorem dX12_turned_0 : decode cX12_turned 0 = .ok (.aload_n 0, 1) := by decide +kernel
theorem dX12_turned_1 : decode cX12_turned 1 = .ok (.iconst 0, 1) := by decide +kernel
theorem dX12_turned_2 : decode cX12_turned 2 = .ok (.putfield 51, 3) := by decide +kernel
theorem dX12_turned_5 : decode cX12_turned 5 = .ok (.aload_n 0, 1) := by decide +kernel
theorem dX12_turned_6 : decode cX12_turned 6 = .ok (.iload_n 1, 1) := by decide +kernel
theorem dX12_turned_7 : decode cX12_turned 7 = .ok (.iload_n 2, 1) := by decide +kernel
theorem dX12_turned_8 : decode cX12_turned 8 = .ok (.invokevirtual 373, 3) := by decide +kernel
theorem dX12_turned_11 : decode cX12_turned 11 = .ok (.ifCond .eq 24, 3) := by decide +kernel
theorem dX12_turned_14 : decode cX12_turned 14 = .ok (.iload_n 3, 1) := by decide +kernel
theorem dX12_turned_15 : decode cX12_turned 15 = .ok (.iconst 0, 1) := by decide +kernel
theorem dX12_turned_16 : decode cX12_turned 16 = .ok (.bipush 6, 2) := by decide +kernel
theorem dX12_turned_18 : decode cX12_turned 18 = .ok (.invokestatic 55, 3) := by decide +kernel
theorem dX12_turned_21 : decode cX12_turned 21 = .ok (.ifCond .eq 14, 3) := by decide +kernel
theorem dX12_turned_24 : decode cX12_turned 24 = .ok (.iload 4, 2) := by decide +kernel
theorem dX12_turned_26 : decode cX12_turned 26 = .ok (.iconst 0, 1) := by decide +kernel
theorem dX12_turned_27 : decode cX12_turned 27 = .ok (.bipush 12, 2) := by decide +kernel
theorem dX12_turned_29 : decode cX12_turned 29 = .ok (.invokestatic 55, 3) := by decide +kernel
theorem dX12_turned_32 : decode cX12_turned 32 = .ok (.ifCond .ne 5, 3) := by decide +kernel
theorem dX12_turned_35 : decode cX12_turned 35 = .ok (.iconst (-1), 1) := by decide +kernel
theorem dX12_turned_36 : decode cX12_turned 36 = .ok (.ireturn, 1) := by decide +kernel
theorem dX12_turned_37 : decode cX12_turned 37 = .ok (.aload_n 0, 1) := by decide +kernel
theorem dX12_turned_38 : decode cX12_turned 38 = .ok (.iconst 0, 1) := by decide +kernel
theorem dX12_turned_39 : decode cX12_turned 39 = .ok (.iconst 4, 1) := by decide +kernel
theorem dX12_turned_40 : decode cX12_turned 40 = .ok (.invokevirtual 410, 3) := by decide +kernel
theorem dX12_turned_43 : decode cX12_turned 43 = .ok (.aload_n 0, 1) := by decide +kernel
theorem dX12_turned_44 : decode cX12_turned 44 = .ok (.iload_n 1, 1) := by decide +kernel
theorem dX12_turned_45 : decode cX12_turned 45 = .ok (.iload_n 2, 1) := by decide +kernel
theorem dX12_turned_46 : decode cX12_turned 46 = .ok (.aload_n 0, 1) := by decide +kernel
theorem dX12_turned_47 : decode cX12_turned 47 = .ok (.iload_n 1, 1) := by decide +kernel
theorem dX12_turned_48 : decode cX12_turned 48 = .ok (.iload_n 2, 1) := by decide +kernel
theorem dX12_turned_49 : decode cX12_turned 49 = .ok (.invokevirtual 277, 3) := by decide +kernel
theorem dX12_turned_52 : decode cX12_turned 52 = .ok (.ifCond .eq 7, 3) := by decide +kernel
theorem dX12_turned_55 : decode cX12_turned 55 = .ok (.iconst 0, 1) := by decide +kernel
theorem dX12_turned_56 : decode cX12_turned 56 = .ok (.goto 4, 3) := by decide +kernel
theorem dX12_turned_59 : decode cX12_turned 59 = .ok (.iconst 1, 1) := by decide +kernel
theorem dX12_turned_60 : decode cX12_turned 60 = .ok (.invokevirtual 379, 3) := by decide +kernel
theorem dX12_turned_63 : decode cX12_turned 63 = .ok (.aload_n 0, 1) := by decide +kernel
theorem dX12_turned_64 : decode cX12_turned 64 = .ok (.iload_n 3, 1) := by decide +kernel
theorem dX12_turned_65 : decode cX12_turned 65 = .ok (.invokevirtual 413, 3) := by decide +kernel
theorem dX12_turned_68 : decode cX12_turned 68 = .ok (.aload_n 0, 1) := by decide +kernel
theorem dX12_turned_69 : decode cX12_turned 69 = .ok (.aload_n 0, 1) := by decide +kernel
theorem dX12_turned_70 : decode cX12_turned 70 = .ok (.iload 4, 2) := by decide +kernel
theorem dX12_turned_72 : decode cX12_turned 72 = .ok (.invokevirtual 416, 3) := by decide +kernel
theorem dX12_turned_75 : decode cX12_turned 75 = .ok (.invokevirtual 419, 3) := by decide +kernel
theorem dX12_turned_78 : decode cX12_turned 78 = .ok (.ireturn, 1) := by decide +kernel
theorem dX12_sent_0 : decode cX12_sent 0 = .ok (.aload_n 0, 1) := by decide +kernel
theorem dX12_sent_1 : decode cX12_sent 1 = .ok (.iconst 0, 1) := by decide +kernel
theorem dX12_sent_2 : decode cX12_sent 2 = .ok (.putfield 51, 3) := by decide +kernel
theorem dX12_sent_5 : decode cX12_sent 5 = .ok (.aload_n 0, 1) := by decide +kernel
theorem dX12_sent_6 : decode cX12_sent 6 = .ok (.iload_n 1, 1) := by decide +kernel
theorem dX12_sent_7 : decode cX12_sent 7 = .ok (.iload_n 2, 1) := by decide +kernel
theorem dX12_sent_8 : decode cX12_sent 8 = .ok (.invokevirtual 373, 3) := by decide +kernel
theorem dX12_sent_11 : decode cX12_sent 11 = .ok (.ifCond .eq 36, 3) := by decide +kernel
theorem dX12_sent_14 : decode cX12_sent 14 = .ok (.aload_n 0, 1) := by decide +kernel
theorem dX12_sent_15 : decode cX12_sent 15 = .ok (.getfield 7, 3) := by decide +kernel
theorem dX12_sent_18 : decode cX12_sent 18 = .ok (.bipush 9, 2) := by decide +kernel
theorem dX12_sent_20 : decode cX12_sent 20 = .ok (.iaload, 1) := by decide +kernel
theorem dX12_sent_21 : decode cX12_sent 21 = .ok (.bipush 40, 2) := by decide +kernel
theorem dX12_sent_23 : decode cX12_sent 23 = .ok (.if_icmp .eq 24, 3) := by decide +kernel
theorem dX12_sent_26 : decode cX12_sent 26 = .ok (.iload_n 3, 1) := by decide +kernel
theorem dX12_sent_27 : decode cX12_sent 27 = .ok (.iconst 0, 1) := by decide +kernel
theorem dX12_sent_28 : decode cX12_sent 28 = .ok (.bipush 6, 2) := by decide +kernel
theorem dX12_sent_30 : decode cX12_sent 30 = .ok (.invokestatic 55, 3) := by decide +kernel
theorem dX12_sent_33 : decode cX12_sent 33 = .ok (.ifCond .eq 14, 3) := by decide +kernel
theorem dX12_sent_36 : decode cX12_sent 36 = .ok (.iload 4, 2) := by decide +kernel
theorem dX12_sent_38 : decode cX12_sent 38 = .ok (.iconst 0, 1) := by decide +kernel
theorem dX12_sent_39 : decode cX12_sent 39 = .ok (.bipush 8, 2) := by decide +kernel
theorem dX12_sent_41 : decode cX12_sent 41 = .ok (.invokestatic 55, 3) := by decide +kernel
theorem dX12_sent_44 : decode cX12_sent 44 = .ok (.ifCond .ne 6, 3) := by decide +kernel
theorem dX12_sent_47 : decode cX12_sent 47 = .ok (.bipush (-2), 2) := by decide +kernel
theorem dX12_sent_49 : decode cX12_sent 49 = .ok (.ireturn, 1) := by decide +kernel
theorem dX12_sent_50 : decode cX12_sent 50 = .ok (.aload_n 0, 1) := by decide +kernel
theorem dX12_sent_51 : decode cX12_sent 51 = .ok (.iconst 0, 1) := by decide +kernel
theorem dX12_sent_52 : decode cX12_sent 52 = .ok (.iconst 4, 1) := by decide +kernel
theorem dX12_sent_53 : decode cX12_sent 53 = .ok (.invokevirtual 410, 3) := by decide +kernel
theorem dX12_sent_56 : decode cX12_sent 56 = .ok (.aload_n 0, 1) := by decide +kernel
theorem dX12_sent_57 : decode cX12_sent 57 = .ok (.iload_n 1, 1) := by decide +kernel
theorem dX12_sent_58 : decode cX12_sent 58 = .ok (.iload_n 2, 1) := by decide +kernel
theorem dX12_sent_59 : decode cX12_sent 59 = .ok (.invokevirtual 376, 3) := by decide +kernel
theorem dX12_sent_62 : decode cX12_sent 62 = .ok (.istore 5, 2) := by decide +kernel
theorem dX12_sent_64 : decode cX12_sent 64 = .ok (.aload_n 0, 1) := by decide +kernel
theorem dX12_sent_65 : decode cX12_sent 65 = .ok (.iload_n 3, 1) := by decide +kernel
theorem dX12_sent_66 : decode cX12_sent 66 = .ok (.invokevirtual 413, 3) := by decide +kernel
theorem dX12_sent_69 : decode cX12_sent 69 = .ok (.aload_n 0, 1) := by decide +kernel
theorem dX12_sent_70 : decode cX12_sent 70 = .ok (.aload_n 0, 1) := by decide +kernel
theorem dX12_sent_71 : decode cX12_sent 71 = .ok (.iload 5, 2) := by decide +kernel
theorem dX12_sent_73 : decode cX12_sent 73 = .ok (.iload 4, 2) := by decide +kernel
theorem dX12_sent_75 : decode cX12_sent 75 = .ok (.invokevirtual 395, 3) := by decide +kernel
theorem dX12_sent_78 : decode cX12_sent 78 = .ok (.invokevirtual 419, 3) := by decide +kernel
theorem dX12_sent_81 : decode cX12_sent 81 = .ok (.ireturn, 1) := by decide +kernel
theorem dX12_isRequested_0 : decode cX12_isRequested 0 = .ok (.iconst 0, 1) := by decide +kernel
theorem dX12_isRequested_1 : decode cX12_isRequested 1 = .ok (.istore_n 1, 1) := by decide +kernel
theorem dX12_isRequested_2 : decode cX12_isRequested 2 = .ok (.iload_n 1, 1) := by decide +kernel
theorem dX12_isRequested_3 : decode cX12_isRequested 3 = .ok (.aload_n 0, 1) := by decide +kernel
theorem dX12_isRequested_4 : decode cX12_isRequested 4 = .ok (.getfield 7, 3) := by decide +kernel
theorem dX12_isRequested_7 : decode cX12_isRequested 7 = .ok (.bipush 10, 2) := by decide +kernel
theorem dX12_isRequested_9 : decode cX12_isRequested 9 = .ok (.iaload, 1) := by decide +kernel
theorem dX12_isRequested_10 : decode cX12_isRequested 10 = .ok (.if_icmp .ge 21, 3) := by decide +kernel
theorem dX12_isRequested_13 : decode cX12_isRequested 13 = .ok (.aload_n 0, 1) := by decide +kernel
theorem dX12_isRequested_14 : decode cX12_isRequested 14 = .ok (.iload_n 1, 1) := by decide +kernel
theorem dX12_isRequested_15 : decode cX12_isRequested 15 = .ok (.iconst 0, 1) := by decide +kernel
theorem dX12_isRequested_16 : decode cX12_isRequested 16 = .ok (.invokevirtual 398, 3) := by decide +kernel
theorem dX12_isRequested_19 : decode cX12_isRequested 19 = .ok (.iconst 1, 1) := by decide +kernel
theorem dX12_isRequested_20 : decode cX12_isRequested 20 = .ok (.if_icmp .ne 5, 3) := by decide +kernel
theorem dX12_isRequested_23 : decode cX12_isRequested 23 = .ok (.iconst 1, 1) := by decide +kernel
theorem dX12_isRequested_24 : decode cX12_isRequested 24 = .ok (.ireturn, 1) := by decide +kernel
theorem dX12_isRequested_25 : decode cX12_isRequested 25 = .ok (.iinc 1 1, 3) := by decide +kernel
theorem dX12_isRequested_28 : decode cX12_isRequested 28 = .ok (.goto (-26), 3) := by decide +kernel
theorem dX12_isRequested_31 : decode cX12_isRequested 31 = .ok (.iconst 0, 1) := by decide +kernel
theorem dX12_isRequested_32 : decode cX12_isRequested 32 = .ok (.ireturn, 1) := by decide +kernel
theorem dX12_flood_0 : decode cX12_flood 0 = .ok (.aload_n 0, 1) := by decide +kernel
theorem dX12_flood_1 : decode cX12_flood 1 = .ok (.iconst 0, 1) := by decide +kernel
theorem dX12_flood_2 : decode cX12_flood 2 = .ok (.putfield 51, 3) := by decide +kernel
theorem dX12_flood_5 : decode cX12_flood 5 = .ok (.aload_n 0, 1) := by decide +kernel
theorem dX12_flood_6 : decode cX12_flood 6 = .ok (.iload_n 1, 1) := by decide +kernel
theorem dX12_flood_7 : decode cX12_flood 7 = .ok (.iload_n 2, 1) := by decide +kernel
theorem dX12_flood_8 : decode cX12_flood 8 = .ok (.invokevirtual 373, 3) := by decide +kernel
theorem dX12_flood_11 : decode cX12_flood 11 = .ok (.ifCond .ne 5, 3) := by decide +kernel
theorem dX12_flood_14 : decode cX12_flood 14 = .ok (.iconst (-1), 1) := by decide +kernel
theorem dX12_flood_15 : decode cX12_flood 15 = .ok (.ireturn, 1) := by decide +kernel
theorem dX12_flood_16 : decode cX12_flood 16 = .ok (.aload_n 0, 1) := by decide +kernel
theorem dX12_flood_17 : decode cX12_flood 17 = .ok (.iconst 0, 1) := by decide +kernel
theorem dX12_flood_18 : decode cX12_flood 18 = .ok (.iconst 4, 1) := by decide +kernel
theorem dX12_flood_19 : decode cX12_flood 19 = .ok (.invokevirtual 410, 3) := by decide +kernel
theorem dX12_flood_22 : decode cX12_flood 22 = .ok (.bipush 14, 2) := by decide +kernel
theorem dX12_flood_24 : decode cX12_flood 24 = .ok (.iload_n 3, 1) := by decide +kernel
theorem dX12_flood_25 : decode cX12_flood 25 = .ok (.ifCond .eq 7, 3) := by decide +kernel
theorem dX12_flood_28 : decode cX12_flood 28 = .ok (.iconst 2, 1) := by decide +kernel
theorem dX12_flood_29 : decode cX12_flood 29 = .ok (.goto 4, 3) := by decide +kernel
theorem dX12_flood_32 : decode cX12_flood 32 = .ok (.iconst 1, 1) := by decide +kernel
theorem dX12_flood_33 : decode cX12_flood 33 = .ok (.iadd, 1) := by decide +kernel
theorem dX12_flood_34 : decode cX12_flood 34 = .ok (.istore 4, 2) := by decide +kernel
theorem dX12_flood_36 : decode cX12_flood 36 = .ok (.aload_n 0, 1) := by decide +kernel
theorem dX12_flood_37 : decode cX12_flood 37 = .ok (.getfield 7, 3) := by decide +kernel
theorem dX12_flood_40 : decode cX12_flood 40 = .ok (.iload 4, 2) := by decide +kernel
theorem dX12_flood_42 : decode cX12_flood 42 = .ok (.iaload, 1) := by decide +kernel
theorem dX12_flood_43 : decode cX12_flood 43 = .ok (.istore 5, 2) := by decide +kernel
theorem dX12_flood_45 : decode cX12_flood 45 = .ok (.aload_n 0, 1) := by decide +kernel
theorem dX12_flood_46 : decode cX12_flood 46 = .ok (.getfield 7, 3) := by decide +kernel
theorem dX12_flood_49 : decode cX12_flood 49 = .ok (.bipush 10, 2) := by decide +kernel
theorem dX12_flood_51 : decode cX12_flood 51 = .ok (.iconst 0, 1) := by decide +kernel
theorem dX12_flood_52 : decode cX12_flood 52 = .ok (.iastore, 1) := by decide +kernel
theorem dX12_flood_53 : decode cX12_flood 53 = .ok (.aload_n 0, 1) := by decide +kernel
theorem dX12_flood_54 : decode cX12_flood 54 = .ok (.iload_n 1, 1) := by decide +kernel
theorem dX12_flood_55 : decode cX12_flood 55 = .ok (.iload_n 2, 1) := by decide +kernel
theorem dX12_flood_56 : decode cX12_flood 56 = .ok (.invokevirtual 271, 3) := by decide +kernel
theorem dX12_flood_59 : decode cX12_flood 59 = .ok (.iconst 0, 1) := by decide +kernel
theorem dX12_flood_60 : decode cX12_flood 60 = .ok (.istore 6, 2) := by decide +kernel
theorem dX12_flood_62 : decode cX12_flood 62 = .ok (.iload 6, 2) := by decide +kernel
theorem dX12_flood_64 : decode cX12_flood 64 = .ok (.bipush 20, 2) := by decide +kernel
theorem dX12_flood_66 : decode cX12_flood 66 = .ok (.if_icmp .ge 20, 3) := by decide +kernel
theorem dX12_flood_69 : decode cX12_flood 69 = .ok (.aload_n 0, 1) := by decide +kernel
theorem dX12_flood_70 : decode cX12_flood 70 = .ok (.invokevirtual 422, 3) := by decide +kernel
theorem dX12_flood_73 : decode cX12_flood 73 = .ok (.ifCond .eq 13, 3) := by decide +kernel
theorem dX12_flood_76 : decode cX12_flood 76 = .ok (.aload_n 0, 1) := by decide +kernel
theorem dX12_flood_77 : decode cX12_flood 77 = .ok (.invokevirtual 364, 3) := by decide +kernel
theorem dX12_flood_80 : decode cX12_flood 80 = .ok (.iinc 6 1, 3) := by decide +kernel
theorem dX12_flood_83 : decode cX12_flood 83 = .ok (.goto (-21), 3) := by decide +kernel
theorem dX12_flood_86 : decode cX12_flood 86 = .ok (.aload_n 0, 1) := by decide +kernel
theorem dX12_flood_87 : decode cX12_flood 87 = .ok (.aload_n 0, 1) := by decide +kernel
theorem dX12_flood_88 : decode cX12_flood 88 = .ok (.getfield 7, 3) := by decide +kernel
theorem dX12_flood_91 : decode cX12_flood 91 = .ok (.iload 4, 2) := by decide +kernel
theorem dX12_flood_93 : decode cX12_flood 93 = .ok (.iaload, 1) := by decide +kernel
theorem dX12_flood_94 : decode cX12_flood 94 = .ok (.iload 5, 2) := by decide +kernel
theorem dX12_flood_96 : decode cX12_flood 96 = .ok (.isub, 1) := by decide +kernel
theorem dX12_flood_97 : decode cX12_flood 97 = .ok (.invokevirtual 419, 3) := by decide +kernel
theorem dX12_flood_100 : decode cX12_flood 100 = .ok (.ireturn, 1) := by decide +kernel
theorem dX12_isQuiet_0 : decode cX12_isQuiet 0 = .ok (.aload_n 0, 1) := by decide +kernel
theorem dX12_isQuiet_1 : decode cX12_isQuiet 1 = .ok (.getfield 7, 3) := by decide +kernel
theorem dX12_isQuiet_4 : decode cX12_isQuiet 4 = .ok (.bipush 10, 2) := by decide +kernel
theorem dX12_isQuiet_6 : decode cX12_isQuiet 6 = .ok (.iaload, 1) := by decide +kernel
theorem dX12_isQuiet_7 : decode cX12_isQuiet 7 = .ok (.ifCond .ne 16, 3) := by decide +kernel
theorem dX12_isQuiet_10 : decode cX12_isQuiet 10 = .ok (.aload_n 0, 1) := by decide +kernel
theorem dX12_isQuiet_11 : decode cX12_isQuiet 11 = .ok (.bipush 12, 2) := by decide +kernel
theorem dX12_isQuiet_13 : decode cX12_isQuiet 13 = .ok (.invokevirtual 416, 3) := by decide +kernel
theorem dX12_isQuiet_16 : decode cX12_isQuiet 16 = .ok (.ifCond .ne 7, 3) := by decide +kernel
theorem dX12_isQuiet_19 : decode cX12_isQuiet 19 = .ok (.iconst 1, 1) := by decide +kernel
theorem dX12_isQuiet_20 : decode cX12_isQuiet 20 = .ok (.goto 4, 3) := by decide +kernel
theorem dX12_isQuiet_23 : decode cX12_isQuiet 23 = .ok (.iconst 0, 1) := by decide +kernel
theorem dX12_isQuiet_24 : decode cX12_isQuiet 24 = .ok (.ireturn, 1) := by decide +kernel
theorem dX12_quiet_0 : decode cX12_quiet 0 = .ok (.aload_n 0, 1) := by decide +kernel
theorem dX12_quiet_1 : decode cX12_quiet 1 = .ok (.iconst 0, 1) := by decide +kernel
theorem dX12_quiet_2 : decode cX12_quiet 2 = .ok (.putfield 51, 3) := by decide +kernel
theorem dX12_quiet_5 : decode cX12_quiet 5 = .ok (.aload_n 0, 1) := by decide +kernel
theorem dX12_quiet_6 : decode cX12_quiet 6 = .ok (.iconst 0, 1) := by decide +kernel
theorem dX12_quiet_7 : decode cX12_quiet 7 = .ok (.iconst 4, 1) := by decide +kernel
theorem dX12_quiet_8 : decode cX12_quiet 8 = .ok (.invokevirtual 410, 3) := by decide +kernel
theorem dX12_quiet_11 : decode cX12_quiet 11 = .ok (.iconst 0, 1) := by decide +kernel
theorem dX12_quiet_12 : decode cX12_quiet 12 = .ok (.istore_n 1, 1) := by decide +kernel
theorem dX12_quiet_13 : decode cX12_quiet 13 = .ok (.iload_n 1, 1) := by decide +kernel
theorem dX12_quiet_14 : decode cX12_quiet 14 = .ok (.bipush 12, 2) := by decide +kernel
theorem dX12_quiet_16 : decode cX12_quiet 16 = .ok (.if_icmp .gt 26, 3) := by decide +kernel
theorem dX12_quiet_19 : decode cX12_quiet 19 = .ok (.aload_n 0, 1) := by decide +kernel
theorem dX12_quiet_20 : decode cX12_quiet 20 = .ok (.invokevirtual 425, 3) := by decide +kernel
theorem dX12_quiet_23 : decode cX12_quiet 23 = .ok (.ifCond .eq 9, 3) := by decide +kernel
theorem dX12_quiet_26 : decode cX12_quiet 26 = .ok (.aload_n 0, 1) := by decide +kernel
theorem dX12_quiet_27 : decode cX12_quiet 27 = .ok (.iload_n 1, 1) := by decide +kernel
theorem dX12_quiet_28 : decode cX12_quiet 28 = .ok (.invokevirtual 419, 3) := by decide +kernel
theorem dX12_quiet_31 : decode cX12_quiet 31 = .ok (.ireturn, 1) := by decide +kernel
theorem dX12_quiet_32 : decode cX12_quiet 32 = .ok (.aload_n 0, 1) := by decide +kernel
theorem dX12_quiet_33 : decode cX12_quiet 33 = .ok (.invokevirtual 382, 3) := by decide +kernel
theorem dX12_quiet_36 : decode cX12_quiet 36 = .ok (.iinc 1 1, 3) := by decide +kernel
theorem dX12_quiet_39 : decode cX12_quiet 39 = .ok (.goto (-26), 3) := by decide +kernel
theorem dX12_quiet_42 : decode cX12_quiet 42 = .ok (.aload_n 0, 1) := by decide +kernel
theorem dX12_quiet_43 : decode cX12_quiet 43 = .ok (.iconst (-1), 1) := by decide +kernel
theorem dX12_quiet_44 : decode cX12_quiet 44 = .ok (.invokevirtual 419, 3) := by decide +kernel
theorem dX12_quiet_47 : decode cX12_quiet 47 = .ok (.ireturn, 1) := by decide +kernel
theorem dX12_copiesText_0 : decode cX12_copiesText 0 = .ok (.aload_n 0, 1) := by decide +kernel
theorem dX12_copiesText_1 : decode cX12_copiesText 1 = .ok (.iload_n 1, 1) := by decide +kernel
theorem dX12_copiesText_2 : decode cX12_copiesText 2 = .ok (.iload_n 2, 1) := by decide +kernel
theorem dX12_copiesText_3 : decode cX12_copiesText 3 = .ok (.invokevirtual 410, 3) := by decide +kernel
theorem dX12_copiesText_6 : decode cX12_copiesText 6 = .ok (.iconst 0, 1) := by decide +kernel
theorem dX12_copiesText_7 : decode cX12_copiesText 7 = .ok (.istore_n 3, 1) := by decide +kernel
theorem dX12_copiesText_8 : decode cX12_copiesText 8 = .ok (.iload_n 3, 1) := by decide +kernel
theorem dX12_copiesText_9 : decode cX12_copiesText 9 = .ok (.sipush 400, 3) := by decide +kernel
theorem dX12_copiesText_12 : decode cX12_copiesText 12 = .ok (.if_icmp .ge 33, 3) := by decide +kernel
theorem dX12_copiesText_15 : decode cX12_copiesText 15 = .ok (.aload_n 0, 1) := by decide +kernel
theorem dX12_copiesText_16 : decode cX12_copiesText 16 = .ok (.getfield 13, 3) := by decide +kernel
theorem dX12_copiesText_19 : decode cX12_copiesText 19 = .ok (.sipush 400, 3) := by decide +kernel
theorem dX12_copiesText_22 : decode cX12_copiesText 22 = .ok (.iload_n 2, 1) := by decide +kernel
theorem dX12_copiesText_23 : decode cX12_copiesText 23 = .ok (.imul, 1) := by decide +kernel
theorem dX12_copiesText_24 : decode cX12_copiesText 24 = .ok (.iload_n 3, 1) := by decide +kernel
theorem dX12_copiesText_25 : decode cX12_copiesText 25 = .ok (.iadd, 1) := by decide +kernel
theorem dX12_copiesText_26 : decode cX12_copiesText 26 = .ok (.aload_n 0, 1) := by decide +kernel
theorem dX12_copiesText_27 : decode cX12_copiesText 27 = .ok (.getfield 13, 3) := by decide +kernel
theorem dX12_copiesText_30 : decode cX12_copiesText 30 = .ok (.sipush 400, 3) := by decide +kernel
theorem dX12_copiesText_33 : decode cX12_copiesText 33 = .ok (.iload_n 1, 1) := by decide +kernel
theorem dX12_copiesText_34 : decode cX12_copiesText 34 = .ok (.imul, 1) := by decide +kernel
theorem dX12_copiesText_35 : decode cX12_copiesText 35 = .ok (.iload_n 3, 1) := by decide +kernel
theorem dX12_copiesText_36 : decode cX12_copiesText 36 = .ok (.iadd, 1) := by decide +kernel
theorem dX12_copiesText_37 : decode cX12_copiesText 37 = .ok (.baload, 1) := by decide +kernel
theorem dX12_copiesText_38 : decode cX12_copiesText 38 = .ok (.bastore, 1) := by decide +kernel
theorem dX12_copiesText_39 : decode cX12_copiesText 39 = .ok (.iinc 3 1, 3) := by decide +kernel
theorem dX12_copiesText_42 : decode cX12_copiesText 42 = .ok (.goto (-34), 3) := by decide +kernel
theorem dX12_copiesText_45 : decode cX12_copiesText 45 = .ok (.return_, 1) := by decide +kernel
theorem dX12_image_0 : decode cX12_image 0 = .ok (.aload_n 0, 1) := by decide +kernel
theorem dX12_image_1 : decode cX12_image 1 = .ok (.iconst 0, 1) := by decide +kernel
theorem dX12_image_2 : decode cX12_image 2 = .ok (.putfield 51, 3) := by decide +kernel
theorem dX12_image_5 : decode cX12_image 5 = .ok (.iload_n 1, 1) := by decide +kernel
theorem dX12_image_6 : decode cX12_image 6 = .ok (.iconst 0, 1) := by decide +kernel
theorem dX12_image_7 : decode cX12_image 7 = .ok (.iconst 2, 1) := by decide +kernel
theorem dX12_image_8 : decode cX12_image 8 = .ok (.invokestatic 55, 3) := by decide +kernel
theorem dX12_image_11 : decode cX12_image 11 = .ok (.ifCond .ne 5, 3) := by decide +kernel
theorem dX12_image_14 : decode cX12_image 14 = .ok (.iconst 0, 1) := by decide +kernel
theorem dX12_image_15 : decode cX12_image 15 = .ok (.ireturn, 1) := by decide +kernel
theorem dX12_image_16 : decode cX12_image 16 = .ok (.aload_n 0, 1) := by decide +kernel
theorem dX12_image_17 : decode cX12_image 17 = .ok (.iconst 0, 1) := by decide +kernel
theorem dX12_image_18 : decode cX12_image 18 = .ok (.iload_n 1, 1) := by decide +kernel
theorem dX12_image_19 : decode cX12_image 19 = .ok (.iconst 1, 1) := by decide +kernel
theorem dX12_image_20 : decode cX12_image 20 = .ok (.iadd, 1) := by decide +kernel
theorem dX12_image_21 : decode cX12_image 21 = .ok (.invokevirtual 428, 3) := by decide +kernel
theorem dX12_image_24 : decode cX12_image 24 = .ok (.aload_n 0, 1) := by decide +kernel
theorem dX12_image_25 : decode cX12_image 25 = .ok (.getfield 17, 3) := by decide +kernel
theorem dX12_image_28 : decode cX12_image 28 = .ok (.iload_n 1, 1) := by decide +kernel
theorem dX12_image_29 : decode cX12_image 29 = .ok (.iconst 1, 1) := by decide +kernel
theorem dX12_image_30 : decode cX12_image 30 = .ok (.bastore, 1) := by decide +kernel
theorem dX12_image_31 : decode cX12_image 31 = .ok (.iconst 1, 1) := by decide +kernel
theorem dX12_image_32 : decode cX12_image 32 = .ok (.ireturn, 1) := by decide +kernel
theorem dX12_again_0 : decode cX12_again 0 = .ok (.aload_n 0, 1) := by decide +kernel
theorem dX12_again_1 : decode cX12_again 1 = .ok (.iconst 0, 1) := by decide +kernel
theorem dX12_again_2 : decode cX12_again 2 = .ok (.putfield 51, 3) := by decide +kernel
theorem dX12_again_5 : decode cX12_again 5 = .ok (.iload_n 1, 1) := by decide +kernel
theorem dX12_again_6 : decode cX12_again 6 = .ok (.iconst 0, 1) := by decide +kernel
theorem dX12_again_7 : decode cX12_again 7 = .ok (.iconst 2, 1) := by decide +kernel
theorem dX12_again_8 : decode cX12_again 8 = .ok (.invokestatic 55, 3) := by decide +kernel
theorem dX12_again_11 : decode cX12_again 11 = .ok (.ifCond .eq 12, 3) := by decide +kernel
theorem dX12_again_14 : decode cX12_again 14 = .ok (.aload_n 0, 1) := by decide +kernel
theorem dX12_again_15 : decode cX12_again 15 = .ok (.getfield 17, 3) := by decide +kernel
theorem dX12_again_18 : decode cX12_again 18 = .ok (.iload_n 1, 1) := by decide +kernel
theorem dX12_again_19 : decode cX12_again 19 = .ok (.baload, 1) := by decide +kernel
theorem dX12_again_20 : decode cX12_again 20 = .ok (.ifCond .ne 5, 3) := by decide +kernel
theorem dX12_again_23 : decode cX12_again 23 = .ok (.iconst 0, 1) := by decide +kernel
theorem dX12_again_24 : decode cX12_again 24 = .ok (.ireturn, 1) := by decide +kernel
theorem dX12_again_25 : decode cX12_again 25 = .ok (.aload_n 0, 1) := by decide +kernel
theorem dX12_again_26 : decode cX12_again 26 = .ok (.iload_n 1, 1) := by decide +kernel
theorem dX12_again_27 : decode cX12_again 27 = .ok (.iconst 1, 1) := by decide +kernel
theorem dX12_again_28 : decode cX12_again 28 = .ok (.iadd, 1) := by decide +kernel
theorem dX12_again_29 : decode cX12_again 29 = .ok (.iconst 0, 1) := by decide +kernel
theorem dX12_again_30 : decode cX12_again 30 = .ok (.invokevirtual 428, 3) := by decide +kernel
theorem dX12_again_33 : decode cX12_again 33 = .ok (.iconst 1, 1) := by decide +kernel
theorem dX12_again_34 : decode cX12_again 34 = .ok (.ireturn, 1) := by decide +kernel
