theorem dX3_takeDown_46 : decode cX3_takeDown 46 = .ok (.invokevirtual 134, 3) := by decide +kernel
theorem dX3_takeDown_49 : decode cX3_takeDown 49 = .ok (.iastore, 1) := by decide +kernel
theorem dX3_takeDown_50 : decode cX3_takeDown 50 = .ok (.iinc 2 1, 3) := by decide +kernel
theorem dX3_takeDown_53 : decode cX3_takeDown 53 = .ok (.goto (-32), 3) := by decide +kernel
theorem dX3_takeDown_56 : decode cX3_takeDown 56 = .ok (.iconst 1, 1) := by decide +kernel
theorem dX3_takeDown_57 : decode cX3_takeDown 57 = .ok (.iload_n 1, 1) := by decide +kernel
theorem dX3_takeDown_58 : decode cX3_takeDown 58 = .ok (.ishl, 1) := by decide +kernel
theorem dX3_takeDown_59 : decode cX3_takeDown 59 = .ok (.iconst 1, 1) := by decide +kernel
theorem dX3_takeDown_60 : decode cX3_takeDown 60 = .ok (.isub, 1) := by decide +kernel
theorem dX3_takeDown_61 : decode cX3_takeDown 61 = .ok (.istore_n 2, 1) := by decide +kernel
theorem dX3_takeDown_62 : decode cX3_takeDown 62 = .ok (.iconst 0, 1) := by decide +kernel
theorem dX3_takeDown_63 : decode cX3_takeDown 63 = .ok (.istore_n 3, 1) := by decide +kernel
theorem dX3_takeDown_64 : decode cX3_takeDown 64 = .ok (.aload_n 0, 1) := by decide +kernel
theorem dX3_takeDown_65 : decode cX3_takeDown 65 = .ok (.iload_n 2, 1) := by decide +kernel
theorem dX3_takeDown_66 : decode cX3_takeDown 66 = .ok (.invokevirtual 137, 3) := by decide +kernel
theorem dX3_takeDown_69 : decode cX3_takeDown 69 = .ok (.istore 4, 2) := by decide +kernel
theorem dX3_takeDown_71 : decode cX3_takeDown 71 = .ok (.iload 4, 2) := by decide +kernel
theorem dX3_takeDown_73 : decode cX3_takeDown 73 = .ok (.iconst (-1), 1) := by decide +kernel
theorem dX3_takeDown_74 : decode cX3_takeDown 74 = .ok (.if_icmp .eq 40, 3) := by decide +kernel
theorem dX3_takeDown_77 : decode cX3_takeDown 77 = .ok (.iload_n 3, 1) := by decide +kernel
theorem dX3_takeDown_78 : decode cX3_takeDown 78 = .ok (.aload_n 0, 1) := by decide +kernel
theorem dX3_takeDown_79 : decode cX3_takeDown 79 = .ok (.getfield 21, 3) := by decide +kernel
theorem dX3_takeDown_82 : decode cX3_takeDown 82 = .ok (.arraylength, 1) := by decide +kernel
theorem dX3_takeDown_83 : decode cX3_takeDown 83 = .ok (.if_icmp .ge 31, 3) := by decide +kernel
theorem dX3_takeDown_86 : decode cX3_takeDown 86 = .ok (.aload_n 0, 1) := by decide +kernel
theorem dX3_takeDown_87 : decode cX3_takeDown 87 = .ok (.getfield 21, 3) := by decide +kernel
theorem dX3_takeDown_90 : decode cX3_takeDown 90 = .ok (.iload_n 3, 1) := by decide +kernel
theorem dX3_takeDown_91 : decode cX3_takeDown 91 = .ok (.iload 4, 2) := by decide +kernel
theorem dX3_takeDown_93 : decode cX3_takeDown 93 = .ok (.iastore, 1) := by decide +kernel
theorem dX3_takeDown_94 : decode cX3_takeDown 94 = .ok (.iinc 3 1, 3) := by decide +kernel
theorem dX3_takeDown_97 : decode cX3_takeDown 97 = .ok (.iload_n 2, 1) := by decide +kernel
theorem dX3_takeDown_98 : decode cX3_takeDown 98 = .ok (.iconst 1, 1) := by decide +kernel
theorem dX3_takeDown_99 : decode cX3_takeDown 99 = .ok (.iload 4, 2) := by decide +kernel
theorem dX3_takeDown_101 : decode cX3_takeDown 101 = .ok (.ishl, 1) := by decide +kernel
theorem dX3_takeDown_102 : decode cX3_takeDown 102 = .ok (.isub, 1) := by decide +kernel
theorem dX3_takeDown_103 : decode cX3_takeDown 103 = .ok (.istore_n 2, 1) := by decide +kernel
theorem dX3_takeDown_104 : decode cX3_takeDown 104 = .ok (.aload_n 0, 1) := by decide +kernel
theorem dX3_takeDown_105 : decode cX3_takeDown 105 = .ok (.iload_n 2, 1) := by decide +kernel
theorem dX3_takeDown_106 : decode cX3_takeDown 106 = .ok (.invokevirtual 137, 3) := by decide +kernel
theorem dX3_takeDown_109 : decode cX3_takeDown 109 = .ok (.istore 4, 2) := by decide +kernel
theorem dX3_takeDown_111 : decode cX3_takeDown 111 = .ok (.goto (-40), 3) := by decide +kernel
theorem dX3_takeDown_114 : decode cX3_takeDown 114 = .ok (.iload_n 3, 1) := by decide +kernel
theorem dX3_takeDown_115 : decode cX3_takeDown 115 = .ok (.ireturn, 1) := by decide +kernel
theorem dX3_leaverAt_0 : decode cX3_leaverAt 0 = .ok (.iload_n 1, 1) := by decide +kernel
theorem dX3_leaverAt_1 : decode cX3_leaverAt 1 = .ok (.ifCond .lt 21, 3) := by decide +kernel
theorem dX3_leaverAt_4 : decode cX3_leaverAt 4 = .ok (.iload_n 1, 1) := by decide +kernel
theorem dX3_leaverAt_5 : decode cX3_leaverAt 5 = .ok (.aload_n 0, 1) := by decide +kernel
theorem dX3_leaverAt_6 : decode cX3_leaverAt 6 = .ok (.getfield 21, 3) := by decide +kernel
theorem dX3_leaverAt_9 : decode cX3_leaverAt 9 = .ok (.arraylength, 1) := by decide +kernel
theorem dX3_leaverAt_10 : decode cX3_leaverAt 10 = .ok (.if_icmp .ge 12, 3) := by decide +kernel
theorem dX3_leaverAt_13 : decode cX3_leaverAt 13 = .ok (.aload_n 0, 1) := by decide +kernel
theorem dX3_leaverAt_14 : decode cX3_leaverAt 14 = .ok (.getfield 21, 3) := by decide +kernel
theorem dX3_leaverAt_17 : decode cX3_leaverAt 17 = .ok (.iload_n 1, 1) := by decide +kernel
theorem dX3_leaverAt_18 : decode cX3_leaverAt 18 = .ok (.iaload, 1) := by decide +kernel
theorem dX3_leaverAt_19 : decode cX3_leaverAt 19 = .ok (.goto 4, 3) := by decide +kernel
theorem dX3_leaverAt_22 : decode cX3_leaverAt 22 = .ok (.iconst (-1), 1) := by decide +kernel
theorem dX3_leaverAt_23 : decode cX3_leaverAt 23 = .ok (.ireturn, 1) := by decide +kernel
theorem dX3_nextToGo_0 : decode cX3_nextToGo 0 = .ok (.iconst 0, 1) := by decide +kernel
theorem dX3_nextToGo_1 : decode cX3_nextToGo 1 = .ok (.istore_n 2, 1) := by decide +kernel
theorem dX3_nextToGo_2 : decode cX3_nextToGo 2 = .ok (.iload_n 2, 1) := by decide +kernel
theorem dX3_nextToGo_3 : decode cX3_nextToGo 3 = .ok (.aload_n 0, 1) := by decide +kernel
theorem dX3_nextToGo_4 : decode cX3_nextToGo 4 = .ok (.getfield 18, 3) := by decide +kernel
theorem dX3_nextToGo_7 : decode cX3_nextToGo 7 = .ok (.arraylength, 1) := by decide +kernel
theorem dX3_nextToGo_8 : decode cX3_nextToGo 8 = .ok (.if_icmp .ge 31, 3) := by decide +kernel
theorem dX3_nextToGo_11 : decode cX3_nextToGo 11 = .ok (.iload_n 1, 1) := by decide +kernel
theorem dX3_nextToGo_12 : decode cX3_nextToGo 12 = .ok (.iload_n 2, 1) := by decide +kernel
theorem dX3_nextToGo_13 : decode cX3_nextToGo 13 = .ok (.ishr, 1) := by decide +kernel
theorem dX3_nextToGo_14 : decode cX3_nextToGo 14 = .ok (.iconst 1, 1) := by decide +kernel
theorem dX3_nextToGo_15 : decode cX3_nextToGo 15 = .ok (.iand, 1) := by decide +kernel
theorem dX3_nextToGo_16 : decode cX3_nextToGo 16 = .ok (.iconst 1, 1) := by decide +kernel
theorem dX3_nextToGo_17 : decode cX3_nextToGo 17 = .ok (.if_icmp .ne 16, 3) := by decide +kernel
theorem dX3_nextToGo_20 : decode cX3_nextToGo 20 = .ok (.aload_n 0, 1) := by decide +kernel
theorem dX3_nextToGo_21 : decode cX3_nextToGo 21 = .ok (.getfield 18, 3) := by decide +kernel
theorem dX3_nextToGo_24 : decode cX3_nextToGo 24 = .ok (.iload_n 2, 1) := by decide +kernel
theorem dX3_nextToGo_25 : decode cX3_nextToGo 25 = .ok (.iaload, 1) := by decide +kernel
theorem dX3_nextToGo_26 : decode cX3_nextToGo 26 = .ok (.iload_n 1, 1) := by decide +kernel
theorem dX3_nextToGo_27 : decode cX3_nextToGo 27 = .ok (.iand, 1) := by decide +kernel
theorem dX3_nextToGo_28 : decode cX3_nextToGo 28 = .ok (.ifCond .eq 5, 3) := by decide +kernel
theorem dX3_nextToGo_31 : decode cX3_nextToGo 31 = .ok (.iload_n 2, 1) := by decide +kernel
theorem dX3_nextToGo_32 : decode cX3_nextToGo 32 = .ok (.ireturn, 1) := by decide +kernel
theorem dX3_nextToGo_33 : decode cX3_nextToGo 33 = .ok (.iinc 2 1, 3) := by decide +kernel
theorem dX3_nextToGo_36 : decode cX3_nextToGo 36 = .ok (.goto (-34), 3) := by decide +kernel
theorem dX3_nextToGo_39 : decode cX3_nextToGo 39 = .ok (.iconst (-1), 1) := by decide +kernel
theorem dX3_nextToGo_40 : decode cX3_nextToGo 40 = .ok (.ireturn, 1) := by decide +kernel
theorem dX3_takersOf_0 : decode cX3_takersOf 0 = .ok (.aload_n 1, 1) := by decide +kernel
theorem dX3_takersOf_1 : decode cX3_takersOf 1 = .ok (.getfield 140, 3) := by decide +kernel
theorem dX3_takersOf_4 : decode cX3_takersOf 4 = .ok (.bipush 8, 2) := by decide +kernel
theorem dX3_takersOf_6 : decode cX3_takersOf 6 = .ok (.if_icmp .gt 12, 3) := by decide +kernel
theorem dX3_takersOf_9 : decode cX3_takersOf 9 = .ok (.iconst 1, 1) := by decide +kernel
theorem dX3_takersOf_10 : decode cX3_takersOf 10 = .ok (.aload_n 1, 1) := by decide +kernel
theorem dX3_takersOf_11 : decode cX3_takersOf 11 = .ok (.getfield 143, 3) := by decide +kernel
theorem dX3_takersOf_14 : decode cX3_takersOf 14 = .ok (.ishl, 1) := by decide +kernel
theorem dX3_takersOf_15 : decode cX3_takersOf 15 = .ok (.goto 4, 3) := by decide +kernel
theorem dX3_takersOf_18 : decode cX3_takersOf 18 = .ok (.iconst 0, 1) := by decide +kernel
theorem dX3_takersOf_19 : decode cX3_takersOf 19 = .ok (.istore_n 2, 1) := by decide +kernel
theorem dX3_takersOf_20 : decode cX3_takersOf 20 = .ok (.iconst 0, 1) := by decide +kernel
theorem dX3_takersOf_21 : decode cX3_takersOf 21 = .ok (.istore_n 3, 1) := by decide +kernel
theorem dX3_takersOf_22 : decode cX3_takersOf 22 = .ok (.iload_n 3, 1) := by decide +kernel
theorem dX3_takersOf_23 : decode cX3_takersOf 23 = .ok (.aload_n 0, 1) := by decide +kernel
theorem dX3_takersOf_24 : decode cX3_takersOf 24 = .ok (.getfield 24, 3) := by decide +kernel
theorem dX3_takersOf_27 : decode cX3_takersOf 27 = .ok (.getfield 79, 3) := by decide +kernel
theorem dX3_takersOf_30 : decode cX3_takersOf 30 = .ok (.invokevirtual 83, 3) := by decide +kernel
theorem dX3_takersOf_33 : decode cX3_takersOf 33 = .ok (.if_icmp .ge 66, 3) := by decide +kernel
theorem dX3_takersOf_36 : decode cX3_takersOf 36 = .ok (.aload_n 0, 1) := by decide +kernel
theorem dX3_takersOf_37 : decode cX3_takersOf 37 = .ok (.getfield 24, 3) := by decide +kernel
theorem dX3_takersOf_40 : decode cX3_takersOf 40 = .ok (.getfield 79, 3) := by decide +kernel
theorem dX3_takersOf_43 : decode cX3_takersOf 43 = .ok (.iload_n 3, 1) := by decide +kernel
theorem dX3_takersOf_44 : decode cX3_takersOf 44 = .ok (.invokevirtual 88, 3) := by decide +kernel
theorem dX3_takersOf_47 : decode cX3_takersOf 47 = .ok (.checkcast 42, 3) := by decide +kernel
theorem dX3_takersOf_50 : decode cX3_takersOf 50 = .ok (.astore 4, 2) := by decide +kernel
theorem dX3_takersOf_52 : decode cX3_takersOf 52 = .ok (.aload 4, 2) := by decide +kernel
theorem dX3_takersOf_54 : decode cX3_takersOf 54 = .ok (.aload_n 1, 1) := by decide +kernel
theorem dX3_takersOf_55 : decode cX3_takersOf 55 = .ok (.if_acmp .eq 38, 3) := by decide +kernel
theorem dX3_takersOf_58 : decode cX3_takersOf 58 = .ok (.aload 4, 2) := by decide +kernel
theorem dX3_takersOf_60 : decode cX3_takersOf 60 = .ok (.getfield 140, 3) := by decide +kernel
theorem dX3_takersOf_63 : decode cX3_takersOf 63 = .ok (.aload_n 1, 1) := by decide +kernel
theorem dX3_takersOf_64 : decode cX3_takersOf 64 = .ok (.getfield 140, 3) := by decide +kernel
theorem dX3_takersOf_67 : decode cX3_takersOf 67 = .ok (.if_icmp .lt 26, 3) := by decide +kernel
theorem dX3_takersOf_70 : decode cX3_takersOf 70 = .ok (.aload_n 0, 1) := by decide +kernel
theorem dX3_takersOf_71 : decode cX3_takersOf 71 = .ok (.aload 4, 2) := by decide +kernel
theorem dX3_takersOf_73 : decode cX3_takersOf 73 = .ok (.aload_n 1, 1) := by decide +kernel
theorem dX3_takersOf_74 : decode cX3_takersOf 74 = .ok (.getfield 146, 3) := by decide +kernel
theorem dX3_takersOf_77 : decode cX3_takersOf 77 = .ok (.aload_n 1, 1) := by decide +kernel
theorem dX3_takersOf_78 : decode cX3_takersOf 78 = .ok (.invokevirtual 149, 3) := by decide +kernel
theorem dX3_takersOf_81 : decode cX3_takersOf 81 = .ok (.invokevirtual 92, 3) := by decide +kernel
theorem dX3_takersOf_84 : decode cX3_takersOf 84 = .ok (.ifCond .eq 9, 3) := by decide +kernel
theorem dX3_takersOf_87 : decode cX3_takersOf 87 = .ok (.iload_n 2, 1) := by decide +kernel
theorem dX3_takersOf_88 : decode cX3_takersOf 88 = .ok (.iconst 1, 1) := by decide +kernel
theorem dX3_takersOf_89 : decode cX3_takersOf 89 = .ok (.iload_n 3, 1) := by decide +kernel
theorem dX3_takersOf_90 : decode cX3_takersOf 90 = .ok (.ishl, 1) := by decide +kernel
theorem dX3_takersOf_91 : decode cX3_takersOf 91 = .ok (.ior, 1) := by decide +kernel
theorem dX3_takersOf_92 : decode cX3_takersOf 92 = .ok (.istore_n 2, 1) := by decide +kernel
theorem dX3_takersOf_93 : decode cX3_takersOf 93 = .ok (.iinc 3 1, 3) := by decide +kernel
theorem dX3_takersOf_96 : decode cX3_takersOf 96 = .ok (.goto (-74), 3) := by decide +kernel
theorem dX3_takersOf_99 : decode cX3_takersOf 99 = .ok (.iload_n 2, 1) := by decide +kernel
theorem dX3_takersOf_100 : decode cX3_takersOf 100 = .ok (.ireturn, 1) := by decide +kernel
theorem dX4_init_0 : decode cX4_init 0 = .ok (.aload_n 0, 1) := by decide +kernel
theorem dX4_init_1 : decode cX4_init 1 = .ok (.invokespecial 1, 3) := by decide +kernel
theorem dX4_init_4 : decode cX4_init 4 = .ok (.aload_n 0, 1) := by decide +kernel
theorem dX4_init_5 : decode cX4_init 5 = .ok (.iload_n 1, 1) := by decide +kernel
theorem dX4_init_6 : decode cX4_init 6 = .ok (.putfield 7, 3) := by decide +kernel
theorem dX4_init_9 : decode cX4_init 9 = .ok (.aload_n 0, 1) := by decide +kernel
theorem dX4_init_10 : decode cX4_init 10 = .ok (.iload_n 2, 1) := by decide +kernel
theorem dX4_init_11 : decode cX4_init 11 = .ok (.putfield 13, 3) := by decide +kernel
theorem dX4_init_14 : decode cX4_init 14 = .ok (.aload_n 0, 1) := by decide +kernel
theorem dX4_init_15 : decode cX4_init 15 = .ok (.iload_n 3, 1) := by decide +kernel
theorem dX4_init_16 : decode cX4_init 16 = .ok (.putfield 16, 3) := by decide +kernel
theorem dX4_init_19 : decode cX4_init 19 = .ok (.return_, 1) := by decide +kernel
theorem dX5_init_0 : decode cX5_init 0 = .ok (.aload_n 0, 1) := by decide +kernel
theorem dX5_init_1 : decode cX5_init 1 = .ok (.invokespecial 3, 3) := by decide +kernel
theorem dX5_init_4 : decode cX5_init 4 = .ok (.aload_n 0, 1) := by decide +kernel
theorem dX5_init_5 : decode cX5_init 5 = .ok (.new 9, 3) := by decide +kernel
theorem dX5_init_8 : decode cX5_init 8 = .ok (.dup, 1) := by decide +kernel
theorem dX5_init_9 : decode cX5_init 9 = .ok (.invokespecial 11, 3) := by decide +kernel
theorem dX5_init_12 : decode cX5_init 12 = .ok (.putfield 12, 3) := by decide +kernel
theorem dX5_init_15 : decode cX5_init 15 = .ok (.aload_n 0, 1) := by decide +kernel
theorem dX5_init_16 : decode cX5_init 16 = .ok (.new 9, 3) := by decide +kernel
theorem dX5_init_19 : decode cX5_init 19 = .ok (.dup, 1) := by decide +kernel
theorem dX5_init_20 : decode cX5_init 20 = .ok (.invokespecial 11, 3) := by decide +kernel
theorem dX5_init_23 : decode cX5_init 23 = .ok (.putfield 18, 3) := by decide +kernel
theorem dX5_init_26 : decode cX5_init 26 = .ok (.aload_n 0, 1) := by decide +kernel
theorem dX5_init_27 : decode cX5_init 27 = .ok (.new 9, 3) := by decide +kernel
theorem dX5_init_30 : decode cX5_init 30 = .ok (.dup, 1) := by decide +kernel
theorem dX5_init_31 : decode cX5_init 31 = .ok (.invokespecial 11, 3) := by decide +kernel
theorem dX5_init_34 : decode cX5_init 34 = .ok (.putfield 21, 3) := by decide +kernel
theorem dX5_init_37 : decode cX5_init 37 = .ok (.aload_n 0, 1) := by decide +kernel
theorem dX5_init_38 : decode cX5_init 38 = .ok (.new 9, 3) := by decide +kernel
theorem dX5_init_41 : decode cX5_init 41 = .ok (.dup, 1) := by decide +kernel
theorem dX5_init_42 : decode cX5_init 42 = .ok (.invokespecial 11, 3) := by decide +kernel
theorem dX5_init_45 : decode cX5_init 45 = .ok (.putfield 24, 3) := by decide +kernel
theorem dX5_init_48 : decode cX5_init 48 = .ok (.aload_n 0, 1) := by decide +kernel
theorem dX5_init_49 : decode cX5_init 49 = .ok (.new 27, 3) := by decide +kernel
theorem dX5_init_52 : decode cX5_init 52 = .ok (.dup, 1) := by decide +kernel
theorem dX5_init_53 : decode cX5_init 53 = .ok (.iconst 0, 1) := by decide +kernel
theorem dX5_init_54 : decode cX5_init 54 = .ok (.iconst 0, 1) := by decide +kernel
theorem dX5_init_55 : decode cX5_init 55 = .ok (.iconst 0, 1) := by decide +kernel
theorem dX5_init_56 : decode cX5_init 56 = .ok (.invokespecial 29, 3) := by decide +kernel
theorem dX5_init_59 : decode cX5_init 59 = .ok (.putfield 32, 3) := by decide +kernel
theorem dX5_init_62 : decode cX5_init 62 = .ok (.aload_n 0, 1) := by decide +kernel
theorem dX5_init_63 : decode cX5_init 63 = .ok (.iconst 0, 1) := by decide +kernel
theorem dX5_init_64 : decode cX5_init 64 = .ok (.putfield 36, 3) := by decide +kernel
theorem dX5_init_67 : decode cX5_init 67 = .ok (.aload_n 0, 1) := by decide +kernel
theorem dX5_init_68 : decode cX5_init 68 = .ok (.iconst 0, 1) := by decide +kernel
theorem dX5_init_69 : decode cX5_init 69 = .ok (.putfield 40, 3) := by decide +kernel
theorem dX5_init_72 : decode cX5_init 72 = .ok (.aload_n 0, 1) := by decide +kernel
theorem dX5_init_73 : decode cX5_init 73 = .ok (.iconst 0, 1) := by decide +kernel
theorem dX5_init_74 : decode cX5_init 74 = .ok (.putfield 43, 3) := by decide +kernel
theorem dX5_init_77 : decode cX5_init 77 = .ok (.aload_n 0, 1) := by decide +kernel
theorem dX5_init_78 : decode cX5_init 78 = .ok (.aload_n 1, 1) := by decide +kernel
theorem dX5_init_79 : decode cX5_init 79 = .ok (.putfield 46, 3) := by decide +kernel
theorem dX5_init_82 : decode cX5_init 82 = .ok (.aload_n 0, 1) := by decide +kernel
theorem dX5_init_83 : decode cX5_init 83 = .ok (.new 50, 3) := by decide +kernel
theorem dX5_init_86 : decode cX5_init 86 = .ok (.dup, 1) := by decide +kernel
theorem dX5_init_87 : decode cX5_init 87 = .ok (.aload_n 1, 1) := by decide +kernel
theorem dX5_init_88 : decode cX5_init 88 = .ok (.iconst (-1), 1) := by decide +kernel
theorem dX5_init_89 : decode cX5_init 89 = .ok (.iconst 0, 1) := by decide +kernel
theorem dX5_init_90 : decode cX5_init 90 = .ok (.iconst 3, 1) := by decide +kernel
theorem dX5_init_91 : decode cX5_init 91 = .ok (.iconst 2, 1) := by decide +kernel
theorem dX5_init_92 : decode cX5_init 92 = .ok (.iconst 5, 1) := by decide +kernel
theorem dX5_init_93 : decode cX5_init 93 = .ok (.invokespecial 52, 3) := by decide +kernel
theorem dX5_init_96 : decode cX5_init 96 = .ok (.putfield 55, 3) := by decide +kernel
theorem dX5_init_99 : decode cX5_init 99 = .ok (.return_, 1) := by decide +kernel
theorem dX5_lay_0 : decode cX5_lay 0 = .ok (.aload_n 0, 1) := by decide +kernel
theorem dX5_lay_1 : decode cX5_lay 1 = .ok (.getfield 46, 3) := by decide +kernel
theorem dX5_lay_4 : decode cX5_lay 4 = .ok (.iload_n 1, 1) := by decide +kernel
theorem dX5_lay_5 : decode cX5_lay 5 = .ok (.iload_n 2, 1) := by decide +kernel
theorem dX5_lay_6 : decode cX5_lay 6 = .ok (.invokevirtual 59, 3) := by decide +kernel
theorem dX5_lay_9 : decode cX5_lay 9 = .ok (.aload_n 0, 1) := by decide +kernel
theorem dX5_lay_10 : decode cX5_lay 10 = .ok (.getfield 12, 3) := by decide +kernel
theorem dX5_lay_13 : decode cX5_lay 13 = .ok (.invokevirtual 65, 3) := by decide +kernel
theorem dX5_lay_16 : decode cX5_lay 16 = .ok (.aload_n 0, 1) := by decide +kernel
theorem dX5_lay_17 : decode cX5_lay 17 = .ok (.getfield 18, 3) := by decide +kernel
theorem dX5_lay_20 : decode cX5_lay 20 = .ok (.invokevirtual 65, 3) := by decide +kernel
theorem dX5_lay_23 : decode cX5_lay 23 = .ok (.aload_n 0, 1) := by decide +kernel
theorem dX5_lay_24 : decode cX5_lay 24 = .ok (.getfield 21, 3) := by decide +kernel
theorem dX5_lay_27 : decode cX5_lay 27 = .ok (.invokevirtual 65, 3) := by decide +kernel
theorem dX5_lay_30 : decode cX5_lay 30 = .ok (.aload_n 0, 1) := by decide +kernel
theorem dX5_lay_31 : decode cX5_lay 31 = .ok (.getfield 24, 3) := by decide +kernel
theorem dX5_lay_34 : decode cX5_lay 34 = .ok (.invokevirtual 65, 3) := by decide +kernel
theorem dX5_lay_37 : decode cX5_lay 37 = .ok (.aload_n 0, 1) := by decide +kernel
theorem dX5_lay_38 : decode cX5_lay 38 = .ok (.iconst 0, 1) := by decide +kernel
theorem dX5_lay_39 : decode cX5_lay 39 = .ok (.putfield 36, 3) := by decide +kernel
theorem dX5_lay_42 : decode cX5_lay 42 = .ok (.aload_n 0, 1) := by decide +kernel
theorem dX5_lay_43 : decode cX5_lay 43 = .ok (.iconst 0, 1) := by decide +kernel
theorem dX5_lay_44 : decode cX5_lay 44 = .ok (.putfield 40, 3) := by decide +kernel
theorem dX5_lay_47 : decode cX5_lay 47 = .ok (.aload_n 0, 1) := by decide +kernel
theorem dX5_lay_48 : decode cX5_lay 48 = .ok (.iconst 0, 1) := by decide +kernel
theorem dX5_lay_49 : decode cX5_lay 49 = .ok (.putfield 43, 3) := by decide +kernel
theorem dX5_lay_52 : decode cX5_lay 52 = .ok (.return_, 1) := by decide +kernel
theorem dX5_hour_0 : decode cX5_hour 0 = .ok (.aload_n 0, 1) := by decide +kernel
theorem dX5_hour_1 : decode cX5_hour 1 = .ok (.getfield 36, 3) := by decide +kernel
theorem dX5_hour_4 : decode cX5_hour 4 = .ok (.bipush 20, 2) := by decide +kernel
theorem dX5_hour_6 : decode cX5_hour 6 = .ok (.idiv, 1) := by decide +kernel
theorem dX5_hour_7 : decode cX5_hour 7 = .ok (.bipush 24, 2) := by decide +kernel
theorem dX5_hour_9 : decode cX5_hour 9 = .ok (.irem, 1) := by decide +kernel
theorem dX5_hour_10 : decode cX5_hour 10 = .ok (.ireturn, 1) := by decide +kernel
theorem dX5_windNow_0 : decode cX5_windNow 0 = .ok (.aload_n 0, 1) := by decide +kernel
theorem dX5_windNow_1 : decode cX5_windNow 1 = .ok (.getfield 32, 3) := by decide +kernel
theorem dX5_windNow_4 : decode cX5_windNow 4 = .ok (.astore_n 1, 1) := by decide +kernel
theorem dX5_windNow_5 : decode cX5_windNow 5 = .ok (.iconst 0, 1) := by decide +kernel
theorem dX5_windNow_6 : decode cX5_windNow 6 = .ok (.istore_n 2, 1) := by decide +kernel
theorem dX5_windNow_7 : decode cX5_windNow 7 = .ok (.iload_n 2, 1) := by decide +kernel
theorem dX5_windNow_8 : decode cX5_windNow 8 = .ok (.aload_n 0, 1) := by decide +kernel
theorem dX5_windNow_9 : decode cX5_windNow 9 = .ok (.getfield 12, 3) := by decide +kernel
theorem dX5_windNow_12 : decode cX5_windNow 12 = .ok (.invokevirtual 68, 3) := by decide +kernel
theorem dX5_windNow_15 : decode cX5_windNow 15 = .ok (.if_icmp .ge 45, 3) := by decide +kernel
theorem dX5_windNow_18 : decode cX5_windNow 18 = .ok (.aload_n 0, 1) := by decide +kernel
theorem dX5_windNow_19 : decode cX5_windNow 19 = .ok (.getfield 12, 3) := by decide +kernel
theorem dX5_windNow_22 : decode cX5_windNow 22 = .ok (.iload_n 2, 1) := by decide +kernel
theorem dX5_windNow_23 : decode cX5_windNow 23 = .ok (.invokevirtual 72, 3) := by decide +kernel
theorem dX5_windNow_26 : decode cX5_windNow 26 = .ok (.checkcast 27, 3) := by decide +kernel
theorem dX5_windNow_29 : decode cX5_windNow 29 = .ok (.astore_n 3, 1) := by decide +kernel
theorem dX5_windNow_30 : decode cX5_windNow 30 = .ok (.aload_n 3, 1) := by decide +kernel
theorem dX5_windNow_31 : decode cX5_windNow 31 = .ok (.getfield 76, 3) := by decide +kernel
theorem dX5_windNow_34 : decode cX5_windNow 34 = .ok (.aload_n 0, 1) := by decide +kernel
theorem dX5_windNow_35 : decode cX5_windNow 35 = .ok (.getfield 36, 3) := by decide +kernel
theorem dX5_windNow_38 : decode cX5_windNow 38 = .ok (.if_icmp .gt 16, 3) := by decide +kernel
theorem dX5_windNow_41 : decode cX5_windNow 41 = .ok (.aload_n 3, 1) := by decide +kernel
theorem dX5_windNow_42 : decode cX5_windNow 42 = .ok (.getfield 76, 3) := by decide +kernel
theorem dX5_windNow_45 : decode cX5_windNow 45 = .ok (.aload_n 1, 1) := by decide +kernel
theorem dX5_windNow_46 : decode cX5_windNow 46 = .ok (.getfield 76, 3) := by decide +kernel
theorem dX5_windNow_49 : decode cX5_windNow 49 = .ok (.if_icmp .lt 5, 3) := by decide +kernel
theorem dX5_windNow_52 : decode cX5_windNow 52 = .ok (.aload_n 3, 1) := by decide +kernel
theorem dX5_windNow_53 : decode cX5_windNow 53 = .ok (.astore_n 1, 1) := by decide +kernel
theorem dX5_windNow_54 : decode cX5_windNow 54 = .ok (.iinc 2 1, 3) := by decide +kernel
theorem dX5_windNow_57 : decode cX5_windNow 57 = .ok (.goto (-50), 3) := by decide +kernel
theorem dX5_windNow_60 : decode cX5_windNow 60 = .ok (.aload_n 1, 1) := by decide +kernel
theorem dX5_windNow_61 : decode cX5_windNow 61 = .ok (.areturn, 1) := by decide +kernel
theorem dX5_force_0 : decode cX5_force 0 = .ok (.aload_n 0, 1) := by decide +kernel
theorem dX5_force_1 : decode cX5_force 1 = .ok (.invokevirtual 77, 3) := by decide +kernel
theorem dX5_force_4 : decode cX5_force 4 = .ok (.getfield 81, 3) := by decide +kernel
theorem dX5_force_7 : decode cX5_force 7 = .ok (.ireturn, 1) := by decide +kernel
theorem dX5_windBearing_0 : decode cX5_windBearing 0 = .ok (.aload_n 0, 1) := by decide +kernel
theorem dX5_windBearing_1 : decode cX5_windBearing 1 = .ok (.invokevirtual 77, 3) := by decide +kernel
theorem dX5_windBearing_4 : decode cX5_windBearing 4 = .ok (.getfield 84, 3) := by decide +kernel
theorem dX5_windBearing_7 : decode cX5_windBearing 7 = .ok (.ireturn, 1) := by decide +kernel
theorem dX5_isShut_0 : decode cX5_isShut 0 = .ok (.aload_n 0, 1) := by decide +kernel
theorem dX5_isShut_1 : decode cX5_isShut 1 = .ok (.getfield 46, 3) := by decide +kernel
theorem dX5_isShut_4 : decode cX5_isShut 4 = .ok (.iload_n 1, 1) := by decide +kernel
theorem dX5_isShut_5 : decode cX5_isShut 5 = .ok (.invokevirtual 87, 3) := by decide +kernel
theorem dX5_isShut_8 : decode cX5_isShut 8 = .ok (.istore_n 2, 1) := by decide +kernel
theorem dX5_isShut_9 : decode cX5_isShut 9 = .ok (.aload_n 0, 1) := by decide +kernel
theorem dX5_isShut_10 : decode cX5_isShut 10 = .ok (.getfield 46, 3) := by decide +kernel
theorem dX5_isShut_13 : decode cX5_isShut 13 = .ok (.iload_n 1, 1) := by decide +kernel
theorem dX5_isShut_14 : decode cX5_isShut 14 = .ok (.invokevirtual 91, 3) := by decide +kernel
theorem dX5_isShut_17 : decode cX5_isShut 17 = .ok (.istore_n 3, 1) := by decide +kernel
theorem dX5_isShut_18 : decode cX5_isShut 18 = .ok (.iconst 0, 1) := by decide +kernel
theorem dX5_isShut_19 : decode cX5_isShut 19 = .ok (.istore 4, 2) := by decide +kernel
theorem dX5_isShut_21 : decode cX5_isShut 21 = .ok (.iload 4, 2) := by decide +kernel
theorem dX5_isShut_23 : decode cX5_isShut 23 = .ok (.aload_n 0, 1) := by decide +kernel
theorem dX5_isShut_24 : decode cX5_isShut 24 = .ok (.getfield 18, 3) := by decide +kernel
theorem dX5_isShut_27 : decode cX5_isShut 27 = .ok (.invokevirtual 68, 3) := by decide +kernel
theorem dX5_isShut_30 : decode cX5_isShut 30 = .ok (.if_icmp .ge 47, 3) := by decide +kernel
theorem dX5_isShut_33 : decode cX5_isShut 33 = .ok (.aload_n 0, 1) := by decide +kernel
theorem dX5_isShut_34 : decode cX5_isShut 34 = .ok (.getfield 18, 3) := by decide +kernel
theorem dX5_isShut_37 : decode cX5_isShut 37 = .ok (.iload 4, 2) := by decide +kernel
theorem dX5_isShut_39 : decode cX5_isShut 39 = .ok (.invokevirtual 72, 3) := by decide +kernel
theorem dX5_isShut_42 : decode cX5_isShut 42 = .ok (.checkcast 94, 3) := by decide +kernel
theorem dX5_isShut_45 : decode cX5_isShut 45 = .ok (.astore 5, 2) := by decide +kernel
theorem dX5_isShut_47 : decode cX5_isShut 47 = .ok (.aload 5, 2) := by decide +kernel
theorem dX5_isShut_49 : decode cX5_isShut 49 = .ok (.iload_n 2, 1) := by decide +kernel
theorem dX5_isShut_50 : decode cX5_isShut 50 = .ok (.iload_n 3, 1) := by decide +kernel
theorem dX5_isShut_51 : decode cX5_isShut 51 = .ok (.invokevirtual 96, 3) := by decide +kernel
theorem dX5_isShut_54 : decode cX5_isShut 54 = .ok (.ifCond .eq 17, 3) := by decide +kernel
theorem dX5_isShut_57 : decode cX5_isShut 57 = .ok (.aload 5, 2) := by decide +kernel
theorem dX5_isShut_59 : decode cX5_isShut 59 = .ok (.aload_n 0, 1) := by decide +kernel
theorem dX5_isShut_60 : decode cX5_isShut 60 = .ok (.invokevirtual 100, 3) := by decide +kernel
theorem dX5_isShut_63 : decode cX5_isShut 63 = .ok (.invokevirtual 103, 3) := by decide +kernel
theorem dX5_isShut_66 : decode cX5_isShut 66 = .ok (.ifCond .eq 5, 3) := by decide +kernel
theorem dX5_isShut_69 : decode cX5_isShut 69 = .ok (.iconst 1, 1) := by decide +kernel
theorem dX5_isShut_70 : decode cX5_isShut 70 = .ok (.ireturn, 1) := by decide +kernel
theorem dX5_isShut_71 : decode cX5_isShut 71 = .ok (.iinc 4 1, 3) := by decide +kernel
theorem dX5_isShut_74 : decode cX5_isShut 74 = .ok (.goto (-53), 3) := by decide +kernel
theorem dX5_isShut_77 : decode cX5_isShut 77 = .ok (.iconst 0, 1) := by decide +kernel
theorem dX5_isShut_78 : decode cX5_isShut 78 = .ok (.ireturn, 1) := by decide +kernel
theorem dX5_towerOn_0 : decode cX5_towerOn 0 = .ok (.iconst 0, 1) := by decide +kernel
theorem dX5_towerOn_1 : decode cX5_towerOn 1 = .ok (.istore_n 2, 1) := by decide +kernel
theorem dX5_towerOn_2 : decode cX5_towerOn 2 = .ok (.iload_n 2, 1) := by decide +kernel
theorem dX5_towerOn_3 : decode cX5_towerOn 3 = .ok (.aload_n 0, 1) := by decide +kernel
theorem dX5_towerOn_4 : decode cX5_towerOn 4 = .ok (.getfield 21, 3) := by decide +kernel
theorem dX5_towerOn_7 : decode cX5_towerOn 7 = .ok (.invokevirtual 68, 3) := by decide +kernel
theorem dX5_towerOn_10 : decode cX5_towerOn 10 = .ok (.if_icmp .ge 29, 3) := by decide +kernel
theorem dX5_towerOn_13 : decode cX5_towerOn 13 = .ok (.aload_n 0, 1) := by decide +kernel
theorem dX5_towerOn_14 : decode cX5_towerOn 14 = .ok (.getfield 21, 3) := by decide +kernel
theorem dX5_towerOn_17 : decode cX5_towerOn 17 = .ok (.iload_n 2, 1) := by decide +kernel
theorem dX5_towerOn_18 : decode cX5_towerOn 18 = .ok (.invokevirtual 72, 3) := by decide +kernel
theorem dX5_towerOn_21 : decode cX5_towerOn 21 = .ok (.checkcast 50, 3) := by decide +kernel
theorem dX5_towerOn_24 : decode cX5_towerOn 24 = .ok (.getfield 107, 3) := by decide +kernel
theorem dX5_towerOn_27 : decode cX5_towerOn 27 = .ok (.iload_n 1, 1) := by decide +kernel
theorem dX5_towerOn_28 : decode cX5_towerOn 28 = .ok (.if_icmp .ne 5, 3) := by decide +kernel
theorem dX5_towerOn_31 : decode cX5_towerOn 31 = .ok (.iload_n 2, 1) := by decide +kernel
theorem dX5_towerOn_32 : decode cX5_towerOn 32 = .ok (.ireturn, 1) := by decide +kernel
theorem dX5_towerOn_33 : decode cX5_towerOn 33 = .ok (.iinc 2 1, 3) := by decide +kernel
theorem dX5_towerOn_36 : decode cX5_towerOn 36 = .ok (.goto (-34), 3) := by decide +kernel
theorem dX5_towerOn_39 : decode cX5_towerOn 39 = .ok (.iconst (-1), 1) := by decide +kernel
theorem dX5_towerOn_40 : decode cX5_towerOn 40 = .ok (.ireturn, 1) := by decide +kernel
theorem dX5_loadsOn_0 : decode cX5_loadsOn 0 = .ok (.iconst 0, 1) := by decide +kernel
theorem dX5_loadsOn_1 : decode cX5_loadsOn 1 = .ok (.istore_n 2, 1) := by decide +kernel
theorem dX5_loadsOn_2 : decode cX5_loadsOn 2 = .ok (.iconst 0, 1) := by decide +kernel
theorem dX5_loadsOn_3 : decode cX5_loadsOn 3 = .ok (.istore_n 3, 1) := by decide +kernel
theorem dX5_loadsOn_4 : decode cX5_loadsOn 4 = .ok (.iload_n 3, 1) := by decide +kernel
theorem dX5_loadsOn_5 : decode cX5_loadsOn 5 = .ok (.aload_n 0, 1) := by decide +kernel
theorem dX5_loadsOn_6 : decode cX5_loadsOn 6 = .ok (.getfield 24, 3) := by decide +kernel
theorem dX5_loadsOn_9 : decode cX5_loadsOn 9 = .ok (.invokevirtual 68, 3) := by decide +kernel
theorem dX5_loadsOn_12 : decode cX5_loadsOn 12 = .ok (.if_icmp .ge 30, 3) := by decide +kernel
theorem dX5_loadsOn_15 : decode cX5_loadsOn 15 = .ok (.aload_n 0, 1) := by decide +kernel
theorem dX5_loadsOn_16 : decode cX5_loadsOn 16 = .ok (.getfield 24, 3) := by decide +kernel
theorem dX5_loadsOn_19 : decode cX5_loadsOn 19 = .ok (.iload_n 3, 1) := by decide +kernel
theorem dX5_loadsOn_20 : decode cX5_loadsOn 20 = .ok (.invokevirtual 72, 3) := by decide +kernel
theorem dX5_loadsOn_23 : decode cX5_loadsOn 23 = .ok (.checkcast 110, 3) := by decide +kernel
theorem dX5_loadsOn_26 : decode cX5_loadsOn 26 = .ok (.iload_n 1, 1) := by decide +kernel
theorem dX5_loadsOn_27 : decode cX5_loadsOn 27 = .ok (.invokevirtual 112, 3) := by decide +kernel
theorem dX5_loadsOn_30 : decode cX5_loadsOn 30 = .ok (.ifCond .eq 6, 3) := by decide +kernel
theorem dX5_loadsOn_33 : decode cX5_loadsOn 33 = .ok (.iinc 2 1, 3) := by decide +kernel
theorem dX5_loadsOn_36 : decode cX5_loadsOn 36 = .ok (.iinc 3 1, 3) := by decide +kernel
theorem dX5_loadsOn_39 : decode cX5_loadsOn 39 = .ok (.goto (-35), 3) := by decide +kernel
theorem dX5_loadsOn_42 : decode cX5_loadsOn 42 = .ok (.iload_n 2, 1) := by decide +kernel
theorem dX5_loadsOn_43 : decode cX5_loadsOn 43 = .ok (.ireturn, 1) := by decide +kernel
theorem dX5_firstLoadOn_0 : decode cX5_firstLoadOn 0 = .ok (.iconst 0, 1) := by decide +kernel
theorem dX5_firstLoadOn_1 : decode cX5_firstLoadOn 1 = .ok (.istore_n 2, 1) := by decide +kernel
theorem dX5_firstLoadOn_2 : decode cX5_firstLoadOn 2 = .ok (.iload_n 2, 1) := by decide +kernel
theorem dX5_firstLoadOn_3 : decode cX5_firstLoadOn 3 = .ok (.aload_n 0, 1) := by decide +kernel
theorem dX5_firstLoadOn_4 : decode cX5_firstLoadOn 4 = .ok (.getfield 24, 3) := by decide +kernel
theorem dX5_firstLoadOn_7 : decode cX5_firstLoadOn 7 = .ok (.invokevirtual 68, 3) := by decide +kernel
theorem dX5_firstLoadOn_10 : decode cX5_firstLoadOn 10 = .ok (.if_icmp .ge 31, 3) := by decide +kernel
theorem dX5_firstLoadOn_13 : decode cX5_firstLoadOn 13 = .ok (.aload_n 0, 1) := by decide +kernel
theorem dX5_firstLoadOn_14 : decode cX5_firstLoadOn 14 = .ok (.getfield 24, 3) := by decide +kernel
theorem dX5_firstLoadOn_17 : decode cX5_firstLoadOn 17 = .ok (.iload_n 2, 1) := by decide +kernel
theorem dX5_firstLoadOn_18 : decode cX5_firstLoadOn 18 = .ok (.invokevirtual 72, 3) := by decide +kernel
theorem dX5_firstLoadOn_21 : decode cX5_firstLoadOn 21 = .ok (.checkcast 110, 3) := by decide +kernel
theorem dX5_firstLoadOn_24 : decode cX5_firstLoadOn 24 = .ok (.astore_n 3, 1) := by decide +kernel
theorem dX5_firstLoadOn_25 : decode cX5_firstLoadOn 25 = .ok (.aload_n 3, 1) := by decide +kernel
theorem dX5_firstLoadOn_26 : decode cX5_firstLoadOn 26 = .ok (.iload_n 1, 1) := by decide +kernel
theorem dX5_firstLoadOn_27 : decode cX5_firstLoadOn 27 = .ok (.invokevirtual 112, 3) := by decide +kernel
theorem dX5_firstLoadOn_30 : decode cX5_firstLoadOn 30 = .ok (.ifCond .eq 5, 3) := by decide +kernel
theorem dX5_firstLoadOn_33 : decode cX5_firstLoadOn 33 = .ok (.aload_n 3, 1) := by decide +kernel
theorem dX5_firstLoadOn_34 : decode cX5_firstLoadOn 34 = .ok (.areturn, 1) := by decide +kernel
theorem dX5_firstLoadOn_35 : decode cX5_firstLoadOn 35 = .ok (.iinc 2 1, 3) := by decide +kernel
theorem dX5_firstLoadOn_38 : decode cX5_firstLoadOn 38 = .ok (.goto (-36), 3) := by decide +kernel
theorem dX5_firstLoadOn_41 : decode cX5_firstLoadOn 41 = .ok (.aconst_null, 1) := by decide +kernel
theorem dX5_firstLoadOn_42 : decode cX5_firstLoadOn 42 = .ok (.areturn, 1) := by decide +kernel
theorem dX5_hangingLoads_0 : decode cX5_hangingLoads 0 = .ok (.iconst 0, 1) := by decide +kernel
theorem dX5_hangingLoads_1 : decode cX5_hangingLoads 1 = .ok (.istore_n 1, 1) := by decide +kernel
theorem dX5_hangingLoads_2 : decode cX5_hangingLoads 2 = .ok (.iconst 0, 1) := by decide +kernel
theorem dX5_hangingLoads_3 : decode cX5_hangingLoads 3 = .ok (.istore_n 2, 1) := by decide +kernel
theorem dX5_hangingLoads_4 : decode cX5_hangingLoads 4 = .ok (.iload_n 2, 1) := by decide +kernel
theorem dX5_hangingLoads_5 : decode cX5_hangingLoads 5 = .ok (.aload_n 0, 1) := by decide +kernel
theorem dX5_hangingLoads_6 : decode cX5_hangingLoads 6 = .ok (.getfield 24, 3) := by decide +kernel
theorem dX5_hangingLoads_9 : decode cX5_hangingLoads 9 = .ok (.invokevirtual 68, 3) := by decide +kernel
theorem dX5_hangingLoads_12 : decode cX5_hangingLoads 12 = .ok (.if_icmp .ge 29, 3) := by decide +kernel
theorem dX5_hangingLoads_15 : decode cX5_hangingLoads 15 = .ok (.aload_n 0, 1) := by decide +kernel
theorem dX5_hangingLoads_16 : decode cX5_hangingLoads 16 = .ok (.getfield 24, 3) := by decide +kernel
theorem dX5_hangingLoads_19 : decode cX5_hangingLoads 19 = .ok (.iload_n 2, 1) := by decide +kernel
theorem dX5_hangingLoads_20 : decode cX5_hangingLoads 20 = .ok (.invokevirtual 72, 3) := by decide +kernel
theorem dX5_hangingLoads_23 : decode cX5_hangingLoads 23 = .ok (.checkcast 110, 3) := by decide +kernel
theorem dX5_hangingLoads_26 : decode cX5_hangingLoads 26 = .ok (.getfield 115, 3) := by decide +kernel
theorem dX5_hangingLoads_29 : decode cX5_hangingLoads 29 = .ok (.ifnull 6, 3) := by decide +kernel
theorem dX5_hangingLoads_32 : decode cX5_hangingLoads 32 = .ok (.iinc 1 1, 3) := by decide +kernel
theorem dX5_hangingLoads_35 : decode cX5_hangingLoads 35 = .ok (.iinc 2 1, 3) := by decide +kernel
theorem dX5_hangingLoads_38 : decode cX5_hangingLoads 38 = .ok (.goto (-34), 3) := by decide +kernel
theorem dX5_hangingLoads_41 : decode cX5_hangingLoads 41 = .ok (.iload_n 1, 1) := by decide +kernel
theorem dX5_hangingLoads_42 : decode cX5_hangingLoads 42 = .ok (.ireturn, 1) := by decide +kernel
theorem dX5_jibsOver_0 : decode cX5_jibsOver 0 = .ok (.aload_n 0, 1) := by decide +kernel
theorem dX5_jibsOver_1 : decode cX5_jibsOver 1 = .ok (.getfield 46, 3) := by decide +kernel
theorem dX5_jibsOver_4 : decode cX5_jibsOver 4 = .ok (.iload_n 1, 1) := by decide +kernel
theorem dX5_jibsOver_5 : decode cX5_jibsOver 5 = .ok (.invokevirtual 87, 3) := by decide +kernel
theorem dX5_jibsOver_8 : decode cX5_jibsOver 8 = .ok (.istore_n 2, 1) := by decide +kernel
theorem dX5_jibsOver_9 : decode cX5_jibsOver 9 = .ok (.aload_n 0, 1) := by decide +kernel
theorem dX5_jibsOver_10 : decode cX5_jibsOver 10 = .ok (.getfield 46, 3) := by decide +kernel
theorem dX5_jibsOver_13 : decode cX5_jibsOver 13 = .ok (.iload_n 1, 1) := by decide +kernel
theorem dX5_jibsOver_14 : decode cX5_jibsOver 14 = .ok (.invokevirtual 91, 3) := by decide +kernel
theorem dX5_jibsOver_17 : decode cX5_jibsOver 17 = .ok (.istore_n 3, 1) := by decide +kernel
theorem dX5_jibsOver_18 : decode cX5_jibsOver 18 = .ok (.iconst 0, 1) := by decide +kernel
theorem dX5_jibsOver_19 : decode cX5_jibsOver 19 = .ok (.istore 4, 2) := by decide +kernel
theorem dX5_jibsOver_21 : decode cX5_jibsOver 21 = .ok (.iconst 0, 1) := by decide +kernel
theorem dX5_jibsOver_22 : decode cX5_jibsOver 22 = .ok (.istore 5, 2) := by decide +kernel
theorem dX5_jibsOver_24 : decode cX5_jibsOver 24 = .ok (.iload 5, 2) := by decide +kernel
theorem dX5_jibsOver_26 : decode cX5_jibsOver 26 = .ok (.aload_n 0, 1) := by decide +kernel
theorem dX5_jibsOver_27 : decode cX5_jibsOver 27 = .ok (.getfield 21, 3) := by decide +kernel
theorem dX5_jibsOver_30 : decode cX5_jibsOver 30 = .ok (.invokevirtual 68, 3) := by decide +kernel
theorem dX5_jibsOver_33 : decode cX5_jibsOver 33 = .ok (.if_icmp .ge 38, 3) := by decide +kernel
theorem dX5_jibsOver_36 : decode cX5_jibsOver 36 = .ok (.aload_n 0, 1) := by decide +kernel
theorem dX5_jibsOver_37 : decode cX5_jibsOver 37 = .ok (.getfield 21, 3) := by decide +kernel
theorem dX5_jibsOver_40 : decode cX5_jibsOver 40 = .ok (.iload 5, 2) := by decide +kernel
theorem dX5_jibsOver_42 : decode cX5_jibsOver 42 = .ok (.invokevirtual 72, 3) := by decide +kernel
theorem dX5_jibsOver_45 : decode cX5_jibsOver 45 = .ok (.checkcast 50, 3) := by decide +kernel
theorem dX5_jibsOver_48 : decode cX5_jibsOver 48 = .ok (.iload_n 2, 1) := by decide +kernel
theorem dX5_jibsOver_49 : decode cX5_jibsOver 49 = .ok (.iload_n 3, 1) := by decide +kernel
theorem dX5_jibsOver_50 : decode cX5_jibsOver 50 = .ok (.invokevirtual 118, 3) := by decide +kernel
theorem dX5_jibsOver_53 : decode cX5_jibsOver 53 = .ok (.ifCond .ne 12, 3) := by decide +kernel
theorem dX5_jibsOver_56 : decode cX5_jibsOver 56 = .ok (.iload 4, 2) := by decide +kernel
theorem dX5_jibsOver_58 : decode cX5_jibsOver 58 = .ok (.iconst 1, 1) := by decide +kernel
theorem dX5_jibsOver_59 : decode cX5_jibsOver 59 = .ok (.iload 5, 2) := by decide +kernel
theorem dX5_jibsOver_61 : decode cX5_jibsOver 61 = .ok (.ishl, 1) := by decide +kernel
theorem dX5_jibsOver_62 : decode cX5_jibsOver 62 = .ok (.ior, 1) := by decide +kernel
theorem dX5_jibsOver_63 : decode cX5_jibsOver 63 = .ok (.istore 4, 2) := by decide +kernel
theorem dX5_jibsOver_65 : decode cX5_jibsOver 65 = .ok (.iinc 5 1, 3) := by decide +kernel
theorem dX5_jibsOver_68 : decode cX5_jibsOver 68 = .ok (.goto (-44), 3) := by decide +kernel
theorem dX5_jibsOver_71 : decode cX5_jibsOver 71 = .ok (.iload 4, 2) := by decide +kernel
theorem dX5_jibsOver_73 : decode cX5_jibsOver 73 = .ok (.ireturn, 1) := by decide +kernel
theorem dX5_canBuild_0 : decode cX5_canBuild 0 = .ok (.aload_n 0, 1) := by decide +kernel
theorem dX5_canBuild_1 : decode cX5_canBuild 1 = .ok (.iload_n 1, 1) := by decide +kernel
theorem dX5_canBuild_2 : decode cX5_canBuild 2 = .ok (.invokevirtual 125, 3) := by decide +kernel
theorem dX5_canBuild_5 : decode cX5_canBuild 5 = .ok (.iconst (-1), 1) := by decide +kernel
theorem dX5_canBuild_6 : decode cX5_canBuild 6 = .ok (.if_icmp .ne 11, 3) := by decide +kernel
theorem dX5_canBuild_9 : decode cX5_canBuild 9 = .ok (.aload_n 0, 1) := by decide +kernel
theorem dX5_canBuild_10 : decode cX5_canBuild 10 = .ok (.iload_n 1, 1) := by decide +kernel
theorem dX5_canBuild_11 : decode cX5_canBuild 11 = .ok (.invokevirtual 128, 3) := by decide +kernel
theorem dX5_canBuild_14 : decode cX5_canBuild 14 = .ok (.ifCond .le 5, 3) := by decide +kernel
theorem dX5_canBuild_17 : decode cX5_canBuild 17 = .ok (.iconst 0, 1) := by decide +kernel
theorem dX5_canBuild_18 : decode cX5_canBuild 18 = .ok (.ireturn, 1) := by decide +kernel
theorem dX5_canBuild_19 : decode cX5_canBuild 19 = .ok (.iconst 0, 1) := by decide +kernel
theorem dX5_canBuild_20 : decode cX5_canBuild 20 = .ok (.istore_n 3, 1) := by decide +kernel
theorem dX5_canBuild_21 : decode cX5_canBuild 21 = .ok (.iload_n 3, 1) := by decide +kernel
theorem dX5_canBuild_22 : decode cX5_canBuild 22 = .ok (.aload_n 0, 1) := by decide +kernel
theorem dX5_canBuild_23 : decode cX5_canBuild 23 = .ok (.getfield 21, 3) := by decide +kernel
theorem dX5_canBuild_26 : decode cX5_canBuild 26 = .ok (.invokevirtual 68, 3) := by decide +kernel
theorem dX5_canBuild_29 : decode cX5_canBuild 29 = .ok (.if_icmp .ge 60, 3) := by decide +kernel
theorem dX5_canBuild_32 : decode cX5_canBuild 32 = .ok (.aload_n 0, 1) := by decide +kernel
theorem dX5_canBuild_33 : decode cX5_canBuild 33 = .ok (.getfield 21, 3) := by decide +kernel
theorem dX5_canBuild_36 : decode cX5_canBuild 36 = .ok (.iload_n 3, 1) := by decide +kernel
theorem dX5_canBuild_37 : decode cX5_canBuild 37 = .ok (.invokevirtual 72, 3) := by decide +kernel
theorem dX5_canBuild_40 : decode cX5_canBuild 40 = .ok (.checkcast 50, 3) := by decide +kernel
theorem dX5_canBuild_43 : decode cX5_canBuild 43 = .ok (.astore 4, 2) := by decide +kernel
theorem dX5_canBuild_45 : decode cX5_canBuild 45 = .ok (.aload 4, 2) := by decide +kernel
theorem dX5_canBuild_47 : decode cX5_canBuild 47 = .ok (.getfield 131, 3) := by decide +kernel
theorem dX5_canBuild_50 : decode cX5_canBuild 50 = .ok (.ifnonnull 7, 3) := by decide +kernel
theorem dX5_canBuild_53 : decode cX5_canBuild 53 = .ok (.iconst 1, 1) := by decide +kernel
theorem dX5_canBuild_54 : decode cX5_canBuild 54 = .ok (.goto 4, 3) := by decide +kernel
theorem dX5_canBuild_57 : decode cX5_canBuild 57 = .ok (.iconst 2, 1) := by decide +kernel
theorem dX5_canBuild_58 : decode cX5_canBuild 58 = .ok (.istore 5, 2) := by decide +kernel
theorem dX5_canBuild_60 : decode cX5_canBuild 60 = .ok (.aload 4, 2) := by decide +kernel
theorem dX5_canBuild_62 : decode cX5_canBuild 62 = .ok (.invokevirtual 122, 3) := by decide +kernel
theorem dX5_canBuild_65 : decode cX5_canBuild 65 = .ok (.iload_n 1, 1) := by decide +kernel
theorem dX5_canBuild_66 : decode cX5_canBuild 66 = .ok (.if_icmp .ne 17, 3) := by decide +kernel
theorem dX5_canBuild_69 : decode cX5_canBuild 69 = .ok (.aload 4, 2) := by decide +kernel
theorem dX5_canBuild_71 : decode cX5_canBuild 71 = .ok (.getfield 135, 3) := by decide +kernel
theorem dX5_canBuild_74 : decode cX5_canBuild 74 = .ok (.iload_n 2, 1) := by decide +kernel
theorem dX5_canBuild_75 : decode cX5_canBuild 75 = .ok (.isub, 1) := by decide +kernel
theorem dX5_canBuild_76 : decode cX5_canBuild 76 = .ok (.iload 5, 2) := by decide +kernel
theorem dX5_canBuild_78 : decode cX5_canBuild 78 = .ok (.if_icmp .ge 5, 3) := by decide +kernel
theorem dX5_canBuild_81 : decode cX5_canBuild 81 = .ok (.iconst 0, 1) := by decide +kernel
theorem dX5_canBuild_82 : decode cX5_canBuild 82 = .ok (.ireturn, 1) := by decide +kernel
theorem dX5_canBuild_83 : decode cX5_canBuild 83 = .ok (.iinc 3 1, 3) := by decide +kernel
theorem dX5_canBuild_86 : decode cX5_canBuild 86 = .ok (.goto (-65), 3) := by decide +kernel
theorem dX5_canBuild_89 : decode cX5_canBuild 89 = .ok (.iconst 1, 1) := by decide +kernel
theorem dX5_canBuild_90 : decode cX5_canBuild 90 = .ok (.ireturn, 1) := by decide +kernel
theorem dX5_canFound_0 : decode cX5_canFound 0 = .ok (.aload_n 0, 1) := by decide +kernel
theorem dX5_canFound_1 : decode cX5_canFound 1 = .ok (.iload_n 1, 1) := by decide +kernel
theorem dX5_canFound_2 : decode cX5_canFound 2 = .ok (.invokevirtual 125, 3) := by decide +kernel
theorem dX5_canFound_5 : decode cX5_canFound 5 = .ok (.iconst (-1), 1) := by decide +kernel
theorem dX5_canFound_6 : decode cX5_canFound 6 = .ok (.if_icmp .ne 26, 3) := by decide +kernel
theorem dX5_canFound_9 : decode cX5_canFound 9 = .ok (.aload_n 0, 1) := by decide +kernel
theorem dX5_canFound_10 : decode cX5_canFound 10 = .ok (.iload_n 1, 1) := by decide +kernel
theorem dX5_canFound_11 : decode cX5_canFound 11 = .ok (.invokevirtual 128, 3) := by decide +kernel
theorem dX5_canFound_14 : decode cX5_canFound 14 = .ok (.ifCond .ne 18, 3) := by decide +kernel
theorem dX5_canFound_17 : decode cX5_canFound 17 = .ok (.aload_n 0, 1) := by decide +kernel
theorem dX5_canFound_18 : decode cX5_canFound 18 = .ok (.getfield 46, 3) := by decide +kernel
theorem dX5_canFound_21 : decode cX5_canFound 21 = .ok (.iload_n 1, 1) := by decide +kernel
theorem dX5_canFound_22 : decode cX5_canFound 22 = .ok (.invokevirtual 138, 3) := by decide +kernel
theorem dX5_canFound_25 : decode cX5_canFound 25 = .ok (.ifCond .ne 7, 3) := by decide +kernel
theorem dX5_canFound_28 : decode cX5_canFound 28 = .ok (.iconst 1, 1) := by decide +kernel
theorem dX5_canFound_29 : decode cX5_canFound 29 = .ok (.goto 4, 3) := by decide +kernel
theorem dX5_canFound_32 : decode cX5_canFound 32 = .ok (.iconst 0, 1) := by decide +kernel
theorem dX5_canFound_33 : decode cX5_canFound 33 = .ok (.ireturn, 1) := by decide +kernel
theorem dX5_capacityOf_0 : decode cX5_capacityOf 0 = .ok (.iload_n 2, 1) := by decide +kernel
theorem dX5_capacityOf_1 : decode cX5_capacityOf 1 = .ok (.iconst 1, 1) := by decide +kernel
theorem dX5_capacityOf_2 : decode cX5_capacityOf 2 = .ok (.if_icmp .ge 5, 3) := by decide +kernel
theorem dX5_capacityOf_5 : decode cX5_capacityOf 5 = .ok (.iconst 0, 1) := by decide +kernel
theorem dX5_capacityOf_6 : decode cX5_capacityOf 6 = .ok (.ireturn, 1) := by decide +kernel
theorem dX5_capacityOf_7 : decode cX5_capacityOf 7 = .ok (.iconst 2, 1) := by decide +kernel
theorem dX5_capacityOf_8 : decode cX5_capacityOf 8 = .ok (.aload_n 0, 1) := by decide +kernel
theorem dX5_capacityOf_9 : decode cX5_capacityOf 9 = .ok (.invokevirtual 77, 3) := by decide +kernel
theorem dX5_capacityOf_12 : decode cX5_capacityOf 12 = .ok (.getfield 81, 3) := by decide +kernel
theorem dX5_capacityOf_15 : decode cX5_capacityOf 15 = .ok (.iconst 4, 1) := by decide +kernel
theorem dX5_capacityOf_16 : decode cX5_capacityOf 16 = .ok (.isub, 1) := by decide +kernel
theorem dX5_capacityOf_17 : decode cX5_capacityOf 17 = .ok (.iconst 0, 1) := by decide +kernel
theorem dX5_capacityOf_18 : decode cX5_capacityOf 18 = .ok (.invokestatic 141, 3) := by decide +kernel
theorem dX5_capacityOf_21 : decode cX5_capacityOf 21 = .ok (.imul, 1) := by decide +kernel
theorem dX5_capacityOf_22 : decode cX5_capacityOf 22 = .ok (.istore_n 3, 1) := by decide +kernel
theorem dX5_capacityOf_23 : decode cX5_capacityOf 23 = .ok (.aload_n 1, 1) := by decide +kernel
theorem dX5_capacityOf_24 : decode cX5_capacityOf 24 = .ok (.getfield 146, 3) := by decide +kernel
theorem dX5_capacityOf_27 : decode cX5_capacityOf 27 = .ok (.iload_n 2, 1) := by decide +kernel
theorem dX5_capacityOf_28 : decode cX5_capacityOf 28 = .ok (.idiv, 1) := by decide +kernel
theorem dX5_capacityOf_29 : decode cX5_capacityOf 29 = .ok (.iload_n 3, 1) := by decide +kernel
theorem dX5_capacityOf_30 : decode cX5_capacityOf 30 = .ok (.isub, 1) := by decide +kernel
theorem dX5_capacityOf_31 : decode cX5_capacityOf 31 = .ok (.iconst 0, 1) := by decide +kernel
theorem dX5_capacityOf_32 : decode cX5_capacityOf 32 = .ok (.invokestatic 141, 3) := by decide +kernel
theorem dX5_capacityOf_35 : decode cX5_capacityOf 35 = .ok (.ireturn, 1) := by decide +kernel
theorem dX5_clashesOf_0 : decode cX5_clashesOf 0 = .ok (.iconst 0, 1) := by decide +kernel
theorem dX5_clashesOf_1 : decode cX5_clashesOf 1 = .ok (.istore_n 2, 1) := by decide +kernel
theorem dX5_clashesOf_2 : decode cX5_clashesOf 2 = .ok (.iconst 0, 1) := by decide +kernel
theorem dX5_clashesOf_3 : decode cX5_clashesOf 3 = .ok (.istore_n 3, 1) := by decide +kernel
theorem dX5_clashesOf_4 : decode cX5_clashesOf 4 = .ok (.iload_n 3, 1) := by decide +kernel
theorem dX5_clashesOf_5 : decode cX5_clashesOf 5 = .ok (.aload_n 0, 1) := by decide +kernel
theorem dX5_clashesOf_6 : decode cX5_clashesOf 6 = .ok (.getfield 21, 3) := by decide +kernel
theorem dX5_clashesOf_9 : decode cX5_clashesOf 9 = .ok (.invokevirtual 68, 3) := by decide +kernel
theorem dX5_clashesOf_12 : decode cX5_clashesOf 12 = .ok (.if_icmp .ge 42, 3) := by decide +kernel
theorem dX5_clashesOf_15 : decode cX5_clashesOf 15 = .ok (.iload_n 3, 1) := by decide +kernel
theorem dX5_clashesOf_16 : decode cX5_clashesOf 16 = .ok (.aload_n 1, 1) := by decide +kernel
theorem dX5_clashesOf_17 : decode cX5_clashesOf 17 = .ok (.getfield 149, 3) := by decide +kernel
theorem dX5_clashesOf_20 : decode cX5_clashesOf 20 = .ok (.if_icmp .eq 28, 3) := by decide +kernel
theorem dX5_clashesOf_23 : decode cX5_clashesOf 23 = .ok (.aload_n 1, 1) := by decide +kernel
theorem dX5_clashesOf_24 : decode cX5_clashesOf 24 = .ok (.aload_n 0, 1) := by decide +kernel
theorem dX5_clashesOf_25 : decode cX5_clashesOf 25 = .ok (.getfield 21, 3) := by decide +kernel
theorem dX5_clashesOf_28 : decode cX5_clashesOf 28 = .ok (.iload_n 3, 1) := by decide +kernel
theorem dX5_clashesOf_29 : decode cX5_clashesOf 29 = .ok (.invokevirtual 72, 3) := by decide +kernel
theorem dX5_clashesOf_32 : decode cX5_clashesOf 32 = .ok (.checkcast 50, 3) := by decide +kernel
theorem dX5_clashesOf_35 : decode cX5_clashesOf 35 = .ok (.iconst 1, 1) := by decide +kernel
theorem dX5_clashesOf_36 : decode cX5_clashesOf 36 = .ok (.invokevirtual 152, 3) := by decide +kernel
theorem dX5_clashesOf_39 : decode cX5_clashesOf 39 = .ok (.ifCond .eq 9, 3) := by decide +kernel
theorem dX5_clashesOf_42 : decode cX5_clashesOf 42 = .ok (.iload_n 2, 1) := by decide +kernel
theorem dX5_clashesOf_43 : decode cX5_clashesOf 43 = .ok (.iconst 1, 1) := by decide +kernel
theorem dX5_clashesOf_44 : decode cX5_clashesOf 44 = .ok (.iload_n 3, 1) := by decide +kernel
theorem dX5_clashesOf_45 : decode cX5_clashesOf 45 = .ok (.ishl, 1) := by decide +kernel
theorem dX5_clashesOf_46 : decode cX5_clashesOf 46 = .ok (.ior, 1) := by decide +kernel
theorem dX5_clashesOf_47 : decode cX5_clashesOf 47 = .ok (.istore_n 2, 1) := by decide +kernel
theorem dX5_clashesOf_48 : decode cX5_clashesOf 48 = .ok (.iinc 3 1, 3) := by decide +kernel
theorem dX5_clashesOf_51 : decode cX5_clashesOf 51 = .ok (.goto (-47), 3) := by decide +kernel
theorem dX5_clashesOf_54 : decode cX5_clashesOf 54 = .ok (.iload_n 2, 1) := by decide +kernel
theorem dX5_clashesOf_55 : decode cX5_clashesOf 55 = .ok (.ireturn, 1) := by decide +kernel
theorem dX5_clashingPairs_0 : decode cX5_clashingPairs 0 = .ok (.iconst 0, 1) := by decide +kernel
theorem dX5_clashingPairs_1 : decode cX5_clashingPairs 1 = .ok (.istore_n 1, 1) := by decide +kernel
theorem dX5_clashingPairs_2 : decode cX5_clashingPairs 2 = .ok (.iconst 0, 1) := by decide +kernel
theorem dX5_clashingPairs_3 : decode cX5_clashingPairs 3 = .ok (.istore_n 2, 1) := by decide +kernel
theorem dX5_clashingPairs_4 : decode cX5_clashingPairs 4 = .ok (.iload_n 2, 1) := by decide +kernel
theorem dX5_clashingPairs_5 : decode cX5_clashingPairs 5 = .ok (.aload_n 0, 1) := by decide +kernel
theorem dX5_clashingPairs_6 : decode cX5_clashingPairs 6 = .ok (.getfield 21, 3) := by decide +kernel
theorem dX5_clashingPairs_9 : decode cX5_clashingPairs 9 = .ok (.invokevirtual 68, 3) := by decide +kernel
theorem dX5_clashingPairs_12 : decode cX5_clashingPairs 12 = .ok (.if_icmp .ge 30, 3) := by decide +kernel
theorem dX5_clashingPairs_15 : decode cX5_clashingPairs 15 = .ok (.iload_n 1, 1) := by decide +kernel
theorem dX5_clashingPairs_16 : decode cX5_clashingPairs 16 = .ok (.aload_n 0, 1) := by decide +kernel
theorem dX5_clashingPairs_17 : decode cX5_clashingPairs 17 = .ok (.aload_n 0, 1) := by decide +kernel
theorem dX5_clashingPairs_18 : decode cX5_clashingPairs 18 = .ok (.getfield 21, 3) := by decide +kernel
theorem dX5_clashingPairs_21 : decode cX5_clashingPairs 21 = .ok (.iload_n 2, 1) := by decide +kernel
theorem dX5_clashingPairs_22 : decode cX5_clashingPairs 22 = .ok (.invokevirtual 72, 3) := by decide +kernel
theorem dX5_clashingPairs_25 : decode cX5_clashingPairs 25 = .ok (.checkcast 50, 3) := by decide +kernel
theorem dX5_clashingPairs_28 : decode cX5_clashingPairs 28 = .ok (.invokevirtual 156, 3) := by decide +kernel
theorem dX5_clashingPairs_31 : decode cX5_clashingPairs 31 = .ok (.invokestatic 160, 3) := by decide +kernel
theorem dX5_clashingPairs_34 : decode cX5_clashingPairs 34 = .ok (.iadd, 1) := by decide +kernel
theorem dX5_clashingPairs_35 : decode cX5_clashingPairs 35 = .ok (.istore_n 1, 1) := by decide +kernel
theorem dX5_clashingPairs_36 : decode cX5_clashingPairs 36 = .ok (.iinc 2 1, 3) := by decide +kernel
theorem dX5_clashingPairs_39 : decode cX5_clashingPairs 39 = .ok (.goto (-35), 3) := by decide +kernel
theorem dX5_clashingPairs_42 : decode cX5_clashingPairs 42 = .ok (.iload_n 1, 1) := by decide +kernel
theorem dX5_clashingPairs_43 : decode cX5_clashingPairs 43 = .ok (.iconst 2, 1) := by decide +kernel
theorem dX5_clashingPairs_44 : decode cX5_clashingPairs 44 = .ok (.idiv, 1) := by decide +kernel
theorem dX5_clashingPairs_45 : decode cX5_clashingPairs 45 = .ok (.ireturn, 1) := by decide +kernel
theorem dX5_nearMisses_0 : decode cX5_nearMisses 0 = .ok (.iconst 0, 1) := by decide +kernel
theorem dX5_nearMisses_1 : decode cX5_nearMisses 1 = .ok (.istore_n 1, 1) := by decide +kernel
theorem dX5_nearMisses_2 : decode cX5_nearMisses 2 = .ok (.iconst 0, 1) := by decide +kernel
theorem dX5_nearMisses_3 : decode cX5_nearMisses 3 = .ok (.istore_n 2, 1) := by decide +kernel
theorem dX5_nearMisses_4 : decode cX5_nearMisses 4 = .ok (.iload_n 2, 1) := by decide +kernel
theorem dX5_nearMisses_5 : decode cX5_nearMisses 5 = .ok (.aload_n 0, 1) := by decide +kernel
theorem dX5_nearMisses_6 : decode cX5_nearMisses 6 = .ok (.getfield 21, 3) := by decide +kernel
theorem dX5_nearMisses_9 : decode cX5_nearMisses 9 = .ok (.invokevirtual 68, 3) := by decide +kernel
theorem dX5_nearMisses_12 : decode cX5_nearMisses 12 = .ok (.if_icmp .ge 26, 3) := by decide +kernel
theorem dX5_nearMisses_15 : decode cX5_nearMisses 15 = .ok (.iload_n 1, 1) := by decide +kernel
theorem dX5_nearMisses_16 : decode cX5_nearMisses 16 = .ok (.aload_n 0, 1) := by decide +kernel
theorem dX5_nearMisses_17 : decode cX5_nearMisses 17 = .ok (.getfield 21, 3) := by decide +kernel
theorem dX5_nearMisses_20 : decode cX5_nearMisses 20 = .ok (.iload_n 2, 1) := by decide +kernel
theorem dX5_nearMisses_21 : decode cX5_nearMisses 21 = .ok (.invokevirtual 72, 3) := by decide +kernel
theorem dX5_nearMisses_24 : decode cX5_nearMisses 24 = .ok (.checkcast 50, 3) := by decide +kernel
theorem dX5_nearMisses_27 : decode cX5_nearMisses 27 = .ok (.getfield 165, 3) := by decide +kernel
theorem dX5_nearMisses_30 : decode cX5_nearMisses 30 = .ok (.iadd, 1) := by decide +kernel
theorem dX5_nearMisses_31 : decode cX5_nearMisses 31 = .ok (.istore_n 1, 1) := by decide +kernel
theorem dX5_nearMisses_32 : decode cX5_nearMisses 32 = .ok (.iinc 2 1, 3) := by decide +kernel
theorem dX5_nearMisses_35 : decode cX5_nearMisses 35 = .ok (.goto (-31), 3) := by decide +kernel
theorem dX5_nearMisses_38 : decode cX5_nearMisses 38 = .ok (.iload_n 1, 1) := by decide +kernel
theorem dX5_nearMisses_39 : decode cX5_nearMisses 39 = .ok (.ireturn, 1) := by decide +kernel
theorem dX5_hindrance_0 : decode cX5_hindrance 0 = .ok (.aload_n 1, 1) := by decide +kernel
theorem dX5_hindrance_1 : decode cX5_hindrance 1 = .ok (.invokevirtual 168, 3) := by decide +kernel
theorem dX5_hindrance_4 : decode cX5_hindrance 4 = .ok (.ifCond .ne 5, 3) := by decide +kernel
theorem dX5_hindrance_7 : decode cX5_hindrance 7 = .ok (.iconst 1, 1) := by decide +kernel
theorem dX5_hindrance_8 : decode cX5_hindrance 8 = .ok (.ireturn, 1) := by decide +kernel
theorem dX5_hindrance_9 : decode cX5_hindrance 9 = .ok (.aload_n 1, 1) := by decide +kernel
theorem dX5_hindrance_10 : decode cX5_hindrance 10 = .ok (.getfield 131, 3) := by decide +kernel
theorem dX5_hindrance_13 : decode cX5_hindrance 13 = .ok (.ifnull 24, 3) := by decide +kernel
theorem dX5_hindrance_16 : decode cX5_hindrance 16 = .ok (.aload_n 1, 1) := by decide +kernel
theorem dX5_hindrance_17 : decode cX5_hindrance 17 = .ok (.getfield 131, 3) := by decide +kernel
theorem dX5_hindrance_20 : decode cX5_hindrance 20 = .ok (.getfield 172, 3) := by decide +kernel
theorem dX5_hindrance_23 : decode cX5_hindrance 23 = .ok (.aload_n 0, 1) := by decide +kernel
theorem dX5_hindrance_24 : decode cX5_hindrance 24 = .ok (.aload_n 1, 1) := by decide +kernel
theorem dX5_hindrance_25 : decode cX5_hindrance 25 = .ok (.aload_n 1, 1) := by decide +kernel
theorem dX5_hindrance_26 : decode cX5_hindrance 26 = .ok (.getfield 175, 3) := by decide +kernel
theorem dX5_hindrance_29 : decode cX5_hindrance 29 = .ok (.invokevirtual 178, 3) := by decide +kernel
theorem dX5_hindrance_32 : decode cX5_hindrance 32 = .ok (.if_icmp .le 5, 3) := by decide +kernel
theorem dX5_hindrance_35 : decode cX5_hindrance 35 = .ok (.iconst 4, 1) := by decide +kernel
theorem dX5_hindrance_36 : decode cX5_hindrance 36 = .ok (.ireturn, 1) := by decide +kernel
theorem dX5_hindrance_37 : decode cX5_hindrance 37 = .ok (.aload_n 1, 1) := by decide +kernel
theorem dX5_hindrance_38 : decode cX5_hindrance 38 = .ok (.invokevirtual 122, 3) := by decide +kernel
theorem dX5_hindrance_41 : decode cX5_hindrance 41 = .ok (.istore 4, 2) := by decide +kernel
theorem dX5_hindrance_43 : decode cX5_hindrance 43 = .ok (.aload_n 1, 1) := by decide +kernel
theorem dX5_hindrance_44 : decode cX5_hindrance 44 = .ok (.getfield 131, 3) := by decide +kernel
theorem dX5_hindrance_47 : decode cX5_hindrance 47 = .ok (.ifnull 14, 3) := by decide +kernel
theorem dX5_hindrance_50 : decode cX5_hindrance 50 = .ok (.aload_n 0, 1) := by decide +kernel
theorem dX5_hindrance_51 : decode cX5_hindrance 51 = .ok (.iload 4, 2) := by decide +kernel
theorem dX5_hindrance_53 : decode cX5_hindrance 53 = .ok (.invokevirtual 181, 3) := by decide +kernel
theorem dX5_hindrance_56 : decode cX5_hindrance 56 = .ok (.ifCond .eq 5, 3) := by decide +kernel
theorem dX5_hindrance_59 : decode cX5_hindrance 59 = .ok (.iconst 5, 1) := by decide +kernel
theorem dX5_hindrance_60 : decode cX5_hindrance 60 = .ok (.ireturn, 1) := by decide +kernel
theorem dX5_hindrance_61 : decode cX5_hindrance 61 = .ok (.aload_n 1, 1) := by decide +kernel
theorem dX5_hindrance_62 : decode cX5_hindrance 62 = .ok (.getfield 131, 3) := by decide +kernel
theorem dX5_hindrance_65 : decode cX5_hindrance 65 = .ok (.ifnull 11, 3) := by decide +kernel
theorem dX5_hindrance_68 : decode cX5_hindrance 68 = .ok (.iload_n 2, 1) := by decide +kernel
theorem dX5_hindrance_69 : decode cX5_hindrance 69 = .ok (.ifCond .eq 7, 3) := by decide +kernel
theorem dX5_hindrance_72 : decode cX5_hindrance 72 = .ok (.iconst 2, 1) := by decide +kernel
theorem dX5_hindrance_73 : decode cX5_hindrance 73 = .ok (.goto 4, 3) := by decide +kernel
theorem dX5_hindrance_76 : decode cX5_hindrance 76 = .ok (.iconst 1, 1) := by decide +kernel
theorem dX5_hindrance_77 : decode cX5_hindrance 77 = .ok (.istore 5, 2) := by decide +kernel
theorem dX5_hindrance_79 : decode cX5_hindrance 79 = .ok (.aload_n 1, 1) := by decide +kernel
theorem dX5_hindrance_80 : decode cX5_hindrance 80 = .ok (.getfield 135, 3) := by decide +kernel
theorem dX5_hindrance_83 : decode cX5_hindrance 83 = .ok (.aload_n 0, 1) := by decide +kernel
theorem dX5_hindrance_84 : decode cX5_hindrance 84 = .ok (.getfield 46, 3) := by decide +kernel
theorem dX5_hindrance_87 : decode cX5_hindrance 87 = .ok (.iload 4, 2) := by decide +kernel
theorem dX5_hindrance_89 : decode cX5_hindrance 89 = .ok (.invokevirtual 138, 3) := by decide +kernel
theorem dX5_hindrance_92 : decode cX5_hindrance 92 = .ok (.isub, 1) := by decide +kernel
theorem dX5_hindrance_93 : decode cX5_hindrance 93 = .ok (.iload 5, 2) := by decide +kernel
theorem dX5_hindrance_95 : decode cX5_hindrance 95 = .ok (.if_icmp .ge 6, 3) := by decide +kernel
theorem dX5_hindrance_98 : decode cX5_hindrance 98 = .ok (.bipush 6, 2) := by decide +kernel
theorem dX5_hindrance_100 : decode cX5_hindrance 100 = .ok (.ireturn, 1) := by decide +kernel
theorem dX5_hindrance_101 : decode cX5_hindrance 101 = .ok (.iconst 0, 1) := by decide +kernel
theorem dX5_hindrance_102 : decode cX5_hindrance 102 = .ok (.istore 6, 2) := by decide +kernel
theorem dX5_hindrance_104 : decode cX5_hindrance 104 = .ok (.iload 6, 2) := by decide +kernel
theorem dX5_hindrance_106 : decode cX5_hindrance 106 = .ok (.aload_n 0, 1) := by decide +kernel
theorem dX5_hindrance_107 : decode cX5_hindrance 107 = .ok (.getfield 21, 3) := by decide +kernel
theorem dX5_hindrance_110 : decode cX5_hindrance 110 = .ok (.invokevirtual 68, 3) := by decide +kernel
theorem dX5_hindrance_113 : decode cX5_hindrance 113 = .ok (.if_icmp .ge 62, 3) := by decide +kernel
theorem dX5_hindrance_116 : decode cX5_hindrance 116 = .ok (.iload 6, 2) := by decide +kernel
theorem dX5_hindrance_118 : decode cX5_hindrance 118 = .ok (.aload_n 1, 1) := by decide +kernel
theorem dX5_hindrance_119 : decode cX5_hindrance 119 = .ok (.getfield 149, 3) := by decide +kernel
theorem dX5_hindrance_122 : decode cX5_hindrance 122 = .ok (.if_icmp .eq 16, 3) := by decide +kernel
theorem dX5_hindrance_125 : decode cX5_hindrance 125 = .ok (.iload_n 3, 1) := by decide +kernel
theorem dX5_hindrance_126 : decode cX5_hindrance 126 = .ok (.iload 6, 2) := by decide +kernel
theorem dX5_hindrance_128 : decode cX5_hindrance 128 = .ok (.ishr, 1) := by decide +kernel
theorem dX5_hindrance_129 : decode cX5_hindrance 129 = .ok (.iconst 1, 1) := by decide +kernel
theorem dX5_hindrance_130 : decode cX5_hindrance 130 = .ok (.iand, 1) := by decide +kernel
theorem dX5_hindrance_131 : decode cX5_hindrance 131 = .ok (.ifCond .ne 7, 3) := by decide +kernel
theorem dX5_hindrance_134 : decode cX5_hindrance 134 = .ok (.iconst 1, 1) := by decide +kernel
theorem dX5_hindrance_135 : decode cX5_hindrance 135 = .ok (.goto 4, 3) := by decide +kernel
theorem dX5_hindrance_138 : decode cX5_hindrance 138 = .ok (.iconst 0, 1) := by decide +kernel
theorem dX5_hindrance_139 : decode cX5_hindrance 139 = .ok (.istore 7, 2) := by decide +kernel
theorem dX5_hindrance_141 : decode cX5_hindrance 141 = .ok (.iload 7, 2) := by decide +kernel
theorem dX5_hindrance_143 : decode cX5_hindrance 143 = .ok (.ifCond .eq 26, 3) := by decide +kernel
theorem dX5_hindrance_146 : decode cX5_hindrance 146 = .ok (.aload_n 1, 1) := by decide +kernel
theorem dX5_hindrance_147 : decode cX5_hindrance 147 = .ok (.aload_n 0, 1) := by decide +kernel
theorem dX5_hindrance_148 : decode cX5_hindrance 148 = .ok (.getfield 21, 3) := by decide +kernel
theorem dX5_hindrance_151 : decode cX5_hindrance 151 = .ok (.iload 6, 2) := by decide +kernel
theorem dX5_hindrance_153 : decode cX5_hindrance 153 = .ok (.invokevirtual 72, 3) := by decide +kernel
theorem dX5_hindrance_156 : decode cX5_hindrance 156 = .ok (.checkcast 50, 3) := by decide +kernel
theorem dX5_hindrance_159 : decode cX5_hindrance 159 = .ok (.iconst 1, 1) := by decide +kernel
theorem dX5_hindrance_160 : decode cX5_hindrance 160 = .ok (.invokevirtual 152, 3) := by decide +kernel
theorem dX5_hindrance_163 : decode cX5_hindrance 163 = .ok (.ifCond .eq 6, 3) := by decide +kernel
theorem dX5_hindrance_166 : decode cX5_hindrance 166 = .ok (.bipush 7, 2) := by decide +kernel
theorem dX5_hindrance_168 : decode cX5_hindrance 168 = .ok (.ireturn, 1) := by decide +kernel
theorem dX5_hindrance_169 : decode cX5_hindrance 169 = .ok (.iinc 6 1, 3) := by decide +kernel
theorem dX5_hindrance_172 : decode cX5_hindrance 172 = .ok (.goto (-68), 3) := by decide +kernel
theorem dX5_hindrance_175 : decode cX5_hindrance 175 = .ok (.iconst 0, 1) := by decide +kernel
theorem dX5_hindrance_176 : decode cX5_hindrance 176 = .ok (.ireturn, 1) := by decide +kernel
theorem dX5_reasonAgainst_0 : decode cX5_reasonAgainst 0 = .ok (.iload_n 2, 1) := by decide +kernel
theorem dX5_reasonAgainst_1 : decode cX5_reasonAgainst 1 = .ok (.bipush 6, 2) := by decide +kernel
theorem dX5_reasonAgainst_3 : decode cX5_reasonAgainst 3 = .ok (.if_icmp .ne 5, 3) := by decide +kernel
theorem dX5_reasonAgainst_6 : decode cX5_reasonAgainst 6 = .ok (.iconst 0, 1) := by decide +kernel
theorem dX5_reasonAgainst_7 : decode cX5_reasonAgainst 7 = .ok (.ireturn, 1) := by decide +kernel
theorem dX5_reasonAgainst_8 : decode cX5_reasonAgainst 8 = .ok (.aload_n 0, 1) := by decide +kernel
theorem dX5_reasonAgainst_9 : decode cX5_reasonAgainst 9 = .ok (.getfield 55, 3) := by decide +kernel
theorem dX5_reasonAgainst_12 : decode cX5_reasonAgainst 12 = .ok (.aload_n 1, 1) := by decide +kernel
theorem dX5_reasonAgainst_13 : decode cX5_reasonAgainst 13 = .ok (.invokevirtual 184, 3) := by decide +kernel
theorem dX5_reasonAgainst_16 : decode cX5_reasonAgainst 16 = .ok (.aload_n 0, 1) := by decide +kernel
theorem dX5_reasonAgainst_17 : decode cX5_reasonAgainst 17 = .ok (.getfield 55, 3) := by decide +kernel
theorem dX5_reasonAgainst_20 : decode cX5_reasonAgainst 20 = .ok (.iload_n 2, 1) := by decide +kernel
theorem dX5_reasonAgainst_21 : decode cX5_reasonAgainst 21 = .ok (.invokevirtual 188, 3) := by decide +kernel
theorem dX5_reasonAgainst_24 : decode cX5_reasonAgainst 24 = .ok (.aload_n 0, 1) := by decide +kernel
theorem dX5_reasonAgainst_25 : decode cX5_reasonAgainst 25 = .ok (.aload_n 0, 1) := by decide +kernel
theorem dX5_reasonAgainst_26 : decode cX5_reasonAgainst 26 = .ok (.getfield 55, 3) := by decide +kernel
theorem dX5_reasonAgainst_29 : decode cX5_reasonAgainst 29 = .ok (.iload_n 2, 1) := by decide +kernel
theorem dX5_reasonAgainst_30 : decode cX5_reasonAgainst 30 = .ok (.iconst 3, 1) := by decide +kernel
theorem dX5_reasonAgainst_31 : decode cX5_reasonAgainst 31 = .ok (.if_icmp .gt 7, 3) := by decide +kernel
theorem dX5_reasonAgainst_34 : decode cX5_reasonAgainst 34 = .ok (.iconst 1, 1) := by decide +kernel
theorem dX5_reasonAgainst_35 : decode cX5_reasonAgainst 35 = .ok (.goto 4, 3) := by decide +kernel
theorem dX5_reasonAgainst_38 : decode cX5_reasonAgainst 38 = .ok (.iconst 0, 1) := by decide +kernel
theorem dX5_reasonAgainst_39 : decode cX5_reasonAgainst 39 = .ok (.aload_n 0, 1) := by decide +kernel
theorem dX5_reasonAgainst_40 : decode cX5_reasonAgainst 40 = .ok (.aload_n 1, 1) := by decide +kernel
theorem dX5_reasonAgainst_41 : decode cX5_reasonAgainst 41 = .ok (.invokevirtual 156, 3) := by decide +kernel
theorem dX5_reasonAgainst_44 : decode cX5_reasonAgainst 44 = .ok (.invokevirtual 192, 3) := by decide +kernel
theorem dX5_reasonAgainst_47 : decode cX5_reasonAgainst 47 = .ok (.istore_n 3, 1) := by decide +kernel
theorem dX5_reasonAgainst_48 : decode cX5_reasonAgainst 48 = .ok (.iload_n 3, 1) := by decide +kernel
theorem dX5_reasonAgainst_49 : decode cX5_reasonAgainst 49 = .ok (.iconst 1, 1) := by decide +kernel
theorem dX5_reasonAgainst_50 : decode cX5_reasonAgainst 50 = .ok (.if_icmp .ne 5, 3) := by decide +kernel
theorem dX5_reasonAgainst_53 : decode cX5_reasonAgainst 53 = .ok (.iconst 1, 1) := by decide +kernel
theorem dX5_reasonAgainst_54 : decode cX5_reasonAgainst 54 = .ok (.ireturn, 1) := by decide +kernel
theorem dX5_reasonAgainst_55 : decode cX5_reasonAgainst 55 = .ok (.aload_n 0, 1) := by decide +kernel
theorem dX5_reasonAgainst_56 : decode cX5_reasonAgainst 56 = .ok (.invokevirtual 196, 3) := by decide +kernel
theorem dX5_reasonAgainst_59 : decode cX5_reasonAgainst 59 = .ok (.bipush 6, 2) := by decide +kernel
theorem dX5_reasonAgainst_61 : decode cX5_reasonAgainst 61 = .ok (.if_icmp .le 5, 3) := by decide +kernel
theorem dX5_reasonAgainst_64 : decode cX5_reasonAgainst 64 = .ok (.iconst 2, 1) := by decide +kernel
theorem dX5_reasonAgainst_65 : decode cX5_reasonAgainst 65 = .ok (.ireturn, 1) := by decide +kernel
theorem dX5_reasonAgainst_66 : decode cX5_reasonAgainst 66 = .ok (.aload_n 1, 1) := by decide +kernel
theorem dX5_reasonAgainst_67 : decode cX5_reasonAgainst 67 = .ok (.getfield 198, 3) := by decide +kernel
theorem dX5_reasonAgainst_70 : decode cX5_reasonAgainst 70 = .ok (.bipush 30, 2) := by decide +kernel
theorem dX5_reasonAgainst_72 : decode cX5_reasonAgainst 72 = .ok (.if_icmp .lt 7, 3) := by decide +kernel
theorem dX5_reasonAgainst_75 : decode cX5_reasonAgainst 75 = .ok (.iconst 3, 1) := by decide +kernel
theorem dX5_reasonAgainst_76 : decode cX5_reasonAgainst 76 = .ok (.goto 4, 3) := by decide +kernel
theorem dX5_reasonAgainst_79 : decode cX5_reasonAgainst 79 = .ok (.iload_n 3, 1) := by decide +kernel
theorem dX5_reasonAgainst_80 : decode cX5_reasonAgainst 80 = .ok (.ireturn, 1) := by decide +kernel
theorem dX5_take_0 : decode cX5_take 0 = .ok (.aload_n 1, 1) := by decide +kernel
theorem dX5_take_1 : decode cX5_take 1 = .ok (.iload_n 2, 1) := by decide +kernel
theorem dX5_take_2 : decode cX5_take 2 = .ok (.invokevirtual 188, 3) := by decide +kernel
theorem dX5_take_5 : decode cX5_take 5 = .ok (.aload_n 1, 1) := by decide +kernel
theorem dX5_take_6 : decode cX5_take 6 = .ok (.iload_n 2, 1) := by decide +kernel
theorem dX5_take_7 : decode cX5_take 7 = .ok (.invokevirtual 201, 3) := by decide +kernel
theorem dX5_take_10 : decode cX5_take 10 = .ok (.aload_n 0, 1) := by decide +kernel
theorem dX5_take_11 : decode cX5_take 11 = .ok (.dup, 1) := by decide +kernel
theorem dX5_take_12 : decode cX5_take 12 = .ok (.getfield 36, 3) := by decide +kernel
theorem dX5_take_15 : decode cX5_take 15 = .ok (.iconst 1, 1) := by decide +kernel
theorem dX5_take_16 : decode cX5_take 16 = .ok (.iadd, 1) := by decide +kernel
theorem dX5_take_17 : decode cX5_take 17 = .ok (.putfield 36, 3) := by decide +kernel
theorem dX5_take_20 : decode cX5_take 20 = .ok (.aload_n 0, 1) := by decide +kernel
theorem dX5_take_21 : decode cX5_take 21 = .ok (.dup, 1) := by decide +kernel
theorem dX5_take_22 : decode cX5_take 22 = .ok (.getfield 40, 3) := by decide +kernel
theorem dX5_take_25 : decode cX5_take 25 = .ok (.iconst 1, 1) := by decide +kernel
theorem dX5_take_26 : decode cX5_take 26 = .ok (.iadd, 1) := by decide +kernel
theorem dX5_take_27 : decode cX5_take 27 = .ok (.putfield 40, 3) := by decide +kernel
theorem dX5_take_30 : decode cX5_take 30 = .ok (.iload_n 2, 1) := by decide +kernel
theorem dX5_take_31 : decode cX5_take 31 = .ok (.bipush 6, 2) := by decide +kernel
theorem dX5_take_33 : decode cX5_take 33 = .ok (.if_icmp .eq 17, 3) := by decide +kernel
theorem dX5_take_36 : decode cX5_take 36 = .ok (.aload_n 1, 1) := by decide +kernel
theorem dX5_take_37 : decode cX5_take 37 = .ok (.dup, 1) := by decide +kernel
theorem dX5_take_38 : decode cX5_take 38 = .ok (.getfield 165, 3) := by decide +kernel
theorem dX5_take_41 : decode cX5_take 41 = .ok (.aload_n 0, 1) := by decide +kernel
theorem dX5_take_42 : decode cX5_take 42 = .ok (.aload_n 1, 1) := by decide +kernel
theorem dX5_take_43 : decode cX5_take 43 = .ok (.invokevirtual 204, 3) := by decide +kernel
theorem dX5_take_46 : decode cX5_take 46 = .ok (.iadd, 1) := by decide +kernel
theorem dX5_take_47 : decode cX5_take 47 = .ok (.putfield 165, 3) := by decide +kernel
theorem dX5_take_50 : decode cX5_take 50 = .ok (.return_, 1) := by decide +kernel
theorem dX5_missesNow_0 : decode cX5_missesNow 0 = .ok (.iconst 0, 1) := by decide +kernel
theorem dX5_missesNow_1 : decode cX5_missesNow 1 = .ok (.istore_n 2, 1) := by decide +kernel
theorem dX5_missesNow_2 : decode cX5_missesNow 2 = .ok (.iconst 0, 1) := by decide +kernel
theorem dX5_missesNow_3 : decode cX5_missesNow 3 = .ok (.istore_n 3, 1) := by decide +kernel
theorem dX5_missesNow_4 : decode cX5_missesNow 4 = .ok (.iload_n 3, 1) := by decide +kernel
theorem dX5_missesNow_5 : decode cX5_missesNow 5 = .ok (.aload_n 0, 1) := by decide +kernel
theorem dX5_missesNow_6 : decode cX5_missesNow 6 = .ok (.getfield 21, 3) := by decide +kernel
theorem dX5_missesNow_9 : decode cX5_missesNow 9 = .ok (.invokevirtual 68, 3) := by decide +kernel
theorem dX5_missesNow_12 : decode cX5_missesNow 12 = .ok (.if_icmp .ge 51, 3) := by decide +kernel
theorem dX5_missesNow_15 : decode cX5_missesNow 15 = .ok (.aload_n 0, 1) := by decide +kernel
theorem dX5_missesNow_16 : decode cX5_missesNow 16 = .ok (.getfield 21, 3) := by decide +kernel
theorem dX5_missesNow_19 : decode cX5_missesNow 19 = .ok (.iload_n 3, 1) := by decide +kernel
theorem dX5_missesNow_20 : decode cX5_missesNow 20 = .ok (.invokevirtual 72, 3) := by decide +kernel
theorem dX5_missesNow_23 : decode cX5_missesNow 23 = .ok (.checkcast 50, 3) := by decide +kernel
theorem dX5_missesNow_26 : decode cX5_missesNow 26 = .ok (.astore 4, 2) := by decide +kernel
theorem dX5_missesNow_28 : decode cX5_missesNow 28 = .ok (.aload 4, 2) := by decide +kernel
theorem dX5_missesNow_30 : decode cX5_missesNow 30 = .ok (.aload_n 1, 1) := by decide +kernel
theorem dX5_missesNow_31 : decode cX5_missesNow 31 = .ok (.if_acmp .eq 26, 3) := by decide +kernel
theorem dX5_missesNow_34 : decode cX5_missesNow 34 = .ok (.aload_n 1, 1) := by decide +kernel
theorem dX5_missesNow_35 : decode cX5_missesNow 35 = .ok (.aload 4, 2) := by decide +kernel
theorem dX5_missesNow_37 : decode cX5_missesNow 37 = .ok (.iconst 1, 1) := by decide +kernel
theorem dX5_missesNow_38 : decode cX5_missesNow 38 = .ok (.invokevirtual 152, 3) := by decide +kernel
theorem dX5_missesNow_41 : decode cX5_missesNow 41 = .ok (.ifCond .ne 16, 3) := by decide +kernel
theorem dX5_missesNow_44 : decode cX5_missesNow 44 = .ok (.aload_n 1, 1) := by decide +kernel
theorem dX5_missesNow_45 : decode cX5_missesNow 45 = .ok (.aload 4, 2) := by decide +kernel
theorem dX5_missesNow_47 : decode cX5_missesNow 47 = .ok (.iconst 2, 1) := by decide +kernel
theorem dX5_missesNow_48 : decode cX5_missesNow 48 = .ok (.invokevirtual 152, 3) := by decide +kernel
theorem dX5_missesNow_51 : decode cX5_missesNow 51 = .ok (.ifCond .eq 6, 3) := by decide +kernel
theorem dX5_missesNow_54 : decode cX5_missesNow 54 = .ok (.iinc 2 1, 3) := by decide +kernel
theorem dX5_missesNow_57 : decode cX5_missesNow 57 = .ok (.iinc 3 1, 3) := by decide +kernel
theorem dX5_missesNow_60 : decode cX5_missesNow 60 = .ok (.goto (-56), 3) := by decide +kernel
theorem dX5_missesNow_63 : decode cX5_missesNow 63 = .ok (.iload_n 2, 1) := by decide +kernel
theorem dX5_missesNow_64 : decode cX5_missesNow 64 = .ok (.ireturn, 1) := by decide +kernel
theorem dX5_idle_0 : decode cX5_idle 0 = .ok (.aload_n 0, 1) := by decide +kernel
theorem dX5_idle_1 : decode cX5_idle 1 = .ok (.dup, 1) := by decide +kernel
theorem dX5_idle_2 : decode cX5_idle 2 = .ok (.getfield 36, 3) := by decide +kernel
theorem dX5_idle_5 : decode cX5_idle 5 = .ok (.iload_n 1, 1) := by decide +kernel
theorem dX5_idle_6 : decode cX5_idle 6 = .ok (.iadd, 1) := by decide +kernel
theorem dX5_idle_7 : decode cX5_idle 7 = .ok (.putfield 36, 3) := by decide +kernel
theorem dX5_idle_10 : decode cX5_idle 10 = .ok (.iconst 0, 1) := by decide +kernel
theorem dX5_idle_11 : decode cX5_idle 11 = .ok (.istore_n 2, 1) := by decide +kernel
theorem dX5_idle_12 : decode cX5_idle 12 = .ok (.iload_n 2, 1) := by decide +kernel
theorem dX5_idle_13 : decode cX5_idle 13 = .ok (.aload_n 0, 1) := by decide +kernel
theorem dX5_idle_14 : decode cX5_idle 14 = .ok (.getfield 21, 3) := by decide +kernel
theorem dX5_idle_17 : decode cX5_idle 17 = .ok (.invokevirtual 68, 3) := by decide +kernel
theorem dX5_idle_20 : decode cX5_idle 20 = .ok (.if_icmp .ge 24, 3) := by decide +kernel
theorem dX5_idle_23 : decode cX5_idle 23 = .ok (.aload_n 0, 1) := by decide +kernel
theorem dX5_idle_24 : decode cX5_idle 24 = .ok (.getfield 21, 3) := by decide +kernel
theorem dX5_idle_27 : decode cX5_idle 27 = .ok (.iload_n 2, 1) := by decide +kernel
theorem dX5_idle_28 : decode cX5_idle 28 = .ok (.invokevirtual 72, 3) := by decide +kernel
theorem dX5_idle_31 : decode cX5_idle 31 = .ok (.checkcast 50, 3) := by decide +kernel
theorem dX5_idle_34 : decode cX5_idle 34 = .ok (.iload_n 1, 1) := by decide +kernel
theorem dX5_idle_35 : decode cX5_idle 35 = .ok (.invokevirtual 207, 3) := by decide +kernel
theorem dX5_idle_38 : decode cX5_idle 38 = .ok (.iinc 2 1, 3) := by decide +kernel
theorem dX5_idle_41 : decode cX5_idle 41 = .ok (.goto (-29), 3) := by decide +kernel
theorem dX5_idle_44 : decode cX5_idle 44 = .ok (.return_, 1) := by decide +kernel
theorem dX5_turnToWind_0 : decode cX5_turnToWind 0 = .ok (.aload_n 0, 1) := by decide +kernel
theorem dX5_turnToWind_1 : decode cX5_turnToWind 1 = .ok (.invokevirtual 210, 3) := by decide +kernel
theorem dX5_turnToWind_4 : decode cX5_turnToWind 4 = .ok (.istore_n 1, 1) := by decide +kernel
theorem dX5_turnToWind_5 : decode cX5_turnToWind 5 = .ok (.iconst 0, 1) := by decide +kernel
theorem dX5_turnToWind_6 : decode cX5_turnToWind 6 = .ok (.istore_n 2, 1) := by decide +kernel
theorem dX5_turnToWind_7 : decode cX5_turnToWind 7 = .ok (.iconst 0, 1) := by decide +kernel
theorem dX5_turnToWind_8 : decode cX5_turnToWind 8 = .ok (.istore_n 3, 1) := by decide +kernel
theorem dX5_turnToWind_9 : decode cX5_turnToWind 9 = .ok (.iload_n 3, 1) := by decide +kernel
theorem dX5_turnToWind_10 : decode cX5_turnToWind 10 = .ok (.aload_n 0, 1) := by decide +kernel
theorem dX5_turnToWind_11 : decode cX5_turnToWind 11 = .ok (.getfield 21, 3) := by decide +kernel
theorem dX5_turnToWind_14 : decode cX5_turnToWind 14 = .ok (.invokevirtual 68, 3) := by decide +kernel
theorem dX5_turnToWind_17 : decode cX5_turnToWind 17 = .ok (.if_icmp .ge 83, 3) := by decide +kernel
theorem dX5_turnToWind_20 : decode cX5_turnToWind 20 = .ok (.aload_n 0, 1) := by decide +kernel
theorem dX5_turnToWind_21 : decode cX5_turnToWind 21 = .ok (.getfield 21, 3) := by decide +kernel
theorem dX5_turnToWind_24 : decode cX5_turnToWind 24 = .ok (.iload_n 3, 1) := by decide +kernel
theorem dX5_turnToWind_25 : decode cX5_turnToWind 25 = .ok (.invokevirtual 72, 3) := by decide +kernel
theorem dX5_turnToWind_28 : decode cX5_turnToWind 28 = .ok (.checkcast 50, 3) := by decide +kernel
theorem dX5_turnToWind_31 : decode cX5_turnToWind 31 = .ok (.astore 4, 2) := by decide +kernel
theorem dX5_turnToWind_33 : decode cX5_turnToWind 33 = .ok (.aload_n 0, 1) := by decide +kernel
theorem dX5_turnToWind_34 : decode cX5_turnToWind 34 = .ok (.getfield 55, 3) := by decide +kernel
theorem dX5_turnToWind_37 : decode cX5_turnToWind 37 = .ok (.aload 4, 2) := by decide +kernel
theorem dX5_turnToWind_39 : decode cX5_turnToWind 39 = .ok (.invokevirtual 184, 3) := by decide +kernel
theorem dX5_turnToWind_42 : decode cX5_turnToWind 42 = .ok (.aload_n 0, 1) := by decide +kernel
theorem dX5_turnToWind_43 : decode cX5_turnToWind 43 = .ok (.getfield 55, 3) := by decide +kernel
theorem dX5_turnToWind_46 : decode cX5_turnToWind 46 = .ok (.iload_n 1, 1) := by decide +kernel
theorem dX5_turnToWind_47 : decode cX5_turnToWind 47 = .ok (.invokevirtual 213, 3) := by decide +kernel
theorem dX5_turnToWind_50 : decode cX5_turnToWind 50 = .ok (.aload 4, 2) := by decide +kernel
theorem dX5_turnToWind_52 : decode cX5_turnToWind 52 = .ok (.getfield 131, 3) := by decide +kernel
theorem dX5_turnToWind_55 : decode cX5_turnToWind 55 = .ok (.ifnonnull 39, 3) := by decide +kernel
theorem dX5_turnToWind_58 : decode cX5_turnToWind 58 = .ok (.aload_n 0, 1) := by decide +kernel
theorem dX5_turnToWind_59 : decode cX5_turnToWind 59 = .ok (.aload_n 0, 1) := by decide +kernel
theorem dX5_turnToWind_60 : decode cX5_turnToWind 60 = .ok (.getfield 55, 3) := by decide +kernel
theorem dX5_turnToWind_63 : decode cX5_turnToWind 63 = .ok (.iconst 0, 1) := by decide +kernel
theorem dX5_turnToWind_64 : decode cX5_turnToWind 64 = .ok (.iconst (-1), 1) := by decide +kernel
theorem dX5_turnToWind_65 : decode cX5_turnToWind 65 = .ok (.invokevirtual 192, 3) := by decide +kernel
theorem dX5_turnToWind_68 : decode cX5_turnToWind 68 = .ok (.ifCond .ne 26, 3) := by decide +kernel
theorem dX5_turnToWind_71 : decode cX5_turnToWind 71 = .ok (.iload_n 2, 1) := by decide +kernel
theorem dX5_turnToWind_72 : decode cX5_turnToWind 72 = .ok (.aload 4, 2) := by decide +kernel
theorem dX5_turnToWind_74 : decode cX5_turnToWind 74 = .ok (.getfield 216, 3) := by decide +kernel
theorem dX5_turnToWind_77 : decode cX5_turnToWind 77 = .ok (.iload_n 1, 1) := by decide +kernel
theorem dX5_turnToWind_78 : decode cX5_turnToWind 78 = .ok (.if_icmp .ne 7, 3) := by decide +kernel
theorem dX5_turnToWind_81 : decode cX5_turnToWind 81 = .ok (.iconst 0, 1) := by decide +kernel
theorem dX5_turnToWind_82 : decode cX5_turnToWind 82 = .ok (.goto 4, 3) := by decide +kernel
theorem dX5_turnToWind_85 : decode cX5_turnToWind 85 = .ok (.iconst 1, 1) := by decide +kernel
theorem dX5_turnToWind_86 : decode cX5_turnToWind 86 = .ok (.iadd, 1) := by decide +kernel
theorem dX5_turnToWind_87 : decode cX5_turnToWind 87 = .ok (.istore_n 2, 1) := by decide +kernel
theorem dX5_turnToWind_88 : decode cX5_turnToWind 88 = .ok (.aload 4, 2) := by decide +kernel
theorem dX5_turnToWind_90 : decode cX5_turnToWind 90 = .ok (.iload_n 1, 1) := by decide +kernel
theorem dX5_turnToWind_91 : decode cX5_turnToWind 91 = .ok (.invokevirtual 213, 3) := by decide +kernel
theorem dX5_turnToWind_94 : decode cX5_turnToWind 94 = .ok (.iinc 3 1, 3) := by decide +kernel
theorem dX5_turnToWind_97 : decode cX5_turnToWind 97 = .ok (.goto (-88), 3) := by decide +kernel
theorem dX5_turnToWind_100 : decode cX5_turnToWind 100 = .ok (.iload_n 2, 1) := by decide +kernel
theorem dX5_turnToWind_101 : decode cX5_turnToWind 101 = .ok (.ireturn, 1) := by decide +kernel
theorem dX5_areCranesSound_0 : decode cX5_areCranesSound 0 = .ok (.iconst 0, 1) := by decide +kernel
theorem dX5_areCranesSound_1 : decode cX5_areCranesSound 1 = .ok (.istore_n 1, 1) := by decide +kernel
theorem dX5_areCranesSound_2 : decode cX5_areCranesSound 2 = .ok (.iload_n 1, 1) := by decide +kernel
theorem dX5_areCranesSound_3 : decode cX5_areCranesSound 3 = .ok (.aload_n 0, 1) := by decide +kernel
theorem dX5_areCranesSound_4 : decode cX5_areCranesSound 4 = .ok (.getfield 21, 3) := by decide +kernel
theorem dX5_areCranesSound_7 : decode cX5_areCranesSound 7 = .ok (.invokevirtual 68, 3) := by decide +kernel
theorem dX5_areCranesSound_10 : decode cX5_areCranesSound 10 = .ok (.if_icmp .ge 96, 3) := by decide +kernel
theorem dX5_areCranesSound_13 : decode cX5_areCranesSound 13 = .ok (.aload_n 0, 1) := by decide +kernel
theorem dX5_areCranesSound_14 : decode cX5_areCranesSound 14 = .ok (.getfield 21, 3) := by decide +kernel
theorem dX5_areCranesSound_17 : decode cX5_areCranesSound 17 = .ok (.iload_n 1, 1) := by decide +kernel
theorem dX5_areCranesSound_18 : decode cX5_areCranesSound 18 = .ok (.invokevirtual 72, 3) := by decide +kernel
theorem dX5_areCranesSound_21 : decode cX5_areCranesSound 21 = .ok (.checkcast 50, 3) := by decide +kernel
theorem dX5_areCranesSound_24 : decode cX5_areCranesSound 24 = .ok (.astore_n 2, 1) := by decide +kernel
theorem dX5_areCranesSound_25 : decode cX5_areCranesSound 25 = .ok (.aload_n 0, 1) := by decide +kernel
theorem dX5_areCranesSound_26 : decode cX5_areCranesSound 26 = .ok (.aload_n 2, 1) := by decide +kernel
theorem dX5_areCranesSound_27 : decode cX5_areCranesSound 27 = .ok (.getfield 107, 3) := by decide +kernel
theorem dX5_areCranesSound_30 : decode cX5_areCranesSound 30 = .ok (.invokevirtual 125, 3) := by decide +kernel
theorem dX5_areCranesSound_33 : decode cX5_areCranesSound 33 = .ok (.iload_n 1, 1) := by decide +kernel
theorem dX5_areCranesSound_34 : decode cX5_areCranesSound 34 = .ok (.if_icmp .ne 21, 3) := by decide +kernel
theorem dX5_areCranesSound_37 : decode cX5_areCranesSound 37 = .ok (.aload_n 0, 1) := by decide +kernel
theorem dX5_areCranesSound_38 : decode cX5_areCranesSound 38 = .ok (.getfield 46, 3) := by decide +kernel
theorem dX5_areCranesSound_41 : decode cX5_areCranesSound 41 = .ok (.aload_n 2, 1) := by decide +kernel
theorem dX5_areCranesSound_42 : decode cX5_areCranesSound 42 = .ok (.getfield 107, 3) := by decide +kernel
theorem dX5_areCranesSound_45 : decode cX5_areCranesSound 45 = .ok (.invokevirtual 138, 3) := by decide +kernel
theorem dX5_areCranesSound_48 : decode cX5_areCranesSound 48 = .ok (.ifCond .ne 7, 3) := by decide +kernel
theorem dX5_areCranesSound_51 : decode cX5_areCranesSound 51 = .ok (.iconst 1, 1) := by decide +kernel
theorem dX5_areCranesSound_52 : decode cX5_areCranesSound 52 = .ok (.goto 4, 3) := by decide +kernel
theorem dX5_areCranesSound_55 : decode cX5_areCranesSound 55 = .ok (.iconst 0, 1) := by decide +kernel
theorem dX5_areCranesSound_56 : decode cX5_areCranesSound 56 = .ok (.istore_n 3, 1) := by decide +kernel
theorem dX5_areCranesSound_57 : decode cX5_areCranesSound 57 = .ok (.aload_n 2, 1) := by decide +kernel
theorem dX5_areCranesSound_58 : decode cX5_areCranesSound 58 = .ok (.getfield 131, 3) := by decide +kernel
theorem dX5_areCranesSound_61 : decode cX5_areCranesSound 61 = .ok (.ifnull 14, 3) := by decide +kernel
theorem dX5_areCranesSound_64 : decode cX5_areCranesSound 64 = .ok (.aload_n 2, 1) := by decide +kernel
theorem dX5_areCranesSound_65 : decode cX5_areCranesSound 65 = .ok (.getfield 131, 3) := by decide +kernel
theorem dX5_areCranesSound_68 : decode cX5_areCranesSound 68 = .ok (.getfield 115, 3) := by decide +kernel
theorem dX5_areCranesSound_71 : decode cX5_areCranesSound 71 = .ok (.aload_n 2, 1) := by decide +kernel
theorem dX5_areCranesSound_72 : decode cX5_areCranesSound 72 = .ok (.if_acmp .ne 7, 3) := by decide +kernel
theorem dX5_areCranesSound_75 : decode cX5_areCranesSound 75 = .ok (.iconst 1, 1) := by decide +kernel
theorem dX5_areCranesSound_76 : decode cX5_areCranesSound 76 = .ok (.goto 4, 3) := by decide +kernel
theorem dX5_areCranesSound_79 : decode cX5_areCranesSound 79 = .ok (.iconst 0, 1) := by decide +kernel
theorem dX5_areCranesSound_80 : decode cX5_areCranesSound 80 = .ok (.istore 4, 2) := by decide +kernel
theorem dX5_areCranesSound_82 : decode cX5_areCranesSound 82 = .ok (.iload_n 3, 1) := by decide +kernel
theorem dX5_areCranesSound_83 : decode cX5_areCranesSound 83 = .ok (.ifCond .eq 15, 3) := by decide +kernel
theorem dX5_areCranesSound_86 : decode cX5_areCranesSound 86 = .ok (.iload 4, 2) := by decide +kernel
theorem dX5_areCranesSound_88 : decode cX5_areCranesSound 88 = .ok (.ifCond .eq 10, 3) := by decide +kernel
theorem dX5_areCranesSound_91 : decode cX5_areCranesSound 91 = .ok (.aload_n 2, 1) := by decide +kernel
theorem dX5_areCranesSound_92 : decode cX5_areCranesSound 92 = .ok (.invokevirtual 223, 3) := by decide +kernel
theorem dX5_areCranesSound_95 : decode cX5_areCranesSound 95 = .ok (.ifCond .ne 5, 3) := by decide +kernel
theorem dX5_areCranesSound_98 : decode cX5_areCranesSound 98 = .ok (.iconst 0, 1) := by decide +kernel
theorem dX5_areCranesSound_99 : decode cX5_areCranesSound 99 = .ok (.ireturn, 1) := by decide +kernel
theorem dX5_areCranesSound_100 : decode cX5_areCranesSound 100 = .ok (.iinc 1 1, 3) := by decide +kernel
theorem dX5_areCranesSound_103 : decode cX5_areCranesSound 103 = .ok (.goto (-101), 3) := by decide +kernel
theorem dX5_areCranesSound_106 : decode cX5_areCranesSound 106 = .ok (.iconst 1, 1) := by decide +kernel
theorem dX5_areCranesSound_107 : decode cX5_areCranesSound 107 = .ok (.ireturn, 1) := by decide +kernel
theorem dX5_areLoadsSound_0 : decode cX5_areLoadsSound 0 = .ok (.iconst 0, 1) := by decide +kernel
theorem dX5_areLoadsSound_1 : decode cX5_areLoadsSound 1 = .ok (.istore_n 1, 1) := by decide +kernel
theorem dX5_areLoadsSound_2 : decode cX5_areLoadsSound 2 = .ok (.iload_n 1, 1) := by decide +kernel
theorem dX5_areLoadsSound_3 : decode cX5_areLoadsSound 3 = .ok (.aload_n 0, 1) := by decide +kernel
theorem dX5_areLoadsSound_4 : decode cX5_areLoadsSound 4 = .ok (.getfield 24, 3) := by decide +kernel
theorem dX5_areLoadsSound_7 : decode cX5_areLoadsSound 7 = .ok (.invokevirtual 68, 3) := by decide +kernel
theorem dX5_areLoadsSound_10 : decode cX5_areLoadsSound 10 = .ok (.if_icmp .ge 41, 3) := by decide +kernel
theorem dX5_areLoadsSound_13 : decode cX5_areLoadsSound 13 = .ok (.aload_n 0, 1) := by decide +kernel
theorem dX5_areLoadsSound_14 : decode cX5_areLoadsSound 14 = .ok (.getfield 24, 3) := by decide +kernel
theorem dX5_areLoadsSound_17 : decode cX5_areLoadsSound 17 = .ok (.iload_n 1, 1) := by decide +kernel
theorem dX5_areLoadsSound_18 : decode cX5_areLoadsSound 18 = .ok (.invokevirtual 72, 3) := by decide +kernel
theorem dX5_areLoadsSound_21 : decode cX5_areLoadsSound 21 = .ok (.checkcast 110, 3) := by decide +kernel
theorem dX5_areLoadsSound_24 : decode cX5_areLoadsSound 24 = .ok (.astore_n 2, 1) := by decide +kernel
theorem dX5_areLoadsSound_25 : decode cX5_areLoadsSound 25 = .ok (.aload_n 2, 1) := by decide +kernel
theorem dX5_areLoadsSound_26 : decode cX5_areLoadsSound 26 = .ok (.getfield 115, 3) := by decide +kernel
theorem dX5_areLoadsSound_29 : decode cX5_areLoadsSound 29 = .ok (.ifnull 16, 3) := by decide +kernel
theorem dX5_areLoadsSound_32 : decode cX5_areLoadsSound 32 = .ok (.aload_n 2, 1) := by decide +kernel
theorem dX5_areLoadsSound_33 : decode cX5_areLoadsSound 33 = .ok (.getfield 115, 3) := by decide +kernel
theorem dX5_areLoadsSound_36 : decode cX5_areLoadsSound 36 = .ok (.getfield 131, 3) := by decide +kernel
theorem dX5_areLoadsSound_39 : decode cX5_areLoadsSound 39 = .ok (.aload_n 2, 1) := by decide +kernel
theorem dX5_areLoadsSound_40 : decode cX5_areLoadsSound 40 = .ok (.if_acmp .eq 5, 3) := by decide +kernel
theorem dX5_areLoadsSound_43 : decode cX5_areLoadsSound 43 = .ok (.iconst 0, 1) := by decide +kernel
theorem dX5_areLoadsSound_44 : decode cX5_areLoadsSound 44 = .ok (.ireturn, 1) := by decide +kernel
theorem dX5_areLoadsSound_45 : decode cX5_areLoadsSound 45 = .ok (.iinc 1 1, 3) := by decide +kernel
theorem dX5_areLoadsSound_48 : decode cX5_areLoadsSound 48 = .ok (.goto (-46), 3) := by decide +kernel
theorem dX5_areLoadsSound_51 : decode cX5_areLoadsSound 51 = .ok (.iconst 1, 1) := by decide +kernel
theorem dX5_areLoadsSound_52 : decode cX5_areLoadsSound 52 = .ok (.ireturn, 1) := by decide +kernel
theorem dX6_init_0 : decode cX6_init 0 = .ok (.aload_n 0, 1) := by decide +kernel
theorem dX6_init_1 : decode cX6_init 1 = .ok (.invokespecial 1, 3) := by decide +kernel
theorem dX6_init_4 : decode cX6_init 4 = .ok (.aload_n 0, 1) := by decide +kernel
theorem dX6_init_5 : decode cX6_init 5 = .ok (.iload_n 1, 1) := by decide +kernel
theorem dX6_init_6 : decode cX6_init 6 = .ok (.putfield 7, 3) := by decide +kernel
theorem dX6_init_9 : decode cX6_init 9 = .ok (.aload_n 0, 1) := by decide +kernel
theorem dX6_init_10 : decode cX6_init 10 = .ok (.iload_n 2, 1) := by decide +kernel
theorem dX6_init_11 : decode cX6_init 11 = .ok (.putfield 13, 3) := by decide +kernel
theorem dX6_init_14 : decode cX6_init 14 = .ok (.aload_n 0, 1) := by decide +kernel
theorem dX6_init_15 : decode cX6_init 15 = .ok (.iload_n 3, 1) := by decide +kernel
theorem dX6_init_16 : decode cX6_init 16 = .ok (.putfield 16, 3) := by decide +kernel
theorem dX6_init_19 : decode cX6_init 19 = .ok (.aload_n 0, 1) := by decide +kernel
theorem dX6_init_20 : decode cX6_init 20 = .ok (.iload 4, 2) := by decide +kernel
theorem dX6_init_22 : decode cX6_init 22 = .ok (.putfield 19, 3) := by decide +kernel
theorem dX6_init_25 : decode cX6_init 25 = .ok (.aload_n 0, 1) := by decide +kernel
theorem dX6_init_26 : decode cX6_init 26 = .ok (.iload 5, 2) := by decide +kernel
theorem dX6_init_28 : decode cX6_init 28 = .ok (.putfield 22, 3) := by decide +kernel
theorem dX6_init_31 : decode cX6_init 31 = .ok (.aload_n 0, 1) := by decide +kernel
theorem dX6_init_32 : decode cX6_init 32 = .ok (.iload 6, 2) := by decide +kernel
theorem dX6_init_34 : decode cX6_init 34 = .ok (.putfield 25, 3) := by decide +kernel
theorem dX6_init_37 : decode cX6_init 37 = .ok (.return_, 1) := by decide +kernel
theorem dX6_covers_0 : decode cX6_covers 0 = .ok (.iload_n 1, 1) := by decide +kernel
theorem dX6_covers_1 : decode cX6_covers 1 = .ok (.aload_n 0, 1) := by decide +kernel
theorem dX6_covers_2 : decode cX6_covers 2 = .ok (.getfield 7, 3) := by decide +kernel
theorem dX6_covers_5 : decode cX6_covers 5 = .ok (.if_icmp .lt 31, 3) := by decide +kernel
theorem dX6_covers_8 : decode cX6_covers 8 = .ok (.iload_n 1, 1) := by decide +kernel
theorem dX6_covers_9 : decode cX6_covers 9 = .ok (.aload_n 0, 1) := by decide +kernel
theorem dX6_covers_10 : decode cX6_covers 10 = .ok (.getfield 16, 3) := by decide +kernel
theorem dX6_covers_13 : decode cX6_covers 13 = .ok (.if_icmp .gt 23, 3) := by decide +kernel
theorem dX6_covers_16 : decode cX6_covers 16 = .ok (.iload_n 2, 1) := by decide +kernel
theorem dX6_covers_17 : decode cX6_covers 17 = .ok (.aload_n 0, 1) := by decide +kernel
theorem dX6_covers_18 : decode cX6_covers 18 = .ok (.getfield 13, 3) := by decide +kernel
theorem dX6_covers_21 : decode cX6_covers 21 = .ok (.if_icmp .lt 15, 3) := by decide +kernel
theorem dX6_covers_24 : decode cX6_covers 24 = .ok (.iload_n 2, 1) := by decide +kernel
theorem dX6_covers_25 : decode cX6_covers 25 = .ok (.aload_n 0, 1) := by decide +kernel
theorem dX6_covers_26 : decode cX6_covers 26 = .ok (.getfield 19, 3) := by decide +kernel
theorem dX6_covers_29 : decode cX6_covers 29 = .ok (.if_icmp .gt 7, 3) := by decide +kernel
theorem dX6_covers_32 : decode cX6_covers 32 = .ok (.iconst 1, 1) := by decide +kernel
theorem dX6_covers_33 : decode cX6_covers 33 = .ok (.goto 4, 3) := by decide +kernel
theorem dX6_covers_36 : decode cX6_covers 36 = .ok (.iconst 0, 1) := by decide +kernel
theorem dX6_covers_37 : decode cX6_covers 37 = .ok (.ireturn, 1) := by decide +kernel
theorem dX6_isShutAt_0 : decode cX6_isShutAt 0 = .ok (.aload_n 0, 1) := by decide +kernel
theorem dX6_isShutAt_1 : decode cX6_isShutAt 1 = .ok (.getfield 22, 3) := by decide +kernel
theorem dX6_isShutAt_4 : decode cX6_isShutAt 4 = .ok (.aload_n 0, 1) := by decide +kernel
theorem dX6_isShutAt_5 : decode cX6_isShutAt 5 = .ok (.getfield 25, 3) := by decide +kernel
theorem dX6_isShutAt_8 : decode cX6_isShutAt 8 = .ok (.if_icmp .le 25, 3) := by decide +kernel
theorem dX6_isShutAt_11 : decode cX6_isShutAt 11 = .ok (.iload_n 1, 1) := by decide +kernel
theorem dX6_isShutAt_12 : decode cX6_isShutAt 12 = .ok (.aload_n 0, 1) := by decide +kernel
theorem dX6_isShutAt_13 : decode cX6_isShutAt 13 = .ok (.getfield 22, 3) := by decide +kernel
theorem dX6_isShutAt_16 : decode cX6_isShutAt 16 = .ok (.if_icmp .ge 11, 3) := by decide +kernel
theorem dX6_isShutAt_19 : decode cX6_isShutAt 19 = .ok (.iload_n 1, 1) := by decide +kernel
theorem dX6_isShutAt_20 : decode cX6_isShutAt 20 = .ok (.aload_n 0, 1) := by decide +kernel
theorem dX6_isShutAt_21 : decode cX6_isShutAt 21 = .ok (.getfield 25, 3) := by decide +kernel
theorem dX6_isShutAt_24 : decode cX6_isShutAt 24 = .ok (.if_icmp .gt 7, 3) := by decide +kernel
theorem dX6_isShutAt_27 : decode cX6_isShutAt 27 = .ok (.iconst 1, 1) := by decide +kernel
theorem dX6_isShutAt_28 : decode cX6_isShutAt 28 = .ok (.goto 4, 3) := by decide +kernel
theorem dX6_isShutAt_31 : decode cX6_isShutAt 31 = .ok (.iconst 0, 1) := by decide +kernel
theorem dX6_isShutAt_32 : decode cX6_isShutAt 32 = .ok (.ireturn, 1) := by decide +kernel
theorem dX6_isShutAt_33 : decode cX6_isShutAt 33 = .ok (.iload_n 1, 1) := by decide +kernel
theorem dX6_isShutAt_34 : decode cX6_isShutAt 34 = .ok (.aload_n 0, 1) := by decide +kernel
theorem dX6_isShutAt_35 : decode cX6_isShutAt 35 = .ok (.getfield 22, 3) := by decide +kernel
theorem dX6_isShutAt_38 : decode cX6_isShutAt 38 = .ok (.if_icmp .lt 15, 3) := by decide +kernel
theorem dX6_isShutAt_41 : decode cX6_isShutAt 41 = .ok (.iload_n 1, 1) := by decide +kernel
theorem dX6_isShutAt_42 : decode cX6_isShutAt 42 = .ok (.aload_n 0, 1) := by decide +kernel
theorem dX6_isShutAt_43 : decode cX6_isShutAt 43 = .ok (.getfield 25, 3) := by decide +kernel
theorem dX6_isShutAt_46 : decode cX6_isShutAt 46 = .ok (.if_icmp .gt 7, 3) := by decide +kernel
theorem dX6_isShutAt_49 : decode cX6_isShutAt 49 = .ok (.iconst 1, 1) := by decide +kernel
theorem dX6_isShutAt_50 : decode cX6_isShutAt 50 = .ok (.goto 4, 3) := by decide +kernel
theorem dX6_isShutAt_53 : decode cX6_isShutAt 53 = .ok (.iconst 0, 1) := by decide +kernel
theorem dX6_isShutAt_54 : decode cX6_isShutAt 54 = .ok (.ireturn, 1) := by decide +kernel
theorem dX7_init_0 : decode cX7_init 0 = .ok (.aload_n 0, 1) := by decide +kernel
theorem dX7_init_1 : decode cX7_init 1 = .ok (.invokespecial 3, 3) := by decide +kernel
theorem dX7_init_4 : decode cX7_init 4 = .ok (.new 9, 3) := by decide +kernel
theorem dX7_init_7 : decode cX7_init 7 = .ok (.dup, 1) := by decide +kernel
theorem dX7_init_8 : decode cX7_init 8 = .ok (.new 11, 3) := by decide +kernel
theorem dX7_init_11 : decode cX7_init 11 = .ok (.dup, 1) := by decide +kernel
theorem dX7_init_12 : decode cX7_init 12 = .ok (.invokespecial 13, 3) := by decide +kernel
theorem dX7_init_15 : decode cX7_init 15 = .ok (.invokespecial 14, 3) := by decide +kernel
theorem dX7_init_18 : decode cX7_init 18 = .ok (.astore_n 1, 1) := by decide +kernel
theorem dX7_init_19 : decode cX7_init 19 = .ok (.aload_n 0, 1) := by decide +kernel
theorem dX7_init_20 : decode cX7_init 20 = .ok (.aload_n 1, 1) := by decide +kernel
theorem dX7_init_21 : decode cX7_init 21 = .ok (.putfield 17, 3) := by decide +kernel
theorem dX7_init_24 : decode cX7_init 24 = .ok (.aload_n 0, 1) := by decide +kernel
theorem dX7_init_25 : decode cX7_init 25 = .ok (.new 21, 3) := by decide +kernel
theorem dX7_init_28 : decode cX7_init 28 = .ok (.dup, 1) := by decide +kernel
theorem dX7_init_29 : decode cX7_init 29 = .ok (.aload_n 1, 1) := by decide +kernel
theorem dX7_init_30 : decode cX7_init 30 = .ok (.invokespecial 23, 3) := by decide +kernel
theorem dX7_init_33 : decode cX7_init 33 = .ok (.putfield 26, 3) := by decide +kernel
theorem dX7_init_36 : decode cX7_init 36 = .ok (.aload_n 0, 1) := by decide +kernel
theorem dX7_init_37 : decode cX7_init 37 = .ok (.iconst 0, 1) := by decide +kernel
theorem dX7_init_38 : decode cX7_init 38 = .ok (.putfield 30, 3) := by decide +kernel
theorem dX7_init_41 : decode cX7_init 41 = .ok (.return_, 1) := by decide +kernel
theorem dX7_yard_0 : decode cX7_yard 0 = .ok (.iload_n 1, 1) := by decide +kernel
theorem dX7_yard_1 : decode cX7_yard 1 = .ok (.bipush 6, 2) := by decide +kernel
theorem dX7_yard_3 : decode cX7_yard 3 = .ok (.bipush 14, 2) := by decide +kernel
theorem dX7_yard_5 : decode cX7_yard 5 = .ok (.invokestatic 34, 3) := by decide +kernel
theorem dX7_yard_8 : decode cX7_yard 8 = .ok (.iload_n 2, 1) := by decide +kernel
theorem dX7_yard_9 : decode cX7_yard 9 = .ok (.bipush 6, 2) := by decide +kernel
theorem dX7_yard_11 : decode cX7_yard 11 = .ok (.bipush 14, 2) := by decide +kernel
theorem dX7_yard_13 : decode cX7_yard 13 = .ok (.invokestatic 34, 3) := by decide +kernel
theorem dX7_yard_16 : decode cX7_yard 16 = .ok (.aload_n 0, 1) := by decide +kernel
theorem dX7_yard_17 : decode cX7_yard 17 = .ok (.getfield 17, 3) := by decide +kernel
theorem dX7_yard_20 : decode cX7_yard 20 = .ok (.iload_n 1, 1) := by decide +kernel
theorem dX7_yard_21 : decode cX7_yard 21 = .ok (.iload_n 2, 1) := by decide +kernel
theorem dX7_yard_22 : decode cX7_yard 22 = .ok (.invokevirtual 38, 3) := by decide +kernel
theorem dX7_yard_25 : decode cX7_yard 25 = .ok (.aload_n 0, 1) := by decide +kernel
theorem dX7_yard_26 : decode cX7_yard 26 = .ok (.getfield 17, 3) := by decide +kernel
theorem dX7_yard_29 : decode cX7_yard 29 = .ok (.getfield 42, 3) := by decide +kernel
theorem dX7_yard_32 : decode cX7_yard 32 = .ok (.invokevirtual 46, 3) := by decide +kernel
theorem dX7_yard_35 : decode cX7_yard 35 = .ok (.ireturn, 1) := by decide +kernel
theorem dX7_level_0 : decode cX7_level 0 = .ok (.aload_n 0, 1) := by decide +kernel
theorem dX7_level_1 : decode cX7_level 1 = .ok (.iload_n 1, 1) := by decide +kernel
theorem dX7_level_2 : decode cX7_level 2 = .ok (.invokevirtual 50, 3) := by decide +kernel
theorem dX7_level_5 : decode cX7_level 5 = .ok (.iload_n 2, 1) := by decide +kernel
theorem dX7_level_6 : decode cX7_level 6 = .ok (.iconst 0, 1) := by decide +kernel
theorem dX7_level_7 : decode cX7_level 7 = .ok (.bipush 20, 2) := by decide +kernel
theorem dX7_level_9 : decode cX7_level 9 = .ok (.invokestatic 34, 3) := by decide +kernel
theorem dX7_level_12 : decode cX7_level 12 = .ok (.aload_n 0, 1) := by decide +kernel
theorem dX7_level_13 : decode cX7_level 13 = .ok (.getfield 17, 3) := by decide +kernel
theorem dX7_level_16 : decode cX7_level 16 = .ok (.iload_n 1, 1) := by decide +kernel
theorem dX7_level_17 : decode cX7_level 17 = .ok (.iload_n 2, 1) := by decide +kernel
theorem dX7_level_18 : decode cX7_level 18 = .ok (.invokevirtual 54, 3) := by decide +kernel
theorem dX7_level_21 : decode cX7_level 21 = .ok (.ifCond .ne 13, 3) := by decide +kernel
theorem dX7_level_24 : decode cX7_level 24 = .ok (.new 58, 3) := by decide +kernel
theorem dX7_level_27 : decode cX7_level 27 = .ok (.dup, 1) := by decide +kernel
theorem dX7_level_28 : decode cX7_level 28 = .ok (.ldc 60, 2) := by decide +kernel
theorem dX7_level_30 : decode cX7_level 30 = .ok (.invokespecial 62, 3) := by decide +kernel
theorem dX7_level_33 : decode cX7_level 33 = .ok (.athrow, 1) := by decide +kernel
theorem dX7_level_34 : decode cX7_level 34 = .ok (.aload_n 0, 1) := by decide +kernel
theorem dX7_level_35 : decode cX7_level 35 = .ok (.getfield 17, 3) := by decide +kernel
theorem dX7_level_38 : decode cX7_level 38 = .ok (.getfield 42, 3) := by decide +kernel
theorem dX7_level_41 : decode cX7_level 41 = .ok (.iload_n 1, 1) := by decide +kernel
theorem dX7_level_42 : decode cX7_level 42 = .ok (.invokevirtual 65, 3) := by decide +kernel
theorem dX7_level_45 : decode cX7_level 45 = .ok (.istore_n 3, 1) := by decide +kernel
theorem dX7_level_46 : decode cX7_level 46 = .ok (.aload_n 0, 1) := by decide +kernel
theorem dX7_level_47 : decode cX7_level 47 = .ok (.getfield 17, 3) := by decide +kernel
