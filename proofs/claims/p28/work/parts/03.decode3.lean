theorem dX7_level_50 : decode cX7_level 50 = .ok (.getfield 42, 3) := by decide +kernel
theorem dX7_level_53 : decode cX7_level 53 = .ok (.iload_n 1, 1) := by decide +kernel
theorem dX7_level_54 : decode cX7_level 54 = .ok (.iload_n 2, 1) := by decide +kernel
theorem dX7_level_55 : decode cX7_level 55 = .ok (.invokevirtual 69, 3) := by decide +kernel
theorem dX7_level_58 : decode cX7_level 58 = .ok (.iload_n 3, 1) := by decide +kernel
theorem dX7_level_59 : decode cX7_level 59 = .ok (.ireturn, 1) := by decide +kernel
theorem dX7_wind_0 : decode cX7_wind 0 = .ok (.iload_n 1, 1) := by decide +kernel
theorem dX7_wind_1 : decode cX7_wind 1 = .ok (.iconst 0, 1) := by decide +kernel
theorem dX7_wind_2 : decode cX7_wind 2 = .ok (.sipush 600, 3) := by decide +kernel
theorem dX7_wind_5 : decode cX7_wind 5 = .ok (.invokestatic 34, 3) := by decide +kernel
theorem dX7_wind_8 : decode cX7_wind 8 = .ok (.iload_n 2, 1) := by decide +kernel
theorem dX7_wind_9 : decode cX7_wind 9 = .ok (.iconst 0, 1) := by decide +kernel
theorem dX7_wind_10 : decode cX7_wind 10 = .ok (.bipush 9, 2) := by decide +kernel
theorem dX7_wind_12 : decode cX7_wind 12 = .ok (.invokestatic 34, 3) := by decide +kernel
theorem dX7_wind_15 : decode cX7_wind 15 = .ok (.iload_n 3, 1) := by decide +kernel
theorem dX7_wind_16 : decode cX7_wind 16 = .ok (.iconst 0, 1) := by decide +kernel
theorem dX7_wind_17 : decode cX7_wind 17 = .ok (.bipush 7, 2) := by decide +kernel
theorem dX7_wind_19 : decode cX7_wind 19 = .ok (.invokestatic 34, 3) := by decide +kernel
theorem dX7_wind_22 : decode cX7_wind 22 = .ok (.aload_n 0, 1) := by decide +kernel
theorem dX7_wind_23 : decode cX7_wind 23 = .ok (.getfield 17, 3) := by decide +kernel
theorem dX7_wind_26 : decode cX7_wind 26 = .ok (.getfield 72, 3) := by decide +kernel
theorem dX7_wind_29 : decode cX7_wind 29 = .ok (.invokevirtual 76, 3) := by decide +kernel
theorem dX7_wind_32 : decode cX7_wind 32 = .ok (.bipush 12, 2) := by decide +kernel
theorem dX7_wind_34 : decode cX7_wind 34 = .ok (.if_icmp .lt 13, 3) := by decide +kernel
theorem dX7_wind_37 : decode cX7_wind 37 = .ok (.new 58, 3) := by decide +kernel
theorem dX7_wind_40 : decode cX7_wind 40 = .ok (.dup, 1) := by decide +kernel
theorem dX7_wind_41 : decode cX7_wind 41 = .ok (.ldc 81, 2) := by decide +kernel
theorem dX7_wind_43 : decode cX7_wind 43 = .ok (.invokespecial 62, 3) := by decide +kernel
theorem dX7_wind_46 : decode cX7_wind 46 = .ok (.athrow, 1) := by decide +kernel
theorem dX7_wind_47 : decode cX7_wind 47 = .ok (.aload_n 0, 1) := by decide +kernel
theorem dX7_wind_48 : decode cX7_wind 48 = .ok (.getfield 17, 3) := by decide +kernel
theorem dX7_wind_51 : decode cX7_wind 51 = .ok (.getfield 72, 3) := by decide +kernel
theorem dX7_wind_54 : decode cX7_wind 54 = .ok (.new 83, 3) := by decide +kernel
theorem dX7_wind_57 : decode cX7_wind 57 = .ok (.dup, 1) := by decide +kernel
theorem dX7_wind_58 : decode cX7_wind 58 = .ok (.iload_n 1, 1) := by decide +kernel
theorem dX7_wind_59 : decode cX7_wind 59 = .ok (.iload_n 2, 1) := by decide +kernel
theorem dX7_wind_60 : decode cX7_wind 60 = .ok (.iload_n 3, 1) := by decide +kernel
theorem dX7_wind_61 : decode cX7_wind 61 = .ok (.invokespecial 85, 3) := by decide +kernel
theorem dX7_wind_64 : decode cX7_wind 64 = .ok (.invokevirtual 87, 3) := by decide +kernel
theorem dX7_wind_67 : decode cX7_wind 67 = .ok (.pop, 1) := by decide +kernel
theorem dX7_wind_68 : decode cX7_wind 68 = .ok (.aload_n 0, 1) := by decide +kernel
theorem dX7_wind_69 : decode cX7_wind 69 = .ok (.getfield 17, 3) := by decide +kernel
theorem dX7_wind_72 : decode cX7_wind 72 = .ok (.getfield 72, 3) := by decide +kernel
theorem dX7_wind_75 : decode cX7_wind 75 = .ok (.invokevirtual 76, 3) := by decide +kernel
theorem dX7_wind_78 : decode cX7_wind 78 = .ok (.ireturn, 1) := by decide +kernel
theorem dX7_zone_0 : decode cX7_zone 0 = .ok (.aload_n 0, 1) := by decide +kernel
theorem dX7_zone_1 : decode cX7_zone 1 = .ok (.iload_n 1, 1) := by decide +kernel
theorem dX7_zone_2 : decode cX7_zone 2 = .ok (.invokevirtual 50, 3) := by decide +kernel
theorem dX7_zone_5 : decode cX7_zone 5 = .ok (.aload_n 0, 1) := by decide +kernel
theorem dX7_zone_6 : decode cX7_zone 6 = .ok (.getfield 17, 3) := by decide +kernel
theorem dX7_zone_9 : decode cX7_zone 9 = .ok (.getfield 42, 3) := by decide +kernel
theorem dX7_zone_12 : decode cX7_zone 12 = .ok (.iload_n 1, 1) := by decide +kernel
theorem dX7_zone_13 : decode cX7_zone 13 = .ok (.invokevirtual 91, 3) := by decide +kernel
theorem dX7_zone_16 : decode cX7_zone 16 = .ok (.istore 6, 2) := by decide +kernel
theorem dX7_zone_18 : decode cX7_zone 18 = .ok (.aload_n 0, 1) := by decide +kernel
theorem dX7_zone_19 : decode cX7_zone 19 = .ok (.getfield 17, 3) := by decide +kernel
theorem dX7_zone_22 : decode cX7_zone 22 = .ok (.getfield 42, 3) := by decide +kernel
theorem dX7_zone_25 : decode cX7_zone 25 = .ok (.iload_n 1, 1) := by decide +kernel
theorem dX7_zone_26 : decode cX7_zone 26 = .ok (.invokevirtual 94, 3) := by decide +kernel
theorem dX7_zone_29 : decode cX7_zone 29 = .ok (.istore 7, 2) := by decide +kernel
theorem dX7_zone_31 : decode cX7_zone 31 = .ok (.iload_n 2, 1) := by decide +kernel
theorem dX7_zone_32 : decode cX7_zone 32 = .ok (.iconst 1, 1) := by decide +kernel
theorem dX7_zone_33 : decode cX7_zone 33 = .ok (.aload_n 0, 1) := by decide +kernel
theorem dX7_zone_34 : decode cX7_zone 34 = .ok (.getfield 17, 3) := by decide +kernel
theorem dX7_zone_37 : decode cX7_zone 37 = .ok (.getfield 42, 3) := by decide +kernel
theorem dX7_zone_40 : decode cX7_zone 40 = .ok (.getfield 97, 3) := by decide +kernel
theorem dX7_zone_43 : decode cX7_zone 43 = .ok (.iload 7, 2) := by decide +kernel
theorem dX7_zone_45 : decode cX7_zone 45 = .ok (.isub, 1) := by decide +kernel
theorem dX7_zone_46 : decode cX7_zone 46 = .ok (.invokestatic 34, 3) := by decide +kernel
theorem dX7_zone_49 : decode cX7_zone 49 = .ok (.iload_n 3, 1) := by decide +kernel
theorem dX7_zone_50 : decode cX7_zone 50 = .ok (.iconst 1, 1) := by decide +kernel
theorem dX7_zone_51 : decode cX7_zone 51 = .ok (.aload_n 0, 1) := by decide +kernel
theorem dX7_zone_52 : decode cX7_zone 52 = .ok (.getfield 17, 3) := by decide +kernel
theorem dX7_zone_55 : decode cX7_zone 55 = .ok (.getfield 42, 3) := by decide +kernel
theorem dX7_zone_58 : decode cX7_zone 58 = .ok (.getfield 100, 3) := by decide +kernel
theorem dX7_zone_61 : decode cX7_zone 61 = .ok (.iload 6, 2) := by decide +kernel
theorem dX7_zone_63 : decode cX7_zone 63 = .ok (.isub, 1) := by decide +kernel
theorem dX7_zone_64 : decode cX7_zone 64 = .ok (.invokestatic 34, 3) := by decide +kernel
theorem dX7_zone_67 : decode cX7_zone 67 = .ok (.iload 4, 2) := by decide +kernel
theorem dX7_zone_69 : decode cX7_zone 69 = .ok (.iconst 0, 1) := by decide +kernel
theorem dX7_zone_70 : decode cX7_zone 70 = .ok (.bipush 23, 2) := by decide +kernel
theorem dX7_zone_72 : decode cX7_zone 72 = .ok (.invokestatic 34, 3) := by decide +kernel
theorem dX7_zone_75 : decode cX7_zone 75 = .ok (.iload 5, 2) := by decide +kernel
theorem dX7_zone_77 : decode cX7_zone 77 = .ok (.iconst 0, 1) := by decide +kernel
theorem dX7_zone_78 : decode cX7_zone 78 = .ok (.bipush 23, 2) := by decide +kernel
theorem dX7_zone_80 : decode cX7_zone 80 = .ok (.invokestatic 34, 3) := by decide +kernel
theorem dX7_zone_83 : decode cX7_zone 83 = .ok (.aload_n 0, 1) := by decide +kernel
theorem dX7_zone_84 : decode cX7_zone 84 = .ok (.getfield 17, 3) := by decide +kernel
theorem dX7_zone_87 : decode cX7_zone 87 = .ok (.getfield 103, 3) := by decide +kernel
theorem dX7_zone_90 : decode cX7_zone 90 = .ok (.invokevirtual 76, 3) := by decide +kernel
theorem dX7_zone_93 : decode cX7_zone 93 = .ok (.iconst 4, 1) := by decide +kernel
theorem dX7_zone_94 : decode cX7_zone 94 = .ok (.if_icmp .lt 13, 3) := by decide +kernel
theorem dX7_zone_97 : decode cX7_zone 97 = .ok (.new 58, 3) := by decide +kernel
theorem dX7_zone_100 : decode cX7_zone 100 = .ok (.dup, 1) := by decide +kernel
theorem dX7_zone_101 : decode cX7_zone 101 = .ok (.ldc 106, 2) := by decide +kernel
theorem dX7_zone_103 : decode cX7_zone 103 = .ok (.invokespecial 62, 3) := by decide +kernel
theorem dX7_zone_106 : decode cX7_zone 106 = .ok (.athrow, 1) := by decide +kernel
theorem dX7_zone_107 : decode cX7_zone 107 = .ok (.aload_n 0, 1) := by decide +kernel
theorem dX7_zone_108 : decode cX7_zone 108 = .ok (.getfield 17, 3) := by decide +kernel
theorem dX7_zone_111 : decode cX7_zone 111 = .ok (.getfield 103, 3) := by decide +kernel
theorem dX7_zone_114 : decode cX7_zone 114 = .ok (.new 108, 3) := by decide +kernel
theorem dX7_zone_117 : decode cX7_zone 117 = .ok (.dup, 1) := by decide +kernel
theorem dX7_zone_118 : decode cX7_zone 118 = .ok (.iload 6, 2) := by decide +kernel
theorem dX7_zone_120 : decode cX7_zone 120 = .ok (.iload 7, 2) := by decide +kernel
theorem dX7_zone_122 : decode cX7_zone 122 = .ok (.iload 6, 2) := by decide +kernel
theorem dX7_zone_124 : decode cX7_zone 124 = .ok (.iload_n 3, 1) := by decide +kernel
theorem dX7_zone_125 : decode cX7_zone 125 = .ok (.iadd, 1) := by decide +kernel
theorem dX7_zone_126 : decode cX7_zone 126 = .ok (.iconst 1, 1) := by decide +kernel
theorem dX7_zone_127 : decode cX7_zone 127 = .ok (.isub, 1) := by decide +kernel
theorem dX7_zone_128 : decode cX7_zone 128 = .ok (.iload 7, 2) := by decide +kernel
theorem dX7_zone_130 : decode cX7_zone 130 = .ok (.iload_n 2, 1) := by decide +kernel
theorem dX7_zone_131 : decode cX7_zone 131 = .ok (.iadd, 1) := by decide +kernel
theorem dX7_zone_132 : decode cX7_zone 132 = .ok (.iconst 1, 1) := by decide +kernel
theorem dX7_zone_133 : decode cX7_zone 133 = .ok (.isub, 1) := by decide +kernel
theorem dX7_zone_134 : decode cX7_zone 134 = .ok (.iload 4, 2) := by decide +kernel
theorem dX7_zone_136 : decode cX7_zone 136 = .ok (.iload 5, 2) := by decide +kernel
theorem dX7_zone_138 : decode cX7_zone 138 = .ok (.invokespecial 110, 3) := by decide +kernel
theorem dX7_zone_141 : decode cX7_zone 141 = .ok (.invokevirtual 87, 3) := by decide +kernel
theorem dX7_zone_144 : decode cX7_zone 144 = .ok (.pop, 1) := by decide +kernel
theorem dX7_zone_145 : decode cX7_zone 145 = .ok (.aload_n 0, 1) := by decide +kernel
theorem dX7_zone_146 : decode cX7_zone 146 = .ok (.getfield 17, 3) := by decide +kernel
theorem dX7_zone_149 : decode cX7_zone 149 = .ok (.getfield 103, 3) := by decide +kernel
theorem dX7_zone_152 : decode cX7_zone 152 = .ok (.invokevirtual 76, 3) := by decide +kernel
theorem dX7_zone_155 : decode cX7_zone 155 = .ok (.iconst 1, 1) := by decide +kernel
theorem dX7_zone_156 : decode cX7_zone 156 = .ok (.isub, 1) := by decide +kernel
theorem dX7_zone_157 : decode cX7_zone 157 = .ok (.ireturn, 1) := by decide +kernel
theorem dX7_load_0 : decode cX7_load 0 = .ok (.aload_n 0, 1) := by decide +kernel
theorem dX7_load_1 : decode cX7_load 1 = .ok (.iload_n 1, 1) := by decide +kernel
theorem dX7_load_2 : decode cX7_load 2 = .ok (.invokevirtual 50, 3) := by decide +kernel
theorem dX7_load_5 : decode cX7_load 5 = .ok (.iload_n 2, 1) := by decide +kernel
theorem dX7_load_6 : decode cX7_load 6 = .ok (.iconst 1, 1) := by decide +kernel
theorem dX7_load_7 : decode cX7_load 7 = .ok (.bipush 60, 2) := by decide +kernel
theorem dX7_load_9 : decode cX7_load 9 = .ok (.invokestatic 34, 3) := by decide +kernel
theorem dX7_load_12 : decode cX7_load 12 = .ok (.aload_n 0, 1) := by decide +kernel
theorem dX7_load_13 : decode cX7_load 13 = .ok (.getfield 17, 3) := by decide +kernel
theorem dX7_load_16 : decode cX7_load 16 = .ok (.getfield 113, 3) := by decide +kernel
theorem dX7_load_19 : decode cX7_load 19 = .ok (.invokevirtual 76, 3) := by decide +kernel
theorem dX7_load_22 : decode cX7_load 22 = .ok (.istore_n 3, 1) := by decide +kernel
theorem dX7_load_23 : decode cX7_load 23 = .ok (.iload_n 3, 1) := by decide +kernel
theorem dX7_load_24 : decode cX7_load 24 = .ok (.bipush 8, 2) := by decide +kernel
theorem dX7_load_26 : decode cX7_load 26 = .ok (.if_icmp .ge 15, 3) := by decide +kernel
theorem dX7_load_29 : decode cX7_load 29 = .ok (.aload_n 0, 1) := by decide +kernel
theorem dX7_load_30 : decode cX7_load 30 = .ok (.getfield 17, 3) := by decide +kernel
theorem dX7_load_33 : decode cX7_load 33 = .ok (.iload_n 1, 1) := by decide +kernel
theorem dX7_load_34 : decode cX7_load 34 = .ok (.invokevirtual 116, 3) := by decide +kernel
theorem dX7_load_37 : decode cX7_load 37 = .ok (.iconst (-1), 1) := by decide +kernel
theorem dX7_load_38 : decode cX7_load 38 = .ok (.if_icmp .eq 13, 3) := by decide +kernel
theorem dX7_load_41 : decode cX7_load 41 = .ok (.new 58, 3) := by decide +kernel
theorem dX7_load_44 : decode cX7_load 44 = .ok (.dup, 1) := by decide +kernel
theorem dX7_load_45 : decode cX7_load 45 = .ok (.ldc 119, 2) := by decide +kernel
theorem dX7_load_47 : decode cX7_load 47 = .ok (.invokespecial 62, 3) := by decide +kernel
theorem dX7_load_50 : decode cX7_load 50 = .ok (.athrow, 1) := by decide +kernel
theorem dX7_load_51 : decode cX7_load 51 = .ok (.aload_n 0, 1) := by decide +kernel
theorem dX7_load_52 : decode cX7_load 52 = .ok (.getfield 17, 3) := by decide +kernel
theorem dX7_load_55 : decode cX7_load 55 = .ok (.getfield 113, 3) := by decide +kernel
theorem dX7_load_58 : decode cX7_load 58 = .ok (.new 121, 3) := by decide +kernel
theorem dX7_load_61 : decode cX7_load 61 = .ok (.dup, 1) := by decide +kernel
theorem dX7_load_62 : decode cX7_load 62 = .ok (.iload_n 3, 1) := by decide +kernel
theorem dX7_load_63 : decode cX7_load 63 = .ok (.iload_n 1, 1) := by decide +kernel
theorem dX7_load_64 : decode cX7_load 64 = .ok (.iload_n 2, 1) := by decide +kernel
theorem dX7_load_65 : decode cX7_load 65 = .ok (.invokespecial 123, 3) := by decide +kernel
theorem dX7_load_68 : decode cX7_load 68 = .ok (.invokevirtual 87, 3) := by decide +kernel
theorem dX7_load_71 : decode cX7_load 71 = .ok (.pop, 1) := by decide +kernel
theorem dX7_load_72 : decode cX7_load 72 = .ok (.iload_n 3, 1) := by decide +kernel
theorem dX7_load_73 : decode cX7_load 73 = .ok (.ireturn, 1) := by decide +kernel
theorem dX7_crane_0 : decode cX7_crane 0 = .ok (.aload_n 0, 1) := by decide +kernel
theorem dX7_crane_1 : decode cX7_crane 1 = .ok (.iload_n 1, 1) := by decide +kernel
theorem dX7_crane_2 : decode cX7_crane 2 = .ok (.invokevirtual 50, 3) := by decide +kernel
theorem dX7_crane_5 : decode cX7_crane 5 = .ok (.iload_n 2, 1) := by decide +kernel
theorem dX7_crane_6 : decode cX7_crane 6 = .ok (.iconst 3, 1) := by decide +kernel
theorem dX7_crane_7 : decode cX7_crane 7 = .ok (.bipush 30, 2) := by decide +kernel
theorem dX7_crane_9 : decode cX7_crane 9 = .ok (.invokestatic 34, 3) := by decide +kernel
theorem dX7_crane_12 : decode cX7_crane 12 = .ok (.iload_n 3, 1) := by decide +kernel
theorem dX7_crane_13 : decode cX7_crane 13 = .ok (.iconst 2, 1) := by decide +kernel
theorem dX7_crane_14 : decode cX7_crane 14 = .ok (.bipush 9, 2) := by decide +kernel
theorem dX7_crane_16 : decode cX7_crane 16 = .ok (.invokestatic 34, 3) := by decide +kernel
theorem dX7_crane_19 : decode cX7_crane 19 = .ok (.iload 4, 2) := by decide +kernel
theorem dX7_crane_21 : decode cX7_crane 21 = .ok (.iconst 5, 1) := by decide +kernel
theorem dX7_crane_22 : decode cX7_crane 22 = .ok (.sipush 400, 3) := by decide +kernel
theorem dX7_crane_25 : decode cX7_crane 25 = .ok (.invokestatic 34, 3) := by decide +kernel
theorem dX7_crane_28 : decode cX7_crane 28 = .ok (.iload 5, 2) := by decide +kernel
theorem dX7_crane_30 : decode cX7_crane 30 = .ok (.iconst 0, 1) := by decide +kernel
theorem dX7_crane_31 : decode cX7_crane 31 = .ok (.bipush 7, 2) := by decide +kernel
theorem dX7_crane_33 : decode cX7_crane 33 = .ok (.invokestatic 34, 3) := by decide +kernel
theorem dX7_crane_36 : decode cX7_crane 36 = .ok (.aload_n 0, 1) := by decide +kernel
theorem dX7_crane_37 : decode cX7_crane 37 = .ok (.getfield 17, 3) := by decide +kernel
theorem dX7_crane_40 : decode cX7_crane 40 = .ok (.getfield 124, 3) := by decide +kernel
theorem dX7_crane_43 : decode cX7_crane 43 = .ok (.invokevirtual 76, 3) := by decide +kernel
theorem dX7_crane_46 : decode cX7_crane 46 = .ok (.istore 6, 2) := by decide +kernel
theorem dX7_crane_48 : decode cX7_crane 48 = .ok (.iload 6, 2) := by decide +kernel
theorem dX7_crane_50 : decode cX7_crane 50 = .ok (.iconst 4, 1) := by decide +kernel
theorem dX7_crane_51 : decode cX7_crane 51 = .ok (.if_icmp .ge 14, 3) := by decide +kernel
theorem dX7_crane_54 : decode cX7_crane 54 = .ok (.aload_n 0, 1) := by decide +kernel
theorem dX7_crane_55 : decode cX7_crane 55 = .ok (.getfield 17, 3) := by decide +kernel
theorem dX7_crane_58 : decode cX7_crane 58 = .ok (.iload_n 1, 1) := by decide +kernel
theorem dX7_crane_59 : decode cX7_crane 59 = .ok (.invokevirtual 127, 3) := by decide +kernel
theorem dX7_crane_62 : decode cX7_crane 62 = .ok (.ifCond .ne 13, 3) := by decide +kernel
theorem dX7_crane_65 : decode cX7_crane 65 = .ok (.new 58, 3) := by decide +kernel
theorem dX7_crane_68 : decode cX7_crane 68 = .ok (.dup, 1) := by decide +kernel
theorem dX7_crane_69 : decode cX7_crane 69 = .ok (.ldc 131, 2) := by decide +kernel
theorem dX7_crane_71 : decode cX7_crane 71 = .ok (.invokespecial 62, 3) := by decide +kernel
theorem dX7_crane_74 : decode cX7_crane 74 = .ok (.athrow, 1) := by decide +kernel
theorem dX7_crane_75 : decode cX7_crane 75 = .ok (.new 133, 3) := by decide +kernel
theorem dX7_crane_78 : decode cX7_crane 78 = .ok (.dup, 1) := by decide +kernel
theorem dX7_crane_79 : decode cX7_crane 79 = .ok (.aload_n 0, 1) := by decide +kernel
theorem dX7_crane_80 : decode cX7_crane 80 = .ok (.getfield 17, 3) := by decide +kernel
theorem dX7_crane_83 : decode cX7_crane 83 = .ok (.getfield 42, 3) := by decide +kernel
theorem dX7_crane_86 : decode cX7_crane 86 = .ok (.iload 6, 2) := by decide +kernel
theorem dX7_crane_88 : decode cX7_crane 88 = .ok (.iload_n 1, 1) := by decide +kernel
theorem dX7_crane_89 : decode cX7_crane 89 = .ok (.iload_n 2, 1) := by decide +kernel
theorem dX7_crane_90 : decode cX7_crane 90 = .ok (.iload_n 3, 1) := by decide +kernel
theorem dX7_crane_91 : decode cX7_crane 91 = .ok (.iload 4, 2) := by decide +kernel
theorem dX7_crane_93 : decode cX7_crane 93 = .ok (.invokespecial 135, 3) := by decide +kernel
theorem dX7_crane_96 : decode cX7_crane 96 = .ok (.astore 7, 2) := by decide +kernel
theorem dX7_crane_98 : decode cX7_crane 98 = .ok (.aload 7, 2) := by decide +kernel
theorem dX7_crane_100 : decode cX7_crane 100 = .ok (.iload 5, 2) := by decide +kernel
theorem dX7_crane_102 : decode cX7_crane 102 = .ok (.invokevirtual 138, 3) := by decide +kernel
theorem dX7_crane_105 : decode cX7_crane 105 = .ok (.aload_n 0, 1) := by decide +kernel
theorem dX7_crane_106 : decode cX7_crane 106 = .ok (.getfield 17, 3) := by decide +kernel
theorem dX7_crane_109 : decode cX7_crane 109 = .ok (.aload 7, 2) := by decide +kernel
theorem dX7_crane_111 : decode cX7_crane 111 = .ok (.iconst 0, 1) := by decide +kernel
theorem dX7_crane_112 : decode cX7_crane 112 = .ok (.iconst 0, 1) := by decide +kernel
theorem dX7_crane_113 : decode cX7_crane 113 = .ok (.invokevirtual 141, 3) := by decide +kernel
theorem dX7_crane_116 : decode cX7_crane 116 = .ok (.ifCond .eq 13, 3) := by decide +kernel
theorem dX7_crane_119 : decode cX7_crane 119 = .ok (.new 58, 3) := by decide +kernel
theorem dX7_crane_122 : decode cX7_crane 122 = .ok (.dup, 1) := by decide +kernel
theorem dX7_crane_123 : decode cX7_crane 123 = .ok (.ldc 145, 2) := by decide +kernel
theorem dX7_crane_125 : decode cX7_crane 125 = .ok (.invokespecial 62, 3) := by decide +kernel
theorem dX7_crane_128 : decode cX7_crane 128 = .ok (.athrow, 1) := by decide +kernel
theorem dX7_crane_129 : decode cX7_crane 129 = .ok (.aload_n 0, 1) := by decide +kernel
theorem dX7_crane_130 : decode cX7_crane 130 = .ok (.getfield 17, 3) := by decide +kernel
theorem dX7_crane_133 : decode cX7_crane 133 = .ok (.getfield 124, 3) := by decide +kernel
theorem dX7_crane_136 : decode cX7_crane 136 = .ok (.aload 7, 2) := by decide +kernel
theorem dX7_crane_138 : decode cX7_crane 138 = .ok (.invokevirtual 87, 3) := by decide +kernel
theorem dX7_crane_141 : decode cX7_crane 141 = .ok (.pop, 1) := by decide +kernel
theorem dX7_crane_142 : decode cX7_crane 142 = .ok (.iload 6, 2) := by decide +kernel
theorem dX7_crane_144 : decode cX7_crane 144 = .ok (.ireturn, 1) := by decide +kernel
theorem dX7_step_0 : decode cX7_step 0 = .ok (.aload_n 0, 1) := by decide +kernel
theorem dX7_step_1 : decode cX7_step 1 = .ok (.iload_n 1, 1) := by decide +kernel
theorem dX7_step_2 : decode cX7_step 2 = .ok (.invokevirtual 147, 3) := by decide +kernel
theorem dX7_step_5 : decode cX7_step 5 = .ok (.astore_n 3, 1) := by decide +kernel
theorem dX7_step_6 : decode cX7_step 6 = .ok (.iload_n 2, 1) := by decide +kernel
theorem dX7_step_7 : decode cX7_step 7 = .ok (.iconst 0, 1) := by decide +kernel
theorem dX7_step_8 : decode cX7_step 8 = .ok (.bipush 6, 2) := by decide +kernel
theorem dX7_step_10 : decode cX7_step 10 = .ok (.invokestatic 34, 3) := by decide +kernel
theorem dX7_step_13 : decode cX7_step 13 = .ok (.aload_n 0, 1) := by decide +kernel
theorem dX7_step_14 : decode cX7_step 14 = .ok (.getfield 17, 3) := by decide +kernel
theorem dX7_step_17 : decode cX7_step 17 = .ok (.getfield 151, 3) := by decide +kernel
theorem dX7_step_20 : decode cX7_step 20 = .ok (.sipush 600, 3) := by decide +kernel
theorem dX7_step_23 : decode cX7_step 23 = .ok (.if_icmp .lt 13, 3) := by decide +kernel
theorem dX7_step_26 : decode cX7_step 26 = .ok (.new 58, 3) := by decide +kernel
theorem dX7_step_29 : decode cX7_step 29 = .ok (.dup, 1) := by decide +kernel
theorem dX7_step_30 : decode cX7_step 30 = .ok (.ldc 154, 2) := by decide +kernel
theorem dX7_step_32 : decode cX7_step 32 = .ok (.invokespecial 62, 3) := by decide +kernel
theorem dX7_step_35 : decode cX7_step 35 = .ok (.athrow, 1) := by decide +kernel
theorem dX7_step_36 : decode cX7_step 36 = .ok (.aload_n 0, 1) := by decide +kernel
theorem dX7_step_37 : decode cX7_step 37 = .ok (.getfield 17, 3) := by decide +kernel
theorem dX7_step_40 : decode cX7_step 40 = .ok (.aload_n 3, 1) := by decide +kernel
theorem dX7_step_41 : decode cX7_step 41 = .ok (.iload_n 2, 1) := by decide +kernel
theorem dX7_step_42 : decode cX7_step 42 = .ok (.invokevirtual 156, 3) := by decide +kernel
theorem dX7_step_45 : decode cX7_step 45 = .ok (.istore 4, 2) := by decide +kernel
theorem dX7_step_47 : decode cX7_step 47 = .ok (.iload 4, 2) := by decide +kernel
theorem dX7_step_49 : decode cX7_step 49 = .ok (.ifCond .ne 15, 3) := by decide +kernel
theorem dX7_step_52 : decode cX7_step 52 = .ok (.aload_n 0, 1) := by decide +kernel
theorem dX7_step_53 : decode cX7_step 53 = .ok (.getfield 17, 3) := by decide +kernel
theorem dX7_step_56 : decode cX7_step 56 = .ok (.aload_n 3, 1) := by decide +kernel
theorem dX7_step_57 : decode cX7_step 57 = .ok (.iload_n 2, 1) := by decide +kernel
theorem dX7_step_58 : decode cX7_step 58 = .ok (.invokevirtual 160, 3) := by decide +kernel
theorem dX7_step_61 : decode cX7_step 61 = .ok (.goto 16, 3) := by decide +kernel
theorem dX7_step_64 : decode cX7_step 64 = .ok (.aload_n 0, 1) := by decide +kernel
theorem dX7_step_65 : decode cX7_step 65 = .ok (.getfield 17, 3) := by decide +kernel
theorem dX7_step_68 : decode cX7_step 68 = .ok (.dup, 1) := by decide +kernel
theorem dX7_step_69 : decode cX7_step 69 = .ok (.getfield 164, 3) := by decide +kernel
theorem dX7_step_72 : decode cX7_step 72 = .ok (.iconst 1, 1) := by decide +kernel
theorem dX7_step_73 : decode cX7_step 73 = .ok (.iadd, 1) := by decide +kernel
theorem dX7_step_74 : decode cX7_step 74 = .ok (.putfield 164, 3) := by decide +kernel
theorem dX7_step_77 : decode cX7_step 77 = .ok (.iload 4, 2) := by decide +kernel
theorem dX7_step_79 : decode cX7_step 79 = .ok (.ireturn, 1) := by decide +kernel
theorem dX7_hang_0 : decode cX7_hang 0 = .ok (.aload_n 0, 1) := by decide +kernel
theorem dX7_hang_1 : decode cX7_hang 1 = .ok (.iload_n 1, 1) := by decide +kernel
theorem dX7_hang_2 : decode cX7_hang 2 = .ok (.invokevirtual 147, 3) := by decide +kernel
theorem dX7_hang_5 : decode cX7_hang 5 = .ok (.astore_n 2, 1) := by decide +kernel
theorem dX7_hang_6 : decode cX7_hang 6 = .ok (.aload_n 0, 1) := by decide +kernel
theorem dX7_hang_7 : decode cX7_hang 7 = .ok (.getfield 17, 3) := by decide +kernel
theorem dX7_hang_10 : decode cX7_hang 10 = .ok (.aload_n 2, 1) := by decide +kernel
theorem dX7_hang_11 : decode cX7_hang 11 = .ok (.invokevirtual 167, 3) := by decide +kernel
theorem dX7_hang_14 : decode cX7_hang 14 = .ok (.invokevirtual 170, 3) := by decide +kernel
theorem dX7_hang_17 : decode cX7_hang 17 = .ok (.astore_n 3, 1) := by decide +kernel
theorem dX7_hang_18 : decode cX7_hang 18 = .ok (.aload_n 3, 1) := by decide +kernel
theorem dX7_hang_19 : decode cX7_hang 19 = .ok (.ifnull 36, 3) := by decide +kernel
theorem dX7_hang_22 : decode cX7_hang 22 = .ok (.aload_n 2, 1) := by decide +kernel
theorem dX7_hang_23 : decode cX7_hang 23 = .ok (.getfield 174, 3) := by decide +kernel
theorem dX7_hang_26 : decode cX7_hang 26 = .ok (.ifnonnull 29, 3) := by decide +kernel
theorem dX7_hang_29 : decode cX7_hang 29 = .ok (.aload_n 2, 1) := by decide +kernel
theorem dX7_hang_30 : decode cX7_hang 30 = .ok (.invokevirtual 178, 3) := by decide +kernel
theorem dX7_hang_33 : decode cX7_hang 33 = .ok (.ifCond .eq 22, 3) := by decide +kernel
theorem dX7_hang_36 : decode cX7_hang 36 = .ok (.aload_n 3, 1) := by decide +kernel
theorem dX7_hang_37 : decode cX7_hang 37 = .ok (.getfield 182, 3) := by decide +kernel
theorem dX7_hang_40 : decode cX7_hang 40 = .ok (.aload_n 0, 1) := by decide +kernel
theorem dX7_hang_41 : decode cX7_hang 41 = .ok (.getfield 17, 3) := by decide +kernel
theorem dX7_hang_44 : decode cX7_hang 44 = .ok (.aload_n 2, 1) := by decide +kernel
theorem dX7_hang_45 : decode cX7_hang 45 = .ok (.aload_n 2, 1) := by decide +kernel
theorem dX7_hang_46 : decode cX7_hang 46 = .ok (.getfield 185, 3) := by decide +kernel
theorem dX7_hang_49 : decode cX7_hang 49 = .ok (.invokevirtual 188, 3) := by decide +kernel
theorem dX7_hang_52 : decode cX7_hang 52 = .ok (.if_icmp .le 5, 3) := by decide +kernel
theorem dX7_hang_55 : decode cX7_hang 55 = .ok (.iconst (-1), 1) := by decide +kernel
theorem dX7_hang_56 : decode cX7_hang 56 = .ok (.ireturn, 1) := by decide +kernel
theorem dX7_hang_57 : decode cX7_hang 57 = .ok (.aload_n 3, 1) := by decide +kernel
theorem dX7_hang_58 : decode cX7_hang 58 = .ok (.aload_n 2, 1) := by decide +kernel
theorem dX7_hang_59 : decode cX7_hang 59 = .ok (.invokevirtual 191, 3) := by decide +kernel
theorem dX7_hang_62 : decode cX7_hang 62 = .ok (.aload_n 3, 1) := by decide +kernel
theorem dX7_hang_63 : decode cX7_hang 63 = .ok (.getfield 195, 3) := by decide +kernel
theorem dX7_hang_66 : decode cX7_hang 66 = .ok (.ireturn, 1) := by decide +kernel
theorem dX7_set_0 : decode cX7_set 0 = .ok (.aload_n 0, 1) := by decide +kernel
theorem dX7_set_1 : decode cX7_set 1 = .ok (.iload_n 1, 1) := by decide +kernel
theorem dX7_set_2 : decode cX7_set 2 = .ok (.invokevirtual 147, 3) := by decide +kernel
theorem dX7_set_5 : decode cX7_set 5 = .ok (.astore_n 2, 1) := by decide +kernel
theorem dX7_set_6 : decode cX7_set 6 = .ok (.aload_n 2, 1) := by decide +kernel
theorem dX7_set_7 : decode cX7_set 7 = .ok (.getfield 174, 3) := by decide +kernel
theorem dX7_set_10 : decode cX7_set 10 = .ok (.astore_n 3, 1) := by decide +kernel
theorem dX7_set_11 : decode cX7_set 11 = .ok (.aload_n 2, 1) := by decide +kernel
theorem dX7_set_12 : decode cX7_set 12 = .ok (.invokevirtual 167, 3) := by decide +kernel
theorem dX7_set_15 : decode cX7_set 15 = .ok (.istore 4, 2) := by decide +kernel
theorem dX7_set_17 : decode cX7_set 17 = .ok (.aload_n 3, 1) := by decide +kernel
theorem dX7_set_18 : decode cX7_set 18 = .ok (.ifnull 23, 3) := by decide +kernel
theorem dX7_set_21 : decode cX7_set 21 = .ok (.aload_n 2, 1) := by decide +kernel
theorem dX7_set_22 : decode cX7_set 22 = .ok (.invokevirtual 178, 3) := by decide +kernel
theorem dX7_set_25 : decode cX7_set 25 = .ok (.ifCond .eq 16, 3) := by decide +kernel
theorem dX7_set_28 : decode cX7_set 28 = .ok (.aload_n 0, 1) := by decide +kernel
theorem dX7_set_29 : decode cX7_set 29 = .ok (.getfield 17, 3) := by decide +kernel
theorem dX7_set_32 : decode cX7_set 32 = .ok (.iload 4, 2) := by decide +kernel
theorem dX7_set_34 : decode cX7_set 34 = .ok (.invokevirtual 116, 3) := by decide +kernel
theorem dX7_set_37 : decode cX7_set 37 = .ok (.iconst (-1), 1) := by decide +kernel
theorem dX7_set_38 : decode cX7_set 38 = .ok (.if_icmp .eq 5, 3) := by decide +kernel
theorem dX7_set_41 : decode cX7_set 41 = .ok (.iconst (-1), 1) := by decide +kernel
theorem dX7_set_42 : decode cX7_set 42 = .ok (.ireturn, 1) := by decide +kernel
theorem dX7_set_43 : decode cX7_set 43 = .ok (.aload_n 2, 1) := by decide +kernel
theorem dX7_set_44 : decode cX7_set 44 = .ok (.aconst_null, 1) := by decide +kernel
theorem dX7_set_45 : decode cX7_set 45 = .ok (.putfield 174, 3) := by decide +kernel
theorem dX7_set_48 : decode cX7_set 48 = .ok (.aload_n 3, 1) := by decide +kernel
theorem dX7_set_49 : decode cX7_set 49 = .ok (.iload 4, 2) := by decide +kernel
theorem dX7_set_51 : decode cX7_set 51 = .ok (.invokevirtual 198, 3) := by decide +kernel
theorem dX7_set_54 : decode cX7_set 54 = .ok (.aload_n 3, 1) := by decide +kernel
theorem dX7_set_55 : decode cX7_set 55 = .ok (.getfield 195, 3) := by decide +kernel
theorem dX7_set_58 : decode cX7_set 58 = .ok (.ireturn, 1) := by decide +kernel
theorem dX7_hand_0 : decode cX7_hand 0 = .ok (.aload_n 0, 1) := by decide +kernel
theorem dX7_hand_1 : decode cX7_hand 1 = .ok (.iload_n 1, 1) := by decide +kernel
theorem dX7_hand_2 : decode cX7_hand 2 = .ok (.invokevirtual 147, 3) := by decide +kernel
theorem dX7_hand_5 : decode cX7_hand 5 = .ok (.astore_n 3, 1) := by decide +kernel
theorem dX7_hand_6 : decode cX7_hand 6 = .ok (.aload_n 0, 1) := by decide +kernel
theorem dX7_hand_7 : decode cX7_hand 7 = .ok (.iload_n 2, 1) := by decide +kernel
theorem dX7_hand_8 : decode cX7_hand 8 = .ok (.invokevirtual 147, 3) := by decide +kernel
theorem dX7_hand_11 : decode cX7_hand 11 = .ok (.astore 4, 2) := by decide +kernel
theorem dX7_hand_13 : decode cX7_hand 13 = .ok (.iload_n 1, 1) := by decide +kernel
theorem dX7_hand_14 : decode cX7_hand 14 = .ok (.iload_n 2, 1) := by decide +kernel
theorem dX7_hand_15 : decode cX7_hand 15 = .ok (.if_icmp .ne 13, 3) := by decide +kernel
theorem dX7_hand_18 : decode cX7_hand 18 = .ok (.new 201, 3) := by decide +kernel
theorem dX7_hand_21 : decode cX7_hand 21 = .ok (.dup, 1) := by decide +kernel
theorem dX7_hand_22 : decode cX7_hand 22 = .ok (.ldc 203, 2) := by decide +kernel
theorem dX7_hand_24 : decode cX7_hand 24 = .ok (.invokespecial 205, 3) := by decide +kernel
theorem dX7_hand_27 : decode cX7_hand 27 = .ok (.athrow, 1) := by decide +kernel
theorem dX7_hand_28 : decode cX7_hand 28 = .ok (.aload_n 3, 1) := by decide +kernel
theorem dX7_hand_29 : decode cX7_hand 29 = .ok (.getfield 174, 3) := by decide +kernel
theorem dX7_hand_32 : decode cX7_hand 32 = .ok (.astore 5, 2) := by decide +kernel
theorem dX7_hand_34 : decode cX7_hand 34 = .ok (.aload 5, 2) := by decide +kernel
theorem dX7_hand_36 : decode cX7_hand 36 = .ok (.ifnull 51, 3) := by decide +kernel
theorem dX7_hand_39 : decode cX7_hand 39 = .ok (.aload 4, 2) := by decide +kernel
theorem dX7_hand_41 : decode cX7_hand 41 = .ok (.getfield 174, 3) := by decide +kernel
theorem dX7_hand_44 : decode cX7_hand 44 = .ok (.ifnonnull 43, 3) := by decide +kernel
theorem dX7_hand_47 : decode cX7_hand 47 = .ok (.aload_n 3, 1) := by decide +kernel
theorem dX7_hand_48 : decode cX7_hand 48 = .ok (.aload 4, 2) := by decide +kernel
theorem dX7_hand_50 : decode cX7_hand 50 = .ok (.invokevirtual 206, 3) := by decide +kernel
theorem dX7_hand_53 : decode cX7_hand 53 = .ok (.ifCond .eq 34, 3) := by decide +kernel
theorem dX7_hand_56 : decode cX7_hand 56 = .ok (.aload 5, 2) := by decide +kernel
theorem dX7_hand_58 : decode cX7_hand 58 = .ok (.getfield 182, 3) := by decide +kernel
theorem dX7_hand_61 : decode cX7_hand 61 = .ok (.aload_n 0, 1) := by decide +kernel
theorem dX7_hand_62 : decode cX7_hand 62 = .ok (.getfield 17, 3) := by decide +kernel
theorem dX7_hand_65 : decode cX7_hand 65 = .ok (.aload 4, 2) := by decide +kernel
theorem dX7_hand_67 : decode cX7_hand 67 = .ok (.aload 4, 2) := by decide +kernel
theorem dX7_hand_69 : decode cX7_hand 69 = .ok (.getfield 185, 3) := by decide +kernel
theorem dX7_hand_72 : decode cX7_hand 72 = .ok (.invokevirtual 188, 3) := by decide +kernel
theorem dX7_hand_75 : decode cX7_hand 75 = .ok (.if_icmp .gt 12, 3) := by decide +kernel
theorem dX7_hand_78 : decode cX7_hand 78 = .ok (.aload 4, 2) := by decide +kernel
theorem dX7_hand_80 : decode cX7_hand 80 = .ok (.invokevirtual 210, 3) := by decide +kernel
theorem dX7_hand_83 : decode cX7_hand 83 = .ok (.iconst 2, 1) := by decide +kernel
theorem dX7_hand_84 : decode cX7_hand 84 = .ok (.if_icmp .ge 5, 3) := by decide +kernel
theorem dX7_hand_87 : decode cX7_hand 87 = .ok (.iconst (-1), 1) := by decide +kernel
theorem dX7_hand_88 : decode cX7_hand 88 = .ok (.ireturn, 1) := by decide +kernel
theorem dX7_hand_89 : decode cX7_hand 89 = .ok (.aload_n 3, 1) := by decide +kernel
theorem dX7_hand_90 : decode cX7_hand 90 = .ok (.aconst_null, 1) := by decide +kernel
theorem dX7_hand_91 : decode cX7_hand 91 = .ok (.putfield 174, 3) := by decide +kernel
theorem dX7_hand_94 : decode cX7_hand 94 = .ok (.aload 5, 2) := by decide +kernel
theorem dX7_hand_96 : decode cX7_hand 96 = .ok (.aload 4, 2) := by decide +kernel
theorem dX7_hand_98 : decode cX7_hand 98 = .ok (.invokevirtual 191, 3) := by decide +kernel
theorem dX7_hand_101 : decode cX7_hand 101 = .ok (.aload 5, 2) := by decide +kernel
theorem dX7_hand_103 : decode cX7_hand 103 = .ok (.getfield 195, 3) := by decide +kernel
theorem dX7_hand_106 : decode cX7_hand 106 = .ok (.ireturn, 1) := by decide +kernel
theorem dX7_rest_0 : decode cX7_rest 0 = .ok (.iload_n 1, 1) := by decide +kernel
theorem dX7_rest_1 : decode cX7_rest 1 = .ok (.iconst 1, 1) := by decide +kernel
theorem dX7_rest_2 : decode cX7_rest 2 = .ok (.bipush 100, 2) := by decide +kernel
theorem dX7_rest_4 : decode cX7_rest 4 = .ok (.invokestatic 34, 3) := by decide +kernel
theorem dX7_rest_7 : decode cX7_rest 7 = .ok (.iload_n 1, 1) := by decide +kernel
theorem dX7_rest_8 : decode cX7_rest 8 = .ok (.sipush 600, 3) := by decide +kernel
theorem dX7_rest_11 : decode cX7_rest 11 = .ok (.aload_n 0, 1) := by decide +kernel
theorem dX7_rest_12 : decode cX7_rest 12 = .ok (.getfield 17, 3) := by decide +kernel
theorem dX7_rest_15 : decode cX7_rest 15 = .ok (.getfield 151, 3) := by decide +kernel
theorem dX7_rest_18 : decode cX7_rest 18 = .ok (.isub, 1) := by decide +kernel
theorem dX7_rest_19 : decode cX7_rest 19 = .ok (.if_icmp .le 13, 3) := by decide +kernel
theorem dX7_rest_22 : decode cX7_rest 22 = .ok (.new 58, 3) := by decide +kernel
theorem dX7_rest_25 : decode cX7_rest 25 = .ok (.dup, 1) := by decide +kernel
theorem dX7_rest_26 : decode cX7_rest 26 = .ok (.ldc 213, 2) := by decide +kernel
theorem dX7_rest_28 : decode cX7_rest 28 = .ok (.invokespecial 62, 3) := by decide +kernel
theorem dX7_rest_31 : decode cX7_rest 31 = .ok (.athrow, 1) := by decide +kernel
theorem dX7_rest_32 : decode cX7_rest 32 = .ok (.aload_n 0, 1) := by decide +kernel
theorem dX7_rest_33 : decode cX7_rest 33 = .ok (.getfield 17, 3) := by decide +kernel
theorem dX7_rest_36 : decode cX7_rest 36 = .ok (.iload_n 1, 1) := by decide +kernel
theorem dX7_rest_37 : decode cX7_rest 37 = .ok (.invokevirtual 215, 3) := by decide +kernel
theorem dX7_rest_40 : decode cX7_rest 40 = .ok (.aload_n 0, 1) := by decide +kernel
theorem dX7_rest_41 : decode cX7_rest 41 = .ok (.getfield 17, 3) := by decide +kernel
theorem dX7_rest_44 : decode cX7_rest 44 = .ok (.invokevirtual 218, 3) := by decide +kernel
theorem dX7_rest_47 : decode cX7_rest 47 = .ok (.bipush 8, 2) := by decide +kernel
theorem dX7_rest_49 : decode cX7_rest 49 = .ok (.if_icmp .lt 13, 3) := by decide +kernel
theorem dX7_rest_52 : decode cX7_rest 52 = .ok (.aload_n 0, 1) := by decide +kernel
theorem dX7_rest_53 : decode cX7_rest 53 = .ok (.getfield 17, 3) := by decide +kernel
theorem dX7_rest_56 : decode cX7_rest 56 = .ok (.invokevirtual 221, 3) := by decide +kernel
theorem dX7_rest_59 : decode cX7_rest 59 = .ok (.goto 4, 3) := by decide +kernel
theorem dX7_rest_62 : decode cX7_rest 62 = .ok (.iconst 0, 1) := by decide +kernel
theorem dX7_rest_63 : decode cX7_rest 63 = .ok (.ireturn, 1) := by decide +kernel
theorem dX7_ofCrane_0 : decode cX7_ofCrane 0 = .ok (.aload_n 0, 1) := by decide +kernel
theorem dX7_ofCrane_1 : decode cX7_ofCrane 1 = .ok (.iload_n 1, 1) := by decide +kernel
theorem dX7_ofCrane_2 : decode cX7_ofCrane 2 = .ok (.invokevirtual 147, 3) := by decide +kernel
theorem dX7_ofCrane_5 : decode cX7_ofCrane 5 = .ok (.astore_n 3, 1) := by decide +kernel
theorem dX7_ofCrane_6 : decode cX7_ofCrane 6 = .ok (.iload_n 2, 1) := by decide +kernel
theorem dX7_ofCrane_7 : decode cX7_ofCrane 7 = .ok (.iconst 0, 1) := by decide +kernel
theorem dX7_ofCrane_8 : decode cX7_ofCrane 8 = .ok (.bipush 14, 2) := by decide +kernel
theorem dX7_ofCrane_10 : decode cX7_ofCrane 10 = .ok (.invokestatic 34, 3) := by decide +kernel
theorem dX7_ofCrane_13 : decode cX7_ofCrane 13 = .ok (.iload_n 2, 1) := by decide +kernel
theorem dX7_ofCrane_14 : decode cX7_ofCrane 14 = .ok (.tableswitch 168 0 13 #[70, 75, 80, 85, 90, 95, 100, 105, 110, 115, 134, 139, 152, 159], 70) := by decide +kernel
theorem dX7_ofCrane_84 : decode cX7_ofCrane 84 = .ok (.aload_n 3, 1) := by decide +kernel
theorem dX7_ofCrane_85 : decode cX7_ofCrane 85 = .ok (.getfield 224, 3) := by decide +kernel
theorem dX7_ofCrane_88 : decode cX7_ofCrane 88 = .ok (.ireturn, 1) := by decide +kernel
theorem dX7_ofCrane_89 : decode cX7_ofCrane 89 = .ok (.aload_n 3, 1) := by decide +kernel
theorem dX7_ofCrane_90 : decode cX7_ofCrane 90 = .ok (.getfield 227, 3) := by decide +kernel
theorem dX7_ofCrane_93 : decode cX7_ofCrane 93 = .ok (.ireturn, 1) := by decide +kernel
theorem dX7_ofCrane_94 : decode cX7_ofCrane 94 = .ok (.aload_n 3, 1) := by decide +kernel
theorem dX7_ofCrane_95 : decode cX7_ofCrane 95 = .ok (.getfield 230, 3) := by decide +kernel
theorem dX7_ofCrane_98 : decode cX7_ofCrane 98 = .ok (.ireturn, 1) := by decide +kernel
theorem dX7_ofCrane_99 : decode cX7_ofCrane 99 = .ok (.aload_n 3, 1) := by decide +kernel
theorem dX7_ofCrane_100 : decode cX7_ofCrane 100 = .ok (.getfield 233, 3) := by decide +kernel
theorem dX7_ofCrane_103 : decode cX7_ofCrane 103 = .ok (.ireturn, 1) := by decide +kernel
theorem dX7_ofCrane_104 : decode cX7_ofCrane 104 = .ok (.aload_n 3, 1) := by decide +kernel
theorem dX7_ofCrane_105 : decode cX7_ofCrane 105 = .ok (.getfield 236, 3) := by decide +kernel
theorem dX7_ofCrane_108 : decode cX7_ofCrane 108 = .ok (.ireturn, 1) := by decide +kernel
theorem dX7_ofCrane_109 : decode cX7_ofCrane 109 = .ok (.aload_n 3, 1) := by decide +kernel
theorem dX7_ofCrane_110 : decode cX7_ofCrane 110 = .ok (.getfield 185, 3) := by decide +kernel
theorem dX7_ofCrane_113 : decode cX7_ofCrane 113 = .ok (.ireturn, 1) := by decide +kernel
theorem dX7_ofCrane_114 : decode cX7_ofCrane 114 = .ok (.aload_n 3, 1) := by decide +kernel
theorem dX7_ofCrane_115 : decode cX7_ofCrane 115 = .ok (.getfield 239, 3) := by decide +kernel
theorem dX7_ofCrane_118 : decode cX7_ofCrane 118 = .ok (.ireturn, 1) := by decide +kernel
theorem dX7_ofCrane_119 : decode cX7_ofCrane 119 = .ok (.aload_n 3, 1) := by decide +kernel
theorem dX7_ofCrane_120 : decode cX7_ofCrane 120 = .ok (.getfield 242, 3) := by decide +kernel
theorem dX7_ofCrane_123 : decode cX7_ofCrane 123 = .ok (.ireturn, 1) := by decide +kernel
theorem dX7_ofCrane_124 : decode cX7_ofCrane 124 = .ok (.aload_n 3, 1) := by decide +kernel
theorem dX7_ofCrane_125 : decode cX7_ofCrane 125 = .ok (.getfield 245, 3) := by decide +kernel
theorem dX7_ofCrane_128 : decode cX7_ofCrane 128 = .ok (.ireturn, 1) := by decide +kernel
theorem dX7_ofCrane_129 : decode cX7_ofCrane 129 = .ok (.aload_n 3, 1) := by decide +kernel
theorem dX7_ofCrane_130 : decode cX7_ofCrane 130 = .ok (.getfield 174, 3) := by decide +kernel
theorem dX7_ofCrane_133 : decode cX7_ofCrane 133 = .ok (.ifnonnull 7, 3) := by decide +kernel
theorem dX7_ofCrane_136 : decode cX7_ofCrane 136 = .ok (.iconst (-1), 1) := by decide +kernel
theorem dX7_ofCrane_137 : decode cX7_ofCrane 137 = .ok (.goto 10, 3) := by decide +kernel
theorem dX7_ofCrane_140 : decode cX7_ofCrane 140 = .ok (.aload_n 3, 1) := by decide +kernel
theorem dX7_ofCrane_141 : decode cX7_ofCrane 141 = .ok (.getfield 174, 3) := by decide +kernel
theorem dX7_ofCrane_144 : decode cX7_ofCrane 144 = .ok (.getfield 195, 3) := by decide +kernel
theorem dX7_ofCrane_147 : decode cX7_ofCrane 147 = .ok (.ireturn, 1) := by decide +kernel
theorem dX7_ofCrane_148 : decode cX7_ofCrane 148 = .ok (.aload_n 3, 1) := by decide +kernel
theorem dX7_ofCrane_149 : decode cX7_ofCrane 149 = .ok (.invokevirtual 167, 3) := by decide +kernel
theorem dX7_ofCrane_152 : decode cX7_ofCrane 152 = .ok (.ireturn, 1) := by decide +kernel
theorem dX7_ofCrane_153 : decode cX7_ofCrane 153 = .ok (.aload_n 0, 1) := by decide +kernel
theorem dX7_ofCrane_154 : decode cX7_ofCrane 154 = .ok (.getfield 17, 3) := by decide +kernel
theorem dX7_ofCrane_157 : decode cX7_ofCrane 157 = .ok (.aload_n 3, 1) := by decide +kernel
theorem dX7_ofCrane_158 : decode cX7_ofCrane 158 = .ok (.aload_n 3, 1) := by decide +kernel
theorem dX7_ofCrane_159 : decode cX7_ofCrane 159 = .ok (.getfield 185, 3) := by decide +kernel
theorem dX7_ofCrane_162 : decode cX7_ofCrane 162 = .ok (.invokevirtual 188, 3) := by decide +kernel
theorem dX7_ofCrane_165 : decode cX7_ofCrane 165 = .ok (.ireturn, 1) := by decide +kernel
theorem dX7_ofCrane_166 : decode cX7_ofCrane 166 = .ok (.aload_n 3, 1) := by decide +kernel
theorem dX7_ofCrane_167 : decode cX7_ofCrane 167 = .ok (.getfield 248, 3) := by decide +kernel
theorem dX7_ofCrane_170 : decode cX7_ofCrane 170 = .ok (.iconst 1, 1) := by decide +kernel
theorem dX7_ofCrane_171 : decode cX7_ofCrane 171 = .ok (.iadd, 1) := by decide +kernel
theorem dX7_ofCrane_172 : decode cX7_ofCrane 172 = .ok (.ireturn, 1) := by decide +kernel
theorem dX7_ofCrane_173 : decode cX7_ofCrane 173 = .ok (.aload_n 0, 1) := by decide +kernel
theorem dX7_ofCrane_174 : decode cX7_ofCrane 174 = .ok (.getfield 17, 3) := by decide +kernel
theorem dX7_ofCrane_177 : decode cX7_ofCrane 177 = .ok (.aload_n 3, 1) := by decide +kernel
theorem dX7_ofCrane_178 : decode cX7_ofCrane 178 = .ok (.invokevirtual 251, 3) := by decide +kernel
theorem dX7_ofCrane_181 : decode cX7_ofCrane 181 = .ok (.ireturn, 1) := by decide +kernel
theorem dX7_ofCrane_182 : decode cX7_ofCrane 182 = .ok (.aload_n 3, 1) := by decide +kernel
theorem dX7_ofCrane_183 : decode cX7_ofCrane 183 = .ok (.getfield 255, 3) := by decide +kernel
theorem dX7_ofCrane_186 : decode cX7_ofCrane 186 = .ok (.ireturn, 1) := by decide +kernel
theorem dX7_ofLoad_0 : decode cX7_ofLoad 0 = .ok (.iload_n 1, 1) := by decide +kernel
theorem dX7_ofLoad_1 : decode cX7_ofLoad 1 = .ok (.ifCond .lt 17, 3) := by decide +kernel
theorem dX7_ofLoad_4 : decode cX7_ofLoad 4 = .ok (.iload_n 1, 1) := by decide +kernel
theorem dX7_ofLoad_5 : decode cX7_ofLoad 5 = .ok (.aload_n 0, 1) := by decide +kernel
theorem dX7_ofLoad_6 : decode cX7_ofLoad 6 = .ok (.getfield 17, 3) := by decide +kernel
theorem dX7_ofLoad_9 : decode cX7_ofLoad 9 = .ok (.getfield 113, 3) := by decide +kernel
theorem dX7_ofLoad_12 : decode cX7_ofLoad 12 = .ok (.invokevirtual 76, 3) := by decide +kernel
theorem dX7_ofLoad_15 : decode cX7_ofLoad 15 = .ok (.if_icmp .lt 14, 3) := by decide +kernel
theorem dX7_ofLoad_18 : decode cX7_ofLoad 18 = .ok (.new 258, 3) := by decide +kernel
theorem dX7_ofLoad_21 : decode cX7_ofLoad 21 = .ok (.dup, 1) := by decide +kernel
theorem dX7_ofLoad_22 : decode cX7_ofLoad 22 = .ok (.ldc_w 260, 3) := by decide +kernel
theorem dX7_ofLoad_25 : decode cX7_ofLoad 25 = .ok (.invokespecial 262, 3) := by decide +kernel
theorem dX7_ofLoad_28 : decode cX7_ofLoad 28 = .ok (.athrow, 1) := by decide +kernel
theorem dX7_ofLoad_29 : decode cX7_ofLoad 29 = .ok (.aload_n 0, 1) := by decide +kernel
theorem dX7_ofLoad_30 : decode cX7_ofLoad 30 = .ok (.getfield 17, 3) := by decide +kernel
theorem dX7_ofLoad_33 : decode cX7_ofLoad 33 = .ok (.getfield 113, 3) := by decide +kernel
theorem dX7_ofLoad_36 : decode cX7_ofLoad 36 = .ok (.iload_n 1, 1) := by decide +kernel
theorem dX7_ofLoad_37 : decode cX7_ofLoad 37 = .ok (.invokevirtual 263, 3) := by decide +kernel
theorem dX7_ofLoad_40 : decode cX7_ofLoad 40 = .ok (.checkcast 121, 3) := by decide +kernel
theorem dX7_ofLoad_43 : decode cX7_ofLoad 43 = .ok (.astore_n 3, 1) := by decide +kernel
theorem dX7_ofLoad_44 : decode cX7_ofLoad 44 = .ok (.iload_n 2, 1) := by decide +kernel
theorem dX7_ofLoad_45 : decode cX7_ofLoad 45 = .ok (.iconst 0, 1) := by decide +kernel
theorem dX7_ofLoad_46 : decode cX7_ofLoad 46 = .ok (.iconst 3, 1) := by decide +kernel
theorem dX7_ofLoad_47 : decode cX7_ofLoad 47 = .ok (.invokestatic 34, 3) := by decide +kernel
theorem dX7_ofLoad_50 : decode cX7_ofLoad 50 = .ok (.iload_n 2, 1) := by decide +kernel
theorem dX7_ofLoad_51 : decode cX7_ofLoad 51 = .ok (.tableswitch 54 0 2 #[25, 30, 35], 25) := by decide +kernel
theorem dX7_ofLoad_76 : decode cX7_ofLoad 76 = .ok (.aload_n 3, 1) := by decide +kernel
theorem dX7_ofLoad_77 : decode cX7_ofLoad 77 = .ok (.getfield 182, 3) := by decide +kernel
theorem dX7_ofLoad_80 : decode cX7_ofLoad 80 = .ok (.ireturn, 1) := by decide +kernel
theorem dX7_ofLoad_81 : decode cX7_ofLoad 81 = .ok (.aload_n 3, 1) := by decide +kernel
theorem dX7_ofLoad_82 : decode cX7_ofLoad 82 = .ok (.invokevirtual 267, 3) := by decide +kernel
theorem dX7_ofLoad_85 : decode cX7_ofLoad 85 = .ok (.ireturn, 1) := by decide +kernel
theorem dX7_ofLoad_86 : decode cX7_ofLoad 86 = .ok (.aload_n 3, 1) := by decide +kernel
theorem dX7_ofLoad_87 : decode cX7_ofLoad 87 = .ok (.getfield 270, 3) := by decide +kernel
theorem dX7_ofLoad_90 : decode cX7_ofLoad 90 = .ok (.ifnonnull 7, 3) := by decide +kernel
theorem dX7_ofLoad_93 : decode cX7_ofLoad 93 = .ok (.iconst (-1), 1) := by decide +kernel
theorem dX7_ofLoad_94 : decode cX7_ofLoad 94 = .ok (.goto 10, 3) := by decide +kernel
theorem dX7_ofLoad_97 : decode cX7_ofLoad 97 = .ok (.aload_n 3, 1) := by decide +kernel
theorem dX7_ofLoad_98 : decode cX7_ofLoad 98 = .ok (.getfield 270, 3) := by decide +kernel
theorem dX7_ofLoad_101 : decode cX7_ofLoad 101 = .ok (.getfield 274, 3) := by decide +kernel
theorem dX7_ofLoad_104 : decode cX7_ofLoad 104 = .ok (.ireturn, 1) := by decide +kernel
theorem dX7_ofLoad_105 : decode cX7_ofLoad 105 = .ok (.aload_n 0, 1) := by decide +kernel
theorem dX7_ofLoad_106 : decode cX7_ofLoad 106 = .ok (.getfield 26, 3) := by decide +kernel
theorem dX7_ofLoad_109 : decode cX7_ofLoad 109 = .ok (.aload_n 3, 1) := by decide +kernel
theorem dX7_ofLoad_110 : decode cX7_ofLoad 110 = .ok (.invokevirtual 267, 3) := by decide +kernel
theorem dX7_ofLoad_113 : decode cX7_ofLoad 113 = .ok (.aload_n 3, 1) := by decide +kernel
theorem dX7_ofLoad_114 : decode cX7_ofLoad 114 = .ok (.getfield 182, 3) := by decide +kernel
theorem dX7_ofLoad_117 : decode cX7_ofLoad 117 = .ok (.invokevirtual 275, 3) := by decide +kernel
theorem dX7_ofLoad_120 : decode cX7_ofLoad 120 = .ok (.ireturn, 1) := by decide +kernel
theorem dX7_ofCell_0 : decode cX7_ofCell 0 = .ok (.aload_n 0, 1) := by decide +kernel
theorem dX7_ofCell_1 : decode cX7_ofCell 1 = .ok (.iload_n 1, 1) := by decide +kernel
theorem dX7_ofCell_2 : decode cX7_ofCell 2 = .ok (.invokevirtual 50, 3) := by decide +kernel
theorem dX7_ofCell_5 : decode cX7_ofCell 5 = .ok (.iload_n 2, 1) := by decide +kernel
theorem dX7_ofCell_6 : decode cX7_ofCell 6 = .ok (.iconst 0, 1) := by decide +kernel
theorem dX7_ofCell_7 : decode cX7_ofCell 7 = .ok (.iconst 4, 1) := by decide +kernel
theorem dX7_ofCell_8 : decode cX7_ofCell 8 = .ok (.invokestatic 34, 3) := by decide +kernel
theorem dX7_ofCell_11 : decode cX7_ofCell 11 = .ok (.iload_n 2, 1) := by decide +kernel
theorem dX7_ofCell_12 : decode cX7_ofCell 12 = .ok (.tableswitch 71 0 3 #[32, 44, 53, 62], 32) := by decide +kernel
theorem dX7_ofCell_44 : decode cX7_ofCell 44 = .ok (.aload_n 0, 1) := by decide +kernel
theorem dX7_ofCell_45 : decode cX7_ofCell 45 = .ok (.getfield 17, 3) := by decide +kernel
theorem dX7_ofCell_48 : decode cX7_ofCell 48 = .ok (.getfield 42, 3) := by decide +kernel
theorem dX7_ofCell_51 : decode cX7_ofCell 51 = .ok (.iload_n 1, 1) := by decide +kernel
theorem dX7_ofCell_52 : decode cX7_ofCell 52 = .ok (.invokevirtual 65, 3) := by decide +kernel
theorem dX7_ofCell_55 : decode cX7_ofCell 55 = .ok (.ireturn, 1) := by decide +kernel
theorem dX7_ofCell_56 : decode cX7_ofCell 56 = .ok (.aload_n 0, 1) := by decide +kernel
theorem dX7_ofCell_57 : decode cX7_ofCell 57 = .ok (.getfield 17, 3) := by decide +kernel
theorem dX7_ofCell_60 : decode cX7_ofCell 60 = .ok (.iload_n 1, 1) := by decide +kernel
theorem dX7_ofCell_61 : decode cX7_ofCell 61 = .ok (.invokevirtual 279, 3) := by decide +kernel
theorem dX7_ofCell_64 : decode cX7_ofCell 64 = .ok (.ireturn, 1) := by decide +kernel
theorem dX7_ofCell_65 : decode cX7_ofCell 65 = .ok (.aload_n 0, 1) := by decide +kernel
theorem dX7_ofCell_66 : decode cX7_ofCell 66 = .ok (.getfield 17, 3) := by decide +kernel
theorem dX7_ofCell_69 : decode cX7_ofCell 69 = .ok (.iload_n 1, 1) := by decide +kernel
theorem dX7_ofCell_70 : decode cX7_ofCell 70 = .ok (.invokevirtual 282, 3) := by decide +kernel
theorem dX7_ofCell_73 : decode cX7_ofCell 73 = .ok (.ireturn, 1) := by decide +kernel
theorem dX7_ofCell_74 : decode cX7_ofCell 74 = .ok (.aload_n 0, 1) := by decide +kernel
theorem dX7_ofCell_75 : decode cX7_ofCell 75 = .ok (.getfield 17, 3) := by decide +kernel
theorem dX7_ofCell_78 : decode cX7_ofCell 78 = .ok (.iload_n 1, 1) := by decide +kernel
theorem dX7_ofCell_79 : decode cX7_ofCell 79 = .ok (.invokevirtual 116, 3) := by decide +kernel
theorem dX7_ofCell_82 : decode cX7_ofCell 82 = .ok (.ireturn, 1) := by decide +kernel
theorem dX7_ofCell_83 : decode cX7_ofCell 83 = .ok (.aload_n 0, 1) := by decide +kernel
theorem dX7_ofCell_84 : decode cX7_ofCell 84 = .ok (.getfield 17, 3) := by decide +kernel
theorem dX7_ofCell_87 : decode cX7_ofCell 87 = .ok (.iload_n 1, 1) := by decide +kernel
theorem dX7_ofCell_88 : decode cX7_ofCell 88 = .ok (.invokevirtual 285, 3) := by decide +kernel
theorem dX7_ofCell_91 : decode cX7_ofCell 91 = .ok (.ifCond .eq 7, 3) := by decide +kernel
theorem dX7_ofCell_94 : decode cX7_ofCell 94 = .ok (.iconst 1, 1) := by decide +kernel
theorem dX7_ofCell_95 : decode cX7_ofCell 95 = .ok (.goto 4, 3) := by decide +kernel
theorem dX7_ofCell_98 : decode cX7_ofCell 98 = .ok (.iconst 0, 1) := by decide +kernel
theorem dX7_ofCell_99 : decode cX7_ofCell 99 = .ok (.ireturn, 1) := by decide +kernel
theorem dX7_would_0 : decode cX7_would 0 = .ok (.aload_n 0, 1) := by decide +kernel
theorem dX7_would_1 : decode cX7_would 1 = .ok (.iload_n 1, 1) := by decide +kernel
theorem dX7_would_2 : decode cX7_would 2 = .ok (.invokevirtual 147, 3) := by decide +kernel
theorem dX7_would_5 : decode cX7_would 5 = .ok (.astore_n 3, 1) := by decide +kernel
theorem dX7_would_6 : decode cX7_would 6 = .ok (.iload_n 2, 1) := by decide +kernel
theorem dX7_would_7 : decode cX7_would 7 = .ok (.iconst 0, 1) := by decide +kernel
theorem dX7_would_8 : decode cX7_would 8 = .ok (.bipush 6, 2) := by decide +kernel
theorem dX7_would_10 : decode cX7_would 10 = .ok (.invokestatic 34, 3) := by decide +kernel
theorem dX7_would_13 : decode cX7_would 13 = .ok (.aload_n 0, 1) := by decide +kernel
theorem dX7_would_14 : decode cX7_would 14 = .ok (.getfield 17, 3) := by decide +kernel
theorem dX7_would_17 : decode cX7_would 17 = .ok (.getfield 151, 3) := by decide +kernel
theorem dX7_would_20 : decode cX7_would 20 = .ok (.sipush 600, 3) := by decide +kernel
theorem dX7_would_23 : decode cX7_would 23 = .ok (.if_icmp .lt 7, 3) := by decide +kernel
theorem dX7_would_26 : decode cX7_would 26 = .ok (.iconst (-1), 1) := by decide +kernel
theorem dX7_would_27 : decode cX7_would 27 = .ok (.goto 12, 3) := by decide +kernel
theorem dX7_would_30 : decode cX7_would 30 = .ok (.aload_n 0, 1) := by decide +kernel
theorem dX7_would_31 : decode cX7_would 31 = .ok (.getfield 17, 3) := by decide +kernel
theorem dX7_would_34 : decode cX7_would 34 = .ok (.aload_n 3, 1) := by decide +kernel
theorem dX7_would_35 : decode cX7_would 35 = .ok (.iload_n 2, 1) := by decide +kernel
theorem dX7_would_36 : decode cX7_would 36 = .ok (.invokevirtual 156, 3) := by decide +kernel
theorem dX7_would_39 : decode cX7_would 39 = .ok (.ireturn, 1) := by decide +kernel
theorem dX7_clash_0 : decode cX7_clash 0 = .ok (.aload_n 0, 1) := by decide +kernel
theorem dX7_clash_1 : decode cX7_clash 1 = .ok (.iload_n 1, 1) := by decide +kernel
theorem dX7_clash_2 : decode cX7_clash 2 = .ok (.invokevirtual 147, 3) := by decide +kernel
theorem dX7_clash_5 : decode cX7_clash 5 = .ok (.astore_n 3, 1) := by decide +kernel
theorem dX7_clash_6 : decode cX7_clash 6 = .ok (.aload_n 0, 1) := by decide +kernel
theorem dX7_clash_7 : decode cX7_clash 7 = .ok (.iload_n 2, 1) := by decide +kernel
theorem dX7_clash_8 : decode cX7_clash 8 = .ok (.invokevirtual 147, 3) := by decide +kernel
theorem dX7_clash_11 : decode cX7_clash 11 = .ok (.astore 4, 2) := by decide +kernel
theorem dX7_clash_13 : decode cX7_clash 13 = .ok (.iload_n 1, 1) := by decide +kernel
theorem dX7_clash_14 : decode cX7_clash 14 = .ok (.iload_n 2, 1) := by decide +kernel
theorem dX7_clash_15 : decode cX7_clash 15 = .ok (.if_icmp .ne 14, 3) := by decide +kernel
theorem dX7_clash_18 : decode cX7_clash 18 = .ok (.new 201, 3) := by decide +kernel
theorem dX7_clash_21 : decode cX7_clash 21 = .ok (.dup, 1) := by decide +kernel
theorem dX7_clash_22 : decode cX7_clash 22 = .ok (.ldc_w 288, 3) := by decide +kernel
theorem dX7_clash_25 : decode cX7_clash 25 = .ok (.invokespecial 205, 3) := by decide +kernel
theorem dX7_clash_28 : decode cX7_clash 28 = .ok (.athrow, 1) := by decide +kernel
theorem dX7_clash_29 : decode cX7_clash 29 = .ok (.aload_n 3, 1) := by decide +kernel
theorem dX7_clash_30 : decode cX7_clash 30 = .ok (.aload 4, 2) := by decide +kernel
theorem dX7_clash_32 : decode cX7_clash 32 = .ok (.iconst 1, 1) := by decide +kernel
theorem dX7_clash_33 : decode cX7_clash 33 = .ok (.invokevirtual 290, 3) := by decide +kernel
theorem dX7_clash_36 : decode cX7_clash 36 = .ok (.ireturn, 1) := by decide +kernel
theorem dX7_way_0 : decode cX7_way 0 = .ok (.aload_n 0, 1) := by decide +kernel
theorem dX7_way_1 : decode cX7_way 1 = .ok (.iload_n 1, 1) := by decide +kernel
theorem dX7_way_2 : decode cX7_way 2 = .ok (.invokevirtual 147, 3) := by decide +kernel
theorem dX7_way_5 : decode cX7_way 5 = .ok (.astore_n 3, 1) := by decide +kernel
theorem dX7_way_6 : decode cX7_way 6 = .ok (.aload_n 0, 1) := by decide +kernel
theorem dX7_way_7 : decode cX7_way 7 = .ok (.iload_n 2, 1) := by decide +kernel
theorem dX7_way_8 : decode cX7_way 8 = .ok (.invokevirtual 50, 3) := by decide +kernel
theorem dX7_way_11 : decode cX7_way 11 = .ok (.aload_n 0, 1) := by decide +kernel
theorem dX7_way_12 : decode cX7_way 12 = .ok (.getfield 26, 3) := by decide +kernel
theorem dX7_way_15 : decode cX7_way 15 = .ok (.aload_n 3, 1) := by decide +kernel
theorem dX7_way_16 : decode cX7_way 16 = .ok (.invokevirtual 293, 3) := by decide +kernel
theorem dX7_way_19 : decode cX7_way 19 = .ok (.pop, 1) := by decide +kernel
theorem dX7_way_20 : decode cX7_way 20 = .ok (.aload_n 0, 1) := by decide +kernel
theorem dX7_way_21 : decode cX7_way 21 = .ok (.getfield 26, 3) := by decide +kernel
theorem dX7_way_24 : decode cX7_way 24 = .ok (.iload_n 2, 1) := by decide +kernel
theorem dX7_way_25 : decode cX7_way 25 = .ok (.invokevirtual 296, 3) := by decide +kernel
theorem dX7_way_28 : decode cX7_way 28 = .ok (.ireturn, 1) := by decide +kernel
theorem dX7_field_0 : decode cX7_field 0 = .ok (.aload_n 0, 1) := by decide +kernel
theorem dX7_field_1 : decode cX7_field 1 = .ok (.getfield 26, 3) := by decide +kernel
theorem dX7_field_4 : decode cX7_field 4 = .ok (.aload_n 0, 1) := by decide +kernel
theorem dX7_field_5 : decode cX7_field 5 = .ok (.iload_n 1, 1) := by decide +kernel
theorem dX7_field_6 : decode cX7_field 6 = .ok (.invokevirtual 147, 3) := by decide +kernel
theorem dX7_field_9 : decode cX7_field 9 = .ok (.invokevirtual 293, 3) := by decide +kernel
theorem dX7_field_12 : decode cX7_field 12 = .ok (.ireturn, 1) := by decide +kernel
theorem dX7_swing_0 : decode cX7_swing 0 = .ok (.aload_n 0, 1) := by decide +kernel
theorem dX7_swing_1 : decode cX7_swing 1 = .ok (.getfield 26, 3) := by decide +kernel
theorem dX7_swing_4 : decode cX7_swing 4 = .ok (.aload_n 0, 1) := by decide +kernel
theorem dX7_swing_5 : decode cX7_swing 5 = .ok (.iload_n 1, 1) := by decide +kernel
theorem dX7_swing_6 : decode cX7_swing 6 = .ok (.invokevirtual 147, 3) := by decide +kernel
theorem dX7_swing_9 : decode cX7_swing 9 = .ok (.iload_n 2, 1) := by decide +kernel
theorem dX7_swing_10 : decode cX7_swing 10 = .ok (.ifCond .eq 7, 3) := by decide +kernel
theorem dX7_swing_13 : decode cX7_swing 13 = .ok (.iconst 1, 1) := by decide +kernel
theorem dX7_swing_14 : decode cX7_swing 14 = .ok (.goto 4, 3) := by decide +kernel
theorem dX7_swing_17 : decode cX7_swing 17 = .ok (.iconst 0, 1) := by decide +kernel
theorem dX7_swing_18 : decode cX7_swing 18 = .ok (.invokevirtual 299, 3) := by decide +kernel
theorem dX7_swing_21 : decode cX7_swing 21 = .ok (.ireturn, 1) := by decide +kernel
theorem dX7_order_0 : decode cX7_order 0 = .ok (.iload_n 1, 1) := by decide +kernel
theorem dX7_order_1 : decode cX7_order 1 = .ok (.ifCond .ge 14, 3) := by decide +kernel
theorem dX7_order_4 : decode cX7_order 4 = .ok (.new 201, 3) := by decide +kernel
theorem dX7_order_7 : decode cX7_order 7 = .ok (.dup, 1) := by decide +kernel
theorem dX7_order_8 : decode cX7_order 8 = .ok (.ldc_w 302, 3) := by decide +kernel
theorem dX7_order_11 : decode cX7_order 11 = .ok (.invokespecial 205, 3) := by decide +kernel
theorem dX7_order_14 : decode cX7_order 14 = .ok (.athrow, 1) := by decide +kernel
theorem dX7_order_15 : decode cX7_order 15 = .ok (.iload_n 1, 1) := by decide +kernel
theorem dX7_order_16 : decode cX7_order 16 = .ok (.aload_n 0, 1) := by decide +kernel
theorem dX7_order_17 : decode cX7_order 17 = .ok (.getfield 26, 3) := by decide +kernel
theorem dX7_order_20 : decode cX7_order 20 = .ok (.invokevirtual 304, 3) := by decide +kernel
theorem dX7_order_23 : decode cX7_order 23 = .ok (.if_icmp .ge 14, 3) := by decide +kernel
theorem dX7_order_26 : decode cX7_order 26 = .ok (.aload_n 0, 1) := by decide +kernel
theorem dX7_order_27 : decode cX7_order 27 = .ok (.getfield 26, 3) := by decide +kernel
theorem dX7_order_30 : decode cX7_order 30 = .ok (.iload_n 1, 1) := by decide +kernel
theorem dX7_order_31 : decode cX7_order 31 = .ok (.invokevirtual 307, 3) := by decide +kernel
theorem dX7_order_34 : decode cX7_order 34 = .ok (.goto 4, 3) := by decide +kernel
theorem dX7_order_37 : decode cX7_order 37 = .ok (.iconst (-1), 1) := by decide +kernel
theorem dX7_order_38 : decode cX7_order 38 = .ok (.ireturn, 1) := by decide +kernel
theorem dX7_many_0 : decode cX7_many 0 = .ok (.iload_n 1, 1) := by decide +kernel
theorem dX7_many_1 : decode cX7_many 1 = .ok (.iconst 0, 1) := by decide +kernel
theorem dX7_many_2 : decode cX7_many 2 = .ok (.bipush 14, 2) := by decide +kernel
theorem dX7_many_4 : decode cX7_many 4 = .ok (.invokestatic 34, 3) := by decide +kernel
theorem dX7_many_7 : decode cX7_many 7 = .ok (.iload_n 1, 1) := by decide +kernel
theorem dX7_many_8 : decode cX7_many 8 = .ok (.tableswitch 196 0 13 #[72, 83, 91, 99, 110, 121, 132, 140, 148, 156, 164, 172, 180, 188], 72) := by decide +kernel
theorem dX7_many_80 : decode cX7_many 80 = .ok (.aload_n 0, 1) := by decide +kernel
theorem dX7_many_81 : decode cX7_many 81 = .ok (.getfield 17, 3) := by decide +kernel
theorem dX7_many_84 : decode cX7_many 84 = .ok (.getfield 42, 3) := by decide +kernel
theorem dX7_many_87 : decode cX7_many 87 = .ok (.invokevirtual 46, 3) := by decide +kernel
theorem dX7_many_90 : decode cX7_many 90 = .ok (.ireturn, 1) := by decide +kernel
theorem dX7_many_91 : decode cX7_many 91 = .ok (.aload_n 0, 1) := by decide +kernel
theorem dX7_many_92 : decode cX7_many 92 = .ok (.getfield 17, 3) := by decide +kernel
theorem dX7_many_95 : decode cX7_many 95 = .ok (.getfield 151, 3) := by decide +kernel
theorem dX7_many_98 : decode cX7_many 98 = .ok (.ireturn, 1) := by decide +kernel
theorem dX7_many_99 : decode cX7_many 99 = .ok (.aload_n 0, 1) := by decide +kernel
theorem dX7_many_100 : decode cX7_many 100 = .ok (.getfield 17, 3) := by decide +kernel
theorem dX7_many_103 : decode cX7_many 103 = .ok (.invokevirtual 310, 3) := by decide +kernel
theorem dX7_many_106 : decode cX7_many 106 = .ok (.ireturn, 1) := by decide +kernel
theorem dX7_many_107 : decode cX7_many 107 = .ok (.aload_n 0, 1) := by decide +kernel
theorem dX7_many_108 : decode cX7_many 108 = .ok (.getfield 17, 3) := by decide +kernel
theorem dX7_many_111 : decode cX7_many 111 = .ok (.getfield 124, 3) := by decide +kernel
theorem dX7_many_114 : decode cX7_many 114 = .ok (.invokevirtual 76, 3) := by decide +kernel
theorem dX7_many_117 : decode cX7_many 117 = .ok (.ireturn, 1) := by decide +kernel
theorem dX7_many_118 : decode cX7_many 118 = .ok (.aload_n 0, 1) := by decide +kernel
theorem dX7_many_119 : decode cX7_many 119 = .ok (.getfield 17, 3) := by decide +kernel
theorem dX7_many_122 : decode cX7_many 122 = .ok (.getfield 113, 3) := by decide +kernel
theorem dX7_many_125 : decode cX7_many 125 = .ok (.invokevirtual 76, 3) := by decide +kernel
theorem dX7_many_128 : decode cX7_many 128 = .ok (.ireturn, 1) := by decide +kernel
theorem dX7_many_129 : decode cX7_many 129 = .ok (.aload_n 0, 1) := by decide +kernel
theorem dX7_many_130 : decode cX7_many 130 = .ok (.getfield 17, 3) := by decide +kernel
theorem dX7_many_133 : decode cX7_many 133 = .ok (.getfield 103, 3) := by decide +kernel
theorem dX7_many_136 : decode cX7_many 136 = .ok (.invokevirtual 76, 3) := by decide +kernel
theorem dX7_many_139 : decode cX7_many 139 = .ok (.ireturn, 1) := by decide +kernel
theorem dX7_many_140 : decode cX7_many 140 = .ok (.aload_n 0, 1) := by decide +kernel
theorem dX7_many_141 : decode cX7_many 141 = .ok (.getfield 17, 3) := by decide +kernel
theorem dX7_many_144 : decode cX7_many 144 = .ok (.invokevirtual 218, 3) := by decide +kernel
theorem dX7_many_147 : decode cX7_many 147 = .ok (.ireturn, 1) := by decide +kernel
theorem dX7_many_148 : decode cX7_many 148 = .ok (.aload_n 0, 1) := by decide +kernel
theorem dX7_many_149 : decode cX7_many 149 = .ok (.getfield 17, 3) := by decide +kernel
theorem dX7_many_152 : decode cX7_many 152 = .ok (.invokevirtual 313, 3) := by decide +kernel
theorem dX7_many_155 : decode cX7_many 155 = .ok (.ireturn, 1) := by decide +kernel
theorem dX7_many_156 : decode cX7_many 156 = .ok (.aload_n 0, 1) := by decide +kernel
theorem dX7_many_157 : decode cX7_many 157 = .ok (.getfield 17, 3) := by decide +kernel
theorem dX7_many_160 : decode cX7_many 160 = .ok (.invokevirtual 316, 3) := by decide +kernel
theorem dX7_many_163 : decode cX7_many 163 = .ok (.ireturn, 1) := by decide +kernel
theorem dX7_many_164 : decode cX7_many 164 = .ok (.aload_n 0, 1) := by decide +kernel
theorem dX7_many_165 : decode cX7_many 165 = .ok (.getfield 17, 3) := by decide +kernel
theorem dX7_many_168 : decode cX7_many 168 = .ok (.invokevirtual 319, 3) := by decide +kernel
theorem dX7_many_171 : decode cX7_many 171 = .ok (.ireturn, 1) := by decide +kernel
theorem dX7_many_172 : decode cX7_many 172 = .ok (.aload_n 0, 1) := by decide +kernel
theorem dX7_many_173 : decode cX7_many 173 = .ok (.getfield 17, 3) := by decide +kernel
theorem dX7_many_176 : decode cX7_many 176 = .ok (.getfield 321, 3) := by decide +kernel
theorem dX7_many_179 : decode cX7_many 179 = .ok (.ireturn, 1) := by decide +kernel
theorem dX7_many_180 : decode cX7_many 180 = .ok (.aload_n 0, 1) := by decide +kernel
theorem dX7_many_181 : decode cX7_many 181 = .ok (.getfield 17, 3) := by decide +kernel
theorem dX7_many_184 : decode cX7_many 184 = .ok (.getfield 164, 3) := by decide +kernel
theorem dX7_many_187 : decode cX7_many 187 = .ok (.ireturn, 1) := by decide +kernel
theorem dX7_many_188 : decode cX7_many 188 = .ok (.aload_n 0, 1) := by decide +kernel
theorem dX7_many_189 : decode cX7_many 189 = .ok (.getfield 17, 3) := by decide +kernel
theorem dX7_many_192 : decode cX7_many 192 = .ok (.invokevirtual 324, 3) := by decide +kernel
theorem dX7_many_195 : decode cX7_many 195 = .ok (.ireturn, 1) := by decide +kernel
theorem dX7_many_196 : decode cX7_many 196 = .ok (.aload_n 0, 1) := by decide +kernel
theorem dX7_many_197 : decode cX7_many 197 = .ok (.getfield 26, 3) := by decide +kernel
theorem dX7_many_200 : decode cX7_many 200 = .ok (.invokevirtual 304, 3) := by decide +kernel
theorem dX7_many_203 : decode cX7_many 203 = .ok (.ireturn, 1) := by decide +kernel
theorem dX7_many_204 : decode cX7_many 204 = .ok (.aload_n 0, 1) := by decide +kernel
theorem dX7_many_205 : decode cX7_many 205 = .ok (.getfield 30, 3) := by decide +kernel
theorem dX7_many_208 : decode cX7_many 208 = .ok (.ireturn, 1) := by decide +kernel
theorem dX7_isSound_0 : decode cX7_isSound 0 = .ok (.aload_n 0, 1) := by decide +kernel
theorem dX7_isSound_1 : decode cX7_isSound 1 = .ok (.getfield 17, 3) := by decide +kernel
theorem dX7_isSound_4 : decode cX7_isSound 4 = .ok (.invokevirtual 347, 3) := by decide +kernel
theorem dX7_isSound_7 : decode cX7_isSound 7 = .ok (.ifCond .eq 17, 3) := by decide +kernel
theorem dX7_isSound_10 : decode cX7_isSound 10 = .ok (.aload_n 0, 1) := by decide +kernel
theorem dX7_isSound_11 : decode cX7_isSound 11 = .ok (.getfield 17, 3) := by decide +kernel
theorem dX7_isSound_14 : decode cX7_isSound 14 = .ok (.invokevirtual 350, 3) := by decide +kernel
theorem dX7_isSound_17 : decode cX7_isSound 17 = .ok (.ifCond .eq 7, 3) := by decide +kernel
theorem dX7_isSound_20 : decode cX7_isSound 20 = .ok (.iconst 1, 1) := by decide +kernel
theorem dX7_isSound_21 : decode cX7_isSound 21 = .ok (.goto 4, 3) := by decide +kernel
theorem dX7_isSound_24 : decode cX7_isSound 24 = .ok (.iconst 0, 1) := by decide +kernel
theorem dX7_isSound_25 : decode cX7_isSound 25 = .ok (.ireturn, 1) := by decide +kernel
theorem dX7_digest_0 : decode cX7_digest 0 = .ok (.ldc2_w 353, 3) := by decide +kernel
theorem dX7_digest_3 : decode cX7_digest 3 = .ok (.lstore_n 1, 1) := by decide +kernel
theorem dX7_digest_4 : decode cX7_digest 4 = .ok (.iconst 0, 1) := by decide +kernel
theorem dX7_digest_5 : decode cX7_digest 5 = .ok (.istore_n 3, 1) := by decide +kernel
theorem dX7_digest_6 : decode cX7_digest 6 = .ok (.iload_n 3, 1) := by decide +kernel
theorem dX7_digest_7 : decode cX7_digest 7 = .ok (.bipush 14, 2) := by decide +kernel
theorem dX7_digest_9 : decode cX7_digest 9 = .ok (.if_icmp .gt 22, 3) := by decide +kernel
theorem dX7_digest_12 : decode cX7_digest 12 = .ok (.lload_n 1, 1) := by decide +kernel
theorem dX7_digest_13 : decode cX7_digest 13 = .ok (.ldc2_w 355, 3) := by decide +kernel
theorem dX7_digest_16 : decode cX7_digest 16 = .ok (.lmul, 1) := by decide +kernel
theorem dX7_digest_17 : decode cX7_digest 17 = .ok (.aload_n 0, 1) := by decide +kernel
theorem dX7_digest_18 : decode cX7_digest 18 = .ok (.iload_n 3, 1) := by decide +kernel
theorem dX7_digest_19 : decode cX7_digest 19 = .ok (.invokevirtual 357, 3) := by decide +kernel
theorem dX7_digest_22 : decode cX7_digest 22 = .ok (.i2l, 1) := by decide +kernel
theorem dX7_digest_23 : decode cX7_digest 23 = .ok (.ladd, 1) := by decide +kernel
theorem dX7_digest_24 : decode cX7_digest 24 = .ok (.lstore_n 1, 1) := by decide +kernel
theorem dX7_digest_25 : decode cX7_digest 25 = .ok (.iinc 3 1, 3) := by decide +kernel
theorem dX7_digest_28 : decode cX7_digest 28 = .ok (.goto (-22), 3) := by decide +kernel
theorem dX7_digest_31 : decode cX7_digest 31 = .ok (.iconst 0, 1) := by decide +kernel
theorem dX7_digest_32 : decode cX7_digest 32 = .ok (.istore_n 3, 1) := by decide +kernel
theorem dX7_digest_33 : decode cX7_digest 33 = .ok (.iload_n 3, 1) := by decide +kernel
theorem dX7_digest_34 : decode cX7_digest 34 = .ok (.aload_n 0, 1) := by decide +kernel
theorem dX7_digest_35 : decode cX7_digest 35 = .ok (.getfield 17, 3) := by decide +kernel
theorem dX7_digest_38 : decode cX7_digest 38 = .ok (.getfield 42, 3) := by decide +kernel
theorem dX7_digest_41 : decode cX7_digest 41 = .ok (.invokevirtual 46, 3) := by decide +kernel
theorem dX7_digest_44 : decode cX7_digest 44 = .ok (.if_icmp .ge 39, 3) := by decide +kernel
theorem dX7_digest_47 : decode cX7_digest 47 = .ok (.iconst 0, 1) := by decide +kernel
theorem dX7_digest_48 : decode cX7_digest 48 = .ok (.istore 4, 2) := by decide +kernel
theorem dX7_digest_50 : decode cX7_digest 50 = .ok (.iload 4, 2) := by decide +kernel
theorem dX7_digest_52 : decode cX7_digest 52 = .ok (.iconst 4, 1) := by decide +kernel
theorem dX7_digest_53 : decode cX7_digest 53 = .ok (.if_icmp .gt 24, 3) := by decide +kernel
theorem dX7_digest_56 : decode cX7_digest 56 = .ok (.lload_n 1, 1) := by decide +kernel
theorem dX7_digest_57 : decode cX7_digest 57 = .ok (.ldc2_w 355, 3) := by decide +kernel
theorem dX7_digest_60 : decode cX7_digest 60 = .ok (.lmul, 1) := by decide +kernel
theorem dX7_digest_61 : decode cX7_digest 61 = .ok (.aload_n 0, 1) := by decide +kernel
theorem dX7_digest_62 : decode cX7_digest 62 = .ok (.iload_n 3, 1) := by decide +kernel
theorem dX7_digest_63 : decode cX7_digest 63 = .ok (.iload 4, 2) := by decide +kernel
theorem dX7_digest_65 : decode cX7_digest 65 = .ok (.invokevirtual 360, 3) := by decide +kernel
theorem dX7_digest_68 : decode cX7_digest 68 = .ok (.i2l, 1) := by decide +kernel
theorem dX7_digest_69 : decode cX7_digest 69 = .ok (.ladd, 1) := by decide +kernel
theorem dX7_digest_70 : decode cX7_digest 70 = .ok (.lstore_n 1, 1) := by decide +kernel
theorem dX7_digest_71 : decode cX7_digest 71 = .ok (.iinc 4 1, 3) := by decide +kernel
theorem dX7_digest_74 : decode cX7_digest 74 = .ok (.goto (-24), 3) := by decide +kernel
theorem dX7_digest_77 : decode cX7_digest 77 = .ok (.iinc 3 1, 3) := by decide +kernel
theorem dX7_digest_80 : decode cX7_digest 80 = .ok (.goto (-47), 3) := by decide +kernel
theorem dX7_digest_83 : decode cX7_digest 83 = .ok (.iconst 0, 1) := by decide +kernel
theorem dX7_digest_84 : decode cX7_digest 84 = .ok (.istore_n 3, 1) := by decide +kernel
theorem dX7_digest_85 : decode cX7_digest 85 = .ok (.iload_n 3, 1) := by decide +kernel
theorem dX7_digest_86 : decode cX7_digest 86 = .ok (.aload_n 0, 1) := by decide +kernel
theorem dX7_digest_87 : decode cX7_digest 87 = .ok (.getfield 17, 3) := by decide +kernel
theorem dX7_digest_90 : decode cX7_digest 90 = .ok (.getfield 124, 3) := by decide +kernel
theorem dX7_digest_93 : decode cX7_digest 93 = .ok (.invokevirtual 76, 3) := by decide +kernel
theorem dX7_digest_96 : decode cX7_digest 96 = .ok (.if_icmp .ge 112, 3) := by decide +kernel
theorem dX7_digest_99 : decode cX7_digest 99 = .ok (.iconst 0, 1) := by decide +kernel
theorem dX7_digest_100 : decode cX7_digest 100 = .ok (.istore 4, 2) := by decide +kernel
theorem dX7_digest_102 : decode cX7_digest 102 = .ok (.iload 4, 2) := by decide +kernel
theorem dX7_digest_104 : decode cX7_digest 104 = .ok (.bipush 14, 2) := by decide +kernel
theorem dX7_digest_106 : decode cX7_digest 106 = .ok (.if_icmp .gt 24, 3) := by decide +kernel
theorem dX7_digest_109 : decode cX7_digest 109 = .ok (.lload_n 1, 1) := by decide +kernel
theorem dX7_digest_110 : decode cX7_digest 110 = .ok (.ldc2_w 355, 3) := by decide +kernel
theorem dX7_digest_113 : decode cX7_digest 113 = .ok (.lmul, 1) := by decide +kernel
theorem dX7_digest_114 : decode cX7_digest 114 = .ok (.aload_n 0, 1) := by decide +kernel
theorem dX7_digest_115 : decode cX7_digest 115 = .ok (.iload_n 3, 1) := by decide +kernel
theorem dX7_digest_116 : decode cX7_digest 116 = .ok (.iload 4, 2) := by decide +kernel
theorem dX7_digest_118 : decode cX7_digest 118 = .ok (.invokevirtual 363, 3) := by decide +kernel
theorem dX7_digest_121 : decode cX7_digest 121 = .ok (.i2l, 1) := by decide +kernel
theorem dX7_digest_122 : decode cX7_digest 122 = .ok (.ladd, 1) := by decide +kernel
theorem dX7_digest_123 : decode cX7_digest 123 = .ok (.lstore_n 1, 1) := by decide +kernel
theorem dX7_digest_124 : decode cX7_digest 124 = .ok (.iinc 4 1, 3) := by decide +kernel
theorem dX7_digest_127 : decode cX7_digest 127 = .ok (.goto (-25), 3) := by decide +kernel
theorem dX7_digest_130 : decode cX7_digest 130 = .ok (.iconst 0, 1) := by decide +kernel
theorem dX7_digest_131 : decode cX7_digest 131 = .ok (.istore 4, 2) := by decide +kernel
theorem dX7_digest_133 : decode cX7_digest 133 = .ok (.iload 4, 2) := by decide +kernel
theorem dX7_digest_135 : decode cX7_digest 135 = .ok (.bipush 6, 2) := by decide +kernel
theorem dX7_digest_137 : decode cX7_digest 137 = .ok (.if_icmp .gt 24, 3) := by decide +kernel
theorem dX7_digest_140 : decode cX7_digest 140 = .ok (.lload_n 1, 1) := by decide +kernel
theorem dX7_digest_141 : decode cX7_digest 141 = .ok (.ldc2_w 355, 3) := by decide +kernel
theorem dX7_digest_144 : decode cX7_digest 144 = .ok (.lmul, 1) := by decide +kernel
theorem dX7_digest_145 : decode cX7_digest 145 = .ok (.aload_n 0, 1) := by decide +kernel
theorem dX7_digest_146 : decode cX7_digest 146 = .ok (.iload_n 3, 1) := by decide +kernel
theorem dX7_digest_147 : decode cX7_digest 147 = .ok (.iload 4, 2) := by decide +kernel
theorem dX7_digest_149 : decode cX7_digest 149 = .ok (.invokevirtual 366, 3) := by decide +kernel
theorem dX7_digest_152 : decode cX7_digest 152 = .ok (.i2l, 1) := by decide +kernel
theorem dX7_digest_153 : decode cX7_digest 153 = .ok (.ladd, 1) := by decide +kernel
theorem dX7_digest_154 : decode cX7_digest 154 = .ok (.lstore_n 1, 1) := by decide +kernel
theorem dX7_digest_155 : decode cX7_digest 155 = .ok (.iinc 4 1, 3) := by decide +kernel
theorem dX7_digest_158 : decode cX7_digest 158 = .ok (.goto (-25), 3) := by decide +kernel
theorem dX7_digest_161 : decode cX7_digest 161 = .ok (.lload_n 1, 1) := by decide +kernel
theorem dX7_digest_162 : decode cX7_digest 162 = .ok (.ldc2_w 355, 3) := by decide +kernel
theorem dX7_digest_165 : decode cX7_digest 165 = .ok (.lmul, 1) := by decide +kernel
theorem dX7_digest_166 : decode cX7_digest 166 = .ok (.aload_n 0, 1) := by decide +kernel
theorem dX7_digest_167 : decode cX7_digest 167 = .ok (.iload_n 3, 1) := by decide +kernel
theorem dX7_digest_168 : decode cX7_digest 168 = .ok (.invokevirtual 369, 3) := by decide +kernel
theorem dX7_digest_171 : decode cX7_digest 171 = .ok (.i2l, 1) := by decide +kernel
theorem dX7_digest_172 : decode cX7_digest 172 = .ok (.ladd, 1) := by decide +kernel
theorem dX7_digest_173 : decode cX7_digest 173 = .ok (.lstore_n 1, 1) := by decide +kernel
theorem dX7_digest_174 : decode cX7_digest 174 = .ok (.lload_n 1, 1) := by decide +kernel
theorem dX7_digest_175 : decode cX7_digest 175 = .ok (.ldc2_w 355, 3) := by decide +kernel
theorem dX7_digest_178 : decode cX7_digest 178 = .ok (.lmul, 1) := by decide +kernel
theorem dX7_digest_179 : decode cX7_digest 179 = .ok (.aload_n 0, 1) := by decide +kernel
theorem dX7_digest_180 : decode cX7_digest 180 = .ok (.iload_n 3, 1) := by decide +kernel
theorem dX7_digest_181 : decode cX7_digest 181 = .ok (.iconst 0, 1) := by decide +kernel
theorem dX7_digest_182 : decode cX7_digest 182 = .ok (.invokevirtual 372, 3) := by decide +kernel
theorem dX7_digest_185 : decode cX7_digest 185 = .ok (.i2l, 1) := by decide +kernel
theorem dX7_digest_186 : decode cX7_digest 186 = .ok (.ladd, 1) := by decide +kernel
theorem dX7_digest_187 : decode cX7_digest 187 = .ok (.lstore_n 1, 1) := by decide +kernel
theorem dX7_digest_188 : decode cX7_digest 188 = .ok (.lload_n 1, 1) := by decide +kernel
theorem dX7_digest_189 : decode cX7_digest 189 = .ok (.ldc2_w 355, 3) := by decide +kernel
theorem dX7_digest_192 : decode cX7_digest 192 = .ok (.lmul, 1) := by decide +kernel
theorem dX7_digest_193 : decode cX7_digest 193 = .ok (.aload_n 0, 1) := by decide +kernel
theorem dX7_digest_194 : decode cX7_digest 194 = .ok (.iload_n 3, 1) := by decide +kernel
theorem dX7_digest_195 : decode cX7_digest 195 = .ok (.iconst 1, 1) := by decide +kernel
theorem dX7_digest_196 : decode cX7_digest 196 = .ok (.invokevirtual 372, 3) := by decide +kernel
theorem dX7_digest_199 : decode cX7_digest 199 = .ok (.i2l, 1) := by decide +kernel
theorem dX7_digest_200 : decode cX7_digest 200 = .ok (.ladd, 1) := by decide +kernel
theorem dX7_digest_201 : decode cX7_digest 201 = .ok (.lstore_n 1, 1) := by decide +kernel
theorem dX7_digest_202 : decode cX7_digest 202 = .ok (.iinc 3 1, 3) := by decide +kernel
theorem dX7_digest_205 : decode cX7_digest 205 = .ok (.goto (-120), 3) := by decide +kernel
theorem dX7_digest_208 : decode cX7_digest 208 = .ok (.iconst 0, 1) := by decide +kernel
theorem dX7_digest_209 : decode cX7_digest 209 = .ok (.istore_n 3, 1) := by decide +kernel
theorem dX7_digest_210 : decode cX7_digest 210 = .ok (.iload_n 3, 1) := by decide +kernel
theorem dX7_digest_211 : decode cX7_digest 211 = .ok (.aload_n 0, 1) := by decide +kernel
theorem dX7_digest_212 : decode cX7_digest 212 = .ok (.getfield 17, 3) := by decide +kernel
theorem dX7_digest_215 : decode cX7_digest 215 = .ok (.getfield 113, 3) := by decide +kernel
theorem dX7_digest_218 : decode cX7_digest 218 = .ok (.invokevirtual 76, 3) := by decide +kernel
theorem dX7_digest_221 : decode cX7_digest 221 = .ok (.if_icmp .ge 39, 3) := by decide +kernel
theorem dX7_digest_224 : decode cX7_digest 224 = .ok (.iconst 0, 1) := by decide +kernel
theorem dX7_digest_225 : decode cX7_digest 225 = .ok (.istore 4, 2) := by decide +kernel
theorem dX7_digest_227 : decode cX7_digest 227 = .ok (.iload 4, 2) := by decide +kernel
theorem dX7_digest_229 : decode cX7_digest 229 = .ok (.iconst 3, 1) := by decide +kernel
theorem dX7_digest_230 : decode cX7_digest 230 = .ok (.if_icmp .gt 24, 3) := by decide +kernel
theorem dX7_digest_233 : decode cX7_digest 233 = .ok (.lload_n 1, 1) := by decide +kernel
theorem dX7_digest_234 : decode cX7_digest 234 = .ok (.ldc2_w 355, 3) := by decide +kernel
theorem dX7_digest_237 : decode cX7_digest 237 = .ok (.lmul, 1) := by decide +kernel
theorem dX7_digest_238 : decode cX7_digest 238 = .ok (.aload_n 0, 1) := by decide +kernel
theorem dX7_digest_239 : decode cX7_digest 239 = .ok (.iload_n 3, 1) := by decide +kernel
theorem dX7_digest_240 : decode cX7_digest 240 = .ok (.iload 4, 2) := by decide +kernel
theorem dX7_digest_242 : decode cX7_digest 242 = .ok (.invokevirtual 376, 3) := by decide +kernel
theorem dX7_digest_245 : decode cX7_digest 245 = .ok (.i2l, 1) := by decide +kernel
theorem dX7_digest_246 : decode cX7_digest 246 = .ok (.ladd, 1) := by decide +kernel
theorem dX7_digest_247 : decode cX7_digest 247 = .ok (.lstore_n 1, 1) := by decide +kernel
theorem dX7_digest_248 : decode cX7_digest 248 = .ok (.iinc 4 1, 3) := by decide +kernel
theorem dX7_digest_251 : decode cX7_digest 251 = .ok (.goto (-24), 3) := by decide +kernel
theorem dX7_digest_254 : decode cX7_digest 254 = .ok (.iinc 3 1, 3) := by decide +kernel
theorem dX7_digest_257 : decode cX7_digest 257 = .ok (.goto (-47), 3) := by decide +kernel
theorem dX7_digest_260 : decode cX7_digest 260 = .ok (.lload_n 1, 1) := by decide +kernel
theorem dX7_digest_261 : decode cX7_digest 261 = .ok (.ldc2_w 355, 3) := by decide +kernel
theorem dX7_digest_264 : decode cX7_digest 264 = .ok (.lmul, 1) := by decide +kernel
theorem dX7_digest_265 : decode cX7_digest 265 = .ok (.aload_n 0, 1) := by decide +kernel
theorem dX7_digest_266 : decode cX7_digest 266 = .ok (.invokevirtual 379, 3) := by decide +kernel
theorem dX7_digest_269 : decode cX7_digest 269 = .ok (.ifCond .eq 7, 3) := by decide +kernel
theorem dX7_digest_272 : decode cX7_digest 272 = .ok (.iconst 1, 1) := by decide +kernel
theorem dX7_digest_273 : decode cX7_digest 273 = .ok (.goto 4, 3) := by decide +kernel
theorem dX7_digest_276 : decode cX7_digest 276 = .ok (.iconst 0, 1) := by decide +kernel
theorem dX7_digest_277 : decode cX7_digest 277 = .ok (.i2l, 1) := by decide +kernel
theorem dX7_digest_278 : decode cX7_digest 278 = .ok (.ladd, 1) := by decide +kernel
theorem dX7_digest_279 : decode cX7_digest 279 = .ok (.lreturn, 1) := by decide +kernel
theorem dX7_needWithin_0 : decode cX7_needWithin 0 = .ok (.iload_n 0, 1) := by decide +kernel
theorem dX7_needWithin_1 : decode cX7_needWithin 1 = .ok (.iload_n 1, 1) := by decide +kernel
theorem dX7_needWithin_2 : decode cX7_needWithin 2 = .ok (.if_icmp .lt 8, 3) := by decide +kernel
theorem dX7_needWithin_5 : decode cX7_needWithin 5 = .ok (.iload_n 0, 1) := by decide +kernel
theorem dX7_needWithin_6 : decode cX7_needWithin 6 = .ok (.iload_n 2, 1) := by decide +kernel
theorem dX7_needWithin_7 : decode cX7_needWithin 7 = .ok (.if_icmp .le 14, 3) := by decide +kernel
theorem dX7_needWithin_10 : decode cX7_needWithin 10 = .ok (.new 201, 3) := by decide +kernel
theorem dX7_needWithin_13 : decode cX7_needWithin 13 = .ok (.dup, 1) := by decide +kernel
theorem dX7_needWithin_14 : decode cX7_needWithin 14 = .ok (.ldc_w 382, 3) := by decide +kernel
theorem dX7_needWithin_17 : decode cX7_needWithin 17 = .ok (.invokespecial 205, 3) := by decide +kernel
theorem dX7_needWithin_20 : decode cX7_needWithin 20 = .ok (.athrow, 1) := by decide +kernel
theorem dX7_needWithin_21 : decode cX7_needWithin 21 = .ok (.return_, 1) := by decide +kernel
theorem dX7_needCell_0 : decode cX7_needCell 0 = .ok (.aload_n 0, 1) := by decide +kernel
theorem dX7_needCell_1 : decode cX7_needCell 1 = .ok (.getfield 17, 3) := by decide +kernel
theorem dX7_needCell_4 : decode cX7_needCell 4 = .ok (.getfield 42, 3) := by decide +kernel
theorem dX7_needCell_7 : decode cX7_needCell 7 = .ok (.iload_n 1, 1) := by decide +kernel
theorem dX7_needCell_8 : decode cX7_needCell 8 = .ok (.invokevirtual 384, 3) := by decide +kernel
theorem dX7_needCell_11 : decode cX7_needCell 11 = .ok (.ifCond .ne 14, 3) := by decide +kernel
theorem dX7_needCell_14 : decode cX7_needCell 14 = .ok (.new 258, 3) := by decide +kernel
theorem dX7_needCell_17 : decode cX7_needCell 17 = .ok (.dup, 1) := by decide +kernel
theorem dX7_needCell_18 : decode cX7_needCell 18 = .ok (.ldc_w 387, 3) := by decide +kernel
theorem dX7_needCell_21 : decode cX7_needCell 21 = .ok (.invokespecial 262, 3) := by decide +kernel
theorem dX7_needCell_24 : decode cX7_needCell 24 = .ok (.athrow, 1) := by decide +kernel
theorem dX7_needCell_25 : decode cX7_needCell 25 = .ok (.return_, 1) := by decide +kernel
theorem dX7_needCrane_0 : decode cX7_needCrane 0 = .ok (.iload_n 1, 1) := by decide +kernel
theorem dX7_needCrane_1 : decode cX7_needCrane 1 = .ok (.ifCond .lt 17, 3) := by decide +kernel
theorem dX7_needCrane_4 : decode cX7_needCrane 4 = .ok (.iload_n 1, 1) := by decide +kernel
theorem dX7_needCrane_5 : decode cX7_needCrane 5 = .ok (.aload_n 0, 1) := by decide +kernel
theorem dX7_needCrane_6 : decode cX7_needCrane 6 = .ok (.getfield 17, 3) := by decide +kernel
theorem dX7_needCrane_9 : decode cX7_needCrane 9 = .ok (.getfield 124, 3) := by decide +kernel
theorem dX7_needCrane_12 : decode cX7_needCrane 12 = .ok (.invokevirtual 76, 3) := by decide +kernel
theorem dX7_needCrane_15 : decode cX7_needCrane 15 = .ok (.if_icmp .lt 14, 3) := by decide +kernel
theorem dX7_needCrane_18 : decode cX7_needCrane 18 = .ok (.new 258, 3) := by decide +kernel
theorem dX7_needCrane_21 : decode cX7_needCrane 21 = .ok (.dup, 1) := by decide +kernel
theorem dX7_needCrane_22 : decode cX7_needCrane 22 = .ok (.ldc_w 389, 3) := by decide +kernel
theorem dX7_needCrane_25 : decode cX7_needCrane 25 = .ok (.invokespecial 262, 3) := by decide +kernel
theorem dX7_needCrane_28 : decode cX7_needCrane 28 = .ok (.athrow, 1) := by decide +kernel
theorem dX7_needCrane_29 : decode cX7_needCrane 29 = .ok (.aload_n 0, 1) := by decide +kernel
theorem dX7_needCrane_30 : decode cX7_needCrane 30 = .ok (.getfield 17, 3) := by decide +kernel
theorem dX7_needCrane_33 : decode cX7_needCrane 33 = .ok (.getfield 124, 3) := by decide +kernel
theorem dX7_needCrane_36 : decode cX7_needCrane 36 = .ok (.iload_n 1, 1) := by decide +kernel
theorem dX7_needCrane_37 : decode cX7_needCrane 37 = .ok (.invokevirtual 263, 3) := by decide +kernel
theorem dX7_needCrane_40 : decode cX7_needCrane 40 = .ok (.checkcast 133, 3) := by decide +kernel
theorem dX7_needCrane_43 : decode cX7_needCrane 43 = .ok (.areturn, 1) := by decide +kernel
theorem dJ6_bitCount_0f7a4_0 : decode cJ6_bitCount_0f7a4 0 = .ok (.iload_n 0, 1) := by decide +kernel
theorem dJ6_bitCount_0f7a4_1 : decode cJ6_bitCount_0f7a4 1 = .ok (.iload_n 0, 1) := by decide +kernel
theorem dJ6_bitCount_0f7a4_2 : decode cJ6_bitCount_0f7a4 2 = .ok (.iconst 1, 1) := by decide +kernel
theorem dJ6_bitCount_0f7a4_3 : decode cJ6_bitCount_0f7a4 3 = .ok (.iushr, 1) := by decide +kernel
theorem dJ6_bitCount_0f7a4_4 : decode cJ6_bitCount_0f7a4 4 = .ok (.ldc_w 265, 3) := by decide +kernel
theorem dJ6_bitCount_0f7a4_7 : decode cJ6_bitCount_0f7a4 7 = .ok (.iand, 1) := by decide +kernel
theorem dJ6_bitCount_0f7a4_8 : decode cJ6_bitCount_0f7a4 8 = .ok (.isub, 1) := by decide +kernel
theorem dJ6_bitCount_0f7a4_9 : decode cJ6_bitCount_0f7a4 9 = .ok (.istore_n 0, 1) := by decide +kernel
theorem dJ6_bitCount_0f7a4_10 : decode cJ6_bitCount_0f7a4 10 = .ok (.iload_n 0, 1) := by decide +kernel
theorem dJ6_bitCount_0f7a4_11 : decode cJ6_bitCount_0f7a4 11 = .ok (.ldc_w 266, 3) := by decide +kernel
theorem dJ6_bitCount_0f7a4_14 : decode cJ6_bitCount_0f7a4 14 = .ok (.iand, 1) := by decide +kernel
theorem dJ6_bitCount_0f7a4_15 : decode cJ6_bitCount_0f7a4 15 = .ok (.iload_n 0, 1) := by decide +kernel
theorem dJ6_bitCount_0f7a4_16 : decode cJ6_bitCount_0f7a4 16 = .ok (.iconst 2, 1) := by decide +kernel
theorem dJ6_bitCount_0f7a4_17 : decode cJ6_bitCount_0f7a4 17 = .ok (.iushr, 1) := by decide +kernel
theorem dJ6_bitCount_0f7a4_18 : decode cJ6_bitCount_0f7a4 18 = .ok (.ldc_w 266, 3) := by decide +kernel
theorem dJ6_bitCount_0f7a4_21 : decode cJ6_bitCount_0f7a4 21 = .ok (.iand, 1) := by decide +kernel
theorem dJ6_bitCount_0f7a4_22 : decode cJ6_bitCount_0f7a4 22 = .ok (.iadd, 1) := by decide +kernel
theorem dJ6_bitCount_0f7a4_23 : decode cJ6_bitCount_0f7a4 23 = .ok (.istore_n 0, 1) := by decide +kernel
theorem dJ6_bitCount_0f7a4_24 : decode cJ6_bitCount_0f7a4 24 = .ok (.iload_n 0, 1) := by decide +kernel
theorem dJ6_bitCount_0f7a4_25 : decode cJ6_bitCount_0f7a4 25 = .ok (.iload_n 0, 1) := by decide +kernel
theorem dJ6_bitCount_0f7a4_26 : decode cJ6_bitCount_0f7a4 26 = .ok (.iconst 4, 1) := by decide +kernel
theorem dJ6_bitCount_0f7a4_27 : decode cJ6_bitCount_0f7a4 27 = .ok (.iushr, 1) := by decide +kernel
theorem dJ6_bitCount_0f7a4_28 : decode cJ6_bitCount_0f7a4 28 = .ok (.iadd, 1) := by decide +kernel
theorem dJ6_bitCount_0f7a4_29 : decode cJ6_bitCount_0f7a4 29 = .ok (.ldc_w 267, 3) := by decide +kernel
theorem dJ6_bitCount_0f7a4_32 : decode cJ6_bitCount_0f7a4 32 = .ok (.iand, 1) := by decide +kernel
theorem dJ6_bitCount_0f7a4_33 : decode cJ6_bitCount_0f7a4 33 = .ok (.istore_n 0, 1) := by decide +kernel
theorem dJ6_bitCount_0f7a4_34 : decode cJ6_bitCount_0f7a4 34 = .ok (.iload_n 0, 1) := by decide +kernel
theorem dJ6_bitCount_0f7a4_35 : decode cJ6_bitCount_0f7a4 35 = .ok (.iload_n 0, 1) := by decide +kernel
theorem dJ6_bitCount_0f7a4_36 : decode cJ6_bitCount_0f7a4 36 = .ok (.bipush 8, 2) := by decide +kernel
theorem dJ6_bitCount_0f7a4_38 : decode cJ6_bitCount_0f7a4 38 = .ok (.iushr, 1) := by decide +kernel
theorem dJ6_bitCount_0f7a4_39 : decode cJ6_bitCount_0f7a4 39 = .ok (.iadd, 1) := by decide +kernel
theorem dJ6_bitCount_0f7a4_40 : decode cJ6_bitCount_0f7a4 40 = .ok (.istore_n 0, 1) := by decide +kernel
theorem dJ6_bitCount_0f7a4_41 : decode cJ6_bitCount_0f7a4 41 = .ok (.iload_n 0, 1) := by decide +kernel
theorem dJ6_bitCount_0f7a4_42 : decode cJ6_bitCount_0f7a4 42 = .ok (.iload_n 0, 1) := by decide +kernel
theorem dJ6_bitCount_0f7a4_43 : decode cJ6_bitCount_0f7a4 43 = .ok (.bipush 16, 2) := by decide +kernel
theorem dJ6_bitCount_0f7a4_45 : decode cJ6_bitCount_0f7a4 45 = .ok (.iushr, 1) := by decide +kernel
theorem dJ6_bitCount_0f7a4_46 : decode cJ6_bitCount_0f7a4 46 = .ok (.iadd, 1) := by decide +kernel
theorem dJ6_bitCount_0f7a4_47 : decode cJ6_bitCount_0f7a4 47 = .ok (.istore_n 0, 1) := by decide +kernel
theorem dJ6_bitCount_0f7a4_48 : decode cJ6_bitCount_0f7a4 48 = .ok (.iload_n 0, 1) := by decide +kernel
theorem dJ6_bitCount_0f7a4_49 : decode cJ6_bitCount_0f7a4 49 = .ok (.bipush 63, 2) := by decide +kernel
theorem dJ6_bitCount_0f7a4_51 : decode cJ6_bitCount_0f7a4 51 = .ok (.iand, 1) := by decide +kernel
theorem dJ6_bitCount_0f7a4_52 : decode cJ6_bitCount_0f7a4 52 = .ok (.ireturn, 1) := by decide +kernel
theorem dJ9_abs_0f7a4_0 : decode cJ9_abs_0f7a4 0 = .ok (.iload_n 0, 1) := by decide +kernel
theorem dJ9_abs_0f7a4_1 : decode cJ9_abs_0f7a4 1 = .ok (.ifCond .ge 8, 3) := by decide +kernel
theorem dJ9_abs_0f7a4_4 : decode cJ9_abs_0f7a4 4 = .ok (.iload_n 0, 1) := by decide +kernel
theorem dJ9_abs_0f7a4_5 : decode cJ9_abs_0f7a4 5 = .ok (.ineg, 1) := by decide +kernel
theorem dJ9_abs_0f7a4_6 : decode cJ9_abs_0f7a4 6 = .ok (.goto 4, 3) := by decide +kernel
theorem dJ9_abs_0f7a4_9 : decode cJ9_abs_0f7a4 9 = .ok (.iload_n 0, 1) := by decide +kernel
theorem dJ9_abs_0f7a4_10 : decode cJ9_abs_0f7a4 10 = .ok (.ireturn, 1) := by decide +kernel
theorem dJ9_max_7cf53_0 : decode cJ9_max_7cf53 0 = .ok (.iload_n 0, 1) := by decide +kernel
theorem dJ9_max_7cf53_1 : decode cJ9_max_7cf53 1 = .ok (.iload_n 1, 1) := by decide +kernel
theorem dJ9_max_7cf53_2 : decode cJ9_max_7cf53 2 = .ok (.if_icmp .lt 7, 3) := by decide +kernel
theorem dJ9_max_7cf53_5 : decode cJ9_max_7cf53 5 = .ok (.iload_n 0, 1) := by decide +kernel
theorem dJ9_max_7cf53_6 : decode cJ9_max_7cf53 6 = .ok (.goto 4, 3) := by decide +kernel
theorem dJ9_max_7cf53_9 : decode cJ9_max_7cf53 9 = .ok (.iload_n 1, 1) := by decide +kernel
theorem dJ9_max_7cf53_10 : decode cJ9_max_7cf53 10 = .ok (.ireturn, 1) := by decide +kernel
theorem dJ9_min_7cf53_0 : decode cJ9_min_7cf53 0 = .ok (.iload_n 0, 1) := by decide +kernel
theorem dJ9_min_7cf53_1 : decode cJ9_min_7cf53 1 = .ok (.iload_n 1, 1) := by decide +kernel
theorem dJ9_min_7cf53_2 : decode cJ9_min_7cf53 2 = .ok (.if_icmp .gt 7, 3) := by decide +kernel
theorem dJ9_min_7cf53_5 : decode cJ9_min_7cf53 5 = .ok (.iload_n 0, 1) := by decide +kernel
theorem dJ9_min_7cf53_6 : decode cJ9_min_7cf53 6 = .ok (.goto 4, 3) := by decide +kernel
theorem dJ9_min_7cf53_9 : decode cJ9_min_7cf53 9 = .ok (.iload_n 1, 1) := by decide +kernel
theorem dJ9_min_7cf53_10 : decode cJ9_min_7cf53 10 = .ok (.ireturn, 1) := by decide +kernel
theorem dJxa1e45_init_da8c8_0 : decode cJxa1e45_init_da8c8 0 = .ok (.aload_n 0, 1) := by decide +kernel
theorem dJxa1e45_init_da8c8_1 : decode cJxa1e45_init_da8c8 1 = .ok (.invokespecial 1, 3) := by decide +kernel
theorem dJxa1e45_init_da8c8_4 : decode cJxa1e45_init_da8c8 4 = .ok (.return_, 1) := by decide +kernel
theorem dJxc12de_init_da8c8_0 : decode cJxc12de_init_da8c8 0 = .ok (.aload_n 0, 1) := by decide +kernel
theorem dJxc12de_init_da8c8_1 : decode cJxc12de_init_da8c8 1 = .ok (.invokespecial 1, 3) := by decide +kernel
theorem dJxc12de_init_da8c8_4 : decode cJxc12de_init_da8c8 4 = .ok (.aload_n 0, 1) := by decide +kernel
theorem dJxc12de_init_da8c8_5 : decode cJxc12de_init_da8c8 5 = .ok (.iconst 0, 1) := by decide +kernel
theorem dJxc12de_init_da8c8_6 : decode cJxc12de_init_da8c8 6 = .ok (.putfield 7, 3) := by decide +kernel
theorem dJxc12de_init_da8c8_9 : decode cJxc12de_init_da8c8 9 = .ok (.return_, 1) := by decide +kernel
theorem dJx4a65c_init_da8c8_0 : decode cJx4a65c_init_da8c8 0 = .ok (.aload_n 0, 1) := by decide +kernel
theorem dJx4a65c_init_da8c8_1 : decode cJx4a65c_init_da8c8 1 = .ok (.invokespecial 1, 3) := by decide +kernel
theorem dJx4a65c_init_da8c8_4 : decode cJx4a65c_init_da8c8 4 = .ok (.aload_n 0, 1) := by decide +kernel
theorem dJx4a65c_init_da8c8_5 : decode cJx4a65c_init_da8c8 5 = .ok (.getstatic 39, 3) := by decide +kernel
theorem dJx4a65c_init_da8c8_8 : decode cJx4a65c_init_da8c8 8 = .ok (.putfield 9, 3) := by decide +kernel
theorem dJx4a65c_init_da8c8_11 : decode cJx4a65c_init_da8c8 11 = .ok (.return_, 1) := by decide +kernel
theorem dJx4a65c_grow_92f84_0 : decode cJx4a65c_grow_92f84 0 = .ok (.aload_n 0, 1) := by decide +kernel
theorem dJx4a65c_grow_92f84_1 : decode cJx4a65c_grow_92f84 1 = .ok (.getfield 9, 3) := by decide +kernel
theorem dJx4a65c_grow_92f84_4 : decode cJx4a65c_grow_92f84 4 = .ok (.arraylength, 1) := by decide +kernel
theorem dJx4a65c_grow_92f84_5 : decode cJx4a65c_grow_92f84 5 = .ok (.istore_n 2, 1) := by decide +kernel
theorem dJx4a65c_grow_92f84_6 : decode cJx4a65c_grow_92f84 6 = .ok (.iload_n 2, 1) := by decide +kernel
theorem dJx4a65c_grow_92f84_7 : decode cJx4a65c_grow_92f84 7 = .ok (.ifCond .gt 13, 3) := by decide +kernel
theorem dJx4a65c_grow_92f84_10 : decode cJx4a65c_grow_92f84 10 = .ok (.aload_n 0, 1) := by decide +kernel
theorem dJx4a65c_grow_92f84_11 : decode cJx4a65c_grow_92f84 11 = .ok (.getfield 9, 3) := by decide +kernel
theorem dJx4a65c_grow_92f84_14 : decode cJx4a65c_grow_92f84 14 = .ok (.getstatic 39, 3) := by decide +kernel
theorem dJx4a65c_grow_92f84_17 : decode cJx4a65c_grow_92f84 17 = .ok (.if_acmp .eq 28, 3) := by decide +kernel
theorem dJx4a65c_grow_92f84_20 : decode cJx4a65c_grow_92f84 20 = .ok (.iload_n 2, 1) := by decide +kernel
theorem dJx4a65c_grow_92f84_21 : decode cJx4a65c_grow_92f84 21 = .ok (.iload_n 1, 1) := by decide +kernel
theorem dJx4a65c_grow_92f84_22 : decode cJx4a65c_grow_92f84 22 = .ok (.iload_n 2, 1) := by decide +kernel
theorem dJx4a65c_grow_92f84_23 : decode cJx4a65c_grow_92f84 23 = .ok (.isub, 1) := by decide +kernel
theorem dJx4a65c_grow_92f84_24 : decode cJx4a65c_grow_92f84 24 = .ok (.iload_n 2, 1) := by decide +kernel
theorem dJx4a65c_grow_92f84_25 : decode cJx4a65c_grow_92f84 25 = .ok (.iconst 1, 1) := by decide +kernel
theorem dJx4a65c_grow_92f84_26 : decode cJx4a65c_grow_92f84 26 = .ok (.ishr, 1) := by decide +kernel
theorem dJx4a65c_grow_92f84_27 : decode cJx4a65c_grow_92f84 27 = .ok (.invokestatic 73, 3) := by decide +kernel
theorem dJx4a65c_grow_92f84_30 : decode cJx4a65c_grow_92f84 30 = .ok (.istore_n 3, 1) := by decide +kernel
theorem dJx4a65c_grow_92f84_31 : decode cJx4a65c_grow_92f84 31 = .ok (.aload_n 0, 1) := by decide +kernel
theorem dJx4a65c_grow_92f84_32 : decode cJx4a65c_grow_92f84 32 = .ok (.aload_n 0, 1) := by decide +kernel
theorem dJx4a65c_grow_92f84_33 : decode cJx4a65c_grow_92f84 33 = .ok (.getfield 9, 3) := by decide +kernel
theorem dJx4a65c_grow_92f84_36 : decode cJx4a65c_grow_92f84 36 = .ok (.iload_n 3, 1) := by decide +kernel
theorem dJx4a65c_grow_92f84_37 : decode cJx4a65c_grow_92f84 37 = .ok (.invokestatic 66, 3) := by decide +kernel
theorem dJx4a65c_grow_92f84_40 : decode cJx4a65c_grow_92f84 40 = .ok (.dup_x1, 1) := by decide +kernel
theorem dJx4a65c_grow_92f84_41 : decode cJx4a65c_grow_92f84 41 = .ok (.putfield 9, 3) := by decide +kernel
theorem dJx4a65c_grow_92f84_44 : decode cJx4a65c_grow_92f84 44 = .ok (.areturn, 1) := by decide +kernel
theorem dJx4a65c_grow_92f84_45 : decode cJx4a65c_grow_92f84 45 = .ok (.aload_n 0, 1) := by decide +kernel
theorem dJx4a65c_grow_92f84_46 : decode cJx4a65c_grow_92f84 46 = .ok (.bipush 10, 2) := by decide +kernel
theorem dJx4a65c_grow_92f84_48 : decode cJx4a65c_grow_92f84 48 = .ok (.iload_n 1, 1) := by decide +kernel
theorem dJx4a65c_grow_92f84_49 : decode cJx4a65c_grow_92f84 49 = .ok (.invokestatic 79, 3) := by decide +kernel
theorem dJx4a65c_grow_92f84_52 : decode cJx4a65c_grow_92f84 52 = .ok (.anewarray 7, 3) := by decide +kernel
theorem dJx4a65c_grow_92f84_55 : decode cJx4a65c_grow_92f84 55 = .ok (.dup_x1, 1) := by decide +kernel
theorem dJx4a65c_grow_92f84_56 : decode cJx4a65c_grow_92f84 56 = .ok (.putfield 9, 3) := by decide +kernel
theorem dJx4a65c_grow_92f84_59 : decode cJx4a65c_grow_92f84 59 = .ok (.areturn, 1) := by decide +kernel
theorem dJx4a65c_grow_d5877_0 : decode cJx4a65c_grow_d5877 0 = .ok (.aload_n 0, 1) := by decide +kernel
theorem dJx4a65c_grow_d5877_1 : decode cJx4a65c_grow_d5877 1 = .ok (.aload_n 0, 1) := by decide +kernel
theorem dJx4a65c_grow_d5877_2 : decode cJx4a65c_grow_d5877 2 = .ok (.getfield 48, 3) := by decide +kernel
theorem dJx4a65c_grow_d5877_5 : decode cJx4a65c_grow_d5877 5 = .ok (.iconst 1, 1) := by decide +kernel
theorem dJx4a65c_grow_d5877_6 : decode cJx4a65c_grow_d5877 6 = .ok (.iadd, 1) := by decide +kernel
theorem dJx4a65c_grow_d5877_7 : decode cJx4a65c_grow_d5877 7 = .ok (.invokevirtual 69, 3) := by decide +kernel
theorem dJx4a65c_grow_d5877_10 : decode cJx4a65c_grow_d5877 10 = .ok (.areturn, 1) := by decide +kernel
theorem dJx4a65c_size_8abf5_0 : decode cJx4a65c_size_8abf5 0 = .ok (.aload_n 0, 1) := by decide +kernel
theorem dJx4a65c_size_8abf5_1 : decode cJx4a65c_size_8abf5 1 = .ok (.getfield 48, 3) := by decide +kernel
theorem dJx4a65c_size_8abf5_4 : decode cJx4a65c_size_8abf5 4 = .ok (.ireturn, 1) := by decide +kernel
theorem dJx4a65c_elementData_915e3_0 : decode cJx4a65c_elementData_915e3 0 = .ok (.aload_n 0, 1) := by decide +kernel
theorem dJx4a65c_elementData_915e3_1 : decode cJx4a65c_elementData_915e3 1 = .ok (.getfield 9, 3) := by decide +kernel
theorem dJx4a65c_elementData_915e3_4 : decode cJx4a65c_elementData_915e3 4 = .ok (.iload_n 1, 1) := by decide +kernel
theorem dJx4a65c_elementData_915e3_5 : decode cJx4a65c_elementData_915e3 5 = .ok (.aaload, 1) := by decide +kernel
theorem dJx4a65c_elementData_915e3_6 : decode cJx4a65c_elementData_915e3 6 = .ok (.areturn, 1) := by decide +kernel
theorem dJx4a65c_get_915e3_0 : decode cJx4a65c_get_915e3 0 = .ok (.iload_n 1, 1) := by decide +kernel
theorem dJx4a65c_get_915e3_1 : decode cJx4a65c_get_915e3 1 = .ok (.aload_n 0, 1) := by decide +kernel
theorem dJx4a65c_get_915e3_2 : decode cJx4a65c_get_915e3 2 = .ok (.getfield 48, 3) := by decide +kernel
theorem dJx4a65c_get_915e3_5 : decode cJx4a65c_get_915e3 5 = .ok (.invokestatic 118, 3) := by decide +kernel
theorem dJx4a65c_get_915e3_8 : decode cJx4a65c_get_915e3 8 = .ok (.pop, 1) := by decide +kernel
theorem dJx4a65c_get_915e3_9 : decode cJx4a65c_get_915e3 9 = .ok (.aload_n 0, 1) := by decide +kernel
theorem dJx4a65c_get_915e3_10 : decode cJx4a65c_get_915e3 10 = .ok (.iload_n 1, 1) := by decide +kernel
theorem dJx4a65c_get_915e3_11 : decode cJx4a65c_get_915e3 11 = .ok (.invokevirtual 123, 3) := by decide +kernel
