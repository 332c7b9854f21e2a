theorem dX0_init_0 : decode cX0_init 0 = .ok (.aload_n 0, 1) := by decide +kernel
theorem dX0_init_1 : decode cX0_init 1 = .ok (.invokespecial 3, 3) := by decide +kernel
theorem dX0_init_4 : decode cX0_init 4 = .ok (.aload_n 0, 1) := by decide +kernel
theorem dX0_init_5 : decode cX0_init 5 = .ok (.iconst 0, 1) := by decide +kernel
theorem dX0_init_6 : decode cX0_init 6 = .ok (.putfield 9, 3) := by decide +kernel
theorem dX0_init_9 : decode cX0_init 9 = .ok (.aload_n 0, 1) := by decide +kernel
theorem dX0_init_10 : decode cX0_init 10 = .ok (.iconst 0, 1) := by decide +kernel
theorem dX0_init_11 : decode cX0_init 11 = .ok (.putfield 15, 3) := by decide +kernel
theorem dX0_init_14 : decode cX0_init 14 = .ok (.aload_n 0, 1) := by decide +kernel
theorem dX0_init_15 : decode cX0_init 15 = .ok (.iconst 1, 1) := by decide +kernel
theorem dX0_init_16 : decode cX0_init 16 = .ok (.putfield 18, 3) := by decide +kernel
theorem dX0_init_19 : decode cX0_init 19 = .ok (.aload_n 0, 1) := by decide +kernel
theorem dX0_init_20 : decode cX0_init 20 = .ok (.iconst 0, 1) := by decide +kernel
theorem dX0_init_21 : decode cX0_init 21 = .ok (.putfield 21, 3) := by decide +kernel
theorem dX0_init_24 : decode cX0_init 24 = .ok (.aload_n 0, 1) := by decide +kernel
theorem dX0_init_25 : decode cX0_init 25 = .ok (.iconst 0, 1) := by decide +kernel
theorem dX0_init_26 : decode cX0_init 26 = .ok (.putfield 24, 3) := by decide +kernel
theorem dX0_init_29 : decode cX0_init 29 = .ok (.aload_n 0, 1) := by decide +kernel
theorem dX0_init_30 : decode cX0_init 30 = .ok (.aconst_null, 1) := by decide +kernel
theorem dX0_init_31 : decode cX0_init 31 = .ok (.putfield 27, 3) := by decide +kernel
theorem dX0_init_34 : decode cX0_init 34 = .ok (.aload_n 0, 1) := by decide +kernel
theorem dX0_init_35 : decode cX0_init 35 = .ok (.iconst 0, 1) := by decide +kernel
theorem dX0_init_36 : decode cX0_init 36 = .ok (.putfield 31, 3) := by decide +kernel
theorem dX0_init_39 : decode cX0_init 39 = .ok (.aload_n 0, 1) := by decide +kernel
theorem dX0_init_40 : decode cX0_init 40 = .ok (.aload_n 1, 1) := by decide +kernel
theorem dX0_init_41 : decode cX0_init 41 = .ok (.putfield 34, 3) := by decide +kernel
theorem dX0_init_44 : decode cX0_init 44 = .ok (.aload_n 0, 1) := by decide +kernel
theorem dX0_init_45 : decode cX0_init 45 = .ok (.iload_n 2, 1) := by decide +kernel
theorem dX0_init_46 : decode cX0_init 46 = .ok (.putfield 38, 3) := by decide +kernel
theorem dX0_init_49 : decode cX0_init 49 = .ok (.aload_n 0, 1) := by decide +kernel
theorem dX0_init_50 : decode cX0_init 50 = .ok (.iload_n 3, 1) := by decide +kernel
theorem dX0_init_51 : decode cX0_init 51 = .ok (.putfield 41, 3) := by decide +kernel
theorem dX0_init_54 : decode cX0_init 54 = .ok (.aload_n 0, 1) := by decide +kernel
theorem dX0_init_55 : decode cX0_init 55 = .ok (.aload_n 1, 1) := by decide +kernel
theorem dX0_init_56 : decode cX0_init 56 = .ok (.iload_n 3, 1) := by decide +kernel
theorem dX0_init_57 : decode cX0_init 57 = .ok (.invokevirtual 44, 3) := by decide +kernel
theorem dX0_init_60 : decode cX0_init 60 = .ok (.putfield 50, 3) := by decide +kernel
theorem dX0_init_63 : decode cX0_init 63 = .ok (.aload_n 0, 1) := by decide +kernel
theorem dX0_init_64 : decode cX0_init 64 = .ok (.aload_n 1, 1) := by decide +kernel
theorem dX0_init_65 : decode cX0_init 65 = .ok (.iload_n 3, 1) := by decide +kernel
theorem dX0_init_66 : decode cX0_init 66 = .ok (.invokevirtual 53, 3) := by decide +kernel
theorem dX0_init_69 : decode cX0_init 69 = .ok (.putfield 56, 3) := by decide +kernel
theorem dX0_init_72 : decode cX0_init 72 = .ok (.aload_n 0, 1) := by decide +kernel
theorem dX0_init_73 : decode cX0_init 73 = .ok (.iload 4, 2) := by decide +kernel
theorem dX0_init_75 : decode cX0_init 75 = .ok (.putfield 59, 3) := by decide +kernel
theorem dX0_init_78 : decode cX0_init 78 = .ok (.aload_n 0, 1) := by decide +kernel
theorem dX0_init_79 : decode cX0_init 79 = .ok (.iload 5, 2) := by decide +kernel
theorem dX0_init_81 : decode cX0_init 81 = .ok (.putfield 62, 3) := by decide +kernel
theorem dX0_init_84 : decode cX0_init 84 = .ok (.aload_n 0, 1) := by decide +kernel
theorem dX0_init_85 : decode cX0_init 85 = .ok (.iload 6, 2) := by decide +kernel
theorem dX0_init_87 : decode cX0_init 87 = .ok (.putfield 65, 3) := by decide +kernel
theorem dX0_init_90 : decode cX0_init 90 = .ok (.aload_n 0, 1) := by decide +kernel
theorem dX0_init_91 : decode cX0_init 91 = .ok (.iload 4, 2) := by decide +kernel
theorem dX0_init_93 : decode cX0_init 93 = .ok (.iconst 1, 1) := by decide +kernel
theorem dX0_init_94 : decode cX0_init 94 = .ok (.isub, 1) := by decide +kernel
theorem dX0_init_95 : decode cX0_init 95 = .ok (.putfield 68, 3) := by decide +kernel
theorem dX0_init_98 : decode cX0_init 98 = .ok (.return_, 1) := by decide +kernel
theorem dX0_mimic_0 : decode cX0_mimic 0 = .ok (.aload_n 0, 1) := by decide +kernel
theorem dX0_mimic_1 : decode cX0_mimic 1 = .ok (.aload_n 1, 1) := by decide +kernel
theorem dX0_mimic_2 : decode cX0_mimic 2 = .ok (.getfield 38, 3) := by decide +kernel
theorem dX0_mimic_5 : decode cX0_mimic 5 = .ok (.putfield 38, 3) := by decide +kernel
theorem dX0_mimic_8 : decode cX0_mimic 8 = .ok (.aload_n 0, 1) := by decide +kernel
theorem dX0_mimic_9 : decode cX0_mimic 9 = .ok (.aload_n 1, 1) := by decide +kernel
theorem dX0_mimic_10 : decode cX0_mimic 10 = .ok (.getfield 41, 3) := by decide +kernel
theorem dX0_mimic_13 : decode cX0_mimic 13 = .ok (.putfield 41, 3) := by decide +kernel
theorem dX0_mimic_16 : decode cX0_mimic 16 = .ok (.aload_n 0, 1) := by decide +kernel
theorem dX0_mimic_17 : decode cX0_mimic 17 = .ok (.aload_n 1, 1) := by decide +kernel
theorem dX0_mimic_18 : decode cX0_mimic 18 = .ok (.getfield 50, 3) := by decide +kernel
theorem dX0_mimic_21 : decode cX0_mimic 21 = .ok (.putfield 50, 3) := by decide +kernel
theorem dX0_mimic_24 : decode cX0_mimic 24 = .ok (.aload_n 0, 1) := by decide +kernel
theorem dX0_mimic_25 : decode cX0_mimic 25 = .ok (.aload_n 1, 1) := by decide +kernel
theorem dX0_mimic_26 : decode cX0_mimic 26 = .ok (.getfield 56, 3) := by decide +kernel
theorem dX0_mimic_29 : decode cX0_mimic 29 = .ok (.putfield 56, 3) := by decide +kernel
theorem dX0_mimic_32 : decode cX0_mimic 32 = .ok (.aload_n 0, 1) := by decide +kernel
theorem dX0_mimic_33 : decode cX0_mimic 33 = .ok (.aload_n 1, 1) := by decide +kernel
theorem dX0_mimic_34 : decode cX0_mimic 34 = .ok (.getfield 59, 3) := by decide +kernel
theorem dX0_mimic_37 : decode cX0_mimic 37 = .ok (.putfield 59, 3) := by decide +kernel
theorem dX0_mimic_40 : decode cX0_mimic 40 = .ok (.aload_n 0, 1) := by decide +kernel
theorem dX0_mimic_41 : decode cX0_mimic 41 = .ok (.aload_n 1, 1) := by decide +kernel
theorem dX0_mimic_42 : decode cX0_mimic 42 = .ok (.getfield 62, 3) := by decide +kernel
theorem dX0_mimic_45 : decode cX0_mimic 45 = .ok (.putfield 62, 3) := by decide +kernel
theorem dX0_mimic_48 : decode cX0_mimic 48 = .ok (.aload_n 0, 1) := by decide +kernel
theorem dX0_mimic_49 : decode cX0_mimic 49 = .ok (.aload_n 1, 1) := by decide +kernel
theorem dX0_mimic_50 : decode cX0_mimic 50 = .ok (.getfield 65, 3) := by decide +kernel
theorem dX0_mimic_53 : decode cX0_mimic 53 = .ok (.putfield 65, 3) := by decide +kernel
theorem dX0_mimic_56 : decode cX0_mimic 56 = .ok (.aload_n 0, 1) := by decide +kernel
theorem dX0_mimic_57 : decode cX0_mimic 57 = .ok (.aload_n 1, 1) := by decide +kernel
theorem dX0_mimic_58 : decode cX0_mimic 58 = .ok (.getfield 9, 3) := by decide +kernel
theorem dX0_mimic_61 : decode cX0_mimic 61 = .ok (.putfield 9, 3) := by decide +kernel
theorem dX0_mimic_64 : decode cX0_mimic 64 = .ok (.aload_n 0, 1) := by decide +kernel
theorem dX0_mimic_65 : decode cX0_mimic 65 = .ok (.aload_n 1, 1) := by decide +kernel
theorem dX0_mimic_66 : decode cX0_mimic 66 = .ok (.getfield 15, 3) := by decide +kernel
theorem dX0_mimic_69 : decode cX0_mimic 69 = .ok (.putfield 15, 3) := by decide +kernel
theorem dX0_mimic_72 : decode cX0_mimic 72 = .ok (.aload_n 0, 1) := by decide +kernel
theorem dX0_mimic_73 : decode cX0_mimic 73 = .ok (.aload_n 1, 1) := by decide +kernel
theorem dX0_mimic_74 : decode cX0_mimic 74 = .ok (.getfield 18, 3) := by decide +kernel
theorem dX0_mimic_77 : decode cX0_mimic 77 = .ok (.putfield 18, 3) := by decide +kernel
theorem dX0_mimic_80 : decode cX0_mimic 80 = .ok (.aload_n 0, 1) := by decide +kernel
theorem dX0_mimic_81 : decode cX0_mimic 81 = .ok (.aload_n 1, 1) := by decide +kernel
theorem dX0_mimic_82 : decode cX0_mimic 82 = .ok (.getfield 68, 3) := by decide +kernel
theorem dX0_mimic_85 : decode cX0_mimic 85 = .ok (.putfield 68, 3) := by decide +kernel
theorem dX0_mimic_88 : decode cX0_mimic 88 = .ok (.aload_n 0, 1) := by decide +kernel
theorem dX0_mimic_89 : decode cX0_mimic 89 = .ok (.aload_n 1, 1) := by decide +kernel
theorem dX0_mimic_90 : decode cX0_mimic 90 = .ok (.getfield 27, 3) := by decide +kernel
theorem dX0_mimic_93 : decode cX0_mimic 93 = .ok (.putfield 27, 3) := by decide +kernel
theorem dX0_mimic_96 : decode cX0_mimic 96 = .ok (.return_, 1) := by decide +kernel
theorem dX0_face_0 : decode cX0_face 0 = .ok (.aload_n 0, 1) := by decide +kernel
theorem dX0_face_1 : decode cX0_face 1 = .ok (.iload_n 1, 1) := by decide +kernel
theorem dX0_face_2 : decode cX0_face 2 = .ok (.putfield 9, 3) := by decide +kernel
theorem dX0_face_5 : decode cX0_face 5 = .ok (.aload_n 0, 1) := by decide +kernel
theorem dX0_face_6 : decode cX0_face 6 = .ok (.iconst 0, 1) := by decide +kernel
theorem dX0_face_7 : decode cX0_face 7 = .ok (.putfield 15, 3) := by decide +kernel
theorem dX0_face_10 : decode cX0_face 10 = .ok (.aload_n 0, 1) := by decide +kernel
theorem dX0_face_11 : decode cX0_face 11 = .ok (.getfield 15, 3) := by decide +kernel
theorem dX0_face_14 : decode cX0_face 14 = .ok (.aload_n 0, 1) := by decide +kernel
theorem dX0_face_15 : decode cX0_face 15 = .ok (.getfield 62, 3) := by decide +kernel
theorem dX0_face_18 : decode cX0_face 18 = .ok (.if_icmp .ge 46, 3) := by decide +kernel
theorem dX0_face_21 : decode cX0_face 21 = .ok (.aload_n 0, 1) := by decide +kernel
theorem dX0_face_22 : decode cX0_face 22 = .ok (.getfield 34, 3) := by decide +kernel
theorem dX0_face_25 : decode cX0_face 25 = .ok (.aload_n 0, 1) := by decide +kernel
theorem dX0_face_26 : decode cX0_face 26 = .ok (.aload_n 0, 1) := by decide +kernel
theorem dX0_face_27 : decode cX0_face 27 = .ok (.getfield 15, 3) := by decide +kernel
theorem dX0_face_30 : decode cX0_face 30 = .ok (.iconst 1, 1) := by decide +kernel
theorem dX0_face_31 : decode cX0_face 31 = .ok (.iadd, 1) := by decide +kernel
theorem dX0_face_32 : decode cX0_face 32 = .ok (.invokevirtual 71, 3) := by decide +kernel
theorem dX0_face_35 : decode cX0_face 35 = .ok (.aload_n 0, 1) := by decide +kernel
theorem dX0_face_36 : decode cX0_face 36 = .ok (.aload_n 0, 1) := by decide +kernel
theorem dX0_face_37 : decode cX0_face 37 = .ok (.getfield 15, 3) := by decide +kernel
theorem dX0_face_40 : decode cX0_face 40 = .ok (.iconst 1, 1) := by decide +kernel
theorem dX0_face_41 : decode cX0_face 41 = .ok (.iadd, 1) := by decide +kernel
theorem dX0_face_42 : decode cX0_face 42 = .ok (.invokevirtual 74, 3) := by decide +kernel
theorem dX0_face_45 : decode cX0_face 45 = .ok (.invokevirtual 77, 3) := by decide +kernel
theorem dX0_face_48 : decode cX0_face 48 = .ok (.ifCond .eq 16, 3) := by decide +kernel
theorem dX0_face_51 : decode cX0_face 51 = .ok (.aload_n 0, 1) := by decide +kernel
theorem dX0_face_52 : decode cX0_face 52 = .ok (.dup, 1) := by decide +kernel
theorem dX0_face_53 : decode cX0_face 53 = .ok (.getfield 15, 3) := by decide +kernel
theorem dX0_face_56 : decode cX0_face 56 = .ok (.iconst 1, 1) := by decide +kernel
theorem dX0_face_57 : decode cX0_face 57 = .ok (.iadd, 1) := by decide +kernel
theorem dX0_face_58 : decode cX0_face 58 = .ok (.putfield 15, 3) := by decide +kernel
theorem dX0_face_61 : decode cX0_face 61 = .ok (.goto (-51), 3) := by decide +kernel
theorem dX0_face_64 : decode cX0_face 64 = .ok (.return_, 1) := by decide +kernel
theorem dX0_drawIn_0 : decode cX0_drawIn 0 = .ok (.aload_n 0, 1) := by decide +kernel
theorem dX0_drawIn_1 : decode cX0_drawIn 1 = .ok (.iload_n 1, 1) := by decide +kernel
theorem dX0_drawIn_2 : decode cX0_drawIn 2 = .ok (.invokevirtual 81, 3) := by decide +kernel
theorem dX0_drawIn_5 : decode cX0_drawIn 5 = .ok (.aload_n 0, 1) := by decide +kernel
theorem dX0_drawIn_6 : decode cX0_drawIn 6 = .ok (.iconst 1, 1) := by decide +kernel
theorem dX0_drawIn_7 : decode cX0_drawIn 7 = .ok (.putfield 18, 3) := by decide +kernel
theorem dX0_drawIn_10 : decode cX0_drawIn 10 = .ok (.aload_n 0, 1) := by decide +kernel
theorem dX0_drawIn_11 : decode cX0_drawIn 11 = .ok (.aload_n 0, 1) := by decide +kernel
theorem dX0_drawIn_12 : decode cX0_drawIn 12 = .ok (.getfield 59, 3) := by decide +kernel
theorem dX0_drawIn_15 : decode cX0_drawIn 15 = .ok (.iconst 1, 1) := by decide +kernel
theorem dX0_drawIn_16 : decode cX0_drawIn 16 = .ok (.isub, 1) := by decide +kernel
theorem dX0_drawIn_17 : decode cX0_drawIn 17 = .ok (.putfield 68, 3) := by decide +kernel
theorem dX0_drawIn_20 : decode cX0_drawIn 20 = .ok (.return_, 1) := by decide +kernel
theorem dX0_move_0 : decode cX0_move 0 = .ok (.iload_n 1, 1) := by decide +kernel
theorem dX0_move_1 : decode cX0_move 1 = .ok (.tableswitch 123 0 5 #[39, 55, 71, 84, 97, 110], 39) := by decide +kernel
theorem dX0_move_40 : decode cX0_move 40 = .ok (.aload_n 0, 1) := by decide +kernel
theorem dX0_move_41 : decode cX0_move 41 = .ok (.aload_n 0, 1) := by decide +kernel
theorem dX0_move_42 : decode cX0_move 42 = .ok (.getfield 9, 3) := by decide +kernel
theorem dX0_move_45 : decode cX0_move 45 = .ok (.iconst 1, 1) := by decide +kernel
theorem dX0_move_46 : decode cX0_move 46 = .ok (.iadd, 1) := by decide +kernel
theorem dX0_move_47 : decode cX0_move 47 = .ok (.bipush 7, 2) := by decide +kernel
theorem dX0_move_49 : decode cX0_move 49 = .ok (.iand, 1) := by decide +kernel
theorem dX0_move_50 : decode cX0_move 50 = .ok (.invokevirtual 81, 3) := by decide +kernel
theorem dX0_move_53 : decode cX0_move 53 = .ok (.goto 71, 3) := by decide +kernel
theorem dX0_move_56 : decode cX0_move 56 = .ok (.aload_n 0, 1) := by decide +kernel
theorem dX0_move_57 : decode cX0_move 57 = .ok (.aload_n 0, 1) := by decide +kernel
theorem dX0_move_58 : decode cX0_move 58 = .ok (.getfield 9, 3) := by decide +kernel
theorem dX0_move_61 : decode cX0_move 61 = .ok (.iconst 1, 1) := by decide +kernel
theorem dX0_move_62 : decode cX0_move 62 = .ok (.isub, 1) := by decide +kernel
theorem dX0_move_63 : decode cX0_move 63 = .ok (.bipush 7, 2) := by decide +kernel
theorem dX0_move_65 : decode cX0_move 65 = .ok (.iand, 1) := by decide +kernel
theorem dX0_move_66 : decode cX0_move 66 = .ok (.invokevirtual 81, 3) := by decide +kernel
theorem dX0_move_69 : decode cX0_move 69 = .ok (.goto 55, 3) := by decide +kernel
theorem dX0_move_72 : decode cX0_move 72 = .ok (.aload_n 0, 1) := by decide +kernel
theorem dX0_move_73 : decode cX0_move 73 = .ok (.dup, 1) := by decide +kernel
theorem dX0_move_74 : decode cX0_move 74 = .ok (.getfield 18, 3) := by decide +kernel
theorem dX0_move_77 : decode cX0_move 77 = .ok (.iconst 1, 1) := by decide +kernel
theorem dX0_move_78 : decode cX0_move 78 = .ok (.iadd, 1) := by decide +kernel
theorem dX0_move_79 : decode cX0_move 79 = .ok (.putfield 18, 3) := by decide +kernel
theorem dX0_move_82 : decode cX0_move 82 = .ok (.goto 42, 3) := by decide +kernel
theorem dX0_move_85 : decode cX0_move 85 = .ok (.aload_n 0, 1) := by decide +kernel
theorem dX0_move_86 : decode cX0_move 86 = .ok (.dup, 1) := by decide +kernel
theorem dX0_move_87 : decode cX0_move 87 = .ok (.getfield 18, 3) := by decide +kernel
theorem dX0_move_90 : decode cX0_move 90 = .ok (.iconst 1, 1) := by decide +kernel
theorem dX0_move_91 : decode cX0_move 91 = .ok (.isub, 1) := by decide +kernel
theorem dX0_move_92 : decode cX0_move 92 = .ok (.putfield 18, 3) := by decide +kernel
theorem dX0_move_95 : decode cX0_move 95 = .ok (.goto 29, 3) := by decide +kernel
theorem dX0_move_98 : decode cX0_move 98 = .ok (.aload_n 0, 1) := by decide +kernel
theorem dX0_move_99 : decode cX0_move 99 = .ok (.dup, 1) := by decide +kernel
theorem dX0_move_100 : decode cX0_move 100 = .ok (.getfield 68, 3) := by decide +kernel
theorem dX0_move_103 : decode cX0_move 103 = .ok (.iconst 1, 1) := by decide +kernel
theorem dX0_move_104 : decode cX0_move 104 = .ok (.iadd, 1) := by decide +kernel
theorem dX0_move_105 : decode cX0_move 105 = .ok (.putfield 68, 3) := by decide +kernel
theorem dX0_move_108 : decode cX0_move 108 = .ok (.goto 16, 3) := by decide +kernel
theorem dX0_move_111 : decode cX0_move 111 = .ok (.aload_n 0, 1) := by decide +kernel
theorem dX0_move_112 : decode cX0_move 112 = .ok (.dup, 1) := by decide +kernel
theorem dX0_move_113 : decode cX0_move 113 = .ok (.getfield 68, 3) := by decide +kernel
theorem dX0_move_116 : decode cX0_move 116 = .ok (.iconst 1, 1) := by decide +kernel
theorem dX0_move_117 : decode cX0_move 117 = .ok (.isub, 1) := by decide +kernel
theorem dX0_move_118 : decode cX0_move 118 = .ok (.putfield 68, 3) := by decide +kernel
theorem dX0_move_121 : decode cX0_move 121 = .ok (.goto 3, 3) := by decide +kernel
theorem dX0_move_124 : decode cX0_move 124 = .ok (.return_, 1) := by decide +kernel
theorem dX0_tire_0 : decode cX0_tire 0 = .ok (.aload_n 0, 1) := by decide +kernel
theorem dX0_tire_1 : decode cX0_tire 1 = .ok (.iload_n 1, 1) := by decide +kernel
theorem dX0_tire_2 : decode cX0_tire 2 = .ok (.bipush 6, 2) := by decide +kernel
theorem dX0_tire_4 : decode cX0_tire 4 = .ok (.if_icmp .ne 7, 3) := by decide +kernel
theorem dX0_tire_7 : decode cX0_tire 7 = .ok (.iconst 0, 1) := by decide +kernel
theorem dX0_tire_8 : decode cX0_tire 8 = .ok (.goto 9, 3) := by decide +kernel
theorem dX0_tire_11 : decode cX0_tire 11 = .ok (.aload_n 0, 1) := by decide +kernel
theorem dX0_tire_12 : decode cX0_tire 12 = .ok (.getfield 24, 3) := by decide +kernel
theorem dX0_tire_15 : decode cX0_tire 15 = .ok (.iconst 1, 1) := by decide +kernel
theorem dX0_tire_16 : decode cX0_tire 16 = .ok (.iadd, 1) := by decide +kernel
theorem dX0_tire_17 : decode cX0_tire 17 = .ok (.putfield 24, 3) := by decide +kernel
theorem dX0_tire_20 : decode cX0_tire 20 = .ok (.iload_n 1, 1) := by decide +kernel
theorem dX0_tire_21 : decode cX0_tire 21 = .ok (.ifCond .eq 8, 3) := by decide +kernel
theorem dX0_tire_24 : decode cX0_tire 24 = .ok (.iload_n 1, 1) := by decide +kernel
theorem dX0_tire_25 : decode cX0_tire 25 = .ok (.iconst 1, 1) := by decide +kernel
theorem dX0_tire_26 : decode cX0_tire 26 = .ok (.if_icmp .ne 32, 3) := by decide +kernel
theorem dX0_tire_29 : decode cX0_tire 29 = .ok (.aload_n 0, 1) := by decide +kernel
theorem dX0_tire_30 : decode cX0_tire 30 = .ok (.aload_n 0, 1) := by decide +kernel
theorem dX0_tire_31 : decode cX0_tire 31 = .ok (.getfield 21, 3) := by decide +kernel
theorem dX0_tire_34 : decode cX0_tire 34 = .ok (.aload_n 0, 1) := by decide +kernel
theorem dX0_tire_35 : decode cX0_tire 35 = .ok (.getfield 27, 3) := by decide +kernel
theorem dX0_tire_38 : decode cX0_tire 38 = .ok (.ifnonnull 7, 3) := by decide +kernel
theorem dX0_tire_41 : decode cX0_tire 41 = .ok (.iconst 2, 1) := by decide +kernel
theorem dX0_tire_42 : decode cX0_tire 42 = .ok (.goto 4, 3) := by decide +kernel
theorem dX0_tire_45 : decode cX0_tire 45 = .ok (.iconst 3, 1) := by decide +kernel
theorem dX0_tire_46 : decode cX0_tire 46 = .ok (.iadd, 1) := by decide +kernel
theorem dX0_tire_47 : decode cX0_tire 47 = .ok (.bipush 20, 2) := by decide +kernel
theorem dX0_tire_49 : decode cX0_tire 49 = .ok (.invokestatic 85, 3) := by decide +kernel
theorem dX0_tire_52 : decode cX0_tire 52 = .ok (.putfield 21, 3) := by decide +kernel
theorem dX0_tire_55 : decode cX0_tire 55 = .ok (.goto 8, 3) := by decide +kernel
theorem dX0_tire_58 : decode cX0_tire 58 = .ok (.aload_n 0, 1) := by decide +kernel
theorem dX0_tire_59 : decode cX0_tire 59 = .ok (.iconst 1, 1) := by decide +kernel
theorem dX0_tire_60 : decode cX0_tire 60 = .ok (.invokevirtual 91, 3) := by decide +kernel
theorem dX0_tire_63 : decode cX0_tire 63 = .ok (.return_, 1) := by decide +kernel
theorem dX0_settle_0 : decode cX0_settle 0 = .ok (.aload_n 0, 1) := by decide +kernel
theorem dX0_settle_1 : decode cX0_settle 1 = .ok (.aload_n 0, 1) := by decide +kernel
theorem dX0_settle_2 : decode cX0_settle 2 = .ok (.getfield 21, 3) := by decide +kernel
theorem dX0_settle_5 : decode cX0_settle 5 = .ok (.iload_n 1, 1) := by decide +kernel
theorem dX0_settle_6 : decode cX0_settle 6 = .ok (.isub, 1) := by decide +kernel
theorem dX0_settle_7 : decode cX0_settle 7 = .ok (.iconst 0, 1) := by decide +kernel
theorem dX0_settle_8 : decode cX0_settle 8 = .ok (.invokestatic 94, 3) := by decide +kernel
theorem dX0_settle_11 : decode cX0_settle 11 = .ok (.putfield 21, 3) := by decide +kernel
theorem dX0_settle_14 : decode cX0_settle 14 = .ok (.return_, 1) := by decide +kernel
theorem dX0_rowAt_0 : decode cX0_rowAt 0 = .ok (.aload_n 0, 1) := by decide +kernel
theorem dX0_rowAt_1 : decode cX0_rowAt 1 = .ok (.getfield 50, 3) := by decide +kernel
theorem dX0_rowAt_4 : decode cX0_rowAt 4 = .ok (.iload_n 1, 1) := by decide +kernel
theorem dX0_rowAt_5 : decode cX0_rowAt 5 = .ok (.getstatic 97, 3) := by decide +kernel
theorem dX0_rowAt_8 : decode cX0_rowAt 8 = .ok (.aload_n 0, 1) := by decide +kernel
theorem dX0_rowAt_9 : decode cX0_rowAt 9 = .ok (.getfield 9, 3) := by decide +kernel
theorem dX0_rowAt_12 : decode cX0_rowAt 12 = .ok (.bipush 7, 2) := by decide +kernel
theorem dX0_rowAt_14 : decode cX0_rowAt 14 = .ok (.iand, 1) := by decide +kernel
theorem dX0_rowAt_15 : decode cX0_rowAt 15 = .ok (.iaload, 1) := by decide +kernel
theorem dX0_rowAt_16 : decode cX0_rowAt 16 = .ok (.imul, 1) := by decide +kernel
theorem dX0_rowAt_17 : decode cX0_rowAt 17 = .ok (.iadd, 1) := by decide +kernel
theorem dX0_rowAt_18 : decode cX0_rowAt 18 = .ok (.ireturn, 1) := by decide +kernel
theorem dX0_columnAt_0 : decode cX0_columnAt 0 = .ok (.aload_n 0, 1) := by decide +kernel
theorem dX0_columnAt_1 : decode cX0_columnAt 1 = .ok (.getfield 56, 3) := by decide +kernel
theorem dX0_columnAt_4 : decode cX0_columnAt 4 = .ok (.iload_n 1, 1) := by decide +kernel
theorem dX0_columnAt_5 : decode cX0_columnAt 5 = .ok (.getstatic 101, 3) := by decide +kernel
theorem dX0_columnAt_8 : decode cX0_columnAt 8 = .ok (.aload_n 0, 1) := by decide +kernel
theorem dX0_columnAt_9 : decode cX0_columnAt 9 = .ok (.getfield 9, 3) := by decide +kernel
theorem dX0_columnAt_12 : decode cX0_columnAt 12 = .ok (.bipush 7, 2) := by decide +kernel
theorem dX0_columnAt_14 : decode cX0_columnAt 14 = .ok (.iand, 1) := by decide +kernel
theorem dX0_columnAt_15 : decode cX0_columnAt 15 = .ok (.iaload, 1) := by decide +kernel
theorem dX0_columnAt_16 : decode cX0_columnAt 16 = .ok (.imul, 1) := by decide +kernel
theorem dX0_columnAt_17 : decode cX0_columnAt 17 = .ok (.iadd, 1) := by decide +kernel
theorem dX0_columnAt_18 : decode cX0_columnAt 18 = .ok (.ireturn, 1) := by decide +kernel
theorem dX0_plumb_0 : decode cX0_plumb 0 = .ok (.aload_n 0, 1) := by decide +kernel
theorem dX0_plumb_1 : decode cX0_plumb 1 = .ok (.getfield 34, 3) := by decide +kernel
theorem dX0_plumb_4 : decode cX0_plumb 4 = .ok (.aload_n 0, 1) := by decide +kernel
theorem dX0_plumb_5 : decode cX0_plumb 5 = .ok (.aload_n 0, 1) := by decide +kernel
theorem dX0_plumb_6 : decode cX0_plumb 6 = .ok (.getfield 18, 3) := by decide +kernel
theorem dX0_plumb_9 : decode cX0_plumb 9 = .ok (.invokevirtual 71, 3) := by decide +kernel
theorem dX0_plumb_12 : decode cX0_plumb 12 = .ok (.aload_n 0, 1) := by decide +kernel
theorem dX0_plumb_13 : decode cX0_plumb 13 = .ok (.aload_n 0, 1) := by decide +kernel
theorem dX0_plumb_14 : decode cX0_plumb 14 = .ok (.getfield 18, 3) := by decide +kernel
theorem dX0_plumb_17 : decode cX0_plumb 17 = .ok (.invokevirtual 74, 3) := by decide +kernel
theorem dX0_plumb_20 : decode cX0_plumb 20 = .ok (.invokevirtual 104, 3) := by decide +kernel
theorem dX0_plumb_23 : decode cX0_plumb 23 = .ok (.ireturn, 1) := by decide +kernel
theorem dX0_above_0 : decode cX0_above 0 = .ok (.aload_n 0, 1) := by decide +kernel
theorem dX0_above_1 : decode cX0_above 1 = .ok (.getfield 68, 3) := by decide +kernel
theorem dX0_above_4 : decode cX0_above 4 = .ok (.aload_n 0, 1) := by decide +kernel
theorem dX0_above_5 : decode cX0_above 5 = .ok (.getfield 34, 3) := by decide +kernel
theorem dX0_above_8 : decode cX0_above 8 = .ok (.aload_n 0, 1) := by decide +kernel
theorem dX0_above_9 : decode cX0_above 9 = .ok (.invokevirtual 107, 3) := by decide +kernel
theorem dX0_above_12 : decode cX0_above 12 = .ok (.invokevirtual 111, 3) := by decide +kernel
theorem dX0_above_15 : decode cX0_above 15 = .ok (.isub, 1) := by decide +kernel
theorem dX0_above_16 : decode cX0_above 16 = .ok (.ireturn, 1) := by decide +kernel
theorem dX0_isCalm_0 : decode cX0_isCalm 0 = .ok (.aload_n 0, 1) := by decide +kernel
theorem dX0_isCalm_1 : decode cX0_isCalm 1 = .ok (.getfield 21, 3) := by decide +kernel
theorem dX0_isCalm_4 : decode cX0_isCalm 4 = .ok (.iconst 1, 1) := by decide +kernel
theorem dX0_isCalm_5 : decode cX0_isCalm 5 = .ok (.if_icmp .gt 7, 3) := by decide +kernel
theorem dX0_isCalm_8 : decode cX0_isCalm 8 = .ok (.iconst 1, 1) := by decide +kernel
theorem dX0_isCalm_9 : decode cX0_isCalm 9 = .ok (.goto 4, 3) := by decide +kernel
theorem dX0_isCalm_12 : decode cX0_isCalm 12 = .ok (.iconst 0, 1) := by decide +kernel
theorem dX0_isCalm_13 : decode cX0_isCalm 13 = .ok (.ireturn, 1) := by decide +kernel
theorem dX0_isJustAbove_0 : decode cX0_isJustAbove 0 = .ok (.aload_n 0, 1) := by decide +kernel
theorem dX0_isJustAbove_1 : decode cX0_isJustAbove 1 = .ok (.invokevirtual 114, 3) := by decide +kernel
theorem dX0_isJustAbove_4 : decode cX0_isJustAbove 4 = .ok (.ifCond .eq 15, 3) := by decide +kernel
theorem dX0_isJustAbove_7 : decode cX0_isJustAbove 7 = .ok (.aload_n 0, 1) := by decide +kernel
theorem dX0_isJustAbove_8 : decode cX0_isJustAbove 8 = .ok (.invokevirtual 118, 3) := by decide +kernel
theorem dX0_isJustAbove_11 : decode cX0_isJustAbove 11 = .ok (.iconst 1, 1) := by decide +kernel
theorem dX0_isJustAbove_12 : decode cX0_isJustAbove 12 = .ok (.if_icmp .ne 7, 3) := by decide +kernel
theorem dX0_isJustAbove_15 : decode cX0_isJustAbove 15 = .ok (.iconst 1, 1) := by decide +kernel
theorem dX0_isJustAbove_16 : decode cX0_isJustAbove 16 = .ok (.goto 4, 3) := by decide +kernel
theorem dX0_isJustAbove_19 : decode cX0_isJustAbove 19 = .ok (.iconst 0, 1) := by decide +kernel
theorem dX0_isJustAbove_20 : decode cX0_isJustAbove 20 = .ok (.ireturn, 1) := by decide +kernel
theorem dX0_isPossible_0 : decode cX0_isPossible 0 = .ok (.aload_n 0, 1) := by decide +kernel
theorem dX0_isPossible_1 : decode cX0_isPossible 1 = .ok (.getfield 18, 3) := by decide +kernel
theorem dX0_isPossible_4 : decode cX0_isPossible 4 = .ok (.iconst 1, 1) := by decide +kernel
theorem dX0_isPossible_5 : decode cX0_isPossible 5 = .ok (.if_icmp .lt 31, 3) := by decide +kernel
theorem dX0_isPossible_8 : decode cX0_isPossible 8 = .ok (.aload_n 0, 1) := by decide +kernel
theorem dX0_isPossible_9 : decode cX0_isPossible 9 = .ok (.getfield 18, 3) := by decide +kernel
theorem dX0_isPossible_12 : decode cX0_isPossible 12 = .ok (.aload_n 0, 1) := by decide +kernel
theorem dX0_isPossible_13 : decode cX0_isPossible 13 = .ok (.getfield 15, 3) := by decide +kernel
theorem dX0_isPossible_16 : decode cX0_isPossible 16 = .ok (.if_icmp .gt 20, 3) := by decide +kernel
theorem dX0_isPossible_19 : decode cX0_isPossible 19 = .ok (.aload_n 0, 1) := by decide +kernel
theorem dX0_isPossible_20 : decode cX0_isPossible 20 = .ok (.getfield 68, 3) := by decide +kernel
theorem dX0_isPossible_23 : decode cX0_isPossible 23 = .ok (.aload_n 0, 1) := by decide +kernel
theorem dX0_isPossible_24 : decode cX0_isPossible 24 = .ok (.getfield 59, 3) := by decide +kernel
theorem dX0_isPossible_27 : decode cX0_isPossible 27 = .ok (.iconst 1, 1) := by decide +kernel
theorem dX0_isPossible_28 : decode cX0_isPossible 28 = .ok (.isub, 1) := by decide +kernel
theorem dX0_isPossible_29 : decode cX0_isPossible 29 = .ok (.if_icmp .gt 7, 3) := by decide +kernel
theorem dX0_isPossible_32 : decode cX0_isPossible 32 = .ok (.iconst 1, 1) := by decide +kernel
theorem dX0_isPossible_33 : decode cX0_isPossible 33 = .ok (.goto 4, 3) := by decide +kernel
theorem dX0_isPossible_36 : decode cX0_isPossible 36 = .ok (.iconst 0, 1) := by decide +kernel
theorem dX0_isPossible_37 : decode cX0_isPossible 37 = .ok (.ireturn, 1) := by decide +kernel
theorem dX0_canMeet_0 : decode cX0_canMeet 0 = .ok (.aload_n 0, 1) := by decide +kernel
theorem dX0_canMeet_1 : decode cX0_canMeet 1 = .ok (.aload_n 0, 1) := by decide +kernel
theorem dX0_canMeet_2 : decode cX0_canMeet 2 = .ok (.getfield 18, 3) := by decide +kernel
theorem dX0_canMeet_5 : decode cX0_canMeet 5 = .ok (.invokevirtual 71, 3) := by decide +kernel
theorem dX0_canMeet_8 : decode cX0_canMeet 8 = .ok (.aload_n 1, 1) := by decide +kernel
theorem dX0_canMeet_9 : decode cX0_canMeet 9 = .ok (.aload_n 1, 1) := by decide +kernel
theorem dX0_canMeet_10 : decode cX0_canMeet 10 = .ok (.getfield 18, 3) := by decide +kernel
theorem dX0_canMeet_13 : decode cX0_canMeet 13 = .ok (.invokevirtual 71, 3) := by decide +kernel
theorem dX0_canMeet_16 : decode cX0_canMeet 16 = .ok (.isub, 1) := by decide +kernel
theorem dX0_canMeet_17 : decode cX0_canMeet 17 = .ok (.invokestatic 121, 3) := by decide +kernel
theorem dX0_canMeet_20 : decode cX0_canMeet 20 = .ok (.istore_n 2, 1) := by decide +kernel
theorem dX0_canMeet_21 : decode cX0_canMeet 21 = .ok (.aload_n 0, 1) := by decide +kernel
theorem dX0_canMeet_22 : decode cX0_canMeet 22 = .ok (.aload_n 0, 1) := by decide +kernel
theorem dX0_canMeet_23 : decode cX0_canMeet 23 = .ok (.getfield 18, 3) := by decide +kernel
theorem dX0_canMeet_26 : decode cX0_canMeet 26 = .ok (.invokevirtual 74, 3) := by decide +kernel
theorem dX0_canMeet_29 : decode cX0_canMeet 29 = .ok (.aload_n 1, 1) := by decide +kernel
theorem dX0_canMeet_30 : decode cX0_canMeet 30 = .ok (.aload_n 1, 1) := by decide +kernel
theorem dX0_canMeet_31 : decode cX0_canMeet 31 = .ok (.getfield 18, 3) := by decide +kernel
theorem dX0_canMeet_34 : decode cX0_canMeet 34 = .ok (.invokevirtual 74, 3) := by decide +kernel
theorem dX0_canMeet_37 : decode cX0_canMeet 37 = .ok (.isub, 1) := by decide +kernel
theorem dX0_canMeet_38 : decode cX0_canMeet 38 = .ok (.invokestatic 121, 3) := by decide +kernel
theorem dX0_canMeet_41 : decode cX0_canMeet 41 = .ok (.istore_n 3, 1) := by decide +kernel
theorem dX0_canMeet_42 : decode cX0_canMeet 42 = .ok (.iload_n 2, 1) := by decide +kernel
theorem dX0_canMeet_43 : decode cX0_canMeet 43 = .ok (.iload_n 3, 1) := by decide +kernel
theorem dX0_canMeet_44 : decode cX0_canMeet 44 = .ok (.invokestatic 94, 3) := by decide +kernel
theorem dX0_canMeet_47 : decode cX0_canMeet 47 = .ok (.iconst 2, 1) := by decide +kernel
theorem dX0_canMeet_48 : decode cX0_canMeet 48 = .ok (.if_icmp .gt 37, 3) := by decide +kernel
theorem dX0_canMeet_51 : decode cX0_canMeet 51 = .ok (.aload_n 0, 1) := by decide +kernel
theorem dX0_canMeet_52 : decode cX0_canMeet 52 = .ok (.getfield 68, 3) := by decide +kernel
theorem dX0_canMeet_55 : decode cX0_canMeet 55 = .ok (.aload_n 1, 1) := by decide +kernel
theorem dX0_canMeet_56 : decode cX0_canMeet 56 = .ok (.getfield 68, 3) := by decide +kernel
theorem dX0_canMeet_59 : decode cX0_canMeet 59 = .ok (.isub, 1) := by decide +kernel
theorem dX0_canMeet_60 : decode cX0_canMeet 60 = .ok (.invokestatic 121, 3) := by decide +kernel
theorem dX0_canMeet_63 : decode cX0_canMeet 63 = .ok (.iconst 2, 1) := by decide +kernel
theorem dX0_canMeet_64 : decode cX0_canMeet 64 = .ok (.if_icmp .gt 21, 3) := by decide +kernel
theorem dX0_canMeet_67 : decode cX0_canMeet 67 = .ok (.aload_n 0, 1) := by decide +kernel
theorem dX0_canMeet_68 : decode cX0_canMeet 68 = .ok (.invokevirtual 114, 3) := by decide +kernel
theorem dX0_canMeet_71 : decode cX0_canMeet 71 = .ok (.ifCond .eq 14, 3) := by decide +kernel
theorem dX0_canMeet_74 : decode cX0_canMeet 74 = .ok (.aload_n 1, 1) := by decide +kernel
theorem dX0_canMeet_75 : decode cX0_canMeet 75 = .ok (.invokevirtual 114, 3) := by decide +kernel
theorem dX0_canMeet_78 : decode cX0_canMeet 78 = .ok (.ifCond .eq 7, 3) := by decide +kernel
theorem dX0_canMeet_81 : decode cX0_canMeet 81 = .ok (.iconst 1, 1) := by decide +kernel
theorem dX0_canMeet_82 : decode cX0_canMeet 82 = .ok (.goto 4, 3) := by decide +kernel
theorem dX0_canMeet_85 : decode cX0_canMeet 85 = .ok (.iconst 0, 1) := by decide +kernel
theorem dX0_canMeet_86 : decode cX0_canMeet 86 = .ok (.ireturn, 1) := by decide +kernel
theorem dX0_weight_0 : decode cX0_weight 0 = .ok (.aload_n 0, 1) := by decide +kernel
theorem dX0_weight_1 : decode cX0_weight 1 = .ok (.getfield 59, 3) := by decide +kernel
theorem dX0_weight_4 : decode cX0_weight 4 = .ok (.aload_n 0, 1) := by decide +kernel
theorem dX0_weight_5 : decode cX0_weight 5 = .ok (.getfield 62, 3) := by decide +kernel
theorem dX0_weight_8 : decode cX0_weight 8 = .ok (.iadd, 1) := by decide +kernel
theorem dX0_weight_9 : decode cX0_weight 9 = .ok (.ireturn, 1) := by decide +kernel
theorem dX0_apartFromJib_0 : decode cX0_apartFromJib 0 = .ok (.getstatic 97, 3) := by decide +kernel
theorem dX0_apartFromJib_3 : decode cX0_apartFromJib 3 = .ok (.aload_n 0, 1) := by decide +kernel
theorem dX0_apartFromJib_4 : decode cX0_apartFromJib 4 = .ok (.getfield 9, 3) := by decide +kernel
theorem dX0_apartFromJib_7 : decode cX0_apartFromJib 7 = .ok (.bipush 7, 2) := by decide +kernel
theorem dX0_apartFromJib_9 : decode cX0_apartFromJib 9 = .ok (.iand, 1) := by decide +kernel
theorem dX0_apartFromJib_10 : decode cX0_apartFromJib 10 = .ok (.iaload, 1) := by decide +kernel
theorem dX0_apartFromJib_11 : decode cX0_apartFromJib 11 = .ok (.istore_n 3, 1) := by decide +kernel
theorem dX0_apartFromJib_12 : decode cX0_apartFromJib 12 = .ok (.getstatic 101, 3) := by decide +kernel
theorem dX0_apartFromJib_15 : decode cX0_apartFromJib 15 = .ok (.aload_n 0, 1) := by decide +kernel
theorem dX0_apartFromJib_16 : decode cX0_apartFromJib 16 = .ok (.getfield 9, 3) := by decide +kernel
theorem dX0_apartFromJib_19 : decode cX0_apartFromJib 19 = .ok (.bipush 7, 2) := by decide +kernel
theorem dX0_apartFromJib_21 : decode cX0_apartFromJib 21 = .ok (.iand, 1) := by decide +kernel
theorem dX0_apartFromJib_22 : decode cX0_apartFromJib 22 = .ok (.iaload, 1) := by decide +kernel
theorem dX0_apartFromJib_23 : decode cX0_apartFromJib 23 = .ok (.istore 4, 2) := by decide +kernel
theorem dX0_apartFromJib_25 : decode cX0_apartFromJib 25 = .ok (.iload_n 1, 1) := by decide +kernel
theorem dX0_apartFromJib_26 : decode cX0_apartFromJib 26 = .ok (.aload_n 0, 1) := by decide +kernel
theorem dX0_apartFromJib_27 : decode cX0_apartFromJib 27 = .ok (.getfield 50, 3) := by decide +kernel
theorem dX0_apartFromJib_30 : decode cX0_apartFromJib 30 = .ok (.isub, 1) := by decide +kernel
theorem dX0_apartFromJib_31 : decode cX0_apartFromJib 31 = .ok (.istore 5, 2) := by decide +kernel
theorem dX0_apartFromJib_33 : decode cX0_apartFromJib 33 = .ok (.iload_n 2, 1) := by decide +kernel
theorem dX0_apartFromJib_34 : decode cX0_apartFromJib 34 = .ok (.aload_n 0, 1) := by decide +kernel
theorem dX0_apartFromJib_35 : decode cX0_apartFromJib 35 = .ok (.getfield 56, 3) := by decide +kernel
theorem dX0_apartFromJib_38 : decode cX0_apartFromJib 38 = .ok (.isub, 1) := by decide +kernel
theorem dX0_apartFromJib_39 : decode cX0_apartFromJib 39 = .ok (.istore 6, 2) := by decide +kernel
theorem dX0_apartFromJib_41 : decode cX0_apartFromJib 41 = .ok (.iload 5, 2) := by decide +kernel
theorem dX0_apartFromJib_43 : decode cX0_apartFromJib 43 = .ok (.iload_n 3, 1) := by decide +kernel
theorem dX0_apartFromJib_44 : decode cX0_apartFromJib 44 = .ok (.imul, 1) := by decide +kernel
theorem dX0_apartFromJib_45 : decode cX0_apartFromJib 45 = .ok (.iload 6, 2) := by decide +kernel
theorem dX0_apartFromJib_47 : decode cX0_apartFromJib 47 = .ok (.iload 4, 2) := by decide +kernel
theorem dX0_apartFromJib_49 : decode cX0_apartFromJib 49 = .ok (.imul, 1) := by decide +kernel
theorem dX0_apartFromJib_50 : decode cX0_apartFromJib 50 = .ok (.iadd, 1) := by decide +kernel
theorem dX0_apartFromJib_51 : decode cX0_apartFromJib 51 = .ok (.istore 7, 2) := by decide +kernel
theorem dX0_apartFromJib_53 : decode cX0_apartFromJib 53 = .ok (.iload_n 3, 1) := by decide +kernel
theorem dX0_apartFromJib_54 : decode cX0_apartFromJib 54 = .ok (.ifCond .eq 14, 3) := by decide +kernel
theorem dX0_apartFromJib_57 : decode cX0_apartFromJib 57 = .ok (.iload 4, 2) := by decide +kernel
theorem dX0_apartFromJib_59 : decode cX0_apartFromJib 59 = .ok (.ifCond .eq 9, 3) := by decide +kernel
theorem dX0_apartFromJib_62 : decode cX0_apartFromJib 62 = .ok (.iload 7, 2) := by decide +kernel
theorem dX0_apartFromJib_64 : decode cX0_apartFromJib 64 = .ok (.iconst 1, 1) := by decide +kernel
theorem dX0_apartFromJib_65 : decode cX0_apartFromJib 65 = .ok (.ishr, 1) := by decide +kernel
theorem dX0_apartFromJib_66 : decode cX0_apartFromJib 66 = .ok (.istore 7, 2) := by decide +kernel
theorem dX0_apartFromJib_68 : decode cX0_apartFromJib 68 = .ok (.iconst 0, 1) := by decide +kernel
theorem dX0_apartFromJib_69 : decode cX0_apartFromJib 69 = .ok (.iload 7, 2) := by decide +kernel
theorem dX0_apartFromJib_71 : decode cX0_apartFromJib 71 = .ok (.aload_n 0, 1) := by decide +kernel
theorem dX0_apartFromJib_72 : decode cX0_apartFromJib 72 = .ok (.getfield 15, 3) := by decide +kernel
theorem dX0_apartFromJib_75 : decode cX0_apartFromJib 75 = .ok (.invokestatic 85, 3) := by decide +kernel
theorem dX0_apartFromJib_78 : decode cX0_apartFromJib 78 = .ok (.invokestatic 94, 3) := by decide +kernel
theorem dX0_apartFromJib_81 : decode cX0_apartFromJib 81 = .ok (.istore 7, 2) := by decide +kernel
theorem dX0_apartFromJib_83 : decode cX0_apartFromJib 83 = .ok (.iload 5, 2) := by decide +kernel
theorem dX0_apartFromJib_85 : decode cX0_apartFromJib 85 = .ok (.iload 7, 2) := by decide +kernel
theorem dX0_apartFromJib_87 : decode cX0_apartFromJib 87 = .ok (.iload_n 3, 1) := by decide +kernel
theorem dX0_apartFromJib_88 : decode cX0_apartFromJib 88 = .ok (.imul, 1) := by decide +kernel
theorem dX0_apartFromJib_89 : decode cX0_apartFromJib 89 = .ok (.isub, 1) := by decide +kernel
theorem dX0_apartFromJib_90 : decode cX0_apartFromJib 90 = .ok (.invokestatic 121, 3) := by decide +kernel
theorem dX0_apartFromJib_93 : decode cX0_apartFromJib 93 = .ok (.iload 6, 2) := by decide +kernel
theorem dX0_apartFromJib_95 : decode cX0_apartFromJib 95 = .ok (.iload 7, 2) := by decide +kernel
theorem dX0_apartFromJib_97 : decode cX0_apartFromJib 97 = .ok (.iload 4, 2) := by decide +kernel
theorem dX0_apartFromJib_99 : decode cX0_apartFromJib 99 = .ok (.imul, 1) := by decide +kernel
theorem dX0_apartFromJib_100 : decode cX0_apartFromJib 100 = .ok (.isub, 1) := by decide +kernel
theorem dX0_apartFromJib_101 : decode cX0_apartFromJib 101 = .ok (.invokestatic 121, 3) := by decide +kernel
theorem dX0_apartFromJib_104 : decode cX0_apartFromJib 104 = .ok (.invokestatic 94, 3) := by decide +kernel
theorem dX0_apartFromJib_107 : decode cX0_apartFromJib 107 = .ok (.ireturn, 1) := by decide +kernel
theorem dX0_apartFromJibOf_0 : decode cX0_apartFromJibOf 0 = .ok (.sipush 196, 3) := by decide +kernel
theorem dX0_apartFromJibOf_3 : decode cX0_apartFromJibOf 3 = .ok (.istore_n 2, 1) := by decide +kernel
theorem dX0_apartFromJibOf_4 : decode cX0_apartFromJibOf 4 = .ok (.iconst 0, 1) := by decide +kernel
theorem dX0_apartFromJibOf_5 : decode cX0_apartFromJibOf 5 = .ok (.istore_n 3, 1) := by decide +kernel
theorem dX0_apartFromJibOf_6 : decode cX0_apartFromJibOf 6 = .ok (.iload_n 3, 1) := by decide +kernel
theorem dX0_apartFromJibOf_7 : decode cX0_apartFromJibOf 7 = .ok (.aload_n 0, 1) := by decide +kernel
theorem dX0_apartFromJibOf_8 : decode cX0_apartFromJibOf 8 = .ok (.getfield 15, 3) := by decide +kernel
theorem dX0_apartFromJibOf_11 : decode cX0_apartFromJibOf 11 = .ok (.if_icmp .gt 28, 3) := by decide +kernel
theorem dX0_apartFromJibOf_14 : decode cX0_apartFromJibOf 14 = .ok (.iload_n 2, 1) := by decide +kernel
theorem dX0_apartFromJibOf_15 : decode cX0_apartFromJibOf 15 = .ok (.aload_n 1, 1) := by decide +kernel
theorem dX0_apartFromJibOf_16 : decode cX0_apartFromJibOf 16 = .ok (.aload_n 0, 1) := by decide +kernel
theorem dX0_apartFromJibOf_17 : decode cX0_apartFromJibOf 17 = .ok (.iload_n 3, 1) := by decide +kernel
theorem dX0_apartFromJibOf_18 : decode cX0_apartFromJibOf 18 = .ok (.invokevirtual 71, 3) := by decide +kernel
theorem dX0_apartFromJibOf_21 : decode cX0_apartFromJibOf 21 = .ok (.aload_n 0, 1) := by decide +kernel
theorem dX0_apartFromJibOf_22 : decode cX0_apartFromJibOf 22 = .ok (.iload_n 3, 1) := by decide +kernel
theorem dX0_apartFromJibOf_23 : decode cX0_apartFromJibOf 23 = .ok (.invokevirtual 74, 3) := by decide +kernel
theorem dX0_apartFromJibOf_26 : decode cX0_apartFromJibOf 26 = .ok (.invokevirtual 124, 3) := by decide +kernel
theorem dX0_apartFromJibOf_29 : decode cX0_apartFromJibOf 29 = .ok (.invokestatic 85, 3) := by decide +kernel
theorem dX0_apartFromJibOf_32 : decode cX0_apartFromJibOf 32 = .ok (.istore_n 2, 1) := by decide +kernel
theorem dX0_apartFromJibOf_33 : decode cX0_apartFromJibOf 33 = .ok (.iinc 3 1, 3) := by decide +kernel
theorem dX0_apartFromJibOf_36 : decode cX0_apartFromJibOf 36 = .ok (.goto (-30), 3) := by decide +kernel
theorem dX0_apartFromJibOf_39 : decode cX0_apartFromJibOf 39 = .ok (.iload_n 2, 1) := by decide +kernel
theorem dX0_apartFromJibOf_40 : decode cX0_apartFromJibOf 40 = .ok (.ireturn, 1) := by decide +kernel
theorem dX0_clashRule_0 : decode cX0_clashRule 0 = .ok (.aload_n 0, 1) := by decide +kernel
theorem dX0_clashRule_1 : decode cX0_clashRule 1 = .ok (.getfield 59, 3) := by decide +kernel
theorem dX0_clashRule_4 : decode cX0_clashRule 4 = .ok (.aload_n 1, 1) := by decide +kernel
theorem dX0_clashRule_5 : decode cX0_clashRule 5 = .ok (.getfield 59, 3) := by decide +kernel
theorem dX0_clashRule_8 : decode cX0_clashRule 8 = .ok (.if_icmp .gt 7, 3) := by decide +kernel
theorem dX0_clashRule_11 : decode cX0_clashRule 11 = .ok (.aload_n 0, 1) := by decide +kernel
theorem dX0_clashRule_12 : decode cX0_clashRule 12 = .ok (.goto 4, 3) := by decide +kernel
theorem dX0_clashRule_15 : decode cX0_clashRule 15 = .ok (.aload_n 1, 1) := by decide +kernel
theorem dX0_clashRule_16 : decode cX0_clashRule 16 = .ok (.astore_n 3, 1) := by decide +kernel
theorem dX0_clashRule_17 : decode cX0_clashRule 17 = .ok (.aload_n 3, 1) := by decide +kernel
theorem dX0_clashRule_18 : decode cX0_clashRule 18 = .ok (.aload_n 0, 1) := by decide +kernel
theorem dX0_clashRule_19 : decode cX0_clashRule 19 = .ok (.if_acmp .ne 7, 3) := by decide +kernel
theorem dX0_clashRule_22 : decode cX0_clashRule 22 = .ok (.aload_n 1, 1) := by decide +kernel
theorem dX0_clashRule_23 : decode cX0_clashRule 23 = .ok (.goto 4, 3) := by decide +kernel
theorem dX0_clashRule_26 : decode cX0_clashRule 26 = .ok (.aload_n 0, 1) := by decide +kernel
theorem dX0_clashRule_27 : decode cX0_clashRule 27 = .ok (.astore 4, 2) := by decide +kernel
theorem dX0_clashRule_29 : decode cX0_clashRule 29 = .ok (.aload 4, 2) := by decide +kernel
theorem dX0_clashRule_31 : decode cX0_clashRule 31 = .ok (.getfield 59, 3) := by decide +kernel
theorem dX0_clashRule_34 : decode cX0_clashRule 34 = .ok (.aload_n 3, 1) := by decide +kernel
theorem dX0_clashRule_35 : decode cX0_clashRule 35 = .ok (.getfield 59, 3) := by decide +kernel
theorem dX0_clashRule_38 : decode cX0_clashRule 38 = .ok (.isub, 1) := by decide +kernel
theorem dX0_clashRule_39 : decode cX0_clashRule 39 = .ok (.iconst 3, 1) := by decide +kernel
theorem dX0_clashRule_40 : decode cX0_clashRule 40 = .ok (.if_icmp .ge 15, 3) := by decide +kernel
theorem dX0_clashRule_43 : decode cX0_clashRule 43 = .ok (.aload_n 3, 1) := by decide +kernel
theorem dX0_clashRule_44 : decode cX0_clashRule 44 = .ok (.aload 4, 2) := by decide +kernel
theorem dX0_clashRule_46 : decode cX0_clashRule 46 = .ok (.invokevirtual 127, 3) := by decide +kernel
theorem dX0_clashRule_49 : decode cX0_clashRule 49 = .ok (.iload_n 2, 1) := by decide +kernel
theorem dX0_clashRule_50 : decode cX0_clashRule 50 = .ok (.if_icmp .gt 49, 3) := by decide +kernel
theorem dX0_clashRule_53 : decode cX0_clashRule 53 = .ok (.iconst 1, 1) := by decide +kernel
theorem dX0_clashRule_54 : decode cX0_clashRule 54 = .ok (.ireturn, 1) := by decide +kernel
theorem dX0_clashRule_55 : decode cX0_clashRule 55 = .ok (.aload 4, 2) := by decide +kernel
theorem dX0_clashRule_57 : decode cX0_clashRule 57 = .ok (.getfield 68, 3) := by decide +kernel
theorem dX0_clashRule_60 : decode cX0_clashRule 60 = .ok (.aload_n 3, 1) := by decide +kernel
theorem dX0_clashRule_61 : decode cX0_clashRule 61 = .ok (.getfield 59, 3) := by decide +kernel
theorem dX0_clashRule_64 : decode cX0_clashRule 64 = .ok (.iconst 2, 1) := by decide +kernel
theorem dX0_clashRule_65 : decode cX0_clashRule 65 = .ok (.iadd, 1) := by decide +kernel
theorem dX0_clashRule_66 : decode cX0_clashRule 66 = .ok (.if_icmp .ge 33, 3) := by decide +kernel
theorem dX0_clashRule_69 : decode cX0_clashRule 69 = .ok (.aload_n 3, 1) := by decide +kernel
theorem dX0_clashRule_70 : decode cX0_clashRule 70 = .ok (.aload 4, 2) := by decide +kernel
theorem dX0_clashRule_72 : decode cX0_clashRule 72 = .ok (.aload 4, 2) := by decide +kernel
theorem dX0_clashRule_74 : decode cX0_clashRule 74 = .ok (.getfield 18, 3) := by decide +kernel
theorem dX0_clashRule_77 : decode cX0_clashRule 77 = .ok (.invokevirtual 71, 3) := by decide +kernel
theorem dX0_clashRule_80 : decode cX0_clashRule 80 = .ok (.aload 4, 2) := by decide +kernel
theorem dX0_clashRule_82 : decode cX0_clashRule 82 = .ok (.aload 4, 2) := by decide +kernel
theorem dX0_clashRule_84 : decode cX0_clashRule 84 = .ok (.getfield 18, 3) := by decide +kernel
theorem dX0_clashRule_87 : decode cX0_clashRule 87 = .ok (.invokevirtual 74, 3) := by decide +kernel
theorem dX0_clashRule_90 : decode cX0_clashRule 90 = .ok (.invokevirtual 124, 3) := by decide +kernel
theorem dX0_clashRule_93 : decode cX0_clashRule 93 = .ok (.iload_n 2, 1) := by decide +kernel
theorem dX0_clashRule_94 : decode cX0_clashRule 94 = .ok (.if_icmp .gt 5, 3) := by decide +kernel
theorem dX0_clashRule_97 : decode cX0_clashRule 97 = .ok (.iconst 2, 1) := by decide +kernel
theorem dX0_clashRule_98 : decode cX0_clashRule 98 = .ok (.ireturn, 1) := by decide +kernel
theorem dX0_clashRule_99 : decode cX0_clashRule 99 = .ok (.aload_n 0, 1) := by decide +kernel
theorem dX0_clashRule_100 : decode cX0_clashRule 100 = .ok (.aload_n 1, 1) := by decide +kernel
theorem dX0_clashRule_101 : decode cX0_clashRule 101 = .ok (.iload_n 2, 1) := by decide +kernel
theorem dX0_clashRule_102 : decode cX0_clashRule 102 = .ok (.invokevirtual 131, 3) := by decide +kernel
theorem dX0_clashRule_105 : decode cX0_clashRule 105 = .ok (.ifCond .ne 12, 3) := by decide +kernel
theorem dX0_clashRule_108 : decode cX0_clashRule 108 = .ok (.aload_n 1, 1) := by decide +kernel
theorem dX0_clashRule_109 : decode cX0_clashRule 109 = .ok (.aload_n 0, 1) := by decide +kernel
theorem dX0_clashRule_110 : decode cX0_clashRule 110 = .ok (.iload_n 2, 1) := by decide +kernel
theorem dX0_clashRule_111 : decode cX0_clashRule 111 = .ok (.invokevirtual 131, 3) := by decide +kernel
theorem dX0_clashRule_114 : decode cX0_clashRule 114 = .ok (.ifCond .eq 7, 3) := by decide +kernel
theorem dX0_clashRule_117 : decode cX0_clashRule 117 = .ok (.iconst 3, 1) := by decide +kernel
theorem dX0_clashRule_118 : decode cX0_clashRule 118 = .ok (.goto 4, 3) := by decide +kernel
theorem dX0_clashRule_121 : decode cX0_clashRule 121 = .ok (.iconst 0, 1) := by decide +kernel
theorem dX0_clashRule_122 : decode cX0_clashRule 122 = .ok (.ireturn, 1) := by decide +kernel
theorem dX0_sweepsOn_0 : decode cX0_sweepsOn 0 = .ok (.aload_n 1, 1) := by decide +kernel
theorem dX0_sweepsOn_1 : decode cX0_sweepsOn 1 = .ok (.getfield 59, 3) := by decide +kernel
theorem dX0_sweepsOn_4 : decode cX0_sweepsOn 4 = .ok (.aload_n 0, 1) := by decide +kernel
theorem dX0_sweepsOn_5 : decode cX0_sweepsOn 5 = .ok (.getfield 59, 3) := by decide +kernel
theorem dX0_sweepsOn_8 : decode cX0_sweepsOn 8 = .ok (.iconst 3, 1) := by decide +kernel
theorem dX0_sweepsOn_9 : decode cX0_sweepsOn 9 = .ok (.isub, 1) := by decide +kernel
theorem dX0_sweepsOn_10 : decode cX0_sweepsOn 10 = .ok (.if_icmp .le 23, 3) := by decide +kernel
theorem dX0_sweepsOn_13 : decode cX0_sweepsOn 13 = .ok (.aload_n 0, 1) := by decide +kernel
theorem dX0_sweepsOn_14 : decode cX0_sweepsOn 14 = .ok (.aload_n 1, 1) := by decide +kernel
theorem dX0_sweepsOn_15 : decode cX0_sweepsOn 15 = .ok (.getfield 50, 3) := by decide +kernel
theorem dX0_sweepsOn_18 : decode cX0_sweepsOn 18 = .ok (.aload_n 1, 1) := by decide +kernel
theorem dX0_sweepsOn_19 : decode cX0_sweepsOn 19 = .ok (.getfield 56, 3) := by decide +kernel
theorem dX0_sweepsOn_22 : decode cX0_sweepsOn 22 = .ok (.invokevirtual 124, 3) := by decide +kernel
theorem dX0_sweepsOn_25 : decode cX0_sweepsOn 25 = .ok (.iload_n 2, 1) := by decide +kernel
theorem dX0_sweepsOn_26 : decode cX0_sweepsOn 26 = .ok (.if_icmp .gt 7, 3) := by decide +kernel
theorem dX0_sweepsOn_29 : decode cX0_sweepsOn 29 = .ok (.iconst 1, 1) := by decide +kernel
theorem dX0_sweepsOn_30 : decode cX0_sweepsOn 30 = .ok (.goto 4, 3) := by decide +kernel
theorem dX0_sweepsOn_33 : decode cX0_sweepsOn 33 = .ok (.iconst 0, 1) := by decide +kernel
theorem dX0_sweepsOn_34 : decode cX0_sweepsOn 34 = .ok (.ireturn, 1) := by decide +kernel
theorem dX0_isWithinBounds_0 : decode cX0_isWithinBounds 0 = .ok (.aload_n 0, 1) := by decide +kernel
theorem dX0_isWithinBounds_1 : decode cX0_isWithinBounds 1 = .ok (.getfield 18, 3) := by decide +kernel
theorem dX0_isWithinBounds_4 : decode cX0_isWithinBounds 4 = .ok (.iconst 1, 1) := by decide +kernel
theorem dX0_isWithinBounds_5 : decode cX0_isWithinBounds 5 = .ok (.if_icmp .lt 63, 3) := by decide +kernel
theorem dX0_isWithinBounds_8 : decode cX0_isWithinBounds 8 = .ok (.aload_n 0, 1) := by decide +kernel
theorem dX0_isWithinBounds_9 : decode cX0_isWithinBounds 9 = .ok (.getfield 18, 3) := by decide +kernel
theorem dX0_isWithinBounds_12 : decode cX0_isWithinBounds 12 = .ok (.aload_n 0, 1) := by decide +kernel
theorem dX0_isWithinBounds_13 : decode cX0_isWithinBounds 13 = .ok (.getfield 62, 3) := by decide +kernel
theorem dX0_isWithinBounds_16 : decode cX0_isWithinBounds 16 = .ok (.if_icmp .gt 52, 3) := by decide +kernel
theorem dX0_isWithinBounds_19 : decode cX0_isWithinBounds 19 = .ok (.aload_n 0, 1) := by decide +kernel
theorem dX0_isWithinBounds_20 : decode cX0_isWithinBounds 20 = .ok (.getfield 68, 3) := by decide +kernel
theorem dX0_isWithinBounds_23 : decode cX0_isWithinBounds 23 = .ok (.iconst 1, 1) := by decide +kernel
theorem dX0_isWithinBounds_24 : decode cX0_isWithinBounds 24 = .ok (.if_icmp .lt 44, 3) := by decide +kernel
theorem dX0_isWithinBounds_27 : decode cX0_isWithinBounds 27 = .ok (.aload_n 0, 1) := by decide +kernel
theorem dX0_isWithinBounds_28 : decode cX0_isWithinBounds 28 = .ok (.getfield 68, 3) := by decide +kernel
theorem dX0_isWithinBounds_31 : decode cX0_isWithinBounds 31 = .ok (.aload_n 0, 1) := by decide +kernel
theorem dX0_isWithinBounds_32 : decode cX0_isWithinBounds 32 = .ok (.getfield 59, 3) := by decide +kernel
theorem dX0_isWithinBounds_35 : decode cX0_isWithinBounds 35 = .ok (.iconst 1, 1) := by decide +kernel
theorem dX0_isWithinBounds_36 : decode cX0_isWithinBounds 36 = .ok (.isub, 1) := by decide +kernel
theorem dX0_isWithinBounds_37 : decode cX0_isWithinBounds 37 = .ok (.if_icmp .gt 31, 3) := by decide +kernel
theorem dX0_isWithinBounds_40 : decode cX0_isWithinBounds 40 = .ok (.aload_n 0, 1) := by decide +kernel
theorem dX0_isWithinBounds_41 : decode cX0_isWithinBounds 41 = .ok (.getfield 21, 3) := by decide +kernel
theorem dX0_isWithinBounds_44 : decode cX0_isWithinBounds 44 = .ok (.ifCond .lt 24, 3) := by decide +kernel
theorem dX0_isWithinBounds_47 : decode cX0_isWithinBounds 47 = .ok (.aload_n 0, 1) := by decide +kernel
theorem dX0_isWithinBounds_48 : decode cX0_isWithinBounds 48 = .ok (.getfield 21, 3) := by decide +kernel
theorem dX0_isWithinBounds_51 : decode cX0_isWithinBounds 51 = .ok (.bipush 20, 2) := by decide +kernel
theorem dX0_isWithinBounds_53 : decode cX0_isWithinBounds 53 = .ok (.if_icmp .gt 15, 3) := by decide +kernel
theorem dX0_isWithinBounds_56 : decode cX0_isWithinBounds 56 = .ok (.aload_n 0, 1) := by decide +kernel
theorem dX0_isWithinBounds_57 : decode cX0_isWithinBounds 57 = .ok (.invokevirtual 107, 3) := by decide +kernel
theorem dX0_isWithinBounds_60 : decode cX0_isWithinBounds 60 = .ok (.iconst (-1), 1) := by decide +kernel
theorem dX0_isWithinBounds_61 : decode cX0_isWithinBounds 61 = .ok (.if_icmp .eq 7, 3) := by decide +kernel
theorem dX0_isWithinBounds_64 : decode cX0_isWithinBounds 64 = .ok (.iconst 1, 1) := by decide +kernel
theorem dX0_isWithinBounds_65 : decode cX0_isWithinBounds 65 = .ok (.goto 4, 3) := by decide +kernel
theorem dX0_isWithinBounds_68 : decode cX0_isWithinBounds 68 = .ok (.iconst 0, 1) := by decide +kernel
theorem dX0_isWithinBounds_69 : decode cX0_isWithinBounds 69 = .ok (.ireturn, 1) := by decide +kernel
theorem dX1_init_0 : decode cX1_init 0 = .ok (.aload_n 0, 1) := by decide +kernel
theorem dX1_init_1 : decode cX1_init 1 = .ok (.invokespecial 3, 3) := by decide +kernel
theorem dX1_init_4 : decode cX1_init 4 = .ok (.aload_n 0, 1) := by decide +kernel
theorem dX1_init_5 : decode cX1_init 5 = .ok (.sipush 196, 3) := by decide +kernel
theorem dX1_init_8 : decode cX1_init 8 = .ok (.newarray .int, 2) := by decide +kernel
theorem dX1_init_10 : decode cX1_init 10 = .ok (.putfield 9, 3) := by decide +kernel
theorem dX1_init_13 : decode cX1_init 13 = .ok (.aload_n 0, 1) := by decide +kernel
theorem dX1_init_14 : decode cX1_init 14 = .ok (.iconst 0, 1) := by decide +kernel
theorem dX1_init_15 : decode cX1_init 15 = .ok (.putfield 15, 3) := by decide +kernel
theorem dX1_init_18 : decode cX1_init 18 = .ok (.aload_n 0, 1) := by decide +kernel
theorem dX1_init_19 : decode cX1_init 19 = .ok (.iconst 0, 1) := by decide +kernel
theorem dX1_init_20 : decode cX1_init 20 = .ok (.putfield 19, 3) := by decide +kernel
theorem dX1_init_23 : decode cX1_init 23 = .ok (.return_, 1) := by decide +kernel
theorem dX1_lay_0 : decode cX1_lay 0 = .ok (.aload_n 0, 1) := by decide +kernel
theorem dX1_lay_1 : decode cX1_lay 1 = .ok (.iload_n 1, 1) := by decide +kernel
theorem dX1_lay_2 : decode cX1_lay 2 = .ok (.putfield 15, 3) := by decide +kernel
theorem dX1_lay_5 : decode cX1_lay 5 = .ok (.aload_n 0, 1) := by decide +kernel
theorem dX1_lay_6 : decode cX1_lay 6 = .ok (.iload_n 2, 1) := by decide +kernel
theorem dX1_lay_7 : decode cX1_lay 7 = .ok (.putfield 19, 3) := by decide +kernel
theorem dX1_lay_10 : decode cX1_lay 10 = .ok (.aload_n 0, 1) := by decide +kernel
theorem dX1_lay_11 : decode cX1_lay 11 = .ok (.getfield 9, 3) := by decide +kernel
theorem dX1_lay_14 : decode cX1_lay 14 = .ok (.iconst 0, 1) := by decide +kernel
theorem dX1_lay_15 : decode cX1_lay 15 = .ok (.invokestatic 22, 3) := by decide +kernel
theorem dX1_lay_18 : decode cX1_lay 18 = .ok (.return_, 1) := by decide +kernel
theorem dX1_cells_0 : decode cX1_cells 0 = .ok (.aload_n 0, 1) := by decide +kernel
theorem dX1_cells_1 : decode cX1_cells 1 = .ok (.getfield 15, 3) := by decide +kernel
theorem dX1_cells_4 : decode cX1_cells 4 = .ok (.aload_n 0, 1) := by decide +kernel
theorem dX1_cells_5 : decode cX1_cells 5 = .ok (.getfield 19, 3) := by decide +kernel
theorem dX1_cells_8 : decode cX1_cells 8 = .ok (.imul, 1) := by decide +kernel
theorem dX1_cells_9 : decode cX1_cells 9 = .ok (.ireturn, 1) := by decide +kernel
theorem dX1_hasCell_0 : decode cX1_hasCell 0 = .ok (.iload_n 1, 1) := by decide +kernel
theorem dX1_hasCell_1 : decode cX1_hasCell 1 = .ok (.ifCond .lt 15, 3) := by decide +kernel
theorem dX1_hasCell_4 : decode cX1_hasCell 4 = .ok (.iload_n 1, 1) := by decide +kernel
theorem dX1_hasCell_5 : decode cX1_hasCell 5 = .ok (.aload_n 0, 1) := by decide +kernel
theorem dX1_hasCell_6 : decode cX1_hasCell 6 = .ok (.invokevirtual 28, 3) := by decide +kernel
theorem dX1_hasCell_9 : decode cX1_hasCell 9 = .ok (.if_icmp .ge 7, 3) := by decide +kernel
theorem dX1_hasCell_12 : decode cX1_hasCell 12 = .ok (.iconst 1, 1) := by decide +kernel
theorem dX1_hasCell_13 : decode cX1_hasCell 13 = .ok (.goto 4, 3) := by decide +kernel
theorem dX1_hasCell_16 : decode cX1_hasCell 16 = .ok (.iconst 0, 1) := by decide +kernel
theorem dX1_hasCell_17 : decode cX1_hasCell 17 = .ok (.ireturn, 1) := by decide +kernel
theorem dX1_hasPlace_0 : decode cX1_hasPlace 0 = .ok (.iload_n 1, 1) := by decide +kernel
theorem dX1_hasPlace_1 : decode cX1_hasPlace 1 = .ok (.ifCond .lt 27, 3) := by decide +kernel
theorem dX1_hasPlace_4 : decode cX1_hasPlace 4 = .ok (.iload_n 1, 1) := by decide +kernel
theorem dX1_hasPlace_5 : decode cX1_hasPlace 5 = .ok (.aload_n 0, 1) := by decide +kernel
theorem dX1_hasPlace_6 : decode cX1_hasPlace 6 = .ok (.getfield 19, 3) := by decide +kernel
theorem dX1_hasPlace_9 : decode cX1_hasPlace 9 = .ok (.if_icmp .ge 19, 3) := by decide +kernel
theorem dX1_hasPlace_12 : decode cX1_hasPlace 12 = .ok (.iload_n 2, 1) := by decide +kernel
theorem dX1_hasPlace_13 : decode cX1_hasPlace 13 = .ok (.ifCond .lt 15, 3) := by decide +kernel
theorem dX1_hasPlace_16 : decode cX1_hasPlace 16 = .ok (.iload_n 2, 1) := by decide +kernel
theorem dX1_hasPlace_17 : decode cX1_hasPlace 17 = .ok (.aload_n 0, 1) := by decide +kernel
theorem dX1_hasPlace_18 : decode cX1_hasPlace 18 = .ok (.getfield 15, 3) := by decide +kernel
theorem dX1_hasPlace_21 : decode cX1_hasPlace 21 = .ok (.if_icmp .ge 7, 3) := by decide +kernel
theorem dX1_hasPlace_24 : decode cX1_hasPlace 24 = .ok (.iconst 1, 1) := by decide +kernel
theorem dX1_hasPlace_25 : decode cX1_hasPlace 25 = .ok (.goto 4, 3) := by decide +kernel
theorem dX1_hasPlace_28 : decode cX1_hasPlace 28 = .ok (.iconst 0, 1) := by decide +kernel
theorem dX1_hasPlace_29 : decode cX1_hasPlace 29 = .ok (.ireturn, 1) := by decide +kernel
theorem dX1_cellAt_0 : decode cX1_cellAt 0 = .ok (.aload_n 0, 1) := by decide +kernel
theorem dX1_cellAt_1 : decode cX1_cellAt 1 = .ok (.iload_n 1, 1) := by decide +kernel
theorem dX1_cellAt_2 : decode cX1_cellAt 2 = .ok (.iload_n 2, 1) := by decide +kernel
theorem dX1_cellAt_3 : decode cX1_cellAt 3 = .ok (.invokevirtual 32, 3) := by decide +kernel
theorem dX1_cellAt_6 : decode cX1_cellAt 6 = .ok (.ifCond .eq 14, 3) := by decide +kernel
theorem dX1_cellAt_9 : decode cX1_cellAt 9 = .ok (.iload_n 1, 1) := by decide +kernel
theorem dX1_cellAt_10 : decode cX1_cellAt 10 = .ok (.aload_n 0, 1) := by decide +kernel
theorem dX1_cellAt_11 : decode cX1_cellAt 11 = .ok (.getfield 15, 3) := by decide +kernel
theorem dX1_cellAt_14 : decode cX1_cellAt 14 = .ok (.imul, 1) := by decide +kernel
theorem dX1_cellAt_15 : decode cX1_cellAt 15 = .ok (.iload_n 2, 1) := by decide +kernel
theorem dX1_cellAt_16 : decode cX1_cellAt 16 = .ok (.iadd, 1) := by decide +kernel
theorem dX1_cellAt_17 : decode cX1_cellAt 17 = .ok (.goto 4, 3) := by decide +kernel
theorem dX1_cellAt_20 : decode cX1_cellAt 20 = .ok (.iconst (-1), 1) := by decide +kernel
theorem dX1_cellAt_21 : decode cX1_cellAt 21 = .ok (.ireturn, 1) := by decide +kernel
theorem dX1_rowOf_0 : decode cX1_rowOf 0 = .ok (.aload_n 0, 1) := by decide +kernel
theorem dX1_rowOf_1 : decode cX1_rowOf 1 = .ok (.getfield 15, 3) := by decide +kernel
theorem dX1_rowOf_4 : decode cX1_rowOf 4 = .ok (.ifCond .le 12, 3) := by decide +kernel
theorem dX1_rowOf_7 : decode cX1_rowOf 7 = .ok (.iload_n 1, 1) := by decide +kernel
theorem dX1_rowOf_8 : decode cX1_rowOf 8 = .ok (.aload_n 0, 1) := by decide +kernel
theorem dX1_rowOf_9 : decode cX1_rowOf 9 = .ok (.getfield 15, 3) := by decide +kernel
theorem dX1_rowOf_12 : decode cX1_rowOf 12 = .ok (.idiv, 1) := by decide +kernel
theorem dX1_rowOf_13 : decode cX1_rowOf 13 = .ok (.goto 4, 3) := by decide +kernel
theorem dX1_rowOf_16 : decode cX1_rowOf 16 = .ok (.iconst 0, 1) := by decide +kernel
theorem dX1_rowOf_17 : decode cX1_rowOf 17 = .ok (.ireturn, 1) := by decide +kernel
theorem dX1_columnOf_0 : decode cX1_columnOf 0 = .ok (.aload_n 0, 1) := by decide +kernel
theorem dX1_columnOf_1 : decode cX1_columnOf 1 = .ok (.getfield 15, 3) := by decide +kernel
theorem dX1_columnOf_4 : decode cX1_columnOf 4 = .ok (.ifCond .le 12, 3) := by decide +kernel
theorem dX1_columnOf_7 : decode cX1_columnOf 7 = .ok (.iload_n 1, 1) := by decide +kernel
theorem dX1_columnOf_8 : decode cX1_columnOf 8 = .ok (.aload_n 0, 1) := by decide +kernel
theorem dX1_columnOf_9 : decode cX1_columnOf 9 = .ok (.getfield 15, 3) := by decide +kernel
theorem dX1_columnOf_12 : decode cX1_columnOf 12 = .ok (.irem, 1) := by decide +kernel
theorem dX1_columnOf_13 : decode cX1_columnOf 13 = .ok (.goto 4, 3) := by decide +kernel
theorem dX1_columnOf_16 : decode cX1_columnOf 16 = .ok (.iconst 0, 1) := by decide +kernel
theorem dX1_columnOf_17 : decode cX1_columnOf 17 = .ok (.ireturn, 1) := by decide +kernel
theorem dX1_levelOf_0 : decode cX1_levelOf 0 = .ok (.iload_n 1, 1) := by decide +kernel
theorem dX1_levelOf_1 : decode cX1_levelOf 1 = .ok (.ifCond .lt 21, 3) := by decide +kernel
theorem dX1_levelOf_4 : decode cX1_levelOf 4 = .ok (.iload_n 1, 1) := by decide +kernel
theorem dX1_levelOf_5 : decode cX1_levelOf 5 = .ok (.aload_n 0, 1) := by decide +kernel
theorem dX1_levelOf_6 : decode cX1_levelOf 6 = .ok (.getfield 9, 3) := by decide +kernel
theorem dX1_levelOf_9 : decode cX1_levelOf 9 = .ok (.arraylength, 1) := by decide +kernel
theorem dX1_levelOf_10 : decode cX1_levelOf 10 = .ok (.if_icmp .ge 12, 3) := by decide +kernel
theorem dX1_levelOf_13 : decode cX1_levelOf 13 = .ok (.aload_n 0, 1) := by decide +kernel
theorem dX1_levelOf_14 : decode cX1_levelOf 14 = .ok (.getfield 9, 3) := by decide +kernel
theorem dX1_levelOf_17 : decode cX1_levelOf 17 = .ok (.iload_n 1, 1) := by decide +kernel
theorem dX1_levelOf_18 : decode cX1_levelOf 18 = .ok (.iaload, 1) := by decide +kernel
theorem dX1_levelOf_19 : decode cX1_levelOf 19 = .ok (.goto 4, 3) := by decide +kernel
theorem dX1_levelOf_22 : decode cX1_levelOf 22 = .ok (.iconst 0, 1) := by decide +kernel
theorem dX1_levelOf_23 : decode cX1_levelOf 23 = .ok (.ireturn, 1) := by decide +kernel
theorem dX1_build_0 : decode cX1_build 0 = .ok (.iload_n 1, 1) := by decide +kernel
theorem dX1_build_1 : decode cX1_build 1 = .ok (.ifCond .lt 19, 3) := by decide +kernel
theorem dX1_build_4 : decode cX1_build 4 = .ok (.iload_n 1, 1) := by decide +kernel
theorem dX1_build_5 : decode cX1_build 5 = .ok (.aload_n 0, 1) := by decide +kernel
theorem dX1_build_6 : decode cX1_build 6 = .ok (.getfield 9, 3) := by decide +kernel
theorem dX1_build_9 : decode cX1_build 9 = .ok (.arraylength, 1) := by decide +kernel
theorem dX1_build_10 : decode cX1_build 10 = .ok (.if_icmp .ge 10, 3) := by decide +kernel
theorem dX1_build_13 : decode cX1_build 13 = .ok (.aload_n 0, 1) := by decide +kernel
theorem dX1_build_14 : decode cX1_build 14 = .ok (.getfield 9, 3) := by decide +kernel
theorem dX1_build_17 : decode cX1_build 17 = .ok (.iload_n 1, 1) := by decide +kernel
theorem dX1_build_18 : decode cX1_build 18 = .ok (.iload_n 2, 1) := by decide +kernel
theorem dX1_build_19 : decode cX1_build 19 = .ok (.iastore, 1) := by decide +kernel
theorem dX1_build_20 : decode cX1_build 20 = .ok (.return_, 1) := by decide +kernel
theorem dX2_init_0 : decode cX2_init 0 = .ok (.aload_n 0, 1) := by decide +kernel
theorem dX2_init_1 : decode cX2_init 1 = .ok (.invokespecial 1, 3) := by decide +kernel
theorem dX2_init_4 : decode cX2_init 4 = .ok (.aload_n 0, 1) := by decide +kernel
theorem dX2_init_5 : decode cX2_init 5 = .ok (.aconst_null, 1) := by decide +kernel
theorem dX2_init_6 : decode cX2_init 6 = .ok (.putfield 7, 3) := by decide +kernel
theorem dX2_init_9 : decode cX2_init 9 = .ok (.aload_n 0, 1) := by decide +kernel
theorem dX2_init_10 : decode cX2_init 10 = .ok (.iload_n 1, 1) := by decide +kernel
theorem dX2_init_11 : decode cX2_init 11 = .ok (.putfield 13, 3) := by decide +kernel
theorem dX2_init_14 : decode cX2_init 14 = .ok (.aload_n 0, 1) := by decide +kernel
theorem dX2_init_15 : decode cX2_init 15 = .ok (.iload_n 2, 1) := by decide +kernel
theorem dX2_init_16 : decode cX2_init 16 = .ok (.putfield 17, 3) := by decide +kernel
theorem dX2_init_19 : decode cX2_init 19 = .ok (.aload_n 0, 1) := by decide +kernel
theorem dX2_init_20 : decode cX2_init 20 = .ok (.iload_n 3, 1) := by decide +kernel
theorem dX2_init_21 : decode cX2_init 21 = .ok (.putfield 20, 3) := by decide +kernel
theorem dX2_init_24 : decode cX2_init 24 = .ok (.return_, 1) := by decide +kernel
theorem dX2_liesOn_0 : decode cX2_liesOn 0 = .ok (.aload_n 0, 1) := by decide +kernel
theorem dX2_liesOn_1 : decode cX2_liesOn 1 = .ok (.getfield 7, 3) := by decide +kernel
theorem dX2_liesOn_4 : decode cX2_liesOn 4 = .ok (.ifnonnull 15, 3) := by decide +kernel
theorem dX2_liesOn_7 : decode cX2_liesOn 7 = .ok (.aload_n 0, 1) := by decide +kernel
theorem dX2_liesOn_8 : decode cX2_liesOn 8 = .ok (.getfield 17, 3) := by decide +kernel
theorem dX2_liesOn_11 : decode cX2_liesOn 11 = .ok (.iload_n 1, 1) := by decide +kernel
theorem dX2_liesOn_12 : decode cX2_liesOn 12 = .ok (.if_icmp .ne 7, 3) := by decide +kernel
theorem dX2_liesOn_15 : decode cX2_liesOn 15 = .ok (.iconst 1, 1) := by decide +kernel
theorem dX2_liesOn_16 : decode cX2_liesOn 16 = .ok (.goto 4, 3) := by decide +kernel
theorem dX2_liesOn_19 : decode cX2_liesOn 19 = .ok (.iconst 0, 1) := by decide +kernel
theorem dX2_liesOn_20 : decode cX2_liesOn 20 = .ok (.ireturn, 1) := by decide +kernel
theorem dX2_place_0 : decode cX2_place 0 = .ok (.aload_n 0, 1) := by decide +kernel
theorem dX2_place_1 : decode cX2_place 1 = .ok (.getfield 7, 3) := by decide +kernel
theorem dX2_place_4 : decode cX2_place 4 = .ok (.ifnonnull 10, 3) := by decide +kernel
theorem dX2_place_7 : decode cX2_place 7 = .ok (.aload_n 0, 1) := by decide +kernel
theorem dX2_place_8 : decode cX2_place 8 = .ok (.getfield 17, 3) := by decide +kernel
theorem dX2_place_11 : decode cX2_place 11 = .ok (.goto 10, 3) := by decide +kernel
theorem dX2_place_14 : decode cX2_place 14 = .ok (.aload_n 0, 1) := by decide +kernel
theorem dX2_place_15 : decode cX2_place 15 = .ok (.getfield 7, 3) := by decide +kernel
theorem dX2_place_18 : decode cX2_place 18 = .ok (.invokevirtual 23, 3) := by decide +kernel
theorem dX2_place_21 : decode cX2_place 21 = .ok (.ireturn, 1) := by decide +kernel
theorem dX2_hangOn_0 : decode cX2_hangOn 0 = .ok (.aload_n 0, 1) := by decide +kernel
theorem dX2_hangOn_1 : decode cX2_hangOn 1 = .ok (.aload_n 1, 1) := by decide +kernel
theorem dX2_hangOn_2 : decode cX2_hangOn 2 = .ok (.putfield 7, 3) := by decide +kernel
theorem dX2_hangOn_5 : decode cX2_hangOn 5 = .ok (.aload_n 1, 1) := by decide +kernel
theorem dX2_hangOn_6 : decode cX2_hangOn 6 = .ok (.aload_n 0, 1) := by decide +kernel
theorem dX2_hangOn_7 : decode cX2_hangOn 7 = .ok (.putfield 29, 3) := by decide +kernel
theorem dX2_hangOn_10 : decode cX2_hangOn 10 = .ok (.return_, 1) := by decide +kernel
theorem dX2_lieOn_0 : decode cX2_lieOn 0 = .ok (.aload_n 0, 1) := by decide +kernel
theorem dX2_lieOn_1 : decode cX2_lieOn 1 = .ok (.aconst_null, 1) := by decide +kernel
theorem dX2_lieOn_2 : decode cX2_lieOn 2 = .ok (.putfield 7, 3) := by decide +kernel
theorem dX2_lieOn_5 : decode cX2_lieOn 5 = .ok (.aload_n 0, 1) := by decide +kernel
theorem dX2_lieOn_6 : decode cX2_lieOn 6 = .ok (.iload_n 1, 1) := by decide +kernel
theorem dX2_lieOn_7 : decode cX2_lieOn 7 = .ok (.putfield 17, 3) := by decide +kernel
theorem dX2_lieOn_10 : decode cX2_lieOn 10 = .ok (.return_, 1) := by decide +kernel
theorem dX3_init_0 : decode cX3_init 0 = .ok (.aload_n 0, 1) := by decide +kernel
theorem dX3_init_1 : decode cX3_init 1 = .ok (.invokespecial 3, 3) := by decide +kernel
theorem dX3_init_4 : decode cX3_init 4 = .ok (.aload_n 0, 1) := by decide +kernel
theorem dX3_init_5 : decode cX3_init 5 = .ok (.sipush 196, 3) := by decide +kernel
theorem dX3_init_8 : decode cX3_init 8 = .ok (.newarray .int, 2) := by decide +kernel
theorem dX3_init_10 : decode cX3_init 10 = .ok (.putfield 9, 3) := by decide +kernel
theorem dX3_init_13 : decode cX3_init 13 = .ok (.aload_n 0, 1) := by decide +kernel
theorem dX3_init_14 : decode cX3_init 14 = .ok (.bipush 72, 2) := by decide +kernel
theorem dX3_init_16 : decode cX3_init 16 = .ok (.newarray .int, 2) := by decide +kernel
theorem dX3_init_18 : decode cX3_init 18 = .ok (.putfield 15, 3) := by decide +kernel
theorem dX3_init_21 : decode cX3_init 21 = .ok (.aload_n 0, 1) := by decide +kernel
theorem dX3_init_22 : decode cX3_init 22 = .ok (.iconst 4, 1) := by decide +kernel
theorem dX3_init_23 : decode cX3_init 23 = .ok (.newarray .int, 2) := by decide +kernel
theorem dX3_init_25 : decode cX3_init 25 = .ok (.putfield 18, 3) := by decide +kernel
theorem dX3_init_28 : decode cX3_init 28 = .ok (.aload_n 0, 1) := by decide +kernel
theorem dX3_init_29 : decode cX3_init 29 = .ok (.iconst 4, 1) := by decide +kernel
theorem dX3_init_30 : decode cX3_init 30 = .ok (.newarray .int, 2) := by decide +kernel
theorem dX3_init_32 : decode cX3_init 32 = .ok (.putfield 21, 3) := by decide +kernel
theorem dX3_init_35 : decode cX3_init 35 = .ok (.aload_n 0, 1) := by decide +kernel
theorem dX3_init_36 : decode cX3_init 36 = .ok (.aload_n 1, 1) := by decide +kernel
theorem dX3_init_37 : decode cX3_init 37 = .ok (.putfield 24, 3) := by decide +kernel
theorem dX3_init_40 : decode cX3_init 40 = .ok (.aload_n 0, 1) := by decide +kernel
theorem dX3_init_41 : decode cX3_init 41 = .ok (.aload_n 1, 1) := by decide +kernel
theorem dX3_init_42 : decode cX3_init 42 = .ok (.getfield 28, 3) := by decide +kernel
theorem dX3_init_45 : decode cX3_init 45 = .ok (.putfield 34, 3) := by decide +kernel
theorem dX3_init_48 : decode cX3_init 48 = .ok (.return_, 1) := by decide +kernel
theorem dX3_explore_0 : decode cX3_explore 0 = .ok (.aload_n 0, 1) := by decide +kernel
theorem dX3_explore_1 : decode cX3_explore 1 = .ok (.getfield 9, 3) := by decide +kernel
theorem dX3_explore_4 : decode cX3_explore 4 = .ok (.iconst (-1), 1) := by decide +kernel
theorem dX3_explore_5 : decode cX3_explore 5 = .ok (.invokestatic 35, 3) := by decide +kernel
theorem dX3_explore_8 : decode cX3_explore 8 = .ok (.aload_n 1, 1) := by decide +kernel
theorem dX3_explore_9 : decode cX3_explore 9 = .ok (.invokevirtual 41, 3) := by decide +kernel
theorem dX3_explore_12 : decode cX3_explore 12 = .ok (.istore_n 2, 1) := by decide +kernel
theorem dX3_explore_13 : decode cX3_explore 13 = .ok (.iload_n 2, 1) := by decide +kernel
theorem dX3_explore_14 : decode cX3_explore 14 = .ok (.ifCond .lt 12, 3) := by decide +kernel
theorem dX3_explore_17 : decode cX3_explore 17 = .ok (.iload_n 2, 1) := by decide +kernel
theorem dX3_explore_18 : decode cX3_explore 18 = .ok (.aload_n 0, 1) := by decide +kernel
theorem dX3_explore_19 : decode cX3_explore 19 = .ok (.getfield 9, 3) := by decide +kernel
theorem dX3_explore_22 : decode cX3_explore 22 = .ok (.arraylength, 1) := by decide +kernel
theorem dX3_explore_23 : decode cX3_explore 23 = .ok (.if_icmp .lt 5, 3) := by decide +kernel
theorem dX3_explore_26 : decode cX3_explore 26 = .ok (.iconst 0, 1) := by decide +kernel
theorem dX3_explore_27 : decode cX3_explore 27 = .ok (.ireturn, 1) := by decide +kernel
theorem dX3_explore_28 : decode cX3_explore 28 = .ok (.aload_n 0, 1) := by decide +kernel
theorem dX3_explore_29 : decode cX3_explore 29 = .ok (.getfield 24, 3) := by decide +kernel
theorem dX3_explore_32 : decode cX3_explore 32 = .ok (.aload_n 1, 1) := by decide +kernel
theorem dX3_explore_33 : decode cX3_explore 33 = .ok (.invokevirtual 47, 3) := by decide +kernel
theorem dX3_explore_36 : decode cX3_explore 36 = .ok (.istore_n 3, 1) := by decide +kernel
theorem dX3_explore_37 : decode cX3_explore 37 = .ok (.aload_n 0, 1) := by decide +kernel
theorem dX3_explore_38 : decode cX3_explore 38 = .ok (.getfield 34, 3) := by decide +kernel
theorem dX3_explore_41 : decode cX3_explore 41 = .ok (.aload_n 1, 1) := by decide +kernel
theorem dX3_explore_42 : decode cX3_explore 42 = .ok (.invokevirtual 51, 3) := by decide +kernel
theorem dX3_explore_45 : decode cX3_explore 45 = .ok (.aload_n 0, 1) := by decide +kernel
theorem dX3_explore_46 : decode cX3_explore 46 = .ok (.getfield 9, 3) := by decide +kernel
theorem dX3_explore_49 : decode cX3_explore 49 = .ok (.iload_n 2, 1) := by decide +kernel
theorem dX3_explore_50 : decode cX3_explore 50 = .ok (.iconst 0, 1) := by decide +kernel
theorem dX3_explore_51 : decode cX3_explore 51 = .ok (.iastore, 1) := by decide +kernel
theorem dX3_explore_52 : decode cX3_explore 52 = .ok (.aload_n 0, 1) := by decide +kernel
theorem dX3_explore_53 : decode cX3_explore 53 = .ok (.getfield 15, 3) := by decide +kernel
theorem dX3_explore_56 : decode cX3_explore 56 = .ok (.iconst 0, 1) := by decide +kernel
theorem dX3_explore_57 : decode cX3_explore 57 = .ok (.aload_n 1, 1) := by decide +kernel
theorem dX3_explore_58 : decode cX3_explore 58 = .ok (.invokestatic 55, 3) := by decide +kernel
theorem dX3_explore_61 : decode cX3_explore 61 = .ok (.iastore, 1) := by decide +kernel
theorem dX3_explore_62 : decode cX3_explore 62 = .ok (.iconst 1, 1) := by decide +kernel
theorem dX3_explore_63 : decode cX3_explore 63 = .ok (.istore 4, 2) := by decide +kernel
theorem dX3_explore_65 : decode cX3_explore 65 = .ok (.iconst 0, 1) := by decide +kernel
theorem dX3_explore_66 : decode cX3_explore 66 = .ok (.istore 5, 2) := by decide +kernel
theorem dX3_explore_68 : decode cX3_explore 68 = .ok (.iload 5, 2) := by decide +kernel
theorem dX3_explore_70 : decode cX3_explore 70 = .ok (.iload 4, 2) := by decide +kernel
theorem dX3_explore_72 : decode cX3_explore 72 = .ok (.if_icmp .ge 187, 3) := by decide +kernel
theorem dX3_explore_75 : decode cX3_explore 75 = .ok (.iload 5, 2) := by decide +kernel
theorem dX3_explore_77 : decode cX3_explore 77 = .ok (.aload_n 0, 1) := by decide +kernel
theorem dX3_explore_78 : decode cX3_explore 78 = .ok (.getfield 15, 3) := by decide +kernel
theorem dX3_explore_81 : decode cX3_explore 81 = .ok (.arraylength, 1) := by decide +kernel
theorem dX3_explore_82 : decode cX3_explore 82 = .ok (.if_icmp .ge 177, 3) := by decide +kernel
theorem dX3_explore_85 : decode cX3_explore 85 = .ok (.iconst 0, 1) := by decide +kernel
theorem dX3_explore_86 : decode cX3_explore 86 = .ok (.istore 6, 2) := by decide +kernel
theorem dX3_explore_88 : decode cX3_explore 88 = .ok (.iload 6, 2) := by decide +kernel
theorem dX3_explore_90 : decode cX3_explore 90 = .ok (.iconst 3, 1) := by decide +kernel
theorem dX3_explore_91 : decode cX3_explore 91 = .ok (.if_icmp .gt 162, 3) := by decide +kernel
theorem dX3_explore_94 : decode cX3_explore 94 = .ok (.aload_n 0, 1) := by decide +kernel
theorem dX3_explore_95 : decode cX3_explore 95 = .ok (.aload_n 0, 1) := by decide +kernel
theorem dX3_explore_96 : decode cX3_explore 96 = .ok (.getfield 15, 3) := by decide +kernel
theorem dX3_explore_99 : decode cX3_explore 99 = .ok (.iload 5, 2) := by decide +kernel
theorem dX3_explore_101 : decode cX3_explore 101 = .ok (.iaload, 1) := by decide +kernel
theorem dX3_explore_102 : decode cX3_explore 102 = .ok (.invokevirtual 58, 3) := by decide +kernel
theorem dX3_explore_105 : decode cX3_explore 105 = .ok (.aload_n 0, 1) := by decide +kernel
theorem dX3_explore_106 : decode cX3_explore 106 = .ok (.getfield 34, 3) := by decide +kernel
theorem dX3_explore_109 : decode cX3_explore 109 = .ok (.invokevirtual 41, 3) := by decide +kernel
theorem dX3_explore_112 : decode cX3_explore 112 = .ok (.istore 7, 2) := by decide +kernel
theorem dX3_explore_114 : decode cX3_explore 114 = .ok (.aload_n 0, 1) := by decide +kernel
theorem dX3_explore_115 : decode cX3_explore 115 = .ok (.getfield 34, 3) := by decide +kernel
theorem dX3_explore_118 : decode cX3_explore 118 = .ok (.iload 6, 2) := by decide +kernel
theorem dX3_explore_120 : decode cX3_explore 120 = .ok (.invokevirtual 62, 3) := by decide +kernel
theorem dX3_explore_123 : decode cX3_explore 123 = .ok (.aload_n 0, 1) := by decide +kernel
theorem dX3_explore_124 : decode cX3_explore 124 = .ok (.getfield 34, 3) := by decide +kernel
theorem dX3_explore_127 : decode cX3_explore 127 = .ok (.invokevirtual 41, 3) := by decide +kernel
theorem dX3_explore_130 : decode cX3_explore 130 = .ok (.istore 8, 2) := by decide +kernel
theorem dX3_explore_132 : decode cX3_explore 132 = .ok (.iload 7, 2) := by decide +kernel
theorem dX3_explore_134 : decode cX3_explore 134 = .ok (.ifCond .lt 113, 3) := by decide +kernel
theorem dX3_explore_137 : decode cX3_explore 137 = .ok (.iload 7, 2) := by decide +kernel
theorem dX3_explore_139 : decode cX3_explore 139 = .ok (.aload_n 0, 1) := by decide +kernel
theorem dX3_explore_140 : decode cX3_explore 140 = .ok (.getfield 9, 3) := by decide +kernel
theorem dX3_explore_143 : decode cX3_explore 143 = .ok (.arraylength, 1) := by decide +kernel
theorem dX3_explore_144 : decode cX3_explore 144 = .ok (.if_icmp .ge 103, 3) := by decide +kernel
theorem dX3_explore_147 : decode cX3_explore 147 = .ok (.iload 8, 2) := by decide +kernel
theorem dX3_explore_149 : decode cX3_explore 149 = .ok (.ifCond .lt 98, 3) := by decide +kernel
theorem dX3_explore_152 : decode cX3_explore 152 = .ok (.iload 8, 2) := by decide +kernel
theorem dX3_explore_154 : decode cX3_explore 154 = .ok (.aload_n 0, 1) := by decide +kernel
theorem dX3_explore_155 : decode cX3_explore 155 = .ok (.getfield 9, 3) := by decide +kernel
theorem dX3_explore_158 : decode cX3_explore 158 = .ok (.arraylength, 1) := by decide +kernel
theorem dX3_explore_159 : decode cX3_explore 159 = .ok (.if_icmp .ge 88, 3) := by decide +kernel
theorem dX3_explore_162 : decode cX3_explore 162 = .ok (.aload_n 0, 1) := by decide +kernel
theorem dX3_explore_163 : decode cX3_explore 163 = .ok (.getfield 9, 3) := by decide +kernel
theorem dX3_explore_166 : decode cX3_explore 166 = .ok (.iload 8, 2) := by decide +kernel
theorem dX3_explore_168 : decode cX3_explore 168 = .ok (.iaload, 1) := by decide +kernel
theorem dX3_explore_169 : decode cX3_explore 169 = .ok (.iconst (-1), 1) := by decide +kernel
theorem dX3_explore_170 : decode cX3_explore 170 = .ok (.if_icmp .eq 6, 3) := by decide +kernel
theorem dX3_explore_173 : decode cX3_explore 173 = .ok (.goto 74, 3) := by decide +kernel
theorem dX3_explore_176 : decode cX3_explore 176 = .ok (.iload 4, 2) := by decide +kernel
theorem dX3_explore_178 : decode cX3_explore 178 = .ok (.aload_n 0, 1) := by decide +kernel
theorem dX3_explore_179 : decode cX3_explore 179 = .ok (.getfield 15, 3) := by decide +kernel
theorem dX3_explore_182 : decode cX3_explore 182 = .ok (.arraylength, 1) := by decide +kernel
theorem dX3_explore_183 : decode cX3_explore 183 = .ok (.if_icmp .ge 19, 3) := by decide +kernel
theorem dX3_explore_186 : decode cX3_explore 186 = .ok (.aload_n 0, 1) := by decide +kernel
theorem dX3_explore_187 : decode cX3_explore 187 = .ok (.getfield 24, 3) := by decide +kernel
theorem dX3_explore_190 : decode cX3_explore 190 = .ok (.aload_n 0, 1) := by decide +kernel
theorem dX3_explore_191 : decode cX3_explore 191 = .ok (.getfield 34, 3) := by decide +kernel
theorem dX3_explore_194 : decode cX3_explore 194 = .ok (.iconst 1, 1) := by decide +kernel
theorem dX3_explore_195 : decode cX3_explore 195 = .ok (.iload_n 3, 1) := by decide +kernel
theorem dX3_explore_196 : decode cX3_explore 196 = .ok (.invokevirtual 65, 3) := by decide +kernel
theorem dX3_explore_199 : decode cX3_explore 199 = .ok (.ifCond .eq 15, 3) := by decide +kernel
theorem dX3_explore_202 : decode cX3_explore 202 = .ok (.aload_n 0, 1) := by decide +kernel
theorem dX3_explore_203 : decode cX3_explore 203 = .ok (.getfield 9, 3) := by decide +kernel
theorem dX3_explore_206 : decode cX3_explore 206 = .ok (.iload 8, 2) := by decide +kernel
theorem dX3_explore_208 : decode cX3_explore 208 = .ok (.bipush (-2), 2) := by decide +kernel
theorem dX3_explore_210 : decode cX3_explore 210 = .ok (.iastore, 1) := by decide +kernel
theorem dX3_explore_211 : decode cX3_explore 211 = .ok (.goto 36, 3) := by decide +kernel
theorem dX3_explore_214 : decode cX3_explore 214 = .ok (.aload_n 0, 1) := by decide +kernel
theorem dX3_explore_215 : decode cX3_explore 215 = .ok (.getfield 9, 3) := by decide +kernel
theorem dX3_explore_218 : decode cX3_explore 218 = .ok (.iload 8, 2) := by decide +kernel
theorem dX3_explore_220 : decode cX3_explore 220 = .ok (.aload_n 0, 1) := by decide +kernel
theorem dX3_explore_221 : decode cX3_explore 221 = .ok (.getfield 9, 3) := by decide +kernel
theorem dX3_explore_224 : decode cX3_explore 224 = .ok (.iload 7, 2) := by decide +kernel
theorem dX3_explore_226 : decode cX3_explore 226 = .ok (.iaload, 1) := by decide +kernel
theorem dX3_explore_227 : decode cX3_explore 227 = .ok (.iconst 1, 1) := by decide +kernel
theorem dX3_explore_228 : decode cX3_explore 228 = .ok (.iadd, 1) := by decide +kernel
theorem dX3_explore_229 : decode cX3_explore 229 = .ok (.iastore, 1) := by decide +kernel
theorem dX3_explore_230 : decode cX3_explore 230 = .ok (.aload_n 0, 1) := by decide +kernel
theorem dX3_explore_231 : decode cX3_explore 231 = .ok (.getfield 15, 3) := by decide +kernel
theorem dX3_explore_234 : decode cX3_explore 234 = .ok (.iload 4, 2) := by decide +kernel
theorem dX3_explore_236 : decode cX3_explore 236 = .ok (.aload_n 0, 1) := by decide +kernel
theorem dX3_explore_237 : decode cX3_explore 237 = .ok (.getfield 34, 3) := by decide +kernel
theorem dX3_explore_240 : decode cX3_explore 240 = .ok (.invokestatic 55, 3) := by decide +kernel
theorem dX3_explore_243 : decode cX3_explore 243 = .ok (.iastore, 1) := by decide +kernel
theorem dX3_explore_244 : decode cX3_explore 244 = .ok (.iinc 4 1, 3) := by decide +kernel
theorem dX3_explore_247 : decode cX3_explore 247 = .ok (.iinc 6 1, 3) := by decide +kernel
theorem dX3_explore_250 : decode cX3_explore 250 = .ok (.goto (-162), 3) := by decide +kernel
theorem dX3_explore_253 : decode cX3_explore 253 = .ok (.iinc 5 1, 3) := by decide +kernel
theorem dX3_explore_256 : decode cX3_explore 256 = .ok (.goto (-188), 3) := by decide +kernel
theorem dX3_explore_259 : decode cX3_explore 259 = .ok (.iload 4, 2) := by decide +kernel
theorem dX3_explore_261 : decode cX3_explore 261 = .ok (.ireturn, 1) := by decide +kernel
theorem dX3_poseOf_0 : decode cX3_poseOf 0 = .ok (.aload_n 0, 1) := by decide +kernel
theorem dX3_poseOf_1 : decode cX3_poseOf 1 = .ok (.getfield 69, 3) := by decide +kernel
theorem dX3_poseOf_4 : decode cX3_poseOf 4 = .ok (.bipush 10, 2) := by decide +kernel
theorem dX3_poseOf_6 : decode cX3_poseOf 6 = .ok (.imul, 1) := by decide +kernel
theorem dX3_poseOf_7 : decode cX3_poseOf 7 = .ok (.aload_n 0, 1) := by decide +kernel
theorem dX3_poseOf_8 : decode cX3_poseOf 8 = .ok (.getfield 73, 3) := by decide +kernel
theorem dX3_poseOf_11 : decode cX3_poseOf 11 = .ok (.iadd, 1) := by decide +kernel
theorem dX3_poseOf_12 : decode cX3_poseOf 12 = .ok (.ireturn, 1) := by decide +kernel
theorem dX3_assume_0 : decode cX3_assume 0 = .ok (.aload_n 0, 1) := by decide +kernel
theorem dX3_assume_1 : decode cX3_assume 1 = .ok (.getfield 34, 3) := by decide +kernel
theorem dX3_assume_4 : decode cX3_assume 4 = .ok (.iload_n 1, 1) := by decide +kernel
theorem dX3_assume_5 : decode cX3_assume 5 = .ok (.bipush 10, 2) := by decide +kernel
theorem dX3_assume_7 : decode cX3_assume 7 = .ok (.idiv, 1) := by decide +kernel
theorem dX3_assume_8 : decode cX3_assume 8 = .ok (.invokevirtual 76, 3) := by decide +kernel
theorem dX3_assume_11 : decode cX3_assume 11 = .ok (.aload_n 0, 1) := by decide +kernel
theorem dX3_assume_12 : decode cX3_assume 12 = .ok (.getfield 34, 3) := by decide +kernel
theorem dX3_assume_15 : decode cX3_assume 15 = .ok (.iload_n 1, 1) := by decide +kernel
theorem dX3_assume_16 : decode cX3_assume 16 = .ok (.bipush 10, 2) := by decide +kernel
theorem dX3_assume_18 : decode cX3_assume 18 = .ok (.irem, 1) := by decide +kernel
theorem dX3_assume_19 : decode cX3_assume 19 = .ok (.putfield 73, 3) := by decide +kernel
theorem dX3_assume_22 : decode cX3_assume 22 = .ok (.return_, 1) := by decide +kernel
theorem dX3_stepsTo_0 : decode cX3_stepsTo 0 = .ok (.iload_n 1, 1) := by decide +kernel
theorem dX3_stepsTo_1 : decode cX3_stepsTo 1 = .ok (.ifCond .lt 25, 3) := by decide +kernel
theorem dX3_stepsTo_4 : decode cX3_stepsTo 4 = .ok (.iload_n 1, 1) := by decide +kernel
theorem dX3_stepsTo_5 : decode cX3_stepsTo 5 = .ok (.aload_n 0, 1) := by decide +kernel
theorem dX3_stepsTo_6 : decode cX3_stepsTo 6 = .ok (.getfield 9, 3) := by decide +kernel
theorem dX3_stepsTo_9 : decode cX3_stepsTo 9 = .ok (.arraylength, 1) := by decide +kernel
theorem dX3_stepsTo_10 : decode cX3_stepsTo 10 = .ok (.if_icmp .ge 16, 3) := by decide +kernel
theorem dX3_stepsTo_13 : decode cX3_stepsTo 13 = .ok (.aload_n 0, 1) := by decide +kernel
theorem dX3_stepsTo_14 : decode cX3_stepsTo 14 = .ok (.getfield 9, 3) := by decide +kernel
theorem dX3_stepsTo_17 : decode cX3_stepsTo 17 = .ok (.iload_n 1, 1) := by decide +kernel
theorem dX3_stepsTo_18 : decode cX3_stepsTo 18 = .ok (.iaload, 1) := by decide +kernel
theorem dX3_stepsTo_19 : decode cX3_stepsTo 19 = .ok (.ifCond .lt 7, 3) := by decide +kernel
theorem dX3_stepsTo_22 : decode cX3_stepsTo 22 = .ok (.iconst 1, 1) := by decide +kernel
theorem dX3_stepsTo_23 : decode cX3_stepsTo 23 = .ok (.goto 4, 3) := by decide +kernel
theorem dX3_stepsTo_26 : decode cX3_stepsTo 26 = .ok (.iconst 0, 1) := by decide +kernel
theorem dX3_stepsTo_27 : decode cX3_stepsTo 27 = .ok (.istore_n 2, 1) := by decide +kernel
theorem dX3_stepsTo_28 : decode cX3_stepsTo 28 = .ok (.iload_n 2, 1) := by decide +kernel
theorem dX3_stepsTo_29 : decode cX3_stepsTo 29 = .ok (.ifCond .eq 12, 3) := by decide +kernel
theorem dX3_stepsTo_32 : decode cX3_stepsTo 32 = .ok (.aload_n 0, 1) := by decide +kernel
theorem dX3_stepsTo_33 : decode cX3_stepsTo 33 = .ok (.getfield 9, 3) := by decide +kernel
theorem dX3_stepsTo_36 : decode cX3_stepsTo 36 = .ok (.iload_n 1, 1) := by decide +kernel
theorem dX3_stepsTo_37 : decode cX3_stepsTo 37 = .ok (.iaload, 1) := by decide +kernel
theorem dX3_stepsTo_38 : decode cX3_stepsTo 38 = .ok (.goto 4, 3) := by decide +kernel
theorem dX3_stepsTo_41 : decode cX3_stepsTo 41 = .ok (.iconst (-1), 1) := by decide +kernel
theorem dX3_stepsTo_42 : decode cX3_stepsTo 42 = .ok (.ireturn, 1) := by decide +kernel
theorem dX3_swings_0 : decode cX3_swings 0 = .ok (.aload_n 0, 1) := by decide +kernel
theorem dX3_swings_1 : decode cX3_swings 1 = .ok (.getfield 24, 3) := by decide +kernel
theorem dX3_swings_4 : decode cX3_swings 4 = .ok (.aload_n 1, 1) := by decide +kernel
theorem dX3_swings_5 : decode cX3_swings 5 = .ok (.invokevirtual 47, 3) := by decide +kernel
theorem dX3_swings_8 : decode cX3_swings 8 = .ok (.istore_n 3, 1) := by decide +kernel
theorem dX3_swings_9 : decode cX3_swings 9 = .ok (.aload_n 0, 1) := by decide +kernel
theorem dX3_swings_10 : decode cX3_swings 10 = .ok (.getfield 34, 3) := by decide +kernel
theorem dX3_swings_13 : decode cX3_swings 13 = .ok (.aload_n 1, 1) := by decide +kernel
theorem dX3_swings_14 : decode cX3_swings 14 = .ok (.invokevirtual 51, 3) := by decide +kernel
theorem dX3_swings_17 : decode cX3_swings 17 = .ok (.iconst 0, 1) := by decide +kernel
theorem dX3_swings_18 : decode cX3_swings 18 = .ok (.istore 4, 2) := by decide +kernel
theorem dX3_swings_20 : decode cX3_swings 20 = .ok (.iload 4, 2) := by decide +kernel
theorem dX3_swings_22 : decode cX3_swings 22 = .ok (.bipush 7, 2) := by decide +kernel
theorem dX3_swings_24 : decode cX3_swings 24 = .ok (.if_icmp .ge 36, 3) := by decide +kernel
theorem dX3_swings_27 : decode cX3_swings 27 = .ok (.aload_n 0, 1) := by decide +kernel
theorem dX3_swings_28 : decode cX3_swings 28 = .ok (.getfield 34, 3) := by decide +kernel
theorem dX3_swings_31 : decode cX3_swings 31 = .ok (.iload_n 2, 1) := by decide +kernel
theorem dX3_swings_32 : decode cX3_swings 32 = .ok (.invokevirtual 62, 3) := by decide +kernel
theorem dX3_swings_35 : decode cX3_swings 35 = .ok (.aload_n 0, 1) := by decide +kernel
theorem dX3_swings_36 : decode cX3_swings 36 = .ok (.getfield 24, 3) := by decide +kernel
theorem dX3_swings_39 : decode cX3_swings 39 = .ok (.aload_n 0, 1) := by decide +kernel
theorem dX3_swings_40 : decode cX3_swings 40 = .ok (.getfield 34, 3) := by decide +kernel
theorem dX3_swings_43 : decode cX3_swings 43 = .ok (.iconst 1, 1) := by decide +kernel
theorem dX3_swings_44 : decode cX3_swings 44 = .ok (.iload_n 3, 1) := by decide +kernel
theorem dX3_swings_45 : decode cX3_swings 45 = .ok (.invokevirtual 65, 3) := by decide +kernel
theorem dX3_swings_48 : decode cX3_swings 48 = .ok (.ifCond .eq 6, 3) := by decide +kernel
theorem dX3_swings_51 : decode cX3_swings 51 = .ok (.iload 4, 2) := by decide +kernel
theorem dX3_swings_53 : decode cX3_swings 53 = .ok (.ireturn, 1) := by decide +kernel
theorem dX3_swings_54 : decode cX3_swings 54 = .ok (.iinc 4 1, 3) := by decide +kernel
theorem dX3_swings_57 : decode cX3_swings 57 = .ok (.goto (-37), 3) := by decide +kernel
theorem dX3_swings_60 : decode cX3_swings 60 = .ok (.bipush 7, 2) := by decide +kernel
theorem dX3_swings_62 : decode cX3_swings 62 = .ok (.ireturn, 1) := by decide +kernel
theorem dX3_liftersFrom_0 : decode cX3_liftersFrom 0 = .ok (.iconst 0, 1) := by decide +kernel
theorem dX3_liftersFrom_1 : decode cX3_liftersFrom 1 = .ok (.istore_n 3, 1) := by decide +kernel
theorem dX3_liftersFrom_2 : decode cX3_liftersFrom 2 = .ok (.iconst 0, 1) := by decide +kernel
theorem dX3_liftersFrom_3 : decode cX3_liftersFrom 3 = .ok (.istore 4, 2) := by decide +kernel
theorem dX3_liftersFrom_5 : decode cX3_liftersFrom 5 = .ok (.iload 4, 2) := by decide +kernel
theorem dX3_liftersFrom_7 : decode cX3_liftersFrom 7 = .ok (.aload_n 0, 1) := by decide +kernel
theorem dX3_liftersFrom_8 : decode cX3_liftersFrom 8 = .ok (.getfield 24, 3) := by decide +kernel
theorem dX3_liftersFrom_11 : decode cX3_liftersFrom 11 = .ok (.getfield 79, 3) := by decide +kernel
theorem dX3_liftersFrom_14 : decode cX3_liftersFrom 14 = .ok (.invokevirtual 83, 3) := by decide +kernel
theorem dX3_liftersFrom_17 : decode cX3_liftersFrom 17 = .ok (.if_icmp .ge 40, 3) := by decide +kernel
theorem dX3_liftersFrom_20 : decode cX3_liftersFrom 20 = .ok (.aload_n 0, 1) := by decide +kernel
theorem dX3_liftersFrom_21 : decode cX3_liftersFrom 21 = .ok (.aload_n 0, 1) := by decide +kernel
theorem dX3_liftersFrom_22 : decode cX3_liftersFrom 22 = .ok (.getfield 24, 3) := by decide +kernel
theorem dX3_liftersFrom_25 : decode cX3_liftersFrom 25 = .ok (.getfield 79, 3) := by decide +kernel
theorem dX3_liftersFrom_28 : decode cX3_liftersFrom 28 = .ok (.iload 4, 2) := by decide +kernel
theorem dX3_liftersFrom_30 : decode cX3_liftersFrom 30 = .ok (.invokevirtual 88, 3) := by decide +kernel
theorem dX3_liftersFrom_33 : decode cX3_liftersFrom 33 = .ok (.checkcast 42, 3) := by decide +kernel
theorem dX3_liftersFrom_36 : decode cX3_liftersFrom 36 = .ok (.iload_n 1, 1) := by decide +kernel
theorem dX3_liftersFrom_37 : decode cX3_liftersFrom 37 = .ok (.iload_n 2, 1) := by decide +kernel
theorem dX3_liftersFrom_38 : decode cX3_liftersFrom 38 = .ok (.invokevirtual 92, 3) := by decide +kernel
theorem dX3_liftersFrom_41 : decode cX3_liftersFrom 41 = .ok (.ifCond .eq 10, 3) := by decide +kernel
theorem dX3_liftersFrom_44 : decode cX3_liftersFrom 44 = .ok (.iload_n 3, 1) := by decide +kernel
theorem dX3_liftersFrom_45 : decode cX3_liftersFrom 45 = .ok (.iconst 1, 1) := by decide +kernel
theorem dX3_liftersFrom_46 : decode cX3_liftersFrom 46 = .ok (.iload 4, 2) := by decide +kernel
theorem dX3_liftersFrom_48 : decode cX3_liftersFrom 48 = .ok (.ishl, 1) := by decide +kernel
theorem dX3_liftersFrom_49 : decode cX3_liftersFrom 49 = .ok (.ior, 1) := by decide +kernel
theorem dX3_liftersFrom_50 : decode cX3_liftersFrom 50 = .ok (.istore_n 3, 1) := by decide +kernel
theorem dX3_liftersFrom_51 : decode cX3_liftersFrom 51 = .ok (.iinc 4 1, 3) := by decide +kernel
theorem dX3_liftersFrom_54 : decode cX3_liftersFrom 54 = .ok (.goto (-49), 3) := by decide +kernel
theorem dX3_liftersFrom_57 : decode cX3_liftersFrom 57 = .ok (.iload_n 3, 1) := by decide +kernel
theorem dX3_liftersFrom_58 : decode cX3_liftersFrom 58 = .ok (.ireturn, 1) := by decide +kernel
theorem dX3_canLift_0 : decode cX3_canLift 0 = .ok (.aload_n 0, 1) := by decide +kernel
theorem dX3_canLift_1 : decode cX3_canLift 1 = .ok (.getfield 24, 3) := by decide +kernel
theorem dX3_canLift_4 : decode cX3_canLift 4 = .ok (.getfield 96, 3) := by decide +kernel
theorem dX3_canLift_7 : decode cX3_canLift 7 = .ok (.iload_n 2, 1) := by decide +kernel
theorem dX3_canLift_8 : decode cX3_canLift 8 = .ok (.invokevirtual 100, 3) := by decide +kernel
theorem dX3_canLift_11 : decode cX3_canLift 11 = .ok (.aload_n 1, 1) := by decide +kernel
theorem dX3_canLift_12 : decode cX3_canLift 12 = .ok (.getfield 106, 3) := by decide +kernel
theorem dX3_canLift_15 : decode cX3_canLift 15 = .ok (.isub, 1) := by decide +kernel
theorem dX3_canLift_16 : decode cX3_canLift 16 = .ok (.invokestatic 109, 3) := by decide +kernel
theorem dX3_canLift_19 : decode cX3_canLift 19 = .ok (.istore 4, 2) := by decide +kernel
theorem dX3_canLift_21 : decode cX3_canLift 21 = .ok (.aload_n 0, 1) := by decide +kernel
theorem dX3_canLift_22 : decode cX3_canLift 22 = .ok (.getfield 24, 3) := by decide +kernel
theorem dX3_canLift_25 : decode cX3_canLift 25 = .ok (.getfield 96, 3) := by decide +kernel
theorem dX3_canLift_28 : decode cX3_canLift 28 = .ok (.iload_n 2, 1) := by decide +kernel
theorem dX3_canLift_29 : decode cX3_canLift 29 = .ok (.invokevirtual 114, 3) := by decide +kernel
theorem dX3_canLift_32 : decode cX3_canLift 32 = .ok (.aload_n 1, 1) := by decide +kernel
theorem dX3_canLift_33 : decode cX3_canLift 33 = .ok (.getfield 117, 3) := by decide +kernel
theorem dX3_canLift_36 : decode cX3_canLift 36 = .ok (.isub, 1) := by decide +kernel
theorem dX3_canLift_37 : decode cX3_canLift 37 = .ok (.invokestatic 109, 3) := by decide +kernel
theorem dX3_canLift_40 : decode cX3_canLift 40 = .ok (.istore 5, 2) := by decide +kernel
theorem dX3_canLift_42 : decode cX3_canLift 42 = .ok (.iload 4, 2) := by decide +kernel
theorem dX3_canLift_44 : decode cX3_canLift 44 = .ok (.ifCond .eq 15, 3) := by decide +kernel
theorem dX3_canLift_47 : decode cX3_canLift 47 = .ok (.iload 5, 2) := by decide +kernel
theorem dX3_canLift_49 : decode cX3_canLift 49 = .ok (.ifCond .eq 10, 3) := by decide +kernel
theorem dX3_canLift_52 : decode cX3_canLift 52 = .ok (.iload 4, 2) := by decide +kernel
theorem dX3_canLift_54 : decode cX3_canLift 54 = .ok (.iload 5, 2) := by decide +kernel
theorem dX3_canLift_56 : decode cX3_canLift 56 = .ok (.if_icmp .ne 7, 3) := by decide +kernel
theorem dX3_canLift_59 : decode cX3_canLift 59 = .ok (.iconst 1, 1) := by decide +kernel
theorem dX3_canLift_60 : decode cX3_canLift 60 = .ok (.goto 4, 3) := by decide +kernel
theorem dX3_canLift_63 : decode cX3_canLift 63 = .ok (.iconst 0, 1) := by decide +kernel
theorem dX3_canLift_64 : decode cX3_canLift 64 = .ok (.istore 6, 2) := by decide +kernel
theorem dX3_canLift_66 : decode cX3_canLift 66 = .ok (.iload 4, 2) := by decide +kernel
theorem dX3_canLift_68 : decode cX3_canLift 68 = .ok (.iload 5, 2) := by decide +kernel
theorem dX3_canLift_70 : decode cX3_canLift 70 = .ok (.invokestatic 120, 3) := by decide +kernel
theorem dX3_canLift_73 : decode cX3_canLift 73 = .ok (.istore 7, 2) := by decide +kernel
theorem dX3_canLift_75 : decode cX3_canLift 75 = .ok (.iload 6, 2) := by decide +kernel
theorem dX3_canLift_77 : decode cX3_canLift 77 = .ok (.ifCond .eq 36, 3) := by decide +kernel
theorem dX3_canLift_80 : decode cX3_canLift 80 = .ok (.iload 7, 2) := by decide +kernel
theorem dX3_canLift_82 : decode cX3_canLift 82 = .ok (.iconst 1, 1) := by decide +kernel
theorem dX3_canLift_83 : decode cX3_canLift 83 = .ok (.if_icmp .lt 30, 3) := by decide +kernel
theorem dX3_canLift_86 : decode cX3_canLift 86 = .ok (.iload 7, 2) := by decide +kernel
theorem dX3_canLift_88 : decode cX3_canLift 88 = .ok (.aload_n 1, 1) := by decide +kernel
theorem dX3_canLift_89 : decode cX3_canLift 89 = .ok (.getfield 124, 3) := by decide +kernel
theorem dX3_canLift_92 : decode cX3_canLift 92 = .ok (.if_icmp .gt 21, 3) := by decide +kernel
theorem dX3_canLift_95 : decode cX3_canLift 95 = .ok (.aload_n 0, 1) := by decide +kernel
theorem dX3_canLift_96 : decode cX3_canLift 96 = .ok (.getfield 24, 3) := by decide +kernel
theorem dX3_canLift_99 : decode cX3_canLift 99 = .ok (.aload_n 1, 1) := by decide +kernel
theorem dX3_canLift_100 : decode cX3_canLift 100 = .ok (.iload 7, 2) := by decide +kernel
theorem dX3_canLift_102 : decode cX3_canLift 102 = .ok (.invokevirtual 127, 3) := by decide +kernel
theorem dX3_canLift_105 : decode cX3_canLift 105 = .ok (.iload_n 3, 1) := by decide +kernel
theorem dX3_canLift_106 : decode cX3_canLift 106 = .ok (.if_icmp .lt 7, 3) := by decide +kernel
theorem dX3_canLift_109 : decode cX3_canLift 109 = .ok (.iconst 1, 1) := by decide +kernel
theorem dX3_canLift_110 : decode cX3_canLift 110 = .ok (.goto 4, 3) := by decide +kernel
theorem dX3_canLift_113 : decode cX3_canLift 113 = .ok (.iconst 0, 1) := by decide +kernel
theorem dX3_canLift_114 : decode cX3_canLift 114 = .ok (.ireturn, 1) := by decide +kernel
theorem dX3_takeDown_0 : decode cX3_takeDown 0 = .ok (.aload_n 0, 1) := by decide +kernel
theorem dX3_takeDown_1 : decode cX3_takeDown 1 = .ok (.getfield 24, 3) := by decide +kernel
theorem dX3_takeDown_4 : decode cX3_takeDown 4 = .ok (.getfield 79, 3) := by decide +kernel
theorem dX3_takeDown_7 : decode cX3_takeDown 7 = .ok (.invokevirtual 83, 3) := by decide +kernel
theorem dX3_takeDown_10 : decode cX3_takeDown 10 = .ok (.aload_n 0, 1) := by decide +kernel
theorem dX3_takeDown_11 : decode cX3_takeDown 11 = .ok (.getfield 18, 3) := by decide +kernel
theorem dX3_takeDown_14 : decode cX3_takeDown 14 = .ok (.arraylength, 1) := by decide +kernel
theorem dX3_takeDown_15 : decode cX3_takeDown 15 = .ok (.invokestatic 131, 3) := by decide +kernel
theorem dX3_takeDown_18 : decode cX3_takeDown 18 = .ok (.istore_n 1, 1) := by decide +kernel
theorem dX3_takeDown_19 : decode cX3_takeDown 19 = .ok (.iconst 0, 1) := by decide +kernel
theorem dX3_takeDown_20 : decode cX3_takeDown 20 = .ok (.istore_n 2, 1) := by decide +kernel
theorem dX3_takeDown_21 : decode cX3_takeDown 21 = .ok (.iload_n 2, 1) := by decide +kernel
theorem dX3_takeDown_22 : decode cX3_takeDown 22 = .ok (.iload_n 1, 1) := by decide +kernel
theorem dX3_takeDown_23 : decode cX3_takeDown 23 = .ok (.if_icmp .ge 33, 3) := by decide +kernel
theorem dX3_takeDown_26 : decode cX3_takeDown 26 = .ok (.aload_n 0, 1) := by decide +kernel
theorem dX3_takeDown_27 : decode cX3_takeDown 27 = .ok (.getfield 18, 3) := by decide +kernel
theorem dX3_takeDown_30 : decode cX3_takeDown 30 = .ok (.iload_n 2, 1) := by decide +kernel
theorem dX3_takeDown_31 : decode cX3_takeDown 31 = .ok (.aload_n 0, 1) := by decide +kernel
theorem dX3_takeDown_32 : decode cX3_takeDown 32 = .ok (.aload_n 0, 1) := by decide +kernel
theorem dX3_takeDown_33 : decode cX3_takeDown 33 = .ok (.getfield 24, 3) := by decide +kernel
theorem dX3_takeDown_36 : decode cX3_takeDown 36 = .ok (.getfield 79, 3) := by decide +kernel
theorem dX3_takeDown_39 : decode cX3_takeDown 39 = .ok (.iload_n 2, 1) := by decide +kernel
theorem dX3_takeDown_40 : decode cX3_takeDown 40 = .ok (.invokevirtual 88, 3) := by decide +kernel
theorem dX3_takeDown_43 : decode cX3_takeDown 43 = .ok (.checkcast 42, 3) := by decide +kernel
