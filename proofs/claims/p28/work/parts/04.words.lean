def wsU : List Cond := lw_tbl.filter goodWord
theorem mU {w : Cond} (i : Nat) (h : lw_tbl[i]? = some w) (g : goodWord w = true) : w ∈ wsU := List.mem_filter.mpr ⟨List.mem_of_getElem? h, g⟩
theorem uT {w : Cond} (h : w ∈ wsU) : w ∈ lw_tbl := (List.mem_filter.mp h).1
theorem uG : ∀ w ∈ wsU, goodWord w = true := fun w h => (List.mem_filter.mp h).2
theorem inU_of {ws : List Cond} (ps : List Nat) (h : ws = ps.filterMap (fun i => lw_tbl[i]?)) (g : ws.all goodWord = true) : ∀ w ∈ ws, w ∈ wsU := fun w hw => by
  have hw2 := hw
  rw [h] at hw2
  obtain ⟨i, -, hi⟩ := List.mem_filterMap.mp hw2
  exact List.mem_filter.mpr ⟨List.mem_of_getElem? hi, List.all_eq_true.mp g w hw⟩
theorem wF_Jx4a65c_9 : Cond.fieldLink RJx4a65c 9 "java/util/ArrayList" "elementData" "[Ljava/lang/Object;" ∈ wsU := mU 83 (by decide +kernel) rfl
theorem wF_Jx4a65c_39 : Cond.fieldLink RJx4a65c 39 "java/util/ArrayList" "DEFAULTCAPACITY_EMPTY_ELEMENTDATA" "[Ljava/lang/Object;" ∈ wsU := mU 81 (by decide +kernel) rfl
theorem wF_Jx4a65c_48 : Cond.fieldLink RJx4a65c 48 "java/util/ArrayList" "size" "I" ∈ wsU := mU 84 (by decide +kernel) rfl
theorem wF_Jx4a65c_63 : Cond.fieldLink RJx4a65c 63 "java/util/ArrayList" "modCount" "I" ∈ wsU := mU 86 (by decide +kernel) rfl
theorem wF_Jxc12de_7 : Cond.fieldLink RJxc12de 7 "java/util/AbstractList" "modCount" "I" ∈ wsU := mU 85 (by decide +kernel) rfl
theorem wF_X0_9 : Cond.fieldLink RX0 9 "Slewyard$Crane" "bearing" "I" ∈ wsU := mU 150 (by decide +kernel) rfl
theorem wF_X0_15 : Cond.fieldLink RX0 15 "Slewyard$Crane" "arm" "I" ∈ wsU := mU 154 (by decide +kernel) rfl
theorem wF_X0_18 : Cond.fieldLink RX0 18 "Slewyard$Crane" "radius" "I" ∈ wsU := mU 156 (by decide +kernel) rfl
theorem wF_X0_21 : Cond.fieldLink RX0 21 "Slewyard$Crane" "sway" "I" ∈ wsU := mU 163 (by decide +kernel) rfl
theorem wF_X0_24 : Cond.fieldLink RX0 24 "Slewyard$Crane" "work" "I" ∈ wsU := mU 165 (by decide +kernel) rfl
theorem wF_X0_27 : Cond.fieldLink RX0 27 "Slewyard$Crane" "load" "LSlewyard$Load;" ∈ wsU := mU 168 (by decide +kernel) rfl
theorem wF_X0_31 : Cond.fieldLink RX0 31 "Slewyard$Crane" "nearMisses" "I" ∈ wsU := mU 172 (by decide +kernel) rfl
theorem wF_X0_34 : Cond.fieldLink RX0 34 "Slewyard$Crane" "ground" "LSlewyard$Ground;" ∈ wsU := mU 128 (by decide +kernel) rfl
theorem wF_X0_38 : Cond.fieldLink RX0 38 "Slewyard$Crane" "number" "I" ∈ wsU := mU 129 (by decide +kernel) rfl
theorem wF_X0_41 : Cond.fieldLink RX0 41 "Slewyard$Crane" "tower" "I" ∈ wsU := mU 133 (by decide +kernel) rfl
theorem wF_X0_50 : Cond.fieldLink RX0 50 "Slewyard$Crane" "row" "I" ∈ wsU := mU 137 (by decide +kernel) rfl
theorem wF_X0_56 : Cond.fieldLink RX0 56 "Slewyard$Crane" "column" "I" ∈ wsU := mU 139 (by decide +kernel) rfl
theorem wF_X0_59 : Cond.fieldLink RX0 59 "Slewyard$Crane" "mast" "I" ∈ wsU := mU 141 (by decide +kernel) rfl
theorem wF_X0_62 : Cond.fieldLink RX0 62 "Slewyard$Crane" "reach" "I" ∈ wsU := mU 144 (by decide +kernel) rfl
theorem wF_X0_65 : Cond.fieldLink RX0 65 "Slewyard$Crane" "moment" "I" ∈ wsU := mU 147 (by decide +kernel) rfl
theorem wF_X0_68 : Cond.fieldLink RX0 68 "Slewyard$Crane" "hook" "I" ∈ wsU := mU 160 (by decide +kernel) rfl
theorem wF_X1_9 : Cond.fieldLink RX1 9 "Slewyard$Ground" "levels" "[I" ∈ wsU := mU 52 (by decide +kernel) rfl
theorem wF_X1_15 : Cond.fieldLink RX1 15 "Slewyard$Ground" "wide" "I" ∈ wsU := mU 53 (by decide +kernel) rfl
theorem wF_X1_19 : Cond.fieldLink RX1 19 "Slewyard$Ground" "high" "I" ∈ wsU := mU 55 (by decide +kernel) rfl
theorem wF_X2_7 : Cond.fieldLink RX2 7 "Slewyard$Load" "carrier" "LSlewyard$Crane;" ∈ wsU := mU 726 (by decide +kernel) rfl
theorem wF_X2_13 : Cond.fieldLink RX2 13 "Slewyard$Load" "number" "I" ∈ wsU := mU 720 (by decide +kernel) rfl
theorem wF_X2_17 : Cond.fieldLink RX2 17 "Slewyard$Load" "cell" "I" ∈ wsU := mU 725 (by decide +kernel) rfl
theorem wF_X2_20 : Cond.fieldLink RX2 20 "Slewyard$Load" "weight" "I" ∈ wsU := mU 722 (by decide +kernel) rfl
theorem wF_X3_9 : Cond.fieldLink RX3 9 "Slewyard$Plans" "steps" "[I" ∈ wsU := mU 258 (by decide +kernel) rfl
theorem wF_X3_15 : Cond.fieldLink RX3 15 "Slewyard$Plans" "poses" "[I" ∈ wsU := mU 259 (by decide +kernel) rfl
theorem wF_X3_18 : Cond.fieldLink RX3 18 "Slewyard$Plans" "takers" "[I" ∈ wsU := mU 260 (by decide +kernel) rfl
theorem wF_X3_21 : Cond.fieldLink RX3 21 "Slewyard$Plans" "leaving" "[I" ∈ wsU := mU 261 (by decide +kernel) rfl
theorem wF_X3_24 : Cond.fieldLink RX3 24 "Slewyard$Plans" "site" "LSlewyard$Site;" ∈ wsU := mU 256 (by decide +kernel) rfl
theorem wF_X3_34 : Cond.fieldLink RX3 34 "Slewyard$Plans" "trial" "LSlewyard$Crane;" ∈ wsU := mU 257 (by decide +kernel) rfl
theorem wF_X4_7 : Cond.fieldLink RX4 7 "Slewyard$Report" "time" "I" ∈ wsU := mU 101 (by decide +kernel) rfl
theorem wF_X4_13 : Cond.fieldLink RX4 13 "Slewyard$Report" "force" "I" ∈ wsU := mU 103 (by decide +kernel) rfl
theorem wF_X4_16 : Cond.fieldLink RX4 16 "Slewyard$Report" "bearing" "I" ∈ wsU := mU 105 (by decide +kernel) rfl
theorem wF_X5_12 : Cond.fieldLink RX5 12 "Slewyard$Site" "reports" "Ljava/util/ArrayList;" ∈ wsU := mU 211 (by decide +kernel) rfl
theorem wF_X5_18 : Cond.fieldLink RX5 18 "Slewyard$Site" "zones" "Ljava/util/ArrayList;" ∈ wsU := mU 213 (by decide +kernel) rfl
theorem wF_X5_21 : Cond.fieldLink RX5 21 "Slewyard$Site" "cranes" "Ljava/util/ArrayList;" ∈ wsU := mU 215 (by decide +kernel) rfl
theorem wF_X5_24 : Cond.fieldLink RX5 24 "Slewyard$Site" "loads" "Ljava/util/ArrayList;" ∈ wsU := mU 218 (by decide +kernel) rfl
theorem wF_X5_32 : Cond.fieldLink RX5 32 "Slewyard$Site" "calm" "LSlewyard$Report;" ∈ wsU := mU 220 (by decide +kernel) rfl
theorem wF_X5_36 : Cond.fieldLink RX5 36 "Slewyard$Site" "time" "I" ∈ wsU := mU 223 (by decide +kernel) rfl
theorem wF_X5_40 : Cond.fieldLink RX5 40 "Slewyard$Site" "taken" "I" ∈ wsU := mU 225 (by decide +kernel) rfl
theorem wF_X5_43 : Cond.fieldLink RX5 43 "Slewyard$Site" "notTaken" "I" ∈ wsU := mU 227 (by decide +kernel) rfl
theorem wF_X5_46 : Cond.fieldLink RX5 46 "Slewyard$Site" "ground" "LSlewyard$Ground;" ∈ wsU := mU 208 (by decide +kernel) rfl
theorem wF_X5_55 : Cond.fieldLink RX5 55 "Slewyard$Site" "trial" "LSlewyard$Crane;" ∈ wsU := mU 222 (by decide +kernel) rfl
theorem wF_X6_7 : Cond.fieldLink RX6 7 "Slewyard$Zone" "top" "I" ∈ wsU := mU 778 (by decide +kernel) rfl
theorem wF_X6_13 : Cond.fieldLink RX6 13 "Slewyard$Zone" "left" "I" ∈ wsU := mU 779 (by decide +kernel) rfl
theorem wF_X6_16 : Cond.fieldLink RX6 16 "Slewyard$Zone" "bottom" "I" ∈ wsU := mU 780 (by decide +kernel) rfl
theorem wF_X6_19 : Cond.fieldLink RX6 19 "Slewyard$Zone" "right" "I" ∈ wsU := mU 781 (by decide +kernel) rfl
theorem wF_X6_22 : Cond.fieldLink RX6 22 "Slewyard$Zone" "from" "I" ∈ wsU := mU 782 (by decide +kernel) rfl
theorem wF_X6_25 : Cond.fieldLink RX6 25 "Slewyard$Zone" "to" "I" ∈ wsU := mU 783 (by decide +kernel) rfl
theorem wF_X7_17 : Cond.fieldLink RX7 17 "Slewyard" "site" "LSlewyard$Site;" ∈ wsU := mU 275 (by decide +kernel) rfl
theorem wF_X7_26 : Cond.fieldLink RX7 26 "Slewyard" "plans" "LSlewyard$Plans;" ∈ wsU := mU 276 (by decide +kernel) rfl
theorem wF_X7_30 : Cond.fieldLink RX7 30 "Slewyard" "refused" "I" ∈ wsU := mU 277 (by decide +kernel) rfl
theorem wM_J15_105 : Cond.methodLink RJ15 105 yJ3_checkIndex_8e157 ∈ wsU := mU 407 (by decide +kernel) rfl
theorem wM_J7_150 : Cond.methodLink RJ7 150 arraycopyName ∈ wsU := mU 703 (by decide +kernel) rfl
theorem wM_J7_300 : Cond.methodLink RJ7 300 yJ7_copyOf_6403c ∈ wsU := mU 696 (by decide +kernel) rfl
theorem wM_J7_304 : Cond.methodLink RJ7 304 Lib.Math.min.name ∈ wsU := mU 702 (by decide +kernel) rfl
theorem wM_J8_194 : Cond.methodLink RJ8 194 Lib.Math.max.name ∈ wsU := mU 672 (by decide +kernel) rfl
theorem wM_J8_201 : Cond.methodLink RJ8 201 yJ8_hugeLength_7cf53 ∈ wsU := mU 674 (by decide +kernel) rfl
theorem wM_Jx4a65c_1 : Cond.methodLink RJx4a65c 1 yJxc12de_init_da8c8 ∈ wsU := mU 74 (by decide +kernel) rfl
theorem wM_Jx4a65c_66 : Cond.methodLink RJx4a65c 66 yJ7_copyOf_1904c ∈ wsU := mU 677 (by decide +kernel) rfl
theorem wM_Jx4a65c_69 : Cond.methodLink RJx4a65c 69 yJx4a65c_grow_92f84 ∈ wsU := mU 665 (by decide +kernel) rfl
theorem wM_Jx4a65c_73 : Cond.methodLink RJx4a65c 73 yJ8_newLength_cabcc ∈ wsU := mU 669 (by decide +kernel) rfl
theorem wM_Jx4a65c_79 : Cond.methodLink RJx4a65c 79 Lib.Math.max.name ∈ wsU := mU 706 (by decide +kernel) rfl
theorem wM_Jx4a65c_118 : Cond.methodLink RJx4a65c 118 yJ15_checkIndex_7cf53 ∈ wsU := mU 404 (by decide +kernel) rfl
theorem wM_Jx4a65c_123 : Cond.methodLink RJx4a65c 123 yJx4a65c_elementData_915e3 ∈ wsU := mU 410 (by decide +kernel) rfl
theorem wM_Jx4a65c_129 : Cond.methodLink RJx4a65c 129 yJx4a65c_grow_d5877 ∈ wsU := mU 661 (by decide +kernel) rfl
theorem wM_Jx4a65c_131 : Cond.methodLink RJx4a65c 131 yJx4a65c_add_72be8 ∈ wsU := mU 657 (by decide +kernel) rfl
theorem wM_Jxa1e45_1 : Cond.methodLink RJxa1e45 1 objectInit ∈ wsU := mU 80 (by decide +kernel) rfl
theorem wM_Jxc12de_1 : Cond.methodLink RJxc12de 1 yJxa1e45_init_da8c8 ∈ wsU := mU 77 (by decide +kernel) rfl
theorem wM_L_11 : Cond.methodLink RL 11 yX7_init ∈ wsU := mU 38 (by decide +kernel) rfl
theorem wM_L_12 : Cond.methodLink RL 12 yL_cell ∈ wsU := mU 515 (by decide +kernel) rfl
theorem wM_L_18 : Cond.methodLink RL 18 yL_below ∈ wsU := mU 511 (by decide +kernel) rfl
theorem wM_L_22 : Cond.methodLink RL 22 yX7_yard ∈ wsU := mU 285 (by decide +kernel) rfl
theorem wM_L_25 : Cond.methodLink RL 25 yX7_many ∈ wsU := mU 379 (by decide +kernel) rfl
theorem wM_L_29 : Cond.methodLink RL 29 yL_build ∈ wsU := mU 562 (by decide +kernel) rfl
theorem wM_L_33 : Cond.methodLink RL 33 yL_met ∈ wsU := mU 519 (by decide +kernel) rfl
theorem wM_L_37 : Cond.methodLink RL 37 yL_act ∈ wsU := mU 738 (by decide +kernel) rfl
theorem wM_L_41 : Cond.methodLink RL 41 yL_isWhole ∈ wsU := mU 896 (by decide +kernel) rfl
theorem wM_L_45 : Cond.methodLink RL 45 yL_isAsked ∈ wsU := mU 946 (by decide +kernel) rfl
theorem wM_L_49 : Cond.methodLink RL 49 yX7_ofCrane ∈ wsU := mU 522 (by decide +kernel) rfl
theorem wM_L_52 : Cond.methodLink RL 52 yX7_crane ∈ wsU := mU 566 (by decide +kernel) rfl
theorem wM_L_56 : Cond.methodLink RL 56 yX7_load ∈ wsU := mU 708 (by decide +kernel) rfl
theorem wM_L_61 : Cond.methodLink RL 61 Lib.Math.max.name ∈ wsU := mU 743 (by decide +kernel) rfl
theorem wM_L_66 : Cond.methodLink RL 66 yX7_level ∈ wsU := mU 744 (by decide +kernel) rfl
theorem wM_L_69 : Cond.methodLink RL 69 yX7_wind ∈ wsU := mU 758 (by decide +kernel) rfl
theorem wM_L_73 : Cond.methodLink RL 73 yX7_zone ∈ wsU := mU 765 (by decide +kernel) rfl
theorem wM_L_76 : Cond.methodLink RL 76 yX7_hang ∈ wsU := mU 797 (by decide +kernel) rfl
theorem wM_L_79 : Cond.methodLink RL 79 yX7_set ∈ wsU := mU 823 (by decide +kernel) rfl
theorem wM_L_82 : Cond.methodLink RL 82 yX7_hand ∈ wsU := mU 831 (by decide +kernel) rfl
theorem wM_L_85 : Cond.methodLink RL 85 yX7_rest ∈ wsU := mU 841 (by decide +kernel) rfl
theorem wM_L_88 : Cond.methodLink RL 88 yX7_would ∈ wsU := mU 865 (by decide +kernel) rfl
theorem wM_L_91 : Cond.methodLink RL 91 yX7_step ∈ wsU := mU 878 (by decide +kernel) rfl
theorem wM_L_98 : Cond.methodLink RL 98 yX7_clash ∈ wsU := mU 899 (by decide +kernel) rfl
theorem wM_L_101 : Cond.methodLink RL 101 yX7_ofLoad ∈ wsU := mU 905 (by decide +kernel) rfl
theorem wM_L_104 : Cond.methodLink RL 104 yX7_ofCell ∈ wsU := mU 919 (by decide +kernel) rfl
theorem wM_L_107 : Cond.methodLink RL 107 yX7_isSound ∈ wsU := mU 930 (by decide +kernel) rfl
theorem wM_L_111 : Cond.methodLink RL 111 yX7_digest ∈ wsU := mU 949 (by decide +kernel) rfl
theorem wM_L_115 : Cond.methodLink RL 115 yX7_field ∈ wsU := mU 991 (by decide +kernel) rfl
theorem wM_L_118 : Cond.methodLink RL 118 yX7_way ∈ wsU := mU 992 (by decide +kernel) rfl
theorem wM_L_121 : Cond.methodLink RL 121 yX7_swing ∈ wsU := mU 1000 (by decide +kernel) rfl
theorem wM_L_125 : Cond.methodLink RL 125 Lib.Math.min.name ∈ wsU := mU 1001 (by decide +kernel) rfl
theorem wM_L_128 : Cond.methodLink RL 128 yX7_order ∈ wsU := mU 1002 (by decide +kernel) rfl
theorem wM_X0_3 : Cond.methodLink RX0 3 objectInit ∈ wsU := mU 119 (by decide +kernel) rfl
theorem wM_X0_44 : Cond.methodLink RX0 44 yX1_rowOf ∈ wsU := mU 120 (by decide +kernel) rfl
theorem wM_X0_53 : Cond.methodLink RX0 53 yX1_columnOf ∈ wsU := mU 124 (by decide +kernel) rfl
theorem wM_X0_71 : Cond.methodLink RX0 71 yX0_rowAt ∈ wsU := mU 434 (by decide +kernel) rfl
theorem wM_X0_74 : Cond.methodLink RX0 74 yX0_columnAt ∈ wsU := mU 440 (by decide +kernel) rfl
theorem wM_X0_77 : Cond.methodLink RX0 77 yX1_hasPlace ∈ wsU := mU 625 (by decide +kernel) rfl
theorem wM_X0_81 : Cond.methodLink RX0 81 yX0_face ∈ wsU := mU 621 (by decide +kernel) rfl
theorem wM_X0_85 : Cond.methodLink RX0 85 Lib.Math.min.name ∈ wsU := mU 450 (by decide +kernel) rfl
theorem wM_X0_91 : Cond.methodLink RX0 91 yX0_settle ∈ wsU := mU 891 (by decide +kernel) rfl
theorem wM_X0_94 : Cond.methodLink RX0 94 Lib.Math.max.name ∈ wsU := mU 453 (by decide +kernel) rfl
theorem wM_X0_104 : Cond.methodLink RX0 104 yX1_cellAt ∈ wsU := mU 552 (by decide +kernel) rfl
theorem wM_X0_107 : Cond.methodLink RX0 107 yX0_plumb ∈ wsU := mU 817 (by decide +kernel) rfl
theorem wM_X0_111 : Cond.methodLink RX0 111 yX1_levelOf ∈ wsU := mU 818 (by decide +kernel) rfl
theorem wM_X0_114 : Cond.methodLink RX0 114 yX0_isCalm ∈ wsU := mU 809 (by decide +kernel) rfl
theorem wM_X0_118 : Cond.methodLink RX0 118 yX0_above ∈ wsU := mU 813 (by decide +kernel) rfl
theorem wM_X0_121 : Cond.methodLink RX0 121 Lib.Math.abs.name ∈ wsU := mU 456 (by decide +kernel) rfl
theorem wM_X0_124 : Cond.methodLink RX0 124 yX0_apartFromJib ∈ wsU := mU 446 (by decide +kernel) rfl
theorem wM_X0_127 : Cond.methodLink RX0 127 yX0_apartFromJibOf ∈ wsU := mU 430 (by decide +kernel) rfl
theorem wM_X0_131 : Cond.methodLink RX0 131 yX0_sweepsOn ∈ wsU := mU 459 (by decide +kernel) rfl
theorem wM_X1_3 : Cond.methodLink RX1 3 objectInit ∈ wsU := mU 51 (by decide +kernel) rfl
theorem wM_X1_22 : Cond.methodLink RX1 22 yJ7_fill_53178 ∈ wsU := mU 368 (by decide +kernel) rfl
theorem wM_X1_28 : Cond.methodLink RX1 28 yX1_cells ∈ wsU := mU 578 (by decide +kernel) rfl
theorem wM_X1_32 : Cond.methodLink RX1 32 yX1_hasPlace ∈ wsU := mU 556 (by decide +kernel) rfl
theorem wM_X2_1 : Cond.methodLink RX2 1 objectInit ∈ wsU := mU 719 (by decide +kernel) rfl
theorem wM_X2_23 : Cond.methodLink RX2 23 yX0_plumb ∈ wsU := mU 914 (by decide +kernel) rfl
theorem wM_X3_3 : Cond.methodLink RX3 3 objectInit ∈ wsU := mU 255 (by decide +kernel) rfl
theorem wM_X3_35 : Cond.methodLink RX3 35 yJ7_fill_53178 ∈ wsU := mU 967 (by decide +kernel) rfl
theorem wM_X3_41 : Cond.methodLink RX3 41 yX0_plumb ∈ wsU := mU 968 (by decide +kernel) rfl
theorem wM_X3_47 : Cond.methodLink RX3 47 yX5_clashesOf ∈ wsU := mU 969 (by decide +kernel) rfl
theorem wM_X3_51 : Cond.methodLink RX3 51 yX0_mimic ∈ wsU := mU 970 (by decide +kernel) rfl
theorem wM_X3_55 : Cond.methodLink RX3 55 yX3_poseOf ∈ wsU := mU 971 (by decide +kernel) rfl
theorem wM_X3_58 : Cond.methodLink RX3 58 yX3_assume ∈ wsU := mU 974 (by decide +kernel) rfl
theorem wM_X3_62 : Cond.methodLink RX3 62 yX0_move ∈ wsU := mU 979 (by decide +kernel) rfl
theorem wM_X3_65 : Cond.methodLink RX3 65 yX5_hindrance ∈ wsU := mU 980 (by decide +kernel) rfl
theorem wM_X3_76 : Cond.methodLink RX3 76 yX0_face ∈ wsU := mU 978 (by decide +kernel) rfl
theorem wM_X3_83 : Cond.methodLink RX3 83 yJx4a65c_size_8abf5 ∈ wsU := mU 482 (by decide +kernel) rfl
theorem wM_X3_88 : Cond.methodLink RX3 88 yJx4a65c_get_915e3 ∈ wsU := mU 484 (by decide +kernel) rfl
theorem wM_X3_92 : Cond.methodLink RX3 92 yX3_canLift ∈ wsU := mU 494 (by decide +kernel) rfl
theorem wM_X3_100 : Cond.methodLink RX3 100 yX1_rowOf ∈ wsU := mU 498 (by decide +kernel) rfl
theorem wM_X3_109 : Cond.methodLink RX3 109 Lib.Math.abs.name ∈ wsU := mU 499 (by decide +kernel) rfl
theorem wM_X3_114 : Cond.methodLink RX3 114 yX1_columnOf ∈ wsU := mU 500 (by decide +kernel) rfl
theorem wM_X3_120 : Cond.methodLink RX3 120 Lib.Math.max.name ∈ wsU := mU 501 (by decide +kernel) rfl
theorem wM_X3_127 : Cond.methodLink RX3 127 yX5_capacityOf ∈ wsU := mU 502 (by decide +kernel) rfl
theorem wM_X3_131 : Cond.methodLink RX3 131 Lib.Math.min.name ∈ wsU := mU 483 (by decide +kernel) rfl
theorem wM_X3_134 : Cond.methodLink RX3 134 yX3_takersOf ∈ wsU := mU 486 (by decide +kernel) rfl
theorem wM_X3_137 : Cond.methodLink RX3 137 yX3_nextToGo ∈ wsU := mU 507 (by decide +kernel) rfl
theorem wM_X3_149 : Cond.methodLink RX3 149 yX0_weight ∈ wsU := mU 490 (by decide +kernel) rfl
theorem wM_X4_1 : Cond.methodLink RX4 1 objectInit ∈ wsU := mU 100 (by decide +kernel) rfl
theorem wM_X5_3 : Cond.methodLink RX5 3 objectInit ∈ wsU := mU 68 (by decide +kernel) rfl
theorem wM_X5_11 : Cond.methodLink RX5 11 yJx4a65c_init_da8c8 ∈ wsU := mU 71 (by decide +kernel) rfl
theorem wM_X5_29 : Cond.methodLink RX5 29 yX4_init ∈ wsU := mU 97 (by decide +kernel) rfl
theorem wM_X5_52 : Cond.methodLink RX5 52 yX0_init ∈ wsU := mU 116 (by decide +kernel) rfl
theorem wM_X5_59 : Cond.methodLink RX5 59 yX1_lay ∈ wsU := mU 364 (by decide +kernel) rfl
theorem wM_X5_65 : Cond.methodLink RX5 65 yJx4a65c_clear_da8c8 ∈ wsU := mU 371 (by decide +kernel) rfl
theorem wM_X5_68 : Cond.methodLink RX5 68 yJx4a65c_size_8abf5 ∈ wsU := mU 399 (by decide +kernel) rfl
theorem wM_X5_72 : Cond.methodLink RX5 72 yJx4a65c_get_915e3 ∈ wsU := mU 400 (by decide +kernel) rfl
theorem wM_X5_77 : Cond.methodLink RX5 77 yX5_windNow ∈ wsU := mU 395 (by decide +kernel) rfl
theorem wM_X5_87 : Cond.methodLink RX5 87 yX1_rowOf ∈ wsU := mU 640 (by decide +kernel) rfl
theorem wM_X5_91 : Cond.methodLink RX5 91 yX1_columnOf ∈ wsU := mU 641 (by decide +kernel) rfl
theorem wM_X5_96 : Cond.methodLink RX5 96 yX6_covers ∈ wsU := mU 643 (by decide +kernel) rfl
theorem wM_X5_100 : Cond.methodLink RX5 100 yX5_hour ∈ wsU := mU 647 (by decide +kernel) rfl
theorem wM_X5_103 : Cond.methodLink RX5 103 yX6_isShutAt ∈ wsU := mU 648 (by decide +kernel) rfl
theorem wM_X5_112 : Cond.methodLink RX5 112 yX2_liesOn ∈ wsU := mU 592 (by decide +kernel) rfl
theorem wM_X5_118 : Cond.methodLink RX5 118 yX0_apartFromJib ∈ wsU := mU 928 (by decide +kernel) rfl
theorem wM_X5_122 : Cond.methodLink RX5 122 yX0_plumb ∈ wsU := mU 635 (by decide +kernel) rfl
theorem wM_X5_125 : Cond.methodLink RX5 125 yX5_towerOn ∈ wsU := mU 584 (by decide +kernel) rfl
theorem wM_X5_128 : Cond.methodLink RX5 128 yX5_loadsOn ∈ wsU := mU 588 (by decide +kernel) rfl
theorem wM_X5_138 : Cond.methodLink RX5 138 yX1_levelOf ∈ wsU := mU 596 (by decide +kernel) rfl
theorem wM_X5_141 : Cond.methodLink RX5 141 Lib.Math.max.name ∈ wsU := mU 506 (by decide +kernel) rfl
theorem wM_X5_152 : Cond.methodLink RX5 152 yX0_clashRule ∈ wsU := mU 426 (by decide +kernel) rfl
theorem wM_X5_156 : Cond.methodLink RX5 156 yX5_clashesOf ∈ wsU := mU 422 (by decide +kernel) rfl
theorem wM_X5_160 : Cond.methodLink RX5 160 yJ6_bitCount_0f7a4 ∈ wsU := mU 463 (by decide +kernel) rfl
theorem wM_X5_168 : Cond.methodLink RX5 168 yX0_isPossible ∈ wsU := mU 630 (by decide +kernel) rfl
theorem wM_X5_178 : Cond.methodLink RX5 178 yX5_capacityOf ∈ wsU := mU 634 (by decide +kernel) rfl
theorem wM_X5_181 : Cond.methodLink RX5 181 yX5_isShut ∈ wsU := mU 636 (by decide +kernel) rfl
theorem wM_X5_184 : Cond.methodLink RX5 184 yX0_mimic ∈ wsU := mU 859 (by decide +kernel) rfl
theorem wM_X5_188 : Cond.methodLink RX5 188 yX0_move ∈ wsU := mU 873 (by decide +kernel) rfl
theorem wM_X5_192 : Cond.methodLink RX5 192 yX5_hindrance ∈ wsU := mU 864 (by decide +kernel) rfl
theorem wM_X5_196 : Cond.methodLink RX5 196 yX5_force ∈ wsU := mU 877 (by decide +kernel) rfl
theorem wM_X5_201 : Cond.methodLink RX5 201 yX0_tire ∈ wsU := mU 887 (by decide +kernel) rfl
theorem wM_X5_204 : Cond.methodLink RX5 204 yX5_missesNow ∈ wsU := mU 892 (by decide +kernel) rfl
theorem wM_X5_207 : Cond.methodLink RX5 207 yX0_settle ∈ wsU := mU 850 (by decide +kernel) rfl
theorem wM_X5_210 : Cond.methodLink RX5 210 yX5_windBearing ∈ wsU := mU 858 (by decide +kernel) rfl
theorem wM_X5_213 : Cond.methodLink RX5 213 yX0_drawIn ∈ wsU := mU 863 (by decide +kernel) rfl
theorem wM_X5_223 : Cond.methodLink RX5 223 yX0_isWithinBounds ∈ wsU := mU 938 (by decide +kernel) rfl
theorem wM_X6_1 : Cond.methodLink RX6 1 objectInit ∈ wsU := mU 777 (by decide +kernel) rfl
theorem wM_X7_3 : Cond.methodLink RX7 3 objectInit ∈ wsU := mU 41 (by decide +kernel) rfl
theorem wM_X7_14 : Cond.methodLink RX7 14 yX5_init ∈ wsU := mU 65 (by decide +kernel) rfl
theorem wM_X7_23 : Cond.methodLink RX7 23 yX3_init ∈ wsU := mU 252 (by decide +kernel) rfl
theorem wM_X7_34 : Cond.methodLink RX7 34 yX7_needWithin ∈ wsU := mU 289 (by decide +kernel) rfl
theorem wM_X7_38 : Cond.methodLink RX7 38 yX5_lay ∈ wsU := mU 360 (by decide +kernel) rfl
theorem wM_X7_46 : Cond.methodLink RX7 46 yX1_cells ∈ wsU := mU 375 (by decide +kernel) rfl
theorem wM_X7_50 : Cond.methodLink RX7 50 yX7_needCell ∈ wsU := mU 570 (by decide +kernel) rfl
theorem wM_X7_54 : Cond.methodLink RX7 54 yX5_canBuild ∈ wsU := mU 748 (by decide +kernel) rfl
theorem wM_X7_65 : Cond.methodLink RX7 65 yX1_levelOf ∈ wsU := mU 753 (by decide +kernel) rfl
theorem wM_X7_69 : Cond.methodLink RX7 69 yX1_build ∈ wsU := mU 754 (by decide +kernel) rfl
theorem wM_X7_76 : Cond.methodLink RX7 76 yJx4a65c_size_8abf5 ∈ wsU := mU 387 (by decide +kernel) rfl
theorem wM_X7_85 : Cond.methodLink RX7 85 yX4_init ∈ wsU := mU 764 (by decide +kernel) rfl
theorem wM_X7_87 : Cond.methodLink RX7 87 yJx4a65c_add_9ea2d ∈ wsU := mU 653 (by decide +kernel) rfl
theorem wM_X7_91 : Cond.methodLink RX7 91 yX1_rowOf ∈ wsU := mU 769 (by decide +kernel) rfl
theorem wM_X7_94 : Cond.methodLink RX7 94 yX1_columnOf ∈ wsU := mU 770 (by decide +kernel) rfl
theorem wM_X7_110 : Cond.methodLink RX7 110 yX6_init ∈ wsU := mU 774 (by decide +kernel) rfl
theorem wM_X7_116 : Cond.methodLink RX7 116 yX5_towerOn ∈ wsU := mU 712 (by decide +kernel) rfl
theorem wM_X7_123 : Cond.methodLink RX7 123 yX2_init ∈ wsU := mU 716 (by decide +kernel) rfl
theorem wM_X7_127 : Cond.methodLink RX7 127 yX5_canFound ∈ wsU := mU 580 (by decide +kernel) rfl
theorem wM_X7_135 : Cond.methodLink RX7 135 yX0_init ∈ wsU := mU 616 (by decide +kernel) rfl
theorem wM_X7_138 : Cond.methodLink RX7 138 yX0_drawIn ∈ wsU := mU 617 (by decide +kernel) rfl
theorem wM_X7_141 : Cond.methodLink RX7 141 yX5_hindrance ∈ wsU := mU 626 (by decide +kernel) rfl
theorem wM_X7_147 : Cond.methodLink RX7 147 yX7_needCrane ∈ wsU := mU 526 (by decide +kernel) rfl
theorem wM_X7_156 : Cond.methodLink RX7 156 yX5_reasonAgainst ∈ wsU := mU 869 (by decide +kernel) rfl
theorem wM_X7_160 : Cond.methodLink RX7 160 yX5_take ∈ wsU := mU 883 (by decide +kernel) rfl
theorem wM_X7_167 : Cond.methodLink RX7 167 yX0_plumb ∈ wsU := mU 548 (by decide +kernel) rfl
theorem wM_X7_170 : Cond.methodLink RX7 170 yX5_firstLoadOn ∈ wsU := mU 801 (by decide +kernel) rfl
theorem wM_X7_178 : Cond.methodLink RX7 178 yX0_isJustAbove ∈ wsU := mU 805 (by decide +kernel) rfl
theorem wM_X7_188 : Cond.methodLink RX7 188 yX5_capacityOf ∈ wsU := mU 560 (by decide +kernel) rfl
theorem wM_X7_191 : Cond.methodLink RX7 191 yX2_hangOn ∈ wsU := mU 819 (by decide +kernel) rfl
theorem wM_X7_198 : Cond.methodLink RX7 198 yX2_lieOn ∈ wsU := mU 827 (by decide +kernel) rfl
theorem wM_X7_206 : Cond.methodLink RX7 206 yX0_canMeet ∈ wsU := mU 836 (by decide +kernel) rfl
theorem wM_X7_210 : Cond.methodLink RX7 210 yX0_above ∈ wsU := mU 840 (by decide +kernel) rfl
theorem wM_X7_215 : Cond.methodLink RX7 215 yX5_idle ∈ wsU := mU 846 (by decide +kernel) rfl
theorem wM_X7_218 : Cond.methodLink RX7 218 yX5_force ∈ wsU := mU 391 (by decide +kernel) rfl
theorem wM_X7_221 : Cond.methodLink RX7 221 yX5_turnToWind ∈ wsU := mU 854 (by decide +kernel) rfl
theorem wM_X7_251 : Cond.methodLink RX7 251 yX5_clashesOf ∈ wsU := mU 561 (by decide +kernel) rfl
theorem wM_X7_263 : Cond.methodLink RX7 263 yJx4a65c_get_915e3 ∈ wsU := mU 546 (by decide +kernel) rfl
theorem wM_X7_267 : Cond.methodLink RX7 267 yX2_place ∈ wsU := mU 910 (by decide +kernel) rfl
theorem wM_X7_275 : Cond.methodLink RX7 275 yX3_liftersFrom ∈ wsU := mU 915 (by decide +kernel) rfl
theorem wM_X7_279 : Cond.methodLink RX7 279 yX5_loadsOn ∈ wsU := mU 923 (by decide +kernel) rfl
theorem wM_X7_282 : Cond.methodLink RX7 282 yX5_jibsOver ∈ wsU := mU 924 (by decide +kernel) rfl
theorem wM_X7_285 : Cond.methodLink RX7 285 yX5_isShut ∈ wsU := mU 929 (by decide +kernel) rfl
theorem wM_X7_290 : Cond.methodLink RX7 290 yX0_clashRule ∈ wsU := mU 904 (by decide +kernel) rfl
theorem wM_X7_293 : Cond.methodLink RX7 293 yX3_explore ∈ wsU := mU 963 (by decide +kernel) rfl
theorem wM_X7_296 : Cond.methodLink RX7 296 yX3_stepsTo ∈ wsU := mU 996 (by decide +kernel) rfl
theorem wM_X7_299 : Cond.methodLink RX7 299 yX3_swings ∈ wsU := mU 985 (by decide +kernel) rfl
theorem wM_X7_304 : Cond.methodLink RX7 304 yX3_takeDown ∈ wsU := mU 478 (by decide +kernel) rfl
theorem wM_X7_307 : Cond.methodLink RX7 307 yX3_leaverAt ∈ wsU := mU 1007 (by decide +kernel) rfl
theorem wM_X7_310 : Cond.methodLink RX7 310 yX5_hour ∈ wsU := mU 383 (by decide +kernel) rfl
theorem wM_X7_313 : Cond.methodLink RX7 313 yX5_windBearing ∈ wsU := mU 414 (by decide +kernel) rfl
theorem wM_X7_316 : Cond.methodLink RX7 316 yX5_clashingPairs ∈ wsU := mU 418 (by decide +kernel) rfl
theorem wM_X7_319 : Cond.methodLink RX7 319 yX5_nearMisses ∈ wsU := mU 469 (by decide +kernel) rfl
theorem wM_X7_324 : Cond.methodLink RX7 324 yX5_hangingLoads ∈ wsU := mU 473 (by decide +kernel) rfl
theorem wM_X7_347 : Cond.methodLink RX7 347 yX5_areCranesSound ∈ wsU := mU 934 (by decide +kernel) rfl
theorem wM_X7_350 : Cond.methodLink RX7 350 yX5_areLoadsSound ∈ wsU := mU 942 (by decide +kernel) rfl
theorem wM_X7_357 : Cond.methodLink RX7 357 yX7_many ∈ wsU := mU 955 (by decide +kernel) rfl
theorem wM_X7_360 : Cond.methodLink RX7 360 yX7_ofCell ∈ wsU := mU 956 (by decide +kernel) rfl
theorem wM_X7_363 : Cond.methodLink RX7 363 yX7_ofCrane ∈ wsU := mU 957 (by decide +kernel) rfl
theorem wM_X7_366 : Cond.methodLink RX7 366 yX7_would ∈ wsU := mU 958 (by decide +kernel) rfl
theorem wM_X7_369 : Cond.methodLink RX7 369 yX7_field ∈ wsU := mU 959 (by decide +kernel) rfl
theorem wM_X7_372 : Cond.methodLink RX7 372 yX7_swing ∈ wsU := mU 981 (by decide +kernel) rfl
theorem wM_X7_376 : Cond.methodLink RX7 376 yX7_ofLoad ∈ wsU := mU 989 (by decide +kernel) rfl
theorem wM_X7_379 : Cond.methodLink RX7 379 yX7_isSound ∈ wsU := mU 990 (by decide +kernel) rfl
theorem wM_X7_384 : Cond.methodLink RX7 384 yX1_hasCell ∈ wsU := mU 574 (by decide +kernel) rfl
theorem wL_J7_2 : Cond.classLink RJ7 2 "java/lang/Object" ∈ wsU := mU 701 (by decide +kernel) rfl
theorem wL_J7_110 : Cond.classLink RJ7 110 "[Ljava/lang/Object;" ∈ wsU := mU 699 (by decide +kernel) rfl
theorem wL_Jx4a65c_7 : Cond.classLink RJx4a65c 7 "java/lang/Object" ∈ wsU := mU 707 (by decide +kernel) rfl
theorem wL_L_9 : Cond.classLink RL 9 RX7 ∈ wsU := mU 36 (by decide +kernel) rfl
theorem wL_L_59 : Cond.classLink RL 59 "java/lang/IllegalStateException" ∈ wsU := mU 565 (by decide +kernel) rfl
theorem wL_L_94 : Cond.classLink RL 94 "java/lang/IndexOutOfBoundsException" ∈ wsU := mU 741 (by decide +kernel) rfl
theorem wL_L_96 : Cond.classLink RL 96 "java/lang/IllegalArgumentException" ∈ wsU := mU 742 (by decide +kernel) rfl
theorem wL_X3_42 : Cond.classLink RX3 42 "Slewyard$Crane" ∈ wsU := mU 485 (by decide +kernel) rfl
theorem wL_X5_9 : Cond.classLink RX5 9 RJx4a65c ∈ wsU := mU 69 (by decide +kernel) rfl
theorem wL_X5_27 : Cond.classLink RX5 27 "Slewyard$Report" ∈ wsU := mU 95 (by decide +kernel) rfl
theorem wL_X5_50 : Cond.classLink RX5 50 "Slewyard$Crane" ∈ wsU := mU 114 (by decide +kernel) rfl
theorem wL_X5_94 : Cond.classLink RX5 94 "Slewyard$Zone" ∈ wsU := mU 642 (by decide +kernel) rfl
theorem wL_X5_110 : Cond.classLink RX5 110 "Slewyard$Load" ∈ wsU := mU 477 (by decide +kernel) rfl
theorem wL_X7_9 : Cond.classLink RX7 9 RX5 ∈ wsU := mU 44 (by decide +kernel) rfl
theorem wL_X7_11 : Cond.classLink RX7 11 RX1 ∈ wsU := mU 46 (by decide +kernel) rfl
theorem wL_X7_21 : Cond.classLink RX7 21 RX3 ∈ wsU := mU 250 (by decide +kernel) rfl
theorem wL_X7_58 : Cond.classLink RX7 58 "java/lang/IllegalStateException" ∈ wsU := mU 600 (by decide +kernel) rfl
theorem wL_X7_83 : Cond.classLink RX7 83 RX4 ∈ wsU := mU 763 (by decide +kernel) rfl
theorem wL_X7_108 : Cond.classLink RX7 108 RX6 ∈ wsU := mU 772 (by decide +kernel) rfl
theorem wL_X7_121 : Cond.classLink RX7 121 "Slewyard$Load" ∈ wsU := mU 714 (by decide +kernel) rfl
theorem wL_X7_133 : Cond.classLink RX7 133 "Slewyard$Crane" ∈ wsU := mU 547 (by decide +kernel) rfl
theorem wL_X7_201 : Cond.classLink RX7 201 "java/lang/IllegalArgumentException" ∈ wsU := mU 292 (by decide +kernel) rfl
theorem wL_X7_258 : Cond.classLink RX7 258 "java/lang/IndexOutOfBoundsException" ∈ wsU := mU 530 (by decide +kernel) rfl
theorem wC_Lib_Math_abs_name : Cond.code Lib.Math.abs.name Lib.Math.abs.code 1 (some .int) ∈ wsU := mU 458 (by decide +kernel) rfl
theorem wC_Lib_Math_max_name : Cond.code Lib.Math.max.name Lib.Math.max.code 2 (some .int) ∈ wsU := mU 455 (by decide +kernel) rfl
theorem wC_Lib_Math_min_name : Cond.code Lib.Math.min.name Lib.Math.min.code 2 (some .int) ∈ wsU := mU 452 (by decide +kernel) rfl
theorem wC_objectInit : Cond.code objectInit ⟨#[0xb1]⟩ 1 none ∈ wsU := mU 43 (by decide +kernel) rfl
theorem wC_J15_checkIndex_7cf53 : Cond.code yJ15_checkIndex_7cf53 cJ15_checkIndex_7cf53 2 (some .int) ∈ wsU := mU 406 (by decide +kernel) rfl
theorem wC_J3_checkIndex_8e157 : Cond.code yJ3_checkIndex_8e157 cJ3_checkIndex_8e157 3 (some .int) ∈ wsU := mU 409 (by decide +kernel) rfl
theorem wC_J6_bitCount_0f7a4 : Cond.code yJ6_bitCount_0f7a4 cJ6_bitCount_0f7a4 1 (some .int) ∈ wsU := mU 465 (by decide +kernel) rfl
theorem wC_J7_copyOf_1904c : Cond.code yJ7_copyOf_1904c cJ7_copyOf_1904c 2 (some (.array (.object "java/lang/Object"))) ∈ wsU := mU 679 (by decide +kernel) rfl
theorem wC_J7_copyOf_6403c : Cond.code yJ7_copyOf_6403c cJ7_copyOf_6403c 4 (some (.array (.object "java/lang/Object"))) ∈ wsU := mU 698 (by decide +kernel) rfl
theorem wC_J7_fill_53178 : Cond.code yJ7_fill_53178 cJ7_fill_53178 4 none ∈ wsU := mU 370 (by decide +kernel) rfl
theorem wC_J8_hugeLength_7cf53 : Cond.code yJ8_hugeLength_7cf53 cJ8_hugeLength_7cf53 3 (some .int) ∈ wsU := mU 676 (by decide +kernel) rfl
theorem wC_J8_newLength_cabcc : Cond.code yJ8_newLength_cabcc cJ8_newLength_cabcc 4 (some .int) ∈ wsU := mU 671 (by decide +kernel) rfl
theorem wC_J9_abs_0f7a4 : Cond.code yJ9_abs_0f7a4 cJ9_abs_0f7a4 1 (some .int) ∈ wsU := mU 458 (by decide +kernel) rfl
theorem wC_J9_max_7cf53 : Cond.code yJ9_max_7cf53 cJ9_max_7cf53 2 (some .int) ∈ wsU := mU 455 (by decide +kernel) rfl
theorem wC_J9_min_7cf53 : Cond.code yJ9_min_7cf53 cJ9_min_7cf53 2 (some .int) ∈ wsU := mU 452 (by decide +kernel) rfl
theorem wC_Jx4a65c_add_72be8 : Cond.code yJx4a65c_add_72be8 cJx4a65c_add_72be8 4 none ∈ wsU := mU 660 (by decide +kernel) rfl
theorem wC_Jx4a65c_add_9ea2d : Cond.code yJx4a65c_add_9ea2d cJx4a65c_add_9ea2d 2 (some .boolean) ∈ wsU := mU 656 (by decide +kernel) rfl
theorem wC_Jx4a65c_clear_da8c8 : Cond.code yJx4a65c_clear_da8c8 cJx4a65c_clear_da8c8 4 none ∈ wsU := mU 374 (by decide +kernel) rfl
theorem wC_Jx4a65c_elementData_915e3 : Cond.code yJx4a65c_elementData_915e3 cJx4a65c_elementData_915e3 2 (some (.object "java/lang/Object")) ∈ wsU := mU 413 (by decide +kernel) rfl
theorem wC_Jx4a65c_get_915e3 : Cond.code yJx4a65c_get_915e3 cJx4a65c_get_915e3 2 (some (.object "java/lang/Object")) ∈ wsU := mU 403 (by decide +kernel) rfl
theorem wC_Jx4a65c_grow_92f84 : Cond.code yJx4a65c_grow_92f84 cJx4a65c_grow_92f84 4 (some (.array (.object "java/lang/Object"))) ∈ wsU := mU 668 (by decide +kernel) rfl
theorem wC_Jx4a65c_grow_d5877 : Cond.code yJx4a65c_grow_d5877 cJx4a65c_grow_d5877 1 (some (.array (.object "java/lang/Object"))) ∈ wsU := mU 664 (by decide +kernel) rfl
theorem wC_Jx4a65c_init_da8c8 : Cond.code yJx4a65c_init_da8c8 cJx4a65c_init_da8c8 1 none ∈ wsU := mU 73 (by decide +kernel) rfl
theorem wC_Jx4a65c_size_8abf5 : Cond.code yJx4a65c_size_8abf5 cJx4a65c_size_8abf5 1 (some .int) ∈ wsU := mU 390 (by decide +kernel) rfl
theorem wC_Jxa1e45_init_da8c8 : Cond.code yJxa1e45_init_da8c8 cJxa1e45_init_da8c8 1 none ∈ wsU := mU 79 (by decide +kernel) rfl
theorem wC_Jxc12de_init_da8c8 : Cond.code yJxc12de_init_da8c8 cJxc12de_init_da8c8 1 none ∈ wsU := mU 76 (by decide +kernel) rfl
theorem wC_L_below : Cond.code yL_below cL_below 2 (some .int) ∈ wsU := mU 513 (by decide +kernel) rfl
theorem wC_L_cell : Cond.code yL_cell cL_cell 2 (some .int) ∈ wsU := mU 517 (by decide +kernel) rfl
theorem wC_L_isAsked : Cond.code yL_isAsked cL_isAsked 8 (some .boolean) ∈ wsU := mU 948 (by decide +kernel) rfl
theorem wC_L_isWhole : Cond.code yL_isWhole cL_isWhole 10 (some .boolean) ∈ wsU := mU 898 (by decide +kernel) rfl
theorem wC_L_met : Cond.code yL_met cL_met 3 (some .int) ∈ wsU := mU 521 (by decide +kernel) rfl
theorem wC_X0_above : Cond.code yX0_above cX0_above 1 (some .int) ∈ wsU := mU 816 (by decide +kernel) rfl
theorem wC_X0_apartFromJib : Cond.code yX0_apartFromJib cX0_apartFromJib 8 (some .int) ∈ wsU := mU 449 (by decide +kernel) rfl
theorem wC_X0_apartFromJibOf : Cond.code yX0_apartFromJibOf cX0_apartFromJibOf 4 (some .int) ∈ wsU := mU 433 (by decide +kernel) rfl
theorem wC_X0_canMeet : Cond.code yX0_canMeet cX0_canMeet 4 (some .boolean) ∈ wsU := mU 839 (by decide +kernel) rfl
theorem wC_X0_clashRule : Cond.code yX0_clashRule cX0_clashRule 5 (some .int) ∈ wsU := mU 429 (by decide +kernel) rfl
theorem wC_X0_columnAt : Cond.code yX0_columnAt cX0_columnAt 2 (some .int) ∈ wsU := mU 443 (by decide +kernel) rfl
theorem wC_X0_drawIn : Cond.code yX0_drawIn cX0_drawIn 2 none ∈ wsU := mU 620 (by decide +kernel) rfl
theorem wC_X0_face : Cond.code yX0_face cX0_face 2 none ∈ wsU := mU 624 (by decide +kernel) rfl
theorem wC_X0_init : Cond.code yX0_init cX0_init 7 none ∈ wsU := mU 118 (by decide +kernel) rfl
theorem wC_X0_isCalm : Cond.code yX0_isCalm cX0_isCalm 1 (some .boolean) ∈ wsU := mU 812 (by decide +kernel) rfl
theorem wC_X0_isJustAbove : Cond.code yX0_isJustAbove cX0_isJustAbove 1 (some .boolean) ∈ wsU := mU 808 (by decide +kernel) rfl
theorem wC_X0_isPossible : Cond.code yX0_isPossible cX0_isPossible 1 (some .boolean) ∈ wsU := mU 633 (by decide +kernel) rfl
theorem wC_X0_isWithinBounds : Cond.code yX0_isWithinBounds cX0_isWithinBounds 1 (some .boolean) ∈ wsU := mU 941 (by decide +kernel) rfl
theorem wC_X0_mimic : Cond.code yX0_mimic cX0_mimic 2 none ∈ wsU := mU 862 (by decide +kernel) rfl
theorem wC_X0_move : Cond.code yX0_move cX0_move 2 none ∈ wsU := mU 876 (by decide +kernel) rfl
theorem wC_X0_plumb : Cond.code yX0_plumb cX0_plumb 1 (some .int) ∈ wsU := mU 551 (by decide +kernel) rfl
theorem wC_X0_rowAt : Cond.code yX0_rowAt cX0_rowAt 2 (some .int) ∈ wsU := mU 437 (by decide +kernel) rfl
theorem wC_X0_settle : Cond.code yX0_settle cX0_settle 2 none ∈ wsU := mU 853 (by decide +kernel) rfl
theorem wC_X0_sweepsOn : Cond.code yX0_sweepsOn cX0_sweepsOn 3 (some .boolean) ∈ wsU := mU 462 (by decide +kernel) rfl
theorem wC_X0_tire : Cond.code yX0_tire cX0_tire 2 none ∈ wsU := mU 890 (by decide +kernel) rfl
theorem wC_X0_weight : Cond.code yX0_weight cX0_weight 1 (some .int) ∈ wsU := mU 493 (by decide +kernel) rfl
theorem wC_X1_build : Cond.code yX1_build cX1_build 3 none ∈ wsU := mU 757 (by decide +kernel) rfl
theorem wC_X1_cellAt : Cond.code yX1_cellAt cX1_cellAt 3 (some .int) ∈ wsU := mU 555 (by decide +kernel) rfl
theorem wC_X1_cells : Cond.code yX1_cells cX1_cells 1 (some .int) ∈ wsU := mU 378 (by decide +kernel) rfl
theorem wC_X1_columnOf : Cond.code yX1_columnOf cX1_columnOf 2 (some .int) ∈ wsU := mU 127 (by decide +kernel) rfl
theorem wC_X1_hasCell : Cond.code yX1_hasCell cX1_hasCell 2 (some .boolean) ∈ wsU := mU 577 (by decide +kernel) rfl
theorem wC_X1_hasPlace : Cond.code yX1_hasPlace cX1_hasPlace 3 (some .boolean) ∈ wsU := mU 559 (by decide +kernel) rfl
theorem wC_X1_init : Cond.code yX1_init cX1_init 1 none ∈ wsU := mU 50 (by decide +kernel) rfl
theorem wC_X1_lay : Cond.code yX1_lay cX1_lay 3 none ∈ wsU := mU 367 (by decide +kernel) rfl
theorem wC_X1_levelOf : Cond.code yX1_levelOf cX1_levelOf 2 (some .int) ∈ wsU := mU 599 (by decide +kernel) rfl
theorem wC_X1_rowOf : Cond.code yX1_rowOf cX1_rowOf 2 (some .int) ∈ wsU := mU 123 (by decide +kernel) rfl
theorem wC_X2_hangOn : Cond.code yX2_hangOn cX2_hangOn 2 none ∈ wsU := mU 822 (by decide +kernel) rfl
theorem wC_X2_init : Cond.code yX2_init cX2_init 4 none ∈ wsU := mU 718 (by decide +kernel) rfl
theorem wC_X2_lieOn : Cond.code yX2_lieOn cX2_lieOn 2 none ∈ wsU := mU 830 (by decide +kernel) rfl
theorem wC_X2_liesOn : Cond.code yX2_liesOn cX2_liesOn 2 (some .boolean) ∈ wsU := mU 595 (by decide +kernel) rfl
theorem wC_X2_place : Cond.code yX2_place cX2_place 1 (some .int) ∈ wsU := mU 913 (by decide +kernel) rfl
theorem wC_X3_assume : Cond.code yX3_assume cX3_assume 2 none ∈ wsU := mU 977 (by decide +kernel) rfl
theorem wC_X3_canLift : Cond.code yX3_canLift cX3_canLift 8 (some .boolean) ∈ wsU := mU 497 (by decide +kernel) rfl
theorem wC_X3_explore : Cond.code yX3_explore cX3_explore 9 (some .int) ∈ wsU := mU 966 (by decide +kernel) rfl
theorem wC_X3_init : Cond.code yX3_init cX3_init 2 none ∈ wsU := mU 254 (by decide +kernel) rfl
theorem wC_X3_leaverAt : Cond.code yX3_leaverAt cX3_leaverAt 2 (some .int) ∈ wsU := mU 1010 (by decide +kernel) rfl
theorem wC_X3_liftersFrom : Cond.code yX3_liftersFrom cX3_liftersFrom 5 (some .int) ∈ wsU := mU 918 (by decide +kernel) rfl
theorem wC_X3_nextToGo : Cond.code yX3_nextToGo cX3_nextToGo 3 (some .int) ∈ wsU := mU 510 (by decide +kernel) rfl
theorem wC_X3_poseOf : Cond.code yX3_poseOf cX3_poseOf 1 (some .int) ∈ wsU := mU 973 (by decide +kernel) rfl
theorem wC_X3_stepsTo : Cond.code yX3_stepsTo cX3_stepsTo 3 (some .int) ∈ wsU := mU 999 (by decide +kernel) rfl
theorem wC_X3_swings : Cond.code yX3_swings cX3_swings 5 (some .int) ∈ wsU := mU 988 (by decide +kernel) rfl
theorem wC_X3_takeDown : Cond.code yX3_takeDown cX3_takeDown 5 (some .int) ∈ wsU := mU 481 (by decide +kernel) rfl
theorem wC_X3_takersOf : Cond.code yX3_takersOf cX3_takersOf 5 (some .int) ∈ wsU := mU 489 (by decide +kernel) rfl
theorem wC_X4_init : Cond.code yX4_init cX4_init 4 none ∈ wsU := mU 99 (by decide +kernel) rfl
theorem wC_X5_areCranesSound : Cond.code yX5_areCranesSound cX5_areCranesSound 5 (some .boolean) ∈ wsU := mU 937 (by decide +kernel) rfl
theorem wC_X5_areLoadsSound : Cond.code yX5_areLoadsSound cX5_areLoadsSound 3 (some .boolean) ∈ wsU := mU 945 (by decide +kernel) rfl
theorem wC_X5_canBuild : Cond.code yX5_canBuild cX5_canBuild 6 (some .boolean) ∈ wsU := mU 751 (by decide +kernel) rfl
theorem wC_X5_canFound : Cond.code yX5_canFound cX5_canFound 2 (some .boolean) ∈ wsU := mU 583 (by decide +kernel) rfl
theorem wC_X5_capacityOf : Cond.code yX5_capacityOf cX5_capacityOf 4 (some .int) ∈ wsU := mU 505 (by decide +kernel) rfl
theorem wC_X5_clashesOf : Cond.code yX5_clashesOf cX5_clashesOf 4 (some .int) ∈ wsU := mU 425 (by decide +kernel) rfl
theorem wC_X5_clashingPairs : Cond.code yX5_clashingPairs cX5_clashingPairs 3 (some .int) ∈ wsU := mU 421 (by decide +kernel) rfl
theorem wC_X5_firstLoadOn : Cond.code yX5_firstLoadOn cX5_firstLoadOn 4 (some (.object "Slewyard$Load")) ∈ wsU := mU 804 (by decide +kernel) rfl
theorem wC_X5_force : Cond.code yX5_force cX5_force 1 (some .int) ∈ wsU := mU 394 (by decide +kernel) rfl
theorem wC_X5_hangingLoads : Cond.code yX5_hangingLoads cX5_hangingLoads 3 (some .int) ∈ wsU := mU 476 (by decide +kernel) rfl
theorem wC_X5_hindrance : Cond.code yX5_hindrance cX5_hindrance 8 (some .int) ∈ wsU := mU 629 (by decide +kernel) rfl
theorem wC_X5_hour : Cond.code yX5_hour cX5_hour 1 (some .int) ∈ wsU := mU 386 (by decide +kernel) rfl
theorem wC_X5_idle : Cond.code yX5_idle cX5_idle 3 none ∈ wsU := mU 849 (by decide +kernel) rfl
theorem wC_X5_init : Cond.code yX5_init cX5_init 2 none ∈ wsU := mU 67 (by decide +kernel) rfl
theorem wC_X5_isShut : Cond.code yX5_isShut cX5_isShut 6 (some .boolean) ∈ wsU := mU 639 (by decide +kernel) rfl
theorem wC_X5_jibsOver : Cond.code yX5_jibsOver cX5_jibsOver 6 (some .int) ∈ wsU := mU 927 (by decide +kernel) rfl
theorem wC_X5_lay : Cond.code yX5_lay cX5_lay 3 none ∈ wsU := mU 363 (by decide +kernel) rfl
theorem wC_X5_loadsOn : Cond.code yX5_loadsOn cX5_loadsOn 4 (some .int) ∈ wsU := mU 591 (by decide +kernel) rfl
theorem wC_X5_missesNow : Cond.code yX5_missesNow cX5_missesNow 5 (some .int) ∈ wsU := mU 895 (by decide +kernel) rfl
theorem wC_X5_nearMisses : Cond.code yX5_nearMisses cX5_nearMisses 3 (some .int) ∈ wsU := mU 472 (by decide +kernel) rfl
theorem wC_X5_reasonAgainst : Cond.code yX5_reasonAgainst cX5_reasonAgainst 4 (some .int) ∈ wsU := mU 872 (by decide +kernel) rfl
theorem wC_X5_take : Cond.code yX5_take cX5_take 3 none ∈ wsU := mU 886 (by decide +kernel) rfl
theorem wC_X5_towerOn : Cond.code yX5_towerOn cX5_towerOn 3 (some .int) ∈ wsU := mU 587 (by decide +kernel) rfl
theorem wC_X5_turnToWind : Cond.code yX5_turnToWind cX5_turnToWind 5 (some .int) ∈ wsU := mU 857 (by decide +kernel) rfl
theorem wC_X5_windBearing : Cond.code yX5_windBearing cX5_windBearing 1 (some .int) ∈ wsU := mU 417 (by decide +kernel) rfl
theorem wC_X5_windNow : Cond.code yX5_windNow cX5_windNow 4 (some (.object "Slewyard$Report")) ∈ wsU := mU 398 (by decide +kernel) rfl
theorem wC_X6_covers : Cond.code yX6_covers cX6_covers 3 (some .boolean) ∈ wsU := mU 646 (by decide +kernel) rfl
theorem wC_X6_init : Cond.code yX6_init cX6_init 7 none ∈ wsU := mU 776 (by decide +kernel) rfl
theorem wC_X6_isShutAt : Cond.code yX6_isShutAt cX6_isShutAt 2 (some .boolean) ∈ wsU := mU 651 (by decide +kernel) rfl
theorem wC_X7_clash : Cond.code yX7_clash cX7_clash 5 (some .int) ∈ wsU := mU 902 (by decide +kernel) rfl
theorem wC_X7_crane : Cond.code yX7_crane cX7_crane 8 (some .int) ∈ wsU := mU 569 (by decide +kernel) rfl
theorem wC_X7_digest : Cond.code yX7_digest cX7_digest 5 (some .long) ∈ wsU := mU 952 (by decide +kernel) rfl
theorem wC_X7_field : Cond.code yX7_field cX7_field 2 (some .int) ∈ wsU := mU 962 (by decide +kernel) rfl
theorem wC_X7_hand : Cond.code yX7_hand cX7_hand 6 (some .int) ∈ wsU := mU 834 (by decide +kernel) rfl
theorem wC_X7_hang : Cond.code yX7_hang cX7_hang 4 (some .int) ∈ wsU := mU 800 (by decide +kernel) rfl
theorem wC_X7_init : Cond.code yX7_init cX7_init 2 none ∈ wsU := mU 40 (by decide +kernel) rfl
theorem wC_X7_isSound : Cond.code yX7_isSound cX7_isSound 1 (some .boolean) ∈ wsU := mU 933 (by decide +kernel) rfl
theorem wC_X7_level : Cond.code yX7_level cX7_level 4 (some .int) ∈ wsU := mU 747 (by decide +kernel) rfl
theorem wC_X7_load : Cond.code yX7_load cX7_load 4 (some .int) ∈ wsU := mU 711 (by decide +kernel) rfl
theorem wC_X7_many : Cond.code yX7_many cX7_many 2 (some .int) ∈ wsU := mU 382 (by decide +kernel) rfl
theorem wC_X7_needCell : Cond.code yX7_needCell cX7_needCell 2 none ∈ wsU := mU 573 (by decide +kernel) rfl
theorem wC_X7_needCrane : Cond.code yX7_needCrane cX7_needCrane 2 (some (.object "Slewyard$Crane")) ∈ wsU := mU 529 (by decide +kernel) rfl
theorem wC_X7_needWithin : Cond.code yX7_needWithin cX7_needWithin 3 none ∈ wsU := mU 291 (by decide +kernel) rfl
theorem wC_X7_ofCell : Cond.code yX7_ofCell cX7_ofCell 3 (some .int) ∈ wsU := mU 922 (by decide +kernel) rfl
theorem wC_X7_ofCrane : Cond.code yX7_ofCrane cX7_ofCrane 4 (some .int) ∈ wsU := mU 525 (by decide +kernel) rfl
theorem wC_X7_ofLoad : Cond.code yX7_ofLoad cX7_ofLoad 4 (some .int) ∈ wsU := mU 908 (by decide +kernel) rfl
theorem wC_X7_order : Cond.code yX7_order cX7_order 2 (some .int) ∈ wsU := mU 1005 (by decide +kernel) rfl
theorem wC_X7_rest : Cond.code yX7_rest cX7_rest 2 (some .int) ∈ wsU := mU 844 (by decide +kernel) rfl
theorem wC_X7_set : Cond.code yX7_set cX7_set 5 (some .int) ∈ wsU := mU 826 (by decide +kernel) rfl
theorem wC_X7_step : Cond.code yX7_step cX7_step 5 (some .int) ∈ wsU := mU 881 (by decide +kernel) rfl
theorem wC_X7_swing : Cond.code yX7_swing cX7_swing 3 (some .int) ∈ wsU := mU 984 (by decide +kernel) rfl
theorem wC_X7_way : Cond.code yX7_way cX7_way 4 (some .int) ∈ wsU := mU 995 (by decide +kernel) rfl
theorem wC_X7_wind : Cond.code yX7_wind cX7_wind 4 (some .int) ∈ wsU := mU 761 (by decide +kernel) rfl
theorem wC_X7_would : Cond.code yX7_would cX7_would 4 (some .int) ∈ wsU := mU 868 (by decide +kernel) rfl
theorem wC_X7_yard : Cond.code yX7_yard cX7_yard 3 (some .int) ∈ wsU := mU 288 (by decide +kernel) rfl
theorem wC_X7_zone : Cond.code yX7_zone cX7_zone 8 (some .int) ∈ wsU := mU 768 (by decide +kernel) rfl
theorem wC_L_act : Cond.codeWith yL_act cL_act 10 none [(19, 327, 330, 94), (19, 327, 333, 96), (19, 327, 336, 59)] ∈ wsU := mU 740 (by decide +kernel) rfl
theorem wC_L_build : Cond.codeWith yL_build cL_build 4 none [(0, 87, 90, 59)] ∈ wsU := mU 564 (by decide +kernel) rfl
theorem wI_objectInit : Cond.instanceMethod objectInit ∈ wsU := mU 42 (by decide +kernel) rfl
theorem wI_Jx4a65c_add_72be8 : Cond.instanceMethod yJx4a65c_add_72be8 ∈ wsU := mU 659 (by decide +kernel) rfl
theorem wI_Jx4a65c_add_9ea2d : Cond.instanceMethod yJx4a65c_add_9ea2d ∈ wsU := mU 654 (by decide +kernel) rfl
theorem wI_Jx4a65c_clear_da8c8 : Cond.instanceMethod yJx4a65c_clear_da8c8 ∈ wsU := mU 372 (by decide +kernel) rfl
theorem wI_Jx4a65c_elementData_915e3 : Cond.instanceMethod yJx4a65c_elementData_915e3 ∈ wsU := mU 411 (by decide +kernel) rfl
theorem wI_Jx4a65c_get_915e3 : Cond.instanceMethod yJx4a65c_get_915e3 ∈ wsU := mU 401 (by decide +kernel) rfl
theorem wI_Jx4a65c_grow_92f84 : Cond.instanceMethod yJx4a65c_grow_92f84 ∈ wsU := mU 667 (by decide +kernel) rfl
theorem wI_Jx4a65c_grow_d5877 : Cond.instanceMethod yJx4a65c_grow_d5877 ∈ wsU := mU 663 (by decide +kernel) rfl
theorem wI_Jx4a65c_init_da8c8 : Cond.instanceMethod yJx4a65c_init_da8c8 ∈ wsU := mU 72 (by decide +kernel) rfl
theorem wI_Jx4a65c_size_8abf5 : Cond.instanceMethod yJx4a65c_size_8abf5 ∈ wsU := mU 388 (by decide +kernel) rfl
theorem wI_Jxa1e45_init_da8c8 : Cond.instanceMethod yJxa1e45_init_da8c8 ∈ wsU := mU 78 (by decide +kernel) rfl
theorem wI_Jxc12de_init_da8c8 : Cond.instanceMethod yJxc12de_init_da8c8 ∈ wsU := mU 75 (by decide +kernel) rfl
theorem wI_X0_above : Cond.instanceMethod yX0_above ∈ wsU := mU 814 (by decide +kernel) rfl
theorem wI_X0_apartFromJib : Cond.instanceMethod yX0_apartFromJib ∈ wsU := mU 447 (by decide +kernel) rfl
theorem wI_X0_apartFromJibOf : Cond.instanceMethod yX0_apartFromJibOf ∈ wsU := mU 431 (by decide +kernel) rfl
theorem wI_X0_canMeet : Cond.instanceMethod yX0_canMeet ∈ wsU := mU 837 (by decide +kernel) rfl
theorem wI_X0_clashRule : Cond.instanceMethod yX0_clashRule ∈ wsU := mU 427 (by decide +kernel) rfl
theorem wI_X0_columnAt : Cond.instanceMethod yX0_columnAt ∈ wsU := mU 441 (by decide +kernel) rfl
theorem wI_X0_drawIn : Cond.instanceMethod yX0_drawIn ∈ wsU := mU 618 (by decide +kernel) rfl
theorem wI_X0_face : Cond.instanceMethod yX0_face ∈ wsU := mU 622 (by decide +kernel) rfl
theorem wI_X0_init : Cond.instanceMethod yX0_init ∈ wsU := mU 117 (by decide +kernel) rfl
theorem wI_X0_isCalm : Cond.instanceMethod yX0_isCalm ∈ wsU := mU 810 (by decide +kernel) rfl
theorem wI_X0_isJustAbove : Cond.instanceMethod yX0_isJustAbove ∈ wsU := mU 806 (by decide +kernel) rfl
theorem wI_X0_isPossible : Cond.instanceMethod yX0_isPossible ∈ wsU := mU 631 (by decide +kernel) rfl
theorem wI_X0_isWithinBounds : Cond.instanceMethod yX0_isWithinBounds ∈ wsU := mU 939 (by decide +kernel) rfl
theorem wI_X0_mimic : Cond.instanceMethod yX0_mimic ∈ wsU := mU 860 (by decide +kernel) rfl
theorem wI_X0_move : Cond.instanceMethod yX0_move ∈ wsU := mU 874 (by decide +kernel) rfl
theorem wI_X0_plumb : Cond.instanceMethod yX0_plumb ∈ wsU := mU 549 (by decide +kernel) rfl
theorem wI_X0_rowAt : Cond.instanceMethod yX0_rowAt ∈ wsU := mU 435 (by decide +kernel) rfl
theorem wI_X0_settle : Cond.instanceMethod yX0_settle ∈ wsU := mU 851 (by decide +kernel) rfl
theorem wI_X0_sweepsOn : Cond.instanceMethod yX0_sweepsOn ∈ wsU := mU 461 (by decide +kernel) rfl
theorem wI_X0_tire : Cond.instanceMethod yX0_tire ∈ wsU := mU 888 (by decide +kernel) rfl
theorem wI_X0_weight : Cond.instanceMethod yX0_weight ∈ wsU := mU 491 (by decide +kernel) rfl
theorem wI_X1_build : Cond.instanceMethod yX1_build ∈ wsU := mU 755 (by decide +kernel) rfl
theorem wI_X1_cellAt : Cond.instanceMethod yX1_cellAt ∈ wsU := mU 553 (by decide +kernel) rfl
theorem wI_X1_cells : Cond.instanceMethod yX1_cells ∈ wsU := mU 376 (by decide +kernel) rfl
theorem wI_X1_columnOf : Cond.instanceMethod yX1_columnOf ∈ wsU := mU 125 (by decide +kernel) rfl
theorem wI_X1_hasCell : Cond.instanceMethod yX1_hasCell ∈ wsU := mU 575 (by decide +kernel) rfl
theorem wI_X1_hasPlace : Cond.instanceMethod yX1_hasPlace ∈ wsU := mU 557 (by decide +kernel) rfl
theorem wI_X1_init : Cond.instanceMethod yX1_init ∈ wsU := mU 49 (by decide +kernel) rfl
theorem wI_X1_lay : Cond.instanceMethod yX1_lay ∈ wsU := mU 365 (by decide +kernel) rfl
theorem wI_X1_levelOf : Cond.instanceMethod yX1_levelOf ∈ wsU := mU 597 (by decide +kernel) rfl
theorem wI_X1_rowOf : Cond.instanceMethod yX1_rowOf ∈ wsU := mU 121 (by decide +kernel) rfl
theorem wI_X2_hangOn : Cond.instanceMethod yX2_hangOn ∈ wsU := mU 820 (by decide +kernel) rfl
theorem wI_X2_init : Cond.instanceMethod yX2_init ∈ wsU := mU 717 (by decide +kernel) rfl
theorem wI_X2_lieOn : Cond.instanceMethod yX2_lieOn ∈ wsU := mU 828 (by decide +kernel) rfl
theorem wI_X2_liesOn : Cond.instanceMethod yX2_liesOn ∈ wsU := mU 593 (by decide +kernel) rfl
theorem wI_X2_place : Cond.instanceMethod yX2_place ∈ wsU := mU 911 (by decide +kernel) rfl
theorem wI_X3_assume : Cond.instanceMethod yX3_assume ∈ wsU := mU 976 (by decide +kernel) rfl
theorem wI_X3_canLift : Cond.instanceMethod yX3_canLift ∈ wsU := mU 496 (by decide +kernel) rfl
theorem wI_X3_explore : Cond.instanceMethod yX3_explore ∈ wsU := mU 964 (by decide +kernel) rfl
theorem wI_X3_init : Cond.instanceMethod yX3_init ∈ wsU := mU 253 (by decide +kernel) rfl
theorem wI_X3_leaverAt : Cond.instanceMethod yX3_leaverAt ∈ wsU := mU 1008 (by decide +kernel) rfl
theorem wI_X3_liftersFrom : Cond.instanceMethod yX3_liftersFrom ∈ wsU := mU 916 (by decide +kernel) rfl
theorem wI_X3_nextToGo : Cond.instanceMethod yX3_nextToGo ∈ wsU := mU 509 (by decide +kernel) rfl
theorem wI_X3_stepsTo : Cond.instanceMethod yX3_stepsTo ∈ wsU := mU 997 (by decide +kernel) rfl
theorem wI_X3_swings : Cond.instanceMethod yX3_swings ∈ wsU := mU 986 (by decide +kernel) rfl
theorem wI_X3_takeDown : Cond.instanceMethod yX3_takeDown ∈ wsU := mU 479 (by decide +kernel) rfl
theorem wI_X3_takersOf : Cond.instanceMethod yX3_takersOf ∈ wsU := mU 488 (by decide +kernel) rfl
theorem wI_X4_init : Cond.instanceMethod yX4_init ∈ wsU := mU 98 (by decide +kernel) rfl
theorem wI_X5_areCranesSound : Cond.instanceMethod yX5_areCranesSound ∈ wsU := mU 935 (by decide +kernel) rfl
theorem wI_X5_areLoadsSound : Cond.instanceMethod yX5_areLoadsSound ∈ wsU := mU 943 (by decide +kernel) rfl
theorem wI_X5_canBuild : Cond.instanceMethod yX5_canBuild ∈ wsU := mU 749 (by decide +kernel) rfl
theorem wI_X5_canFound : Cond.instanceMethod yX5_canFound ∈ wsU := mU 581 (by decide +kernel) rfl
theorem wI_X5_capacityOf : Cond.instanceMethod yX5_capacityOf ∈ wsU := mU 503 (by decide +kernel) rfl
theorem wI_X5_clashesOf : Cond.instanceMethod yX5_clashesOf ∈ wsU := mU 423 (by decide +kernel) rfl
theorem wI_X5_clashingPairs : Cond.instanceMethod yX5_clashingPairs ∈ wsU := mU 419 (by decide +kernel) rfl
theorem wI_X5_firstLoadOn : Cond.instanceMethod yX5_firstLoadOn ∈ wsU := mU 802 (by decide +kernel) rfl
theorem wI_X5_force : Cond.instanceMethod yX5_force ∈ wsU := mU 392 (by decide +kernel) rfl
theorem wI_X5_hangingLoads : Cond.instanceMethod yX5_hangingLoads ∈ wsU := mU 474 (by decide +kernel) rfl
theorem wI_X5_hindrance : Cond.instanceMethod yX5_hindrance ∈ wsU := mU 627 (by decide +kernel) rfl
theorem wI_X5_hour : Cond.instanceMethod yX5_hour ∈ wsU := mU 384 (by decide +kernel) rfl
theorem wI_X5_idle : Cond.instanceMethod yX5_idle ∈ wsU := mU 847 (by decide +kernel) rfl
theorem wI_X5_init : Cond.instanceMethod yX5_init ∈ wsU := mU 66 (by decide +kernel) rfl
theorem wI_X5_isShut : Cond.instanceMethod yX5_isShut ∈ wsU := mU 637 (by decide +kernel) rfl
theorem wI_X5_jibsOver : Cond.instanceMethod yX5_jibsOver ∈ wsU := mU 925 (by decide +kernel) rfl
theorem wI_X5_lay : Cond.instanceMethod yX5_lay ∈ wsU := mU 361 (by decide +kernel) rfl
theorem wI_X5_loadsOn : Cond.instanceMethod yX5_loadsOn ∈ wsU := mU 589 (by decide +kernel) rfl
theorem wI_X5_missesNow : Cond.instanceMethod yX5_missesNow ∈ wsU := mU 893 (by decide +kernel) rfl
theorem wI_X5_nearMisses : Cond.instanceMethod yX5_nearMisses ∈ wsU := mU 470 (by decide +kernel) rfl
theorem wI_X5_reasonAgainst : Cond.instanceMethod yX5_reasonAgainst ∈ wsU := mU 870 (by decide +kernel) rfl
theorem wI_X5_take : Cond.instanceMethod yX5_take ∈ wsU := mU 884 (by decide +kernel) rfl
theorem wI_X5_towerOn : Cond.instanceMethod yX5_towerOn ∈ wsU := mU 585 (by decide +kernel) rfl
theorem wI_X5_turnToWind : Cond.instanceMethod yX5_turnToWind ∈ wsU := mU 855 (by decide +kernel) rfl
theorem wI_X5_windBearing : Cond.instanceMethod yX5_windBearing ∈ wsU := mU 415 (by decide +kernel) rfl
theorem wI_X5_windNow : Cond.instanceMethod yX5_windNow ∈ wsU := mU 396 (by decide +kernel) rfl
theorem wI_X6_covers : Cond.instanceMethod yX6_covers ∈ wsU := mU 644 (by decide +kernel) rfl
theorem wI_X6_init : Cond.instanceMethod yX6_init ∈ wsU := mU 775 (by decide +kernel) rfl
theorem wI_X6_isShutAt : Cond.instanceMethod yX6_isShutAt ∈ wsU := mU 649 (by decide +kernel) rfl
theorem wI_X7_clash : Cond.instanceMethod yX7_clash ∈ wsU := mU 900 (by decide +kernel) rfl
theorem wI_X7_crane : Cond.instanceMethod yX7_crane ∈ wsU := mU 567 (by decide +kernel) rfl
theorem wI_X7_digest : Cond.instanceMethod yX7_digest ∈ wsU := mU 950 (by decide +kernel) rfl
theorem wI_X7_field : Cond.instanceMethod yX7_field ∈ wsU := mU 960 (by decide +kernel) rfl
theorem wI_X7_hand : Cond.instanceMethod yX7_hand ∈ wsU := mU 832 (by decide +kernel) rfl
theorem wI_X7_hang : Cond.instanceMethod yX7_hang ∈ wsU := mU 798 (by decide +kernel) rfl
theorem wI_X7_init : Cond.instanceMethod yX7_init ∈ wsU := mU 39 (by decide +kernel) rfl
theorem wI_X7_isSound : Cond.instanceMethod yX7_isSound ∈ wsU := mU 931 (by decide +kernel) rfl
theorem wI_X7_level : Cond.instanceMethod yX7_level ∈ wsU := mU 745 (by decide +kernel) rfl
theorem wI_X7_load : Cond.instanceMethod yX7_load ∈ wsU := mU 709 (by decide +kernel) rfl
theorem wI_X7_many : Cond.instanceMethod yX7_many ∈ wsU := mU 380 (by decide +kernel) rfl
theorem wI_X7_needCell : Cond.instanceMethod yX7_needCell ∈ wsU := mU 572 (by decide +kernel) rfl
theorem wI_X7_needCrane : Cond.instanceMethod yX7_needCrane ∈ wsU := mU 528 (by decide +kernel) rfl
theorem wI_X7_ofCell : Cond.instanceMethod yX7_ofCell ∈ wsU := mU 920 (by decide +kernel) rfl
theorem wI_X7_ofCrane : Cond.instanceMethod yX7_ofCrane ∈ wsU := mU 523 (by decide +kernel) rfl
theorem wI_X7_ofLoad : Cond.instanceMethod yX7_ofLoad ∈ wsU := mU 906 (by decide +kernel) rfl
theorem wI_X7_order : Cond.instanceMethod yX7_order ∈ wsU := mU 1003 (by decide +kernel) rfl
theorem wI_X7_rest : Cond.instanceMethod yX7_rest ∈ wsU := mU 842 (by decide +kernel) rfl
theorem wI_X7_set : Cond.instanceMethod yX7_set ∈ wsU := mU 824 (by decide +kernel) rfl
theorem wI_X7_step : Cond.instanceMethod yX7_step ∈ wsU := mU 879 (by decide +kernel) rfl
theorem wI_X7_swing : Cond.instanceMethod yX7_swing ∈ wsU := mU 982 (by decide +kernel) rfl
theorem wI_X7_way : Cond.instanceMethod yX7_way ∈ wsU := mU 993 (by decide +kernel) rfl
theorem wI_X7_wind : Cond.instanceMethod yX7_wind ∈ wsU := mU 759 (by decide +kernel) rfl
theorem wI_X7_would : Cond.instanceMethod yX7_would ∈ wsU := mU 866 (by decide +kernel) rfl
theorem wI_X7_yard : Cond.instanceMethod yX7_yard ∈ wsU := mU 286 (by decide +kernel) rfl
theorem wI_X7_zone : Cond.instanceMethod yX7_zone ∈ wsU := mU 766 (by decide +kernel) rfl
theorem wS_Lib_Math_abs_name : Cond.static Lib.Math.abs.name ∈ wsU := mU 457 (by decide +kernel) rfl
theorem wS_Lib_Math_max_name : Cond.static Lib.Math.max.name ∈ wsU := mU 454 (by decide +kernel) rfl
theorem wS_Lib_Math_min_name : Cond.static Lib.Math.min.name ∈ wsU := mU 451 (by decide +kernel) rfl
theorem wS_arraycopyName : Cond.static arraycopyName ∈ wsU := mU 704 (by decide +kernel) rfl
theorem wS_J15_checkIndex_7cf53 : Cond.static yJ15_checkIndex_7cf53 ∈ wsU := mU 405 (by decide +kernel) rfl
theorem wS_J3_checkIndex_8e157 : Cond.static yJ3_checkIndex_8e157 ∈ wsU := mU 408 (by decide +kernel) rfl
theorem wS_J6_bitCount_0f7a4 : Cond.static yJ6_bitCount_0f7a4 ∈ wsU := mU 464 (by decide +kernel) rfl
theorem wS_J7_copyOf_1904c : Cond.static yJ7_copyOf_1904c ∈ wsU := mU 678 (by decide +kernel) rfl
theorem wS_J7_copyOf_6403c : Cond.static yJ7_copyOf_6403c ∈ wsU := mU 697 (by decide +kernel) rfl
theorem wS_J7_fill_53178 : Cond.static yJ7_fill_53178 ∈ wsU := mU 369 (by decide +kernel) rfl
theorem wS_J8_hugeLength_7cf53 : Cond.static yJ8_hugeLength_7cf53 ∈ wsU := mU 675 (by decide +kernel) rfl
theorem wS_J8_newLength_cabcc : Cond.static yJ8_newLength_cabcc ∈ wsU := mU 670 (by decide +kernel) rfl
theorem wS_L_act : Cond.static yL_act ∈ wsU := mU 739 (by decide +kernel) rfl
theorem wS_L_below : Cond.static yL_below ∈ wsU := mU 512 (by decide +kernel) rfl
theorem wS_L_build : Cond.static yL_build ∈ wsU := mU 563 (by decide +kernel) rfl
theorem wS_L_cell : Cond.static yL_cell ∈ wsU := mU 516 (by decide +kernel) rfl
theorem wS_L_isAsked : Cond.static yL_isAsked ∈ wsU := mU 947 (by decide +kernel) rfl
theorem wS_L_isWhole : Cond.static yL_isWhole ∈ wsU := mU 897 (by decide +kernel) rfl
theorem wS_L_met : Cond.static yL_met ∈ wsU := mU 520 (by decide +kernel) rfl
theorem wS_X3_poseOf : Cond.static yX3_poseOf ∈ wsU := mU 972 (by decide +kernel) rfl
theorem wS_X7_needWithin : Cond.static yX7_needWithin ∈ wsU := mU 290 (by decide +kernel) rfl
theorem wV_Jx4a65c_Jx4a65c_add_72be8 : Cond.selects RJx4a65c yJx4a65c_add_72be8 yJx4a65c_add_72be8 ∈ wsU := mU 7 (by decide +kernel) rfl
theorem wV_Jx4a65c_Jx4a65c_add_9ea2d : Cond.selects RJx4a65c yJx4a65c_add_9ea2d yJx4a65c_add_9ea2d ∈ wsU := mU 655 (by decide +kernel) rfl
theorem wV_Jx4a65c_Jx4a65c_clear_da8c8 : Cond.selects RJx4a65c yJx4a65c_clear_da8c8 yJx4a65c_clear_da8c8 ∈ wsU := mU 373 (by decide +kernel) rfl
theorem wV_Jx4a65c_Jx4a65c_elementData_915e3 : Cond.selects RJx4a65c yJx4a65c_elementData_915e3 yJx4a65c_elementData_915e3 ∈ wsU := mU 412 (by decide +kernel) rfl
theorem wV_Jx4a65c_Jx4a65c_get_915e3 : Cond.selects RJx4a65c yJx4a65c_get_915e3 yJx4a65c_get_915e3 ∈ wsU := mU 402 (by decide +kernel) rfl
theorem wV_Jx4a65c_Jx4a65c_grow_92f84 : Cond.selects RJx4a65c yJx4a65c_grow_92f84 yJx4a65c_grow_92f84 ∈ wsU := mU 9 (by decide +kernel) rfl
theorem wV_Jx4a65c_Jx4a65c_grow_d5877 : Cond.selects RJx4a65c yJx4a65c_grow_d5877 yJx4a65c_grow_d5877 ∈ wsU := mU 8 (by decide +kernel) rfl
theorem wV_Jx4a65c_Jx4a65c_size_8abf5 : Cond.selects RJx4a65c yJx4a65c_size_8abf5 yJx4a65c_size_8abf5 ∈ wsU := mU 389 (by decide +kernel) rfl
theorem wV_X0_X0_above : Cond.selects RX0 yX0_above yX0_above ∈ wsU := mU 815 (by decide +kernel) rfl
theorem wV_X0_X0_apartFromJib : Cond.selects RX0 yX0_apartFromJib yX0_apartFromJib ∈ wsU := mU 448 (by decide +kernel) rfl
theorem wV_X0_X0_apartFromJibOf : Cond.selects RX0 yX0_apartFromJibOf yX0_apartFromJibOf ∈ wsU := mU 432 (by decide +kernel) rfl
theorem wV_X0_X0_canMeet : Cond.selects RX0 yX0_canMeet yX0_canMeet ∈ wsU := mU 838 (by decide +kernel) rfl
theorem wV_X0_X0_clashRule : Cond.selects RX0 yX0_clashRule yX0_clashRule ∈ wsU := mU 428 (by decide +kernel) rfl
theorem wV_X0_X0_columnAt : Cond.selects RX0 yX0_columnAt yX0_columnAt ∈ wsU := mU 442 (by decide +kernel) rfl
theorem wV_X0_X0_drawIn : Cond.selects RX0 yX0_drawIn yX0_drawIn ∈ wsU := mU 619 (by decide +kernel) rfl
theorem wV_X0_X0_face : Cond.selects RX0 yX0_face yX0_face ∈ wsU := mU 623 (by decide +kernel) rfl
theorem wV_X0_X0_isCalm : Cond.selects RX0 yX0_isCalm yX0_isCalm ∈ wsU := mU 811 (by decide +kernel) rfl
theorem wV_X0_X0_isJustAbove : Cond.selects RX0 yX0_isJustAbove yX0_isJustAbove ∈ wsU := mU 807 (by decide +kernel) rfl
theorem wV_X0_X0_isPossible : Cond.selects RX0 yX0_isPossible yX0_isPossible ∈ wsU := mU 632 (by decide +kernel) rfl
theorem wV_X0_X0_isWithinBounds : Cond.selects RX0 yX0_isWithinBounds yX0_isWithinBounds ∈ wsU := mU 940 (by decide +kernel) rfl
theorem wV_X0_X0_mimic : Cond.selects RX0 yX0_mimic yX0_mimic ∈ wsU := mU 861 (by decide +kernel) rfl
theorem wV_X0_X0_move : Cond.selects RX0 yX0_move yX0_move ∈ wsU := mU 875 (by decide +kernel) rfl
theorem wV_X0_X0_plumb : Cond.selects RX0 yX0_plumb yX0_plumb ∈ wsU := mU 550 (by decide +kernel) rfl
theorem wV_X0_X0_rowAt : Cond.selects RX0 yX0_rowAt yX0_rowAt ∈ wsU := mU 436 (by decide +kernel) rfl
theorem wV_X0_X0_settle : Cond.selects RX0 yX0_settle yX0_settle ∈ wsU := mU 852 (by decide +kernel) rfl
theorem wV_X0_X0_sweepsOn : Cond.selects RX0 yX0_sweepsOn yX0_sweepsOn ∈ wsU := mU 1 (by decide +kernel) rfl
theorem wV_X0_X0_tire : Cond.selects RX0 yX0_tire yX0_tire ∈ wsU := mU 889 (by decide +kernel) rfl
theorem wV_X0_X0_weight : Cond.selects RX0 yX0_weight yX0_weight ∈ wsU := mU 492 (by decide +kernel) rfl
theorem wV_X1_X1_build : Cond.selects RX1 yX1_build yX1_build ∈ wsU := mU 756 (by decide +kernel) rfl
theorem wV_X1_X1_cellAt : Cond.selects RX1 yX1_cellAt yX1_cellAt ∈ wsU := mU 554 (by decide +kernel) rfl
theorem wV_X1_X1_cells : Cond.selects RX1 yX1_cells yX1_cells ∈ wsU := mU 377 (by decide +kernel) rfl
theorem wV_X1_X1_columnOf : Cond.selects RX1 yX1_columnOf yX1_columnOf ∈ wsU := mU 126 (by decide +kernel) rfl
theorem wV_X1_X1_hasCell : Cond.selects RX1 yX1_hasCell yX1_hasCell ∈ wsU := mU 576 (by decide +kernel) rfl
theorem wV_X1_X1_hasPlace : Cond.selects RX1 yX1_hasPlace yX1_hasPlace ∈ wsU := mU 558 (by decide +kernel) rfl
theorem wV_X1_X1_lay : Cond.selects RX1 yX1_lay yX1_lay ∈ wsU := mU 366 (by decide +kernel) rfl
theorem wV_X1_X1_levelOf : Cond.selects RX1 yX1_levelOf yX1_levelOf ∈ wsU := mU 598 (by decide +kernel) rfl
theorem wV_X1_X1_rowOf : Cond.selects RX1 yX1_rowOf yX1_rowOf ∈ wsU := mU 122 (by decide +kernel) rfl
theorem wV_X2_X2_hangOn : Cond.selects RX2 yX2_hangOn yX2_hangOn ∈ wsU := mU 821 (by decide +kernel) rfl
theorem wV_X2_X2_lieOn : Cond.selects RX2 yX2_lieOn yX2_lieOn ∈ wsU := mU 829 (by decide +kernel) rfl
theorem wV_X2_X2_liesOn : Cond.selects RX2 yX2_liesOn yX2_liesOn ∈ wsU := mU 594 (by decide +kernel) rfl
theorem wV_X2_X2_place : Cond.selects RX2 yX2_place yX2_place ∈ wsU := mU 912 (by decide +kernel) rfl
theorem wV_X3_X3_assume : Cond.selects RX3 yX3_assume yX3_assume ∈ wsU := mU 10 (by decide +kernel) rfl
theorem wV_X3_X3_canLift : Cond.selects RX3 yX3_canLift yX3_canLift ∈ wsU := mU 3 (by decide +kernel) rfl
theorem wV_X3_X3_explore : Cond.selects RX3 yX3_explore yX3_explore ∈ wsU := mU 965 (by decide +kernel) rfl
theorem wV_X3_X3_leaverAt : Cond.selects RX3 yX3_leaverAt yX3_leaverAt ∈ wsU := mU 1009 (by decide +kernel) rfl
theorem wV_X3_X3_liftersFrom : Cond.selects RX3 yX3_liftersFrom yX3_liftersFrom ∈ wsU := mU 917 (by decide +kernel) rfl
theorem wV_X3_X3_nextToGo : Cond.selects RX3 yX3_nextToGo yX3_nextToGo ∈ wsU := mU 4 (by decide +kernel) rfl
theorem wV_X3_X3_stepsTo : Cond.selects RX3 yX3_stepsTo yX3_stepsTo ∈ wsU := mU 998 (by decide +kernel) rfl
theorem wV_X3_X3_swings : Cond.selects RX3 yX3_swings yX3_swings ∈ wsU := mU 987 (by decide +kernel) rfl
theorem wV_X3_X3_takeDown : Cond.selects RX3 yX3_takeDown yX3_takeDown ∈ wsU := mU 480 (by decide +kernel) rfl
theorem wV_X3_X3_takersOf : Cond.selects RX3 yX3_takersOf yX3_takersOf ∈ wsU := mU 2 (by decide +kernel) rfl
theorem wV_X5_X5_areCranesSound : Cond.selects RX5 yX5_areCranesSound yX5_areCranesSound ∈ wsU := mU 936 (by decide +kernel) rfl
theorem wV_X5_X5_areLoadsSound : Cond.selects RX5 yX5_areLoadsSound yX5_areLoadsSound ∈ wsU := mU 944 (by decide +kernel) rfl
theorem wV_X5_X5_canBuild : Cond.selects RX5 yX5_canBuild yX5_canBuild ∈ wsU := mU 750 (by decide +kernel) rfl
theorem wV_X5_X5_canFound : Cond.selects RX5 yX5_canFound yX5_canFound ∈ wsU := mU 582 (by decide +kernel) rfl
theorem wV_X5_X5_capacityOf : Cond.selects RX5 yX5_capacityOf yX5_capacityOf ∈ wsU := mU 504 (by decide +kernel) rfl
theorem wV_X5_X5_clashesOf : Cond.selects RX5 yX5_clashesOf yX5_clashesOf ∈ wsU := mU 424 (by decide +kernel) rfl
theorem wV_X5_X5_clashingPairs : Cond.selects RX5 yX5_clashingPairs yX5_clashingPairs ∈ wsU := mU 420 (by decide +kernel) rfl
theorem wV_X5_X5_firstLoadOn : Cond.selects RX5 yX5_firstLoadOn yX5_firstLoadOn ∈ wsU := mU 803 (by decide +kernel) rfl
theorem wV_X5_X5_force : Cond.selects RX5 yX5_force yX5_force ∈ wsU := mU 393 (by decide +kernel) rfl
theorem wV_X5_X5_hangingLoads : Cond.selects RX5 yX5_hangingLoads yX5_hangingLoads ∈ wsU := mU 475 (by decide +kernel) rfl
theorem wV_X5_X5_hindrance : Cond.selects RX5 yX5_hindrance yX5_hindrance ∈ wsU := mU 628 (by decide +kernel) rfl
theorem wV_X5_X5_hour : Cond.selects RX5 yX5_hour yX5_hour ∈ wsU := mU 385 (by decide +kernel) rfl
theorem wV_X5_X5_idle : Cond.selects RX5 yX5_idle yX5_idle ∈ wsU := mU 848 (by decide +kernel) rfl
theorem wV_X5_X5_isShut : Cond.selects RX5 yX5_isShut yX5_isShut ∈ wsU := mU 638 (by decide +kernel) rfl
theorem wV_X5_X5_jibsOver : Cond.selects RX5 yX5_jibsOver yX5_jibsOver ∈ wsU := mU 926 (by decide +kernel) rfl
theorem wV_X5_X5_lay : Cond.selects RX5 yX5_lay yX5_lay ∈ wsU := mU 362 (by decide +kernel) rfl
theorem wV_X5_X5_loadsOn : Cond.selects RX5 yX5_loadsOn yX5_loadsOn ∈ wsU := mU 590 (by decide +kernel) rfl
theorem wV_X5_X5_missesNow : Cond.selects RX5 yX5_missesNow yX5_missesNow ∈ wsU := mU 894 (by decide +kernel) rfl
theorem wV_X5_X5_nearMisses : Cond.selects RX5 yX5_nearMisses yX5_nearMisses ∈ wsU := mU 471 (by decide +kernel) rfl
theorem wV_X5_X5_reasonAgainst : Cond.selects RX5 yX5_reasonAgainst yX5_reasonAgainst ∈ wsU := mU 871 (by decide +kernel) rfl
theorem wV_X5_X5_take : Cond.selects RX5 yX5_take yX5_take ∈ wsU := mU 885 (by decide +kernel) rfl
theorem wV_X5_X5_towerOn : Cond.selects RX5 yX5_towerOn yX5_towerOn ∈ wsU := mU 586 (by decide +kernel) rfl
theorem wV_X5_X5_turnToWind : Cond.selects RX5 yX5_turnToWind yX5_turnToWind ∈ wsU := mU 856 (by decide +kernel) rfl
theorem wV_X5_X5_windBearing : Cond.selects RX5 yX5_windBearing yX5_windBearing ∈ wsU := mU 416 (by decide +kernel) rfl
theorem wV_X5_X5_windNow : Cond.selects RX5 yX5_windNow yX5_windNow ∈ wsU := mU 397 (by decide +kernel) rfl
theorem wV_X6_X6_covers : Cond.selects RX6 yX6_covers yX6_covers ∈ wsU := mU 645 (by decide +kernel) rfl
theorem wV_X6_X6_isShutAt : Cond.selects RX6 yX6_isShutAt yX6_isShutAt ∈ wsU := mU 650 (by decide +kernel) rfl
theorem wV_X7_X7_clash : Cond.selects RX7 yX7_clash yX7_clash ∈ wsU := mU 901 (by decide +kernel) rfl
theorem wV_X7_X7_crane : Cond.selects RX7 yX7_crane yX7_crane ∈ wsU := mU 568 (by decide +kernel) rfl
theorem wV_X7_X7_digest : Cond.selects RX7 yX7_digest yX7_digest ∈ wsU := mU 951 (by decide +kernel) rfl
theorem wV_X7_X7_field : Cond.selects RX7 yX7_field yX7_field ∈ wsU := mU 961 (by decide +kernel) rfl
theorem wV_X7_X7_hand : Cond.selects RX7 yX7_hand yX7_hand ∈ wsU := mU 833 (by decide +kernel) rfl
theorem wV_X7_X7_hang : Cond.selects RX7 yX7_hang yX7_hang ∈ wsU := mU 799 (by decide +kernel) rfl
theorem wV_X7_X7_isSound : Cond.selects RX7 yX7_isSound yX7_isSound ∈ wsU := mU 932 (by decide +kernel) rfl
theorem wV_X7_X7_level : Cond.selects RX7 yX7_level yX7_level ∈ wsU := mU 746 (by decide +kernel) rfl
theorem wV_X7_X7_load : Cond.selects RX7 yX7_load yX7_load ∈ wsU := mU 710 (by decide +kernel) rfl
theorem wV_X7_X7_many : Cond.selects RX7 yX7_many yX7_many ∈ wsU := mU 381 (by decide +kernel) rfl
theorem wV_X7_X7_needCell : Cond.selects RX7 yX7_needCell yX7_needCell ∈ wsU := mU 6 (by decide +kernel) rfl
theorem wV_X7_X7_needCrane : Cond.selects RX7 yX7_needCrane yX7_needCrane ∈ wsU := mU 5 (by decide +kernel) rfl
theorem wV_X7_X7_ofCell : Cond.selects RX7 yX7_ofCell yX7_ofCell ∈ wsU := mU 921 (by decide +kernel) rfl
theorem wV_X7_X7_ofCrane : Cond.selects RX7 yX7_ofCrane yX7_ofCrane ∈ wsU := mU 524 (by decide +kernel) rfl
theorem wV_X7_X7_ofLoad : Cond.selects RX7 yX7_ofLoad yX7_ofLoad ∈ wsU := mU 907 (by decide +kernel) rfl
theorem wV_X7_X7_order : Cond.selects RX7 yX7_order yX7_order ∈ wsU := mU 1004 (by decide +kernel) rfl
theorem wV_X7_X7_rest : Cond.selects RX7 yX7_rest yX7_rest ∈ wsU := mU 843 (by decide +kernel) rfl
theorem wV_X7_X7_set : Cond.selects RX7 yX7_set yX7_set ∈ wsU := mU 825 (by decide +kernel) rfl
theorem wV_X7_X7_step : Cond.selects RX7 yX7_step yX7_step ∈ wsU := mU 880 (by decide +kernel) rfl
theorem wV_X7_X7_swing : Cond.selects RX7 yX7_swing yX7_swing ∈ wsU := mU 983 (by decide +kernel) rfl
theorem wV_X7_X7_way : Cond.selects RX7 yX7_way yX7_way ∈ wsU := mU 994 (by decide +kernel) rfl
theorem wV_X7_X7_wind : Cond.selects RX7 yX7_wind yX7_wind ∈ wsU := mU 760 (by decide +kernel) rfl
theorem wV_X7_X7_would : Cond.selects RX7 yX7_would yX7_would ∈ wsU := mU 867 (by decide +kernel) rfl
theorem wV_X7_X7_yard : Cond.selects RX7 yX7_yard yX7_yard ∈ wsU := mU 287 (by decide +kernel) rfl
theorem wV_X7_X7_zone : Cond.selects RX7 yX7_zone yX7_zone ∈ wsU := mU 767 (by decide +kernel) rfl
theorem wN_IllegalArgumentException : Cond.initialized "java/lang/IllegalArgumentException" ∈ wsU := mU 24 (by decide +kernel) rfl
theorem wN_IllegalStateException : Cond.initialized "java/lang/IllegalStateException" ∈ wsU := mU 31 (by decide +kernel) rfl
theorem wN_IndexOutOfBoundsException : Cond.initialized "java/lang/IndexOutOfBoundsException" ∈ wsU := mU 30 (by decide +kernel) rfl
theorem wN_Math : Cond.initialized "java/lang/Math" ∈ wsU := mU 28 (by decide +kernel) rfl
theorem wN_System : Cond.initialized "java/lang/System" ∈ wsU := mU 33 (by decide +kernel) rfl
theorem wN_J15 : Cond.initialized RJ15 ∈ wsU := mU 26 (by decide +kernel) rfl
theorem wN_J3 : Cond.initialized RJ3 ∈ wsU := mU 27 (by decide +kernel) rfl
theorem wN_J6 : Cond.initialized RJ6 ∈ wsU := mU 29 (by decide +kernel) rfl
theorem wN_J7 : Cond.initialized RJ7 ∈ wsU := mU 25 (by decide +kernel) rfl
theorem wN_J8 : Cond.initialized RJ8 ∈ wsU := mU 32 (by decide +kernel) rfl
theorem wN_Jx4a65c : Cond.initialized RJx4a65c ∈ wsU := mU 17 (by decide +kernel) rfl
theorem wN_Jxa1e45 : Cond.initialized RJxa1e45 ∈ wsU := mU 15 (by decide +kernel) rfl
theorem wN_Jxc12de : Cond.initialized RJxc12de ∈ wsU := mU 16 (by decide +kernel) rfl
theorem wN_L : Cond.initialized RL ∈ wsU := mU 11 (by decide +kernel) rfl
theorem wN_X0 : Cond.initialized RX0 ∈ wsU := mU 19 (by decide +kernel) rfl
theorem wN_X1 : Cond.initialized RX1 ∈ wsU := mU 14 (by decide +kernel) rfl
theorem wN_X2 : Cond.initialized RX2 ∈ wsU := mU 34 (by decide +kernel) rfl
theorem wN_X3 : Cond.initialized RX3 ∈ wsU := mU 20 (by decide +kernel) rfl
theorem wN_X4 : Cond.initialized RX4 ∈ wsU := mU 18 (by decide +kernel) rfl
theorem wN_X5 : Cond.initialized RX5 ∈ wsU := mU 13 (by decide +kernel) rfl
theorem wN_X6 : Cond.initialized RX6 ∈ wsU := mU 35 (by decide +kernel) rfl
theorem wN_X7 : Cond.initialized RX7 ∈ wsU := mU 12 (by decide +kernel) rfl
theorem wX_Jx4a65c : Cond.instantiable RJx4a65c 3 ∈ wsU := mU 70 (by decide +kernel) rfl
theorem wX_X0 : Cond.instantiable RX0 16 ∈ wsU := mU 115 (by decide +kernel) rfl
theorem wX_X1 : Cond.instantiable RX1 3 ∈ wsU := mU 47 (by decide +kernel) rfl
theorem wX_X2 : Cond.instantiable RX2 4 ∈ wsU := mU 715 (by decide +kernel) rfl
theorem wX_X3 : Cond.instantiable RX3 6 ∈ wsU := mU 251 (by decide +kernel) rfl
theorem wX_X4 : Cond.instantiable RX4 3 ∈ wsU := mU 96 (by decide +kernel) rfl
theorem wX_X5 : Cond.instantiable RX5 10 ∈ wsU := mU 45 (by decide +kernel) rfl
theorem wX_X6 : Cond.instantiable RX6 6 ∈ wsU := mU 773 (by decide +kernel) rfl
theorem wX_X7 : Cond.instantiable RX7 3 ∈ wsU := mU 37 (by decide +kernel) rfl
theorem wK_J6_265 : Cond.constant RJ6 265 (1431655765) ∈ wsU := mU 466 (by decide +kernel) rfl
theorem wK_J6_266 : Cond.constant RJ6 266 (858993459) ∈ wsU := mU 467 (by decide +kernel) rfl
theorem wK_J6_267 : Cond.constant RJ6 267 (252645135) ∈ wsU := mU 468 (by decide +kernel) rfl
theorem wK_J8_200 : Cond.constant RJ8 200 (2147483639) ∈ wsU := mU 673 (by decide +kernel) rfl
theorem wK_L_7 : Cond.constant RL 7 (2147483647) ∈ wsU := mU 514 (by decide +kernel) rfl
theorem wK_L_8 : Cond.constant RL 8 (790386105) ∈ wsU := mU 518 (by decide +kernel) rfl
theorem wK_X7_353 : Cond.constantLong RX7 353 (8821) ∈ wsU := mU 953 (by decide +kernel) rfl
theorem wK_X7_355 : Cond.constantLong RX7 355 (31) ∈ wsU := mU 954 (by decide +kernel) rfl
theorem wA_int : Cond.arrayClass .int ∈ wsU := mU 64 (by decide +kernel) rfl
theorem nF_X7_42 : Cond.fieldLinkNest RX7 42 "Slewyard$Site" "ground" "LSlewyard$Ground;" "Slewyard" ∈ lw_tbl := List.mem_of_getElem? (i := 209) (by decide +kernel)
theorem nF_X7_72 : Cond.fieldLinkNest RX7 72 "Slewyard$Site" "reports" "Ljava/util/ArrayList;" "Slewyard" ∈ lw_tbl := List.mem_of_getElem? (i := 212) (by decide +kernel)
theorem nF_X7_97 : Cond.fieldLinkNest RX7 97 "Slewyard$Ground" "wide" "I" "Slewyard" ∈ lw_tbl := List.mem_of_getElem? (i := 54) (by decide +kernel)
theorem nF_X7_100 : Cond.fieldLinkNest RX7 100 "Slewyard$Ground" "high" "I" "Slewyard" ∈ lw_tbl := List.mem_of_getElem? (i := 56) (by decide +kernel)
theorem nF_X7_103 : Cond.fieldLinkNest RX7 103 "Slewyard$Site" "zones" "Ljava/util/ArrayList;" "Slewyard" ∈ lw_tbl := List.mem_of_getElem? (i := 214) (by decide +kernel)
theorem nF_X7_113 : Cond.fieldLinkNest RX7 113 "Slewyard$Site" "loads" "Ljava/util/ArrayList;" "Slewyard" ∈ lw_tbl := List.mem_of_getElem? (i := 219) (by decide +kernel)
theorem nF_X7_124 : Cond.fieldLinkNest RX7 124 "Slewyard$Site" "cranes" "Ljava/util/ArrayList;" "Slewyard" ∈ lw_tbl := List.mem_of_getElem? (i := 217) (by decide +kernel)
theorem nF_X7_151 : Cond.fieldLinkNest RX7 151 "Slewyard$Site" "time" "I" "Slewyard" ∈ lw_tbl := List.mem_of_getElem? (i := 224) (by decide +kernel)
theorem nF_X7_164 : Cond.fieldLinkNest RX7 164 "Slewyard$Site" "notTaken" "I" "Slewyard" ∈ lw_tbl := List.mem_of_getElem? (i := 228) (by decide +kernel)
theorem nF_X7_174 : Cond.fieldLinkNest RX7 174 "Slewyard$Crane" "load" "LSlewyard$Load;" "Slewyard" ∈ lw_tbl := List.mem_of_getElem? (i := 170) (by decide +kernel)
theorem nF_X7_182 : Cond.fieldLinkNest RX7 182 "Slewyard$Load" "weight" "I" "Slewyard" ∈ lw_tbl := List.mem_of_getElem? (i := 723) (by decide +kernel)
theorem nF_X7_185 : Cond.fieldLinkNest RX7 185 "Slewyard$Crane" "radius" "I" "Slewyard" ∈ lw_tbl := List.mem_of_getElem? (i := 158) (by decide +kernel)
theorem nF_X7_195 : Cond.fieldLinkNest RX7 195 "Slewyard$Load" "number" "I" "Slewyard" ∈ lw_tbl := List.mem_of_getElem? (i := 721) (by decide +kernel)
theorem nF_X7_224 : Cond.fieldLinkNest RX7 224 "Slewyard$Crane" "tower" "I" "Slewyard" ∈ lw_tbl := List.mem_of_getElem? (i := 136) (by decide +kernel)
theorem nF_X7_227 : Cond.fieldLinkNest RX7 227 "Slewyard$Crane" "mast" "I" "Slewyard" ∈ lw_tbl := List.mem_of_getElem? (i := 143) (by decide +kernel)
theorem nF_X7_230 : Cond.fieldLinkNest RX7 230 "Slewyard$Crane" "reach" "I" "Slewyard" ∈ lw_tbl := List.mem_of_getElem? (i := 146) (by decide +kernel)
theorem nF_X7_233 : Cond.fieldLinkNest RX7 233 "Slewyard$Crane" "moment" "I" "Slewyard" ∈ lw_tbl := List.mem_of_getElem? (i := 148) (by decide +kernel)
theorem nF_X7_236 : Cond.fieldLinkNest RX7 236 "Slewyard$Crane" "bearing" "I" "Slewyard" ∈ lw_tbl := List.mem_of_getElem? (i := 152) (by decide +kernel)
theorem nF_X7_239 : Cond.fieldLinkNest RX7 239 "Slewyard$Crane" "hook" "I" "Slewyard" ∈ lw_tbl := List.mem_of_getElem? (i := 161) (by decide +kernel)
theorem nF_X7_242 : Cond.fieldLinkNest RX7 242 "Slewyard$Crane" "sway" "I" "Slewyard" ∈ lw_tbl := List.mem_of_getElem? (i := 164) (by decide +kernel)
theorem nF_X7_245 : Cond.fieldLinkNest RX7 245 "Slewyard$Crane" "work" "I" "Slewyard" ∈ lw_tbl := List.mem_of_getElem? (i := 166) (by decide +kernel)
theorem nF_X7_248 : Cond.fieldLinkNest RX7 248 "Slewyard$Crane" "arm" "I" "Slewyard" ∈ lw_tbl := List.mem_of_getElem? (i := 155) (by decide +kernel)
theorem nF_X7_255 : Cond.fieldLinkNest RX7 255 "Slewyard$Crane" "nearMisses" "I" "Slewyard" ∈ lw_tbl := List.mem_of_getElem? (i := 173) (by decide +kernel)
theorem nF_X7_270 : Cond.fieldLinkNest RX7 270 "Slewyard$Load" "carrier" "LSlewyard$Crane;" "Slewyard" ∈ lw_tbl := List.mem_of_getElem? (i := 728) (by decide +kernel)
theorem nF_X7_274 : Cond.fieldLinkNest RX7 274 "Slewyard$Crane" "number" "I" "Slewyard" ∈ lw_tbl := List.mem_of_getElem? (i := 131) (by decide +kernel)
theorem nF_X7_321 : Cond.fieldLinkNest RX7 321 "Slewyard$Site" "taken" "I" "Slewyard" ∈ lw_tbl := List.mem_of_getElem? (i := 226) (by decide +kernel)
theorem nF_X0_97 : Cond.fieldLinkNest RX0 97 "Slewyard" "ROW_STEPS" "[I" "Slewyard" ∈ lw_tbl := List.mem_of_getElem? (i := 438) (by decide +kernel)
theorem nF_X0_101 : Cond.fieldLinkNest RX0 101 "Slewyard" "COLUMN_STEPS" "[I" "Slewyard" ∈ lw_tbl := List.mem_of_getElem? (i := 444) (by decide +kernel)
theorem nF_X2_29 : Cond.fieldLinkNest RX2 29 "Slewyard$Crane" "load" "LSlewyard$Load;" "Slewyard" ∈ lw_tbl := List.mem_of_getElem? (i := 169) (by decide +kernel)
theorem nF_X3_28 : Cond.fieldLinkNest RX3 28 "Slewyard$Site" "trial" "LSlewyard$Crane;" "Slewyard" ∈ lw_tbl := List.mem_of_getElem? (i := 221) (by decide +kernel)
theorem nF_X3_69 : Cond.fieldLinkNest RX3 69 "Slewyard$Crane" "bearing" "I" "Slewyard" ∈ lw_tbl := List.mem_of_getElem? (i := 151) (by decide +kernel)
theorem nF_X3_73 : Cond.fieldLinkNest RX3 73 "Slewyard$Crane" "radius" "I" "Slewyard" ∈ lw_tbl := List.mem_of_getElem? (i := 157) (by decide +kernel)
theorem nF_X3_79 : Cond.fieldLinkNest RX3 79 "Slewyard$Site" "cranes" "Ljava/util/ArrayList;" "Slewyard" ∈ lw_tbl := List.mem_of_getElem? (i := 216) (by decide +kernel)
theorem nF_X3_96 : Cond.fieldLinkNest RX3 96 "Slewyard$Site" "ground" "LSlewyard$Ground;" "Slewyard" ∈ lw_tbl := List.mem_of_getElem? (i := 210) (by decide +kernel)
theorem nF_X3_106 : Cond.fieldLinkNest RX3 106 "Slewyard$Crane" "row" "I" "Slewyard" ∈ lw_tbl := List.mem_of_getElem? (i := 138) (by decide +kernel)
theorem nF_X3_117 : Cond.fieldLinkNest RX3 117 "Slewyard$Crane" "column" "I" "Slewyard" ∈ lw_tbl := List.mem_of_getElem? (i := 140) (by decide +kernel)
theorem nF_X3_124 : Cond.fieldLinkNest RX3 124 "Slewyard$Crane" "reach" "I" "Slewyard" ∈ lw_tbl := List.mem_of_getElem? (i := 145) (by decide +kernel)
theorem nF_X3_140 : Cond.fieldLinkNest RX3 140 "Slewyard$Crane" "mast" "I" "Slewyard" ∈ lw_tbl := List.mem_of_getElem? (i := 142) (by decide +kernel)
theorem nF_X3_143 : Cond.fieldLinkNest RX3 143 "Slewyard$Crane" "number" "I" "Slewyard" ∈ lw_tbl := List.mem_of_getElem? (i := 130) (by decide +kernel)
theorem nF_X3_146 : Cond.fieldLinkNest RX3 146 "Slewyard$Crane" "tower" "I" "Slewyard" ∈ lw_tbl := List.mem_of_getElem? (i := 135) (by decide +kernel)
theorem nF_X5_76 : Cond.fieldLinkNest RX5 76 "Slewyard$Report" "time" "I" "Slewyard" ∈ lw_tbl := List.mem_of_getElem? (i := 102) (by decide +kernel)
theorem nF_X5_81 : Cond.fieldLinkNest RX5 81 "Slewyard$Report" "force" "I" "Slewyard" ∈ lw_tbl := List.mem_of_getElem? (i := 104) (by decide +kernel)
theorem nF_X5_84 : Cond.fieldLinkNest RX5 84 "Slewyard$Report" "bearing" "I" "Slewyard" ∈ lw_tbl := List.mem_of_getElem? (i := 106) (by decide +kernel)
theorem nF_X5_107 : Cond.fieldLinkNest RX5 107 "Slewyard$Crane" "tower" "I" "Slewyard" ∈ lw_tbl := List.mem_of_getElem? (i := 134) (by decide +kernel)
theorem nF_X5_115 : Cond.fieldLinkNest RX5 115 "Slewyard$Load" "carrier" "LSlewyard$Crane;" "Slewyard" ∈ lw_tbl := List.mem_of_getElem? (i := 727) (by decide +kernel)
theorem nF_X5_131 : Cond.fieldLinkNest RX5 131 "Slewyard$Crane" "load" "LSlewyard$Load;" "Slewyard" ∈ lw_tbl := List.mem_of_getElem? (i := 171) (by decide +kernel)
theorem nF_X5_135 : Cond.fieldLinkNest RX5 135 "Slewyard$Crane" "hook" "I" "Slewyard" ∈ lw_tbl := List.mem_of_getElem? (i := 162) (by decide +kernel)
theorem nF_X5_146 : Cond.fieldLinkNest RX5 146 "Slewyard$Crane" "moment" "I" "Slewyard" ∈ lw_tbl := List.mem_of_getElem? (i := 149) (by decide +kernel)
theorem nF_X5_149 : Cond.fieldLinkNest RX5 149 "Slewyard$Crane" "number" "I" "Slewyard" ∈ lw_tbl := List.mem_of_getElem? (i := 132) (by decide +kernel)
theorem nF_X5_165 : Cond.fieldLinkNest RX5 165 "Slewyard$Crane" "nearMisses" "I" "Slewyard" ∈ lw_tbl := List.mem_of_getElem? (i := 174) (by decide +kernel)
theorem nF_X5_172 : Cond.fieldLinkNest RX5 172 "Slewyard$Load" "weight" "I" "Slewyard" ∈ lw_tbl := List.mem_of_getElem? (i := 724) (by decide +kernel)
theorem nF_X5_175 : Cond.fieldLinkNest RX5 175 "Slewyard$Crane" "radius" "I" "Slewyard" ∈ lw_tbl := List.mem_of_getElem? (i := 159) (by decide +kernel)
theorem nF_X5_198 : Cond.fieldLinkNest RX5 198 "Slewyard$Crane" "work" "I" "Slewyard" ∈ lw_tbl := List.mem_of_getElem? (i := 167) (by decide +kernel)
theorem nF_X5_216 : Cond.fieldLinkNest RX5 216 "Slewyard$Crane" "bearing" "I" "Slewyard" ∈ lw_tbl := List.mem_of_getElem? (i := 153) (by decide +kernel)
theorem nM_X7_13 : Cond.methodLinkNest RX7 13 ⟨"Slewyard$Ground", "<init>", "()V"⟩ "Slewyard" ∈ lw_tbl := List.mem_of_getElem? (i := 48) (by decide +kernel)
theorem nC_294 : Cond.castable "java/lang/IllegalArgumentException" "java/lang/IllegalArgumentException" ∈ lw_tbl := List.mem_of_getElem? (i := 294) (by decide +kernel)
theorem nS_382 : Cond.stringRef "Slewyard" 382 "out of its bounds" ∈ lw_tbl := List.mem_of_getElem? (i := 333) (by decide +kernel)
theorem nC_532 : Cond.castable "java/lang/IndexOutOfBoundsException" "java/lang/IndexOutOfBoundsException" ∈ lw_tbl := List.mem_of_getElem? (i := 532) (by decide +kernel)
theorem nS_389 : Cond.stringRef "Slewyard" 389 "no such crane" ∈ lw_tbl := List.mem_of_getElem? (i := 539) (by decide +kernel)
theorem nS_387 : Cond.stringRef "Slewyard" 387 "no such cell" ∈ lw_tbl := List.mem_of_getElem? (i := 579) (by decide +kernel)
theorem nC_602 : Cond.castable "java/lang/IllegalStateException" "java/lang/IllegalStateException" ∈ lw_tbl := List.mem_of_getElem? (i := 602) (by decide +kernel)
theorem nS_131 : Cond.stringRef "Slewyard" 131 "no more cranes, or none there" ∈ lw_tbl := List.mem_of_getElem? (i := 609) (by decide +kernel)
theorem nS_145 : Cond.stringRef "Slewyard" 145 "no room for it" ∈ lw_tbl := List.mem_of_getElem? (i := 652) (by decide +kernel)
theorem nS_119 : Cond.stringRef "Slewyard" 119 "no more loads, or none there" ∈ lw_tbl := List.mem_of_getElem? (i := 713) (by decide +kernel)
theorem nS_60 : Cond.stringRef "Slewyard" 60 "something stands, lies or hangs in the way" ∈ lw_tbl := List.mem_of_getElem? (i := 752) (by decide +kernel)
theorem nS_81 : Cond.stringRef "Slewyard" 81 "no more reports of the wind" ∈ lw_tbl := List.mem_of_getElem? (i := 762) (by decide +kernel)
theorem nS_106 : Cond.stringRef "Slewyard" 106 "no more zones" ∈ lw_tbl := List.mem_of_getElem? (i := 771) (by decide +kernel)
theorem nS_203 : Cond.stringRef "Slewyard" 203 "a crane can not hand to itself" ∈ lw_tbl := List.mem_of_getElem? (i := 835) (by decide +kernel)
theorem nS_213 : Cond.stringRef "Slewyard" 213 "there is not so much time" ∈ lw_tbl := List.mem_of_getElem? (i := 845) (by decide +kernel)
theorem nS_154 : Cond.stringRef "Slewyard" 154 "the time is over" ∈ lw_tbl := List.mem_of_getElem? (i := 882) (by decide +kernel)
theorem nS_288 : Cond.stringRef "Slewyard" 288 "a crane can not clash with itself" ∈ lw_tbl := List.mem_of_getElem? (i := 903) (by decide +kernel)
theorem nS_260 : Cond.stringRef "Slewyard" 260 "no such load" ∈ lw_tbl := List.mem_of_getElem? (i := 909) (by decide +kernel)
theorem nS_302 : Cond.stringRef "Slewyard" 302 "no such place" ∈ lw_tbl := List.mem_of_getElem? (i := 1006) (by decide +kernel)
theorem nC_1012 : Cond.castable "Slewyard" "java/lang/Object" ∈ lw_tbl := List.mem_of_getElem? (i := 1012) (by decide +kernel)
theorem nC_1013 : Cond.castable "Slewyard$Site" "java/lang/Object" ∈ lw_tbl := List.mem_of_getElem? (i := 1013) (by decide +kernel)
theorem nC_1014 : Cond.castable "Slewyard$Ground" "java/lang/Object" ∈ lw_tbl := List.mem_of_getElem? (i := 1014) (by decide +kernel)
theorem nC_1015 : Cond.castable "java/util/ArrayList" "java/lang/Object" ∈ lw_tbl := List.mem_of_getElem? (i := 1015) (by decide +kernel)
theorem nC_1016 : Cond.castable "Slewyard$Report" "java/lang/Object" ∈ lw_tbl := List.mem_of_getElem? (i := 1016) (by decide +kernel)
theorem nC_1017 : Cond.castable "Slewyard$Crane" "java/lang/Object" ∈ lw_tbl := List.mem_of_getElem? (i := 1017) (by decide +kernel)
theorem nC_1018 : Cond.castable "Slewyard$Plans" "java/lang/Object" ∈ lw_tbl := List.mem_of_getElem? (i := 1018) (by decide +kernel)
theorem nC_1019 : Cond.castable "java/lang/IllegalArgumentException" "java/lang/Object" ∈ lw_tbl := List.mem_of_getElem? (i := 1019) (by decide +kernel)
theorem nC_1020 : Cond.castable "java/lang/IndexOutOfBoundsException" "java/lang/Object" ∈ lw_tbl := List.mem_of_getElem? (i := 1020) (by decide +kernel)
theorem nC_1021 : Cond.castable "java/lang/IllegalStateException" "java/lang/Object" ∈ lw_tbl := List.mem_of_getElem? (i := 1021) (by decide +kernel)
theorem nC_1022 : Cond.castable "Slewyard$Load" "java/lang/Object" ∈ lw_tbl := List.mem_of_getElem? (i := 1022) (by decide +kernel)
theorem nC_1023 : Cond.castable "Slewyard$Zone" "java/lang/Object" ∈ lw_tbl := List.mem_of_getElem? (i := 1023) (by decide +kernel)
theorem nC_1024 : Cond.castable "java/lang/Throwable" "java/lang/Object" ∈ lw_tbl := List.mem_of_getElem? (i := 1024) (by decide +kernel)
theorem nC_1025 : Cond.castable "java/lang/String" "java/lang/Object" ∈ lw_tbl := List.mem_of_getElem? (i := 1025) (by decide +kernel)
theorem nC_1029 : Cond.castable "[I" "java/lang/Object" ∈ lw_tbl := List.mem_of_getElem? (i := 1029) (by decide +kernel)
theorem nC_1030 : Cond.castable "[B" "java/lang/Object" ∈ lw_tbl := List.mem_of_getElem? (i := 1030) (by decide +kernel)
theorem nC_1031 : Cond.castable "[Ljava/lang/Object;" "java/lang/Object" ∈ lw_tbl := List.mem_of_getElem? (i := 1031) (by decide +kernel)
theorem inU_Jx4a65c : ∀ w ∈ wsJx4a65c0, w ∈ wsU := inU_of [92, 88, 90] (by decide +kernel) (by decide +kernel)
theorem inU_X0 : ∀ w ∈ wsX00, w ∈ wsU := inU_of [175, 177, 179, 181, 183, 185, 187, 189, 191, 193, 195, 197, 199, 201, 203, 205] (by decide +kernel) (by decide +kernel)
theorem inU_X1 : ∀ w ∈ wsX10, w ∈ wsU := inU_of [57, 59, 61] (by decide +kernel) (by decide +kernel)
theorem inU_X2 : ∀ w ∈ wsX20, w ∈ wsU := inU_of [729, 731, 733, 735] (by decide +kernel) (by decide +kernel)
theorem inU_X3 : ∀ w ∈ wsX30, w ∈ wsU := inU_of [262, 264, 266, 268, 270, 272] (by decide +kernel) (by decide +kernel)
theorem inU_X4 : ∀ w ∈ wsX40, w ∈ wsU := inU_of [107, 109, 111] (by decide +kernel) (by decide +kernel)
theorem inU_X5 : ∀ w ∈ wsX50, w ∈ wsU := inU_of [229, 231, 233, 235, 237, 239, 241, 243, 245, 247] (by decide +kernel) (by decide +kernel)
theorem inU_X6 : ∀ w ∈ wsX60, w ∈ wsU := inU_of [784, 786, 788, 790, 792, 794] (by decide +kernel) (by decide +kernel)
theorem inU_X7 : ∀ w ∈ wsX70, w ∈ wsU := inU_of [278, 280, 282] (by decide +kernel) (by decide +kernel)
