theorem dX9_init_0 : decode cX9_init 0 = .ok (.aload_n 0, 1) := by decide +kernel
theorem dX9_init_1 : decode cX9_init 1 = .ok (.invokespecial 1, 3) := by decide +kernel
theorem dX9_init_4 : decode cX9_init 4 = .ok (.aload_n 0, 1) := by decide +kernel
theorem dX9_init_5 : decode cX9_init 5 = .ok (.bipush 8, 2) := by decide +kernel
theorem dX9_init_7 : decode cX9_init 7 = .ok (.newarray .int, 2) := by decide +kernel
theorem dX9_init_9 : decode cX9_init 9 = .ok (.putfield 7, 3) := by decide +kernel
theorem dX9_init_12 : decode cX9_init 12 = .ok (.aload_n 0, 1) := by decide +kernel
theorem dX9_init_13 : decode cX9_init 13 = .ok (.bipush 8, 2) := by decide +kernel
theorem dX9_init_15 : decode cX9_init 15 = .ok (.newarray .int, 2) := by decide +kernel
theorem dX9_init_17 : decode cX9_init 17 = .ok (.putfield 13, 3) := by decide +kernel
theorem dX9_init_20 : decode cX9_init 20 = .ok (.aload_n 0, 1) := by decide +kernel
theorem dX9_init_21 : decode cX9_init 21 = .ok (.bipush 8, 2) := by decide +kernel
theorem dX9_init_23 : decode cX9_init 23 = .ok (.newarray .long, 2) := by decide +kernel
theorem dX9_init_25 : decode cX9_init 25 = .ok (.putfield 16, 3) := by decide +kernel
theorem dX9_init_28 : decode cX9_init 28 = .ok (.aload_n 0, 1) := by decide +kernel
theorem dX9_init_29 : decode cX9_init 29 = .ok (.bipush 10, 2) := by decide +kernel
theorem dX9_init_31 : decode cX9_init 31 = .ok (.newarray .int, 2) := by decide +kernel
theorem dX9_init_33 : decode cX9_init 33 = .ok (.putfield 20, 3) := by decide +kernel
theorem dX9_init_36 : decode cX9_init 36 = .ok (.aload_n 0, 1) := by decide +kernel
theorem dX9_init_37 : decode cX9_init 37 = .ok (.bipush 80, 2) := by decide +kernel
theorem dX9_init_39 : decode cX9_init 39 = .ok (.newarray .int, 2) := by decide +kernel
theorem dX9_init_41 : decode cX9_init 41 = .ok (.putfield 23, 3) := by decide +kernel
theorem dX9_init_44 : decode cX9_init 44 = .ok (.aload_n 0, 1) := by decide +kernel
theorem dX9_init_45 : decode cX9_init 45 = .ok (.sipush 320, 3) := by decide +kernel
theorem dX9_init_48 : decode cX9_init 48 = .ok (.newarray .long, 2) := by decide +kernel
theorem dX9_init_50 : decode cX9_init 50 = .ok (.putfield 26, 3) := by decide +kernel
theorem dX9_init_53 : decode cX9_init 53 = .ok (.aload_n 0, 1) := by decide +kernel
theorem dX9_init_54 : decode cX9_init 54 = .ok (.bipush 40, 2) := by decide +kernel
theorem dX9_init_56 : decode cX9_init 56 = .ok (.newarray .long, 2) := by decide +kernel
theorem dX9_init_58 : decode cX9_init 58 = .ok (.putfield 29, 3) := by decide +kernel
theorem dX9_init_61 : decode cX9_init 61 = .ok (.aload_n 0, 1) := by decide +kernel
theorem dX9_init_62 : decode cX9_init 62 = .ok (.bipush 40, 2) := by decide +kernel
theorem dX9_init_64 : decode cX9_init 64 = .ok (.newarray .int, 2) := by decide +kernel
theorem dX9_init_66 : decode cX9_init 66 = .ok (.putfield 32, 3) := by decide +kernel
theorem dX9_init_69 : decode cX9_init 69 = .ok (.aload_n 0, 1) := by decide +kernel
theorem dX9_init_70 : decode cX9_init 70 = .ok (.bipush 40, 2) := by decide +kernel
theorem dX9_init_72 : decode cX9_init 72 = .ok (.newarray .int, 2) := by decide +kernel
theorem dX9_init_74 : decode cX9_init 74 = .ok (.putfield 35, 3) := by decide +kernel
theorem dX9_init_77 : decode cX9_init 77 = .ok (.aload_n 0, 1) := by decide +kernel
theorem dX9_init_78 : decode cX9_init 78 = .ok (.sipush 1080, 3) := by decide +kernel
theorem dX9_init_81 : decode cX9_init 81 = .ok (.newarray .int, 2) := by decide +kernel
theorem dX9_init_83 : decode cX9_init 83 = .ok (.putfield 38, 3) := by decide +kernel
theorem dX9_init_86 : decode cX9_init 86 = .ok (.aload_n 0, 1) := by decide +kernel
theorem dX9_init_87 : decode cX9_init 87 = .ok (.iconst 1, 1) := by decide +kernel
theorem dX9_init_88 : decode cX9_init 88 = .ok (.putfield 41, 3) := by decide +kernel
theorem dX9_init_91 : decode cX9_init 91 = .ok (.aload_n 0, 1) := by decide +kernel
theorem dX9_init_92 : decode cX9_init 92 = .ok (.bipush 8, 2) := by decide +kernel
theorem dX9_init_94 : decode cX9_init 94 = .ok (.newarray .long, 2) := by decide +kernel
theorem dX9_init_96 : decode cX9_init 96 = .ok (.putfield 45, 3) := by decide +kernel
theorem dX9_init_99 : decode cX9_init 99 = .ok (.aload_n 0, 1) := by decide +kernel
theorem dX9_init_100 : decode cX9_init 100 = .ok (.bipush 27, 2) := by decide +kernel
theorem dX9_init_102 : decode cX9_init 102 = .ok (.newarray .int, 2) := by decide +kernel
theorem dX9_init_104 : decode cX9_init 104 = .ok (.putfield 48, 3) := by decide +kernel
theorem dX9_init_107 : decode cX9_init 107 = .ok (.aload_n 0, 1) := by decide +kernel
theorem dX9_init_108 : decode cX9_init 108 = .ok (.bipush 8, 2) := by decide +kernel
theorem dX9_init_110 : decode cX9_init 110 = .ok (.newarray .int, 2) := by decide +kernel
theorem dX9_init_112 : decode cX9_init 112 = .ok (.putfield 51, 3) := by decide +kernel
theorem dX9_init_115 : decode cX9_init 115 = .ok (.aload_n 0, 1) := by decide +kernel
theorem dX9_init_116 : decode cX9_init 116 = .ok (.bipush 8, 2) := by decide +kernel
theorem dX9_init_118 : decode cX9_init 118 = .ok (.newarray .int, 2) := by decide +kernel
theorem dX9_init_120 : decode cX9_init 120 = .ok (.putfield 54, 3) := by decide +kernel
theorem dX9_init_123 : decode cX9_init 123 = .ok (.aload_n 0, 1) := by decide +kernel
theorem dX9_init_124 : decode cX9_init 124 = .ok (.bipush 8, 2) := by decide +kernel
theorem dX9_init_126 : decode cX9_init 126 = .ok (.newarray .int, 2) := by decide +kernel
theorem dX9_init_128 : decode cX9_init 128 = .ok (.putfield 57, 3) := by decide +kernel
theorem dX9_init_131 : decode cX9_init 131 = .ok (.aload_n 0, 1) := by decide +kernel
theorem dX9_init_132 : decode cX9_init 132 = .ok (.bipush 8, 2) := by decide +kernel
theorem dX9_init_134 : decode cX9_init 134 = .ok (.newarray .int, 2) := by decide +kernel
theorem dX9_init_136 : decode cX9_init 136 = .ok (.putfield 60, 3) := by decide +kernel
theorem dX9_init_139 : decode cX9_init 139 = .ok (.return_, 1) := by decide +kernel
theorem dX9_thrown_0 : decode cX9_thrown 0 = .ok (.aload_n 0, 1) := by decide +kernel
theorem dX9_thrown_1 : decode cX9_thrown 1 = .ok (.getfield 63, 3) := by decide +kernel
theorem dX9_thrown_4 : decode cX9_thrown 4 = .ok (.ireturn, 1) := by decide +kernel
theorem dX9_name_0 : decode cX9_name 0 = .ok (.aload_n 0, 1) := by decide +kernel
theorem dX9_name_1 : decode cX9_name 1 = .ok (.iconst 0, 1) := by decide +kernel
theorem dX9_name_2 : decode cX9_name 2 = .ok (.putfield 63, 3) := by decide +kernel
theorem dX9_name_5 : decode cX9_name 5 = .ok (.iload_n 1, 1) := by decide +kernel
theorem dX9_name_6 : decode cX9_name 6 = .ok (.bipush (-30), 2) := by decide +kernel
theorem dX9_name_8 : decode cX9_name 8 = .ok (.if_icmp .lt 26, 3) := by decide +kernel
theorem dX9_name_11 : decode cX9_name 11 = .ok (.iload_n 1, 1) := by decide +kernel
theorem dX9_name_12 : decode cX9_name 12 = .ok (.bipush 30, 2) := by decide +kernel
theorem dX9_name_14 : decode cX9_name 14 = .ok (.if_icmp .gt 20, 3) := by decide +kernel
theorem dX9_name_17 : decode cX9_name 17 = .ok (.iload_n 2, 1) := by decide +kernel
theorem dX9_name_18 : decode cX9_name 18 = .ok (.bipush (-30), 2) := by decide +kernel
theorem dX9_name_20 : decode cX9_name 20 = .ok (.if_icmp .lt 14, 3) := by decide +kernel
theorem dX9_name_23 : decode cX9_name 23 = .ok (.iload_n 2, 1) := by decide +kernel
theorem dX9_name_24 : decode cX9_name 24 = .ok (.bipush 30, 2) := by decide +kernel
theorem dX9_name_26 : decode cX9_name 26 = .ok (.if_icmp .gt 8, 3) := by decide +kernel
theorem dX9_name_29 : decode cX9_name 29 = .ok (.iload_n 2, 1) := by decide +kernel
theorem dX9_name_30 : decode cX9_name 30 = .ok (.iload_n 1, 1) := by decide +kernel
theorem dX9_name_31 : decode cX9_name 31 = .ok (.if_icmp .ge 6, 3) := by decide +kernel
theorem dX9_name_34 : decode cX9_name 34 = .ok (.bipush (-2), 2) := by decide +kernel
theorem dX9_name_36 : decode cX9_name 36 = .ok (.ireturn, 1) := by decide +kernel
theorem dX9_name_37 : decode cX9_name 37 = .ok (.aload_n 0, 1) := by decide +kernel
theorem dX9_name_38 : decode cX9_name 38 = .ok (.getfield 66, 3) := by decide +kernel
theorem dX9_name_41 : decode cX9_name 41 = .ok (.bipush 8, 2) := by decide +kernel
theorem dX9_name_43 : decode cX9_name 43 = .ok (.if_icmp .ne 6, 3) := by decide +kernel
theorem dX9_name_46 : decode cX9_name 46 = .ok (.bipush (-4), 2) := by decide +kernel
theorem dX9_name_48 : decode cX9_name 48 = .ok (.ireturn, 1) := by decide +kernel
theorem dX9_name_49 : decode cX9_name 49 = .ok (.aload_n 0, 1) := by decide +kernel
theorem dX9_name_50 : decode cX9_name 50 = .ok (.getfield 7, 3) := by decide +kernel
theorem dX9_name_53 : decode cX9_name 53 = .ok (.aload_n 0, 1) := by decide +kernel
theorem dX9_name_54 : decode cX9_name 54 = .ok (.getfield 66, 3) := by decide +kernel
theorem dX9_name_57 : decode cX9_name 57 = .ok (.iload_n 1, 1) := by decide +kernel
theorem dX9_name_58 : decode cX9_name 58 = .ok (.iastore, 1) := by decide +kernel
theorem dX9_name_59 : decode cX9_name 59 = .ok (.aload_n 0, 1) := by decide +kernel
theorem dX9_name_60 : decode cX9_name 60 = .ok (.getfield 13, 3) := by decide +kernel
theorem dX9_name_63 : decode cX9_name 63 = .ok (.aload_n 0, 1) := by decide +kernel
theorem dX9_name_64 : decode cX9_name 64 = .ok (.getfield 66, 3) := by decide +kernel
theorem dX9_name_67 : decode cX9_name 67 = .ok (.iload_n 2, 1) := by decide +kernel
theorem dX9_name_68 : decode cX9_name 68 = .ok (.iastore, 1) := by decide +kernel
theorem dX9_name_69 : decode cX9_name 69 = .ok (.aload_n 0, 1) := by decide +kernel
theorem dX9_name_70 : decode cX9_name 70 = .ok (.getfield 16, 3) := by decide +kernel
theorem dX9_name_73 : decode cX9_name 73 = .ok (.aload_n 0, 1) := by decide +kernel
theorem dX9_name_74 : decode cX9_name 74 = .ok (.getfield 66, 3) := by decide +kernel
theorem dX9_name_77 : decode cX9_name 77 = .ok (.lconst 0, 1) := by decide +kernel
theorem dX9_name_78 : decode cX9_name 78 = .ok (.lastore, 1) := by decide +kernel
theorem dX9_name_79 : decode cX9_name 79 = .ok (.iconst 0, 1) := by decide +kernel
theorem dX9_name_80 : decode cX9_name 80 = .ok (.istore_n 3, 1) := by decide +kernel
theorem dX9_name_81 : decode cX9_name 81 = .ok (.iload_n 3, 1) := by decide +kernel
theorem dX9_name_82 : decode cX9_name 82 = .ok (.bipush 10, 2) := by decide +kernel
theorem dX9_name_84 : decode cX9_name 84 = .ok (.if_icmp .ge 24, 3) := by decide +kernel
theorem dX9_name_87 : decode cX9_name 87 = .ok (.aload_n 0, 1) := by decide +kernel
theorem dX9_name_88 : decode cX9_name 88 = .ok (.getfield 23, 3) := by decide +kernel
theorem dX9_name_91 : decode cX9_name 91 = .ok (.bipush 8, 2) := by decide +kernel
theorem dX9_name_93 : decode cX9_name 93 = .ok (.iload_n 3, 1) := by decide +kernel
theorem dX9_name_94 : decode cX9_name 94 = .ok (.imul, 1) := by decide +kernel
theorem dX9_name_95 : decode cX9_name 95 = .ok (.aload_n 0, 1) := by decide +kernel
theorem dX9_name_96 : decode cX9_name 96 = .ok (.getfield 66, 3) := by decide +kernel
theorem dX9_name_99 : decode cX9_name 99 = .ok (.iadd, 1) := by decide +kernel
theorem dX9_name_100 : decode cX9_name 100 = .ok (.iconst 0, 1) := by decide +kernel
theorem dX9_name_101 : decode cX9_name 101 = .ok (.iastore, 1) := by decide +kernel
theorem dX9_name_102 : decode cX9_name 102 = .ok (.iinc 3 1, 3) := by decide +kernel
theorem dX9_name_105 : decode cX9_name 105 = .ok (.goto (-24), 3) := by decide +kernel
theorem dX9_name_108 : decode cX9_name 108 = .ok (.aload_n 0, 1) := by decide +kernel
theorem dX9_name_109 : decode cX9_name 109 = .ok (.dup, 1) := by decide +kernel
theorem dX9_name_110 : decode cX9_name 110 = .ok (.getfield 66, 3) := by decide +kernel
theorem dX9_name_113 : decode cX9_name 113 = .ok (.iconst 1, 1) := by decide +kernel
theorem dX9_name_114 : decode cX9_name 114 = .ok (.iadd, 1) := by decide +kernel
theorem dX9_name_115 : decode cX9_name 115 = .ok (.putfield 66, 3) := by decide +kernel
theorem dX9_name_118 : decode cX9_name 118 = .ok (.aload_n 0, 1) := by decide +kernel
theorem dX9_name_119 : decode cX9_name 119 = .ok (.iconst 0, 1) := by decide +kernel
theorem dX9_name_120 : decode cX9_name 120 = .ok (.putfield 69, 3) := by decide +kernel
theorem dX9_name_123 : decode cX9_name 123 = .ok (.aload_n 0, 1) := by decide +kernel
theorem dX9_name_124 : decode cX9_name 124 = .ok (.getfield 66, 3) := by decide +kernel
theorem dX9_name_127 : decode cX9_name 127 = .ok (.iconst 1, 1) := by decide +kernel
theorem dX9_name_128 : decode cX9_name 128 = .ok (.isub, 1) := by decide +kernel
theorem dX9_name_129 : decode cX9_name 129 = .ok (.ireturn, 1) := by decide +kernel
theorem dX9_row_0 : decode cX9_row 0 = .ok (.aload_n 0, 1) := by decide +kernel
theorem dX9_row_1 : decode cX9_row 1 = .ok (.iconst 0, 1) := by decide +kernel
theorem dX9_row_2 : decode cX9_row 2 = .ok (.putfield 63, 3) := by decide +kernel
theorem dX9_row_5 : decode cX9_row 5 = .ok (.iload_n 1, 1) := by decide +kernel
theorem dX9_row_6 : decode cX9_row 6 = .ok (.sipush (-9999), 3) := by decide +kernel
theorem dX9_row_9 : decode cX9_row 9 = .ok (.if_icmp .lt 10, 3) := by decide +kernel
theorem dX9_row_12 : decode cX9_row 12 = .ok (.iload_n 1, 1) := by decide +kernel
theorem dX9_row_13 : decode cX9_row 13 = .ok (.sipush 9999, 3) := by decide +kernel
theorem dX9_row_16 : decode cX9_row 16 = .ok (.if_icmp .le 6, 3) := by decide +kernel
theorem dX9_row_19 : decode cX9_row 19 = .ok (.bipush (-2), 2) := by decide +kernel
theorem dX9_row_21 : decode cX9_row 21 = .ok (.ireturn, 1) := by decide +kernel
theorem dX9_row_22 : decode cX9_row 22 = .ok (.aload_n 0, 1) := by decide +kernel
theorem dX9_row_23 : decode cX9_row 23 = .ok (.getfield 72, 3) := by decide +kernel
theorem dX9_row_26 : decode cX9_row 26 = .ok (.bipush 10, 2) := by decide +kernel
theorem dX9_row_28 : decode cX9_row 28 = .ok (.if_icmp .ne 6, 3) := by decide +kernel
theorem dX9_row_31 : decode cX9_row 31 = .ok (.bipush (-4), 2) := by decide +kernel
theorem dX9_row_33 : decode cX9_row 33 = .ok (.ireturn, 1) := by decide +kernel
theorem dX9_row_34 : decode cX9_row 34 = .ok (.aload_n 0, 1) := by decide +kernel
theorem dX9_row_35 : decode cX9_row 35 = .ok (.getfield 20, 3) := by decide +kernel
theorem dX9_row_38 : decode cX9_row 38 = .ok (.aload_n 0, 1) := by decide +kernel
theorem dX9_row_39 : decode cX9_row 39 = .ok (.getfield 72, 3) := by decide +kernel
theorem dX9_row_42 : decode cX9_row 42 = .ok (.iload_n 1, 1) := by decide +kernel
theorem dX9_row_43 : decode cX9_row 43 = .ok (.iastore, 1) := by decide +kernel
theorem dX9_row_44 : decode cX9_row 44 = .ok (.iconst 0, 1) := by decide +kernel
theorem dX9_row_45 : decode cX9_row 45 = .ok (.istore_n 2, 1) := by decide +kernel
theorem dX9_row_46 : decode cX9_row 46 = .ok (.iload_n 2, 1) := by decide +kernel
theorem dX9_row_47 : decode cX9_row 47 = .ok (.bipush 8, 2) := by decide +kernel
theorem dX9_row_49 : decode cX9_row 49 = .ok (.if_icmp .ge 24, 3) := by decide +kernel
theorem dX9_row_52 : decode cX9_row 52 = .ok (.aload_n 0, 1) := by decide +kernel
theorem dX9_row_53 : decode cX9_row 53 = .ok (.getfield 23, 3) := by decide +kernel
theorem dX9_row_56 : decode cX9_row 56 = .ok (.bipush 8, 2) := by decide +kernel
theorem dX9_row_58 : decode cX9_row 58 = .ok (.aload_n 0, 1) := by decide +kernel
theorem dX9_row_59 : decode cX9_row 59 = .ok (.getfield 72, 3) := by decide +kernel
theorem dX9_row_62 : decode cX9_row 62 = .ok (.imul, 1) := by decide +kernel
theorem dX9_row_63 : decode cX9_row 63 = .ok (.iload_n 2, 1) := by decide +kernel
theorem dX9_row_64 : decode cX9_row 64 = .ok (.iadd, 1) := by decide +kernel
theorem dX9_row_65 : decode cX9_row 65 = .ok (.iconst 0, 1) := by decide +kernel
theorem dX9_row_66 : decode cX9_row 66 = .ok (.iastore, 1) := by decide +kernel
theorem dX9_row_67 : decode cX9_row 67 = .ok (.iinc 2 1, 3) := by decide +kernel
theorem dX9_row_70 : decode cX9_row 70 = .ok (.goto (-24), 3) := by decide +kernel
theorem dX9_row_73 : decode cX9_row 73 = .ok (.aload_n 0, 1) := by decide +kernel
theorem dX9_row_74 : decode cX9_row 74 = .ok (.dup, 1) := by decide +kernel
theorem dX9_row_75 : decode cX9_row 75 = .ok (.getfield 72, 3) := by decide +kernel
theorem dX9_row_78 : decode cX9_row 78 = .ok (.iconst 1, 1) := by decide +kernel
theorem dX9_row_79 : decode cX9_row 79 = .ok (.iadd, 1) := by decide +kernel
theorem dX9_row_80 : decode cX9_row 80 = .ok (.putfield 72, 3) := by decide +kernel
theorem dX9_row_83 : decode cX9_row 83 = .ok (.aload_n 0, 1) := by decide +kernel
theorem dX9_row_84 : decode cX9_row 84 = .ok (.iconst 0, 1) := by decide +kernel
theorem dX9_row_85 : decode cX9_row 85 = .ok (.putfield 69, 3) := by decide +kernel
theorem dX9_row_88 : decode cX9_row 88 = .ok (.aload_n 0, 1) := by decide +kernel
theorem dX9_row_89 : decode cX9_row 89 = .ok (.getfield 72, 3) := by decide +kernel
theorem dX9_row_92 : decode cX9_row 92 = .ok (.iconst 1, 1) := by decide +kernel
theorem dX9_row_93 : decode cX9_row 93 = .ok (.isub, 1) := by decide +kernel
theorem dX9_row_94 : decode cX9_row 94 = .ok (.ireturn, 1) := by decide +kernel
theorem dX9_isName_0 : decode cX9_isName 0 = .ok (.iload_n 1, 1) := by decide +kernel
theorem dX9_isName_1 : decode cX9_isName 1 = .ok (.ifCond .lt 15, 3) := by decide +kernel
theorem dX9_isName_4 : decode cX9_isName 4 = .ok (.iload_n 1, 1) := by decide +kernel
theorem dX9_isName_5 : decode cX9_isName 5 = .ok (.aload_n 0, 1) := by decide +kernel
theorem dX9_isName_6 : decode cX9_isName 6 = .ok (.getfield 66, 3) := by decide +kernel
theorem dX9_isName_9 : decode cX9_isName 9 = .ok (.if_icmp .ge 7, 3) := by decide +kernel
theorem dX9_isName_12 : decode cX9_isName 12 = .ok (.iconst 1, 1) := by decide +kernel
theorem dX9_isName_13 : decode cX9_isName 13 = .ok (.goto 4, 3) := by decide +kernel
theorem dX9_isName_16 : decode cX9_isName 16 = .ok (.iconst 0, 1) := by decide +kernel
theorem dX9_isName_17 : decode cX9_isName 17 = .ok (.ireturn, 1) := by decide +kernel
theorem dX9_isRow_0 : decode cX9_isRow 0 = .ok (.iload_n 1, 1) := by decide +kernel
theorem dX9_isRow_1 : decode cX9_isRow 1 = .ok (.ifCond .lt 15, 3) := by decide +kernel
theorem dX9_isRow_4 : decode cX9_isRow 4 = .ok (.iload_n 1, 1) := by decide +kernel
theorem dX9_isRow_5 : decode cX9_isRow 5 = .ok (.aload_n 0, 1) := by decide +kernel
theorem dX9_isRow_6 : decode cX9_isRow 6 = .ok (.getfield 72, 3) := by decide +kernel
theorem dX9_isRow_9 : decode cX9_isRow 9 = .ok (.if_icmp .ge 7, 3) := by decide +kernel
theorem dX9_isRow_12 : decode cX9_isRow 12 = .ok (.iconst 1, 1) := by decide +kernel
theorem dX9_isRow_13 : decode cX9_isRow 13 = .ok (.goto 4, 3) := by decide +kernel
theorem dX9_isRow_16 : decode cX9_isRow 16 = .ok (.iconst 0, 1) := by decide +kernel
theorem dX9_isRow_17 : decode cX9_isRow 17 = .ok (.ireturn, 1) := by decide +kernel
theorem dX9_isCut_0 : decode cX9_isCut 0 = .ok (.iload_n 1, 1) := by decide +kernel
theorem dX9_isCut_1 : decode cX9_isCut 1 = .ok (.ifCond .lt 15, 3) := by decide +kernel
theorem dX9_isCut_4 : decode cX9_isCut 4 = .ok (.iload_n 1, 1) := by decide +kernel
theorem dX9_isCut_5 : decode cX9_isCut 5 = .ok (.aload_n 0, 1) := by decide +kernel
theorem dX9_isCut_6 : decode cX9_isCut 6 = .ok (.getfield 69, 3) := by decide +kernel
theorem dX9_isCut_9 : decode cX9_isCut 9 = .ok (.if_icmp .ge 7, 3) := by decide +kernel
theorem dX9_isCut_12 : decode cX9_isCut 12 = .ok (.iconst 1, 1) := by decide +kernel
theorem dX9_isCut_13 : decode cX9_isCut 13 = .ok (.goto 4, 3) := by decide +kernel
theorem dX9_isCut_16 : decode cX9_isCut 16 = .ok (.iconst 0, 1) := by decide +kernel
theorem dX9_isCut_17 : decode cX9_isCut 17 = .ok (.ireturn, 1) := by decide +kernel
theorem dX9_factor_0 : decode cX9_factor 0 = .ok (.aload_n 0, 1) := by decide +kernel
theorem dX9_factor_1 : decode cX9_factor 1 = .ok (.iconst 0, 1) := by decide +kernel
theorem dX9_factor_2 : decode cX9_factor 2 = .ok (.putfield 63, 3) := by decide +kernel
theorem dX9_factor_5 : decode cX9_factor 5 = .ok (.aload_n 0, 1) := by decide +kernel
theorem dX9_factor_6 : decode cX9_factor 6 = .ok (.iload_n 1, 1) := by decide +kernel
theorem dX9_factor_7 : decode cX9_factor 7 = .ok (.invokevirtual 75, 3) := by decide +kernel
theorem dX9_factor_10 : decode cX9_factor 10 = .ok (.ifCond .eq 11, 3) := by decide +kernel
theorem dX9_factor_13 : decode cX9_factor 13 = .ok (.aload_n 0, 1) := by decide +kernel
theorem dX9_factor_14 : decode cX9_factor 14 = .ok (.iload_n 2, 1) := by decide +kernel
theorem dX9_factor_15 : decode cX9_factor 15 = .ok (.invokevirtual 79, 3) := by decide +kernel
theorem dX9_factor_18 : decode cX9_factor 18 = .ok (.ifCond .ne 5, 3) := by decide +kernel
theorem dX9_factor_21 : decode cX9_factor 21 = .ok (.iconst (-1), 1) := by decide +kernel
theorem dX9_factor_22 : decode cX9_factor 22 = .ok (.ireturn, 1) := by decide +kernel
theorem dX9_factor_23 : decode cX9_factor 23 = .ok (.iload_n 3, 1) := by decide +kernel
theorem dX9_factor_24 : decode cX9_factor 24 = .ok (.bipush (-50), 2) := by decide +kernel
theorem dX9_factor_26 : decode cX9_factor 26 = .ok (.if_icmp .lt 9, 3) := by decide +kernel
theorem dX9_factor_29 : decode cX9_factor 29 = .ok (.iload_n 3, 1) := by decide +kernel
theorem dX9_factor_30 : decode cX9_factor 30 = .ok (.bipush 50, 2) := by decide +kernel
theorem dX9_factor_32 : decode cX9_factor 32 = .ok (.if_icmp .le 6, 3) := by decide +kernel
theorem dX9_factor_35 : decode cX9_factor 35 = .ok (.bipush (-2), 2) := by decide +kernel
theorem dX9_factor_37 : decode cX9_factor 37 = .ok (.ireturn, 1) := by decide +kernel
theorem dX9_factor_38 : decode cX9_factor 38 = .ok (.aload_n 0, 1) := by decide +kernel
theorem dX9_factor_39 : decode cX9_factor 39 = .ok (.getfield 23, 3) := by decide +kernel
theorem dX9_factor_42 : decode cX9_factor 42 = .ok (.bipush 8, 2) := by decide +kernel
theorem dX9_factor_44 : decode cX9_factor 44 = .ok (.iload_n 1, 1) := by decide +kernel
theorem dX9_factor_45 : decode cX9_factor 45 = .ok (.imul, 1) := by decide +kernel
theorem dX9_factor_46 : decode cX9_factor 46 = .ok (.iload_n 2, 1) := by decide +kernel
theorem dX9_factor_47 : decode cX9_factor 47 = .ok (.iadd, 1) := by decide +kernel
theorem dX9_factor_48 : decode cX9_factor 48 = .ok (.iaload, 1) := by decide +kernel
theorem dX9_factor_49 : decode cX9_factor 49 = .ok (.istore 4, 2) := by decide +kernel
theorem dX9_factor_51 : decode cX9_factor 51 = .ok (.aload_n 0, 1) := by decide +kernel
theorem dX9_factor_52 : decode cX9_factor 52 = .ok (.getfield 23, 3) := by decide +kernel
theorem dX9_factor_55 : decode cX9_factor 55 = .ok (.bipush 8, 2) := by decide +kernel
theorem dX9_factor_57 : decode cX9_factor 57 = .ok (.iload_n 1, 1) := by decide +kernel
theorem dX9_factor_58 : decode cX9_factor 58 = .ok (.imul, 1) := by decide +kernel
theorem dX9_factor_59 : decode cX9_factor 59 = .ok (.iload_n 2, 1) := by decide +kernel
theorem dX9_factor_60 : decode cX9_factor 60 = .ok (.iadd, 1) := by decide +kernel
theorem dX9_factor_61 : decode cX9_factor 61 = .ok (.iload_n 3, 1) := by decide +kernel
theorem dX9_factor_62 : decode cX9_factor 62 = .ok (.iastore, 1) := by decide +kernel
theorem dX9_factor_63 : decode cX9_factor 63 = .ok (.aload_n 0, 1) := by decide +kernel
theorem dX9_factor_64 : decode cX9_factor 64 = .ok (.iconst 0, 1) := by decide +kernel
theorem dX9_factor_65 : decode cX9_factor 65 = .ok (.putfield 69, 3) := by decide +kernel
theorem dX9_factor_68 : decode cX9_factor 68 = .ok (.iload 4, 2) := by decide +kernel
theorem dX9_factor_70 : decode cX9_factor 70 = .ok (.ireturn, 1) := by decide +kernel
theorem dX9_point_0 : decode cX9_point 0 = .ok (.aload_n 0, 1) := by decide +kernel
theorem dX9_point_1 : decode cX9_point 1 = .ok (.iconst 0, 1) := by decide +kernel
theorem dX9_point_2 : decode cX9_point 2 = .ok (.putfield 63, 3) := by decide +kernel
theorem dX9_point_5 : decode cX9_point 5 = .ok (.aload_n 0, 1) := by decide +kernel
theorem dX9_point_6 : decode cX9_point 6 = .ok (.iload_n 1, 1) := by decide +kernel
theorem dX9_point_7 : decode cX9_point 7 = .ok (.invokevirtual 79, 3) := by decide +kernel
theorem dX9_point_10 : decode cX9_point 10 = .ok (.ifCond .ne 5, 3) := by decide +kernel
theorem dX9_point_13 : decode cX9_point 13 = .ok (.iconst (-1), 1) := by decide +kernel
theorem dX9_point_14 : decode cX9_point 14 = .ok (.ireturn, 1) := by decide +kernel
theorem dX9_point_15 : decode cX9_point 15 = .ok (.iload_n 3, 1) := by decide +kernel
theorem dX9_point_16 : decode cX9_point 16 = .ok (.iconst 1, 1) := by decide +kernel
theorem dX9_point_17 : decode cX9_point 17 = .ok (.if_icmp .lt 23, 3) := by decide +kernel
theorem dX9_point_20 : decode cX9_point 20 = .ok (.iload_n 3, 1) := by decide +kernel
theorem dX9_point_21 : decode cX9_point 21 = .ok (.bipush 12, 2) := by decide +kernel
theorem dX9_point_23 : decode cX9_point 23 = .ok (.if_icmp .gt 17, 3) := by decide +kernel
theorem dX9_point_26 : decode cX9_point 26 = .ok (.iload_n 2, 1) := by decide +kernel
theorem dX9_point_27 : decode cX9_point 27 = .ok (.sipush (-400), 3) := by decide +kernel
theorem dX9_point_30 : decode cX9_point 30 = .ok (.if_icmp .lt 10, 3) := by decide +kernel
theorem dX9_point_33 : decode cX9_point 33 = .ok (.iload_n 2, 1) := by decide +kernel
theorem dX9_point_34 : decode cX9_point 34 = .ok (.sipush 400, 3) := by decide +kernel
theorem dX9_point_37 : decode cX9_point 37 = .ok (.if_icmp .le 6, 3) := by decide +kernel
theorem dX9_point_40 : decode cX9_point 40 = .ok (.bipush (-2), 2) := by decide +kernel
theorem dX9_point_42 : decode cX9_point 42 = .ok (.ireturn, 1) := by decide +kernel
theorem dX9_point_43 : decode cX9_point 43 = .ok (.aload_n 0, 1) := by decide +kernel
theorem dX9_point_44 : decode cX9_point 44 = .ok (.getfield 16, 3) := by decide +kernel
theorem dX9_point_47 : decode cX9_point 47 = .ok (.iload_n 1, 1) := by decide +kernel
theorem dX9_point_48 : decode cX9_point 48 = .ok (.iload_n 2, 1) := by decide +kernel
theorem dX9_point_49 : decode cX9_point 49 = .ok (.i2l, 1) := by decide +kernel
theorem dX9_point_50 : decode cX9_point 50 = .ok (.ldc2_w 82, 3) := by decide +kernel
theorem dX9_point_53 : decode cX9_point 53 = .ok (.iload_n 3, 1) := by decide +kernel
theorem dX9_point_54 : decode cX9_point 54 = .ok (.i2l, 1) := by decide +kernel
theorem dX9_point_55 : decode cX9_point 55 = .ok (.ldiv, 1) := by decide +kernel
theorem dX9_point_56 : decode cX9_point 56 = .ok (.lmul, 1) := by decide +kernel
theorem dX9_point_57 : decode cX9_point 57 = .ok (.lastore, 1) := by decide +kernel
theorem dX9_point_58 : decode cX9_point 58 = .ok (.iconst 1, 1) := by decide +kernel
theorem dX9_point_59 : decode cX9_point 59 = .ok (.ireturn, 1) := by decide +kernel
theorem dX9_isBinary_0 : decode cX9_isBinary 0 = .ok (.aload_n 0, 1) := by decide +kernel
theorem dX9_isBinary_1 : decode cX9_isBinary 1 = .ok (.getfield 7, 3) := by decide +kernel
theorem dX9_isBinary_4 : decode cX9_isBinary 4 = .ok (.iload_n 1, 1) := by decide +kernel
theorem dX9_isBinary_5 : decode cX9_isBinary 5 = .ok (.iaload, 1) := by decide +kernel
theorem dX9_isBinary_6 : decode cX9_isBinary 6 = .ok (.ifCond .ne 17, 3) := by decide +kernel
theorem dX9_isBinary_9 : decode cX9_isBinary 9 = .ok (.aload_n 0, 1) := by decide +kernel
theorem dX9_isBinary_10 : decode cX9_isBinary 10 = .ok (.getfield 13, 3) := by decide +kernel
theorem dX9_isBinary_13 : decode cX9_isBinary 13 = .ok (.iload_n 1, 1) := by decide +kernel
theorem dX9_isBinary_14 : decode cX9_isBinary 14 = .ok (.iaload, 1) := by decide +kernel
theorem dX9_isBinary_15 : decode cX9_isBinary 15 = .ok (.iconst 1, 1) := by decide +kernel
theorem dX9_isBinary_16 : decode cX9_isBinary 16 = .ok (.if_icmp .ne 7, 3) := by decide +kernel
theorem dX9_isBinary_19 : decode cX9_isBinary 19 = .ok (.iconst 1, 1) := by decide +kernel
theorem dX9_isBinary_20 : decode cX9_isBinary 20 = .ok (.goto 4, 3) := by decide +kernel
theorem dX9_isBinary_23 : decode cX9_isBinary 23 = .ok (.iconst 0, 1) := by decide +kernel
theorem dX9_isBinary_24 : decode cX9_isBinary 24 = .ok (.ireturn, 1) := by decide +kernel
theorem dX9_least_0 : decode cX9_least 0 = .ok (.aload_n 0, 1) := by decide +kernel
theorem dX9_least_1 : decode cX9_least 1 = .ok (.getfield 23, 3) := by decide +kernel
theorem dX9_least_4 : decode cX9_least 4 = .ok (.bipush 8, 2) := by decide +kernel
theorem dX9_least_6 : decode cX9_least 6 = .ok (.iload_n 1, 1) := by decide +kernel
theorem dX9_least_7 : decode cX9_least 7 = .ok (.imul, 1) := by decide +kernel
theorem dX9_least_8 : decode cX9_least 8 = .ok (.iload_n 2, 1) := by decide +kernel
theorem dX9_least_9 : decode cX9_least 9 = .ok (.iadd, 1) := by decide +kernel
theorem dX9_least_10 : decode cX9_least 10 = .ok (.iaload, 1) := by decide +kernel
theorem dX9_least_11 : decode cX9_least 11 = .ok (.istore_n 3, 1) := by decide +kernel
theorem dX9_least_12 : decode cX9_least 12 = .ok (.iload_n 3, 1) := by decide +kernel
theorem dX9_least_13 : decode cX9_least 13 = .ok (.ifCond .ge 14, 3) := by decide +kernel
theorem dX9_least_16 : decode cX9_least 16 = .ok (.iload_n 3, 1) := by decide +kernel
theorem dX9_least_17 : decode cX9_least 17 = .ok (.aload_n 0, 1) := by decide +kernel
theorem dX9_least_18 : decode cX9_least 18 = .ok (.getfield 13, 3) := by decide +kernel
theorem dX9_least_21 : decode cX9_least 21 = .ok (.iload_n 2, 1) := by decide +kernel
theorem dX9_least_22 : decode cX9_least 22 = .ok (.iaload, 1) := by decide +kernel
theorem dX9_least_23 : decode cX9_least 23 = .ok (.imul, 1) := by decide +kernel
theorem dX9_least_24 : decode cX9_least 24 = .ok (.goto 11, 3) := by decide +kernel
theorem dX9_least_27 : decode cX9_least 27 = .ok (.iload_n 3, 1) := by decide +kernel
theorem dX9_least_28 : decode cX9_least 28 = .ok (.aload_n 0, 1) := by decide +kernel
theorem dX9_least_29 : decode cX9_least 29 = .ok (.getfield 7, 3) := by decide +kernel
theorem dX9_least_32 : decode cX9_least 32 = .ok (.iload_n 2, 1) := by decide +kernel
theorem dX9_least_33 : decode cX9_least 33 = .ok (.iaload, 1) := by decide +kernel
theorem dX9_least_34 : decode cX9_least 34 = .ok (.imul, 1) := by decide +kernel
theorem dX9_least_35 : decode cX9_least 35 = .ok (.ireturn, 1) := by decide +kernel
theorem dX9_emptied_0 : decode cX9_emptied 0 = .ok (.iconst 0, 1) := by decide +kernel
theorem dX9_emptied_1 : decode cX9_emptied 1 = .ok (.istore_n 1, 1) := by decide +kernel
theorem dX9_emptied_2 : decode cX9_emptied 2 = .ok (.iload_n 1, 1) := by decide +kernel
theorem dX9_emptied_3 : decode cX9_emptied 3 = .ok (.bipush 8, 2) := by decide +kernel
theorem dX9_emptied_5 : decode cX9_emptied 5 = .ok (.if_icmp .ge 16, 3) := by decide +kernel
theorem dX9_emptied_8 : decode cX9_emptied 8 = .ok (.aload_n 0, 1) := by decide +kernel
theorem dX9_emptied_9 : decode cX9_emptied 9 = .ok (.getfield 45, 3) := by decide +kernel
theorem dX9_emptied_12 : decode cX9_emptied 12 = .ok (.iload_n 1, 1) := by decide +kernel
theorem dX9_emptied_13 : decode cX9_emptied 13 = .ok (.lconst 0, 1) := by decide +kernel
theorem dX9_emptied_14 : decode cX9_emptied 14 = .ok (.lastore, 1) := by decide +kernel
theorem dX9_emptied_15 : decode cX9_emptied 15 = .ok (.iinc 1 1, 3) := by decide +kernel
theorem dX9_emptied_18 : decode cX9_emptied 18 = .ok (.goto (-16), 3) := by decide +kernel
theorem dX9_emptied_21 : decode cX9_emptied 21 = .ok (.aload_n 0, 1) := by decide +kernel
theorem dX9_emptied_22 : decode cX9_emptied 22 = .ok (.lconst 0, 1) := by decide +kernel
theorem dX9_emptied_23 : decode cX9_emptied 23 = .ok (.putfield 84, 3) := by decide +kernel
theorem dX9_emptied_26 : decode cX9_emptied 26 = .ok (.iconst 0, 1) := by decide +kernel
theorem dX9_emptied_27 : decode cX9_emptied 27 = .ok (.istore_n 1, 1) := by decide +kernel
theorem dX9_emptied_28 : decode cX9_emptied 28 = .ok (.iload_n 1, 1) := by decide +kernel
theorem dX9_emptied_29 : decode cX9_emptied 29 = .ok (.bipush 27, 2) := by decide +kernel
theorem dX9_emptied_31 : decode cX9_emptied 31 = .ok (.if_icmp .ge 16, 3) := by decide +kernel
theorem dX9_emptied_34 : decode cX9_emptied 34 = .ok (.aload_n 0, 1) := by decide +kernel
theorem dX9_emptied_35 : decode cX9_emptied 35 = .ok (.getfield 48, 3) := by decide +kernel
theorem dX9_emptied_38 : decode cX9_emptied 38 = .ok (.iload_n 1, 1) := by decide +kernel
theorem dX9_emptied_39 : decode cX9_emptied 39 = .ok (.iconst 0, 1) := by decide +kernel
theorem dX9_emptied_40 : decode cX9_emptied 40 = .ok (.iastore, 1) := by decide +kernel
theorem dX9_emptied_41 : decode cX9_emptied 41 = .ok (.iinc 1 1, 3) := by decide +kernel
theorem dX9_emptied_44 : decode cX9_emptied 44 = .ok (.goto (-16), 3) := by decide +kernel
theorem dX9_emptied_47 : decode cX9_emptied 47 = .ok (.return_, 1) := by decide +kernel
theorem dX9_isThere_0 : decode cX9_isThere 0 = .ok (.iconst 0, 1) := by decide +kernel
theorem dX9_isThere_1 : decode cX9_isThere 1 = .ok (.istore_n 1, 1) := by decide +kernel
theorem dX9_isThere_2 : decode cX9_isThere 2 = .ok (.iload_n 1, 1) := by decide +kernel
theorem dX9_isThere_3 : decode cX9_isThere 3 = .ok (.aload_n 0, 1) := by decide +kernel
theorem dX9_isThere_4 : decode cX9_isThere 4 = .ok (.getfield 69, 3) := by decide +kernel
theorem dX9_isThere_7 : decode cX9_isThere 7 = .ok (.if_icmp .ge 82, 3) := by decide +kernel
theorem dX9_isThere_10 : decode cX9_isThere 10 = .ok (.aload_n 0, 1) := by decide +kernel
theorem dX9_isThere_11 : decode cX9_isThere 11 = .ok (.getfield 29, 3) := by decide +kernel
theorem dX9_isThere_14 : decode cX9_isThere 14 = .ok (.iload_n 1, 1) := by decide +kernel
theorem dX9_isThere_15 : decode cX9_isThere 15 = .ok (.laload, 1) := by decide +kernel
theorem dX9_isThere_16 : decode cX9_isThere 16 = .ok (.aload_n 0, 1) := by decide +kernel
theorem dX9_isThere_17 : decode cX9_isThere 17 = .ok (.getfield 84, 3) := by decide +kernel
theorem dX9_isThere_20 : decode cX9_isThere 20 = .ok (.lcmp, 1) := by decide +kernel
theorem dX9_isThere_21 : decode cX9_isThere 21 = .ok (.ifCond .ne 7, 3) := by decide +kernel
theorem dX9_isThere_24 : decode cX9_isThere 24 = .ok (.iconst 1, 1) := by decide +kernel
theorem dX9_isThere_25 : decode cX9_isThere 25 = .ok (.goto 4, 3) := by decide +kernel
theorem dX9_isThere_28 : decode cX9_isThere 28 = .ok (.iconst 0, 1) := by decide +kernel
theorem dX9_isThere_29 : decode cX9_isThere 29 = .ok (.istore_n 2, 1) := by decide +kernel
theorem dX9_isThere_30 : decode cX9_isThere 30 = .ok (.iconst 0, 1) := by decide +kernel
theorem dX9_isThere_31 : decode cX9_isThere 31 = .ok (.istore_n 3, 1) := by decide +kernel
theorem dX9_isThere_32 : decode cX9_isThere 32 = .ok (.iload_n 3, 1) := by decide +kernel
theorem dX9_isThere_33 : decode cX9_isThere 33 = .ok (.aload_n 0, 1) := by decide +kernel
theorem dX9_isThere_34 : decode cX9_isThere 34 = .ok (.getfield 66, 3) := by decide +kernel
theorem dX9_isThere_37 : decode cX9_isThere 37 = .ok (.if_icmp .ge 40, 3) := by decide +kernel
theorem dX9_isThere_40 : decode cX9_isThere 40 = .ok (.iload_n 2, 1) := by decide +kernel
theorem dX9_isThere_41 : decode cX9_isThere 41 = .ok (.ifCond .eq 28, 3) := by decide +kernel
theorem dX9_isThere_44 : decode cX9_isThere 44 = .ok (.aload_n 0, 1) := by decide +kernel
theorem dX9_isThere_45 : decode cX9_isThere 45 = .ok (.getfield 26, 3) := by decide +kernel
theorem dX9_isThere_48 : decode cX9_isThere 48 = .ok (.bipush 8, 2) := by decide +kernel
theorem dX9_isThere_50 : decode cX9_isThere 50 = .ok (.iload_n 1, 1) := by decide +kernel
theorem dX9_isThere_51 : decode cX9_isThere 51 = .ok (.imul, 1) := by decide +kernel
theorem dX9_isThere_52 : decode cX9_isThere 52 = .ok (.iload_n 3, 1) := by decide +kernel
theorem dX9_isThere_53 : decode cX9_isThere 53 = .ok (.iadd, 1) := by decide +kernel
theorem dX9_isThere_54 : decode cX9_isThere 54 = .ok (.laload, 1) := by decide +kernel
theorem dX9_isThere_55 : decode cX9_isThere 55 = .ok (.aload_n 0, 1) := by decide +kernel
theorem dX9_isThere_56 : decode cX9_isThere 56 = .ok (.getfield 45, 3) := by decide +kernel
theorem dX9_isThere_59 : decode cX9_isThere 59 = .ok (.iload_n 3, 1) := by decide +kernel
theorem dX9_isThere_60 : decode cX9_isThere 60 = .ok (.laload, 1) := by decide +kernel
theorem dX9_isThere_61 : decode cX9_isThere 61 = .ok (.lcmp, 1) := by decide +kernel
theorem dX9_isThere_62 : decode cX9_isThere 62 = .ok (.ifCond .ne 7, 3) := by decide +kernel
theorem dX9_isThere_65 : decode cX9_isThere 65 = .ok (.iconst 1, 1) := by decide +kernel
theorem dX9_isThere_66 : decode cX9_isThere 66 = .ok (.goto 4, 3) := by decide +kernel
theorem dX9_isThere_69 : decode cX9_isThere 69 = .ok (.iconst 0, 1) := by decide +kernel
theorem dX9_isThere_70 : decode cX9_isThere 70 = .ok (.istore_n 2, 1) := by decide +kernel
theorem dX9_isThere_71 : decode cX9_isThere 71 = .ok (.iinc 3 1, 3) := by decide +kernel
theorem dX9_isThere_74 : decode cX9_isThere 74 = .ok (.goto (-42), 3) := by decide +kernel
theorem dX9_isThere_77 : decode cX9_isThere 77 = .ok (.iload_n 2, 1) := by decide +kernel
theorem dX9_isThere_78 : decode cX9_isThere 78 = .ok (.ifCond .eq 5, 3) := by decide +kernel
theorem dX9_isThere_81 : decode cX9_isThere 81 = .ok (.iconst 1, 1) := by decide +kernel
theorem dX9_isThere_82 : decode cX9_isThere 82 = .ok (.ireturn, 1) := by decide +kernel
theorem dX9_isThere_83 : decode cX9_isThere 83 = .ok (.iinc 1 1, 3) := by decide +kernel
theorem dX9_isThere_86 : decode cX9_isThere 86 = .ok (.goto (-84), 3) := by decide +kernel
theorem dX9_isThere_89 : decode cX9_isThere 89 = .ok (.iconst 0, 1) := by decide +kernel
theorem dX9_isThere_90 : decode cX9_isThere 90 = .ok (.ireturn, 1) := by decide +kernel
theorem dX9_offer_0 : decode cX9_offer 0 = .ok (.aload_n 0, 1) := by decide +kernel
theorem dX9_offer_1 : decode cX9_offer 1 = .ok (.getfield 84, 3) := by decide +kernel
theorem dX9_offer_4 : decode cX9_offer 4 = .ok (.lneg, 1) := by decide +kernel
theorem dX9_offer_5 : decode cX9_offer 5 = .ok (.ldc2_w 82, 3) := by decide +kernel
theorem dX9_offer_8 : decode cX9_offer 8 = .ok (.lmul, 1) := by decide +kernel
theorem dX9_offer_9 : decode cX9_offer 9 = .ok (.lstore_n 2, 1) := by decide +kernel
theorem dX9_offer_10 : decode cX9_offer 10 = .ok (.iconst 0, 1) := by decide +kernel
theorem dX9_offer_11 : decode cX9_offer 11 = .ok (.istore 4, 2) := by decide +kernel
theorem dX9_offer_13 : decode cX9_offer 13 = .ok (.iload 4, 2) := by decide +kernel
theorem dX9_offer_15 : decode cX9_offer 15 = .ok (.aload_n 0, 1) := by decide +kernel
theorem dX9_offer_16 : decode cX9_offer 16 = .ok (.getfield 66, 3) := by decide +kernel
theorem dX9_offer_19 : decode cX9_offer 19 = .ok (.if_icmp .ge 27, 3) := by decide +kernel
theorem dX9_offer_22 : decode cX9_offer 22 = .ok (.lload_n 2, 1) := by decide +kernel
theorem dX9_offer_23 : decode cX9_offer 23 = .ok (.aload_n 0, 1) := by decide +kernel
theorem dX9_offer_24 : decode cX9_offer 24 = .ok (.getfield 45, 3) := by decide +kernel
theorem dX9_offer_27 : decode cX9_offer 27 = .ok (.iload 4, 2) := by decide +kernel
theorem dX9_offer_29 : decode cX9_offer 29 = .ok (.laload, 1) := by decide +kernel
theorem dX9_offer_30 : decode cX9_offer 30 = .ok (.aload_n 0, 1) := by decide +kernel
theorem dX9_offer_31 : decode cX9_offer 31 = .ok (.getfield 16, 3) := by decide +kernel
theorem dX9_offer_34 : decode cX9_offer 34 = .ok (.iload 4, 2) := by decide +kernel
theorem dX9_offer_36 : decode cX9_offer 36 = .ok (.laload, 1) := by decide +kernel
theorem dX9_offer_37 : decode cX9_offer 37 = .ok (.lmul, 1) := by decide +kernel
theorem dX9_offer_38 : decode cX9_offer 38 = .ok (.ladd, 1) := by decide +kernel
theorem dX9_offer_39 : decode cX9_offer 39 = .ok (.lstore_n 2, 1) := by decide +kernel
theorem dX9_offer_40 : decode cX9_offer 40 = .ok (.iinc 4 1, 3) := by decide +kernel
theorem dX9_offer_43 : decode cX9_offer 43 = .ok (.goto (-30), 3) := by decide +kernel
theorem dX9_offer_46 : decode cX9_offer 46 = .ok (.lload_n 2, 1) := by decide +kernel
theorem dX9_offer_47 : decode cX9_offer 47 = .ok (.lconst 0, 1) := by decide +kernel
theorem dX9_offer_48 : decode cX9_offer 48 = .ok (.lcmp, 1) := by decide +kernel
theorem dX9_offer_49 : decode cX9_offer 49 = .ok (.ifCond .le 10, 3) := by decide +kernel
theorem dX9_offer_52 : decode cX9_offer 52 = .ok (.aload_n 0, 1) := by decide +kernel
theorem dX9_offer_53 : decode cX9_offer 53 = .ok (.invokevirtual 88, 3) := by decide +kernel
theorem dX9_offer_56 : decode cX9_offer 56 = .ok (.ifCond .eq 4, 3) := by decide +kernel
theorem dX9_offer_59 : decode cX9_offer 59 = .ok (.return_, 1) := by decide +kernel
theorem dX9_offer_60 : decode cX9_offer 60 = .ok (.aload_n 0, 1) := by decide +kernel
theorem dX9_offer_61 : decode cX9_offer 61 = .ok (.getfield 69, 3) := by decide +kernel
theorem dX9_offer_64 : decode cX9_offer 64 = .ok (.bipush 40, 2) := by decide +kernel
theorem dX9_offer_66 : decode cX9_offer 66 = .ok (.if_icmp .ne 9, 3) := by decide +kernel
theorem dX9_offer_69 : decode cX9_offer 69 = .ok (.aload_n 0, 1) := by decide +kernel
theorem dX9_offer_70 : decode cX9_offer 70 = .ok (.iconst 0, 1) := by decide +kernel
theorem dX9_offer_71 : decode cX9_offer 71 = .ok (.putfield 41, 3) := by decide +kernel
theorem dX9_offer_74 : decode cX9_offer 74 = .ok (.return_, 1) := by decide +kernel
theorem dX9_offer_75 : decode cX9_offer 75 = .ok (.iconst 0, 1) := by decide +kernel
theorem dX9_offer_76 : decode cX9_offer 76 = .ok (.istore 4, 2) := by decide +kernel
theorem dX9_offer_78 : decode cX9_offer 78 = .ok (.iload 4, 2) := by decide +kernel
theorem dX9_offer_80 : decode cX9_offer 80 = .ok (.bipush 8, 2) := by decide +kernel
theorem dX9_offer_82 : decode cX9_offer 82 = .ok (.if_icmp .ge 31, 3) := by decide +kernel
theorem dX9_offer_85 : decode cX9_offer 85 = .ok (.aload_n 0, 1) := by decide +kernel
theorem dX9_offer_86 : decode cX9_offer 86 = .ok (.getfield 26, 3) := by decide +kernel
theorem dX9_offer_89 : decode cX9_offer 89 = .ok (.bipush 8, 2) := by decide +kernel
theorem dX9_offer_91 : decode cX9_offer 91 = .ok (.aload_n 0, 1) := by decide +kernel
theorem dX9_offer_92 : decode cX9_offer 92 = .ok (.getfield 69, 3) := by decide +kernel
theorem dX9_offer_95 : decode cX9_offer 95 = .ok (.imul, 1) := by decide +kernel
theorem dX9_offer_96 : decode cX9_offer 96 = .ok (.iload 4, 2) := by decide +kernel
theorem dX9_offer_98 : decode cX9_offer 98 = .ok (.iadd, 1) := by decide +kernel
theorem dX9_offer_99 : decode cX9_offer 99 = .ok (.aload_n 0, 1) := by decide +kernel
theorem dX9_offer_100 : decode cX9_offer 100 = .ok (.getfield 45, 3) := by decide +kernel
theorem dX9_offer_103 : decode cX9_offer 103 = .ok (.iload 4, 2) := by decide +kernel
theorem dX9_offer_105 : decode cX9_offer 105 = .ok (.laload, 1) := by decide +kernel
theorem dX9_offer_106 : decode cX9_offer 106 = .ok (.lastore, 1) := by decide +kernel
theorem dX9_offer_107 : decode cX9_offer 107 = .ok (.iinc 4 1, 3) := by decide +kernel
theorem dX9_offer_110 : decode cX9_offer 110 = .ok (.goto (-32), 3) := by decide +kernel
theorem dX9_offer_113 : decode cX9_offer 113 = .ok (.aload_n 0, 1) := by decide +kernel
theorem dX9_offer_114 : decode cX9_offer 114 = .ok (.getfield 29, 3) := by decide +kernel
theorem dX9_offer_117 : decode cX9_offer 117 = .ok (.aload_n 0, 1) := by decide +kernel
theorem dX9_offer_118 : decode cX9_offer 118 = .ok (.getfield 69, 3) := by decide +kernel
theorem dX9_offer_121 : decode cX9_offer 121 = .ok (.aload_n 0, 1) := by decide +kernel
theorem dX9_offer_122 : decode cX9_offer 122 = .ok (.getfield 84, 3) := by decide +kernel
theorem dX9_offer_125 : decode cX9_offer 125 = .ok (.lastore, 1) := by decide +kernel
theorem dX9_offer_126 : decode cX9_offer 126 = .ok (.aload_n 0, 1) := by decide +kernel
theorem dX9_offer_127 : decode cX9_offer 127 = .ok (.getfield 32, 3) := by decide +kernel
theorem dX9_offer_130 : decode cX9_offer 130 = .ok (.aload_n 0, 1) := by decide +kernel
theorem dX9_offer_131 : decode cX9_offer 131 = .ok (.getfield 69, 3) := by decide +kernel
theorem dX9_offer_134 : decode cX9_offer 134 = .ok (.iload_n 1, 1) := by decide +kernel
theorem dX9_offer_135 : decode cX9_offer 135 = .ok (.iastore, 1) := by decide +kernel
theorem dX9_offer_136 : decode cX9_offer 136 = .ok (.aload_n 0, 1) := by decide +kernel
theorem dX9_offer_137 : decode cX9_offer 137 = .ok (.getfield 35, 3) := by decide +kernel
theorem dX9_offer_140 : decode cX9_offer 140 = .ok (.aload_n 0, 1) := by decide +kernel
theorem dX9_offer_141 : decode cX9_offer 141 = .ok (.getfield 69, 3) := by decide +kernel
theorem dX9_offer_144 : decode cX9_offer 144 = .ok (.iconst 0, 1) := by decide +kernel
theorem dX9_offer_145 : decode cX9_offer 145 = .ok (.iastore, 1) := by decide +kernel
theorem dX9_offer_146 : decode cX9_offer 146 = .ok (.iconst 0, 1) := by decide +kernel
theorem dX9_offer_147 : decode cX9_offer 147 = .ok (.istore 4, 2) := by decide +kernel
theorem dX9_offer_149 : decode cX9_offer 149 = .ok (.iload 4, 2) := by decide +kernel
theorem dX9_offer_151 : decode cX9_offer 151 = .ok (.bipush 27, 2) := by decide +kernel
theorem dX9_offer_153 : decode cX9_offer 153 = .ok (.if_icmp .ge 31, 3) := by decide +kernel
theorem dX9_offer_156 : decode cX9_offer 156 = .ok (.aload_n 0, 1) := by decide +kernel
theorem dX9_offer_157 : decode cX9_offer 157 = .ok (.getfield 38, 3) := by decide +kernel
theorem dX9_offer_160 : decode cX9_offer 160 = .ok (.bipush 27, 2) := by decide +kernel
theorem dX9_offer_162 : decode cX9_offer 162 = .ok (.aload_n 0, 1) := by decide +kernel
theorem dX9_offer_163 : decode cX9_offer 163 = .ok (.getfield 69, 3) := by decide +kernel
theorem dX9_offer_166 : decode cX9_offer 166 = .ok (.imul, 1) := by decide +kernel
theorem dX9_offer_167 : decode cX9_offer 167 = .ok (.iload 4, 2) := by decide +kernel
theorem dX9_offer_169 : decode cX9_offer 169 = .ok (.iadd, 1) := by decide +kernel
theorem dX9_offer_170 : decode cX9_offer 170 = .ok (.aload_n 0, 1) := by decide +kernel
theorem dX9_offer_171 : decode cX9_offer 171 = .ok (.getfield 48, 3) := by decide +kernel
theorem dX9_offer_174 : decode cX9_offer 174 = .ok (.iload 4, 2) := by decide +kernel
theorem dX9_offer_176 : decode cX9_offer 176 = .ok (.iaload, 1) := by decide +kernel
theorem dX9_offer_177 : decode cX9_offer 177 = .ok (.iastore, 1) := by decide +kernel
theorem dX9_offer_178 : decode cX9_offer 178 = .ok (.iinc 4 1, 3) := by decide +kernel
theorem dX9_offer_181 : decode cX9_offer 181 = .ok (.goto (-32), 3) := by decide +kernel
theorem dX9_offer_184 : decode cX9_offer 184 = .ok (.aload_n 0, 1) := by decide +kernel
theorem dX9_offer_185 : decode cX9_offer 185 = .ok (.dup, 1) := by decide +kernel
theorem dX9_offer_186 : decode cX9_offer 186 = .ok (.getfield 69, 3) := by decide +kernel
theorem dX9_offer_189 : decode cX9_offer 189 = .ok (.iconst 1, 1) := by decide +kernel
theorem dX9_offer_190 : decode cX9_offer 190 = .ok (.iadd, 1) := by decide +kernel
theorem dX9_offer_191 : decode cX9_offer 191 = .ok (.putfield 69, 3) := by decide +kernel
theorem dX9_offer_194 : decode cX9_offer 194 = .ok (.aload_n 0, 1) := by decide +kernel
theorem dX9_offer_195 : decode cX9_offer 195 = .ok (.dup, 1) := by decide +kernel
theorem dX9_offer_196 : decode cX9_offer 196 = .ok (.getfield 92, 3) := by decide +kernel
theorem dX9_offer_199 : decode cX9_offer 199 = .ok (.iconst 1, 1) := by decide +kernel
theorem dX9_offer_200 : decode cX9_offer 200 = .ok (.iadd, 1) := by decide +kernel
theorem dX9_offer_201 : decode cX9_offer 201 = .ok (.putfield 92, 3) := by decide +kernel
theorem dX9_offer_204 : decode cX9_offer 204 = .ok (.return_, 1) := by decide +kernel
theorem dX9_takeRow_0 : decode cX9_takeRow 0 = .ok (.iconst 0, 1) := by decide +kernel
theorem dX9_takeRow_1 : decode cX9_takeRow 1 = .ok (.istore_n 2, 1) := by decide +kernel
theorem dX9_takeRow_2 : decode cX9_takeRow 2 = .ok (.iload_n 2, 1) := by decide +kernel
theorem dX9_takeRow_3 : decode cX9_takeRow 3 = .ok (.aload_n 0, 1) := by decide +kernel
theorem dX9_takeRow_4 : decode cX9_takeRow 4 = .ok (.getfield 66, 3) := by decide +kernel
theorem dX9_takeRow_7 : decode cX9_takeRow 7 = .ok (.if_icmp .ge 30, 3) := by decide +kernel
theorem dX9_takeRow_10 : decode cX9_takeRow 10 = .ok (.aload_n 0, 1) := by decide +kernel
theorem dX9_takeRow_11 : decode cX9_takeRow 11 = .ok (.getfield 45, 3) := by decide +kernel
theorem dX9_takeRow_14 : decode cX9_takeRow 14 = .ok (.iload_n 2, 1) := by decide +kernel
theorem dX9_takeRow_15 : decode cX9_takeRow 15 = .ok (.dup2, 1) := by decide +kernel
theorem dX9_takeRow_16 : decode cX9_takeRow 16 = .ok (.laload, 1) := by decide +kernel
theorem dX9_takeRow_17 : decode cX9_takeRow 17 = .ok (.aload_n 0, 1) := by decide +kernel
theorem dX9_takeRow_18 : decode cX9_takeRow 18 = .ok (.getfield 23, 3) := by decide +kernel
theorem dX9_takeRow_21 : decode cX9_takeRow 21 = .ok (.bipush 8, 2) := by decide +kernel
theorem dX9_takeRow_23 : decode cX9_takeRow 23 = .ok (.iload_n 1, 1) := by decide +kernel
theorem dX9_takeRow_24 : decode cX9_takeRow 24 = .ok (.imul, 1) := by decide +kernel
theorem dX9_takeRow_25 : decode cX9_takeRow 25 = .ok (.iload_n 2, 1) := by decide +kernel
theorem dX9_takeRow_26 : decode cX9_takeRow 26 = .ok (.iadd, 1) := by decide +kernel
theorem dX9_takeRow_27 : decode cX9_takeRow 27 = .ok (.iaload, 1) := by decide +kernel
theorem dX9_takeRow_28 : decode cX9_takeRow 28 = .ok (.i2l, 1) := by decide +kernel
theorem dX9_takeRow_29 : decode cX9_takeRow 29 = .ok (.ladd, 1) := by decide +kernel
theorem dX9_takeRow_30 : decode cX9_takeRow 30 = .ok (.lastore, 1) := by decide +kernel
theorem dX9_takeRow_31 : decode cX9_takeRow 31 = .ok (.iinc 2 1, 3) := by decide +kernel
theorem dX9_takeRow_34 : decode cX9_takeRow 34 = .ok (.goto (-32), 3) := by decide +kernel
theorem dX9_takeRow_37 : decode cX9_takeRow 37 = .ok (.aload_n 0, 1) := by decide +kernel
theorem dX9_takeRow_38 : decode cX9_takeRow 38 = .ok (.dup, 1) := by decide +kernel
theorem dX9_takeRow_39 : decode cX9_takeRow 39 = .ok (.getfield 84, 3) := by decide +kernel
theorem dX9_takeRow_42 : decode cX9_takeRow 42 = .ok (.aload_n 0, 1) := by decide +kernel
theorem dX9_takeRow_43 : decode cX9_takeRow 43 = .ok (.getfield 20, 3) := by decide +kernel
theorem dX9_takeRow_46 : decode cX9_takeRow 46 = .ok (.iload_n 1, 1) := by decide +kernel
theorem dX9_takeRow_47 : decode cX9_takeRow 47 = .ok (.iaload, 1) := by decide +kernel
theorem dX9_takeRow_48 : decode cX9_takeRow 48 = .ok (.i2l, 1) := by decide +kernel
theorem dX9_takeRow_49 : decode cX9_takeRow 49 = .ok (.ladd, 1) := by decide +kernel
theorem dX9_takeRow_50 : decode cX9_takeRow 50 = .ok (.putfield 84, 3) := by decide +kernel
theorem dX9_takeRow_53 : decode cX9_takeRow 53 = .ok (.aload_n 0, 1) := by decide +kernel
theorem dX9_takeRow_54 : decode cX9_takeRow 54 = .ok (.getfield 48, 3) := by decide +kernel
theorem dX9_takeRow_57 : decode cX9_takeRow 57 = .ok (.iload_n 1, 1) := by decide +kernel
theorem dX9_takeRow_58 : decode cX9_takeRow 58 = .ok (.dup2, 1) := by decide +kernel
theorem dX9_takeRow_59 : decode cX9_takeRow 59 = .ok (.iaload, 1) := by decide +kernel
theorem dX9_takeRow_60 : decode cX9_takeRow 60 = .ok (.iconst 1, 1) := by decide +kernel
theorem dX9_takeRow_61 : decode cX9_takeRow 61 = .ok (.iadd, 1) := by decide +kernel
theorem dX9_takeRow_62 : decode cX9_takeRow 62 = .ok (.iastore, 1) := by decide +kernel
theorem dX9_takeRow_63 : decode cX9_takeRow 63 = .ok (.return_, 1) := by decide +kernel
theorem dX9_takeLow_0 : decode cX9_takeLow 0 = .ok (.aload_n 0, 1) := by decide +kernel
theorem dX9_takeLow_1 : decode cX9_takeLow 1 = .ok (.getfield 45, 3) := by decide +kernel
theorem dX9_takeLow_4 : decode cX9_takeLow 4 = .ok (.iload_n 1, 1) := by decide +kernel
theorem dX9_takeLow_5 : decode cX9_takeLow 5 = .ok (.dup2, 1) := by decide +kernel
theorem dX9_takeLow_6 : decode cX9_takeLow 6 = .ok (.laload, 1) := by decide +kernel
theorem dX9_takeLow_7 : decode cX9_takeLow 7 = .ok (.iload_n 2, 1) := by decide +kernel
theorem dX9_takeLow_8 : decode cX9_takeLow 8 = .ok (.i2l, 1) := by decide +kernel
theorem dX9_takeLow_9 : decode cX9_takeLow 9 = .ok (.lsub, 1) := by decide +kernel
theorem dX9_takeLow_10 : decode cX9_takeLow 10 = .ok (.lastore, 1) := by decide +kernel
theorem dX9_takeLow_11 : decode cX9_takeLow 11 = .ok (.aload_n 0, 1) := by decide +kernel
theorem dX9_takeLow_12 : decode cX9_takeLow 12 = .ok (.dup, 1) := by decide +kernel
theorem dX9_takeLow_13 : decode cX9_takeLow 13 = .ok (.getfield 84, 3) := by decide +kernel
theorem dX9_takeLow_16 : decode cX9_takeLow 16 = .ok (.iload_n 2, 1) := by decide +kernel
theorem dX9_takeLow_17 : decode cX9_takeLow 17 = .ok (.aload_n 0, 1) := by decide +kernel
theorem dX9_takeLow_18 : decode cX9_takeLow 18 = .ok (.getfield 7, 3) := by decide +kernel
theorem dX9_takeLow_21 : decode cX9_takeLow 21 = .ok (.iload_n 1, 1) := by decide +kernel
theorem dX9_takeLow_22 : decode cX9_takeLow 22 = .ok (.iaload, 1) := by decide +kernel
theorem dX9_takeLow_23 : decode cX9_takeLow 23 = .ok (.imul, 1) := by decide +kernel
theorem dX9_takeLow_24 : decode cX9_takeLow 24 = .ok (.i2l, 1) := by decide +kernel
theorem dX9_takeLow_25 : decode cX9_takeLow 25 = .ok (.lsub, 1) := by decide +kernel
theorem dX9_takeLow_26 : decode cX9_takeLow 26 = .ok (.putfield 84, 3) := by decide +kernel
theorem dX9_takeLow_29 : decode cX9_takeLow 29 = .ok (.aload_n 0, 1) := by decide +kernel
theorem dX9_takeLow_30 : decode cX9_takeLow 30 = .ok (.getfield 48, 3) := by decide +kernel
theorem dX9_takeLow_33 : decode cX9_takeLow 33 = .ok (.bipush 10, 2) := by decide +kernel
theorem dX9_takeLow_35 : decode cX9_takeLow 35 = .ok (.iload_n 1, 1) := by decide +kernel
theorem dX9_takeLow_36 : decode cX9_takeLow 36 = .ok (.iadd, 1) := by decide +kernel
theorem dX9_takeLow_37 : decode cX9_takeLow 37 = .ok (.dup2, 1) := by decide +kernel
theorem dX9_takeLow_38 : decode cX9_takeLow 38 = .ok (.iaload, 1) := by decide +kernel
theorem dX9_takeLow_39 : decode cX9_takeLow 39 = .ok (.iload_n 2, 1) := by decide +kernel
theorem dX9_takeLow_40 : decode cX9_takeLow 40 = .ok (.iadd, 1) := by decide +kernel
theorem dX9_takeLow_41 : decode cX9_takeLow 41 = .ok (.iastore, 1) := by decide +kernel
theorem dX9_takeLow_42 : decode cX9_takeLow 42 = .ok (.return_, 1) := by decide +kernel
theorem dX9_takeHigh_0 : decode cX9_takeHigh 0 = .ok (.aload_n 0, 1) := by decide +kernel
theorem dX9_takeHigh_1 : decode cX9_takeHigh 1 = .ok (.getfield 45, 3) := by decide +kernel
theorem dX9_takeHigh_4 : decode cX9_takeHigh 4 = .ok (.iload_n 1, 1) := by decide +kernel
theorem dX9_takeHigh_5 : decode cX9_takeHigh 5 = .ok (.dup2, 1) := by decide +kernel
theorem dX9_takeHigh_6 : decode cX9_takeHigh 6 = .ok (.laload, 1) := by decide +kernel
theorem dX9_takeHigh_7 : decode cX9_takeHigh 7 = .ok (.iload_n 2, 1) := by decide +kernel
theorem dX9_takeHigh_8 : decode cX9_takeHigh 8 = .ok (.i2l, 1) := by decide +kernel
theorem dX9_takeHigh_9 : decode cX9_takeHigh 9 = .ok (.ladd, 1) := by decide +kernel
theorem dX9_takeHigh_10 : decode cX9_takeHigh 10 = .ok (.lastore, 1) := by decide +kernel
theorem dX9_takeHigh_11 : decode cX9_takeHigh 11 = .ok (.aload_n 0, 1) := by decide +kernel
theorem dX9_takeHigh_12 : decode cX9_takeHigh 12 = .ok (.dup, 1) := by decide +kernel
theorem dX9_takeHigh_13 : decode cX9_takeHigh 13 = .ok (.getfield 84, 3) := by decide +kernel
theorem dX9_takeHigh_16 : decode cX9_takeHigh 16 = .ok (.iload_n 2, 1) := by decide +kernel
theorem dX9_takeHigh_17 : decode cX9_takeHigh 17 = .ok (.aload_n 0, 1) := by decide +kernel
theorem dX9_takeHigh_18 : decode cX9_takeHigh 18 = .ok (.getfield 13, 3) := by decide +kernel
theorem dX9_takeHigh_21 : decode cX9_takeHigh 21 = .ok (.iload_n 1, 1) := by decide +kernel
theorem dX9_takeHigh_22 : decode cX9_takeHigh 22 = .ok (.iaload, 1) := by decide +kernel
theorem dX9_takeHigh_23 : decode cX9_takeHigh 23 = .ok (.imul, 1) := by decide +kernel
theorem dX9_takeHigh_24 : decode cX9_takeHigh 24 = .ok (.i2l, 1) := by decide +kernel
theorem dX9_takeHigh_25 : decode cX9_takeHigh 25 = .ok (.ladd, 1) := by decide +kernel
theorem dX9_takeHigh_26 : decode cX9_takeHigh 26 = .ok (.putfield 84, 3) := by decide +kernel
theorem dX9_takeHigh_29 : decode cX9_takeHigh 29 = .ok (.aload_n 0, 1) := by decide +kernel
theorem dX9_takeHigh_30 : decode cX9_takeHigh 30 = .ok (.getfield 48, 3) := by decide +kernel
theorem dX9_takeHigh_33 : decode cX9_takeHigh 33 = .ok (.bipush 18, 2) := by decide +kernel
theorem dX9_takeHigh_35 : decode cX9_takeHigh 35 = .ok (.iload_n 1, 1) := by decide +kernel
theorem dX9_takeHigh_36 : decode cX9_takeHigh 36 = .ok (.iadd, 1) := by decide +kernel
theorem dX9_takeHigh_37 : decode cX9_takeHigh 37 = .ok (.dup2, 1) := by decide +kernel
theorem dX9_takeHigh_38 : decode cX9_takeHigh 38 = .ok (.iaload, 1) := by decide +kernel
theorem dX9_takeHigh_39 : decode cX9_takeHigh 39 = .ok (.iload_n 2, 1) := by decide +kernel
theorem dX9_takeHigh_40 : decode cX9_takeHigh 40 = .ok (.iadd, 1) := by decide +kernel
theorem dX9_takeHigh_41 : decode cX9_takeHigh 41 = .ok (.iastore, 1) := by decide +kernel
theorem dX9_takeHigh_42 : decode cX9_takeHigh 42 = .ok (.return_, 1) := by decide +kernel
theorem dX9_divide_0 : decode cX9_divide 0 = .ok (.iconst 0, 1) := by decide +kernel
theorem dX9_divide_1 : decode cX9_divide 1 = .ok (.istore_n 2, 1) := by decide +kernel
theorem dX9_divide_2 : decode cX9_divide 2 = .ok (.iload_n 2, 1) := by decide +kernel
theorem dX9_divide_3 : decode cX9_divide 3 = .ok (.aload_n 0, 1) := by decide +kernel
theorem dX9_divide_4 : decode cX9_divide 4 = .ok (.getfield 66, 3) := by decide +kernel
theorem dX9_divide_7 : decode cX9_divide 7 = .ok (.if_icmp .ge 26, 3) := by decide +kernel
theorem dX9_divide_10 : decode cX9_divide 10 = .ok (.aload_n 0, 1) := by decide +kernel
theorem dX9_divide_11 : decode cX9_divide 11 = .ok (.getfield 45, 3) := by decide +kernel
theorem dX9_divide_14 : decode cX9_divide 14 = .ok (.iload_n 2, 1) := by decide +kernel
theorem dX9_divide_15 : decode cX9_divide 15 = .ok (.aload_n 0, 1) := by decide +kernel
theorem dX9_divide_16 : decode cX9_divide 16 = .ok (.getfield 45, 3) := by decide +kernel
theorem dX9_divide_19 : decode cX9_divide 19 = .ok (.iload_n 2, 1) := by decide +kernel
theorem dX9_divide_20 : decode cX9_divide 20 = .ok (.laload, 1) := by decide +kernel
theorem dX9_divide_21 : decode cX9_divide 21 = .ok (.iload_n 1, 1) := by decide +kernel
theorem dX9_divide_22 : decode cX9_divide 22 = .ok (.i2l, 1) := by decide +kernel
theorem dX9_divide_23 : decode cX9_divide 23 = .ok (.invokestatic 95, 3) := by decide +kernel
theorem dX9_divide_26 : decode cX9_divide 26 = .ok (.lastore, 1) := by decide +kernel
theorem dX9_divide_27 : decode cX9_divide 27 = .ok (.iinc 2 1, 3) := by decide +kernel
theorem dX9_divide_30 : decode cX9_divide 30 = .ok (.goto (-28), 3) := by decide +kernel
theorem dX9_divide_33 : decode cX9_divide 33 = .ok (.aload_n 0, 1) := by decide +kernel
theorem dX9_divide_34 : decode cX9_divide 34 = .ok (.aload_n 0, 1) := by decide +kernel
theorem dX9_divide_35 : decode cX9_divide 35 = .ok (.getfield 84, 3) := by decide +kernel
theorem dX9_divide_38 : decode cX9_divide 38 = .ok (.iload_n 1, 1) := by decide +kernel
theorem dX9_divide_39 : decode cX9_divide 39 = .ok (.i2l, 1) := by decide +kernel
theorem dX9_divide_40 : decode cX9_divide 40 = .ok (.invokestatic 95, 3) := by decide +kernel
theorem dX9_divide_43 : decode cX9_divide 43 = .ok (.putfield 84, 3) := by decide +kernel
theorem dX9_divide_46 : decode cX9_divide 46 = .ok (.aload_n 0, 1) := by decide +kernel
theorem dX9_divide_47 : decode cX9_divide 47 = .ok (.getfield 48, 3) := by decide +kernel
theorem dX9_divide_50 : decode cX9_divide 50 = .ok (.bipush 26, 2) := by decide +kernel
theorem dX9_divide_52 : decode cX9_divide 52 = .ok (.iload_n 1, 1) := by decide +kernel
theorem dX9_divide_53 : decode cX9_divide 53 = .ok (.iastore, 1) := by decide +kernel
theorem dX9_divide_54 : decode cX9_divide 54 = .ok (.return_, 1) := by decide +kernel
theorem dX9_halves_0 : decode cX9_halves 0 = .ok (.iconst 1, 1) := by decide +kernel
theorem dX9_halves_1 : decode cX9_halves 1 = .ok (.istore_n 1, 1) := by decide +kernel
theorem dX9_halves_2 : decode cX9_halves 2 = .ok (.iload_n 1, 1) := by decide +kernel
theorem dX9_halves_3 : decode cX9_halves 3 = .ok (.iconst 1, 1) := by decide +kernel
theorem dX9_halves_4 : decode cX9_halves 4 = .ok (.aload_n 0, 1) := by decide +kernel
theorem dX9_halves_5 : decode cX9_halves 5 = .ok (.getfield 72, 3) := by decide +kernel
theorem dX9_halves_8 : decode cX9_halves 8 = .ok (.ishl, 1) := by decide +kernel
theorem dX9_halves_9 : decode cX9_halves 9 = .ok (.if_icmp .ge 137, 3) := by decide +kernel
theorem dX9_halves_12 : decode cX9_halves 12 = .ok (.aload_n 0, 1) := by decide +kernel
theorem dX9_halves_13 : decode cX9_halves 13 = .ok (.invokevirtual 101, 3) := by decide +kernel
theorem dX9_halves_16 : decode cX9_halves 16 = .ok (.iconst 0, 1) := by decide +kernel
theorem dX9_halves_17 : decode cX9_halves 17 = .ok (.istore_n 2, 1) := by decide +kernel
theorem dX9_halves_18 : decode cX9_halves 18 = .ok (.iload_n 2, 1) := by decide +kernel
theorem dX9_halves_19 : decode cX9_halves 19 = .ok (.aload_n 0, 1) := by decide +kernel
theorem dX9_halves_20 : decode cX9_halves 20 = .ok (.getfield 72, 3) := by decide +kernel
theorem dX9_halves_23 : decode cX9_halves 23 = .ok (.if_icmp .ge 23, 3) := by decide +kernel
theorem dX9_halves_26 : decode cX9_halves 26 = .ok (.iload_n 1, 1) := by decide +kernel
theorem dX9_halves_27 : decode cX9_halves 27 = .ok (.iload_n 2, 1) := by decide +kernel
theorem dX9_halves_28 : decode cX9_halves 28 = .ok (.ishr, 1) := by decide +kernel
theorem dX9_halves_29 : decode cX9_halves 29 = .ok (.iconst 1, 1) := by decide +kernel
theorem dX9_halves_30 : decode cX9_halves 30 = .ok (.iand, 1) := by decide +kernel
theorem dX9_halves_31 : decode cX9_halves 31 = .ok (.iconst 1, 1) := by decide +kernel
theorem dX9_halves_32 : decode cX9_halves 32 = .ok (.if_icmp .ne 8, 3) := by decide +kernel
theorem dX9_halves_35 : decode cX9_halves 35 = .ok (.aload_n 0, 1) := by decide +kernel
theorem dX9_halves_36 : decode cX9_halves 36 = .ok (.iload_n 2, 1) := by decide +kernel
theorem dX9_halves_37 : decode cX9_halves 37 = .ok (.invokevirtual 104, 3) := by decide +kernel
theorem dX9_halves_40 : decode cX9_halves 40 = .ok (.iinc 2 1, 3) := by decide +kernel
theorem dX9_halves_43 : decode cX9_halves 43 = .ok (.goto (-25), 3) := by decide +kernel
theorem dX9_halves_46 : decode cX9_halves 46 = .ok (.iconst 0, 1) := by decide +kernel
theorem dX9_halves_47 : decode cX9_halves 47 = .ok (.istore_n 2, 1) := by decide +kernel
theorem dX9_halves_48 : decode cX9_halves 48 = .ok (.iload_n 2, 1) := by decide +kernel
theorem dX9_halves_49 : decode cX9_halves 49 = .ok (.aload_n 0, 1) := by decide +kernel
theorem dX9_halves_50 : decode cX9_halves 50 = .ok (.getfield 66, 3) := by decide +kernel
theorem dX9_halves_53 : decode cX9_halves 53 = .ok (.if_icmp .ge 77, 3) := by decide +kernel
theorem dX9_halves_56 : decode cX9_halves 56 = .ok (.aload_n 0, 1) := by decide +kernel
theorem dX9_halves_57 : decode cX9_halves 57 = .ok (.getfield 45, 3) := by decide +kernel
theorem dX9_halves_60 : decode cX9_halves 60 = .ok (.iload_n 2, 1) := by decide +kernel
theorem dX9_halves_61 : decode cX9_halves 61 = .ok (.laload, 1) := by decide +kernel
theorem dX9_halves_62 : decode cX9_halves 62 = .ok (.lconst 1, 1) := by decide +kernel
theorem dX9_halves_63 : decode cX9_halves 63 = .ok (.land, 1) := by decide +kernel
theorem dX9_halves_64 : decode cX9_halves 64 = .ok (.lconst 1, 1) := by decide +kernel
theorem dX9_halves_65 : decode cX9_halves 65 = .ok (.lcmp, 1) := by decide +kernel
theorem dX9_halves_66 : decode cX9_halves 66 = .ok (.ifCond .ne 58, 3) := by decide +kernel
theorem dX9_halves_69 : decode cX9_halves 69 = .ok (.aload_n 0, 1) := by decide +kernel
theorem dX9_halves_70 : decode cX9_halves 70 = .ok (.getfield 13, 3) := by decide +kernel
theorem dX9_halves_73 : decode cX9_halves 73 = .ok (.iload_n 2, 1) := by decide +kernel
theorem dX9_halves_74 : decode cX9_halves 74 = .ok (.iaload, 1) := by decide +kernel
theorem dX9_halves_75 : decode cX9_halves 75 = .ok (.i2l, 1) := by decide +kernel
theorem dX9_halves_76 : decode cX9_halves 76 = .ok (.ldc2_w 82, 3) := by decide +kernel
theorem dX9_halves_79 : decode cX9_halves 79 = .ok (.lmul, 1) := by decide +kernel
theorem dX9_halves_80 : decode cX9_halves 80 = .ok (.aload_n 0, 1) := by decide +kernel
theorem dX9_halves_81 : decode cX9_halves 81 = .ok (.getfield 16, 3) := by decide +kernel
theorem dX9_halves_84 : decode cX9_halves 84 = .ok (.iload_n 2, 1) := by decide +kernel
theorem dX9_halves_85 : decode cX9_halves 85 = .ok (.laload, 1) := by decide +kernel
theorem dX9_halves_86 : decode cX9_halves 86 = .ok (.lsub, 1) := by decide +kernel
theorem dX9_halves_87 : decode cX9_halves 87 = .ok (.aload_n 0, 1) := by decide +kernel
theorem dX9_halves_88 : decode cX9_halves 88 = .ok (.getfield 16, 3) := by decide +kernel
theorem dX9_halves_91 : decode cX9_halves 91 = .ok (.iload_n 2, 1) := by decide +kernel
theorem dX9_halves_92 : decode cX9_halves 92 = .ok (.laload, 1) := by decide +kernel
theorem dX9_halves_93 : decode cX9_halves 93 = .ok (.aload_n 0, 1) := by decide +kernel
theorem dX9_halves_94 : decode cX9_halves 94 = .ok (.getfield 7, 3) := by decide +kernel
theorem dX9_halves_97 : decode cX9_halves 97 = .ok (.iload_n 2, 1) := by decide +kernel
theorem dX9_halves_98 : decode cX9_halves 98 = .ok (.iaload, 1) := by decide +kernel
theorem dX9_halves_99 : decode cX9_halves 99 = .ok (.i2l, 1) := by decide +kernel
theorem dX9_halves_100 : decode cX9_halves 100 = .ok (.ldc2_w 82, 3) := by decide +kernel
theorem dX9_halves_103 : decode cX9_halves 103 = .ok (.lmul, 1) := by decide +kernel
theorem dX9_halves_104 : decode cX9_halves 104 = .ok (.lsub, 1) := by decide +kernel
theorem dX9_halves_105 : decode cX9_halves 105 = .ok (.lcmp, 1) := by decide +kernel
theorem dX9_halves_106 : decode cX9_halves 106 = .ok (.ifCond .gt 12, 3) := by decide +kernel
theorem dX9_halves_109 : decode cX9_halves 109 = .ok (.aload_n 0, 1) := by decide +kernel
theorem dX9_halves_110 : decode cX9_halves 110 = .ok (.iload_n 2, 1) := by decide +kernel
theorem dX9_halves_111 : decode cX9_halves 111 = .ok (.iconst 1, 1) := by decide +kernel
theorem dX9_halves_112 : decode cX9_halves 112 = .ok (.invokevirtual 108, 3) := by decide +kernel
theorem dX9_halves_115 : decode cX9_halves 115 = .ok (.goto 9, 3) := by decide +kernel
theorem dX9_halves_118 : decode cX9_halves 118 = .ok (.aload_n 0, 1) := by decide +kernel
theorem dX9_halves_119 : decode cX9_halves 119 = .ok (.iload_n 2, 1) := by decide +kernel
theorem dX9_halves_120 : decode cX9_halves 120 = .ok (.iconst 1, 1) := by decide +kernel
theorem dX9_halves_121 : decode cX9_halves 121 = .ok (.invokevirtual 112, 3) := by decide +kernel
theorem dX9_halves_124 : decode cX9_halves 124 = .ok (.iinc 2 1, 3) := by decide +kernel
theorem dX9_halves_127 : decode cX9_halves 127 = .ok (.goto (-79), 3) := by decide +kernel
theorem dX9_halves_130 : decode cX9_halves 130 = .ok (.aload_n 0, 1) := by decide +kernel
theorem dX9_halves_131 : decode cX9_halves 131 = .ok (.iconst 2, 1) := by decide +kernel
theorem dX9_halves_132 : decode cX9_halves 132 = .ok (.invokevirtual 115, 3) := by decide +kernel
theorem dX9_halves_135 : decode cX9_halves 135 = .ok (.aload_n 0, 1) := by decide +kernel
theorem dX9_halves_136 : decode cX9_halves 136 = .ok (.iconst 0, 1) := by decide +kernel
theorem dX9_halves_137 : decode cX9_halves 137 = .ok (.invokevirtual 118, 3) := by decide +kernel
theorem dX9_halves_140 : decode cX9_halves 140 = .ok (.iinc 1 1, 3) := by decide +kernel
theorem dX9_halves_143 : decode cX9_halves 143 = .ok (.goto (-141), 3) := by decide +kernel
theorem dX9_halves_146 : decode cX9_halves 146 = .ok (.return_, 1) := by decide +kernel
theorem dX9_rounded_0 : decode cX9_rounded 0 = .ok (.iconst 0, 1) := by decide +kernel
theorem dX9_rounded_1 : decode cX9_rounded 1 = .ok (.istore_n 1, 1) := by decide +kernel
theorem dX9_rounded_2 : decode cX9_rounded 2 = .ok (.iload_n 1, 1) := by decide +kernel
theorem dX9_rounded_3 : decode cX9_rounded 3 = .ok (.aload_n 0, 1) := by decide +kernel
theorem dX9_rounded_4 : decode cX9_rounded 4 = .ok (.getfield 72, 3) := by decide +kernel
theorem dX9_rounded_7 : decode cX9_rounded 7 = .ok (.if_icmp .ge 151, 3) := by decide +kernel
theorem dX9_rounded_10 : decode cX9_rounded 10 = .ok (.iconst 2, 1) := by decide +kernel
theorem dX9_rounded_11 : decode cX9_rounded 11 = .ok (.istore_n 2, 1) := by decide +kernel
theorem dX9_rounded_12 : decode cX9_rounded 12 = .ok (.iload_n 2, 1) := by decide +kernel
theorem dX9_rounded_13 : decode cX9_rounded 13 = .ok (.bipush 9, 2) := by decide +kernel
theorem dX9_rounded_15 : decode cX9_rounded 15 = .ok (.if_icmp .gt 137, 3) := by decide +kernel
theorem dX9_rounded_18 : decode cX9_rounded 18 = .ok (.aload_n 0, 1) := by decide +kernel
theorem dX9_rounded_19 : decode cX9_rounded 19 = .ok (.invokevirtual 101, 3) := by decide +kernel
theorem dX9_rounded_22 : decode cX9_rounded 22 = .ok (.aload_n 0, 1) := by decide +kernel
theorem dX9_rounded_23 : decode cX9_rounded 23 = .ok (.iload_n 1, 1) := by decide +kernel
theorem dX9_rounded_24 : decode cX9_rounded 24 = .ok (.invokevirtual 104, 3) := by decide +kernel
theorem dX9_rounded_27 : decode cX9_rounded 27 = .ok (.iconst 0, 1) := by decide +kernel
theorem dX9_rounded_28 : decode cX9_rounded 28 = .ok (.istore_n 3, 1) := by decide +kernel
theorem dX9_rounded_29 : decode cX9_rounded 29 = .ok (.iload_n 3, 1) := by decide +kernel
theorem dX9_rounded_30 : decode cX9_rounded 30 = .ok (.aload_n 0, 1) := by decide +kernel
theorem dX9_rounded_31 : decode cX9_rounded 31 = .ok (.getfield 66, 3) := by decide +kernel
theorem dX9_rounded_34 : decode cX9_rounded 34 = .ok (.if_icmp .ge 102, 3) := by decide +kernel
theorem dX9_rounded_37 : decode cX9_rounded 37 = .ok (.aload_n 0, 1) := by decide +kernel
theorem dX9_rounded_38 : decode cX9_rounded 38 = .ok (.getfield 45, 3) := by decide +kernel
theorem dX9_rounded_41 : decode cX9_rounded 41 = .ok (.iload_n 3, 1) := by decide +kernel
theorem dX9_rounded_42 : decode cX9_rounded 42 = .ok (.laload, 1) := by decide +kernel
theorem dX9_rounded_43 : decode cX9_rounded 43 = .ok (.iload_n 2, 1) := by decide +kernel
theorem dX9_rounded_44 : decode cX9_rounded 44 = .ok (.i2l, 1) := by decide +kernel
theorem dX9_rounded_45 : decode cX9_rounded 45 = .ok (.invokestatic 121, 3) := by decide +kernel
theorem dX9_rounded_48 : decode cX9_rounded 48 = .ok (.l2i, 1) := by decide +kernel
theorem dX9_rounded_49 : decode cX9_rounded 49 = .ok (.istore 4, 2) := by decide +kernel
theorem dX9_rounded_51 : decode cX9_rounded 51 = .ok (.iload 4, 2) := by decide +kernel
theorem dX9_rounded_53 : decode cX9_rounded 53 = .ok (.ifCond .le 63, 3) := by decide +kernel
theorem dX9_rounded_56 : decode cX9_rounded 56 = .ok (.iload 4, 2) := by decide +kernel
theorem dX9_rounded_58 : decode cX9_rounded 58 = .ok (.i2l, 1) := by decide +kernel
theorem dX9_rounded_59 : decode cX9_rounded 59 = .ok (.aload_n 0, 1) := by decide +kernel
theorem dX9_rounded_60 : decode cX9_rounded 60 = .ok (.getfield 16, 3) := by decide +kernel
theorem dX9_rounded_63 : decode cX9_rounded 63 = .ok (.iload_n 3, 1) := by decide +kernel
theorem dX9_rounded_64 : decode cX9_rounded 64 = .ok (.laload, 1) := by decide +kernel
theorem dX9_rounded_65 : decode cX9_rounded 65 = .ok (.aload_n 0, 1) := by decide +kernel
theorem dX9_rounded_66 : decode cX9_rounded 66 = .ok (.getfield 7, 3) := by decide +kernel
theorem dX9_rounded_69 : decode cX9_rounded 69 = .ok (.iload_n 3, 1) := by decide +kernel
theorem dX9_rounded_70 : decode cX9_rounded 70 = .ok (.iaload, 1) := by decide +kernel
theorem dX9_rounded_71 : decode cX9_rounded 71 = .ok (.i2l, 1) := by decide +kernel
theorem dX9_rounded_72 : decode cX9_rounded 72 = .ok (.ldc2_w 82, 3) := by decide +kernel
theorem dX9_rounded_75 : decode cX9_rounded 75 = .ok (.lmul, 1) := by decide +kernel
theorem dX9_rounded_76 : decode cX9_rounded 76 = .ok (.lsub, 1) := by decide +kernel
theorem dX9_rounded_77 : decode cX9_rounded 77 = .ok (.lmul, 1) := by decide +kernel
theorem dX9_rounded_78 : decode cX9_rounded 78 = .ok (.iload_n 2, 1) := by decide +kernel
theorem dX9_rounded_79 : decode cX9_rounded 79 = .ok (.iload 4, 2) := by decide +kernel
theorem dX9_rounded_81 : decode cX9_rounded 81 = .ok (.isub, 1) := by decide +kernel
theorem dX9_rounded_82 : decode cX9_rounded 82 = .ok (.i2l, 1) := by decide +kernel
theorem dX9_rounded_83 : decode cX9_rounded 83 = .ok (.aload_n 0, 1) := by decide +kernel
theorem dX9_rounded_84 : decode cX9_rounded 84 = .ok (.getfield 13, 3) := by decide +kernel
theorem dX9_rounded_87 : decode cX9_rounded 87 = .ok (.iload_n 3, 1) := by decide +kernel
theorem dX9_rounded_88 : decode cX9_rounded 88 = .ok (.iaload, 1) := by decide +kernel
theorem dX9_rounded_89 : decode cX9_rounded 89 = .ok (.i2l, 1) := by decide +kernel
theorem dX9_rounded_90 : decode cX9_rounded 90 = .ok (.ldc2_w 82, 3) := by decide +kernel
theorem dX9_rounded_93 : decode cX9_rounded 93 = .ok (.lmul, 1) := by decide +kernel
theorem dX9_rounded_94 : decode cX9_rounded 94 = .ok (.aload_n 0, 1) := by decide +kernel
theorem dX9_rounded_95 : decode cX9_rounded 95 = .ok (.getfield 16, 3) := by decide +kernel
theorem dX9_rounded_98 : decode cX9_rounded 98 = .ok (.iload_n 3, 1) := by decide +kernel
theorem dX9_rounded_99 : decode cX9_rounded 99 = .ok (.laload, 1) := by decide +kernel
theorem dX9_rounded_100 : decode cX9_rounded 100 = .ok (.lsub, 1) := by decide +kernel
theorem dX9_rounded_101 : decode cX9_rounded 101 = .ok (.lmul, 1) := by decide +kernel
theorem dX9_rounded_102 : decode cX9_rounded 102 = .ok (.lcmp, 1) := by decide +kernel
theorem dX9_rounded_103 : decode cX9_rounded 103 = .ok (.ifCond .gt 13, 3) := by decide +kernel
theorem dX9_rounded_106 : decode cX9_rounded 106 = .ok (.aload_n 0, 1) := by decide +kernel
theorem dX9_rounded_107 : decode cX9_rounded 107 = .ok (.iload_n 3, 1) := by decide +kernel
theorem dX9_rounded_108 : decode cX9_rounded 108 = .ok (.iload 4, 2) := by decide +kernel
theorem dX9_rounded_110 : decode cX9_rounded 110 = .ok (.invokevirtual 112, 3) := by decide +kernel
theorem dX9_rounded_113 : decode cX9_rounded 113 = .ok (.goto 17, 3) := by decide +kernel
theorem dX9_rounded_116 : decode cX9_rounded 116 = .ok (.iload 4, 2) := by decide +kernel
theorem dX9_rounded_118 : decode cX9_rounded 118 = .ok (.ifCond .le 12, 3) := by decide +kernel
theorem dX9_rounded_121 : decode cX9_rounded 121 = .ok (.aload_n 0, 1) := by decide +kernel
theorem dX9_rounded_122 : decode cX9_rounded 122 = .ok (.iload_n 3, 1) := by decide +kernel
theorem dX9_rounded_123 : decode cX9_rounded 123 = .ok (.iload_n 2, 1) := by decide +kernel
theorem dX9_rounded_124 : decode cX9_rounded 124 = .ok (.iload 4, 2) := by decide +kernel
theorem dX9_rounded_126 : decode cX9_rounded 126 = .ok (.isub, 1) := by decide +kernel
theorem dX9_rounded_127 : decode cX9_rounded 127 = .ok (.invokevirtual 108, 3) := by decide +kernel
theorem dX9_rounded_130 : decode cX9_rounded 130 = .ok (.iinc 3 1, 3) := by decide +kernel
theorem dX9_rounded_133 : decode cX9_rounded 133 = .ok (.goto (-104), 3) := by decide +kernel
theorem dX9_rounded_136 : decode cX9_rounded 136 = .ok (.aload_n 0, 1) := by decide +kernel
theorem dX9_rounded_137 : decode cX9_rounded 137 = .ok (.iload_n 2, 1) := by decide +kernel
theorem dX9_rounded_138 : decode cX9_rounded 138 = .ok (.invokevirtual 115, 3) := by decide +kernel
theorem dX9_rounded_141 : decode cX9_rounded 141 = .ok (.aload_n 0, 1) := by decide +kernel
theorem dX9_rounded_142 : decode cX9_rounded 142 = .ok (.iconst 1, 1) := by decide +kernel
theorem dX9_rounded_143 : decode cX9_rounded 143 = .ok (.invokevirtual 118, 3) := by decide +kernel
theorem dX9_rounded_146 : decode cX9_rounded 146 = .ok (.iinc 2 1, 3) := by decide +kernel
theorem dX9_rounded_149 : decode cX9_rounded 149 = .ok (.goto (-137), 3) := by decide +kernel
theorem dX9_rounded_152 : decode cX9_rounded 152 = .ok (.iinc 1 1, 3) := by decide +kernel
theorem dX9_rounded_155 : decode cX9_rounded 155 = .ok (.goto (-153), 3) := by decide +kernel
theorem dX9_rounded_158 : decode cX9_rounded 158 = .ok (.return_, 1) := by decide +kernel
theorem dX9_findLiterals_0 : decode cX9_findLiterals 0 = .ok (.aload_n 0, 1) := by decide +kernel
theorem dX9_findLiterals_1 : decode cX9_findLiterals 1 = .ok (.iconst 0, 1) := by decide +kernel
theorem dX9_findLiterals_2 : decode cX9_findLiterals 2 = .ok (.putfield 124, 3) := by decide +kernel
theorem dX9_findLiterals_5 : decode cX9_findLiterals 5 = .ok (.aload_n 0, 1) := by decide +kernel
theorem dX9_findLiterals_6 : decode cX9_findLiterals 6 = .ok (.aload_n 0, 1) := by decide +kernel
theorem dX9_findLiterals_7 : decode cX9_findLiterals 7 = .ok (.getfield 20, 3) := by decide +kernel
theorem dX9_findLiterals_10 : decode cX9_findLiterals 10 = .ok (.iload_n 1, 1) := by decide +kernel
theorem dX9_findLiterals_11 : decode cX9_findLiterals 11 = .ok (.iaload, 1) := by decide +kernel
theorem dX9_findLiterals_12 : decode cX9_findLiterals 12 = .ok (.putfield 127, 3) := by decide +kernel
theorem dX9_findLiterals_15 : decode cX9_findLiterals 15 = .ok (.iconst 0, 1) := by decide +kernel
theorem dX9_findLiterals_16 : decode cX9_findLiterals 16 = .ok (.istore_n 2, 1) := by decide +kernel
theorem dX9_findLiterals_17 : decode cX9_findLiterals 17 = .ok (.iload_n 2, 1) := by decide +kernel
theorem dX9_findLiterals_18 : decode cX9_findLiterals 18 = .ok (.aload_n 0, 1) := by decide +kernel
theorem dX9_findLiterals_19 : decode cX9_findLiterals 19 = .ok (.getfield 66, 3) := by decide +kernel
theorem dX9_findLiterals_22 : decode cX9_findLiterals 22 = .ok (.if_icmp .ge 109, 3) := by decide +kernel
theorem dX9_findLiterals_25 : decode cX9_findLiterals 25 = .ok (.aload_n 0, 1) := by decide +kernel
theorem dX9_findLiterals_26 : decode cX9_findLiterals 26 = .ok (.getfield 23, 3) := by decide +kernel
theorem dX9_findLiterals_29 : decode cX9_findLiterals 29 = .ok (.bipush 8, 2) := by decide +kernel
theorem dX9_findLiterals_31 : decode cX9_findLiterals 31 = .ok (.iload_n 1, 1) := by decide +kernel
theorem dX9_findLiterals_32 : decode cX9_findLiterals 32 = .ok (.imul, 1) := by decide +kernel
theorem dX9_findLiterals_33 : decode cX9_findLiterals 33 = .ok (.iload_n 2, 1) := by decide +kernel
theorem dX9_findLiterals_34 : decode cX9_findLiterals 34 = .ok (.iadd, 1) := by decide +kernel
theorem dX9_findLiterals_35 : decode cX9_findLiterals 35 = .ok (.iaload, 1) := by decide +kernel
theorem dX9_findLiterals_36 : decode cX9_findLiterals 36 = .ok (.istore_n 3, 1) := by decide +kernel
theorem dX9_findLiterals_37 : decode cX9_findLiterals 37 = .ok (.aload_n 0, 1) := by decide +kernel
theorem dX9_findLiterals_38 : decode cX9_findLiterals 38 = .ok (.iload_n 2, 1) := by decide +kernel
theorem dX9_findLiterals_39 : decode cX9_findLiterals 39 = .ok (.invokevirtual 130, 3) := by decide +kernel
theorem dX9_findLiterals_42 : decode cX9_findLiterals 42 = .ok (.ifCond .ne 21, 3) := by decide +kernel
theorem dX9_findLiterals_45 : decode cX9_findLiterals 45 = .ok (.aload_n 0, 1) := by decide +kernel
theorem dX9_findLiterals_46 : decode cX9_findLiterals 46 = .ok (.dup, 1) := by decide +kernel
theorem dX9_findLiterals_47 : decode cX9_findLiterals 47 = .ok (.getfield 127, 3) := by decide +kernel
theorem dX9_findLiterals_50 : decode cX9_findLiterals 50 = .ok (.aload_n 0, 1) := by decide +kernel
theorem dX9_findLiterals_51 : decode cX9_findLiterals 51 = .ok (.iload_n 1, 1) := by decide +kernel
theorem dX9_findLiterals_52 : decode cX9_findLiterals 52 = .ok (.iload_n 2, 1) := by decide +kernel
theorem dX9_findLiterals_53 : decode cX9_findLiterals 53 = .ok (.invokevirtual 133, 3) := by decide +kernel
theorem dX9_findLiterals_56 : decode cX9_findLiterals 56 = .ok (.isub, 1) := by decide +kernel
theorem dX9_findLiterals_57 : decode cX9_findLiterals 57 = .ok (.putfield 127, 3) := by decide +kernel
theorem dX9_findLiterals_60 : decode cX9_findLiterals 60 = .ok (.goto 65, 3) := by decide +kernel
theorem dX9_findLiterals_63 : decode cX9_findLiterals 63 = .ok (.iload_n 3, 1) := by decide +kernel
theorem dX9_findLiterals_64 : decode cX9_findLiterals 64 = .ok (.ifCond .eq 61, 3) := by decide +kernel
theorem dX9_findLiterals_67 : decode cX9_findLiterals 67 = .ok (.aload_n 0, 1) := by decide +kernel
theorem dX9_findLiterals_68 : decode cX9_findLiterals 68 = .ok (.getfield 51, 3) := by decide +kernel
theorem dX9_findLiterals_71 : decode cX9_findLiterals 71 = .ok (.aload_n 0, 1) := by decide +kernel
theorem dX9_findLiterals_72 : decode cX9_findLiterals 72 = .ok (.getfield 124, 3) := by decide +kernel
theorem dX9_findLiterals_75 : decode cX9_findLiterals 75 = .ok (.iload_n 2, 1) := by decide +kernel
theorem dX9_findLiterals_76 : decode cX9_findLiterals 76 = .ok (.iastore, 1) := by decide +kernel
theorem dX9_findLiterals_77 : decode cX9_findLiterals 77 = .ok (.aload_n 0, 1) := by decide +kernel
theorem dX9_findLiterals_78 : decode cX9_findLiterals 78 = .ok (.getfield 54, 3) := by decide +kernel
theorem dX9_findLiterals_81 : decode cX9_findLiterals 81 = .ok (.aload_n 0, 1) := by decide +kernel
theorem dX9_findLiterals_82 : decode cX9_findLiterals 82 = .ok (.getfield 124, 3) := by decide +kernel
theorem dX9_findLiterals_85 : decode cX9_findLiterals 85 = .ok (.iload_n 3, 1) := by decide +kernel
theorem dX9_findLiterals_86 : decode cX9_findLiterals 86 = .ok (.ifCond .ge 8, 3) := by decide +kernel
theorem dX9_findLiterals_89 : decode cX9_findLiterals 89 = .ok (.iload_n 3, 1) := by decide +kernel
theorem dX9_findLiterals_90 : decode cX9_findLiterals 90 = .ok (.ineg, 1) := by decide +kernel
theorem dX9_findLiterals_91 : decode cX9_findLiterals 91 = .ok (.goto 4, 3) := by decide +kernel
theorem dX9_findLiterals_94 : decode cX9_findLiterals 94 = .ok (.iload_n 3, 1) := by decide +kernel
theorem dX9_findLiterals_95 : decode cX9_findLiterals 95 = .ok (.iastore, 1) := by decide +kernel
theorem dX9_findLiterals_96 : decode cX9_findLiterals 96 = .ok (.aload_n 0, 1) := by decide +kernel
theorem dX9_findLiterals_97 : decode cX9_findLiterals 97 = .ok (.dup, 1) := by decide +kernel
theorem dX9_findLiterals_98 : decode cX9_findLiterals 98 = .ok (.getfield 127, 3) := by decide +kernel
theorem dX9_findLiterals_101 : decode cX9_findLiterals 101 = .ok (.iload_n 3, 1) := by decide +kernel
theorem dX9_findLiterals_102 : decode cX9_findLiterals 102 = .ok (.ifCond .ge 8, 3) := by decide +kernel
theorem dX9_findLiterals_105 : decode cX9_findLiterals 105 = .ok (.iload_n 3, 1) := by decide +kernel
theorem dX9_findLiterals_106 : decode cX9_findLiterals 106 = .ok (.ineg, 1) := by decide +kernel
theorem dX9_findLiterals_107 : decode cX9_findLiterals 107 = .ok (.goto 4, 3) := by decide +kernel
theorem dX9_findLiterals_110 : decode cX9_findLiterals 110 = .ok (.iconst 0, 1) := by decide +kernel
theorem dX9_findLiterals_111 : decode cX9_findLiterals 111 = .ok (.iadd, 1) := by decide +kernel
theorem dX9_findLiterals_112 : decode cX9_findLiterals 112 = .ok (.putfield 127, 3) := by decide +kernel
theorem dX9_findLiterals_115 : decode cX9_findLiterals 115 = .ok (.aload_n 0, 1) := by decide +kernel
theorem dX9_findLiterals_116 : decode cX9_findLiterals 116 = .ok (.dup, 1) := by decide +kernel
theorem dX9_findLiterals_117 : decode cX9_findLiterals 117 = .ok (.getfield 124, 3) := by decide +kernel
theorem dX9_findLiterals_120 : decode cX9_findLiterals 120 = .ok (.iconst 1, 1) := by decide +kernel
theorem dX9_findLiterals_121 : decode cX9_findLiterals 121 = .ok (.iadd, 1) := by decide +kernel
theorem dX9_findLiterals_122 : decode cX9_findLiterals 122 = .ok (.putfield 124, 3) := by decide +kernel
theorem dX9_findLiterals_125 : decode cX9_findLiterals 125 = .ok (.iinc 2 1, 3) := by decide +kernel
theorem dX9_findLiterals_128 : decode cX9_findLiterals 128 = .ok (.goto (-111), 3) := by decide +kernel
theorem dX9_findLiterals_131 : decode cX9_findLiterals 131 = .ok (.return_, 1) := by decide +kernel
theorem dX9_weightOf_0 : decode cX9_weightOf 0 = .ok (.iconst 0, 1) := by decide +kernel
theorem dX9_weightOf_1 : decode cX9_weightOf 1 = .ok (.istore_n 2, 1) := by decide +kernel
theorem dX9_weightOf_2 : decode cX9_weightOf 2 = .ok (.iconst 0, 1) := by decide +kernel
theorem dX9_weightOf_3 : decode cX9_weightOf 3 = .ok (.istore_n 3, 1) := by decide +kernel
theorem dX9_weightOf_4 : decode cX9_weightOf 4 = .ok (.iload_n 3, 1) := by decide +kernel
theorem dX9_weightOf_5 : decode cX9_weightOf 5 = .ok (.aload_n 0, 1) := by decide +kernel
theorem dX9_weightOf_6 : decode cX9_weightOf 6 = .ok (.getfield 124, 3) := by decide +kernel
theorem dX9_weightOf_9 : decode cX9_weightOf 9 = .ok (.if_icmp .ge 31, 3) := by decide +kernel
theorem dX9_weightOf_12 : decode cX9_weightOf 12 = .ok (.iload_n 2, 1) := by decide +kernel
theorem dX9_weightOf_13 : decode cX9_weightOf 13 = .ok (.iload_n 1, 1) := by decide +kernel
theorem dX9_weightOf_14 : decode cX9_weightOf 14 = .ok (.iload_n 3, 1) := by decide +kernel
theorem dX9_weightOf_15 : decode cX9_weightOf 15 = .ok (.ishr, 1) := by decide +kernel
theorem dX9_weightOf_16 : decode cX9_weightOf 16 = .ok (.iconst 1, 1) := by decide +kernel
theorem dX9_weightOf_17 : decode cX9_weightOf 17 = .ok (.iand, 1) := by decide +kernel
theorem dX9_weightOf_18 : decode cX9_weightOf 18 = .ok (.iconst 1, 1) := by decide +kernel
theorem dX9_weightOf_19 : decode cX9_weightOf 19 = .ok (.if_icmp .ne 12, 3) := by decide +kernel
theorem dX9_weightOf_22 : decode cX9_weightOf 22 = .ok (.aload_n 0, 1) := by decide +kernel
theorem dX9_weightOf_23 : decode cX9_weightOf 23 = .ok (.getfield 54, 3) := by decide +kernel
theorem dX9_weightOf_26 : decode cX9_weightOf 26 = .ok (.iload_n 3, 1) := by decide +kernel
theorem dX9_weightOf_27 : decode cX9_weightOf 27 = .ok (.iaload, 1) := by decide +kernel
theorem dX9_weightOf_28 : decode cX9_weightOf 28 = .ok (.goto 4, 3) := by decide +kernel
theorem dX9_weightOf_31 : decode cX9_weightOf 31 = .ok (.iconst 0, 1) := by decide +kernel
theorem dX9_weightOf_32 : decode cX9_weightOf 32 = .ok (.iadd, 1) := by decide +kernel
theorem dX9_weightOf_33 : decode cX9_weightOf 33 = .ok (.istore_n 2, 1) := by decide +kernel
theorem dX9_weightOf_34 : decode cX9_weightOf 34 = .ok (.iinc 3 1, 3) := by decide +kernel
theorem dX9_weightOf_37 : decode cX9_weightOf 37 = .ok (.goto (-33), 3) := by decide +kernel
theorem dX9_weightOf_40 : decode cX9_weightOf 40 = .ok (.iload_n 2, 1) := by decide +kernel
theorem dX9_weightOf_41 : decode cX9_weightOf 41 = .ok (.ireturn, 1) := by decide +kernel
theorem dX9_isCover_0 : decode cX9_isCover 0 = .ok (.aload_n 0, 1) := by decide +kernel
theorem dX9_isCover_1 : decode cX9_isCover 1 = .ok (.iload_n 1, 1) := by decide +kernel
theorem dX9_isCover_2 : decode cX9_isCover 2 = .ok (.invokevirtual 137, 3) := by decide +kernel
theorem dX9_isCover_5 : decode cX9_isCover 5 = .ok (.istore_n 2, 1) := by decide +kernel
theorem dX9_isCover_6 : decode cX9_isCover 6 = .ok (.iload_n 2, 1) := by decide +kernel
theorem dX9_isCover_7 : decode cX9_isCover 7 = .ok (.aload_n 0, 1) := by decide +kernel
theorem dX9_isCover_8 : decode cX9_isCover 8 = .ok (.getfield 127, 3) := by decide +kernel
theorem dX9_isCover_11 : decode cX9_isCover 11 = .ok (.if_icmp .le 7, 3) := by decide +kernel
theorem dX9_isCover_14 : decode cX9_isCover 14 = .ok (.iconst 1, 1) := by decide +kernel
theorem dX9_isCover_15 : decode cX9_isCover 15 = .ok (.goto 4, 3) := by decide +kernel
theorem dX9_isCover_18 : decode cX9_isCover 18 = .ok (.iconst 0, 1) := by decide +kernel
theorem dX9_isCover_19 : decode cX9_isCover 19 = .ok (.istore_n 3, 1) := by decide +kernel
theorem dX9_isCover_20 : decode cX9_isCover 20 = .ok (.iconst 0, 1) := by decide +kernel
theorem dX9_isCover_21 : decode cX9_isCover 21 = .ok (.istore 4, 2) := by decide +kernel
theorem dX9_isCover_23 : decode cX9_isCover 23 = .ok (.iload 4, 2) := by decide +kernel
theorem dX9_isCover_25 : decode cX9_isCover 25 = .ok (.aload_n 0, 1) := by decide +kernel
theorem dX9_isCover_26 : decode cX9_isCover 26 = .ok (.getfield 124, 3) := by decide +kernel
theorem dX9_isCover_29 : decode cX9_isCover 29 = .ok (.if_icmp .ge 44, 3) := by decide +kernel
theorem dX9_isCover_32 : decode cX9_isCover 32 = .ok (.iload_n 3, 1) := by decide +kernel
theorem dX9_isCover_33 : decode cX9_isCover 33 = .ok (.ifCond .eq 32, 3) := by decide +kernel
theorem dX9_isCover_36 : decode cX9_isCover 36 = .ok (.iload_n 1, 1) := by decide +kernel
theorem dX9_isCover_37 : decode cX9_isCover 37 = .ok (.iload 4, 2) := by decide +kernel
theorem dX9_isCover_39 : decode cX9_isCover 39 = .ok (.ishr, 1) := by decide +kernel
theorem dX9_isCover_40 : decode cX9_isCover 40 = .ok (.iconst 1, 1) := by decide +kernel
theorem dX9_isCover_41 : decode cX9_isCover 41 = .ok (.iand, 1) := by decide +kernel
theorem dX9_isCover_42 : decode cX9_isCover 42 = .ok (.ifCond .eq 19, 3) := by decide +kernel
theorem dX9_isCover_45 : decode cX9_isCover 45 = .ok (.iload_n 2, 1) := by decide +kernel
theorem dX9_isCover_46 : decode cX9_isCover 46 = .ok (.aload_n 0, 1) := by decide +kernel
theorem dX9_isCover_47 : decode cX9_isCover 47 = .ok (.getfield 54, 3) := by decide +kernel
theorem dX9_isCover_50 : decode cX9_isCover 50 = .ok (.iload 4, 2) := by decide +kernel
theorem dX9_isCover_52 : decode cX9_isCover 52 = .ok (.iaload, 1) := by decide +kernel
theorem dX9_isCover_53 : decode cX9_isCover 53 = .ok (.isub, 1) := by decide +kernel
theorem dX9_isCover_54 : decode cX9_isCover 54 = .ok (.aload_n 0, 1) := by decide +kernel
theorem dX9_isCover_55 : decode cX9_isCover 55 = .ok (.getfield 127, 3) := by decide +kernel
theorem dX9_isCover_58 : decode cX9_isCover 58 = .ok (.if_icmp .gt 7, 3) := by decide +kernel
theorem dX9_isCover_61 : decode cX9_isCover 61 = .ok (.iconst 1, 1) := by decide +kernel
theorem dX9_isCover_62 : decode cX9_isCover 62 = .ok (.goto 4, 3) := by decide +kernel
theorem dX9_isCover_65 : decode cX9_isCover 65 = .ok (.iconst 0, 1) := by decide +kernel
theorem dX9_isCover_66 : decode cX9_isCover 66 = .ok (.istore_n 3, 1) := by decide +kernel
theorem dX9_isCover_67 : decode cX9_isCover 67 = .ok (.iinc 4 1, 3) := by decide +kernel
theorem dX9_isCover_70 : decode cX9_isCover 70 = .ok (.goto (-47), 3) := by decide +kernel
theorem dX9_isCover_73 : decode cX9_isCover 73 = .ok (.iload_n 3, 1) := by decide +kernel
theorem dX9_isCover_74 : decode cX9_isCover 74 = .ok (.ireturn, 1) := by decide +kernel
theorem dX9_greatest_0 : decode cX9_greatest 0 = .ok (.iconst 0, 1) := by decide +kernel
theorem dX9_greatest_1 : decode cX9_greatest 1 = .ok (.istore_n 3, 1) := by decide +kernel
theorem dX9_greatest_2 : decode cX9_greatest 2 = .ok (.iconst 0, 1) := by decide +kernel
theorem dX9_greatest_3 : decode cX9_greatest 3 = .ok (.istore 4, 2) := by decide +kernel
theorem dX9_greatest_5 : decode cX9_greatest 5 = .ok (.iload 4, 2) := by decide +kernel
theorem dX9_greatest_7 : decode cX9_greatest 7 = .ok (.iconst 1, 1) := by decide +kernel
theorem dX9_greatest_8 : decode cX9_greatest 8 = .ok (.aload_n 0, 1) := by decide +kernel
theorem dX9_greatest_9 : decode cX9_greatest 9 = .ok (.getfield 124, 3) := by decide +kernel
theorem dX9_greatest_12 : decode cX9_greatest 12 = .ok (.ishl, 1) := by decide +kernel
theorem dX9_greatest_13 : decode cX9_greatest 13 = .ok (.if_icmp .ge 83, 3) := by decide +kernel
theorem dX9_greatest_16 : decode cX9_greatest 16 = .ok (.iload 4, 2) := by decide +kernel
theorem dX9_greatest_18 : decode cX9_greatest 18 = .ok (.iload_n 1, 1) := by decide +kernel
theorem dX9_greatest_19 : decode cX9_greatest 19 = .ok (.iand, 1) := by decide +kernel
theorem dX9_greatest_20 : decode cX9_greatest 20 = .ok (.iload 4, 2) := by decide +kernel
theorem dX9_greatest_22 : decode cX9_greatest 22 = .ok (.if_icmp .ne 68, 3) := by decide +kernel
theorem dX9_greatest_25 : decode cX9_greatest 25 = .ok (.aload_n 0, 1) := by decide +kernel
theorem dX9_greatest_26 : decode cX9_greatest 26 = .ok (.iload 4, 2) := by decide +kernel
theorem dX9_greatest_28 : decode cX9_greatest 28 = .ok (.invokevirtual 137, 3) := by decide +kernel
theorem dX9_greatest_31 : decode cX9_greatest 31 = .ok (.iload_n 2, 1) := by decide +kernel
theorem dX9_greatest_32 : decode cX9_greatest 32 = .ok (.if_icmp .gt 58, 3) := by decide +kernel
theorem dX9_greatest_35 : decode cX9_greatest 35 = .ok (.iconst 0, 1) := by decide +kernel
theorem dX9_greatest_36 : decode cX9_greatest 36 = .ok (.istore 5, 2) := by decide +kernel
theorem dX9_greatest_38 : decode cX9_greatest 38 = .ok (.iconst 0, 1) := by decide +kernel
theorem dX9_greatest_39 : decode cX9_greatest 39 = .ok (.istore 6, 2) := by decide +kernel
theorem dX9_greatest_41 : decode cX9_greatest 41 = .ok (.iload 6, 2) := by decide +kernel
theorem dX9_greatest_43 : decode cX9_greatest 43 = .ok (.aload_n 0, 1) := by decide +kernel
theorem dX9_greatest_44 : decode cX9_greatest 44 = .ok (.getfield 124, 3) := by decide +kernel
theorem dX9_greatest_47 : decode cX9_greatest 47 = .ok (.if_icmp .ge 36, 3) := by decide +kernel
theorem dX9_greatest_50 : decode cX9_greatest 50 = .ok (.iload 5, 2) := by decide +kernel
theorem dX9_greatest_52 : decode cX9_greatest 52 = .ok (.iload 4, 2) := by decide +kernel
theorem dX9_greatest_54 : decode cX9_greatest 54 = .ok (.iload 6, 2) := by decide +kernel
theorem dX9_greatest_56 : decode cX9_greatest 56 = .ok (.ishr, 1) := by decide +kernel
theorem dX9_greatest_57 : decode cX9_greatest 57 = .ok (.iconst 1, 1) := by decide +kernel
theorem dX9_greatest_58 : decode cX9_greatest 58 = .ok (.iand, 1) := by decide +kernel
theorem dX9_greatest_59 : decode cX9_greatest 59 = .ok (.iconst 1, 1) := by decide +kernel
theorem dX9_greatest_60 : decode cX9_greatest 60 = .ok (.if_icmp .ne 13, 3) := by decide +kernel
theorem dX9_greatest_63 : decode cX9_greatest 63 = .ok (.aload_n 0, 1) := by decide +kernel
theorem dX9_greatest_64 : decode cX9_greatest 64 = .ok (.getfield 57, 3) := by decide +kernel
theorem dX9_greatest_67 : decode cX9_greatest 67 = .ok (.iload 6, 2) := by decide +kernel
theorem dX9_greatest_69 : decode cX9_greatest 69 = .ok (.iaload, 1) := by decide +kernel
theorem dX9_greatest_70 : decode cX9_greatest 70 = .ok (.goto 4, 3) := by decide +kernel
theorem dX9_greatest_73 : decode cX9_greatest 73 = .ok (.iconst 0, 1) := by decide +kernel
theorem dX9_greatest_74 : decode cX9_greatest 74 = .ok (.iadd, 1) := by decide +kernel
theorem dX9_greatest_75 : decode cX9_greatest 75 = .ok (.istore 5, 2) := by decide +kernel
theorem dX9_greatest_77 : decode cX9_greatest 77 = .ok (.iinc 6 1, 3) := by decide +kernel
theorem dX9_greatest_80 : decode cX9_greatest 80 = .ok (.goto (-39), 3) := by decide +kernel
theorem dX9_greatest_83 : decode cX9_greatest 83 = .ok (.iload_n 3, 1) := by decide +kernel
theorem dX9_greatest_84 : decode cX9_greatest 84 = .ok (.iload 5, 2) := by decide +kernel
theorem dX9_greatest_86 : decode cX9_greatest 86 = .ok (.invokestatic 141, 3) := by decide +kernel
theorem dX9_greatest_89 : decode cX9_greatest 89 = .ok (.istore_n 3, 1) := by decide +kernel
theorem dX9_greatest_90 : decode cX9_greatest 90 = .ok (.iinc 4 1, 3) := by decide +kernel
theorem dX9_greatest_93 : decode cX9_greatest 93 = .ok (.goto (-88), 3) := by decide +kernel
theorem dX9_greatest_96 : decode cX9_greatest 96 = .ok (.iload_n 3, 1) := by decide +kernel
theorem dX9_greatest_97 : decode cX9_greatest 97 = .ok (.ireturn, 1) := by decide +kernel
theorem dX9_cover_0 : decode cX9_cover 0 = .ok (.iconst 0, 1) := by decide +kernel
theorem dX9_cover_1 : decode cX9_cover 1 = .ok (.istore_n 3, 1) := by decide +kernel
theorem dX9_cover_2 : decode cX9_cover 2 = .ok (.iconst 0, 1) := by decide +kernel
theorem dX9_cover_3 : decode cX9_cover 3 = .ok (.istore 4, 2) := by decide +kernel
theorem dX9_cover_5 : decode cX9_cover 5 = .ok (.iload 4, 2) := by decide +kernel
theorem dX9_cover_7 : decode cX9_cover 7 = .ok (.aload_n 0, 1) := by decide +kernel
theorem dX9_cover_8 : decode cX9_cover 8 = .ok (.getfield 124, 3) := by decide +kernel
theorem dX9_cover_11 : decode cX9_cover 11 = .ok (.if_icmp .ge 32, 3) := by decide +kernel
theorem dX9_cover_14 : decode cX9_cover 14 = .ok (.aload_n 0, 1) := by decide +kernel
theorem dX9_cover_15 : decode cX9_cover 15 = .ok (.getfield 57, 3) := by decide +kernel
theorem dX9_cover_18 : decode cX9_cover 18 = .ok (.iload 4, 2) := by decide +kernel
theorem dX9_cover_20 : decode cX9_cover 20 = .ok (.iload_n 2, 1) := by decide +kernel
theorem dX9_cover_21 : decode cX9_cover 21 = .ok (.iload 4, 2) := by decide +kernel
theorem dX9_cover_23 : decode cX9_cover 23 = .ok (.ishr, 1) := by decide +kernel
theorem dX9_cover_24 : decode cX9_cover 24 = .ok (.iconst 1, 1) := by decide +kernel
theorem dX9_cover_25 : decode cX9_cover 25 = .ok (.iand, 1) := by decide +kernel
theorem dX9_cover_26 : decode cX9_cover 26 = .ok (.iastore, 1) := by decide +kernel
theorem dX9_cover_27 : decode cX9_cover 27 = .ok (.iload_n 3, 1) := by decide +kernel
theorem dX9_cover_28 : decode cX9_cover 28 = .ok (.aload_n 0, 1) := by decide +kernel
theorem dX9_cover_29 : decode cX9_cover 29 = .ok (.getfield 57, 3) := by decide +kernel
theorem dX9_cover_32 : decode cX9_cover 32 = .ok (.iload 4, 2) := by decide +kernel
theorem dX9_cover_34 : decode cX9_cover 34 = .ok (.iaload, 1) := by decide +kernel
theorem dX9_cover_35 : decode cX9_cover 35 = .ok (.iadd, 1) := by decide +kernel
theorem dX9_cover_36 : decode cX9_cover 36 = .ok (.istore_n 3, 1) := by decide +kernel
theorem dX9_cover_37 : decode cX9_cover 37 = .ok (.iinc 4 1, 3) := by decide +kernel
theorem dX9_cover_40 : decode cX9_cover 40 = .ok (.goto (-35), 3) := by decide +kernel
theorem dX9_cover_43 : decode cX9_cover 43 = .ok (.iload_n 2, 1) := by decide +kernel
theorem dX9_cover_44 : decode cX9_cover 44 = .ok (.istore 4, 2) := by decide +kernel
theorem dX9_cover_46 : decode cX9_cover 46 = .ok (.iconst 0, 1) := by decide +kernel
theorem dX9_cover_47 : decode cX9_cover 47 = .ok (.istore 5, 2) := by decide +kernel
theorem dX9_cover_49 : decode cX9_cover 49 = .ok (.iload 5, 2) := by decide +kernel
theorem dX9_cover_51 : decode cX9_cover 51 = .ok (.aload_n 0, 1) := by decide +kernel
theorem dX9_cover_52 : decode cX9_cover 52 = .ok (.getfield 124, 3) := by decide +kernel
theorem dX9_cover_55 : decode cX9_cover 55 = .ok (.if_icmp .ge 71, 3) := by decide +kernel
theorem dX9_cover_58 : decode cX9_cover 58 = .ok (.iload_n 2, 1) := by decide +kernel
theorem dX9_cover_59 : decode cX9_cover 59 = .ok (.iload 5, 2) := by decide +kernel
theorem dX9_cover_61 : decode cX9_cover 61 = .ok (.ishr, 1) := by decide +kernel
theorem dX9_cover_62 : decode cX9_cover 62 = .ok (.iconst 1, 1) := by decide +kernel
theorem dX9_cover_63 : decode cX9_cover 63 = .ok (.iand, 1) := by decide +kernel
theorem dX9_cover_64 : decode cX9_cover 64 = .ok (.ifCond .ne 56, 3) := by decide +kernel
theorem dX9_cover_67 : decode cX9_cover 67 = .ok (.aload_n 0, 1) := by decide +kernel
theorem dX9_cover_68 : decode cX9_cover 68 = .ok (.getfield 127, 3) := by decide +kernel
theorem dX9_cover_71 : decode cX9_cover 71 = .ok (.aload_n 0, 1) := by decide +kernel
theorem dX9_cover_72 : decode cX9_cover 72 = .ok (.getfield 54, 3) := by decide +kernel
theorem dX9_cover_75 : decode cX9_cover 75 = .ok (.iload 5, 2) := by decide +kernel
theorem dX9_cover_77 : decode cX9_cover 77 = .ok (.iaload, 1) := by decide +kernel
theorem dX9_cover_78 : decode cX9_cover 78 = .ok (.isub, 1) := by decide +kernel
theorem dX9_cover_79 : decode cX9_cover 79 = .ok (.istore 6, 2) := by decide +kernel
theorem dX9_cover_81 : decode cX9_cover 81 = .ok (.aload_n 0, 1) := by decide +kernel
theorem dX9_cover_82 : decode cX9_cover 82 = .ok (.getfield 57, 3) := by decide +kernel
theorem dX9_cover_85 : decode cX9_cover 85 = .ok (.iload 5, 2) := by decide +kernel
theorem dX9_cover_87 : decode cX9_cover 87 = .ok (.iload 6, 2) := by decide +kernel
theorem dX9_cover_89 : decode cX9_cover 89 = .ok (.ifCond .ge 9, 3) := by decide +kernel
theorem dX9_cover_92 : decode cX9_cover 92 = .ok (.iload_n 3, 1) := by decide +kernel
theorem dX9_cover_93 : decode cX9_cover 93 = .ok (.iconst 1, 1) := by decide +kernel
theorem dX9_cover_94 : decode cX9_cover 94 = .ok (.isub, 1) := by decide +kernel
theorem dX9_cover_95 : decode cX9_cover 95 = .ok (.goto 15, 3) := by decide +kernel
theorem dX9_cover_98 : decode cX9_cover 98 = .ok (.iload_n 3, 1) := by decide +kernel
theorem dX9_cover_99 : decode cX9_cover 99 = .ok (.iconst 1, 1) := by decide +kernel
theorem dX9_cover_100 : decode cX9_cover 100 = .ok (.isub, 1) := by decide +kernel
theorem dX9_cover_101 : decode cX9_cover 101 = .ok (.aload_n 0, 1) := by decide +kernel
theorem dX9_cover_102 : decode cX9_cover 102 = .ok (.iload 4, 2) := by decide +kernel
theorem dX9_cover_104 : decode cX9_cover 104 = .ok (.iload 6, 2) := by decide +kernel
theorem dX9_cover_106 : decode cX9_cover 106 = .ok (.invokevirtual 144, 3) := by decide +kernel
theorem dX9_cover_109 : decode cX9_cover 109 = .ok (.isub, 1) := by decide +kernel
theorem dX9_cover_110 : decode cX9_cover 110 = .ok (.iastore, 1) := by decide +kernel
theorem dX9_cover_111 : decode cX9_cover 111 = .ok (.iload 4, 2) := by decide +kernel
theorem dX9_cover_113 : decode cX9_cover 113 = .ok (.iconst 1, 1) := by decide +kernel
theorem dX9_cover_114 : decode cX9_cover 114 = .ok (.iload 5, 2) := by decide +kernel
theorem dX9_cover_116 : decode cX9_cover 116 = .ok (.ishl, 1) := by decide +kernel
theorem dX9_cover_117 : decode cX9_cover 117 = .ok (.ior, 1) := by decide +kernel
theorem dX9_cover_118 : decode cX9_cover 118 = .ok (.istore 4, 2) := by decide +kernel
theorem dX9_cover_120 : decode cX9_cover 120 = .ok (.iinc 5 1, 3) := by decide +kernel
theorem dX9_cover_123 : decode cX9_cover 123 = .ok (.goto (-74), 3) := by decide +kernel
theorem dX9_cover_126 : decode cX9_cover 126 = .ok (.aload_n 0, 1) := by decide +kernel
theorem dX9_cover_127 : decode cX9_cover 127 = .ok (.invokevirtual 101, 3) := by decide +kernel
theorem dX9_cover_130 : decode cX9_cover 130 = .ok (.aload_n 0, 1) := by decide +kernel
theorem dX9_cover_131 : decode cX9_cover 131 = .ok (.iload_n 3, 1) := by decide +kernel
theorem dX9_cover_132 : decode cX9_cover 132 = .ok (.iconst 1, 1) := by decide +kernel
theorem dX9_cover_133 : decode cX9_cover 133 = .ok (.isub, 1) := by decide +kernel
theorem dX9_cover_134 : decode cX9_cover 134 = .ok (.i2l, 1) := by decide +kernel
theorem dX9_cover_135 : decode cX9_cover 135 = .ok (.putfield 84, 3) := by decide +kernel
theorem dX9_cover_138 : decode cX9_cover 138 = .ok (.iconst 0, 1) := by decide +kernel
theorem dX9_cover_139 : decode cX9_cover 139 = .ok (.istore 5, 2) := by decide +kernel
theorem dX9_cover_141 : decode cX9_cover 141 = .ok (.iload 5, 2) := by decide +kernel
theorem dX9_cover_143 : decode cX9_cover 143 = .ok (.aload_n 0, 1) := by decide +kernel
theorem dX9_cover_144 : decode cX9_cover 144 = .ok (.getfield 124, 3) := by decide +kernel
theorem dX9_cover_147 : decode cX9_cover 147 = .ok (.if_icmp .ge 98, 3) := by decide +kernel
theorem dX9_cover_150 : decode cX9_cover 150 = .ok (.aload_n 0, 1) := by decide +kernel
theorem dX9_cover_151 : decode cX9_cover 151 = .ok (.getfield 51, 3) := by decide +kernel
theorem dX9_cover_154 : decode cX9_cover 154 = .ok (.iload 5, 2) := by decide +kernel
theorem dX9_cover_156 : decode cX9_cover 156 = .ok (.iaload, 1) := by decide +kernel
theorem dX9_cover_157 : decode cX9_cover 157 = .ok (.istore 6, 2) := by decide +kernel
theorem dX9_cover_159 : decode cX9_cover 159 = .ok (.aload_n 0, 1) := by decide +kernel
theorem dX9_cover_160 : decode cX9_cover 160 = .ok (.getfield 23, 3) := by decide +kernel
theorem dX9_cover_163 : decode cX9_cover 163 = .ok (.bipush 8, 2) := by decide +kernel
theorem dX9_cover_165 : decode cX9_cover 165 = .ok (.iload_n 1, 1) := by decide +kernel
theorem dX9_cover_166 : decode cX9_cover 166 = .ok (.imul, 1) := by decide +kernel
theorem dX9_cover_167 : decode cX9_cover 167 = .ok (.iload 6, 2) := by decide +kernel
theorem dX9_cover_169 : decode cX9_cover 169 = .ok (.iadd, 1) := by decide +kernel
theorem dX9_cover_170 : decode cX9_cover 170 = .ok (.iaload, 1) := by decide +kernel
theorem dX9_cover_171 : decode cX9_cover 171 = .ok (.ifCond .ge 7, 3) := by decide +kernel
theorem dX9_cover_174 : decode cX9_cover 174 = .ok (.iconst 1, 1) := by decide +kernel
theorem dX9_cover_175 : decode cX9_cover 175 = .ok (.goto 4, 3) := by decide +kernel
theorem dX9_cover_178 : decode cX9_cover 178 = .ok (.iconst 0, 1) := by decide +kernel
theorem dX9_cover_179 : decode cX9_cover 179 = .ok (.istore 7, 2) := by decide +kernel
theorem dX9_cover_181 : decode cX9_cover 181 = .ok (.aload_n 0, 1) := by decide +kernel
theorem dX9_cover_182 : decode cX9_cover 182 = .ok (.getfield 45, 3) := by decide +kernel
theorem dX9_cover_185 : decode cX9_cover 185 = .ok (.iload 6, 2) := by decide +kernel
theorem dX9_cover_187 : decode cX9_cover 187 = .ok (.iload 7, 2) := by decide +kernel
theorem dX9_cover_189 : decode cX9_cover 189 = .ok (.ifCond .eq 15, 3) := by decide +kernel
theorem dX9_cover_192 : decode cX9_cover 192 = .ok (.aload_n 0, 1) := by decide +kernel
theorem dX9_cover_193 : decode cX9_cover 193 = .ok (.getfield 57, 3) := by decide +kernel
theorem dX9_cover_196 : decode cX9_cover 196 = .ok (.iload 5, 2) := by decide +kernel
theorem dX9_cover_198 : decode cX9_cover 198 = .ok (.iaload, 1) := by decide +kernel
theorem dX9_cover_199 : decode cX9_cover 199 = .ok (.ineg, 1) := by decide +kernel
theorem dX9_cover_200 : decode cX9_cover 200 = .ok (.i2l, 1) := by decide +kernel
theorem dX9_cover_201 : decode cX9_cover 201 = .ok (.goto 11, 3) := by decide +kernel
theorem dX9_cover_204 : decode cX9_cover 204 = .ok (.aload_n 0, 1) := by decide +kernel
theorem dX9_cover_205 : decode cX9_cover 205 = .ok (.getfield 57, 3) := by decide +kernel
theorem dX9_cover_208 : decode cX9_cover 208 = .ok (.iload 5, 2) := by decide +kernel
theorem dX9_cover_210 : decode cX9_cover 210 = .ok (.iaload, 1) := by decide +kernel
theorem dX9_cover_211 : decode cX9_cover 211 = .ok (.i2l, 1) := by decide +kernel
theorem dX9_cover_212 : decode cX9_cover 212 = .ok (.lastore, 1) := by decide +kernel
theorem dX9_cover_213 : decode cX9_cover 213 = .ok (.aload_n 0, 1) := by decide +kernel
theorem dX9_cover_214 : decode cX9_cover 214 = .ok (.dup, 1) := by decide +kernel
theorem dX9_cover_215 : decode cX9_cover 215 = .ok (.getfield 84, 3) := by decide +kernel
theorem dX9_cover_218 : decode cX9_cover 218 = .ok (.iload 7, 2) := by decide +kernel
theorem dX9_cover_220 : decode cX9_cover 220 = .ok (.ifCond .eq 14, 3) := by decide +kernel
theorem dX9_cover_223 : decode cX9_cover 223 = .ok (.aload_n 0, 1) := by decide +kernel
theorem dX9_cover_224 : decode cX9_cover 224 = .ok (.getfield 57, 3) := by decide +kernel
theorem dX9_cover_227 : decode cX9_cover 227 = .ok (.iload 5, 2) := by decide +kernel
theorem dX9_cover_229 : decode cX9_cover 229 = .ok (.iaload, 1) := by decide +kernel
theorem dX9_cover_230 : decode cX9_cover 230 = .ok (.i2l, 1) := by decide +kernel
theorem dX9_cover_231 : decode cX9_cover 231 = .ok (.goto 4, 3) := by decide +kernel
theorem dX9_cover_234 : decode cX9_cover 234 = .ok (.lconst 0, 1) := by decide +kernel
theorem dX9_cover_235 : decode cX9_cover 235 = .ok (.lsub, 1) := by decide +kernel
theorem dX9_cover_236 : decode cX9_cover 236 = .ok (.putfield 84, 3) := by decide +kernel
theorem dX9_cover_239 : decode cX9_cover 239 = .ok (.iinc 5 1, 3) := by decide +kernel
theorem dX9_cover_242 : decode cX9_cover 242 = .ok (.goto (-101), 3) := by decide +kernel
theorem dX9_cover_245 : decode cX9_cover 245 = .ok (.aload_n 0, 1) := by decide +kernel
theorem dX9_cover_246 : decode cX9_cover 246 = .ok (.getfield 48, 3) := by decide +kernel
theorem dX9_cover_249 : decode cX9_cover 249 = .ok (.iconst 0, 1) := by decide +kernel
theorem dX9_cover_250 : decode cX9_cover 250 = .ok (.iload_n 1, 1) := by decide +kernel
theorem dX9_cover_251 : decode cX9_cover 251 = .ok (.iastore, 1) := by decide +kernel
theorem dX9_cover_252 : decode cX9_cover 252 = .ok (.aload_n 0, 1) := by decide +kernel
theorem dX9_cover_253 : decode cX9_cover 253 = .ok (.iconst 2, 1) := by decide +kernel
theorem dX9_cover_254 : decode cX9_cover 254 = .ok (.invokevirtual 118, 3) := by decide +kernel
theorem dX9_cover_257 : decode cX9_cover 257 = .ok (.return_, 1) := by decide +kernel
theorem dX9_covers_0 : decode cX9_covers 0 = .ok (.iconst 0, 1) := by decide +kernel
theorem dX9_covers_1 : decode cX9_covers 1 = .ok (.istore_n 1, 1) := by decide +kernel
theorem dX9_covers_2 : decode cX9_covers 2 = .ok (.iload_n 1, 1) := by decide +kernel
theorem dX9_covers_3 : decode cX9_covers 3 = .ok (.aload_n 0, 1) := by decide +kernel
theorem dX9_covers_4 : decode cX9_covers 4 = .ok (.getfield 72, 3) := by decide +kernel
theorem dX9_covers_7 : decode cX9_covers 7 = .ok (.if_icmp .ge 46, 3) := by decide +kernel
theorem dX9_covers_10 : decode cX9_covers 10 = .ok (.aload_n 0, 1) := by decide +kernel
theorem dX9_covers_11 : decode cX9_covers 11 = .ok (.iload_n 1, 1) := by decide +kernel
theorem dX9_covers_12 : decode cX9_covers 12 = .ok (.invokevirtual 147, 3) := by decide +kernel
theorem dX9_covers_15 : decode cX9_covers 15 = .ok (.iconst 1, 1) := by decide +kernel
theorem dX9_covers_16 : decode cX9_covers 16 = .ok (.istore_n 2, 1) := by decide +kernel
theorem dX9_covers_17 : decode cX9_covers 17 = .ok (.iload_n 2, 1) := by decide +kernel
theorem dX9_covers_18 : decode cX9_covers 18 = .ok (.iconst 1, 1) := by decide +kernel
theorem dX9_covers_19 : decode cX9_covers 19 = .ok (.aload_n 0, 1) := by decide +kernel
theorem dX9_covers_20 : decode cX9_covers 20 = .ok (.getfield 124, 3) := by decide +kernel
theorem dX9_covers_23 : decode cX9_covers 23 = .ok (.ishl, 1) := by decide +kernel
theorem dX9_covers_24 : decode cX9_covers 24 = .ok (.if_icmp .ge 23, 3) := by decide +kernel
theorem dX9_covers_27 : decode cX9_covers 27 = .ok (.aload_n 0, 1) := by decide +kernel
theorem dX9_covers_28 : decode cX9_covers 28 = .ok (.iload_n 2, 1) := by decide +kernel
theorem dX9_covers_29 : decode cX9_covers 29 = .ok (.invokevirtual 150, 3) := by decide +kernel
theorem dX9_covers_32 : decode cX9_covers 32 = .ok (.ifCond .eq 9, 3) := by decide +kernel
theorem dX9_covers_35 : decode cX9_covers 35 = .ok (.aload_n 0, 1) := by decide +kernel
theorem dX9_covers_36 : decode cX9_covers 36 = .ok (.iload_n 1, 1) := by decide +kernel
theorem dX9_covers_37 : decode cX9_covers 37 = .ok (.iload_n 2, 1) := by decide +kernel
theorem dX9_covers_38 : decode cX9_covers 38 = .ok (.invokevirtual 153, 3) := by decide +kernel
theorem dX9_covers_41 : decode cX9_covers 41 = .ok (.iinc 2 1, 3) := by decide +kernel
theorem dX9_covers_44 : decode cX9_covers 44 = .ok (.goto (-27), 3) := by decide +kernel
theorem dX9_covers_47 : decode cX9_covers 47 = .ok (.iinc 1 1, 3) := by decide +kernel
theorem dX9_covers_50 : decode cX9_covers 50 = .ok (.goto (-48), 3) := by decide +kernel
theorem dX9_covers_53 : decode cX9_covers 53 = .ok (.return_, 1) := by decide +kernel
theorem dX9_clash_0 : decode cX9_clash 0 = .ok (.iconst 0, 1) := by decide +kernel
theorem dX9_clash_1 : decode cX9_clash 1 = .ok (.istore_n 3, 1) := by decide +kernel
theorem dX9_clash_2 : decode cX9_clash 2 = .ok (.iload_n 3, 1) := by decide +kernel
theorem dX9_clash_3 : decode cX9_clash 3 = .ok (.aload_n 0, 1) := by decide +kernel
theorem dX9_clash_4 : decode cX9_clash 4 = .ok (.getfield 72, 3) := by decide +kernel
theorem dX9_clash_7 : decode cX9_clash 7 = .ok (.if_icmp .ge 93, 3) := by decide +kernel
theorem dX9_clash_10 : decode cX9_clash 10 = .ok (.aload_n 0, 1) := by decide +kernel
theorem dX9_clash_11 : decode cX9_clash 11 = .ok (.getfield 23, 3) := by decide +kernel
theorem dX9_clash_14 : decode cX9_clash 14 = .ok (.bipush 8, 2) := by decide +kernel
theorem dX9_clash_16 : decode cX9_clash 16 = .ok (.iload_n 3, 1) := by decide +kernel
theorem dX9_clash_17 : decode cX9_clash 17 = .ok (.imul, 1) := by decide +kernel
theorem dX9_clash_18 : decode cX9_clash 18 = .ok (.iload_n 1, 1) := by decide +kernel
theorem dX9_clash_19 : decode cX9_clash 19 = .ok (.iadd, 1) := by decide +kernel
theorem dX9_clash_20 : decode cX9_clash 20 = .ok (.iaload, 1) := by decide +kernel
theorem dX9_clash_21 : decode cX9_clash 21 = .ok (.aload_n 0, 1) := by decide +kernel
theorem dX9_clash_22 : decode cX9_clash 22 = .ok (.getfield 23, 3) := by decide +kernel
theorem dX9_clash_25 : decode cX9_clash 25 = .ok (.bipush 8, 2) := by decide +kernel
theorem dX9_clash_27 : decode cX9_clash 27 = .ok (.iload_n 3, 1) := by decide +kernel
theorem dX9_clash_28 : decode cX9_clash 28 = .ok (.imul, 1) := by decide +kernel
theorem dX9_clash_29 : decode cX9_clash 29 = .ok (.iload_n 2, 1) := by decide +kernel
theorem dX9_clash_30 : decode cX9_clash 30 = .ok (.iadd, 1) := by decide +kernel
theorem dX9_clash_31 : decode cX9_clash 31 = .ok (.iaload, 1) := by decide +kernel
theorem dX9_clash_32 : decode cX9_clash 32 = .ok (.iadd, 1) := by decide +kernel
theorem dX9_clash_33 : decode cX9_clash 33 = .ok (.istore 4, 2) := by decide +kernel
theorem dX9_clash_35 : decode cX9_clash 35 = .ok (.iconst 0, 1) := by decide +kernel
theorem dX9_clash_36 : decode cX9_clash 36 = .ok (.istore 5, 2) := by decide +kernel
theorem dX9_clash_38 : decode cX9_clash 38 = .ok (.iload 5, 2) := by decide +kernel
theorem dX9_clash_40 : decode cX9_clash 40 = .ok (.aload_n 0, 1) := by decide +kernel
theorem dX9_clash_41 : decode cX9_clash 41 = .ok (.getfield 66, 3) := by decide +kernel
theorem dX9_clash_44 : decode cX9_clash 44 = .ok (.if_icmp .ge 37, 3) := by decide +kernel
theorem dX9_clash_47 : decode cX9_clash 47 = .ok (.iload 4, 2) := by decide +kernel
theorem dX9_clash_49 : decode cX9_clash 49 = .ok (.iload 5, 2) := by decide +kernel
theorem dX9_clash_51 : decode cX9_clash 51 = .ok (.iload_n 1, 1) := by decide +kernel
theorem dX9_clash_52 : decode cX9_clash 52 = .ok (.if_icmp .eq 9, 3) := by decide +kernel
theorem dX9_clash_55 : decode cX9_clash 55 = .ok (.iload 5, 2) := by decide +kernel
theorem dX9_clash_57 : decode cX9_clash 57 = .ok (.iload_n 2, 1) := by decide +kernel
theorem dX9_clash_58 : decode cX9_clash 58 = .ok (.if_icmp .ne 7, 3) := by decide +kernel
theorem dX9_clash_61 : decode cX9_clash 61 = .ok (.iconst 0, 1) := by decide +kernel
theorem dX9_clash_62 : decode cX9_clash 62 = .ok (.goto 10, 3) := by decide +kernel
theorem dX9_clash_65 : decode cX9_clash 65 = .ok (.aload_n 0, 1) := by decide +kernel
theorem dX9_clash_66 : decode cX9_clash 66 = .ok (.iload_n 3, 1) := by decide +kernel
theorem dX9_clash_67 : decode cX9_clash 67 = .ok (.iload 5, 2) := by decide +kernel
theorem dX9_clash_69 : decode cX9_clash 69 = .ok (.invokevirtual 133, 3) := by decide +kernel
theorem dX9_clash_72 : decode cX9_clash 72 = .ok (.iadd, 1) := by decide +kernel
theorem dX9_clash_73 : decode cX9_clash 73 = .ok (.istore 4, 2) := by decide +kernel
theorem dX9_clash_75 : decode cX9_clash 75 = .ok (.iinc 5 1, 3) := by decide +kernel
theorem dX9_clash_78 : decode cX9_clash 78 = .ok (.goto (-40), 3) := by decide +kernel
theorem dX9_clash_81 : decode cX9_clash 81 = .ok (.iload 4, 2) := by decide +kernel
theorem dX9_clash_83 : decode cX9_clash 83 = .ok (.aload_n 0, 1) := by decide +kernel
theorem dX9_clash_84 : decode cX9_clash 84 = .ok (.getfield 20, 3) := by decide +kernel
theorem dX9_clash_87 : decode cX9_clash 87 = .ok (.iload_n 3, 1) := by decide +kernel
theorem dX9_clash_88 : decode cX9_clash 88 = .ok (.iaload, 1) := by decide +kernel
theorem dX9_clash_89 : decode cX9_clash 89 = .ok (.if_icmp .le 5, 3) := by decide +kernel
theorem dX9_clash_92 : decode cX9_clash 92 = .ok (.iconst 1, 1) := by decide +kernel
theorem dX9_clash_93 : decode cX9_clash 93 = .ok (.ireturn, 1) := by decide +kernel
theorem dX9_clash_94 : decode cX9_clash 94 = .ok (.iinc 3 1, 3) := by decide +kernel
theorem dX9_clash_97 : decode cX9_clash 97 = .ok (.goto (-95), 3) := by decide +kernel
theorem dX9_clash_100 : decode cX9_clash 100 = .ok (.iconst 0, 1) := by decide +kernel
theorem dX9_clash_101 : decode cX9_clash 101 = .ok (.ireturn, 1) := by decide +kernel
theorem dX9_isClique_0 : decode cX9_isClique 0 = .ok (.iconst 0, 1) := by decide +kernel
theorem dX9_isClique_1 : decode cX9_isClique 1 = .ok (.istore_n 2, 1) := by decide +kernel
theorem dX9_isClique_2 : decode cX9_isClique 2 = .ok (.iload_n 2, 1) := by decide +kernel
theorem dX9_isClique_3 : decode cX9_isClique 3 = .ok (.aload_n 0, 1) := by decide +kernel
theorem dX9_isClique_4 : decode cX9_isClique 4 = .ok (.getfield 66, 3) := by decide +kernel
theorem dX9_isClique_7 : decode cX9_isClique 7 = .ok (.if_icmp .ge 124, 3) := by decide +kernel
theorem dX9_isClique_10 : decode cX9_isClique 10 = .ok (.iload_n 1, 1) := by decide +kernel
theorem dX9_isClique_11 : decode cX9_isClique 11 = .ok (.iload_n 2, 1) := by decide +kernel
theorem dX9_isClique_12 : decode cX9_isClique 12 = .ok (.ishr, 1) := by decide +kernel
theorem dX9_isClique_13 : decode cX9_isClique 13 = .ok (.iconst 1, 1) := by decide +kernel
theorem dX9_isClique_14 : decode cX9_isClique 14 = .ok (.iand, 1) := by decide +kernel
theorem dX9_isClique_15 : decode cX9_isClique 15 = .ok (.iconst 1, 1) := by decide +kernel
theorem dX9_isClique_16 : decode cX9_isClique 16 = .ok (.if_icmp .ne 7, 3) := by decide +kernel
theorem dX9_isClique_19 : decode cX9_isClique 19 = .ok (.iconst 1, 1) := by decide +kernel
theorem dX9_isClique_20 : decode cX9_isClique 20 = .ok (.goto 4, 3) := by decide +kernel
theorem dX9_isClique_23 : decode cX9_isClique 23 = .ok (.iconst 0, 1) := by decide +kernel
theorem dX9_isClique_24 : decode cX9_isClique 24 = .ok (.istore_n 3, 1) := by decide +kernel
theorem dX9_isClique_25 : decode cX9_isClique 25 = .ok (.iload_n 3, 1) := by decide +kernel
theorem dX9_isClique_26 : decode cX9_isClique 26 = .ok (.ifCond .eq 13, 3) := by decide +kernel
theorem dX9_isClique_29 : decode cX9_isClique 29 = .ok (.aload_n 0, 1) := by decide +kernel
theorem dX9_isClique_30 : decode cX9_isClique 30 = .ok (.iload_n 2, 1) := by decide +kernel
theorem dX9_isClique_31 : decode cX9_isClique 31 = .ok (.invokevirtual 130, 3) := by decide +kernel
theorem dX9_isClique_34 : decode cX9_isClique 34 = .ok (.ifCond .ne 5, 3) := by decide +kernel
theorem dX9_isClique_37 : decode cX9_isClique 37 = .ok (.iconst 0, 1) := by decide +kernel
theorem dX9_isClique_38 : decode cX9_isClique 38 = .ok (.ireturn, 1) := by decide +kernel
theorem dX9_isClique_39 : decode cX9_isClique 39 = .ok (.iconst 1, 1) := by decide +kernel
theorem dX9_isClique_40 : decode cX9_isClique 40 = .ok (.istore 4, 2) := by decide +kernel
theorem dX9_isClique_42 : decode cX9_isClique 42 = .ok (.iconst 0, 1) := by decide +kernel
theorem dX9_isClique_43 : decode cX9_isClique 43 = .ok (.istore 5, 2) := by decide +kernel
theorem dX9_isClique_45 : decode cX9_isClique 45 = .ok (.iload 5, 2) := by decide +kernel
theorem dX9_isClique_47 : decode cX9_isClique 47 = .ok (.aload_n 0, 1) := by decide +kernel
theorem dX9_isClique_48 : decode cX9_isClique 48 = .ok (.getfield 66, 3) := by decide +kernel
theorem dX9_isClique_51 : decode cX9_isClique 51 = .ok (.if_icmp .ge 46, 3) := by decide +kernel
theorem dX9_isClique_54 : decode cX9_isClique 54 = .ok (.iload 4, 2) := by decide +kernel
theorem dX9_isClique_56 : decode cX9_isClique 56 = .ok (.ifCond .eq 32, 3) := by decide +kernel
theorem dX9_isClique_59 : decode cX9_isClique 59 = .ok (.iload 5, 2) := by decide +kernel
theorem dX9_isClique_61 : decode cX9_isClique 61 = .ok (.iload_n 2, 1) := by decide +kernel
theorem dX9_isClique_62 : decode cX9_isClique 62 = .ok (.if_icmp .eq 22, 3) := by decide +kernel
theorem dX9_isClique_65 : decode cX9_isClique 65 = .ok (.iload_n 1, 1) := by decide +kernel
theorem dX9_isClique_66 : decode cX9_isClique 66 = .ok (.iload 5, 2) := by decide +kernel
theorem dX9_isClique_68 : decode cX9_isClique 68 = .ok (.ishr, 1) := by decide +kernel
theorem dX9_isClique_69 : decode cX9_isClique 69 = .ok (.iconst 1, 1) := by decide +kernel
theorem dX9_isClique_70 : decode cX9_isClique 70 = .ok (.iand, 1) := by decide +kernel
theorem dX9_isClique_71 : decode cX9_isClique 71 = .ok (.ifCond .eq 13, 3) := by decide +kernel
theorem dX9_isClique_74 : decode cX9_isClique 74 = .ok (.aload_n 0, 1) := by decide +kernel
theorem dX9_isClique_75 : decode cX9_isClique 75 = .ok (.iload_n 2, 1) := by decide +kernel
theorem dX9_isClique_76 : decode cX9_isClique 76 = .ok (.iload 5, 2) := by decide +kernel
theorem dX9_isClique_78 : decode cX9_isClique 78 = .ok (.invokevirtual 156, 3) := by decide +kernel
theorem dX9_isClique_81 : decode cX9_isClique 81 = .ok (.ifCond .eq 7, 3) := by decide +kernel
theorem dX9_isClique_84 : decode cX9_isClique 84 = .ok (.iconst 1, 1) := by decide +kernel
theorem dX9_isClique_85 : decode cX9_isClique 85 = .ok (.goto 4, 3) := by decide +kernel
theorem dX9_isClique_88 : decode cX9_isClique 88 = .ok (.iconst 0, 1) := by decide +kernel
theorem dX9_isClique_89 : decode cX9_isClique 89 = .ok (.istore 4, 2) := by decide +kernel
theorem dX9_isClique_91 : decode cX9_isClique 91 = .ok (.iinc 5 1, 3) := by decide +kernel
theorem dX9_isClique_94 : decode cX9_isClique 94 = .ok (.goto (-49), 3) := by decide +kernel
theorem dX9_isClique_97 : decode cX9_isClique 97 = .ok (.iload_n 3, 1) := by decide +kernel
theorem dX9_isClique_98 : decode cX9_isClique 98 = .ok (.ifCond .eq 8, 3) := by decide +kernel
theorem dX9_isClique_101 : decode cX9_isClique 101 = .ok (.iload 4, 2) := by decide +kernel
theorem dX9_isClique_103 : decode cX9_isClique 103 = .ok (.ifCond .eq 20, 3) := by decide +kernel
theorem dX9_isClique_106 : decode cX9_isClique 106 = .ok (.iload_n 3, 1) := by decide +kernel
theorem dX9_isClique_107 : decode cX9_isClique 107 = .ok (.ifCond .ne 18, 3) := by decide +kernel
theorem dX9_isClique_110 : decode cX9_isClique 110 = .ok (.aload_n 0, 1) := by decide +kernel
theorem dX9_isClique_111 : decode cX9_isClique 111 = .ok (.iload_n 2, 1) := by decide +kernel
theorem dX9_isClique_112 : decode cX9_isClique 112 = .ok (.invokevirtual 130, 3) := by decide +kernel
theorem dX9_isClique_115 : decode cX9_isClique 115 = .ok (.ifCond .eq 10, 3) := by decide +kernel
theorem dX9_isClique_118 : decode cX9_isClique 118 = .ok (.iload 4, 2) := by decide +kernel
theorem dX9_isClique_120 : decode cX9_isClique 120 = .ok (.ifCond .eq 5, 3) := by decide +kernel
theorem dX9_isClique_123 : decode cX9_isClique 123 = .ok (.iconst 0, 1) := by decide +kernel
theorem dX9_isClique_124 : decode cX9_isClique 124 = .ok (.ireturn, 1) := by decide +kernel
theorem dX9_isClique_125 : decode cX9_isClique 125 = .ok (.iinc 2 1, 3) := by decide +kernel
theorem dX9_isClique_128 : decode cX9_isClique 128 = .ok (.goto (-126), 3) := by decide +kernel
theorem dX9_isClique_131 : decode cX9_isClique 131 = .ok (.iconst 1, 1) := by decide +kernel
theorem dX9_isClique_132 : decode cX9_isClique 132 = .ok (.ireturn, 1) := by decide +kernel
theorem dX9_cliques_0 : decode cX9_cliques 0 = .ok (.iconst 3, 1) := by decide +kernel
theorem dX9_cliques_1 : decode cX9_cliques 1 = .ok (.istore_n 1, 1) := by decide +kernel
theorem dX9_cliques_2 : decode cX9_cliques 2 = .ok (.iload_n 1, 1) := by decide +kernel
theorem dX9_cliques_3 : decode cX9_cliques 3 = .ok (.iconst 1, 1) := by decide +kernel
theorem dX9_cliques_4 : decode cX9_cliques 4 = .ok (.aload_n 0, 1) := by decide +kernel
theorem dX9_cliques_5 : decode cX9_cliques 5 = .ok (.getfield 66, 3) := by decide +kernel
theorem dX9_cliques_8 : decode cX9_cliques 8 = .ok (.ishl, 1) := by decide +kernel
theorem dX9_cliques_9 : decode cX9_cliques 9 = .ok (.if_icmp .ge 67, 3) := by decide +kernel
theorem dX9_cliques_12 : decode cX9_cliques 12 = .ok (.iload_n 1, 1) := by decide +kernel
theorem dX9_cliques_13 : decode cX9_cliques 13 = .ok (.iload_n 1, 1) := by decide +kernel
theorem dX9_cliques_14 : decode cX9_cliques 14 = .ok (.iconst 1, 1) := by decide +kernel
theorem dX9_cliques_15 : decode cX9_cliques 15 = .ok (.isub, 1) := by decide +kernel
theorem dX9_cliques_16 : decode cX9_cliques 16 = .ok (.iand, 1) := by decide +kernel
theorem dX9_cliques_17 : decode cX9_cliques 17 = .ok (.ifCond .eq 53, 3) := by decide +kernel
theorem dX9_cliques_20 : decode cX9_cliques 20 = .ok (.aload_n 0, 1) := by decide +kernel
theorem dX9_cliques_21 : decode cX9_cliques 21 = .ok (.iload_n 1, 1) := by decide +kernel
theorem dX9_cliques_22 : decode cX9_cliques 22 = .ok (.invokevirtual 160, 3) := by decide +kernel
theorem dX9_cliques_25 : decode cX9_cliques 25 = .ok (.ifCond .eq 45, 3) := by decide +kernel
theorem dX9_cliques_28 : decode cX9_cliques 28 = .ok (.aload_n 0, 1) := by decide +kernel
theorem dX9_cliques_29 : decode cX9_cliques 29 = .ok (.invokevirtual 101, 3) := by decide +kernel
theorem dX9_cliques_32 : decode cX9_cliques 32 = .ok (.iconst 0, 1) := by decide +kernel
theorem dX9_cliques_33 : decode cX9_cliques 33 = .ok (.istore_n 2, 1) := by decide +kernel
theorem dX9_cliques_34 : decode cX9_cliques 34 = .ok (.iload_n 2, 1) := by decide +kernel
theorem dX9_cliques_35 : decode cX9_cliques 35 = .ok (.aload_n 0, 1) := by decide +kernel
theorem dX9_cliques_36 : decode cX9_cliques 36 = .ok (.getfield 66, 3) := by decide +kernel
theorem dX9_cliques_39 : decode cX9_cliques 39 = .ok (.if_icmp .ge 21, 3) := by decide +kernel
theorem dX9_cliques_42 : decode cX9_cliques 42 = .ok (.aload_n 0, 1) := by decide +kernel
theorem dX9_cliques_43 : decode cX9_cliques 43 = .ok (.getfield 45, 3) := by decide +kernel
theorem dX9_cliques_46 : decode cX9_cliques 46 = .ok (.iload_n 2, 1) := by decide +kernel
theorem dX9_cliques_47 : decode cX9_cliques 47 = .ok (.iload_n 1, 1) := by decide +kernel
theorem dX9_cliques_48 : decode cX9_cliques 48 = .ok (.iload_n 2, 1) := by decide +kernel
theorem dX9_cliques_49 : decode cX9_cliques 49 = .ok (.ishr, 1) := by decide +kernel
theorem dX9_cliques_50 : decode cX9_cliques 50 = .ok (.iconst 1, 1) := by decide +kernel
theorem dX9_cliques_51 : decode cX9_cliques 51 = .ok (.iand, 1) := by decide +kernel
theorem dX9_cliques_52 : decode cX9_cliques 52 = .ok (.i2l, 1) := by decide +kernel
theorem dX9_cliques_53 : decode cX9_cliques 53 = .ok (.lastore, 1) := by decide +kernel
theorem dX9_cliques_54 : decode cX9_cliques 54 = .ok (.iinc 2 1, 3) := by decide +kernel
theorem dX9_cliques_57 : decode cX9_cliques 57 = .ok (.goto (-23), 3) := by decide +kernel
theorem dX9_cliques_60 : decode cX9_cliques 60 = .ok (.aload_n 0, 1) := by decide +kernel
theorem dX9_cliques_61 : decode cX9_cliques 61 = .ok (.lconst 1, 1) := by decide +kernel
theorem dX9_cliques_62 : decode cX9_cliques 62 = .ok (.putfield 84, 3) := by decide +kernel
theorem dX9_cliques_65 : decode cX9_cliques 65 = .ok (.aload_n 0, 1) := by decide +kernel
theorem dX9_cliques_66 : decode cX9_cliques 66 = .ok (.iconst 3, 1) := by decide +kernel
theorem dX9_cliques_67 : decode cX9_cliques 67 = .ok (.invokevirtual 118, 3) := by decide +kernel
theorem dX9_cliques_70 : decode cX9_cliques 70 = .ok (.iinc 1 1, 3) := by decide +kernel
theorem dX9_cliques_73 : decode cX9_cliques 73 = .ok (.goto (-71), 3) := by decide +kernel
theorem dX9_cliques_76 : decode cX9_cliques 76 = .ok (.return_, 1) := by decide +kernel
theorem dX9_find_0 : decode cX9_find 0 = .ok (.aload_n 0, 1) := by decide +kernel
theorem dX9_find_1 : decode cX9_find 1 = .ok (.iconst 0, 1) := by decide +kernel
theorem dX9_find_2 : decode cX9_find 2 = .ok (.putfield 63, 3) := by decide +kernel
theorem dX9_find_5 : decode cX9_find 5 = .ok (.iload_n 1, 1) := by decide +kernel
theorem dX9_find_6 : decode cX9_find 6 = .ok (.ifCond .lt 8, 3) := by decide +kernel
theorem dX9_find_9 : decode cX9_find 9 = .ok (.iload_n 1, 1) := by decide +kernel
theorem dX9_find_10 : decode cX9_find 10 = .ok (.iconst 3, 1) := by decide +kernel
theorem dX9_find_11 : decode cX9_find 11 = .ok (.if_icmp .le 6, 3) := by decide +kernel
theorem dX9_find_14 : decode cX9_find 14 = .ok (.bipush (-2), 2) := by decide +kernel
theorem dX9_find_16 : decode cX9_find 16 = .ok (.ireturn, 1) := by decide +kernel
theorem dX9_find_17 : decode cX9_find 17 = .ok (.aload_n 0, 1) := by decide +kernel
theorem dX9_find_18 : decode cX9_find 18 = .ok (.iconst 1, 1) := by decide +kernel
theorem dX9_find_19 : decode cX9_find 19 = .ok (.putfield 41, 3) := by decide +kernel
theorem dX9_find_22 : decode cX9_find 22 = .ok (.aload_n 0, 1) := by decide +kernel
theorem dX9_find_23 : decode cX9_find 23 = .ok (.iconst 0, 1) := by decide +kernel
theorem dX9_find_24 : decode cX9_find 24 = .ok (.putfield 92, 3) := by decide +kernel
theorem dX9_find_27 : decode cX9_find 27 = .ok (.iload_n 1, 1) := by decide +kernel
theorem dX9_find_28 : decode cX9_find 28 = .ok (.tableswitch 49 0 2 #[28, 35, 42], 28) := by decide +kernel
theorem dX9_find_56 : decode cX9_find 56 = .ok (.aload_n 0, 1) := by decide +kernel
theorem dX9_find_57 : decode cX9_find 57 = .ok (.invokevirtual 163, 3) := by decide +kernel
theorem dX9_find_60 : decode cX9_find 60 = .ok (.goto 21, 3) := by decide +kernel
theorem dX9_find_63 : decode cX9_find 63 = .ok (.aload_n 0, 1) := by decide +kernel
theorem dX9_find_64 : decode cX9_find 64 = .ok (.invokevirtual 166, 3) := by decide +kernel
theorem dX9_find_67 : decode cX9_find 67 = .ok (.goto 14, 3) := by decide +kernel
theorem dX9_find_70 : decode cX9_find 70 = .ok (.aload_n 0, 1) := by decide +kernel
theorem dX9_find_71 : decode cX9_find 71 = .ok (.invokevirtual 169, 3) := by decide +kernel
theorem dX9_find_74 : decode cX9_find 74 = .ok (.goto 7, 3) := by decide +kernel
theorem dX9_find_77 : decode cX9_find 77 = .ok (.aload_n 0, 1) := by decide +kernel
theorem dX9_find_78 : decode cX9_find 78 = .ok (.invokevirtual 172, 3) := by decide +kernel
theorem dX9_find_81 : decode cX9_find 81 = .ok (.aload_n 0, 1) := by decide +kernel
theorem dX9_find_82 : decode cX9_find 82 = .ok (.getfield 92, 3) := by decide +kernel
theorem dX9_find_85 : decode cX9_find 85 = .ok (.ireturn, 1) := by decide +kernel
theorem dX9_closed_0 : decode cX9_closed 0 = .ok (.aload_n 0, 1) := by decide +kernel
theorem dX9_closed_1 : decode cX9_closed 1 = .ok (.iconst 0, 1) := by decide +kernel
theorem dX9_closed_2 : decode cX9_closed 2 = .ok (.putfield 63, 3) := by decide +kernel
theorem dX9_closed_5 : decode cX9_closed 5 = .ok (.aload_n 0, 1) := by decide +kernel
theorem dX9_closed_6 : decode cX9_closed 6 = .ok (.getfield 41, 3) := by decide +kernel
theorem dX9_closed_9 : decode cX9_closed 9 = .ok (.ireturn, 1) := by decide +kernel
theorem dX9_cut_0 : decode cX9_cut 0 = .ok (.aload_n 0, 1) := by decide +kernel
theorem dX9_cut_1 : decode cX9_cut 1 = .ok (.iconst 0, 1) := by decide +kernel
theorem dX9_cut_2 : decode cX9_cut 2 = .ok (.putfield 63, 3) := by decide +kernel
theorem dX9_cut_5 : decode cX9_cut 5 = .ok (.aload_n 0, 1) := by decide +kernel
theorem dX9_cut_6 : decode cX9_cut 6 = .ok (.iload_n 1, 1) := by decide +kernel
theorem dX9_cut_7 : decode cX9_cut 7 = .ok (.invokevirtual 175, 3) := by decide +kernel
theorem dX9_cut_10 : decode cX9_cut 10 = .ok (.ifCond .eq 15, 3) := by decide +kernel
theorem dX9_cut_13 : decode cX9_cut 13 = .ok (.iload_n 2, 1) := by decide +kernel
theorem dX9_cut_14 : decode cX9_cut 14 = .ok (.ifCond .ne 18, 3) := by decide +kernel
theorem dX9_cut_17 : decode cX9_cut 17 = .ok (.aload_n 0, 1) := by decide +kernel
theorem dX9_cut_18 : decode cX9_cut 18 = .ok (.iload_n 3, 1) := by decide +kernel
theorem dX9_cut_19 : decode cX9_cut 19 = .ok (.invokevirtual 79, 3) := by decide +kernel
theorem dX9_cut_22 : decode cX9_cut 22 = .ok (.ifCond .ne 10, 3) := by decide +kernel
theorem dX9_cut_25 : decode cX9_cut 25 = .ok (.aload_n 0, 1) := by decide +kernel
theorem dX9_cut_26 : decode cX9_cut 26 = .ok (.iconst 1, 1) := by decide +kernel
theorem dX9_cut_27 : decode cX9_cut 27 = .ok (.putfield 63, 3) := by decide +kernel
theorem dX9_cut_30 : decode cX9_cut 30 = .ok (.iconst 0, 1) := by decide +kernel
theorem dX9_cut_31 : decode cX9_cut 31 = .ok (.ireturn, 1) := by decide +kernel
theorem dX9_cut_32 : decode cX9_cut 32 = .ok (.iload_n 2, 1) := by decide +kernel
theorem dX9_cut_33 : decode cX9_cut 33 = .ok (.tableswitch 66 0 3 #[31, 44, 52, 59], 31) := by decide +kernel
theorem dX9_cut_64 : decode cX9_cut 64 = .ok (.aload_n 0, 1) := by decide +kernel
theorem dX9_cut_65 : decode cX9_cut 65 = .ok (.getfield 26, 3) := by decide +kernel
theorem dX9_cut_68 : decode cX9_cut 68 = .ok (.bipush 8, 2) := by decide +kernel
theorem dX9_cut_70 : decode cX9_cut 70 = .ok (.iload_n 1, 1) := by decide +kernel
theorem dX9_cut_71 : decode cX9_cut 71 = .ok (.imul, 1) := by decide +kernel
theorem dX9_cut_72 : decode cX9_cut 72 = .ok (.iload_n 3, 1) := by decide +kernel
theorem dX9_cut_73 : decode cX9_cut 73 = .ok (.iadd, 1) := by decide +kernel
theorem dX9_cut_74 : decode cX9_cut 74 = .ok (.laload, 1) := by decide +kernel
theorem dX9_cut_75 : decode cX9_cut 75 = .ok (.l2i, 1) := by decide +kernel
theorem dX9_cut_76 : decode cX9_cut 76 = .ok (.ireturn, 1) := by decide +kernel
theorem dX9_cut_77 : decode cX9_cut 77 = .ok (.aload_n 0, 1) := by decide +kernel
theorem dX9_cut_78 : decode cX9_cut 78 = .ok (.getfield 29, 3) := by decide +kernel
theorem dX9_cut_81 : decode cX9_cut 81 = .ok (.iload_n 1, 1) := by decide +kernel
theorem dX9_cut_82 : decode cX9_cut 82 = .ok (.laload, 1) := by decide +kernel
theorem dX9_cut_83 : decode cX9_cut 83 = .ok (.l2i, 1) := by decide +kernel
theorem dX9_cut_84 : decode cX9_cut 84 = .ok (.ireturn, 1) := by decide +kernel
theorem dX9_cut_85 : decode cX9_cut 85 = .ok (.aload_n 0, 1) := by decide +kernel
theorem dX9_cut_86 : decode cX9_cut 86 = .ok (.getfield 32, 3) := by decide +kernel
theorem dX9_cut_89 : decode cX9_cut 89 = .ok (.iload_n 1, 1) := by decide +kernel
theorem dX9_cut_90 : decode cX9_cut 90 = .ok (.iaload, 1) := by decide +kernel
theorem dX9_cut_91 : decode cX9_cut 91 = .ok (.ireturn, 1) := by decide +kernel
theorem dX9_cut_92 : decode cX9_cut 92 = .ok (.aload_n 0, 1) := by decide +kernel
theorem dX9_cut_93 : decode cX9_cut 93 = .ok (.getfield 35, 3) := by decide +kernel
theorem dX9_cut_96 : decode cX9_cut 96 = .ok (.iload_n 1, 1) := by decide +kernel
theorem dX9_cut_97 : decode cX9_cut 97 = .ok (.iaload, 1) := by decide +kernel
theorem dX9_cut_98 : decode cX9_cut 98 = .ok (.ireturn, 1) := by decide +kernel
theorem dX9_cut_99 : decode cX9_cut 99 = .ok (.aload_n 0, 1) := by decide +kernel
theorem dX9_cut_100 : decode cX9_cut 100 = .ok (.iconst 2, 1) := by decide +kernel
theorem dX9_cut_101 : decode cX9_cut 101 = .ok (.putfield 63, 3) := by decide +kernel
theorem dX9_cut_104 : decode cX9_cut 104 = .ok (.iconst 0, 1) := by decide +kernel
theorem dX9_cut_105 : decode cX9_cut 105 = .ok (.ireturn, 1) := by decide +kernel
theorem dX9_placeOf_0 : decode cX9_placeOf 0 = .ok (.aload_n 0, 1) := by decide +kernel
theorem dX9_placeOf_1 : decode cX9_placeOf 1 = .ok (.iload_n 1, 1) := by decide +kernel
theorem dX9_placeOf_2 : decode cX9_placeOf 2 = .ok (.invokevirtual 175, 3) := by decide +kernel
theorem dX9_placeOf_5 : decode cX9_placeOf 5 = .ok (.ifCond .ne 5, 3) := by decide +kernel
theorem dX9_placeOf_8 : decode cX9_placeOf 8 = .ok (.iconst (-1), 1) := by decide +kernel
theorem dX9_placeOf_9 : decode cX9_placeOf 9 = .ok (.ireturn, 1) := by decide +kernel
theorem dX9_placeOf_10 : decode cX9_placeOf 10 = .ok (.iload_n 2, 1) := by decide +kernel
theorem dX9_placeOf_11 : decode cX9_placeOf 11 = .ok (.ifCond .lt 8, 3) := by decide +kernel
theorem dX9_placeOf_14 : decode cX9_placeOf 14 = .ok (.iload_n 2, 1) := by decide +kernel
theorem dX9_placeOf_15 : decode cX9_placeOf 15 = .ok (.iconst 3, 1) := by decide +kernel
theorem dX9_placeOf_16 : decode cX9_placeOf 16 = .ok (.if_icmp .le 6, 3) := by decide +kernel
theorem dX9_placeOf_19 : decode cX9_placeOf 19 = .ok (.bipush (-2), 2) := by decide +kernel
theorem dX9_placeOf_21 : decode cX9_placeOf 21 = .ok (.ireturn, 1) := by decide +kernel
theorem dX9_placeOf_22 : decode cX9_placeOf 22 = .ok (.aload_n 0, 1) := by decide +kernel
theorem dX9_placeOf_23 : decode cX9_placeOf 23 = .ok (.getfield 32, 3) := by decide +kernel
theorem dX9_placeOf_26 : decode cX9_placeOf 26 = .ok (.iload_n 1, 1) := by decide +kernel
theorem dX9_placeOf_27 : decode cX9_placeOf 27 = .ok (.iaload, 1) := by decide +kernel
theorem dX9_placeOf_28 : decode cX9_placeOf 28 = .ok (.istore 4, 2) := by decide +kernel
theorem dX9_placeOf_30 : decode cX9_placeOf 30 = .ok (.iload 4, 2) := by decide +kernel
theorem dX9_placeOf_32 : decode cX9_placeOf 32 = .ok (.iconst 3, 1) := by decide +kernel
theorem dX9_placeOf_33 : decode cX9_placeOf 33 = .ok (.if_icmp .eq 13, 3) := by decide +kernel
theorem dX9_placeOf_36 : decode cX9_placeOf 36 = .ok (.iload 4, 2) := by decide +kernel
theorem dX9_placeOf_38 : decode cX9_placeOf 38 = .ok (.iconst 2, 1) := by decide +kernel
theorem dX9_placeOf_39 : decode cX9_placeOf 39 = .ok (.if_icmp .ne 9, 3) := by decide +kernel
theorem dX9_placeOf_42 : decode cX9_placeOf 42 = .ok (.iload_n 2, 1) := by decide +kernel
theorem dX9_placeOf_43 : decode cX9_placeOf 43 = .ok (.ifCond .eq 5, 3) := by decide +kernel
theorem dX9_placeOf_46 : decode cX9_placeOf 46 = .ok (.iconst (-1), 1) := by decide +kernel
theorem dX9_placeOf_47 : decode cX9_placeOf 47 = .ok (.ireturn, 1) := by decide +kernel
theorem dX9_placeOf_48 : decode cX9_placeOf 48 = .ok (.iload 4, 2) := by decide +kernel
theorem dX9_placeOf_50 : decode cX9_placeOf 50 = .ok (.iconst 2, 1) := by decide +kernel
theorem dX9_placeOf_51 : decode cX9_placeOf 51 = .ok (.if_icmp .eq 8, 3) := by decide +kernel
theorem dX9_placeOf_54 : decode cX9_placeOf 54 = .ok (.iload_n 2, 1) := by decide +kernel
theorem dX9_placeOf_55 : decode cX9_placeOf 55 = .ok (.iconst 3, 1) := by decide +kernel
theorem dX9_placeOf_56 : decode cX9_placeOf 56 = .ok (.if_icmp .ne 24, 3) := by decide +kernel
theorem dX9_placeOf_59 : decode cX9_placeOf 59 = .ok (.iload_n 3, 1) := by decide +kernel
theorem dX9_placeOf_60 : decode cX9_placeOf 60 = .ok (.ifCond .eq 8, 3) := by decide +kernel
theorem dX9_placeOf_63 : decode cX9_placeOf 63 = .ok (.bipush (-2), 2) := by decide +kernel
theorem dX9_placeOf_65 : decode cX9_placeOf 65 = .ok (.goto 14, 3) := by decide +kernel
theorem dX9_placeOf_68 : decode cX9_placeOf 68 = .ok (.iload_n 2, 1) := by decide +kernel
theorem dX9_placeOf_69 : decode cX9_placeOf 69 = .ok (.iconst 3, 1) := by decide +kernel
theorem dX9_placeOf_70 : decode cX9_placeOf 70 = .ok (.if_icmp .ne 8, 3) := by decide +kernel
theorem dX9_placeOf_73 : decode cX9_placeOf 73 = .ok (.bipush 26, 2) := by decide +kernel
theorem dX9_placeOf_75 : decode cX9_placeOf 75 = .ok (.goto 4, 3) := by decide +kernel
theorem dX9_placeOf_78 : decode cX9_placeOf 78 = .ok (.iconst 0, 1) := by decide +kernel
theorem dX9_placeOf_79 : decode cX9_placeOf 79 = .ok (.ireturn, 1) := by decide +kernel
theorem dX9_placeOf_80 : decode cX9_placeOf 80 = .ok (.iload_n 2, 1) := by decide +kernel
theorem dX9_placeOf_81 : decode cX9_placeOf 81 = .ok (.ifCond .ne 17, 3) := by decide +kernel
theorem dX9_placeOf_84 : decode cX9_placeOf 84 = .ok (.aload_n 0, 1) := by decide +kernel
theorem dX9_placeOf_85 : decode cX9_placeOf 85 = .ok (.iload_n 3, 1) := by decide +kernel
theorem dX9_placeOf_86 : decode cX9_placeOf 86 = .ok (.invokevirtual 75, 3) := by decide +kernel
theorem dX9_placeOf_89 : decode cX9_placeOf 89 = .ok (.ifCond .eq 7, 3) := by decide +kernel
theorem dX9_placeOf_92 : decode cX9_placeOf 92 = .ok (.iload_n 3, 1) := by decide +kernel
theorem dX9_placeOf_93 : decode cX9_placeOf 93 = .ok (.goto 4, 3) := by decide +kernel
theorem dX9_placeOf_96 : decode cX9_placeOf 96 = .ok (.iconst (-1), 1) := by decide +kernel
theorem dX9_placeOf_97 : decode cX9_placeOf 97 = .ok (.ireturn, 1) := by decide +kernel
theorem dX9_placeOf_98 : decode cX9_placeOf 98 = .ok (.aload_n 0, 1) := by decide +kernel
theorem dX9_placeOf_99 : decode cX9_placeOf 99 = .ok (.iload_n 3, 1) := by decide +kernel
theorem dX9_placeOf_100 : decode cX9_placeOf 100 = .ok (.invokevirtual 79, 3) := by decide +kernel
theorem dX9_placeOf_103 : decode cX9_placeOf 103 = .ok (.ifCond .ne 7, 3) := by decide +kernel
theorem dX9_placeOf_106 : decode cX9_placeOf 106 = .ok (.iconst (-1), 1) := by decide +kernel
theorem dX9_placeOf_107 : decode cX9_placeOf 107 = .ok (.goto 19, 3) := by decide +kernel
theorem dX9_placeOf_110 : decode cX9_placeOf 110 = .ok (.iload_n 2, 1) := by decide +kernel
theorem dX9_placeOf_111 : decode cX9_placeOf 111 = .ok (.iconst 1, 1) := by decide +kernel
theorem dX9_placeOf_112 : decode cX9_placeOf 112 = .ok (.if_icmp .ne 10, 3) := by decide +kernel
theorem dX9_placeOf_115 : decode cX9_placeOf 115 = .ok (.bipush 10, 2) := by decide +kernel
theorem dX9_placeOf_117 : decode cX9_placeOf 117 = .ok (.iload_n 3, 1) := by decide +kernel
theorem dX9_placeOf_118 : decode cX9_placeOf 118 = .ok (.iadd, 1) := by decide +kernel
theorem dX9_placeOf_119 : decode cX9_placeOf 119 = .ok (.goto 7, 3) := by decide +kernel
theorem dX9_placeOf_122 : decode cX9_placeOf 122 = .ok (.bipush 18, 2) := by decide +kernel
theorem dX9_placeOf_124 : decode cX9_placeOf 124 = .ok (.iload_n 3, 1) := by decide +kernel
theorem dX9_placeOf_125 : decode cX9_placeOf 125 = .ok (.iadd, 1) := by decide +kernel
theorem dX9_placeOf_126 : decode cX9_placeOf 126 = .ok (.ireturn, 1) := by decide +kernel
theorem dX9_proof_0 : decode cX9_proof 0 = .ok (.aload_n 0, 1) := by decide +kernel
theorem dX9_proof_1 : decode cX9_proof 1 = .ok (.iconst 0, 1) := by decide +kernel
theorem dX9_proof_2 : decode cX9_proof 2 = .ok (.putfield 63, 3) := by decide +kernel
theorem dX9_proof_5 : decode cX9_proof 5 = .ok (.aload_n 0, 1) := by decide +kernel
theorem dX9_proof_6 : decode cX9_proof 6 = .ok (.iload_n 1, 1) := by decide +kernel
theorem dX9_proof_7 : decode cX9_proof 7 = .ok (.iload_n 2, 1) := by decide +kernel
theorem dX9_proof_8 : decode cX9_proof 8 = .ok (.iload_n 3, 1) := by decide +kernel
theorem dX9_proof_9 : decode cX9_proof 9 = .ok (.invokevirtual 178, 3) := by decide +kernel
theorem dX9_proof_12 : decode cX9_proof 12 = .ok (.istore 4, 2) := by decide +kernel
theorem dX9_proof_14 : decode cX9_proof 14 = .ok (.iload 4, 2) := by decide +kernel
theorem dX9_proof_16 : decode cX9_proof 16 = .ok (.ifCond .ge 8, 3) := by decide +kernel
theorem dX9_proof_19 : decode cX9_proof 19 = .ok (.iload 4, 2) := by decide +kernel
theorem dX9_proof_21 : decode cX9_proof 21 = .ok (.goto 15, 3) := by decide +kernel
theorem dX9_proof_24 : decode cX9_proof 24 = .ok (.aload_n 0, 1) := by decide +kernel
theorem dX9_proof_25 : decode cX9_proof 25 = .ok (.getfield 38, 3) := by decide +kernel
theorem dX9_proof_28 : decode cX9_proof 28 = .ok (.bipush 27, 2) := by decide +kernel
theorem dX9_proof_30 : decode cX9_proof 30 = .ok (.iload_n 1, 1) := by decide +kernel
theorem dX9_proof_31 : decode cX9_proof 31 = .ok (.imul, 1) := by decide +kernel
theorem dX9_proof_32 : decode cX9_proof 32 = .ok (.iload 4, 2) := by decide +kernel
theorem dX9_proof_34 : decode cX9_proof 34 = .ok (.iadd, 1) := by decide +kernel
theorem dX9_proof_35 : decode cX9_proof 35 = .ok (.iaload, 1) := by decide +kernel
theorem dX9_proof_36 : decode cX9_proof 36 = .ok (.ireturn, 1) := by decide +kernel
theorem dX9_plant_0 : decode cX9_plant 0 = .ok (.aload_n 0, 1) := by decide +kernel
theorem dX9_plant_1 : decode cX9_plant 1 = .ok (.iconst 0, 1) := by decide +kernel
theorem dX9_plant_2 : decode cX9_plant 2 = .ok (.putfield 63, 3) := by decide +kernel
theorem dX9_plant_5 : decode cX9_plant 5 = .ok (.aload_n 0, 1) := by decide +kernel
theorem dX9_plant_6 : decode cX9_plant 6 = .ok (.iload_n 1, 1) := by decide +kernel
theorem dX9_plant_7 : decode cX9_plant 7 = .ok (.invokevirtual 175, 3) := by decide +kernel
theorem dX9_plant_10 : decode cX9_plant 10 = .ok (.ifCond .eq 15, 3) := by decide +kernel
theorem dX9_plant_13 : decode cX9_plant 13 = .ok (.iload_n 2, 1) := by decide +kernel
theorem dX9_plant_14 : decode cX9_plant 14 = .ok (.ifCond .ne 13, 3) := by decide +kernel
theorem dX9_plant_17 : decode cX9_plant 17 = .ok (.aload_n 0, 1) := by decide +kernel
theorem dX9_plant_18 : decode cX9_plant 18 = .ok (.iload_n 3, 1) := by decide +kernel
theorem dX9_plant_19 : decode cX9_plant 19 = .ok (.invokevirtual 79, 3) := by decide +kernel
theorem dX9_plant_22 : decode cX9_plant 22 = .ok (.ifCond .ne 5, 3) := by decide +kernel
theorem dX9_plant_25 : decode cX9_plant 25 = .ok (.iconst (-1), 1) := by decide +kernel
theorem dX9_plant_26 : decode cX9_plant 26 = .ok (.ireturn, 1) := by decide +kernel
theorem dX9_plant_27 : decode cX9_plant 27 = .ok (.iload_n 2, 1) := by decide +kernel
theorem dX9_plant_28 : decode cX9_plant 28 = .ok (.ifCond .ge 8, 3) := by decide +kernel
theorem dX9_plant_31 : decode cX9_plant 31 = .ok (.bipush (-2), 2) := by decide +kernel
theorem dX9_plant_33 : decode cX9_plant 33 = .ok (.goto 38, 3) := by decide +kernel
theorem dX9_plant_36 : decode cX9_plant 36 = .ok (.iload_n 2, 1) := by decide +kernel
theorem dX9_plant_37 : decode cX9_plant 37 = .ok (.ifCond .ne 7, 3) := by decide +kernel
theorem dX9_plant_40 : decode cX9_plant 40 = .ok (.iconst 0, 1) := by decide +kernel
theorem dX9_plant_41 : decode cX9_plant 41 = .ok (.goto 30, 3) := by decide +kernel
theorem dX9_plant_44 : decode cX9_plant 44 = .ok (.iload_n 2, 1) := by decide +kernel
theorem dX9_plant_45 : decode cX9_plant 45 = .ok (.iconst 1, 1) := by decide +kernel
theorem dX9_plant_46 : decode cX9_plant 46 = .ok (.if_icmp .ne 16, 3) := by decide +kernel
theorem dX9_plant_49 : decode cX9_plant 49 = .ok (.iload_n 3, 1) := by decide +kernel
theorem dX9_plant_50 : decode cX9_plant 50 = .ok (.ifCond .ne 7, 3) := by decide +kernel
theorem dX9_plant_53 : decode cX9_plant 53 = .ok (.iconst 0, 1) := by decide +kernel
theorem dX9_plant_54 : decode cX9_plant 54 = .ok (.goto 17, 3) := by decide +kernel
theorem dX9_plant_57 : decode cX9_plant 57 = .ok (.bipush (-2), 2) := by decide +kernel
theorem dX9_plant_59 : decode cX9_plant 59 = .ok (.goto 12, 3) := by decide +kernel
theorem dX9_plant_62 : decode cX9_plant 62 = .ok (.aload_n 0, 1) := by decide +kernel
theorem dX9_plant_63 : decode cX9_plant 63 = .ok (.iload_n 1, 1) := by decide +kernel
theorem dX9_plant_64 : decode cX9_plant 64 = .ok (.iload_n 2, 1) := by decide +kernel
theorem dX9_plant_65 : decode cX9_plant 65 = .ok (.iconst 2, 1) := by decide +kernel
theorem dX9_plant_66 : decode cX9_plant 66 = .ok (.isub, 1) := by decide +kernel
theorem dX9_plant_67 : decode cX9_plant 67 = .ok (.iload_n 3, 1) := by decide +kernel
theorem dX9_plant_68 : decode cX9_plant 68 = .ok (.invokevirtual 178, 3) := by decide +kernel
theorem dX9_plant_71 : decode cX9_plant 71 = .ok (.istore 5, 2) := by decide +kernel
theorem dX9_plant_73 : decode cX9_plant 73 = .ok (.iload 5, 2) := by decide +kernel
theorem dX9_plant_75 : decode cX9_plant 75 = .ok (.iconst (-1), 1) := by decide +kernel
theorem dX9_plant_76 : decode cX9_plant 76 = .ok (.if_icmp .ne 5, 3) := by decide +kernel
theorem dX9_plant_79 : decode cX9_plant 79 = .ok (.iconst (-1), 1) := by decide +kernel
theorem dX9_plant_80 : decode cX9_plant 80 = .ok (.ireturn, 1) := by decide +kernel
theorem dX9_plant_81 : decode cX9_plant 81 = .ok (.iload 5, 2) := by decide +kernel
theorem dX9_plant_83 : decode cX9_plant 83 = .ok (.bipush (-2), 2) := by decide +kernel
theorem dX9_plant_85 : decode cX9_plant 85 = .ok (.if_icmp .eq 19, 3) := by decide +kernel
theorem dX9_plant_88 : decode cX9_plant 88 = .ok (.iload 4, 2) := by decide +kernel
theorem dX9_plant_90 : decode cX9_plant 90 = .ok (.sipush (-1000), 3) := by decide +kernel
theorem dX9_plant_93 : decode cX9_plant 93 = .ok (.if_icmp .lt 11, 3) := by decide +kernel
theorem dX9_plant_96 : decode cX9_plant 96 = .ok (.iload 4, 2) := by decide +kernel
theorem dX9_plant_98 : decode cX9_plant 98 = .ok (.sipush 1000, 3) := by decide +kernel
theorem dX9_plant_101 : decode cX9_plant 101 = .ok (.if_icmp .le 6, 3) := by decide +kernel
theorem dX9_plant_104 : decode cX9_plant 104 = .ok (.bipush (-2), 2) := by decide +kernel
theorem dX9_plant_106 : decode cX9_plant 106 = .ok (.ireturn, 1) := by decide +kernel
theorem dX9_plant_107 : decode cX9_plant 107 = .ok (.iload_n 2, 1) := by decide +kernel
theorem dX9_plant_108 : decode cX9_plant 108 = .ok (.ifCond .ne 20, 3) := by decide +kernel
theorem dX9_plant_111 : decode cX9_plant 111 = .ok (.aload_n 0, 1) := by decide +kernel
theorem dX9_plant_112 : decode cX9_plant 112 = .ok (.getfield 26, 3) := by decide +kernel
theorem dX9_plant_115 : decode cX9_plant 115 = .ok (.bipush 8, 2) := by decide +kernel
theorem dX9_plant_117 : decode cX9_plant 117 = .ok (.iload_n 1, 1) := by decide +kernel
theorem dX9_plant_118 : decode cX9_plant 118 = .ok (.imul, 1) := by decide +kernel
theorem dX9_plant_119 : decode cX9_plant 119 = .ok (.iload_n 3, 1) := by decide +kernel
theorem dX9_plant_120 : decode cX9_plant 120 = .ok (.iadd, 1) := by decide +kernel
theorem dX9_plant_121 : decode cX9_plant 121 = .ok (.iload 4, 2) := by decide +kernel
theorem dX9_plant_123 : decode cX9_plant 123 = .ok (.i2l, 1) := by decide +kernel
theorem dX9_plant_124 : decode cX9_plant 124 = .ok (.lastore, 1) := by decide +kernel
theorem dX9_plant_125 : decode cX9_plant 125 = .ok (.goto 34, 3) := by decide +kernel
theorem dX9_plant_128 : decode cX9_plant 128 = .ok (.iload_n 2, 1) := by decide +kernel
theorem dX9_plant_129 : decode cX9_plant 129 = .ok (.iconst 1, 1) := by decide +kernel
theorem dX9_plant_130 : decode cX9_plant 130 = .ok (.if_icmp .ne 15, 3) := by decide +kernel
theorem dX9_plant_133 : decode cX9_plant 133 = .ok (.aload_n 0, 1) := by decide +kernel
theorem dX9_plant_134 : decode cX9_plant 134 = .ok (.getfield 29, 3) := by decide +kernel
theorem dX9_plant_137 : decode cX9_plant 137 = .ok (.iload_n 1, 1) := by decide +kernel
theorem dX9_plant_138 : decode cX9_plant 138 = .ok (.iload 4, 2) := by decide +kernel
theorem dX9_plant_140 : decode cX9_plant 140 = .ok (.i2l, 1) := by decide +kernel
theorem dX9_plant_141 : decode cX9_plant 141 = .ok (.lastore, 1) := by decide +kernel
theorem dX9_plant_142 : decode cX9_plant 142 = .ok (.goto 17, 3) := by decide +kernel
theorem dX9_plant_145 : decode cX9_plant 145 = .ok (.aload_n 0, 1) := by decide +kernel
theorem dX9_plant_146 : decode cX9_plant 146 = .ok (.getfield 38, 3) := by decide +kernel
theorem dX9_plant_149 : decode cX9_plant 149 = .ok (.bipush 27, 2) := by decide +kernel
theorem dX9_plant_151 : decode cX9_plant 151 = .ok (.iload_n 1, 1) := by decide +kernel
theorem dX9_plant_152 : decode cX9_plant 152 = .ok (.imul, 1) := by decide +kernel
theorem dX9_plant_153 : decode cX9_plant 153 = .ok (.iload 5, 2) := by decide +kernel
theorem dX9_plant_155 : decode cX9_plant 155 = .ok (.iadd, 1) := by decide +kernel
theorem dX9_plant_156 : decode cX9_plant 156 = .ok (.iload 4, 2) := by decide +kernel
theorem dX9_plant_158 : decode cX9_plant 158 = .ok (.iastore, 1) := by decide +kernel
theorem dX9_plant_159 : decode cX9_plant 159 = .ok (.iconst 1, 1) := by decide +kernel
theorem dX9_plant_160 : decode cX9_plant 160 = .ok (.ireturn, 1) := by decide +kernel
theorem dX9_acceptsSum_0 : decode cX9_acceptsSum 0 = .ok (.bipush 27, 2) := by decide +kernel
theorem dX9_acceptsSum_2 : decode cX9_acceptsSum 2 = .ok (.iload_n 1, 1) := by decide +kernel
theorem dX9_acceptsSum_3 : decode cX9_acceptsSum 3 = .ok (.imul, 1) := by decide +kernel
theorem dX9_acceptsSum_4 : decode cX9_acceptsSum 4 = .ok (.istore_n 2, 1) := by decide +kernel
theorem dX9_acceptsSum_5 : decode cX9_acceptsSum 5 = .ok (.aload_n 0, 1) := by decide +kernel
theorem dX9_acceptsSum_6 : decode cX9_acceptsSum 6 = .ok (.getfield 38, 3) := by decide +kernel
theorem dX9_acceptsSum_9 : decode cX9_acceptsSum 9 = .ok (.iload_n 2, 1) := by decide +kernel
theorem dX9_acceptsSum_10 : decode cX9_acceptsSum 10 = .ok (.bipush 26, 2) := by decide +kernel
theorem dX9_acceptsSum_12 : decode cX9_acceptsSum 12 = .ok (.iadd, 1) := by decide +kernel
theorem dX9_acceptsSum_13 : decode cX9_acceptsSum 13 = .ok (.iaload, 1) := by decide +kernel
theorem dX9_acceptsSum_14 : decode cX9_acceptsSum 14 = .ok (.i2l, 1) := by decide +kernel
theorem dX9_acceptsSum_15 : decode cX9_acceptsSum 15 = .ok (.lstore_n 3, 1) := by decide +kernel
theorem dX9_acceptsSum_16 : decode cX9_acceptsSum 16 = .ok (.lload_n 3, 1) := by decide +kernel
theorem dX9_acceptsSum_17 : decode cX9_acceptsSum 17 = .ok (.lconst 1, 1) := by decide +kernel
theorem dX9_acceptsSum_18 : decode cX9_acceptsSum 18 = .ok (.lcmp, 1) := by decide +kernel
theorem dX9_acceptsSum_19 : decode cX9_acceptsSum 19 = .ok (.ifCond .lt 7, 3) := by decide +kernel
theorem dX9_acceptsSum_22 : decode cX9_acceptsSum 22 = .ok (.iconst 1, 1) := by decide +kernel
theorem dX9_acceptsSum_23 : decode cX9_acceptsSum 23 = .ok (.goto 4, 3) := by decide +kernel
theorem dX9_acceptsSum_26 : decode cX9_acceptsSum 26 = .ok (.iconst 0, 1) := by decide +kernel
theorem dX9_acceptsSum_27 : decode cX9_acceptsSum 27 = .ok (.istore 5, 2) := by decide +kernel
theorem dX9_acceptsSum_29 : decode cX9_acceptsSum 29 = .ok (.lconst 0, 1) := by decide +kernel
theorem dX9_acceptsSum_30 : decode cX9_acceptsSum 30 = .ok (.lstore 6, 2) := by decide +kernel
theorem dX9_acceptsSum_32 : decode cX9_acceptsSum 32 = .ok (.iconst 0, 1) := by decide +kernel
theorem dX9_acceptsSum_33 : decode cX9_acceptsSum 33 = .ok (.istore 8, 2) := by decide +kernel
theorem dX9_acceptsSum_35 : decode cX9_acceptsSum 35 = .ok (.iload 8, 2) := by decide +kernel
theorem dX9_acceptsSum_37 : decode cX9_acceptsSum 37 = .ok (.aload_n 0, 1) := by decide +kernel
theorem dX9_acceptsSum_38 : decode cX9_acceptsSum 38 = .ok (.getfield 72, 3) := by decide +kernel
theorem dX9_acceptsSum_41 : decode cX9_acceptsSum 41 = .ok (.if_icmp .ge 57, 3) := by decide +kernel
theorem dX9_acceptsSum_44 : decode cX9_acceptsSum 44 = .ok (.iload 5, 2) := by decide +kernel
theorem dX9_acceptsSum_46 : decode cX9_acceptsSum 46 = .ok (.ifCond .eq 19, 3) := by decide +kernel
theorem dX9_acceptsSum_49 : decode cX9_acceptsSum 49 = .ok (.aload_n 0, 1) := by decide +kernel
theorem dX9_acceptsSum_50 : decode cX9_acceptsSum 50 = .ok (.getfield 38, 3) := by decide +kernel
theorem dX9_acceptsSum_53 : decode cX9_acceptsSum 53 = .ok (.iload_n 2, 1) := by decide +kernel
theorem dX9_acceptsSum_54 : decode cX9_acceptsSum 54 = .ok (.iload 8, 2) := by decide +kernel
theorem dX9_acceptsSum_56 : decode cX9_acceptsSum 56 = .ok (.iadd, 1) := by decide +kernel
theorem dX9_acceptsSum_57 : decode cX9_acceptsSum 57 = .ok (.iaload, 1) := by decide +kernel
theorem dX9_acceptsSum_58 : decode cX9_acceptsSum 58 = .ok (.ifCond .lt 7, 3) := by decide +kernel
theorem dX9_acceptsSum_61 : decode cX9_acceptsSum 61 = .ok (.iconst 1, 1) := by decide +kernel
theorem dX9_acceptsSum_62 : decode cX9_acceptsSum 62 = .ok (.goto 4, 3) := by decide +kernel
theorem dX9_acceptsSum_65 : decode cX9_acceptsSum 65 = .ok (.iconst 0, 1) := by decide +kernel
theorem dX9_acceptsSum_66 : decode cX9_acceptsSum 66 = .ok (.istore 5, 2) := by decide +kernel
theorem dX9_acceptsSum_68 : decode cX9_acceptsSum 68 = .ok (.lload 6, 2) := by decide +kernel
theorem dX9_acceptsSum_70 : decode cX9_acceptsSum 70 = .ok (.aload_n 0, 1) := by decide +kernel
theorem dX9_acceptsSum_71 : decode cX9_acceptsSum 71 = .ok (.getfield 38, 3) := by decide +kernel
theorem dX9_acceptsSum_74 : decode cX9_acceptsSum 74 = .ok (.iload_n 2, 1) := by decide +kernel
theorem dX9_acceptsSum_75 : decode cX9_acceptsSum 75 = .ok (.iload 8, 2) := by decide +kernel
theorem dX9_acceptsSum_77 : decode cX9_acceptsSum 77 = .ok (.iadd, 1) := by decide +kernel
theorem dX9_acceptsSum_78 : decode cX9_acceptsSum 78 = .ok (.iaload, 1) := by decide +kernel
theorem dX9_acceptsSum_79 : decode cX9_acceptsSum 79 = .ok (.i2l, 1) := by decide +kernel
theorem dX9_acceptsSum_80 : decode cX9_acceptsSum 80 = .ok (.aload_n 0, 1) := by decide +kernel
theorem dX9_acceptsSum_81 : decode cX9_acceptsSum 81 = .ok (.getfield 20, 3) := by decide +kernel
theorem dX9_acceptsSum_84 : decode cX9_acceptsSum 84 = .ok (.iload 8, 2) := by decide +kernel
theorem dX9_acceptsSum_86 : decode cX9_acceptsSum 86 = .ok (.iaload, 1) := by decide +kernel
theorem dX9_acceptsSum_87 : decode cX9_acceptsSum 87 = .ok (.i2l, 1) := by decide +kernel
theorem dX9_acceptsSum_88 : decode cX9_acceptsSum 88 = .ok (.lmul, 1) := by decide +kernel
theorem dX9_acceptsSum_89 : decode cX9_acceptsSum 89 = .ok (.ladd, 1) := by decide +kernel
theorem dX9_acceptsSum_90 : decode cX9_acceptsSum 90 = .ok (.lstore 6, 2) := by decide +kernel
theorem dX9_acceptsSum_92 : decode cX9_acceptsSum 92 = .ok (.iinc 8 1, 3) := by decide +kernel
theorem dX9_acceptsSum_95 : decode cX9_acceptsSum 95 = .ok (.goto (-60), 3) := by decide +kernel
theorem dX9_acceptsSum_98 : decode cX9_acceptsSum 98 = .ok (.iconst 0, 1) := by decide +kernel
theorem dX9_acceptsSum_99 : decode cX9_acceptsSum 99 = .ok (.istore 8, 2) := by decide +kernel
theorem dX9_acceptsSum_101 : decode cX9_acceptsSum 101 = .ok (.iload 8, 2) := by decide +kernel
theorem dX9_acceptsSum_103 : decode cX9_acceptsSum 103 = .ok (.aload_n 0, 1) := by decide +kernel
theorem dX9_acceptsSum_104 : decode cX9_acceptsSum 104 = .ok (.getfield 66, 3) := by decide +kernel
theorem dX9_acceptsSum_107 : decode cX9_acceptsSum 107 = .ok (.if_icmp .ge 178, 3) := by decide +kernel
theorem dX9_acceptsSum_110 : decode cX9_acceptsSum 110 = .ok (.aload_n 0, 1) := by decide +kernel
theorem dX9_acceptsSum_111 : decode cX9_acceptsSum 111 = .ok (.getfield 38, 3) := by decide +kernel
theorem dX9_acceptsSum_114 : decode cX9_acceptsSum 114 = .ok (.iload_n 2, 1) := by decide +kernel
theorem dX9_acceptsSum_115 : decode cX9_acceptsSum 115 = .ok (.bipush 10, 2) := by decide +kernel
theorem dX9_acceptsSum_117 : decode cX9_acceptsSum 117 = .ok (.iadd, 1) := by decide +kernel
theorem dX9_acceptsSum_118 : decode cX9_acceptsSum 118 = .ok (.iload 8, 2) := by decide +kernel
theorem dX9_acceptsSum_120 : decode cX9_acceptsSum 120 = .ok (.iadd, 1) := by decide +kernel
theorem dX9_acceptsSum_121 : decode cX9_acceptsSum 121 = .ok (.iaload, 1) := by decide +kernel
theorem dX9_acceptsSum_122 : decode cX9_acceptsSum 122 = .ok (.istore 9, 2) := by decide +kernel
theorem dX9_acceptsSum_124 : decode cX9_acceptsSum 124 = .ok (.aload_n 0, 1) := by decide +kernel
theorem dX9_acceptsSum_125 : decode cX9_acceptsSum 125 = .ok (.getfield 38, 3) := by decide +kernel
theorem dX9_acceptsSum_128 : decode cX9_acceptsSum 128 = .ok (.iload_n 2, 1) := by decide +kernel
theorem dX9_acceptsSum_129 : decode cX9_acceptsSum 129 = .ok (.bipush 18, 2) := by decide +kernel
theorem dX9_acceptsSum_131 : decode cX9_acceptsSum 131 = .ok (.iadd, 1) := by decide +kernel
theorem dX9_acceptsSum_132 : decode cX9_acceptsSum 132 = .ok (.iload 8, 2) := by decide +kernel
theorem dX9_acceptsSum_134 : decode cX9_acceptsSum 134 = .ok (.iadd, 1) := by decide +kernel
theorem dX9_acceptsSum_135 : decode cX9_acceptsSum 135 = .ok (.iaload, 1) := by decide +kernel
theorem dX9_acceptsSum_136 : decode cX9_acceptsSum 136 = .ok (.istore 10, 2) := by decide +kernel
theorem dX9_acceptsSum_138 : decode cX9_acceptsSum 138 = .ok (.iload 5, 2) := by decide +kernel
theorem dX9_acceptsSum_140 : decode cX9_acceptsSum 140 = .ok (.ifCond .eq 17, 3) := by decide +kernel
theorem dX9_acceptsSum_143 : decode cX9_acceptsSum 143 = .ok (.iload 9, 2) := by decide +kernel
theorem dX9_acceptsSum_145 : decode cX9_acceptsSum 145 = .ok (.ifCond .lt 12, 3) := by decide +kernel
theorem dX9_acceptsSum_148 : decode cX9_acceptsSum 148 = .ok (.iload 10, 2) := by decide +kernel
theorem dX9_acceptsSum_150 : decode cX9_acceptsSum 150 = .ok (.ifCond .lt 7, 3) := by decide +kernel
theorem dX9_acceptsSum_153 : decode cX9_acceptsSum 153 = .ok (.iconst 1, 1) := by decide +kernel
theorem dX9_acceptsSum_154 : decode cX9_acceptsSum 154 = .ok (.goto 4, 3) := by decide +kernel
theorem dX9_acceptsSum_157 : decode cX9_acceptsSum 157 = .ok (.iconst 0, 1) := by decide +kernel
theorem dX9_acceptsSum_158 : decode cX9_acceptsSum 158 = .ok (.istore 5, 2) := by decide +kernel
theorem dX9_acceptsSum_160 : decode cX9_acceptsSum 160 = .ok (.lload 6, 2) := by decide +kernel
theorem dX9_acceptsSum_162 : decode cX9_acceptsSum 162 = .ok (.iload 10, 2) := by decide +kernel
theorem dX9_acceptsSum_164 : decode cX9_acceptsSum 164 = .ok (.i2l, 1) := by decide +kernel
theorem dX9_acceptsSum_165 : decode cX9_acceptsSum 165 = .ok (.aload_n 0, 1) := by decide +kernel
theorem dX9_acceptsSum_166 : decode cX9_acceptsSum 166 = .ok (.getfield 13, 3) := by decide +kernel
theorem dX9_acceptsSum_169 : decode cX9_acceptsSum 169 = .ok (.iload 8, 2) := by decide +kernel
theorem dX9_acceptsSum_171 : decode cX9_acceptsSum 171 = .ok (.iaload, 1) := by decide +kernel
theorem dX9_acceptsSum_172 : decode cX9_acceptsSum 172 = .ok (.i2l, 1) := by decide +kernel
theorem dX9_acceptsSum_173 : decode cX9_acceptsSum 173 = .ok (.lmul, 1) := by decide +kernel
theorem dX9_acceptsSum_174 : decode cX9_acceptsSum 174 = .ok (.iload 9, 2) := by decide +kernel
theorem dX9_acceptsSum_176 : decode cX9_acceptsSum 176 = .ok (.i2l, 1) := by decide +kernel
theorem dX9_acceptsSum_177 : decode cX9_acceptsSum 177 = .ok (.aload_n 0, 1) := by decide +kernel
theorem dX9_acceptsSum_178 : decode cX9_acceptsSum 178 = .ok (.getfield 7, 3) := by decide +kernel
theorem dX9_acceptsSum_181 : decode cX9_acceptsSum 181 = .ok (.iload 8, 2) := by decide +kernel
theorem dX9_acceptsSum_183 : decode cX9_acceptsSum 183 = .ok (.iaload, 1) := by decide +kernel
theorem dX9_acceptsSum_184 : decode cX9_acceptsSum 184 = .ok (.i2l, 1) := by decide +kernel
theorem dX9_acceptsSum_185 : decode cX9_acceptsSum 185 = .ok (.lmul, 1) := by decide +kernel
theorem dX9_acceptsSum_186 : decode cX9_acceptsSum 186 = .ok (.lsub, 1) := by decide +kernel
theorem dX9_acceptsSum_187 : decode cX9_acceptsSum 187 = .ok (.ladd, 1) := by decide +kernel
theorem dX9_acceptsSum_188 : decode cX9_acceptsSum 188 = .ok (.lstore 6, 2) := by decide +kernel
theorem dX9_acceptsSum_190 : decode cX9_acceptsSum 190 = .ok (.iload 10, 2) := by decide +kernel
theorem dX9_acceptsSum_192 : decode cX9_acceptsSum 192 = .ok (.i2l, 1) := by decide +kernel
theorem dX9_acceptsSum_193 : decode cX9_acceptsSum 193 = .ok (.iload 9, 2) := by decide +kernel
theorem dX9_acceptsSum_195 : decode cX9_acceptsSum 195 = .ok (.i2l, 1) := by decide +kernel
theorem dX9_acceptsSum_196 : decode cX9_acceptsSum 196 = .ok (.lsub, 1) := by decide +kernel
theorem dX9_acceptsSum_197 : decode cX9_acceptsSum 197 = .ok (.lstore 11, 2) := by decide +kernel
theorem dX9_acceptsSum_199 : decode cX9_acceptsSum 199 = .ok (.iconst 0, 1) := by decide +kernel
theorem dX9_acceptsSum_200 : decode cX9_acceptsSum 200 = .ok (.istore 13, 2) := by decide +kernel
theorem dX9_acceptsSum_202 : decode cX9_acceptsSum 202 = .ok (.iload 13, 2) := by decide +kernel
theorem dX9_acceptsSum_204 : decode cX9_acceptsSum 204 = .ok (.aload_n 0, 1) := by decide +kernel
theorem dX9_acceptsSum_205 : decode cX9_acceptsSum 205 = .ok (.getfield 72, 3) := by decide +kernel
theorem dX9_acceptsSum_208 : decode cX9_acceptsSum 208 = .ok (.if_icmp .ge 39, 3) := by decide +kernel
theorem dX9_acceptsSum_211 : decode cX9_acceptsSum 211 = .ok (.lload 11, 2) := by decide +kernel
theorem dX9_acceptsSum_213 : decode cX9_acceptsSum 213 = .ok (.aload_n 0, 1) := by decide +kernel
theorem dX9_acceptsSum_214 : decode cX9_acceptsSum 214 = .ok (.getfield 38, 3) := by decide +kernel
theorem dX9_acceptsSum_217 : decode cX9_acceptsSum 217 = .ok (.iload_n 2, 1) := by decide +kernel
theorem dX9_acceptsSum_218 : decode cX9_acceptsSum 218 = .ok (.iload 13, 2) := by decide +kernel
theorem dX9_acceptsSum_220 : decode cX9_acceptsSum 220 = .ok (.iadd, 1) := by decide +kernel
theorem dX9_acceptsSum_221 : decode cX9_acceptsSum 221 = .ok (.iaload, 1) := by decide +kernel
theorem dX9_acceptsSum_222 : decode cX9_acceptsSum 222 = .ok (.i2l, 1) := by decide +kernel
theorem dX9_acceptsSum_223 : decode cX9_acceptsSum 223 = .ok (.aload_n 0, 1) := by decide +kernel
theorem dX9_acceptsSum_224 : decode cX9_acceptsSum 224 = .ok (.getfield 23, 3) := by decide +kernel
theorem dX9_acceptsSum_227 : decode cX9_acceptsSum 227 = .ok (.bipush 8, 2) := by decide +kernel
theorem dX9_acceptsSum_229 : decode cX9_acceptsSum 229 = .ok (.iload 13, 2) := by decide +kernel
theorem dX9_acceptsSum_231 : decode cX9_acceptsSum 231 = .ok (.imul, 1) := by decide +kernel
theorem dX9_acceptsSum_232 : decode cX9_acceptsSum 232 = .ok (.iload 8, 2) := by decide +kernel
theorem dX9_acceptsSum_234 : decode cX9_acceptsSum 234 = .ok (.iadd, 1) := by decide +kernel
theorem dX9_acceptsSum_235 : decode cX9_acceptsSum 235 = .ok (.iaload, 1) := by decide +kernel
theorem dX9_acceptsSum_236 : decode cX9_acceptsSum 236 = .ok (.i2l, 1) := by decide +kernel
theorem dX9_acceptsSum_237 : decode cX9_acceptsSum 237 = .ok (.lmul, 1) := by decide +kernel
theorem dX9_acceptsSum_238 : decode cX9_acceptsSum 238 = .ok (.ladd, 1) := by decide +kernel
theorem dX9_acceptsSum_239 : decode cX9_acceptsSum 239 = .ok (.lstore 11, 2) := by decide +kernel
theorem dX9_acceptsSum_241 : decode cX9_acceptsSum 241 = .ok (.iinc 13 1, 3) := by decide +kernel
theorem dX9_acceptsSum_244 : decode cX9_acceptsSum 244 = .ok (.goto (-42), 3) := by decide +kernel
theorem dX9_acceptsSum_247 : decode cX9_acceptsSum 247 = .ok (.iload 5, 2) := by decide +kernel
theorem dX9_acceptsSum_249 : decode cX9_acceptsSum 249 = .ok (.ifCond .eq 27, 3) := by decide +kernel
theorem dX9_acceptsSum_252 : decode cX9_acceptsSum 252 = .ok (.lload 11, 2) := by decide +kernel
theorem dX9_acceptsSum_254 : decode cX9_acceptsSum 254 = .ok (.lload_n 3, 1) := by decide +kernel
theorem dX9_acceptsSum_255 : decode cX9_acceptsSum 255 = .ok (.aload_n 0, 1) := by decide +kernel
theorem dX9_acceptsSum_256 : decode cX9_acceptsSum 256 = .ok (.getfield 26, 3) := by decide +kernel
theorem dX9_acceptsSum_259 : decode cX9_acceptsSum 259 = .ok (.bipush 8, 2) := by decide +kernel
theorem dX9_acceptsSum_261 : decode cX9_acceptsSum 261 = .ok (.iload_n 1, 1) := by decide +kernel
theorem dX9_acceptsSum_262 : decode cX9_acceptsSum 262 = .ok (.imul, 1) := by decide +kernel
theorem dX9_acceptsSum_263 : decode cX9_acceptsSum 263 = .ok (.iload 8, 2) := by decide +kernel
theorem dX9_acceptsSum_265 : decode cX9_acceptsSum 265 = .ok (.iadd, 1) := by decide +kernel
theorem dX9_acceptsSum_266 : decode cX9_acceptsSum 266 = .ok (.laload, 1) := by decide +kernel
theorem dX9_acceptsSum_267 : decode cX9_acceptsSum 267 = .ok (.lmul, 1) := by decide +kernel
theorem dX9_acceptsSum_268 : decode cX9_acceptsSum 268 = .ok (.lcmp, 1) := by decide +kernel
theorem dX9_acceptsSum_269 : decode cX9_acceptsSum 269 = .ok (.ifCond .ne 7, 3) := by decide +kernel
theorem dX9_acceptsSum_272 : decode cX9_acceptsSum 272 = .ok (.iconst 1, 1) := by decide +kernel
theorem dX9_acceptsSum_273 : decode cX9_acceptsSum 273 = .ok (.goto 4, 3) := by decide +kernel
theorem dX9_acceptsSum_276 : decode cX9_acceptsSum 276 = .ok (.iconst 0, 1) := by decide +kernel
theorem dX9_acceptsSum_277 : decode cX9_acceptsSum 277 = .ok (.istore 5, 2) := by decide +kernel
theorem dX9_acceptsSum_279 : decode cX9_acceptsSum 279 = .ok (.iinc 8 1, 3) := by decide +kernel
theorem dX9_acceptsSum_282 : decode cX9_acceptsSum 282 = .ok (.goto (-181), 3) := by decide +kernel
theorem dX9_acceptsSum_285 : decode cX9_acceptsSum 285 = .ok (.iload 5, 2) := by decide +kernel
theorem dX9_acceptsSum_287 : decode cX9_acceptsSum 287 = .ok (.ifCond .eq 33, 3) := by decide +kernel
theorem dX9_acceptsSum_290 : decode cX9_acceptsSum 290 = .ok (.aload_n 0, 1) := by decide +kernel
theorem dX9_acceptsSum_291 : decode cX9_acceptsSum 291 = .ok (.getfield 29, 3) := by decide +kernel
theorem dX9_acceptsSum_294 : decode cX9_acceptsSum 294 = .ok (.iload_n 1, 1) := by decide +kernel
theorem dX9_acceptsSum_295 : decode cX9_acceptsSum 295 = .ok (.laload, 1) := by decide +kernel
theorem dX9_acceptsSum_296 : decode cX9_acceptsSum 296 = .ok (.lload 6, 2) := by decide +kernel
theorem dX9_acceptsSum_298 : decode cX9_acceptsSum 298 = .ok (.lload_n 3, 1) := by decide +kernel
theorem dX9_acceptsSum_299 : decode cX9_acceptsSum 299 = .ok (.lconst 1, 1) := by decide +kernel
theorem dX9_acceptsSum_300 : decode cX9_acceptsSum 300 = .ok (.lcmp, 1) := by decide +kernel
theorem dX9_acceptsSum_301 : decode cX9_acceptsSum 301 = .ok (.ifCond .ge 7, 3) := by decide +kernel
theorem dX9_acceptsSum_304 : decode cX9_acceptsSum 304 = .ok (.lconst 1, 1) := by decide +kernel
theorem dX9_acceptsSum_305 : decode cX9_acceptsSum 305 = .ok (.goto 4, 3) := by decide +kernel
theorem dX9_acceptsSum_308 : decode cX9_acceptsSum 308 = .ok (.lload_n 3, 1) := by decide +kernel
theorem dX9_acceptsSum_309 : decode cX9_acceptsSum 309 = .ok (.invokestatic 95, 3) := by decide +kernel
theorem dX9_acceptsSum_312 : decode cX9_acceptsSum 312 = .ok (.lcmp, 1) := by decide +kernel
theorem dX9_acceptsSum_313 : decode cX9_acceptsSum 313 = .ok (.ifCond .lt 7, 3) := by decide +kernel
theorem dX9_acceptsSum_316 : decode cX9_acceptsSum 316 = .ok (.iconst 1, 1) := by decide +kernel
theorem dX9_acceptsSum_317 : decode cX9_acceptsSum 317 = .ok (.goto 4, 3) := by decide +kernel
theorem dX9_acceptsSum_320 : decode cX9_acceptsSum 320 = .ok (.iconst 0, 1) := by decide +kernel
theorem dX9_acceptsSum_321 : decode cX9_acceptsSum 321 = .ok (.ireturn, 1) := by decide +kernel
theorem dX9_acceptsCover_0 : decode cX9_acceptsCover 0 = .ok (.aload_n 0, 1) := by decide +kernel
theorem dX9_acceptsCover_1 : decode cX9_acceptsCover 1 = .ok (.getfield 38, 3) := by decide +kernel
theorem dX9_acceptsCover_4 : decode cX9_acceptsCover 4 = .ok (.bipush 27, 2) := by decide +kernel
theorem dX9_acceptsCover_6 : decode cX9_acceptsCover 6 = .ok (.iload_n 1, 1) := by decide +kernel
theorem dX9_acceptsCover_7 : decode cX9_acceptsCover 7 = .ok (.imul, 1) := by decide +kernel
theorem dX9_acceptsCover_8 : decode cX9_acceptsCover 8 = .ok (.iaload, 1) := by decide +kernel
theorem dX9_acceptsCover_9 : decode cX9_acceptsCover 9 = .ok (.istore_n 2, 1) := by decide +kernel
theorem dX9_acceptsCover_10 : decode cX9_acceptsCover 10 = .ok (.aload_n 0, 1) := by decide +kernel
theorem dX9_acceptsCover_11 : decode cX9_acceptsCover 11 = .ok (.iload_n 2, 1) := by decide +kernel
theorem dX9_acceptsCover_12 : decode cX9_acceptsCover 12 = .ok (.invokevirtual 75, 3) := by decide +kernel
theorem dX9_acceptsCover_15 : decode cX9_acceptsCover 15 = .ok (.ifCond .ne 5, 3) := by decide +kernel
theorem dX9_acceptsCover_18 : decode cX9_acceptsCover 18 = .ok (.iconst 0, 1) := by decide +kernel
theorem dX9_acceptsCover_19 : decode cX9_acceptsCover 19 = .ok (.ireturn, 1) := by decide +kernel
theorem dX9_acceptsCover_20 : decode cX9_acceptsCover 20 = .ok (.iconst 0, 1) := by decide +kernel
theorem dX9_acceptsCover_21 : decode cX9_acceptsCover 21 = .ok (.istore_n 3, 1) := by decide +kernel
theorem dX9_acceptsCover_22 : decode cX9_acceptsCover 22 = .ok (.lconst 0, 1) := by decide +kernel
theorem dX9_acceptsCover_23 : decode cX9_acceptsCover 23 = .ok (.lstore 4, 2) := by decide +kernel
theorem dX9_acceptsCover_25 : decode cX9_acceptsCover 25 = .ok (.iconst 0, 1) := by decide +kernel
theorem dX9_acceptsCover_26 : decode cX9_acceptsCover 26 = .ok (.istore 6, 2) := by decide +kernel
theorem dX9_acceptsCover_28 : decode cX9_acceptsCover 28 = .ok (.iload 6, 2) := by decide +kernel
theorem dX9_acceptsCover_30 : decode cX9_acceptsCover 30 = .ok (.aload_n 0, 1) := by decide +kernel
theorem dX9_acceptsCover_31 : decode cX9_acceptsCover 31 = .ok (.getfield 66, 3) := by decide +kernel
theorem dX9_acceptsCover_34 : decode cX9_acceptsCover 34 = .ok (.if_icmp .ge 60, 3) := by decide +kernel
theorem dX9_acceptsCover_37 : decode cX9_acceptsCover 37 = .ok (.aload_n 0, 1) := by decide +kernel
theorem dX9_acceptsCover_38 : decode cX9_acceptsCover 38 = .ok (.getfield 26, 3) := by decide +kernel
theorem dX9_acceptsCover_41 : decode cX9_acceptsCover 41 = .ok (.bipush 8, 2) := by decide +kernel
theorem dX9_acceptsCover_43 : decode cX9_acceptsCover 43 = .ok (.iload_n 1, 1) := by decide +kernel
theorem dX9_acceptsCover_44 : decode cX9_acceptsCover 44 = .ok (.imul, 1) := by decide +kernel
theorem dX9_acceptsCover_45 : decode cX9_acceptsCover 45 = .ok (.iload 6, 2) := by decide +kernel
theorem dX9_acceptsCover_47 : decode cX9_acceptsCover 47 = .ok (.iadd, 1) := by decide +kernel
theorem dX9_acceptsCover_48 : decode cX9_acceptsCover 48 = .ok (.laload, 1) := by decide +kernel
theorem dX9_acceptsCover_49 : decode cX9_acceptsCover 49 = .ok (.lconst 0, 1) := by decide +kernel
theorem dX9_acceptsCover_50 : decode cX9_acceptsCover 50 = .ok (.lcmp, 1) := by decide +kernel
theorem dX9_acceptsCover_51 : decode cX9_acceptsCover 51 = .ok (.ifCond .ne 19, 3) := by decide +kernel
theorem dX9_acceptsCover_54 : decode cX9_acceptsCover 54 = .ok (.lload 4, 2) := by decide +kernel
theorem dX9_acceptsCover_56 : decode cX9_acceptsCover 56 = .ok (.aload_n 0, 1) := by decide +kernel
theorem dX9_acceptsCover_57 : decode cX9_acceptsCover 57 = .ok (.iload_n 2, 1) := by decide +kernel
theorem dX9_acceptsCover_58 : decode cX9_acceptsCover 58 = .ok (.iload 6, 2) := by decide +kernel
theorem dX9_acceptsCover_60 : decode cX9_acceptsCover 60 = .ok (.invokevirtual 133, 3) := by decide +kernel
theorem dX9_acceptsCover_63 : decode cX9_acceptsCover 63 = .ok (.i2l, 1) := by decide +kernel
theorem dX9_acceptsCover_64 : decode cX9_acceptsCover 64 = .ok (.ladd, 1) := by decide +kernel
theorem dX9_acceptsCover_65 : decode cX9_acceptsCover 65 = .ok (.lstore 4, 2) := by decide +kernel
theorem dX9_acceptsCover_67 : decode cX9_acceptsCover 67 = .ok (.goto 21, 3) := by decide +kernel
theorem dX9_acceptsCover_70 : decode cX9_acceptsCover 70 = .ok (.aload_n 0, 1) := by decide +kernel
theorem dX9_acceptsCover_71 : decode cX9_acceptsCover 71 = .ok (.iload 6, 2) := by decide +kernel
theorem dX9_acceptsCover_73 : decode cX9_acceptsCover 73 = .ok (.invokevirtual 130, 3) := by decide +kernel
theorem dX9_acceptsCover_76 : decode cX9_acceptsCover 76 = .ok (.ifCond .ne 5, 3) := by decide +kernel
theorem dX9_acceptsCover_79 : decode cX9_acceptsCover 79 = .ok (.iconst 0, 1) := by decide +kernel
theorem dX9_acceptsCover_80 : decode cX9_acceptsCover 80 = .ok (.ireturn, 1) := by decide +kernel
theorem dX9_acceptsCover_81 : decode cX9_acceptsCover 81 = .ok (.iload_n 3, 1) := by decide +kernel
theorem dX9_acceptsCover_82 : decode cX9_acceptsCover 82 = .ok (.iconst 1, 1) := by decide +kernel
theorem dX9_acceptsCover_83 : decode cX9_acceptsCover 83 = .ok (.iload 6, 2) := by decide +kernel
theorem dX9_acceptsCover_85 : decode cX9_acceptsCover 85 = .ok (.ishl, 1) := by decide +kernel
theorem dX9_acceptsCover_86 : decode cX9_acceptsCover 86 = .ok (.ior, 1) := by decide +kernel
theorem dX9_acceptsCover_87 : decode cX9_acceptsCover 87 = .ok (.istore_n 3, 1) := by decide +kernel
theorem dX9_acceptsCover_88 : decode cX9_acceptsCover 88 = .ok (.iinc 6 1, 3) := by decide +kernel
theorem dX9_acceptsCover_91 : decode cX9_acceptsCover 91 = .ok (.goto (-63), 3) := by decide +kernel
theorem dX9_acceptsCover_94 : decode cX9_acceptsCover 94 = .ok (.iconst 0, 1) := by decide +kernel
theorem dX9_acceptsCover_95 : decode cX9_acceptsCover 95 = .ok (.istore 6, 2) := by decide +kernel
theorem dX9_acceptsCover_97 : decode cX9_acceptsCover 97 = .ok (.iload 6, 2) := by decide +kernel
theorem dX9_acceptsCover_99 : decode cX9_acceptsCover 99 = .ok (.iconst 1, 1) := by decide +kernel
theorem dX9_acceptsCover_100 : decode cX9_acceptsCover 100 = .ok (.aload_n 0, 1) := by decide +kernel
theorem dX9_acceptsCover_101 : decode cX9_acceptsCover 101 = .ok (.getfield 66, 3) := by decide +kernel
theorem dX9_acceptsCover_104 : decode cX9_acceptsCover 104 = .ok (.ishl, 1) := by decide +kernel
theorem dX9_acceptsCover_105 : decode cX9_acceptsCover 105 = .ok (.if_icmp .ge 116, 3) := by decide +kernel
theorem dX9_acceptsCover_108 : decode cX9_acceptsCover 108 = .ok (.iload 6, 2) := by decide +kernel
theorem dX9_acceptsCover_110 : decode cX9_acceptsCover 110 = .ok (.iload_n 3, 1) := by decide +kernel
theorem dX9_acceptsCover_111 : decode cX9_acceptsCover 111 = .ok (.iand, 1) := by decide +kernel
theorem dX9_acceptsCover_112 : decode cX9_acceptsCover 112 = .ok (.iload 6, 2) := by decide +kernel
theorem dX9_acceptsCover_114 : decode cX9_acceptsCover 114 = .ok (.if_icmp .ne 101, 3) := by decide +kernel
theorem dX9_acceptsCover_117 : decode cX9_acceptsCover 117 = .ok (.lload 4, 2) := by decide +kernel
theorem dX9_acceptsCover_119 : decode cX9_acceptsCover 119 = .ok (.lstore 7, 2) := by decide +kernel
theorem dX9_acceptsCover_121 : decode cX9_acceptsCover 121 = .ok (.lconst 0, 1) := by decide +kernel
theorem dX9_acceptsCover_122 : decode cX9_acceptsCover 122 = .ok (.lstore 9, 2) := by decide +kernel
theorem dX9_acceptsCover_124 : decode cX9_acceptsCover 124 = .ok (.iconst 0, 1) := by decide +kernel
theorem dX9_acceptsCover_125 : decode cX9_acceptsCover 125 = .ok (.istore 11, 2) := by decide +kernel
theorem dX9_acceptsCover_127 : decode cX9_acceptsCover 127 = .ok (.iload 11, 2) := by decide +kernel
theorem dX9_acceptsCover_129 : decode cX9_acceptsCover 129 = .ok (.aload_n 0, 1) := by decide +kernel
theorem dX9_acceptsCover_130 : decode cX9_acceptsCover 130 = .ok (.getfield 66, 3) := by decide +kernel
theorem dX9_acceptsCover_133 : decode cX9_acceptsCover 133 = .ok (.if_icmp .ge 55, 3) := by decide +kernel
theorem dX9_acceptsCover_136 : decode cX9_acceptsCover 136 = .ok (.iload 6, 2) := by decide +kernel
theorem dX9_acceptsCover_138 : decode cX9_acceptsCover 138 = .ok (.iload 11, 2) := by decide +kernel
theorem dX9_acceptsCover_140 : decode cX9_acceptsCover 140 = .ok (.ishr, 1) := by decide +kernel
theorem dX9_acceptsCover_141 : decode cX9_acceptsCover 141 = .ok (.iconst 1, 1) := by decide +kernel
theorem dX9_acceptsCover_142 : decode cX9_acceptsCover 142 = .ok (.iand, 1) := by decide +kernel
theorem dX9_acceptsCover_143 : decode cX9_acceptsCover 143 = .ok (.iconst 1, 1) := by decide +kernel
theorem dX9_acceptsCover_144 : decode cX9_acceptsCover 144 = .ok (.if_icmp .ne 38, 3) := by decide +kernel
theorem dX9_acceptsCover_147 : decode cX9_acceptsCover 147 = .ok (.lload 7, 2) := by decide +kernel
theorem dX9_acceptsCover_149 : decode cX9_acceptsCover 149 = .ok (.aload_n 0, 1) := by decide +kernel
theorem dX9_acceptsCover_150 : decode cX9_acceptsCover 150 = .ok (.getfield 23, 3) := by decide +kernel
theorem dX9_acceptsCover_153 : decode cX9_acceptsCover 153 = .ok (.bipush 8, 2) := by decide +kernel
theorem dX9_acceptsCover_155 : decode cX9_acceptsCover 155 = .ok (.iload_n 2, 1) := by decide +kernel
theorem dX9_acceptsCover_156 : decode cX9_acceptsCover 156 = .ok (.imul, 1) := by decide +kernel
theorem dX9_acceptsCover_157 : decode cX9_acceptsCover 157 = .ok (.iload 11, 2) := by decide +kernel
theorem dX9_acceptsCover_159 : decode cX9_acceptsCover 159 = .ok (.iadd, 1) := by decide +kernel
theorem dX9_acceptsCover_160 : decode cX9_acceptsCover 160 = .ok (.iaload, 1) := by decide +kernel
theorem dX9_acceptsCover_161 : decode cX9_acceptsCover 161 = .ok (.i2l, 1) := by decide +kernel
theorem dX9_acceptsCover_162 : decode cX9_acceptsCover 162 = .ok (.ladd, 1) := by decide +kernel
theorem dX9_acceptsCover_163 : decode cX9_acceptsCover 163 = .ok (.lstore 7, 2) := by decide +kernel
theorem dX9_acceptsCover_165 : decode cX9_acceptsCover 165 = .ok (.lload 9, 2) := by decide +kernel
theorem dX9_acceptsCover_167 : decode cX9_acceptsCover 167 = .ok (.aload_n 0, 1) := by decide +kernel
theorem dX9_acceptsCover_168 : decode cX9_acceptsCover 168 = .ok (.getfield 26, 3) := by decide +kernel
theorem dX9_acceptsCover_171 : decode cX9_acceptsCover 171 = .ok (.bipush 8, 2) := by decide +kernel
theorem dX9_acceptsCover_173 : decode cX9_acceptsCover 173 = .ok (.iload_n 1, 1) := by decide +kernel
theorem dX9_acceptsCover_174 : decode cX9_acceptsCover 174 = .ok (.imul, 1) := by decide +kernel
theorem dX9_acceptsCover_175 : decode cX9_acceptsCover 175 = .ok (.iload 11, 2) := by decide +kernel
theorem dX9_acceptsCover_177 : decode cX9_acceptsCover 177 = .ok (.iadd, 1) := by decide +kernel
theorem dX9_acceptsCover_178 : decode cX9_acceptsCover 178 = .ok (.laload, 1) := by decide +kernel
theorem dX9_acceptsCover_179 : decode cX9_acceptsCover 179 = .ok (.ladd, 1) := by decide +kernel
theorem dX9_acceptsCover_180 : decode cX9_acceptsCover 180 = .ok (.lstore 9, 2) := by decide +kernel
theorem dX9_acceptsCover_182 : decode cX9_acceptsCover 182 = .ok (.iinc 11 1, 3) := by decide +kernel
theorem dX9_acceptsCover_185 : decode cX9_acceptsCover 185 = .ok (.goto (-58), 3) := by decide +kernel
theorem dX9_acceptsCover_188 : decode cX9_acceptsCover 188 = .ok (.lload 7, 2) := by decide +kernel
theorem dX9_acceptsCover_190 : decode cX9_acceptsCover 190 = .ok (.aload_n 0, 1) := by decide +kernel
theorem dX9_acceptsCover_191 : decode cX9_acceptsCover 191 = .ok (.getfield 20, 3) := by decide +kernel
theorem dX9_acceptsCover_194 : decode cX9_acceptsCover 194 = .ok (.iload_n 2, 1) := by decide +kernel
theorem dX9_acceptsCover_195 : decode cX9_acceptsCover 195 = .ok (.iaload, 1) := by decide +kernel
theorem dX9_acceptsCover_196 : decode cX9_acceptsCover 196 = .ok (.i2l, 1) := by decide +kernel
theorem dX9_acceptsCover_197 : decode cX9_acceptsCover 197 = .ok (.lcmp, 1) := by decide +kernel
theorem dX9_acceptsCover_198 : decode cX9_acceptsCover 198 = .ok (.ifCond .gt 17, 3) := by decide +kernel
theorem dX9_acceptsCover_201 : decode cX9_acceptsCover 201 = .ok (.lload 9, 2) := by decide +kernel
theorem dX9_acceptsCover_203 : decode cX9_acceptsCover 203 = .ok (.aload_n 0, 1) := by decide +kernel
theorem dX9_acceptsCover_204 : decode cX9_acceptsCover 204 = .ok (.getfield 29, 3) := by decide +kernel
theorem dX9_acceptsCover_207 : decode cX9_acceptsCover 207 = .ok (.iload_n 1, 1) := by decide +kernel
theorem dX9_acceptsCover_208 : decode cX9_acceptsCover 208 = .ok (.laload, 1) := by decide +kernel
theorem dX9_acceptsCover_209 : decode cX9_acceptsCover 209 = .ok (.lcmp, 1) := by decide +kernel
theorem dX9_acceptsCover_210 : decode cX9_acceptsCover 210 = .ok (.ifCond .le 5, 3) := by decide +kernel
theorem dX9_acceptsCover_213 : decode cX9_acceptsCover 213 = .ok (.iconst 0, 1) := by decide +kernel
theorem dX9_acceptsCover_214 : decode cX9_acceptsCover 214 = .ok (.ireturn, 1) := by decide +kernel
theorem dX9_acceptsCover_215 : decode cX9_acceptsCover 215 = .ok (.iinc 6 1, 3) := by decide +kernel
theorem dX9_acceptsCover_218 : decode cX9_acceptsCover 218 = .ok (.goto (-121), 3) := by decide +kernel
theorem dX9_acceptsCover_221 : decode cX9_acceptsCover 221 = .ok (.iconst 1, 1) := by decide +kernel
theorem dX9_acceptsCover_222 : decode cX9_acceptsCover 222 = .ok (.ireturn, 1) := by decide +kernel
theorem dX9_acceptsClique_0 : decode cX9_acceptsClique 0 = .ok (.aload_n 0, 1) := by decide +kernel
theorem dX9_acceptsClique_1 : decode cX9_acceptsClique 1 = .ok (.getfield 29, 3) := by decide +kernel
theorem dX9_acceptsClique_4 : decode cX9_acceptsClique 4 = .ok (.iload_n 1, 1) := by decide +kernel
theorem dX9_acceptsClique_5 : decode cX9_acceptsClique 5 = .ok (.laload, 1) := by decide +kernel
theorem dX9_acceptsClique_6 : decode cX9_acceptsClique 6 = .ok (.lconst 1, 1) := by decide +kernel
theorem dX9_acceptsClique_7 : decode cX9_acceptsClique 7 = .ok (.lcmp, 1) := by decide +kernel
theorem dX9_acceptsClique_8 : decode cX9_acceptsClique 8 = .ok (.ifCond .ge 5, 3) := by decide +kernel
theorem dX9_acceptsClique_11 : decode cX9_acceptsClique 11 = .ok (.iconst 0, 1) := by decide +kernel
theorem dX9_acceptsClique_12 : decode cX9_acceptsClique 12 = .ok (.ireturn, 1) := by decide +kernel
theorem dX9_acceptsClique_13 : decode cX9_acceptsClique 13 = .ok (.iconst 0, 1) := by decide +kernel
theorem dX9_acceptsClique_14 : decode cX9_acceptsClique 14 = .ok (.istore_n 2, 1) := by decide +kernel
theorem dX9_acceptsClique_15 : decode cX9_acceptsClique 15 = .ok (.iload_n 2, 1) := by decide +kernel
theorem dX9_acceptsClique_16 : decode cX9_acceptsClique 16 = .ok (.aload_n 0, 1) := by decide +kernel
theorem dX9_acceptsClique_17 : decode cX9_acceptsClique 17 = .ok (.getfield 66, 3) := by decide +kernel
theorem dX9_acceptsClique_20 : decode cX9_acceptsClique 20 = .ok (.if_icmp .ge 93, 3) := by decide +kernel
theorem dX9_acceptsClique_23 : decode cX9_acceptsClique 23 = .ok (.aload_n 0, 1) := by decide +kernel
theorem dX9_acceptsClique_24 : decode cX9_acceptsClique 24 = .ok (.getfield 26, 3) := by decide +kernel
theorem dX9_acceptsClique_27 : decode cX9_acceptsClique 27 = .ok (.bipush 8, 2) := by decide +kernel
theorem dX9_acceptsClique_29 : decode cX9_acceptsClique 29 = .ok (.iload_n 1, 1) := by decide +kernel
theorem dX9_acceptsClique_30 : decode cX9_acceptsClique 30 = .ok (.imul, 1) := by decide +kernel
theorem dX9_acceptsClique_31 : decode cX9_acceptsClique 31 = .ok (.iload_n 2, 1) := by decide +kernel
theorem dX9_acceptsClique_32 : decode cX9_acceptsClique 32 = .ok (.iadd, 1) := by decide +kernel
theorem dX9_acceptsClique_33 : decode cX9_acceptsClique 33 = .ok (.laload, 1) := by decide +kernel
theorem dX9_acceptsClique_34 : decode cX9_acceptsClique 34 = .ok (.lstore_n 3, 1) := by decide +kernel
theorem dX9_acceptsClique_35 : decode cX9_acceptsClique 35 = .ok (.lload_n 3, 1) := by decide +kernel
theorem dX9_acceptsClique_36 : decode cX9_acceptsClique 36 = .ok (.lconst 0, 1) := by decide +kernel
theorem dX9_acceptsClique_37 : decode cX9_acceptsClique 37 = .ok (.lcmp, 1) := by decide +kernel
theorem dX9_acceptsClique_38 : decode cX9_acceptsClique 38 = .ok (.ifCond .eq 19, 3) := by decide +kernel
theorem dX9_acceptsClique_41 : decode cX9_acceptsClique 41 = .ok (.lload_n 3, 1) := by decide +kernel
theorem dX9_acceptsClique_42 : decode cX9_acceptsClique 42 = .ok (.lconst 1, 1) := by decide +kernel
theorem dX9_acceptsClique_43 : decode cX9_acceptsClique 43 = .ok (.lcmp, 1) := by decide +kernel
theorem dX9_acceptsClique_44 : decode cX9_acceptsClique 44 = .ok (.ifCond .ne 11, 3) := by decide +kernel
theorem dX9_acceptsClique_47 : decode cX9_acceptsClique 47 = .ok (.aload_n 0, 1) := by decide +kernel
theorem dX9_acceptsClique_48 : decode cX9_acceptsClique 48 = .ok (.iload_n 2, 1) := by decide +kernel
theorem dX9_acceptsClique_49 : decode cX9_acceptsClique 49 = .ok (.invokevirtual 130, 3) := by decide +kernel
theorem dX9_acceptsClique_52 : decode cX9_acceptsClique 52 = .ok (.ifCond .ne 5, 3) := by decide +kernel
theorem dX9_acceptsClique_55 : decode cX9_acceptsClique 55 = .ok (.iconst 0, 1) := by decide +kernel
theorem dX9_acceptsClique_56 : decode cX9_acceptsClique 56 = .ok (.ireturn, 1) := by decide +kernel
theorem dX9_acceptsClique_57 : decode cX9_acceptsClique 57 = .ok (.iconst 0, 1) := by decide +kernel
theorem dX9_acceptsClique_58 : decode cX9_acceptsClique 58 = .ok (.istore 5, 2) := by decide +kernel
theorem dX9_acceptsClique_60 : decode cX9_acceptsClique 60 = .ok (.iload 5, 2) := by decide +kernel
theorem dX9_acceptsClique_62 : decode cX9_acceptsClique 62 = .ok (.iload_n 2, 1) := by decide +kernel
theorem dX9_acceptsClique_63 : decode cX9_acceptsClique 63 = .ok (.if_icmp .ge 44, 3) := by decide +kernel
theorem dX9_acceptsClique_66 : decode cX9_acceptsClique 66 = .ok (.lload_n 3, 1) := by decide +kernel
theorem dX9_acceptsClique_67 : decode cX9_acceptsClique 67 = .ok (.lconst 1, 1) := by decide +kernel
theorem dX9_acceptsClique_68 : decode cX9_acceptsClique 68 = .ok (.lcmp, 1) := by decide +kernel
theorem dX9_acceptsClique_69 : decode cX9_acceptsClique 69 = .ok (.ifCond .ne 32, 3) := by decide +kernel
theorem dX9_acceptsClique_72 : decode cX9_acceptsClique 72 = .ok (.aload_n 0, 1) := by decide +kernel
theorem dX9_acceptsClique_73 : decode cX9_acceptsClique 73 = .ok (.getfield 26, 3) := by decide +kernel
theorem dX9_acceptsClique_76 : decode cX9_acceptsClique 76 = .ok (.bipush 8, 2) := by decide +kernel
theorem dX9_acceptsClique_78 : decode cX9_acceptsClique 78 = .ok (.iload_n 1, 1) := by decide +kernel
theorem dX9_acceptsClique_79 : decode cX9_acceptsClique 79 = .ok (.imul, 1) := by decide +kernel
theorem dX9_acceptsClique_80 : decode cX9_acceptsClique 80 = .ok (.iload 5, 2) := by decide +kernel
theorem dX9_acceptsClique_82 : decode cX9_acceptsClique 82 = .ok (.iadd, 1) := by decide +kernel
theorem dX9_acceptsClique_83 : decode cX9_acceptsClique 83 = .ok (.laload, 1) := by decide +kernel
theorem dX9_acceptsClique_84 : decode cX9_acceptsClique 84 = .ok (.lconst 1, 1) := by decide +kernel
theorem dX9_acceptsClique_85 : decode cX9_acceptsClique 85 = .ok (.lcmp, 1) := by decide +kernel
theorem dX9_acceptsClique_86 : decode cX9_acceptsClique 86 = .ok (.ifCond .ne 15, 3) := by decide +kernel
theorem dX9_acceptsClique_89 : decode cX9_acceptsClique 89 = .ok (.aload_n 0, 1) := by decide +kernel
theorem dX9_acceptsClique_90 : decode cX9_acceptsClique 90 = .ok (.iload_n 2, 1) := by decide +kernel
theorem dX9_acceptsClique_91 : decode cX9_acceptsClique 91 = .ok (.iload 5, 2) := by decide +kernel
theorem dX9_acceptsClique_93 : decode cX9_acceptsClique 93 = .ok (.invokevirtual 156, 3) := by decide +kernel
theorem dX9_acceptsClique_96 : decode cX9_acceptsClique 96 = .ok (.ifCond .ne 5, 3) := by decide +kernel
theorem dX9_acceptsClique_99 : decode cX9_acceptsClique 99 = .ok (.iconst 0, 1) := by decide +kernel
theorem dX9_acceptsClique_100 : decode cX9_acceptsClique 100 = .ok (.ireturn, 1) := by decide +kernel
theorem dX9_acceptsClique_101 : decode cX9_acceptsClique 101 = .ok (.iinc 5 1, 3) := by decide +kernel
theorem dX9_acceptsClique_104 : decode cX9_acceptsClique 104 = .ok (.goto (-44), 3) := by decide +kernel
theorem dX9_acceptsClique_107 : decode cX9_acceptsClique 107 = .ok (.iinc 2 1, 3) := by decide +kernel
theorem dX9_acceptsClique_110 : decode cX9_acceptsClique 110 = .ok (.goto (-95), 3) := by decide +kernel
theorem dX9_acceptsClique_113 : decode cX9_acceptsClique 113 = .ok (.iconst 1, 1) := by decide +kernel
theorem dX9_acceptsClique_114 : decode cX9_acceptsClique 114 = .ok (.ireturn, 1) := by decide +kernel
theorem dX9_accepts_0 : decode cX9_accepts 0 = .ok (.aload_n 0, 1) := by decide +kernel
theorem dX9_accepts_1 : decode cX9_accepts 1 = .ok (.getfield 32, 3) := by decide +kernel
theorem dX9_accepts_4 : decode cX9_accepts 4 = .ok (.iload_n 1, 1) := by decide +kernel
theorem dX9_accepts_5 : decode cX9_accepts 5 = .ok (.iaload, 1) := by decide +kernel
theorem dX9_accepts_6 : decode cX9_accepts 6 = .ok (.iconst 2, 1) := by decide +kernel
theorem dX9_accepts_7 : decode cX9_accepts 7 = .ok (.if_icmp .ge 11, 3) := by decide +kernel
theorem dX9_accepts_10 : decode cX9_accepts 10 = .ok (.aload_n 0, 1) := by decide +kernel
theorem dX9_accepts_11 : decode cX9_accepts 11 = .ok (.iload_n 1, 1) := by decide +kernel
theorem dX9_accepts_12 : decode cX9_accepts 12 = .ok (.invokevirtual 182, 3) := by decide +kernel
theorem dX9_accepts_15 : decode cX9_accepts 15 = .ok (.goto 26, 3) := by decide +kernel
theorem dX9_accepts_18 : decode cX9_accepts 18 = .ok (.aload_n 0, 1) := by decide +kernel
theorem dX9_accepts_19 : decode cX9_accepts 19 = .ok (.getfield 32, 3) := by decide +kernel
theorem dX9_accepts_22 : decode cX9_accepts 22 = .ok (.iload_n 1, 1) := by decide +kernel
theorem dX9_accepts_23 : decode cX9_accepts 23 = .ok (.iaload, 1) := by decide +kernel
theorem dX9_accepts_24 : decode cX9_accepts 24 = .ok (.iconst 2, 1) := by decide +kernel
theorem dX9_accepts_25 : decode cX9_accepts 25 = .ok (.if_icmp .ne 11, 3) := by decide +kernel
theorem dX9_accepts_28 : decode cX9_accepts 28 = .ok (.aload_n 0, 1) := by decide +kernel
theorem dX9_accepts_29 : decode cX9_accepts 29 = .ok (.iload_n 1, 1) := by decide +kernel
theorem dX9_accepts_30 : decode cX9_accepts 30 = .ok (.invokevirtual 185, 3) := by decide +kernel
theorem dX9_accepts_33 : decode cX9_accepts 33 = .ok (.goto 8, 3) := by decide +kernel
theorem dX9_accepts_36 : decode cX9_accepts 36 = .ok (.aload_n 0, 1) := by decide +kernel
theorem dX9_accepts_37 : decode cX9_accepts 37 = .ok (.iload_n 1, 1) := by decide +kernel
theorem dX9_accepts_38 : decode cX9_accepts 38 = .ok (.invokevirtual 188, 3) := by decide +kernel
theorem dX9_accepts_41 : decode cX9_accepts 41 = .ok (.ireturn, 1) := by decide +kernel
theorem dX9_check_0 : decode cX9_check 0 = .ok (.aload_n 0, 1) := by decide +kernel
theorem dX9_check_1 : decode cX9_check 1 = .ok (.iconst 0, 1) := by decide +kernel
theorem dX9_check_2 : decode cX9_check 2 = .ok (.putfield 63, 3) := by decide +kernel
theorem dX9_check_5 : decode cX9_check 5 = .ok (.aload_n 0, 1) := by decide +kernel
theorem dX9_check_6 : decode cX9_check 6 = .ok (.iload_n 1, 1) := by decide +kernel
theorem dX9_check_7 : decode cX9_check 7 = .ok (.invokevirtual 175, 3) := by decide +kernel
theorem dX9_check_10 : decode cX9_check 10 = .ok (.ifCond .ne 7, 3) := by decide +kernel
theorem dX9_check_13 : decode cX9_check 13 = .ok (.iconst (-1), 1) := by decide +kernel
theorem dX9_check_14 : decode cX9_check 14 = .ok (.goto 16, 3) := by decide +kernel
theorem dX9_check_17 : decode cX9_check 17 = .ok (.aload_n 0, 1) := by decide +kernel
theorem dX9_check_18 : decode cX9_check 18 = .ok (.iload_n 1, 1) := by decide +kernel
theorem dX9_check_19 : decode cX9_check 19 = .ok (.invokevirtual 191, 3) := by decide +kernel
theorem dX9_check_22 : decode cX9_check 22 = .ok (.ifCond .eq 7, 3) := by decide +kernel
theorem dX9_check_25 : decode cX9_check 25 = .ok (.iconst 1, 1) := by decide +kernel
theorem dX9_check_26 : decode cX9_check 26 = .ok (.goto 4, 3) := by decide +kernel
theorem dX9_check_29 : decode cX9_check 29 = .ok (.iconst 0, 1) := by decide +kernel
theorem dX9_check_30 : decode cX9_check 30 = .ok (.ireturn, 1) := by decide +kernel
theorem dX9_over_0 : decode cX9_over 0 = .ok (.aload_n 0, 1) := by decide +kernel
theorem dX9_over_1 : decode cX9_over 1 = .ok (.getfield 29, 3) := by decide +kernel
theorem dX9_over_4 : decode cX9_over 4 = .ok (.iload_n 1, 1) := by decide +kernel
theorem dX9_over_5 : decode cX9_over 5 = .ok (.laload, 1) := by decide +kernel
theorem dX9_over_6 : decode cX9_over 6 = .ok (.lneg, 1) := by decide +kernel
theorem dX9_over_7 : decode cX9_over 7 = .ok (.ldc2_w 82, 3) := by decide +kernel
theorem dX9_over_10 : decode cX9_over 10 = .ok (.lmul, 1) := by decide +kernel
theorem dX9_over_11 : decode cX9_over 11 = .ok (.lstore_n 2, 1) := by decide +kernel
theorem dX9_over_12 : decode cX9_over 12 = .ok (.iconst 0, 1) := by decide +kernel
theorem dX9_over_13 : decode cX9_over 13 = .ok (.istore 4, 2) := by decide +kernel
theorem dX9_over_15 : decode cX9_over 15 = .ok (.iload 4, 2) := by decide +kernel
theorem dX9_over_17 : decode cX9_over 17 = .ok (.aload_n 0, 1) := by decide +kernel
theorem dX9_over_18 : decode cX9_over 18 = .ok (.getfield 66, 3) := by decide +kernel
theorem dX9_over_21 : decode cX9_over 21 = .ok (.if_icmp .ge 32, 3) := by decide +kernel
theorem dX9_over_24 : decode cX9_over 24 = .ok (.lload_n 2, 1) := by decide +kernel
theorem dX9_over_25 : decode cX9_over 25 = .ok (.aload_n 0, 1) := by decide +kernel
theorem dX9_over_26 : decode cX9_over 26 = .ok (.getfield 26, 3) := by decide +kernel
theorem dX9_over_29 : decode cX9_over 29 = .ok (.bipush 8, 2) := by decide +kernel
theorem dX9_over_31 : decode cX9_over 31 = .ok (.iload_n 1, 1) := by decide +kernel
theorem dX9_over_32 : decode cX9_over 32 = .ok (.imul, 1) := by decide +kernel
theorem dX9_over_33 : decode cX9_over 33 = .ok (.iload 4, 2) := by decide +kernel
theorem dX9_over_35 : decode cX9_over 35 = .ok (.iadd, 1) := by decide +kernel
theorem dX9_over_36 : decode cX9_over 36 = .ok (.laload, 1) := by decide +kernel
theorem dX9_over_37 : decode cX9_over 37 = .ok (.aload_n 0, 1) := by decide +kernel
theorem dX9_over_38 : decode cX9_over 38 = .ok (.getfield 16, 3) := by decide +kernel
theorem dX9_over_41 : decode cX9_over 41 = .ok (.iload 4, 2) := by decide +kernel
theorem dX9_over_43 : decode cX9_over 43 = .ok (.laload, 1) := by decide +kernel
theorem dX9_over_44 : decode cX9_over 44 = .ok (.lmul, 1) := by decide +kernel
theorem dX9_over_45 : decode cX9_over 45 = .ok (.ladd, 1) := by decide +kernel
theorem dX9_over_46 : decode cX9_over 46 = .ok (.lstore_n 2, 1) := by decide +kernel
theorem dX9_over_47 : decode cX9_over 47 = .ok (.iinc 4 1, 3) := by decide +kernel
theorem dX9_over_50 : decode cX9_over 50 = .ok (.goto (-35), 3) := by decide +kernel
theorem dX9_over_53 : decode cX9_over 53 = .ok (.lload_n 2, 1) := by decide +kernel
theorem dX9_over_54 : decode cX9_over 54 = .ok (.lreturn, 1) := by decide +kernel
theorem dX9_strength_0 : decode cX9_strength 0 = .ok (.aload_n 0, 1) := by decide +kernel
theorem dX9_strength_1 : decode cX9_strength 1 = .ok (.iconst 0, 1) := by decide +kernel
theorem dX9_strength_2 : decode cX9_strength 2 = .ok (.putfield 63, 3) := by decide +kernel
theorem dX9_strength_5 : decode cX9_strength 5 = .ok (.aload_n 0, 1) := by decide +kernel
theorem dX9_strength_6 : decode cX9_strength 6 = .ok (.iload_n 1, 1) := by decide +kernel
theorem dX9_strength_7 : decode cX9_strength 7 = .ok (.invokevirtual 175, 3) := by decide +kernel
theorem dX9_strength_10 : decode cX9_strength 10 = .ok (.ifCond .ne 10, 3) := by decide +kernel
theorem dX9_strength_13 : decode cX9_strength 13 = .ok (.aload_n 0, 1) := by decide +kernel
theorem dX9_strength_14 : decode cX9_strength 14 = .ok (.iconst 1, 1) := by decide +kernel
theorem dX9_strength_15 : decode cX9_strength 15 = .ok (.putfield 63, 3) := by decide +kernel
theorem dX9_strength_18 : decode cX9_strength 18 = .ok (.lconst 0, 1) := by decide +kernel
theorem dX9_strength_19 : decode cX9_strength 19 = .ok (.lreturn, 1) := by decide +kernel
theorem dX9_strength_20 : decode cX9_strength 20 = .ok (.iload_n 2, 1) := by decide +kernel
theorem dX9_strength_21 : decode cX9_strength 21 = .ok (.ifCond .lt 8, 3) := by decide +kernel
theorem dX9_strength_24 : decode cX9_strength 24 = .ok (.iload_n 2, 1) := by decide +kernel
theorem dX9_strength_25 : decode cX9_strength 25 = .ok (.iconst 1, 1) := by decide +kernel
theorem dX9_strength_26 : decode cX9_strength 26 = .ok (.if_icmp .le 10, 3) := by decide +kernel
theorem dX9_strength_29 : decode cX9_strength 29 = .ok (.aload_n 0, 1) := by decide +kernel
theorem dX9_strength_30 : decode cX9_strength 30 = .ok (.iconst 2, 1) := by decide +kernel
theorem dX9_strength_31 : decode cX9_strength 31 = .ok (.putfield 63, 3) := by decide +kernel
theorem dX9_strength_34 : decode cX9_strength 34 = .ok (.lconst 0, 1) := by decide +kernel
theorem dX9_strength_35 : decode cX9_strength 35 = .ok (.lreturn, 1) := by decide +kernel
theorem dX9_strength_36 : decode cX9_strength 36 = .ok (.aload_n 0, 1) := by decide +kernel
theorem dX9_strength_37 : decode cX9_strength 37 = .ok (.iload_n 1, 1) := by decide +kernel
theorem dX9_strength_38 : decode cX9_strength 38 = .ok (.invokevirtual 194, 3) := by decide +kernel
theorem dX9_strength_41 : decode cX9_strength 41 = .ok (.lstore_n 3, 1) := by decide +kernel
theorem dX9_strength_42 : decode cX9_strength 42 = .ok (.lload_n 3, 1) := by decide +kernel
theorem dX9_strength_43 : decode cX9_strength 43 = .ok (.lconst 0, 1) := by decide +kernel
theorem dX9_strength_44 : decode cX9_strength 44 = .ok (.lcmp, 1) := by decide +kernel
theorem dX9_strength_45 : decode cX9_strength 45 = .ok (.ifCond .ge 8, 3) := by decide +kernel
theorem dX9_strength_48 : decode cX9_strength 48 = .ok (.lload_n 3, 1) := by decide +kernel
theorem dX9_strength_49 : decode cX9_strength 49 = .ok (.lneg, 1) := by decide +kernel
theorem dX9_strength_50 : decode cX9_strength 50 = .ok (.goto 4, 3) := by decide +kernel
theorem dX9_strength_53 : decode cX9_strength 53 = .ok (.lload_n 3, 1) := by decide +kernel
theorem dX9_strength_54 : decode cX9_strength 54 = .ok (.lstore 5, 2) := by decide +kernel
theorem dX9_strength_56 : decode cX9_strength 56 = .ok (.ldc2_w 82, 3) := by decide +kernel
theorem dX9_strength_59 : decode cX9_strength 59 = .ok (.lstore 7, 2) := by decide +kernel
theorem dX9_strength_61 : decode cX9_strength 61 = .ok (.lload 5, 2) := by decide +kernel
theorem dX9_strength_63 : decode cX9_strength 63 = .ok (.lconst 0, 1) := by decide +kernel
theorem dX9_strength_64 : decode cX9_strength 64 = .ok (.lcmp, 1) := by decide +kernel
theorem dX9_strength_65 : decode cX9_strength 65 = .ok (.ifCond .eq 21, 3) := by decide +kernel
theorem dX9_strength_68 : decode cX9_strength 68 = .ok (.lload 7, 2) := by decide +kernel
theorem dX9_strength_70 : decode cX9_strength 70 = .ok (.lload 5, 2) := by decide +kernel
theorem dX9_strength_72 : decode cX9_strength 72 = .ok (.lrem, 1) := by decide +kernel
theorem dX9_strength_73 : decode cX9_strength 73 = .ok (.lstore 9, 2) := by decide +kernel
theorem dX9_strength_75 : decode cX9_strength 75 = .ok (.lload 5, 2) := by decide +kernel
theorem dX9_strength_77 : decode cX9_strength 77 = .ok (.lstore 7, 2) := by decide +kernel
theorem dX9_strength_79 : decode cX9_strength 79 = .ok (.lload 9, 2) := by decide +kernel
theorem dX9_strength_81 : decode cX9_strength 81 = .ok (.lstore 5, 2) := by decide +kernel
theorem dX9_strength_83 : decode cX9_strength 83 = .ok (.goto (-22), 3) := by decide +kernel
theorem dX9_strength_86 : decode cX9_strength 86 = .ok (.iload_n 2, 1) := by decide +kernel
theorem dX9_strength_87 : decode cX9_strength 87 = .ok (.ifCond .ne 10, 3) := by decide +kernel
theorem dX9_strength_90 : decode cX9_strength 90 = .ok (.lload_n 3, 1) := by decide +kernel
theorem dX9_strength_91 : decode cX9_strength 91 = .ok (.lload 7, 2) := by decide +kernel
theorem dX9_strength_93 : decode cX9_strength 93 = .ok (.ldiv, 1) := by decide +kernel
theorem dX9_strength_94 : decode cX9_strength 94 = .ok (.goto 9, 3) := by decide +kernel
theorem dX9_strength_97 : decode cX9_strength 97 = .ok (.ldc2_w 82, 3) := by decide +kernel
theorem dX9_strength_100 : decode cX9_strength 100 = .ok (.lload 7, 2) := by decide +kernel
theorem dX9_strength_102 : decode cX9_strength 102 = .ok (.ldiv, 1) := by decide +kernel
theorem dX9_strength_103 : decode cX9_strength 103 = .ok (.lreturn, 1) := by decide +kernel
theorem dX9_best_0 : decode cX9_best 0 = .ok (.aload_n 0, 1) := by decide +kernel
theorem dX9_best_1 : decode cX9_best 1 = .ok (.iconst 0, 1) := by decide +kernel
theorem dX9_best_2 : decode cX9_best 2 = .ok (.putfield 63, 3) := by decide +kernel
theorem dX9_best_5 : decode cX9_best 5 = .ok (.iconst (-1), 1) := by decide +kernel
theorem dX9_best_6 : decode cX9_best 6 = .ok (.istore_n 1, 1) := by decide +kernel
theorem dX9_best_7 : decode cX9_best 7 = .ok (.iconst 0, 1) := by decide +kernel
theorem dX9_best_8 : decode cX9_best 8 = .ok (.istore_n 2, 1) := by decide +kernel
theorem dX9_best_9 : decode cX9_best 9 = .ok (.iload_n 2, 1) := by decide +kernel
theorem dX9_best_10 : decode cX9_best 10 = .ok (.aload_n 0, 1) := by decide +kernel
theorem dX9_best_11 : decode cX9_best 11 = .ok (.getfield 69, 3) := by decide +kernel
theorem dX9_best_14 : decode cX9_best 14 = .ok (.if_icmp .ge 34, 3) := by decide +kernel
theorem dX9_best_17 : decode cX9_best 17 = .ok (.iload_n 1, 1) := by decide +kernel
theorem dX9_best_18 : decode cX9_best 18 = .ok (.iconst (-1), 1) := by decide +kernel
theorem dX9_best_19 : decode cX9_best 19 = .ok (.if_icmp .eq 17, 3) := by decide +kernel
theorem dX9_best_22 : decode cX9_best 22 = .ok (.aload_n 0, 1) := by decide +kernel
theorem dX9_best_23 : decode cX9_best 23 = .ok (.iload_n 2, 1) := by decide +kernel
theorem dX9_best_24 : decode cX9_best 24 = .ok (.invokevirtual 194, 3) := by decide +kernel
theorem dX9_best_27 : decode cX9_best 27 = .ok (.aload_n 0, 1) := by decide +kernel
theorem dX9_best_28 : decode cX9_best 28 = .ok (.iload_n 1, 1) := by decide +kernel
theorem dX9_best_29 : decode cX9_best 29 = .ok (.invokevirtual 194, 3) := by decide +kernel
theorem dX9_best_32 : decode cX9_best 32 = .ok (.lcmp, 1) := by decide +kernel
theorem dX9_best_33 : decode cX9_best 33 = .ok (.ifCond .le 7, 3) := by decide +kernel
theorem dX9_best_36 : decode cX9_best 36 = .ok (.iload_n 2, 1) := by decide +kernel
theorem dX9_best_37 : decode cX9_best 37 = .ok (.goto 4, 3) := by decide +kernel
theorem dX9_best_40 : decode cX9_best 40 = .ok (.iload_n 1, 1) := by decide +kernel
theorem dX9_best_41 : decode cX9_best 41 = .ok (.istore_n 1, 1) := by decide +kernel
theorem dX9_best_42 : decode cX9_best 42 = .ok (.iinc 2 1, 3) := by decide +kernel
theorem dX9_best_45 : decode cX9_best 45 = .ok (.goto (-36), 3) := by decide +kernel
theorem dX9_best_48 : decode cX9_best 48 = .ok (.iload_n 1, 1) := by decide +kernel
theorem dX9_best_49 : decode cX9_best 49 = .ok (.ireturn, 1) := by decide +kernel
theorem dX9_tooMany_0 : decode cX9_tooMany 0 = .ok (.lconst 1, 1) := by decide +kernel
theorem dX9_tooMany_1 : decode cX9_tooMany 1 = .ok (.lstore_n 1, 1) := by decide +kernel
theorem dX9_tooMany_2 : decode cX9_tooMany 2 = .ok (.iconst 0, 1) := by decide +kernel
theorem dX9_tooMany_3 : decode cX9_tooMany 3 = .ok (.istore_n 3, 1) := by decide +kernel
theorem dX9_tooMany_4 : decode cX9_tooMany 4 = .ok (.iload_n 3, 1) := by decide +kernel
theorem dX9_tooMany_5 : decode cX9_tooMany 5 = .ok (.aload_n 0, 1) := by decide +kernel
theorem dX9_tooMany_6 : decode cX9_tooMany 6 = .ok (.getfield 66, 3) := by decide +kernel
theorem dX9_tooMany_9 : decode cX9_tooMany 9 = .ok (.if_icmp .ge 28, 3) := by decide +kernel
theorem dX9_tooMany_12 : decode cX9_tooMany 12 = .ok (.lload_n 1, 1) := by decide +kernel
theorem dX9_tooMany_13 : decode cX9_tooMany 13 = .ok (.aload_n 0, 1) := by decide +kernel
theorem dX9_tooMany_14 : decode cX9_tooMany 14 = .ok (.getfield 13, 3) := by decide +kernel
theorem dX9_tooMany_17 : decode cX9_tooMany 17 = .ok (.iload_n 3, 1) := by decide +kernel
theorem dX9_tooMany_18 : decode cX9_tooMany 18 = .ok (.iaload, 1) := by decide +kernel
theorem dX9_tooMany_19 : decode cX9_tooMany 19 = .ok (.aload_n 0, 1) := by decide +kernel
theorem dX9_tooMany_20 : decode cX9_tooMany 20 = .ok (.getfield 7, 3) := by decide +kernel
theorem dX9_tooMany_23 : decode cX9_tooMany 23 = .ok (.iload_n 3, 1) := by decide +kernel
theorem dX9_tooMany_24 : decode cX9_tooMany 24 = .ok (.iaload, 1) := by decide +kernel
theorem dX9_tooMany_25 : decode cX9_tooMany 25 = .ok (.isub, 1) := by decide +kernel
theorem dX9_tooMany_26 : decode cX9_tooMany 26 = .ok (.iconst 1, 1) := by decide +kernel
theorem dX9_tooMany_27 : decode cX9_tooMany 27 = .ok (.iadd, 1) := by decide +kernel
theorem dX9_tooMany_28 : decode cX9_tooMany 28 = .ok (.i2l, 1) := by decide +kernel
theorem dX9_tooMany_29 : decode cX9_tooMany 29 = .ok (.lmul, 1) := by decide +kernel
theorem dX9_tooMany_30 : decode cX9_tooMany 30 = .ok (.lstore_n 1, 1) := by decide +kernel
theorem dX9_tooMany_31 : decode cX9_tooMany 31 = .ok (.iinc 3 1, 3) := by decide +kernel
theorem dX9_tooMany_34 : decode cX9_tooMany 34 = .ok (.goto (-30), 3) := by decide +kernel
theorem dX9_tooMany_37 : decode cX9_tooMany 37 = .ok (.lload_n 1, 1) := by decide +kernel
theorem dX9_tooMany_38 : decode cX9_tooMany 38 = .ok (.ldc2_w 198, 3) := by decide +kernel
theorem dX9_tooMany_41 : decode cX9_tooMany 41 = .ok (.lcmp, 1) := by decide +kernel
theorem dX9_tooMany_42 : decode cX9_tooMany 42 = .ok (.ifCond .le 7, 3) := by decide +kernel
theorem dX9_tooMany_45 : decode cX9_tooMany 45 = .ok (.iconst 1, 1) := by decide +kernel
theorem dX9_tooMany_46 : decode cX9_tooMany 46 = .ok (.goto 4, 3) := by decide +kernel
theorem dX9_tooMany_49 : decode cX9_tooMany 49 = .ok (.iconst 0, 1) := by decide +kernel
theorem dX9_tooMany_50 : decode cX9_tooMany 50 = .ok (.ireturn, 1) := by decide +kernel
theorem dX9_goesOn_0 : decode cX9_goesOn 0 = .ok (.iconst 0, 1) := by decide +kernel
theorem dX9_goesOn_1 : decode cX9_goesOn 1 = .ok (.istore_n 1, 1) := by decide +kernel
theorem dX9_goesOn_2 : decode cX9_goesOn 2 = .ok (.iload_n 1, 1) := by decide +kernel
theorem dX9_goesOn_3 : decode cX9_goesOn 3 = .ok (.aload_n 0, 1) := by decide +kernel
theorem dX9_goesOn_4 : decode cX9_goesOn 4 = .ok (.getfield 66, 3) := by decide +kernel
theorem dX9_goesOn_7 : decode cX9_goesOn 7 = .ok (.if_icmp .ge 36, 3) := by decide +kernel
theorem dX9_goesOn_10 : decode cX9_goesOn 10 = .ok (.aload_n 0, 1) := by decide +kernel
theorem dX9_goesOn_11 : decode cX9_goesOn 11 = .ok (.getfield 60, 3) := by decide +kernel
theorem dX9_goesOn_14 : decode cX9_goesOn 14 = .ok (.iload_n 1, 1) := by decide +kernel
theorem dX9_goesOn_15 : decode cX9_goesOn 15 = .ok (.iaload, 1) := by decide +kernel
theorem dX9_goesOn_16 : decode cX9_goesOn 16 = .ok (.aload_n 0, 1) := by decide +kernel
theorem dX9_goesOn_17 : decode cX9_goesOn 17 = .ok (.getfield 13, 3) := by decide +kernel
theorem dX9_goesOn_20 : decode cX9_goesOn 20 = .ok (.iload_n 1, 1) := by decide +kernel
theorem dX9_goesOn_21 : decode cX9_goesOn 21 = .ok (.iaload, 1) := by decide +kernel
theorem dX9_goesOn_22 : decode cX9_goesOn 22 = .ok (.if_icmp .ne 21, 3) := by decide +kernel
theorem dX9_goesOn_25 : decode cX9_goesOn 25 = .ok (.aload_n 0, 1) := by decide +kernel
theorem dX9_goesOn_26 : decode cX9_goesOn 26 = .ok (.getfield 60, 3) := by decide +kernel
theorem dX9_goesOn_29 : decode cX9_goesOn 29 = .ok (.iload_n 1, 1) := by decide +kernel
theorem dX9_goesOn_30 : decode cX9_goesOn 30 = .ok (.aload_n 0, 1) := by decide +kernel
theorem dX9_goesOn_31 : decode cX9_goesOn 31 = .ok (.getfield 7, 3) := by decide +kernel
theorem dX9_goesOn_34 : decode cX9_goesOn 34 = .ok (.iload_n 1, 1) := by decide +kernel
theorem dX9_goesOn_35 : decode cX9_goesOn 35 = .ok (.iaload, 1) := by decide +kernel
theorem dX9_goesOn_36 : decode cX9_goesOn 36 = .ok (.iastore, 1) := by decide +kernel
theorem dX9_goesOn_37 : decode cX9_goesOn 37 = .ok (.iinc 1 1, 3) := by decide +kernel
theorem dX9_goesOn_40 : decode cX9_goesOn 40 = .ok (.goto (-38), 3) := by decide +kernel
theorem dX9_goesOn_43 : decode cX9_goesOn 43 = .ok (.iload_n 1, 1) := by decide +kernel
theorem dX9_goesOn_44 : decode cX9_goesOn 44 = .ok (.aload_n 0, 1) := by decide +kernel
theorem dX9_goesOn_45 : decode cX9_goesOn 45 = .ok (.getfield 66, 3) := by decide +kernel
theorem dX9_goesOn_48 : decode cX9_goesOn 48 = .ok (.if_icmp .ne 5, 3) := by decide +kernel
theorem dX9_goesOn_51 : decode cX9_goesOn 51 = .ok (.iconst 0, 1) := by decide +kernel
theorem dX9_goesOn_52 : decode cX9_goesOn 52 = .ok (.ireturn, 1) := by decide +kernel
theorem dX9_goesOn_53 : decode cX9_goesOn 53 = .ok (.aload_n 0, 1) := by decide +kernel
theorem dX9_goesOn_54 : decode cX9_goesOn 54 = .ok (.getfield 60, 3) := by decide +kernel
theorem dX9_goesOn_57 : decode cX9_goesOn 57 = .ok (.iload_n 1, 1) := by decide +kernel
theorem dX9_goesOn_58 : decode cX9_goesOn 58 = .ok (.dup2, 1) := by decide +kernel
theorem dX9_goesOn_59 : decode cX9_goesOn 59 = .ok (.iaload, 1) := by decide +kernel
theorem dX9_goesOn_60 : decode cX9_goesOn 60 = .ok (.iconst 1, 1) := by decide +kernel
theorem dX9_goesOn_61 : decode cX9_goesOn 61 = .ok (.iadd, 1) := by decide +kernel
theorem dX9_goesOn_62 : decode cX9_goesOn 62 = .ok (.iastore, 1) := by decide +kernel
theorem dX9_goesOn_63 : decode cX9_goesOn 63 = .ok (.iconst 1, 1) := by decide +kernel
theorem dX9_goesOn_64 : decode cX9_goesOn 64 = .ok (.ireturn, 1) := by decide +kernel
theorem dX9_isPlan_0 : decode cX9_isPlan 0 = .ok (.iconst 0, 1) := by decide +kernel
theorem dX9_isPlan_1 : decode cX9_isPlan 1 = .ok (.istore_n 1, 1) := by decide +kernel
theorem dX9_isPlan_2 : decode cX9_isPlan 2 = .ok (.iload_n 1, 1) := by decide +kernel
theorem dX9_isPlan_3 : decode cX9_isPlan 3 = .ok (.aload_n 0, 1) := by decide +kernel
theorem dX9_isPlan_4 : decode cX9_isPlan 4 = .ok (.getfield 72, 3) := by decide +kernel
theorem dX9_isPlan_7 : decode cX9_isPlan 7 = .ok (.if_icmp .ge 60, 3) := by decide +kernel
theorem dX9_isPlan_10 : decode cX9_isPlan 10 = .ok (.iconst 0, 1) := by decide +kernel
theorem dX9_isPlan_11 : decode cX9_isPlan 11 = .ok (.istore_n 2, 1) := by decide +kernel
theorem dX9_isPlan_12 : decode cX9_isPlan 12 = .ok (.iconst 0, 1) := by decide +kernel
theorem dX9_isPlan_13 : decode cX9_isPlan 13 = .ok (.istore_n 3, 1) := by decide +kernel
theorem dX9_isPlan_14 : decode cX9_isPlan 14 = .ok (.iload_n 3, 1) := by decide +kernel
theorem dX9_isPlan_15 : decode cX9_isPlan 15 = .ok (.aload_n 0, 1) := by decide +kernel
theorem dX9_isPlan_16 : decode cX9_isPlan 16 = .ok (.getfield 66, 3) := by decide +kernel
theorem dX9_isPlan_19 : decode cX9_isPlan 19 = .ok (.if_icmp .ge 30, 3) := by decide +kernel
theorem dX9_isPlan_22 : decode cX9_isPlan 22 = .ok (.iload_n 2, 1) := by decide +kernel
theorem dX9_isPlan_23 : decode cX9_isPlan 23 = .ok (.aload_n 0, 1) := by decide +kernel
theorem dX9_isPlan_24 : decode cX9_isPlan 24 = .ok (.getfield 23, 3) := by decide +kernel
theorem dX9_isPlan_27 : decode cX9_isPlan 27 = .ok (.bipush 8, 2) := by decide +kernel
theorem dX9_isPlan_29 : decode cX9_isPlan 29 = .ok (.iload_n 1, 1) := by decide +kernel
theorem dX9_isPlan_30 : decode cX9_isPlan 30 = .ok (.imul, 1) := by decide +kernel
theorem dX9_isPlan_31 : decode cX9_isPlan 31 = .ok (.iload_n 3, 1) := by decide +kernel
theorem dX9_isPlan_32 : decode cX9_isPlan 32 = .ok (.iadd, 1) := by decide +kernel
theorem dX9_isPlan_33 : decode cX9_isPlan 33 = .ok (.iaload, 1) := by decide +kernel
theorem dX9_isPlan_34 : decode cX9_isPlan 34 = .ok (.aload_n 0, 1) := by decide +kernel
theorem dX9_isPlan_35 : decode cX9_isPlan 35 = .ok (.getfield 60, 3) := by decide +kernel
theorem dX9_isPlan_38 : decode cX9_isPlan 38 = .ok (.iload_n 3, 1) := by decide +kernel
theorem dX9_isPlan_39 : decode cX9_isPlan 39 = .ok (.iaload, 1) := by decide +kernel
theorem dX9_isPlan_40 : decode cX9_isPlan 40 = .ok (.imul, 1) := by decide +kernel
theorem dX9_isPlan_41 : decode cX9_isPlan 41 = .ok (.iadd, 1) := by decide +kernel
theorem dX9_isPlan_42 : decode cX9_isPlan 42 = .ok (.istore_n 2, 1) := by decide +kernel
theorem dX9_isPlan_43 : decode cX9_isPlan 43 = .ok (.iinc 3 1, 3) := by decide +kernel
theorem dX9_isPlan_46 : decode cX9_isPlan 46 = .ok (.goto (-32), 3) := by decide +kernel
theorem dX9_isPlan_49 : decode cX9_isPlan 49 = .ok (.iload_n 2, 1) := by decide +kernel
theorem dX9_isPlan_50 : decode cX9_isPlan 50 = .ok (.aload_n 0, 1) := by decide +kernel
theorem dX9_isPlan_51 : decode cX9_isPlan 51 = .ok (.getfield 20, 3) := by decide +kernel
theorem dX9_isPlan_54 : decode cX9_isPlan 54 = .ok (.iload_n 1, 1) := by decide +kernel
theorem dX9_isPlan_55 : decode cX9_isPlan 55 = .ok (.iaload, 1) := by decide +kernel
theorem dX9_isPlan_56 : decode cX9_isPlan 56 = .ok (.if_icmp .le 5, 3) := by decide +kernel
theorem dX9_isPlan_59 : decode cX9_isPlan 59 = .ok (.iconst 0, 1) := by decide +kernel
theorem dX9_isPlan_60 : decode cX9_isPlan 60 = .ok (.ireturn, 1) := by decide +kernel
theorem dX9_isPlan_61 : decode cX9_isPlan 61 = .ok (.iinc 1 1, 3) := by decide +kernel
theorem dX9_isPlan_64 : decode cX9_isPlan 64 = .ok (.goto (-62), 3) := by decide +kernel
theorem dX9_isPlan_67 : decode cX9_isPlan 67 = .ok (.iconst 1, 1) := by decide +kernel
theorem dX9_isPlan_68 : decode cX9_isPlan 68 = .ok (.ireturn, 1) := by decide +kernel
theorem dX9_count_0 : decode cX9_count 0 = .ok (.iconst 0, 1) := by decide +kernel
theorem dX9_count_1 : decode cX9_count 1 = .ok (.istore_n 2, 1) := by decide +kernel
theorem dX9_count_2 : decode cX9_count 2 = .ok (.iload_n 2, 1) := by decide +kernel
theorem dX9_count_3 : decode cX9_count 3 = .ok (.aload_n 0, 1) := by decide +kernel
theorem dX9_count_4 : decode cX9_count 4 = .ok (.getfield 66, 3) := by decide +kernel
theorem dX9_count_7 : decode cX9_count 7 = .ok (.if_icmp .ge 21, 3) := by decide +kernel
theorem dX9_count_10 : decode cX9_count 10 = .ok (.aload_n 0, 1) := by decide +kernel
theorem dX9_count_11 : decode cX9_count 11 = .ok (.getfield 60, 3) := by decide +kernel
theorem dX9_count_14 : decode cX9_count 14 = .ok (.iload_n 2, 1) := by decide +kernel
theorem dX9_count_15 : decode cX9_count 15 = .ok (.aload_n 0, 1) := by decide +kernel
theorem dX9_count_16 : decode cX9_count 16 = .ok (.getfield 7, 3) := by decide +kernel
theorem dX9_count_19 : decode cX9_count 19 = .ok (.iload_n 2, 1) := by decide +kernel
theorem dX9_count_20 : decode cX9_count 20 = .ok (.iaload, 1) := by decide +kernel
theorem dX9_count_21 : decode cX9_count 21 = .ok (.iastore, 1) := by decide +kernel
theorem dX9_count_22 : decode cX9_count 22 = .ok (.iinc 2 1, 3) := by decide +kernel
theorem dX9_count_25 : decode cX9_count 25 = .ok (.goto (-23), 3) := by decide +kernel
theorem dX9_count_28 : decode cX9_count 28 = .ok (.iconst 0, 1) := by decide +kernel
theorem dX9_count_29 : decode cX9_count 29 = .ok (.istore_n 2, 1) := by decide +kernel
theorem dX9_count_30 : decode cX9_count 30 = .ok (.iconst 1, 1) := by decide +kernel
theorem dX9_count_31 : decode cX9_count 31 = .ok (.istore_n 3, 1) := by decide +kernel
theorem dX9_count_32 : decode cX9_count 32 = .ok (.iload_n 3, 1) := by decide +kernel
theorem dX9_count_33 : decode cX9_count 33 = .ok (.ifCond .eq 93, 3) := by decide +kernel
theorem dX9_count_36 : decode cX9_count 36 = .ok (.aload_n 0, 1) := by decide +kernel
theorem dX9_count_37 : decode cX9_count 37 = .ok (.invokevirtual 200, 3) := by decide +kernel
theorem dX9_count_40 : decode cX9_count 40 = .ok (.ifCond .eq 78, 3) := by decide +kernel
theorem dX9_count_43 : decode cX9_count 43 = .ok (.lconst 0, 1) := by decide +kernel
theorem dX9_count_44 : decode cX9_count 44 = .ok (.lstore 4, 2) := by decide +kernel
theorem dX9_count_46 : decode cX9_count 46 = .ok (.iconst 0, 1) := by decide +kernel
theorem dX9_count_47 : decode cX9_count 47 = .ok (.istore 6, 2) := by decide +kernel
theorem dX9_count_49 : decode cX9_count 49 = .ok (.iload 6, 2) := by decide +kernel
theorem dX9_count_51 : decode cX9_count 51 = .ok (.aload_n 0, 1) := by decide +kernel
theorem dX9_count_52 : decode cX9_count 52 = .ok (.getfield 66, 3) := by decide +kernel
theorem dX9_count_55 : decode cX9_count 55 = .ok (.if_icmp .ge 39, 3) := by decide +kernel
theorem dX9_count_58 : decode cX9_count 58 = .ok (.iload_n 1, 1) := by decide +kernel
theorem dX9_count_59 : decode cX9_count 59 = .ok (.ifCond .lt 35, 3) := by decide +kernel
theorem dX9_count_62 : decode cX9_count 62 = .ok (.lload 4, 2) := by decide +kernel
theorem dX9_count_64 : decode cX9_count 64 = .ok (.aload_n 0, 1) := by decide +kernel
theorem dX9_count_65 : decode cX9_count 65 = .ok (.getfield 26, 3) := by decide +kernel
theorem dX9_count_68 : decode cX9_count 68 = .ok (.bipush 8, 2) := by decide +kernel
theorem dX9_count_70 : decode cX9_count 70 = .ok (.iload_n 1, 1) := by decide +kernel
theorem dX9_count_71 : decode cX9_count 71 = .ok (.imul, 1) := by decide +kernel
theorem dX9_count_72 : decode cX9_count 72 = .ok (.iload 6, 2) := by decide +kernel
theorem dX9_count_74 : decode cX9_count 74 = .ok (.iadd, 1) := by decide +kernel
theorem dX9_count_75 : decode cX9_count 75 = .ok (.laload, 1) := by decide +kernel
theorem dX9_count_76 : decode cX9_count 76 = .ok (.aload_n 0, 1) := by decide +kernel
theorem dX9_count_77 : decode cX9_count 77 = .ok (.getfield 60, 3) := by decide +kernel
theorem dX9_count_80 : decode cX9_count 80 = .ok (.iload 6, 2) := by decide +kernel
theorem dX9_count_82 : decode cX9_count 82 = .ok (.iaload, 1) := by decide +kernel
theorem dX9_count_83 : decode cX9_count 83 = .ok (.i2l, 1) := by decide +kernel
theorem dX9_count_84 : decode cX9_count 84 = .ok (.lmul, 1) := by decide +kernel
theorem dX9_count_85 : decode cX9_count 85 = .ok (.ladd, 1) := by decide +kernel
theorem dX9_count_86 : decode cX9_count 86 = .ok (.lstore 4, 2) := by decide +kernel
theorem dX9_count_88 : decode cX9_count 88 = .ok (.iinc 6 1, 3) := by decide +kernel
theorem dX9_count_91 : decode cX9_count 91 = .ok (.goto (-42), 3) := by decide +kernel
theorem dX9_count_94 : decode cX9_count 94 = .ok (.iload_n 2, 1) := by decide +kernel
theorem dX9_count_95 : decode cX9_count 95 = .ok (.iload_n 1, 1) := by decide +kernel
theorem dX9_count_96 : decode cX9_count 96 = .ok (.ifCond .lt 15, 3) := by decide +kernel
theorem dX9_count_99 : decode cX9_count 99 = .ok (.lload 4, 2) := by decide +kernel
theorem dX9_count_101 : decode cX9_count 101 = .ok (.aload_n 0, 1) := by decide +kernel
theorem dX9_count_102 : decode cX9_count 102 = .ok (.getfield 29, 3) := by decide +kernel
theorem dX9_count_105 : decode cX9_count 105 = .ok (.iload_n 1, 1) := by decide +kernel
theorem dX9_count_106 : decode cX9_count 106 = .ok (.laload, 1) := by decide +kernel
theorem dX9_count_107 : decode cX9_count 107 = .ok (.lcmp, 1) := by decide +kernel
theorem dX9_count_108 : decode cX9_count 108 = .ok (.ifCond .le 7, 3) := by decide +kernel
theorem dX9_count_111 : decode cX9_count 111 = .ok (.iconst 1, 1) := by decide +kernel
theorem dX9_count_112 : decode cX9_count 112 = .ok (.goto 4, 3) := by decide +kernel
theorem dX9_count_115 : decode cX9_count 115 = .ok (.iconst 0, 1) := by decide +kernel
theorem dX9_count_116 : decode cX9_count 116 = .ok (.iadd, 1) := by decide +kernel
theorem dX9_count_117 : decode cX9_count 117 = .ok (.istore_n 2, 1) := by decide +kernel
theorem dX9_count_118 : decode cX9_count 118 = .ok (.aload_n 0, 1) := by decide +kernel
theorem dX9_count_119 : decode cX9_count 119 = .ok (.invokevirtual 203, 3) := by decide +kernel
theorem dX9_count_122 : decode cX9_count 122 = .ok (.istore_n 3, 1) := by decide +kernel
theorem dX9_count_123 : decode cX9_count 123 = .ok (.goto (-91), 3) := by decide +kernel
theorem dX9_count_126 : decode cX9_count 126 = .ok (.iload_n 2, 1) := by decide +kernel
theorem dX9_count_127 : decode cX9_count 127 = .ok (.ireturn, 1) := by decide +kernel
theorem dX9_holds_0 : decode cX9_holds 0 = .ok (.aload_n 0, 1) := by decide +kernel
theorem dX9_holds_1 : decode cX9_holds 1 = .ok (.iconst 0, 1) := by decide +kernel
theorem dX9_holds_2 : decode cX9_holds 2 = .ok (.putfield 63, 3) := by decide +kernel
theorem dX9_holds_5 : decode cX9_holds 5 = .ok (.aload_n 0, 1) := by decide +kernel
theorem dX9_holds_6 : decode cX9_holds 6 = .ok (.iload_n 1, 1) := by decide +kernel
theorem dX9_holds_7 : decode cX9_holds 7 = .ok (.invokevirtual 175, 3) := by decide +kernel
theorem dX9_holds_10 : decode cX9_holds 10 = .ok (.ifCond .ne 5, 3) := by decide +kernel
theorem dX9_holds_13 : decode cX9_holds 13 = .ok (.iconst (-1), 1) := by decide +kernel
theorem dX9_holds_14 : decode cX9_holds 14 = .ok (.ireturn, 1) := by decide +kernel
theorem dX9_holds_15 : decode cX9_holds 15 = .ok (.aload_n 0, 1) := by decide +kernel
theorem dX9_holds_16 : decode cX9_holds 16 = .ok (.invokevirtual 206, 3) := by decide +kernel
theorem dX9_holds_19 : decode cX9_holds 19 = .ok (.ifCond .eq 6, 3) := by decide +kernel
theorem dX9_holds_22 : decode cX9_holds 22 = .ok (.bipush (-4), 2) := by decide +kernel
theorem dX9_holds_24 : decode cX9_holds 24 = .ok (.ireturn, 1) := by decide +kernel
theorem dX9_holds_25 : decode cX9_holds 25 = .ok (.aload_n 0, 1) := by decide +kernel
theorem dX9_holds_26 : decode cX9_holds 26 = .ok (.iload_n 1, 1) := by decide +kernel
theorem dX9_holds_27 : decode cX9_holds 27 = .ok (.invokevirtual 209, 3) := by decide +kernel
theorem dX9_holds_30 : decode cX9_holds 30 = .ok (.ifCond .ne 7, 3) := by decide +kernel
theorem dX9_holds_33 : decode cX9_holds 33 = .ok (.iconst 1, 1) := by decide +kernel
theorem dX9_holds_34 : decode cX9_holds 34 = .ok (.goto 4, 3) := by decide +kernel
theorem dX9_holds_37 : decode cX9_holds 37 = .ok (.iconst 0, 1) := by decide +kernel
theorem dX9_holds_38 : decode cX9_holds 38 = .ok (.ireturn, 1) := by decide +kernel
theorem dX9_plans_0 : decode cX9_plans 0 = .ok (.aload_n 0, 1) := by decide +kernel
theorem dX9_plans_1 : decode cX9_plans 1 = .ok (.iconst 0, 1) := by decide +kernel
theorem dX9_plans_2 : decode cX9_plans 2 = .ok (.putfield 63, 3) := by decide +kernel
theorem dX9_plans_5 : decode cX9_plans 5 = .ok (.aload_n 0, 1) := by decide +kernel
theorem dX9_plans_6 : decode cX9_plans 6 = .ok (.invokevirtual 206, 3) := by decide +kernel
theorem dX9_plans_9 : decode cX9_plans 9 = .ok (.ifCond .eq 8, 3) := by decide +kernel
theorem dX9_plans_12 : decode cX9_plans 12 = .ok (.bipush (-4), 2) := by decide +kernel
theorem dX9_plans_14 : decode cX9_plans 14 = .ok (.goto 8, 3) := by decide +kernel
theorem dX9_plans_17 : decode cX9_plans 17 = .ok (.aload_n 0, 1) := by decide +kernel
theorem dX9_plans_18 : decode cX9_plans 18 = .ok (.iconst (-1), 1) := by decide +kernel
theorem dX9_plans_19 : decode cX9_plans 19 = .ok (.invokevirtual 209, 3) := by decide +kernel
theorem dX9_plans_22 : decode cX9_plans 22 = .ok (.ireturn, 1) := by decide +kernel
theorem dX9_turn_0 : decode cX9_turn 0 = .ok (.aload_n 0, 1) := by decide +kernel
theorem dX9_turn_1 : decode cX9_turn 1 = .ok (.iconst 0, 1) := by decide +kernel
theorem dX9_turn_2 : decode cX9_turn 2 = .ok (.putfield 63, 3) := by decide +kernel
theorem dX9_turn_5 : decode cX9_turn 5 = .ok (.iconst 0, 1) := by decide +kernel
theorem dX9_turn_6 : decode cX9_turn 6 = .ok (.istore_n 1, 1) := by decide +kernel
theorem dX9_turn_7 : decode cX9_turn 7 = .ok (.aload_n 0, 1) := by decide +kernel
theorem dX9_turn_8 : decode cX9_turn 8 = .ok (.getfield 69, 3) := by decide +kernel
theorem dX9_turn_11 : decode cX9_turn 11 = .ok (.istore_n 2, 1) := by decide +kernel
theorem dX9_turn_12 : decode cX9_turn 12 = .ok (.iconst 0, 1) := by decide +kernel
theorem dX9_turn_13 : decode cX9_turn 13 = .ok (.istore_n 3, 1) := by decide +kernel
theorem dX9_turn_14 : decode cX9_turn 14 = .ok (.iload_n 3, 1) := by decide +kernel
theorem dX9_turn_15 : decode cX9_turn 15 = .ok (.iload_n 2, 1) := by decide +kernel
theorem dX9_turn_16 : decode cX9_turn 16 = .ok (.if_icmp .ge 154, 3) := by decide +kernel
theorem dX9_turn_19 : decode cX9_turn 19 = .ok (.aload_n 0, 1) := by decide +kernel
theorem dX9_turn_20 : decode cX9_turn 20 = .ok (.iload_n 3, 1) := by decide +kernel
theorem dX9_turn_21 : decode cX9_turn 21 = .ok (.invokevirtual 194, 3) := by decide +kernel
theorem dX9_turn_24 : decode cX9_turn 24 = .ok (.lconst 0, 1) := by decide +kernel
theorem dX9_turn_25 : decode cX9_turn 25 = .ok (.lcmp, 1) := by decide +kernel
theorem dX9_turn_26 : decode cX9_turn 26 = .ok (.ifCond .ge 14, 3) := by decide +kernel
theorem dX9_turn_29 : decode cX9_turn 29 = .ok (.aload_n 0, 1) := by decide +kernel
theorem dX9_turn_30 : decode cX9_turn 30 = .ok (.getfield 35, 3) := by decide +kernel
theorem dX9_turn_33 : decode cX9_turn 33 = .ok (.iload_n 3, 1) := by decide +kernel
theorem dX9_turn_34 : decode cX9_turn 34 = .ok (.iaload, 1) := by decide +kernel
theorem dX9_turn_35 : decode cX9_turn 35 = .ok (.iconst 1, 1) := by decide +kernel
theorem dX9_turn_36 : decode cX9_turn 36 = .ok (.iadd, 1) := by decide +kernel
theorem dX9_turn_37 : decode cX9_turn 37 = .ok (.goto 4, 3) := by decide +kernel
theorem dX9_turn_40 : decode cX9_turn 40 = .ok (.iconst 0, 1) := by decide +kernel
theorem dX9_turn_41 : decode cX9_turn 41 = .ok (.istore 4, 2) := by decide +kernel
theorem dX9_turn_43 : decode cX9_turn 43 = .ok (.iload 4, 2) := by decide +kernel
theorem dX9_turn_45 : decode cX9_turn 45 = .ok (.iconst 3, 1) := by decide +kernel
theorem dX9_turn_46 : decode cX9_turn 46 = .ok (.if_icmp .ge 118, 3) := by decide +kernel
theorem dX9_turn_49 : decode cX9_turn 49 = .ok (.iconst 0, 1) := by decide +kernel
theorem dX9_turn_50 : decode cX9_turn 50 = .ok (.istore 5, 2) := by decide +kernel
theorem dX9_turn_52 : decode cX9_turn 52 = .ok (.iload 5, 2) := by decide +kernel
theorem dX9_turn_54 : decode cX9_turn 54 = .ok (.bipush 8, 2) := by decide +kernel
theorem dX9_turn_56 : decode cX9_turn 56 = .ok (.if_icmp .ge 33, 3) := by decide +kernel
theorem dX9_turn_59 : decode cX9_turn 59 = .ok (.aload_n 0, 1) := by decide +kernel
theorem dX9_turn_60 : decode cX9_turn 60 = .ok (.getfield 26, 3) := by decide +kernel
theorem dX9_turn_63 : decode cX9_turn 63 = .ok (.bipush 8, 2) := by decide +kernel
theorem dX9_turn_65 : decode cX9_turn 65 = .ok (.iload_n 1, 1) := by decide +kernel
theorem dX9_turn_66 : decode cX9_turn 66 = .ok (.imul, 1) := by decide +kernel
theorem dX9_turn_67 : decode cX9_turn 67 = .ok (.iload 5, 2) := by decide +kernel
theorem dX9_turn_69 : decode cX9_turn 69 = .ok (.iadd, 1) := by decide +kernel
theorem dX9_turn_70 : decode cX9_turn 70 = .ok (.aload_n 0, 1) := by decide +kernel
theorem dX9_turn_71 : decode cX9_turn 71 = .ok (.getfield 26, 3) := by decide +kernel
theorem dX9_turn_74 : decode cX9_turn 74 = .ok (.bipush 8, 2) := by decide +kernel
theorem dX9_turn_76 : decode cX9_turn 76 = .ok (.iload_n 3, 1) := by decide +kernel
theorem dX9_turn_77 : decode cX9_turn 77 = .ok (.imul, 1) := by decide +kernel
theorem dX9_turn_78 : decode cX9_turn 78 = .ok (.iload 5, 2) := by decide +kernel
theorem dX9_turn_80 : decode cX9_turn 80 = .ok (.iadd, 1) := by decide +kernel
theorem dX9_turn_81 : decode cX9_turn 81 = .ok (.laload, 1) := by decide +kernel
theorem dX9_turn_82 : decode cX9_turn 82 = .ok (.lastore, 1) := by decide +kernel
theorem dX9_turn_83 : decode cX9_turn 83 = .ok (.iinc 5 1, 3) := by decide +kernel
theorem dX9_turn_86 : decode cX9_turn 86 = .ok (.goto (-34), 3) := by decide +kernel
theorem dX9_turn_89 : decode cX9_turn 89 = .ok (.iconst 0, 1) := by decide +kernel
theorem dX9_turn_90 : decode cX9_turn 90 = .ok (.istore 5, 2) := by decide +kernel
theorem dX9_turn_92 : decode cX9_turn 92 = .ok (.iload 5, 2) := by decide +kernel
theorem dX9_turn_94 : decode cX9_turn 94 = .ok (.bipush 27, 2) := by decide +kernel
theorem dX9_turn_96 : decode cX9_turn 96 = .ok (.if_icmp .ge 33, 3) := by decide +kernel
theorem dX9_turn_99 : decode cX9_turn 99 = .ok (.aload_n 0, 1) := by decide +kernel
theorem dX9_turn_100 : decode cX9_turn 100 = .ok (.getfield 38, 3) := by decide +kernel
theorem dX9_turn_103 : decode cX9_turn 103 = .ok (.bipush 27, 2) := by decide +kernel
theorem dX9_turn_105 : decode cX9_turn 105 = .ok (.iload_n 1, 1) := by decide +kernel
theorem dX9_turn_106 : decode cX9_turn 106 = .ok (.imul, 1) := by decide +kernel
theorem dX9_turn_107 : decode cX9_turn 107 = .ok (.iload 5, 2) := by decide +kernel
theorem dX9_turn_109 : decode cX9_turn 109 = .ok (.iadd, 1) := by decide +kernel
theorem dX9_turn_110 : decode cX9_turn 110 = .ok (.aload_n 0, 1) := by decide +kernel
theorem dX9_turn_111 : decode cX9_turn 111 = .ok (.getfield 38, 3) := by decide +kernel
theorem dX9_turn_114 : decode cX9_turn 114 = .ok (.bipush 27, 2) := by decide +kernel
theorem dX9_turn_116 : decode cX9_turn 116 = .ok (.iload_n 3, 1) := by decide +kernel
theorem dX9_turn_117 : decode cX9_turn 117 = .ok (.imul, 1) := by decide +kernel
theorem dX9_turn_118 : decode cX9_turn 118 = .ok (.iload 5, 2) := by decide +kernel
theorem dX9_turn_120 : decode cX9_turn 120 = .ok (.iadd, 1) := by decide +kernel
theorem dX9_turn_121 : decode cX9_turn 121 = .ok (.iaload, 1) := by decide +kernel
theorem dX9_turn_122 : decode cX9_turn 122 = .ok (.iastore, 1) := by decide +kernel
theorem dX9_turn_123 : decode cX9_turn 123 = .ok (.iinc 5 1, 3) := by decide +kernel
theorem dX9_turn_126 : decode cX9_turn 126 = .ok (.goto (-34), 3) := by decide +kernel
theorem dX9_turn_129 : decode cX9_turn 129 = .ok (.aload_n 0, 1) := by decide +kernel
theorem dX9_turn_130 : decode cX9_turn 130 = .ok (.getfield 29, 3) := by decide +kernel
theorem dX9_turn_133 : decode cX9_turn 133 = .ok (.iload_n 1, 1) := by decide +kernel
theorem dX9_turn_134 : decode cX9_turn 134 = .ok (.aload_n 0, 1) := by decide +kernel
theorem dX9_turn_135 : decode cX9_turn 135 = .ok (.getfield 29, 3) := by decide +kernel
theorem dX9_turn_138 : decode cX9_turn 138 = .ok (.iload_n 3, 1) := by decide +kernel
theorem dX9_turn_139 : decode cX9_turn 139 = .ok (.laload, 1) := by decide +kernel
theorem dX9_turn_140 : decode cX9_turn 140 = .ok (.lastore, 1) := by decide +kernel
theorem dX9_turn_141 : decode cX9_turn 141 = .ok (.aload_n 0, 1) := by decide +kernel
theorem dX9_turn_142 : decode cX9_turn 142 = .ok (.getfield 32, 3) := by decide +kernel
theorem dX9_turn_145 : decode cX9_turn 145 = .ok (.iload_n 1, 1) := by decide +kernel
theorem dX9_turn_146 : decode cX9_turn 146 = .ok (.aload_n 0, 1) := by decide +kernel
theorem dX9_turn_147 : decode cX9_turn 147 = .ok (.getfield 32, 3) := by decide +kernel
theorem dX9_turn_150 : decode cX9_turn 150 = .ok (.iload_n 3, 1) := by decide +kernel
theorem dX9_turn_151 : decode cX9_turn 151 = .ok (.iaload, 1) := by decide +kernel
theorem dX9_turn_152 : decode cX9_turn 152 = .ok (.iastore, 1) := by decide +kernel
theorem dX9_turn_153 : decode cX9_turn 153 = .ok (.aload_n 0, 1) := by decide +kernel
theorem dX9_turn_154 : decode cX9_turn 154 = .ok (.getfield 35, 3) := by decide +kernel
theorem dX9_turn_157 : decode cX9_turn 157 = .ok (.iload_n 1, 1) := by decide +kernel
theorem dX9_turn_158 : decode cX9_turn 158 = .ok (.iload 4, 2) := by decide +kernel
theorem dX9_turn_160 : decode cX9_turn 160 = .ok (.iastore, 1) := by decide +kernel
theorem dX9_turn_161 : decode cX9_turn 161 = .ok (.iinc 1 1, 3) := by decide +kernel
theorem dX9_turn_164 : decode cX9_turn 164 = .ok (.iinc 3 1, 3) := by decide +kernel
theorem dX9_turn_167 : decode cX9_turn 167 = .ok (.goto (-153), 3) := by decide +kernel
theorem dX9_turn_170 : decode cX9_turn 170 = .ok (.aload_n 0, 1) := by decide +kernel
theorem dX9_turn_171 : decode cX9_turn 171 = .ok (.iload_n 1, 1) := by decide +kernel
theorem dX9_turn_172 : decode cX9_turn 172 = .ok (.putfield 69, 3) := by decide +kernel
theorem dX9_turn_175 : decode cX9_turn 175 = .ok (.iload_n 2, 1) := by decide +kernel
theorem dX9_turn_176 : decode cX9_turn 176 = .ok (.iload_n 1, 1) := by decide +kernel
theorem dX9_turn_177 : decode cX9_turn 177 = .ok (.isub, 1) := by decide +kernel
theorem dX9_turn_178 : decode cX9_turn 178 = .ok (.ireturn, 1) := by decide +kernel
theorem dX9_told_0 : decode cX9_told 0 = .ok (.aload_n 0, 1) := by decide +kernel
theorem dX9_told_1 : decode cX9_told 1 = .ok (.iconst 0, 1) := by decide +kernel
theorem dX9_told_2 : decode cX9_told 2 = .ok (.putfield 63, 3) := by decide +kernel
theorem dX9_told_5 : decode cX9_told 5 = .ok (.iload_n 1, 1) := by decide +kernel
theorem dX9_told_6 : decode cX9_told 6 = .ok (.ifCond .lt 8, 3) := by decide +kernel
theorem dX9_told_9 : decode cX9_told 9 = .ok (.iload_n 1, 1) := by decide +kernel
theorem dX9_told_10 : decode cX9_told 10 = .ok (.iconst 4, 1) := by decide +kernel
theorem dX9_told_11 : decode cX9_told 11 = .ok (.if_icmp .le 6, 3) := by decide +kernel
theorem dX9_told_14 : decode cX9_told 14 = .ok (.bipush (-2), 2) := by decide +kernel
theorem dX9_told_16 : decode cX9_told 16 = .ok (.ireturn, 1) := by decide +kernel
theorem dX9_told_17 : decode cX9_told 17 = .ok (.iload_n 1, 1) := by decide +kernel
theorem dX9_told_18 : decode cX9_told 18 = .ok (.iconst 3, 1) := by decide +kernel
theorem dX9_told_19 : decode cX9_told 19 = .ok (.if_icmp .ge 31, 3) := by decide +kernel
theorem dX9_told_22 : decode cX9_told 22 = .ok (.iload_n 1, 1) := by decide +kernel
theorem dX9_told_23 : decode cX9_told 23 = .ok (.ifCond .ne 10, 3) := by decide +kernel
theorem dX9_told_26 : decode cX9_told 26 = .ok (.aload_n 0, 1) := by decide +kernel
theorem dX9_told_27 : decode cX9_told 27 = .ok (.getfield 66, 3) := by decide +kernel
theorem dX9_told_30 : decode cX9_told 30 = .ok (.goto 19, 3) := by decide +kernel
theorem dX9_told_33 : decode cX9_told 33 = .ok (.iload_n 1, 1) := by decide +kernel
theorem dX9_told_34 : decode cX9_told 34 = .ok (.iconst 1, 1) := by decide +kernel
theorem dX9_told_35 : decode cX9_told 35 = .ok (.if_icmp .ne 10, 3) := by decide +kernel
theorem dX9_told_38 : decode cX9_told 38 = .ok (.aload_n 0, 1) := by decide +kernel
theorem dX9_told_39 : decode cX9_told 39 = .ok (.getfield 72, 3) := by decide +kernel
theorem dX9_told_42 : decode cX9_told 42 = .ok (.goto 7, 3) := by decide +kernel
theorem dX9_told_45 : decode cX9_told 45 = .ok (.aload_n 0, 1) := by decide +kernel
theorem dX9_told_46 : decode cX9_told 46 = .ok (.getfield 69, 3) := by decide +kernel
theorem dX9_told_49 : decode cX9_told 49 = .ok (.ireturn, 1) := by decide +kernel
theorem dX9_told_50 : decode cX9_told 50 = .ok (.iconst 0, 1) := by decide +kernel
theorem dX9_told_51 : decode cX9_told 51 = .ok (.istore_n 2, 1) := by decide +kernel
theorem dX9_told_52 : decode cX9_told 52 = .ok (.iconst 0, 1) := by decide +kernel
theorem dX9_told_53 : decode cX9_told 53 = .ok (.istore_n 3, 1) := by decide +kernel
theorem dX9_told_54 : decode cX9_told 54 = .ok (.iload_n 3, 1) := by decide +kernel
theorem dX9_told_55 : decode cX9_told 55 = .ok (.aload_n 0, 1) := by decide +kernel
theorem dX9_told_56 : decode cX9_told 56 = .ok (.getfield 69, 3) := by decide +kernel
theorem dX9_told_59 : decode cX9_told 59 = .ok (.if_icmp .ge 43, 3) := by decide +kernel
theorem dX9_told_62 : decode cX9_told 62 = .ok (.iload_n 2, 1) := by decide +kernel
theorem dX9_told_63 : decode cX9_told 63 = .ok (.iload_n 1, 1) := by decide +kernel
theorem dX9_told_64 : decode cX9_told 64 = .ok (.iconst 3, 1) := by decide +kernel
theorem dX9_told_65 : decode cX9_told 65 = .ok (.if_icmp .ne 16, 3) := by decide +kernel
theorem dX9_told_68 : decode cX9_told 68 = .ok (.aload_n 0, 1) := by decide +kernel
theorem dX9_told_69 : decode cX9_told 69 = .ok (.iload_n 3, 1) := by decide +kernel
theorem dX9_told_70 : decode cX9_told 70 = .ok (.invokevirtual 194, 3) := by decide +kernel
theorem dX9_told_73 : decode cX9_told 73 = .ok (.lconst 0, 1) := by decide +kernel
theorem dX9_told_74 : decode cX9_told 74 = .ok (.lcmp, 1) := by decide +kernel
theorem dX9_told_75 : decode cX9_told 75 = .ok (.ifCond .le 18, 3) := by decide +kernel
theorem dX9_told_78 : decode cX9_told 78 = .ok (.goto 11, 3) := by decide +kernel
theorem dX9_told_81 : decode cX9_told 81 = .ok (.aload_n 0, 1) := by decide +kernel
theorem dX9_told_82 : decode cX9_told 82 = .ok (.iload_n 3, 1) := by decide +kernel
theorem dX9_told_83 : decode cX9_told 83 = .ok (.invokevirtual 191, 3) := by decide +kernel
theorem dX9_told_86 : decode cX9_told 86 = .ok (.ifCond .eq 7, 3) := by decide +kernel
theorem dX9_told_89 : decode cX9_told 89 = .ok (.iconst 1, 1) := by decide +kernel
theorem dX9_told_90 : decode cX9_told 90 = .ok (.goto 4, 3) := by decide +kernel
theorem dX9_told_93 : decode cX9_told 93 = .ok (.iconst 0, 1) := by decide +kernel
theorem dX9_told_94 : decode cX9_told 94 = .ok (.iadd, 1) := by decide +kernel
theorem dX9_told_95 : decode cX9_told 95 = .ok (.istore_n 2, 1) := by decide +kernel
theorem dX9_told_96 : decode cX9_told 96 = .ok (.iinc 3 1, 3) := by decide +kernel
theorem dX9_told_99 : decode cX9_told 99 = .ok (.goto (-45), 3) := by decide +kernel
theorem dX9_told_102 : decode cX9_told 102 = .ok (.iload_n 2, 1) := by decide +kernel
theorem dX9_told_103 : decode cX9_told 103 = .ok (.ireturn, 1) := by decide +kernel
theorem dX9_clear_0 : decode cX9_clear 0 = .ok (.aload_n 0, 1) := by decide +kernel
theorem dX9_clear_1 : decode cX9_clear 1 = .ok (.iconst 0, 1) := by decide +kernel
theorem dX9_clear_2 : decode cX9_clear 2 = .ok (.putfield 63, 3) := by decide +kernel
theorem dX9_clear_5 : decode cX9_clear 5 = .ok (.aload_n 0, 1) := by decide +kernel
theorem dX9_clear_6 : decode cX9_clear 6 = .ok (.iconst 0, 1) := by decide +kernel
theorem dX9_clear_7 : decode cX9_clear 7 = .ok (.putfield 66, 3) := by decide +kernel
theorem dX9_clear_10 : decode cX9_clear 10 = .ok (.aload_n 0, 1) := by decide +kernel
theorem dX9_clear_11 : decode cX9_clear 11 = .ok (.iconst 0, 1) := by decide +kernel
theorem dX9_clear_12 : decode cX9_clear 12 = .ok (.putfield 72, 3) := by decide +kernel
theorem dX9_clear_15 : decode cX9_clear 15 = .ok (.aload_n 0, 1) := by decide +kernel
theorem dX9_clear_16 : decode cX9_clear 16 = .ok (.iconst 0, 1) := by decide +kernel
theorem dX9_clear_17 : decode cX9_clear 17 = .ok (.putfield 69, 3) := by decide +kernel
theorem dX9_clear_20 : decode cX9_clear 20 = .ok (.aload_n 0, 1) := by decide +kernel
theorem dX9_clear_21 : decode cX9_clear 21 = .ok (.iconst 1, 1) := by decide +kernel
theorem dX9_clear_22 : decode cX9_clear 22 = .ok (.putfield 41, 3) := by decide +kernel
theorem dX9_clear_25 : decode cX9_clear 25 = .ok (.return_, 1) := by decide +kernel
