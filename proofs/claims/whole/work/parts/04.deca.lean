theorem dX0_init_0 : decode cX0_init 0 = .ok (.aload_n 0, 1) := by decide +kernel
theorem dX0_init_1 : decode cX0_init 1 = .ok (.invokespecial 3, 3) := by decide +kernel
theorem dX0_init_4 : decode cX0_init 4 = .ok (.aload_n 0, 1) := by decide +kernel
theorem dX0_init_5 : decode cX0_init 5 = .ok (.aload_n 1, 1) := by decide +kernel
theorem dX0_init_6 : decode cX0_init 6 = .ok (.putfield 9, 3) := by decide +kernel
theorem dX0_init_9 : decode cX0_init 9 = .ok (.return_, 1) := by decide +kernel
theorem dX0_accepts_0 : decode cX0_accepts 0 = .ok (.aload_n 1, 1) := by decide +kernel
theorem dX0_accepts_1 : decode cX0_accepts 1 = .ok (.getfield 15, 3) := by decide +kernel
theorem dX0_accepts_4 : decode cX0_accepts 4 = .ok (.tableswitch 40 0 2 #[28, 28, 34], 28) := by decide +kernel
theorem dX0_accepts_32 : decode cX0_accepts 32 = .ok (.aload_n 0, 1) := by decide +kernel
theorem dX0_accepts_33 : decode cX0_accepts 33 = .ok (.aload_n 1, 1) := by decide +kernel
theorem dX0_accepts_34 : decode cX0_accepts 34 = .ok (.invokevirtual 21, 3) := by decide +kernel
theorem dX0_accepts_37 : decode cX0_accepts 37 = .ok (.ireturn, 1) := by decide +kernel
theorem dX0_accepts_38 : decode cX0_accepts 38 = .ok (.aload_n 0, 1) := by decide +kernel
theorem dX0_accepts_39 : decode cX0_accepts 39 = .ok (.aload_n 1, 1) := by decide +kernel
theorem dX0_accepts_40 : decode cX0_accepts 40 = .ok (.invokevirtual 25, 3) := by decide +kernel
theorem dX0_accepts_43 : decode cX0_accepts 43 = .ok (.ireturn, 1) := by decide +kernel
theorem dX0_accepts_44 : decode cX0_accepts 44 = .ok (.aload_n 0, 1) := by decide +kernel
theorem dX0_accepts_45 : decode cX0_accepts 45 = .ok (.aload_n 1, 1) := by decide +kernel
theorem dX0_accepts_46 : decode cX0_accepts 46 = .ok (.invokevirtual 28, 3) := by decide +kernel
theorem dX0_accepts_49 : decode cX0_accepts 49 = .ok (.ireturn, 1) := by decide +kernel
theorem dX0_acceptsRounding_0 : decode cX0_acceptsRounding 0 = .ok (.aload_n 1, 1) := by decide +kernel
theorem dX0_acceptsRounding_1 : decode cX0_acceptsRounding 1 = .ok (.getfield 31, 3) := by decide +kernel
theorem dX0_acceptsRounding_4 : decode cX0_acceptsRounding 4 = .ok (.iconst 1, 1) := by decide +kernel
theorem dX0_acceptsRounding_5 : decode cX0_acceptsRounding 5 = .ok (.if_icmp .lt 11, 3) := by decide +kernel
theorem dX0_acceptsRounding_8 : decode cX0_acceptsRounding 8 = .ok (.aload_n 0, 1) := by decide +kernel
theorem dX0_acceptsRounding_9 : decode cX0_acceptsRounding 9 = .ok (.aload_n 1, 1) := by decide +kernel
theorem dX0_acceptsRounding_10 : decode cX0_acceptsRounding 10 = .ok (.invokevirtual 34, 3) := by decide +kernel
theorem dX0_acceptsRounding_13 : decode cX0_acceptsRounding 13 = .ok (.ifCond .eq 5, 3) := by decide +kernel
theorem dX0_acceptsRounding_16 : decode cX0_acceptsRounding 16 = .ok (.iconst 0, 1) := by decide +kernel
theorem dX0_acceptsRounding_17 : decode cX0_acceptsRounding 17 = .ok (.ireturn, 1) := by decide +kernel
theorem dX0_acceptsRounding_18 : decode cX0_acceptsRounding 18 = .ok (.lconst 0, 1) := by decide +kernel
theorem dX0_acceptsRounding_19 : decode cX0_acceptsRounding 19 = .ok (.lstore_n 2, 1) := by decide +kernel
theorem dX0_acceptsRounding_20 : decode cX0_acceptsRounding 20 = .ok (.iconst 0, 1) := by decide +kernel
theorem dX0_acceptsRounding_21 : decode cX0_acceptsRounding 21 = .ok (.istore 4, 2) := by decide +kernel
theorem dX0_acceptsRounding_23 : decode cX0_acceptsRounding 23 = .ok (.iload 4, 2) := by decide +kernel
theorem dX0_acceptsRounding_25 : decode cX0_acceptsRounding 25 = .ok (.aload_n 0, 1) := by decide +kernel
theorem dX0_acceptsRounding_26 : decode cX0_acceptsRounding 26 = .ok (.getfield 9, 3) := by decide +kernel
theorem dX0_acceptsRounding_29 : decode cX0_acceptsRounding 29 = .ok (.getfield 37, 3) := by decide +kernel
theorem dX0_acceptsRounding_32 : decode cX0_acceptsRounding 32 = .ok (.if_icmp .ge 32, 3) := by decide +kernel
theorem dX0_acceptsRounding_35 : decode cX0_acceptsRounding 35 = .ok (.lload_n 2, 1) := by decide +kernel
theorem dX0_acceptsRounding_36 : decode cX0_acceptsRounding 36 = .ok (.aload_n 1, 1) := by decide +kernel
theorem dX0_acceptsRounding_37 : decode cX0_acceptsRounding 37 = .ok (.getfield 42, 3) := by decide +kernel
theorem dX0_acceptsRounding_40 : decode cX0_acceptsRounding 40 = .ok (.iload 4, 2) := by decide +kernel
theorem dX0_acceptsRounding_42 : decode cX0_acceptsRounding 42 = .ok (.iaload, 1) := by decide +kernel
theorem dX0_acceptsRounding_43 : decode cX0_acceptsRounding 43 = .ok (.i2l, 1) := by decide +kernel
theorem dX0_acceptsRounding_44 : decode cX0_acceptsRounding 44 = .ok (.aload_n 0, 1) := by decide +kernel
theorem dX0_acceptsRounding_45 : decode cX0_acceptsRounding 45 = .ok (.getfield 9, 3) := by decide +kernel
theorem dX0_acceptsRounding_48 : decode cX0_acceptsRounding 48 = .ok (.getfield 46, 3) := by decide +kernel
theorem dX0_acceptsRounding_51 : decode cX0_acceptsRounding 51 = .ok (.iload 4, 2) := by decide +kernel
theorem dX0_acceptsRounding_53 : decode cX0_acceptsRounding 53 = .ok (.iaload, 1) := by decide +kernel
theorem dX0_acceptsRounding_54 : decode cX0_acceptsRounding 54 = .ok (.i2l, 1) := by decide +kernel
theorem dX0_acceptsRounding_55 : decode cX0_acceptsRounding 55 = .ok (.lmul, 1) := by decide +kernel
theorem dX0_acceptsRounding_56 : decode cX0_acceptsRounding 56 = .ok (.ladd, 1) := by decide +kernel
theorem dX0_acceptsRounding_57 : decode cX0_acceptsRounding 57 = .ok (.lstore_n 2, 1) := by decide +kernel
theorem dX0_acceptsRounding_58 : decode cX0_acceptsRounding 58 = .ok (.iinc 4 1, 3) := by decide +kernel
theorem dX0_acceptsRounding_61 : decode cX0_acceptsRounding 61 = .ok (.goto (-38), 3) := by decide +kernel
theorem dX0_acceptsRounding_64 : decode cX0_acceptsRounding 64 = .ok (.iconst 0, 1) := by decide +kernel
theorem dX0_acceptsRounding_65 : decode cX0_acceptsRounding 65 = .ok (.istore 4, 2) := by decide +kernel
theorem dX0_acceptsRounding_67 : decode cX0_acceptsRounding 67 = .ok (.iload 4, 2) := by decide +kernel
theorem dX0_acceptsRounding_69 : decode cX0_acceptsRounding 69 = .ok (.aload_n 0, 1) := by decide +kernel
theorem dX0_acceptsRounding_70 : decode cX0_acceptsRounding 70 = .ok (.getfield 9, 3) := by decide +kernel
theorem dX0_acceptsRounding_73 : decode cX0_acceptsRounding 73 = .ok (.getfield 49, 3) := by decide +kernel
theorem dX0_acceptsRounding_76 : decode cX0_acceptsRounding 76 = .ok (.if_icmp .ge 80, 3) := by decide +kernel
theorem dX0_acceptsRounding_79 : decode cX0_acceptsRounding 79 = .ok (.aload_n 1, 1) := by decide +kernel
theorem dX0_acceptsRounding_80 : decode cX0_acceptsRounding 80 = .ok (.getfield 52, 3) := by decide +kernel
theorem dX0_acceptsRounding_83 : decode cX0_acceptsRounding 83 = .ok (.iload 4, 2) := by decide +kernel
theorem dX0_acceptsRounding_85 : decode cX0_acceptsRounding 85 = .ok (.iaload, 1) := by decide +kernel
theorem dX0_acceptsRounding_86 : decode cX0_acceptsRounding 86 = .ok (.i2l, 1) := by decide +kernel
theorem dX0_acceptsRounding_87 : decode cX0_acceptsRounding 87 = .ok (.aload_n 1, 1) := by decide +kernel
theorem dX0_acceptsRounding_88 : decode cX0_acceptsRounding 88 = .ok (.getfield 31, 3) := by decide +kernel
theorem dX0_acceptsRounding_91 : decode cX0_acceptsRounding 91 = .ok (.i2l, 1) := by decide +kernel
theorem dX0_acceptsRounding_92 : decode cX0_acceptsRounding 92 = .ok (.lmul, 1) := by decide +kernel
theorem dX0_acceptsRounding_93 : decode cX0_acceptsRounding 93 = .ok (.aload_n 0, 1) := by decide +kernel
theorem dX0_acceptsRounding_94 : decode cX0_acceptsRounding 94 = .ok (.aload_n 1, 1) := by decide +kernel
theorem dX0_acceptsRounding_95 : decode cX0_acceptsRounding 95 = .ok (.iload 4, 2) := by decide +kernel
theorem dX0_acceptsRounding_97 : decode cX0_acceptsRounding 97 = .ok (.invokevirtual 55, 3) := by decide +kernel
theorem dX0_acceptsRounding_100 : decode cX0_acceptsRounding 100 = .ok (.lcmp, 1) := by decide +kernel
theorem dX0_acceptsRounding_101 : decode cX0_acceptsRounding 101 = .ok (.ifCond .eq 5, 3) := by decide +kernel
theorem dX0_acceptsRounding_104 : decode cX0_acceptsRounding 104 = .ok (.iconst 0, 1) := by decide +kernel
theorem dX0_acceptsRounding_105 : decode cX0_acceptsRounding 105 = .ok (.ireturn, 1) := by decide +kernel
theorem dX0_acceptsRounding_106 : decode cX0_acceptsRounding 106 = .ok (.lload_n 2, 1) := by decide +kernel
theorem dX0_acceptsRounding_107 : decode cX0_acceptsRounding 107 = .ok (.aload_n 1, 1) := by decide +kernel
theorem dX0_acceptsRounding_108 : decode cX0_acceptsRounding 108 = .ok (.getfield 59, 3) := by decide +kernel
theorem dX0_acceptsRounding_111 : decode cX0_acceptsRounding 111 = .ok (.iload 4, 2) := by decide +kernel
theorem dX0_acceptsRounding_113 : decode cX0_acceptsRounding 113 = .ok (.iaload, 1) := by decide +kernel
theorem dX0_acceptsRounding_114 : decode cX0_acceptsRounding 114 = .ok (.i2l, 1) := by decide +kernel
theorem dX0_acceptsRounding_115 : decode cX0_acceptsRounding 115 = .ok (.aload_n 0, 1) := by decide +kernel
theorem dX0_acceptsRounding_116 : decode cX0_acceptsRounding 116 = .ok (.getfield 9, 3) := by decide +kernel
theorem dX0_acceptsRounding_119 : decode cX0_acceptsRounding 119 = .ok (.getfield 62, 3) := by decide +kernel
theorem dX0_acceptsRounding_122 : decode cX0_acceptsRounding 122 = .ok (.iload 4, 2) := by decide +kernel
theorem dX0_acceptsRounding_124 : decode cX0_acceptsRounding 124 = .ok (.iaload, 1) := by decide +kernel
theorem dX0_acceptsRounding_125 : decode cX0_acceptsRounding 125 = .ok (.i2l, 1) := by decide +kernel
theorem dX0_acceptsRounding_126 : decode cX0_acceptsRounding 126 = .ok (.lmul, 1) := by decide +kernel
theorem dX0_acceptsRounding_127 : decode cX0_acceptsRounding 127 = .ok (.aload_n 1, 1) := by decide +kernel
theorem dX0_acceptsRounding_128 : decode cX0_acceptsRounding 128 = .ok (.getfield 65, 3) := by decide +kernel
theorem dX0_acceptsRounding_131 : decode cX0_acceptsRounding 131 = .ok (.iload 4, 2) := by decide +kernel
theorem dX0_acceptsRounding_133 : decode cX0_acceptsRounding 133 = .ok (.iaload, 1) := by decide +kernel
theorem dX0_acceptsRounding_134 : decode cX0_acceptsRounding 134 = .ok (.i2l, 1) := by decide +kernel
theorem dX0_acceptsRounding_135 : decode cX0_acceptsRounding 135 = .ok (.aload_n 0, 1) := by decide +kernel
theorem dX0_acceptsRounding_136 : decode cX0_acceptsRounding 136 = .ok (.getfield 9, 3) := by decide +kernel
theorem dX0_acceptsRounding_139 : decode cX0_acceptsRounding 139 = .ok (.getfield 68, 3) := by decide +kernel
theorem dX0_acceptsRounding_142 : decode cX0_acceptsRounding 142 = .ok (.iload 4, 2) := by decide +kernel
theorem dX0_acceptsRounding_144 : decode cX0_acceptsRounding 144 = .ok (.iaload, 1) := by decide +kernel
theorem dX0_acceptsRounding_145 : decode cX0_acceptsRounding 145 = .ok (.i2l, 1) := by decide +kernel
theorem dX0_acceptsRounding_146 : decode cX0_acceptsRounding 146 = .ok (.lmul, 1) := by decide +kernel
theorem dX0_acceptsRounding_147 : decode cX0_acceptsRounding 147 = .ok (.lsub, 1) := by decide +kernel
theorem dX0_acceptsRounding_148 : decode cX0_acceptsRounding 148 = .ok (.ladd, 1) := by decide +kernel
theorem dX0_acceptsRounding_149 : decode cX0_acceptsRounding 149 = .ok (.lstore_n 2, 1) := by decide +kernel
theorem dX0_acceptsRounding_150 : decode cX0_acceptsRounding 150 = .ok (.iinc 4 1, 3) := by decide +kernel
theorem dX0_acceptsRounding_153 : decode cX0_acceptsRounding 153 = .ok (.goto (-86), 3) := by decide +kernel
theorem dX0_acceptsRounding_156 : decode cX0_acceptsRounding 156 = .ok (.aload_n 1, 1) := by decide +kernel
theorem dX0_acceptsRounding_157 : decode cX0_acceptsRounding 157 = .ok (.getfield 71, 3) := by decide +kernel
theorem dX0_acceptsRounding_160 : decode cX0_acceptsRounding 160 = .ok (.i2l, 1) := by decide +kernel
theorem dX0_acceptsRounding_161 : decode cX0_acceptsRounding 161 = .ok (.lload_n 2, 1) := by decide +kernel
theorem dX0_acceptsRounding_162 : decode cX0_acceptsRounding 162 = .ok (.aload_n 1, 1) := by decide +kernel
theorem dX0_acceptsRounding_163 : decode cX0_acceptsRounding 163 = .ok (.getfield 31, 3) := by decide +kernel
theorem dX0_acceptsRounding_166 : decode cX0_acceptsRounding 166 = .ok (.i2l, 1) := by decide +kernel
theorem dX0_acceptsRounding_167 : decode cX0_acceptsRounding 167 = .ok (.invokestatic 74, 3) := by decide +kernel
theorem dX0_acceptsRounding_170 : decode cX0_acceptsRounding 170 = .ok (.lcmp, 1) := by decide +kernel
theorem dX0_acceptsRounding_171 : decode cX0_acceptsRounding 171 = .ok (.ifCond .lt 7, 3) := by decide +kernel
theorem dX0_acceptsRounding_174 : decode cX0_acceptsRounding 174 = .ok (.iconst 1, 1) := by decide +kernel
theorem dX0_acceptsRounding_175 : decode cX0_acceptsRounding 175 = .ok (.goto 4, 3) := by decide +kernel
theorem dX0_acceptsRounding_178 : decode cX0_acceptsRounding 178 = .ok (.iconst 0, 1) := by decide +kernel
theorem dX0_acceptsRounding_179 : decode cX0_acceptsRounding 179 = .ok (.ireturn, 1) := by decide +kernel
theorem dX0_isTakenBelowZero_0 : decode cX0_isTakenBelowZero 0 = .ok (.iconst 0, 1) := by decide +kernel
theorem dX0_isTakenBelowZero_1 : decode cX0_isTakenBelowZero 1 = .ok (.istore_n 2, 1) := by decide +kernel
theorem dX0_isTakenBelowZero_2 : decode cX0_isTakenBelowZero 2 = .ok (.iload_n 2, 1) := by decide +kernel
theorem dX0_isTakenBelowZero_3 : decode cX0_isTakenBelowZero 3 = .ok (.aload_n 0, 1) := by decide +kernel
theorem dX0_isTakenBelowZero_4 : decode cX0_isTakenBelowZero 4 = .ok (.getfield 9, 3) := by decide +kernel
theorem dX0_isTakenBelowZero_7 : decode cX0_isTakenBelowZero 7 = .ok (.getfield 37, 3) := by decide +kernel
theorem dX0_isTakenBelowZero_10 : decode cX0_isTakenBelowZero 10 = .ok (.if_icmp .ge 20, 3) := by decide +kernel
theorem dX0_isTakenBelowZero_13 : decode cX0_isTakenBelowZero 13 = .ok (.aload_n 1, 1) := by decide +kernel
theorem dX0_isTakenBelowZero_14 : decode cX0_isTakenBelowZero 14 = .ok (.getfield 42, 3) := by decide +kernel
theorem dX0_isTakenBelowZero_17 : decode cX0_isTakenBelowZero 17 = .ok (.iload_n 2, 1) := by decide +kernel
theorem dX0_isTakenBelowZero_18 : decode cX0_isTakenBelowZero 18 = .ok (.iaload, 1) := by decide +kernel
theorem dX0_isTakenBelowZero_19 : decode cX0_isTakenBelowZero 19 = .ok (.ifCond .ge 5, 3) := by decide +kernel
theorem dX0_isTakenBelowZero_22 : decode cX0_isTakenBelowZero 22 = .ok (.iconst 1, 1) := by decide +kernel
theorem dX0_isTakenBelowZero_23 : decode cX0_isTakenBelowZero 23 = .ok (.ireturn, 1) := by decide +kernel
theorem dX0_isTakenBelowZero_24 : decode cX0_isTakenBelowZero 24 = .ok (.iinc 2 1, 3) := by decide +kernel
theorem dX0_isTakenBelowZero_27 : decode cX0_isTakenBelowZero 27 = .ok (.goto (-25), 3) := by decide +kernel
theorem dX0_isTakenBelowZero_30 : decode cX0_isTakenBelowZero 30 = .ok (.iconst 0, 1) := by decide +kernel
theorem dX0_isTakenBelowZero_31 : decode cX0_isTakenBelowZero 31 = .ok (.istore_n 2, 1) := by decide +kernel
theorem dX0_isTakenBelowZero_32 : decode cX0_isTakenBelowZero 32 = .ok (.iload_n 2, 1) := by decide +kernel
theorem dX0_isTakenBelowZero_33 : decode cX0_isTakenBelowZero 33 = .ok (.aload_n 0, 1) := by decide +kernel
theorem dX0_isTakenBelowZero_34 : decode cX0_isTakenBelowZero 34 = .ok (.getfield 9, 3) := by decide +kernel
theorem dX0_isTakenBelowZero_37 : decode cX0_isTakenBelowZero 37 = .ok (.getfield 49, 3) := by decide +kernel
theorem dX0_isTakenBelowZero_40 : decode cX0_isTakenBelowZero 40 = .ok (.if_icmp .ge 29, 3) := by decide +kernel
theorem dX0_isTakenBelowZero_43 : decode cX0_isTakenBelowZero 43 = .ok (.aload_n 1, 1) := by decide +kernel
theorem dX0_isTakenBelowZero_44 : decode cX0_isTakenBelowZero 44 = .ok (.getfield 65, 3) := by decide +kernel
theorem dX0_isTakenBelowZero_47 : decode cX0_isTakenBelowZero 47 = .ok (.iload_n 2, 1) := by decide +kernel
theorem dX0_isTakenBelowZero_48 : decode cX0_isTakenBelowZero 48 = .ok (.iaload, 1) := by decide +kernel
theorem dX0_isTakenBelowZero_49 : decode cX0_isTakenBelowZero 49 = .ok (.ifCond .lt 12, 3) := by decide +kernel
theorem dX0_isTakenBelowZero_52 : decode cX0_isTakenBelowZero 52 = .ok (.aload_n 1, 1) := by decide +kernel
theorem dX0_isTakenBelowZero_53 : decode cX0_isTakenBelowZero 53 = .ok (.getfield 59, 3) := by decide +kernel
theorem dX0_isTakenBelowZero_56 : decode cX0_isTakenBelowZero 56 = .ok (.iload_n 2, 1) := by decide +kernel
theorem dX0_isTakenBelowZero_57 : decode cX0_isTakenBelowZero 57 = .ok (.iaload, 1) := by decide +kernel
theorem dX0_isTakenBelowZero_58 : decode cX0_isTakenBelowZero 58 = .ok (.ifCond .ge 5, 3) := by decide +kernel
theorem dX0_isTakenBelowZero_61 : decode cX0_isTakenBelowZero 61 = .ok (.iconst 1, 1) := by decide +kernel
theorem dX0_isTakenBelowZero_62 : decode cX0_isTakenBelowZero 62 = .ok (.ireturn, 1) := by decide +kernel
theorem dX0_isTakenBelowZero_63 : decode cX0_isTakenBelowZero 63 = .ok (.iinc 2 1, 3) := by decide +kernel
theorem dX0_isTakenBelowZero_66 : decode cX0_isTakenBelowZero 66 = .ok (.goto (-34), 3) := by decide +kernel
theorem dX0_isTakenBelowZero_69 : decode cX0_isTakenBelowZero 69 = .ok (.iconst 0, 1) := by decide +kernel
theorem dX0_isTakenBelowZero_70 : decode cX0_isTakenBelowZero 70 = .ok (.ireturn, 1) := by decide +kernel
theorem dX0_comingFactor_0 : decode cX0_comingFactor 0 = .ok (.aload_n 1, 1) := by decide +kernel
theorem dX0_comingFactor_1 : decode cX0_comingFactor 1 = .ok (.getfield 59, 3) := by decide +kernel
theorem dX0_comingFactor_4 : decode cX0_comingFactor 4 = .ok (.iload_n 2, 1) := by decide +kernel
theorem dX0_comingFactor_5 : decode cX0_comingFactor 5 = .ok (.iaload, 1) := by decide +kernel
theorem dX0_comingFactor_6 : decode cX0_comingFactor 6 = .ok (.i2l, 1) := by decide +kernel
theorem dX0_comingFactor_7 : decode cX0_comingFactor 7 = .ok (.aload_n 1, 1) := by decide +kernel
theorem dX0_comingFactor_8 : decode cX0_comingFactor 8 = .ok (.getfield 65, 3) := by decide +kernel
theorem dX0_comingFactor_11 : decode cX0_comingFactor 11 = .ok (.iload_n 2, 1) := by decide +kernel
theorem dX0_comingFactor_12 : decode cX0_comingFactor 12 = .ok (.iaload, 1) := by decide +kernel
theorem dX0_comingFactor_13 : decode cX0_comingFactor 13 = .ok (.i2l, 1) := by decide +kernel
theorem dX0_comingFactor_14 : decode cX0_comingFactor 14 = .ok (.lsub, 1) := by decide +kernel
theorem dX0_comingFactor_15 : decode cX0_comingFactor 15 = .ok (.lstore_n 3, 1) := by decide +kernel
theorem dX0_comingFactor_16 : decode cX0_comingFactor 16 = .ok (.iconst 0, 1) := by decide +kernel
theorem dX0_comingFactor_17 : decode cX0_comingFactor 17 = .ok (.istore 5, 2) := by decide +kernel
theorem dX0_comingFactor_19 : decode cX0_comingFactor 19 = .ok (.iload 5, 2) := by decide +kernel
theorem dX0_comingFactor_21 : decode cX0_comingFactor 21 = .ok (.aload_n 0, 1) := by decide +kernel
theorem dX0_comingFactor_22 : decode cX0_comingFactor 22 = .ok (.getfield 9, 3) := by decide +kernel
theorem dX0_comingFactor_25 : decode cX0_comingFactor 25 = .ok (.getfield 37, 3) := by decide +kernel
theorem dX0_comingFactor_28 : decode cX0_comingFactor 28 = .ok (.if_icmp .ge 34, 3) := by decide +kernel
theorem dX0_comingFactor_31 : decode cX0_comingFactor 31 = .ok (.lload_n 3, 1) := by decide +kernel
theorem dX0_comingFactor_32 : decode cX0_comingFactor 32 = .ok (.aload_n 1, 1) := by decide +kernel
theorem dX0_comingFactor_33 : decode cX0_comingFactor 33 = .ok (.getfield 42, 3) := by decide +kernel
theorem dX0_comingFactor_36 : decode cX0_comingFactor 36 = .ok (.iload 5, 2) := by decide +kernel
theorem dX0_comingFactor_38 : decode cX0_comingFactor 38 = .ok (.iaload, 1) := by decide +kernel
theorem dX0_comingFactor_39 : decode cX0_comingFactor 39 = .ok (.i2l, 1) := by decide +kernel
theorem dX0_comingFactor_40 : decode cX0_comingFactor 40 = .ok (.aload_n 0, 1) := by decide +kernel
theorem dX0_comingFactor_41 : decode cX0_comingFactor 41 = .ok (.getfield 9, 3) := by decide +kernel
theorem dX0_comingFactor_44 : decode cX0_comingFactor 44 = .ok (.getfield 80, 3) := by decide +kernel
theorem dX0_comingFactor_47 : decode cX0_comingFactor 47 = .ok (.iload 5, 2) := by decide +kernel
theorem dX0_comingFactor_49 : decode cX0_comingFactor 49 = .ok (.aaload, 1) := by decide +kernel
theorem dX0_comingFactor_50 : decode cX0_comingFactor 50 = .ok (.iload_n 2, 1) := by decide +kernel
theorem dX0_comingFactor_51 : decode cX0_comingFactor 51 = .ok (.iaload, 1) := by decide +kernel
theorem dX0_comingFactor_52 : decode cX0_comingFactor 52 = .ok (.i2l, 1) := by decide +kernel
theorem dX0_comingFactor_53 : decode cX0_comingFactor 53 = .ok (.lmul, 1) := by decide +kernel
theorem dX0_comingFactor_54 : decode cX0_comingFactor 54 = .ok (.ladd, 1) := by decide +kernel
theorem dX0_comingFactor_55 : decode cX0_comingFactor 55 = .ok (.lstore_n 3, 1) := by decide +kernel
theorem dX0_comingFactor_56 : decode cX0_comingFactor 56 = .ok (.iinc 5 1, 3) := by decide +kernel
theorem dX0_comingFactor_59 : decode cX0_comingFactor 59 = .ok (.goto (-40), 3) := by decide +kernel
theorem dX0_comingFactor_62 : decode cX0_comingFactor 62 = .ok (.lload_n 3, 1) := by decide +kernel
theorem dX0_comingFactor_63 : decode cX0_comingFactor 63 = .ok (.lreturn, 1) := by decide +kernel
theorem dX0_acceptsCover_0 : decode cX0_acceptsCover 0 = .ok (.aload_n 1, 1) := by decide +kernel
theorem dX0_acceptsCover_1 : decode cX0_acceptsCover 1 = .ok (.getfield 83, 3) := by decide +kernel
theorem dX0_acceptsCover_4 : decode cX0_acceptsCover 4 = .ok (.istore_n 2, 1) := by decide +kernel
theorem dX0_acceptsCover_5 : decode cX0_acceptsCover 5 = .ok (.aload_n 0, 1) := by decide +kernel
theorem dX0_acceptsCover_6 : decode cX0_acceptsCover 6 = .ok (.getfield 9, 3) := by decide +kernel
theorem dX0_acceptsCover_9 : decode cX0_acceptsCover 9 = .ok (.iload_n 2, 1) := by decide +kernel
theorem dX0_acceptsCover_10 : decode cX0_acceptsCover 10 = .ok (.invokevirtual 86, 3) := by decide +kernel
theorem dX0_acceptsCover_13 : decode cX0_acceptsCover 13 = .ok (.ifCond .ne 5, 3) := by decide +kernel
theorem dX0_acceptsCover_16 : decode cX0_acceptsCover 16 = .ok (.iconst 0, 1) := by decide +kernel
theorem dX0_acceptsCover_17 : decode cX0_acceptsCover 17 = .ok (.ireturn, 1) := by decide +kernel
theorem dX0_acceptsCover_18 : decode cX0_acceptsCover 18 = .ok (.iconst 0, 1) := by decide +kernel
theorem dX0_acceptsCover_19 : decode cX0_acceptsCover 19 = .ok (.istore_n 3, 1) := by decide +kernel
theorem dX0_acceptsCover_20 : decode cX0_acceptsCover 20 = .ok (.iconst 0, 1) := by decide +kernel
theorem dX0_acceptsCover_21 : decode cX0_acceptsCover 21 = .ok (.istore 4, 2) := by decide +kernel
theorem dX0_acceptsCover_23 : decode cX0_acceptsCover 23 = .ok (.iconst 0, 1) := by decide +kernel
theorem dX0_acceptsCover_24 : decode cX0_acceptsCover 24 = .ok (.istore 5, 2) := by decide +kernel
theorem dX0_acceptsCover_26 : decode cX0_acceptsCover 26 = .ok (.iload 5, 2) := by decide +kernel
theorem dX0_acceptsCover_28 : decode cX0_acceptsCover 28 = .ok (.aload_n 0, 1) := by decide +kernel
theorem dX0_acceptsCover_29 : decode cX0_acceptsCover 29 = .ok (.getfield 9, 3) := by decide +kernel
theorem dX0_acceptsCover_32 : decode cX0_acceptsCover 32 = .ok (.getfield 49, 3) := by decide +kernel
theorem dX0_acceptsCover_35 : decode cX0_acceptsCover 35 = .ok (.if_icmp .ge 61, 3) := by decide +kernel
theorem dX0_acceptsCover_38 : decode cX0_acceptsCover 38 = .ok (.aload_n 1, 1) := by decide +kernel
theorem dX0_acceptsCover_39 : decode cX0_acceptsCover 39 = .ok (.getfield 52, 3) := by decide +kernel
theorem dX0_acceptsCover_42 : decode cX0_acceptsCover 42 = .ok (.iload 5, 2) := by decide +kernel
theorem dX0_acceptsCover_44 : decode cX0_acceptsCover 44 = .ok (.iaload, 1) := by decide +kernel
theorem dX0_acceptsCover_45 : decode cX0_acceptsCover 45 = .ok (.ifCond .ne 21, 3) := by decide +kernel
theorem dX0_acceptsCover_48 : decode cX0_acceptsCover 48 = .ok (.iload 4, 2) := by decide +kernel
theorem dX0_acceptsCover_50 : decode cX0_acceptsCover 50 = .ok (.aload_n 0, 1) := by decide +kernel
theorem dX0_acceptsCover_51 : decode cX0_acceptsCover 51 = .ok (.getfield 9, 3) := by decide +kernel
theorem dX0_acceptsCover_54 : decode cX0_acceptsCover 54 = .ok (.iload_n 2, 1) := by decide +kernel
theorem dX0_acceptsCover_55 : decode cX0_acceptsCover 55 = .ok (.iload 5, 2) := by decide +kernel
theorem dX0_acceptsCover_57 : decode cX0_acceptsCover 57 = .ok (.invokevirtual 90, 3) := by decide +kernel
theorem dX0_acceptsCover_60 : decode cX0_acceptsCover 60 = .ok (.iadd, 1) := by decide +kernel
theorem dX0_acceptsCover_61 : decode cX0_acceptsCover 61 = .ok (.istore 4, 2) := by decide +kernel
theorem dX0_acceptsCover_63 : decode cX0_acceptsCover 63 = .ok (.goto 27, 3) := by decide +kernel
theorem dX0_acceptsCover_66 : decode cX0_acceptsCover 66 = .ok (.aload_n 0, 1) := by decide +kernel
theorem dX0_acceptsCover_67 : decode cX0_acceptsCover 67 = .ok (.getfield 9, 3) := by decide +kernel
theorem dX0_acceptsCover_70 : decode cX0_acceptsCover 70 = .ok (.iload 5, 2) := by decide +kernel
theorem dX0_acceptsCover_72 : decode cX0_acceptsCover 72 = .ok (.invokevirtual 94, 3) := by decide +kernel
theorem dX0_acceptsCover_75 : decode cX0_acceptsCover 75 = .ok (.ifCond .eq 13, 3) := by decide +kernel
theorem dX0_acceptsCover_78 : decode cX0_acceptsCover 78 = .ok (.iload_n 3, 1) := by decide +kernel
theorem dX0_acceptsCover_79 : decode cX0_acceptsCover 79 = .ok (.iconst 1, 1) := by decide +kernel
theorem dX0_acceptsCover_80 : decode cX0_acceptsCover 80 = .ok (.iload 5, 2) := by decide +kernel
theorem dX0_acceptsCover_82 : decode cX0_acceptsCover 82 = .ok (.ishl, 1) := by decide +kernel
theorem dX0_acceptsCover_83 : decode cX0_acceptsCover 83 = .ok (.ior, 1) := by decide +kernel
theorem dX0_acceptsCover_84 : decode cX0_acceptsCover 84 = .ok (.istore_n 3, 1) := by decide +kernel
theorem dX0_acceptsCover_85 : decode cX0_acceptsCover 85 = .ok (.goto 5, 3) := by decide +kernel
theorem dX0_acceptsCover_88 : decode cX0_acceptsCover 88 = .ok (.iconst 0, 1) := by decide +kernel
theorem dX0_acceptsCover_89 : decode cX0_acceptsCover 89 = .ok (.ireturn, 1) := by decide +kernel
theorem dX0_acceptsCover_90 : decode cX0_acceptsCover 90 = .ok (.iinc 5 1, 3) := by decide +kernel
theorem dX0_acceptsCover_93 : decode cX0_acceptsCover 93 = .ok (.goto (-67), 3) := by decide +kernel
theorem dX0_acceptsCover_96 : decode cX0_acceptsCover 96 = .ok (.aload_n 0, 1) := by decide +kernel
theorem dX0_acceptsCover_97 : decode cX0_acceptsCover 97 = .ok (.getfield 9, 3) := by decide +kernel
theorem dX0_acceptsCover_100 : decode cX0_acceptsCover 100 = .ok (.getfield 46, 3) := by decide +kernel
theorem dX0_acceptsCover_103 : decode cX0_acceptsCover 103 = .ok (.iload_n 2, 1) := by decide +kernel
theorem dX0_acceptsCover_104 : decode cX0_acceptsCover 104 = .ok (.iaload, 1) := by decide +kernel
theorem dX0_acceptsCover_105 : decode cX0_acceptsCover 105 = .ok (.iload 4, 2) := by decide +kernel
theorem dX0_acceptsCover_107 : decode cX0_acceptsCover 107 = .ok (.isub, 1) := by decide +kernel
theorem dX0_acceptsCover_108 : decode cX0_acceptsCover 108 = .ok (.istore 5, 2) := by decide +kernel
theorem dX0_acceptsCover_110 : decode cX0_acceptsCover 110 = .ok (.iconst 0, 1) := by decide +kernel
theorem dX0_acceptsCover_111 : decode cX0_acceptsCover 111 = .ok (.istore 6, 2) := by decide +kernel
theorem dX0_acceptsCover_113 : decode cX0_acceptsCover 113 = .ok (.iload 6, 2) := by decide +kernel
theorem dX0_acceptsCover_115 : decode cX0_acceptsCover 115 = .ok (.iload_n 3, 1) := by decide +kernel
theorem dX0_acceptsCover_116 : decode cX0_acceptsCover 116 = .ok (.if_icmp .gt 60, 3) := by decide +kernel
theorem dX0_acceptsCover_119 : decode cX0_acceptsCover 119 = .ok (.iload 6, 2) := by decide +kernel
theorem dX0_acceptsCover_121 : decode cX0_acceptsCover 121 = .ok (.iload_n 3, 1) := by decide +kernel
theorem dX0_acceptsCover_122 : decode cX0_acceptsCover 122 = .ok (.iconst (-1), 1) := by decide +kernel
theorem dX0_acceptsCover_123 : decode cX0_acceptsCover 123 = .ok (.ixor, 1) := by decide +kernel
theorem dX0_acceptsCover_124 : decode cX0_acceptsCover 124 = .ok (.iand, 1) := by decide +kernel
theorem dX0_acceptsCover_125 : decode cX0_acceptsCover 125 = .ok (.ifCond .ne 45, 3) := by decide +kernel
theorem dX0_acceptsCover_128 : decode cX0_acceptsCover 128 = .ok (.aload_n 0, 1) := by decide +kernel
theorem dX0_acceptsCover_129 : decode cX0_acceptsCover 129 = .ok (.aload_n 0, 1) := by decide +kernel
theorem dX0_acceptsCover_130 : decode cX0_acceptsCover 130 = .ok (.getfield 9, 3) := by decide +kernel
theorem dX0_acceptsCover_133 : decode cX0_acceptsCover 133 = .ok (.getfield 80, 3) := by decide +kernel
theorem dX0_acceptsCover_136 : decode cX0_acceptsCover 136 = .ok (.iload_n 2, 1) := by decide +kernel
theorem dX0_acceptsCover_137 : decode cX0_acceptsCover 137 = .ok (.aaload, 1) := by decide +kernel
theorem dX0_acceptsCover_138 : decode cX0_acceptsCover 138 = .ok (.iload 6, 2) := by decide +kernel
theorem dX0_acceptsCover_140 : decode cX0_acceptsCover 140 = .ok (.invokevirtual 97, 3) := by decide +kernel
theorem dX0_acceptsCover_143 : decode cX0_acceptsCover 143 = .ok (.iload 5, 2) := by decide +kernel
theorem dX0_acceptsCover_145 : decode cX0_acceptsCover 145 = .ok (.if_icmp .le 6, 3) := by decide +kernel
theorem dX0_acceptsCover_148 : decode cX0_acceptsCover 148 = .ok (.goto 22, 3) := by decide +kernel
theorem dX0_acceptsCover_151 : decode cX0_acceptsCover 151 = .ok (.aload_n 0, 1) := by decide +kernel
theorem dX0_acceptsCover_152 : decode cX0_acceptsCover 152 = .ok (.aload_n 1, 1) := by decide +kernel
theorem dX0_acceptsCover_153 : decode cX0_acceptsCover 153 = .ok (.getfield 52, 3) := by decide +kernel
theorem dX0_acceptsCover_156 : decode cX0_acceptsCover 156 = .ok (.iload 6, 2) := by decide +kernel
theorem dX0_acceptsCover_158 : decode cX0_acceptsCover 158 = .ok (.invokevirtual 97, 3) := by decide +kernel
theorem dX0_acceptsCover_161 : decode cX0_acceptsCover 161 = .ok (.aload_n 1, 1) := by decide +kernel
theorem dX0_acceptsCover_162 : decode cX0_acceptsCover 162 = .ok (.getfield 71, 3) := by decide +kernel
theorem dX0_acceptsCover_165 : decode cX0_acceptsCover 165 = .ok (.if_icmp .le 5, 3) := by decide +kernel
theorem dX0_acceptsCover_168 : decode cX0_acceptsCover 168 = .ok (.iconst 0, 1) := by decide +kernel
theorem dX0_acceptsCover_169 : decode cX0_acceptsCover 169 = .ok (.ireturn, 1) := by decide +kernel
theorem dX0_acceptsCover_170 : decode cX0_acceptsCover 170 = .ok (.iinc 6 1, 3) := by decide +kernel
theorem dX0_acceptsCover_173 : decode cX0_acceptsCover 173 = .ok (.goto (-60), 3) := by decide +kernel
theorem dX0_acceptsCover_176 : decode cX0_acceptsCover 176 = .ok (.iconst 1, 1) := by decide +kernel
theorem dX0_acceptsCover_177 : decode cX0_acceptsCover 177 = .ok (.ireturn, 1) := by decide +kernel
theorem dX0_sumOver_0 : decode cX0_sumOver 0 = .ok (.iconst 0, 1) := by decide +kernel
theorem dX0_sumOver_1 : decode cX0_sumOver 1 = .ok (.istore_n 3, 1) := by decide +kernel
theorem dX0_sumOver_2 : decode cX0_sumOver 2 = .ok (.iconst 0, 1) := by decide +kernel
theorem dX0_sumOver_3 : decode cX0_sumOver 3 = .ok (.istore 4, 2) := by decide +kernel
theorem dX0_sumOver_5 : decode cX0_sumOver 5 = .ok (.iload 4, 2) := by decide +kernel
theorem dX0_sumOver_7 : decode cX0_sumOver 7 = .ok (.aload_n 0, 1) := by decide +kernel
theorem dX0_sumOver_8 : decode cX0_sumOver 8 = .ok (.getfield 9, 3) := by decide +kernel
theorem dX0_sumOver_11 : decode cX0_sumOver 11 = .ok (.getfield 49, 3) := by decide +kernel
theorem dX0_sumOver_14 : decode cX0_sumOver 14 = .ok (.if_icmp .ge 25, 3) := by decide +kernel
theorem dX0_sumOver_17 : decode cX0_sumOver 17 = .ok (.iload_n 2, 1) := by decide +kernel
theorem dX0_sumOver_18 : decode cX0_sumOver 18 = .ok (.iload 4, 2) := by decide +kernel
theorem dX0_sumOver_20 : decode cX0_sumOver 20 = .ok (.invokestatic 101, 3) := by decide +kernel
theorem dX0_sumOver_23 : decode cX0_sumOver 23 = .ok (.ifCond .eq 10, 3) := by decide +kernel
theorem dX0_sumOver_26 : decode cX0_sumOver 26 = .ok (.iload_n 3, 1) := by decide +kernel
theorem dX0_sumOver_27 : decode cX0_sumOver 27 = .ok (.aload_n 1, 1) := by decide +kernel
theorem dX0_sumOver_28 : decode cX0_sumOver 28 = .ok (.iload 4, 2) := by decide +kernel
theorem dX0_sumOver_30 : decode cX0_sumOver 30 = .ok (.iaload, 1) := by decide +kernel
theorem dX0_sumOver_31 : decode cX0_sumOver 31 = .ok (.iadd, 1) := by decide +kernel
theorem dX0_sumOver_32 : decode cX0_sumOver 32 = .ok (.istore_n 3, 1) := by decide +kernel
theorem dX0_sumOver_33 : decode cX0_sumOver 33 = .ok (.iinc 4 1, 3) := by decide +kernel
theorem dX0_sumOver_36 : decode cX0_sumOver 36 = .ok (.goto (-31), 3) := by decide +kernel
theorem dX0_sumOver_39 : decode cX0_sumOver 39 = .ok (.iload_n 3, 1) := by decide +kernel
theorem dX0_sumOver_40 : decode cX0_sumOver 40 = .ok (.ireturn, 1) := by decide +kernel
theorem dX0_acceptsClique_0 : decode cX0_acceptsClique 0 = .ok (.aload_n 1, 1) := by decide +kernel
theorem dX0_acceptsClique_1 : decode cX0_acceptsClique 1 = .ok (.getfield 71, 3) := by decide +kernel
theorem dX0_acceptsClique_4 : decode cX0_acceptsClique 4 = .ok (.iconst 1, 1) := by decide +kernel
theorem dX0_acceptsClique_5 : decode cX0_acceptsClique 5 = .ok (.if_icmp .ge 5, 3) := by decide +kernel
theorem dX0_acceptsClique_8 : decode cX0_acceptsClique 8 = .ok (.iconst 0, 1) := by decide +kernel
theorem dX0_acceptsClique_9 : decode cX0_acceptsClique 9 = .ok (.ireturn, 1) := by decide +kernel
theorem dX0_acceptsClique_10 : decode cX0_acceptsClique 10 = .ok (.iconst 0, 1) := by decide +kernel
theorem dX0_acceptsClique_11 : decode cX0_acceptsClique 11 = .ok (.istore_n 2, 1) := by decide +kernel
theorem dX0_acceptsClique_12 : decode cX0_acceptsClique 12 = .ok (.iload_n 2, 1) := by decide +kernel
theorem dX0_acceptsClique_13 : decode cX0_acceptsClique 13 = .ok (.aload_n 0, 1) := by decide +kernel
theorem dX0_acceptsClique_14 : decode cX0_acceptsClique 14 = .ok (.getfield 9, 3) := by decide +kernel
theorem dX0_acceptsClique_17 : decode cX0_acceptsClique 17 = .ok (.getfield 49, 3) := by decide +kernel
theorem dX0_acceptsClique_20 : decode cX0_acceptsClique 20 = .ok (.if_icmp .ge 81, 3) := by decide +kernel
theorem dX0_acceptsClique_23 : decode cX0_acceptsClique 23 = .ok (.aload_n 1, 1) := by decide +kernel
theorem dX0_acceptsClique_24 : decode cX0_acceptsClique 24 = .ok (.getfield 52, 3) := by decide +kernel
theorem dX0_acceptsClique_27 : decode cX0_acceptsClique 27 = .ok (.iload_n 2, 1) := by decide +kernel
theorem dX0_acceptsClique_28 : decode cX0_acceptsClique 28 = .ok (.iaload, 1) := by decide +kernel
theorem dX0_acceptsClique_29 : decode cX0_acceptsClique 29 = .ok (.ifCond .ne 6, 3) := by decide +kernel
theorem dX0_acceptsClique_32 : decode cX0_acceptsClique 32 = .ok (.goto 63, 3) := by decide +kernel
theorem dX0_acceptsClique_35 : decode cX0_acceptsClique 35 = .ok (.aload_n 1, 1) := by decide +kernel
theorem dX0_acceptsClique_36 : decode cX0_acceptsClique 36 = .ok (.getfield 52, 3) := by decide +kernel
theorem dX0_acceptsClique_39 : decode cX0_acceptsClique 39 = .ok (.iload_n 2, 1) := by decide +kernel
theorem dX0_acceptsClique_40 : decode cX0_acceptsClique 40 = .ok (.iaload, 1) := by decide +kernel
theorem dX0_acceptsClique_41 : decode cX0_acceptsClique 41 = .ok (.iconst 1, 1) := by decide +kernel
theorem dX0_acceptsClique_42 : decode cX0_acceptsClique 42 = .ok (.if_icmp .ne 14, 3) := by decide +kernel
theorem dX0_acceptsClique_45 : decode cX0_acceptsClique 45 = .ok (.aload_n 0, 1) := by decide +kernel
theorem dX0_acceptsClique_46 : decode cX0_acceptsClique 46 = .ok (.getfield 9, 3) := by decide +kernel
theorem dX0_acceptsClique_49 : decode cX0_acceptsClique 49 = .ok (.iload_n 2, 1) := by decide +kernel
theorem dX0_acceptsClique_50 : decode cX0_acceptsClique 50 = .ok (.invokevirtual 94, 3) := by decide +kernel
theorem dX0_acceptsClique_53 : decode cX0_acceptsClique 53 = .ok (.ifCond .ne 5, 3) := by decide +kernel
theorem dX0_acceptsClique_56 : decode cX0_acceptsClique 56 = .ok (.iconst 0, 1) := by decide +kernel
theorem dX0_acceptsClique_57 : decode cX0_acceptsClique 57 = .ok (.ireturn, 1) := by decide +kernel
theorem dX0_acceptsClique_58 : decode cX0_acceptsClique 58 = .ok (.iconst 0, 1) := by decide +kernel
theorem dX0_acceptsClique_59 : decode cX0_acceptsClique 59 = .ok (.istore_n 3, 1) := by decide +kernel
theorem dX0_acceptsClique_60 : decode cX0_acceptsClique 60 = .ok (.iload_n 3, 1) := by decide +kernel
theorem dX0_acceptsClique_61 : decode cX0_acceptsClique 61 = .ok (.iload_n 2, 1) := by decide +kernel
theorem dX0_acceptsClique_62 : decode cX0_acceptsClique 62 = .ok (.if_icmp .ge 33, 3) := by decide +kernel
theorem dX0_acceptsClique_65 : decode cX0_acceptsClique 65 = .ok (.aload_n 1, 1) := by decide +kernel
theorem dX0_acceptsClique_66 : decode cX0_acceptsClique 66 = .ok (.getfield 52, 3) := by decide +kernel
theorem dX0_acceptsClique_69 : decode cX0_acceptsClique 69 = .ok (.iload_n 3, 1) := by decide +kernel
theorem dX0_acceptsClique_70 : decode cX0_acceptsClique 70 = .ok (.iaload, 1) := by decide +kernel
theorem dX0_acceptsClique_71 : decode cX0_acceptsClique 71 = .ok (.iconst 1, 1) := by decide +kernel
theorem dX0_acceptsClique_72 : decode cX0_acceptsClique 72 = .ok (.if_icmp .ne 17, 3) := by decide +kernel
theorem dX0_acceptsClique_75 : decode cX0_acceptsClique 75 = .ok (.aload_n 0, 1) := by decide +kernel
theorem dX0_acceptsClique_76 : decode cX0_acceptsClique 76 = .ok (.getfield 9, 3) := by decide +kernel
theorem dX0_acceptsClique_79 : decode cX0_acceptsClique 79 = .ok (.iload_n 3, 1) := by decide +kernel
theorem dX0_acceptsClique_80 : decode cX0_acceptsClique 80 = .ok (.iload_n 2, 1) := by decide +kernel
theorem dX0_acceptsClique_81 : decode cX0_acceptsClique 81 = .ok (.invokevirtual 105, 3) := by decide +kernel
theorem dX0_acceptsClique_84 : decode cX0_acceptsClique 84 = .ok (.ifCond .ne 5, 3) := by decide +kernel
theorem dX0_acceptsClique_87 : decode cX0_acceptsClique 87 = .ok (.iconst 0, 1) := by decide +kernel
theorem dX0_acceptsClique_88 : decode cX0_acceptsClique 88 = .ok (.ireturn, 1) := by decide +kernel
theorem dX0_acceptsClique_89 : decode cX0_acceptsClique 89 = .ok (.iinc 3 1, 3) := by decide +kernel
theorem dX0_acceptsClique_92 : decode cX0_acceptsClique 92 = .ok (.goto (-32), 3) := by decide +kernel
theorem dX0_acceptsClique_95 : decode cX0_acceptsClique 95 = .ok (.iinc 2 1, 3) := by decide +kernel
theorem dX0_acceptsClique_98 : decode cX0_acceptsClique 98 = .ok (.goto (-86), 3) := by decide +kernel
theorem dX0_acceptsClique_101 : decode cX0_acceptsClique 101 = .ok (.iconst 1, 1) := by decide +kernel
theorem dX0_acceptsClique_102 : decode cX0_acceptsClique 102 = .ok (.ireturn, 1) := by decide +kernel
theorem dX1_init_0 : decode cX1_init 0 = .ok (.aload_n 0, 1) := by decide +kernel
theorem dX1_init_1 : decode cX1_init 1 = .ok (.invokespecial 3, 3) := by decide +kernel
theorem dX1_init_4 : decode cX1_init 4 = .ok (.aload_n 0, 1) := by decide +kernel
theorem dX1_init_5 : decode cX1_init 5 = .ok (.bipush 8, 2) := by decide +kernel
theorem dX1_init_7 : decode cX1_init 7 = .ok (.newarray .int, 2) := by decide +kernel
theorem dX1_init_9 : decode cX1_init 9 = .ok (.putfield 9, 3) := by decide +kernel
theorem dX1_init_12 : decode cX1_init 12 = .ok (.aload_n 0, 1) := by decide +kernel
theorem dX1_init_13 : decode cX1_init 13 = .ok (.bipush 10, 2) := by decide +kernel
theorem dX1_init_15 : decode cX1_init 15 = .ok (.newarray .int, 2) := by decide +kernel
theorem dX1_init_17 : decode cX1_init 17 = .ok (.putfield 15, 3) := by decide +kernel
theorem dX1_init_20 : decode cX1_init 20 = .ok (.aload_n 0, 1) := by decide +kernel
theorem dX1_init_21 : decode cX1_init 21 = .ok (.aload_n 1, 1) := by decide +kernel
theorem dX1_init_22 : decode cX1_init 22 = .ok (.putfield 18, 3) := by decide +kernel
theorem dX1_init_25 : decode cX1_init 25 = .ok (.return_, 1) := by decide +kernel
theorem dX1_begin_0 : decode cX1_begin 0 = .ok (.aload_n 0, 1) := by decide +kernel
theorem dX1_begin_1 : decode cX1_begin 1 = .ok (.getfield 15, 3) := by decide +kernel
theorem dX1_begin_4 : decode cX1_begin 4 = .ok (.iconst 0, 1) := by decide +kernel
theorem dX1_begin_5 : decode cX1_begin 5 = .ok (.invokestatic 22, 3) := by decide +kernel
theorem dX1_begin_8 : decode cX1_begin 8 = .ok (.aload_n 0, 1) := by decide +kernel
theorem dX1_begin_9 : decode cX1_begin 9 = .ok (.getfield 9, 3) := by decide +kernel
theorem dX1_begin_12 : decode cX1_begin 12 = .ok (.iconst 0, 1) := by decide +kernel
theorem dX1_begin_13 : decode cX1_begin 13 = .ok (.invokestatic 22, 3) := by decide +kernel
theorem dX1_begin_16 : decode cX1_begin 16 = .ok (.iconst 0, 1) := by decide +kernel
theorem dX1_begin_17 : decode cX1_begin 17 = .ok (.istore_n 1, 1) := by decide +kernel
theorem dX1_begin_18 : decode cX1_begin 18 = .ok (.iload_n 1, 1) := by decide +kernel
theorem dX1_begin_19 : decode cX1_begin 19 = .ok (.aload_n 0, 1) := by decide +kernel
theorem dX1_begin_20 : decode cX1_begin 20 = .ok (.getfield 18, 3) := by decide +kernel
theorem dX1_begin_23 : decode cX1_begin 23 = .ok (.getfield 28, 3) := by decide +kernel
theorem dX1_begin_26 : decode cX1_begin 26 = .ok (.if_icmp .ge 23, 3) := by decide +kernel
theorem dX1_begin_29 : decode cX1_begin 29 = .ok (.aload_n 0, 1) := by decide +kernel
theorem dX1_begin_30 : decode cX1_begin 30 = .ok (.iload_n 1, 1) := by decide +kernel
theorem dX1_begin_31 : decode cX1_begin 31 = .ok (.aload_n 0, 1) := by decide +kernel
theorem dX1_begin_32 : decode cX1_begin 32 = .ok (.getfield 18, 3) := by decide +kernel
theorem dX1_begin_35 : decode cX1_begin 35 = .ok (.getfield 34, 3) := by decide +kernel
theorem dX1_begin_38 : decode cX1_begin 38 = .ok (.iload_n 1, 1) := by decide +kernel
theorem dX1_begin_39 : decode cX1_begin 39 = .ok (.iaload, 1) := by decide +kernel
theorem dX1_begin_40 : decode cX1_begin 40 = .ok (.invokevirtual 37, 3) := by decide +kernel
theorem dX1_begin_43 : decode cX1_begin 43 = .ok (.iinc 1 1, 3) := by decide +kernel
theorem dX1_begin_46 : decode cX1_begin 46 = .ok (.goto (-28), 3) := by decide +kernel
theorem dX1_begin_49 : decode cX1_begin 49 = .ok (.return_, 1) := by decide +kernel
theorem dX1_advance_0 : decode cX1_advance 0 = .ok (.iconst 0, 1) := by decide +kernel
theorem dX1_advance_1 : decode cX1_advance 1 = .ok (.istore_n 1, 1) := by decide +kernel
theorem dX1_advance_2 : decode cX1_advance 2 = .ok (.iload_n 1, 1) := by decide +kernel
theorem dX1_advance_3 : decode cX1_advance 3 = .ok (.aload_n 0, 1) := by decide +kernel
theorem dX1_advance_4 : decode cX1_advance 4 = .ok (.getfield 18, 3) := by decide +kernel
theorem dX1_advance_7 : decode cX1_advance 7 = .ok (.getfield 28, 3) := by decide +kernel
theorem dX1_advance_10 : decode cX1_advance 10 = .ok (.if_icmp .ge 55, 3) := by decide +kernel
theorem dX1_advance_13 : decode cX1_advance 13 = .ok (.aload_n 0, 1) := by decide +kernel
theorem dX1_advance_14 : decode cX1_advance 14 = .ok (.getfield 9, 3) := by decide +kernel
theorem dX1_advance_17 : decode cX1_advance 17 = .ok (.iload_n 1, 1) := by decide +kernel
theorem dX1_advance_18 : decode cX1_advance 18 = .ok (.iaload, 1) := by decide +kernel
theorem dX1_advance_19 : decode cX1_advance 19 = .ok (.aload_n 0, 1) := by decide +kernel
theorem dX1_advance_20 : decode cX1_advance 20 = .ok (.getfield 18, 3) := by decide +kernel
theorem dX1_advance_23 : decode cX1_advance 23 = .ok (.getfield 41, 3) := by decide +kernel
theorem dX1_advance_26 : decode cX1_advance 26 = .ok (.iload_n 1, 1) := by decide +kernel
theorem dX1_advance_27 : decode cX1_advance 27 = .ok (.iaload, 1) := by decide +kernel
theorem dX1_advance_28 : decode cX1_advance 28 = .ok (.if_icmp .ge 17, 3) := by decide +kernel
theorem dX1_advance_31 : decode cX1_advance 31 = .ok (.aload_n 0, 1) := by decide +kernel
theorem dX1_advance_32 : decode cX1_advance 32 = .ok (.iload_n 1, 1) := by decide +kernel
theorem dX1_advance_33 : decode cX1_advance 33 = .ok (.aload_n 0, 1) := by decide +kernel
theorem dX1_advance_34 : decode cX1_advance 34 = .ok (.getfield 9, 3) := by decide +kernel
theorem dX1_advance_37 : decode cX1_advance 37 = .ok (.iload_n 1, 1) := by decide +kernel
theorem dX1_advance_38 : decode cX1_advance 38 = .ok (.iaload, 1) := by decide +kernel
theorem dX1_advance_39 : decode cX1_advance 39 = .ok (.iconst 1, 1) := by decide +kernel
theorem dX1_advance_40 : decode cX1_advance 40 = .ok (.iadd, 1) := by decide +kernel
theorem dX1_advance_41 : decode cX1_advance 41 = .ok (.invokevirtual 37, 3) := by decide +kernel
theorem dX1_advance_44 : decode cX1_advance 44 = .ok (.return_, 1) := by decide +kernel
theorem dX1_advance_45 : decode cX1_advance 45 = .ok (.aload_n 0, 1) := by decide +kernel
theorem dX1_advance_46 : decode cX1_advance 46 = .ok (.iload_n 1, 1) := by decide +kernel
theorem dX1_advance_47 : decode cX1_advance 47 = .ok (.aload_n 0, 1) := by decide +kernel
theorem dX1_advance_48 : decode cX1_advance 48 = .ok (.getfield 18, 3) := by decide +kernel
theorem dX1_advance_51 : decode cX1_advance 51 = .ok (.getfield 34, 3) := by decide +kernel
theorem dX1_advance_54 : decode cX1_advance 54 = .ok (.iload_n 1, 1) := by decide +kernel
theorem dX1_advance_55 : decode cX1_advance 55 = .ok (.iaload, 1) := by decide +kernel
theorem dX1_advance_56 : decode cX1_advance 56 = .ok (.invokevirtual 37, 3) := by decide +kernel
theorem dX1_advance_59 : decode cX1_advance 59 = .ok (.iinc 1 1, 3) := by decide +kernel
theorem dX1_advance_62 : decode cX1_advance 62 = .ok (.goto (-60), 3) := by decide +kernel
theorem dX1_advance_65 : decode cX1_advance 65 = .ok (.return_, 1) := by decide +kernel
theorem dX1_choose_0 : decode cX1_choose 0 = .ok (.iload_n 2, 1) := by decide +kernel
theorem dX1_choose_1 : decode cX1_choose 1 = .ok (.aload_n 0, 1) := by decide +kernel
theorem dX1_choose_2 : decode cX1_choose 2 = .ok (.getfield 9, 3) := by decide +kernel
theorem dX1_choose_5 : decode cX1_choose 5 = .ok (.iload_n 1, 1) := by decide +kernel
theorem dX1_choose_6 : decode cX1_choose 6 = .ok (.iaload, 1) := by decide +kernel
theorem dX1_choose_7 : decode cX1_choose 7 = .ok (.isub, 1) := by decide +kernel
theorem dX1_choose_8 : decode cX1_choose 8 = .ok (.istore_n 3, 1) := by decide +kernel
theorem dX1_choose_9 : decode cX1_choose 9 = .ok (.aload_n 0, 1) := by decide +kernel
theorem dX1_choose_10 : decode cX1_choose 10 = .ok (.getfield 9, 3) := by decide +kernel
theorem dX1_choose_13 : decode cX1_choose 13 = .ok (.iload_n 1, 1) := by decide +kernel
theorem dX1_choose_14 : decode cX1_choose 14 = .ok (.iload_n 2, 1) := by decide +kernel
theorem dX1_choose_15 : decode cX1_choose 15 = .ok (.iastore, 1) := by decide +kernel
theorem dX1_choose_16 : decode cX1_choose 16 = .ok (.iconst 0, 1) := by decide +kernel
theorem dX1_choose_17 : decode cX1_choose 17 = .ok (.istore 4, 2) := by decide +kernel
theorem dX1_choose_19 : decode cX1_choose 19 = .ok (.iload 4, 2) := by decide +kernel
theorem dX1_choose_21 : decode cX1_choose 21 = .ok (.aload_n 0, 1) := by decide +kernel
theorem dX1_choose_22 : decode cX1_choose 22 = .ok (.getfield 18, 3) := by decide +kernel
theorem dX1_choose_25 : decode cX1_choose 25 = .ok (.getfield 44, 3) := by decide +kernel
theorem dX1_choose_28 : decode cX1_choose 28 = .ok (.if_icmp .ge 33, 3) := by decide +kernel
theorem dX1_choose_31 : decode cX1_choose 31 = .ok (.aload_n 0, 1) := by decide +kernel
theorem dX1_choose_32 : decode cX1_choose 32 = .ok (.getfield 15, 3) := by decide +kernel
theorem dX1_choose_35 : decode cX1_choose 35 = .ok (.iload 4, 2) := by decide +kernel
theorem dX1_choose_37 : decode cX1_choose 37 = .ok (.dup2, 1) := by decide +kernel
theorem dX1_choose_38 : decode cX1_choose 38 = .ok (.iaload, 1) := by decide +kernel
theorem dX1_choose_39 : decode cX1_choose 39 = .ok (.iload_n 3, 1) := by decide +kernel
theorem dX1_choose_40 : decode cX1_choose 40 = .ok (.aload_n 0, 1) := by decide +kernel
theorem dX1_choose_41 : decode cX1_choose 41 = .ok (.getfield 18, 3) := by decide +kernel
theorem dX1_choose_44 : decode cX1_choose 44 = .ok (.getfield 47, 3) := by decide +kernel
theorem dX1_choose_47 : decode cX1_choose 47 = .ok (.iload 4, 2) := by decide +kernel
theorem dX1_choose_49 : decode cX1_choose 49 = .ok (.aaload, 1) := by decide +kernel
theorem dX1_choose_50 : decode cX1_choose 50 = .ok (.iload_n 1, 1) := by decide +kernel
theorem dX1_choose_51 : decode cX1_choose 51 = .ok (.iaload, 1) := by decide +kernel
theorem dX1_choose_52 : decode cX1_choose 52 = .ok (.imul, 1) := by decide +kernel
theorem dX1_choose_53 : decode cX1_choose 53 = .ok (.iadd, 1) := by decide +kernel
theorem dX1_choose_54 : decode cX1_choose 54 = .ok (.iastore, 1) := by decide +kernel
theorem dX1_choose_55 : decode cX1_choose 55 = .ok (.iinc 4 1, 3) := by decide +kernel
theorem dX1_choose_58 : decode cX1_choose 58 = .ok (.goto (-39), 3) := by decide +kernel
theorem dX1_choose_61 : decode cX1_choose 61 = .ok (.return_, 1) := by decide +kernel
theorem dX1_isPlan_0 : decode cX1_isPlan 0 = .ok (.iconst 0, 1) := by decide +kernel
theorem dX1_isPlan_1 : decode cX1_isPlan 1 = .ok (.istore_n 1, 1) := by decide +kernel
theorem dX1_isPlan_2 : decode cX1_isPlan 2 = .ok (.iload_n 1, 1) := by decide +kernel
theorem dX1_isPlan_3 : decode cX1_isPlan 3 = .ok (.aload_n 0, 1) := by decide +kernel
theorem dX1_isPlan_4 : decode cX1_isPlan 4 = .ok (.getfield 18, 3) := by decide +kernel
theorem dX1_isPlan_7 : decode cX1_isPlan 7 = .ok (.getfield 44, 3) := by decide +kernel
theorem dX1_isPlan_10 : decode cX1_isPlan 10 = .ok (.if_icmp .ge 29, 3) := by decide +kernel
theorem dX1_isPlan_13 : decode cX1_isPlan 13 = .ok (.aload_n 0, 1) := by decide +kernel
theorem dX1_isPlan_14 : decode cX1_isPlan 14 = .ok (.getfield 15, 3) := by decide +kernel
theorem dX1_isPlan_17 : decode cX1_isPlan 17 = .ok (.iload_n 1, 1) := by decide +kernel
theorem dX1_isPlan_18 : decode cX1_isPlan 18 = .ok (.iaload, 1) := by decide +kernel
theorem dX1_isPlan_19 : decode cX1_isPlan 19 = .ok (.aload_n 0, 1) := by decide +kernel
theorem dX1_isPlan_20 : decode cX1_isPlan 20 = .ok (.getfield 18, 3) := by decide +kernel
theorem dX1_isPlan_23 : decode cX1_isPlan 23 = .ok (.getfield 51, 3) := by decide +kernel
theorem dX1_isPlan_26 : decode cX1_isPlan 26 = .ok (.iload_n 1, 1) := by decide +kernel
theorem dX1_isPlan_27 : decode cX1_isPlan 27 = .ok (.iaload, 1) := by decide +kernel
theorem dX1_isPlan_28 : decode cX1_isPlan 28 = .ok (.if_icmp .le 5, 3) := by decide +kernel
theorem dX1_isPlan_31 : decode cX1_isPlan 31 = .ok (.iconst 0, 1) := by decide +kernel
theorem dX1_isPlan_32 : decode cX1_isPlan 32 = .ok (.ireturn, 1) := by decide +kernel
theorem dX1_isPlan_33 : decode cX1_isPlan 33 = .ok (.iinc 1 1, 3) := by decide +kernel
theorem dX1_isPlan_36 : decode cX1_isPlan 36 = .ok (.goto (-34), 3) := by decide +kernel
theorem dX1_isPlan_39 : decode cX1_isPlan 39 = .ok (.iconst 1, 1) := by decide +kernel
theorem dX1_isPlan_40 : decode cX1_isPlan 40 = .ok (.ireturn, 1) := by decide +kernel
theorem dX1_keeps_0 : decode cX1_keeps 0 = .ok (.iconst 0, 1) := by decide +kernel
theorem dX1_keeps_1 : decode cX1_keeps 1 = .ok (.istore_n 2, 1) := by decide +kernel
theorem dX1_keeps_2 : decode cX1_keeps 2 = .ok (.iconst 0, 1) := by decide +kernel
theorem dX1_keeps_3 : decode cX1_keeps 3 = .ok (.istore_n 3, 1) := by decide +kernel
theorem dX1_keeps_4 : decode cX1_keeps 4 = .ok (.iload_n 3, 1) := by decide +kernel
theorem dX1_keeps_5 : decode cX1_keeps 5 = .ok (.aload_n 0, 1) := by decide +kernel
theorem dX1_keeps_6 : decode cX1_keeps 6 = .ok (.getfield 18, 3) := by decide +kernel
theorem dX1_keeps_9 : decode cX1_keeps 9 = .ok (.getfield 28, 3) := by decide +kernel
theorem dX1_keeps_12 : decode cX1_keeps 12 = .ok (.if_icmp .ge 25, 3) := by decide +kernel
theorem dX1_keeps_15 : decode cX1_keeps 15 = .ok (.iload_n 2, 1) := by decide +kernel
theorem dX1_keeps_16 : decode cX1_keeps 16 = .ok (.aload_n 1, 1) := by decide +kernel
theorem dX1_keeps_17 : decode cX1_keeps 17 = .ok (.getfield 54, 3) := by decide +kernel
theorem dX1_keeps_20 : decode cX1_keeps 20 = .ok (.iload_n 3, 1) := by decide +kernel
theorem dX1_keeps_21 : decode cX1_keeps 21 = .ok (.iaload, 1) := by decide +kernel
theorem dX1_keeps_22 : decode cX1_keeps 22 = .ok (.aload_n 0, 1) := by decide +kernel
theorem dX1_keeps_23 : decode cX1_keeps 23 = .ok (.getfield 9, 3) := by decide +kernel
theorem dX1_keeps_26 : decode cX1_keeps 26 = .ok (.iload_n 3, 1) := by decide +kernel
theorem dX1_keeps_27 : decode cX1_keeps 27 = .ok (.iaload, 1) := by decide +kernel
theorem dX1_keeps_28 : decode cX1_keeps 28 = .ok (.imul, 1) := by decide +kernel
theorem dX1_keeps_29 : decode cX1_keeps 29 = .ok (.iadd, 1) := by decide +kernel
theorem dX1_keeps_30 : decode cX1_keeps 30 = .ok (.istore_n 2, 1) := by decide +kernel
theorem dX1_keeps_31 : decode cX1_keeps 31 = .ok (.iinc 3 1, 3) := by decide +kernel
theorem dX1_keeps_34 : decode cX1_keeps 34 = .ok (.goto (-30), 3) := by decide +kernel
theorem dX1_keeps_37 : decode cX1_keeps 37 = .ok (.iload_n 2, 1) := by decide +kernel
theorem dX1_keeps_38 : decode cX1_keeps 38 = .ok (.aload_n 1, 1) := by decide +kernel
theorem dX1_keeps_39 : decode cX1_keeps 39 = .ok (.getfield 58, 3) := by decide +kernel
theorem dX1_keeps_42 : decode cX1_keeps 42 = .ok (.if_icmp .gt 7, 3) := by decide +kernel
theorem dX1_keeps_45 : decode cX1_keeps 45 = .ok (.iconst 1, 1) := by decide +kernel
theorem dX1_keeps_46 : decode cX1_keeps 46 = .ok (.goto 4, 3) := by decide +kernel
theorem dX1_keeps_49 : decode cX1_keeps 49 = .ok (.iconst 0, 1) := by decide +kernel
theorem dX1_keeps_50 : decode cX1_keeps 50 = .ok (.ireturn, 1) := by decide +kernel
theorem dX2_init_0 : decode cX2_init 0 = .ok (.aload_n 0, 1) := by decide +kernel
theorem dX2_init_1 : decode cX2_init 1 = .ok (.invokespecial 3, 3) := by decide +kernel
theorem dX2_init_4 : decode cX2_init 4 = .ok (.aload_n 0, 1) := by decide +kernel
theorem dX2_init_5 : decode cX2_init 5 = .ok (.bipush 8, 2) := by decide +kernel
theorem dX2_init_7 : decode cX2_init 7 = .ok (.newarray .int, 2) := by decide +kernel
theorem dX2_init_9 : decode cX2_init 9 = .ok (.putfield 9, 3) := by decide +kernel
theorem dX2_init_12 : decode cX2_init 12 = .ok (.aload_n 0, 1) := by decide +kernel
theorem dX2_init_13 : decode cX2_init 13 = .ok (.aload_n 1, 1) := by decide +kernel
theorem dX2_init_14 : decode cX2_init 14 = .ok (.putfield 15, 3) := by decide +kernel
theorem dX2_init_17 : decode cX2_init 17 = .ok (.aload_n 0, 1) := by decide +kernel
theorem dX2_init_18 : decode cX2_init 18 = .ok (.aload_n 2, 1) := by decide +kernel
theorem dX2_init_19 : decode cX2_init 19 = .ok (.putfield 19, 3) := by decide +kernel
theorem dX2_init_22 : decode cX2_init 22 = .ok (.return_, 1) := by decide +kernel
theorem dX2_seekCliques_0 : decode cX2_seekCliques 0 = .ok (.aload_n 0, 1) := by decide +kernel
theorem dX2_seekCliques_1 : decode cX2_seekCliques 1 = .ok (.invokevirtual 23, 3) := by decide +kernel
theorem dX2_seekCliques_4 : decode cX2_seekCliques 4 = .ok (.aload_n 0, 1) := by decide +kernel
theorem dX2_seekCliques_5 : decode cX2_seekCliques 5 = .ok (.invokevirtual 26, 3) := by decide +kernel
theorem dX2_seekCliques_8 : decode cX2_seekCliques 8 = .ok (.iconst 1, 1) := by decide +kernel
theorem dX2_seekCliques_9 : decode cX2_seekCliques 9 = .ok (.istore_n 1, 1) := by decide +kernel
theorem dX2_seekCliques_10 : decode cX2_seekCliques 10 = .ok (.iload_n 1, 1) := by decide +kernel
theorem dX2_seekCliques_11 : decode cX2_seekCliques 11 = .ok (.iconst 1, 1) := by decide +kernel
theorem dX2_seekCliques_12 : decode cX2_seekCliques 12 = .ok (.aload_n 0, 1) := by decide +kernel
theorem dX2_seekCliques_13 : decode cX2_seekCliques 13 = .ok (.getfield 15, 3) := by decide +kernel
theorem dX2_seekCliques_16 : decode cX2_seekCliques 16 = .ok (.getfield 29, 3) := by decide +kernel
theorem dX2_seekCliques_19 : decode cX2_seekCliques 19 = .ok (.ishl, 1) := by decide +kernel
theorem dX2_seekCliques_20 : decode cX2_seekCliques 20 = .ok (.if_icmp .ge 26, 3) := by decide +kernel
theorem dX2_seekCliques_23 : decode cX2_seekCliques 23 = .ok (.aload_n 0, 1) := by decide +kernel
theorem dX2_seekCliques_24 : decode cX2_seekCliques 24 = .ok (.iload_n 1, 1) := by decide +kernel
theorem dX2_seekCliques_25 : decode cX2_seekCliques 25 = .ok (.invokevirtual 35, 3) := by decide +kernel
theorem dX2_seekCliques_28 : decode cX2_seekCliques 28 = .ok (.ifCond .eq 12, 3) := by decide +kernel
theorem dX2_seekCliques_31 : decode cX2_seekCliques 31 = .ok (.aload_n 0, 1) := by decide +kernel
theorem dX2_seekCliques_32 : decode cX2_seekCliques 32 = .ok (.iload_n 1, 1) := by decide +kernel
theorem dX2_seekCliques_33 : decode cX2_seekCliques 33 = .ok (.invokevirtual 39, 3) := by decide +kernel
theorem dX2_seekCliques_36 : decode cX2_seekCliques 36 = .ok (.ifCond .ne 4, 3) := by decide +kernel
theorem dX2_seekCliques_39 : decode cX2_seekCliques 39 = .ok (.return_, 1) := by decide +kernel
theorem dX2_seekCliques_40 : decode cX2_seekCliques 40 = .ok (.iinc 1 1, 3) := by decide +kernel
theorem dX2_seekCliques_43 : decode cX2_seekCliques 43 = .ok (.goto (-33), 3) := by decide +kernel
theorem dX2_seekCliques_46 : decode cX2_seekCliques 46 = .ok (.return_, 1) := by decide +kernel
theorem dX2_readBinaries_0 : decode cX2_readBinaries 0 = .ok (.aload_n 0, 1) := by decide +kernel
theorem dX2_readBinaries_1 : decode cX2_readBinaries 1 = .ok (.iconst 0, 1) := by decide +kernel
theorem dX2_readBinaries_2 : decode cX2_readBinaries 2 = .ok (.putfield 42, 3) := by decide +kernel
theorem dX2_readBinaries_5 : decode cX2_readBinaries 5 = .ok (.iconst 0, 1) := by decide +kernel
theorem dX2_readBinaries_6 : decode cX2_readBinaries 6 = .ok (.istore_n 1, 1) := by decide +kernel
theorem dX2_readBinaries_7 : decode cX2_readBinaries 7 = .ok (.iload_n 1, 1) := by decide +kernel
theorem dX2_readBinaries_8 : decode cX2_readBinaries 8 = .ok (.aload_n 0, 1) := by decide +kernel
theorem dX2_readBinaries_9 : decode cX2_readBinaries 9 = .ok (.getfield 15, 3) := by decide +kernel
theorem dX2_readBinaries_12 : decode cX2_readBinaries 12 = .ok (.getfield 29, 3) := by decide +kernel
theorem dX2_readBinaries_15 : decode cX2_readBinaries 15 = .ok (.if_icmp .ge 32, 3) := by decide +kernel
theorem dX2_readBinaries_18 : decode cX2_readBinaries 18 = .ok (.aload_n 0, 1) := by decide +kernel
theorem dX2_readBinaries_19 : decode cX2_readBinaries 19 = .ok (.getfield 15, 3) := by decide +kernel
theorem dX2_readBinaries_22 : decode cX2_readBinaries 22 = .ok (.iload_n 1, 1) := by decide +kernel
theorem dX2_readBinaries_23 : decode cX2_readBinaries 23 = .ok (.invokevirtual 45, 3) := by decide +kernel
theorem dX2_readBinaries_26 : decode cX2_readBinaries 26 = .ok (.ifCond .eq 15, 3) := by decide +kernel
theorem dX2_readBinaries_29 : decode cX2_readBinaries 29 = .ok (.aload_n 0, 1) := by decide +kernel
theorem dX2_readBinaries_30 : decode cX2_readBinaries 30 = .ok (.dup, 1) := by decide +kernel
theorem dX2_readBinaries_31 : decode cX2_readBinaries 31 = .ok (.getfield 42, 3) := by decide +kernel
theorem dX2_readBinaries_34 : decode cX2_readBinaries 34 = .ok (.iconst 1, 1) := by decide +kernel
theorem dX2_readBinaries_35 : decode cX2_readBinaries 35 = .ok (.iload_n 1, 1) := by decide +kernel
theorem dX2_readBinaries_36 : decode cX2_readBinaries 36 = .ok (.ishl, 1) := by decide +kernel
theorem dX2_readBinaries_37 : decode cX2_readBinaries 37 = .ok (.ior, 1) := by decide +kernel
theorem dX2_readBinaries_38 : decode cX2_readBinaries 38 = .ok (.putfield 42, 3) := by decide +kernel
theorem dX2_readBinaries_41 : decode cX2_readBinaries 41 = .ok (.iinc 1 1, 3) := by decide +kernel
theorem dX2_readBinaries_44 : decode cX2_readBinaries 44 = .ok (.goto (-37), 3) := by decide +kernel
theorem dX2_readBinaries_47 : decode cX2_readBinaries 47 = .ok (.return_, 1) := by decide +kernel
theorem dX2_readClashes_0 : decode cX2_readClashes 0 = .ok (.aload_n 0, 1) := by decide +kernel
theorem dX2_readClashes_1 : decode cX2_readClashes 1 = .ok (.getfield 9, 3) := by decide +kernel
theorem dX2_readClashes_4 : decode cX2_readClashes 4 = .ok (.iconst 0, 1) := by decide +kernel
theorem dX2_readClashes_5 : decode cX2_readClashes 5 = .ok (.invokestatic 48, 3) := by decide +kernel
theorem dX2_readClashes_8 : decode cX2_readClashes 8 = .ok (.iconst 0, 1) := by decide +kernel
theorem dX2_readClashes_9 : decode cX2_readClashes 9 = .ok (.istore_n 1, 1) := by decide +kernel
theorem dX2_readClashes_10 : decode cX2_readClashes 10 = .ok (.iload_n 1, 1) := by decide +kernel
theorem dX2_readClashes_11 : decode cX2_readClashes 11 = .ok (.aload_n 0, 1) := by decide +kernel
theorem dX2_readClashes_12 : decode cX2_readClashes 12 = .ok (.getfield 15, 3) := by decide +kernel
theorem dX2_readClashes_15 : decode cX2_readClashes 15 = .ok (.getfield 29, 3) := by decide +kernel
theorem dX2_readClashes_18 : decode cX2_readClashes 18 = .ok (.if_icmp .ge 91, 3) := by decide +kernel
theorem dX2_readClashes_21 : decode cX2_readClashes 21 = .ok (.iload_n 1, 1) := by decide +kernel
theorem dX2_readClashes_22 : decode cX2_readClashes 22 = .ok (.iconst 1, 1) := by decide +kernel
theorem dX2_readClashes_23 : decode cX2_readClashes 23 = .ok (.iadd, 1) := by decide +kernel
theorem dX2_readClashes_24 : decode cX2_readClashes 24 = .ok (.istore_n 2, 1) := by decide +kernel
theorem dX2_readClashes_25 : decode cX2_readClashes 25 = .ok (.iload_n 2, 1) := by decide +kernel
theorem dX2_readClashes_26 : decode cX2_readClashes 26 = .ok (.aload_n 0, 1) := by decide +kernel
theorem dX2_readClashes_27 : decode cX2_readClashes 27 = .ok (.getfield 15, 3) := by decide +kernel
theorem dX2_readClashes_30 : decode cX2_readClashes 30 = .ok (.getfield 29, 3) := by decide +kernel
theorem dX2_readClashes_33 : decode cX2_readClashes 33 = .ok (.if_icmp .ge 70, 3) := by decide +kernel
theorem dX2_readClashes_36 : decode cX2_readClashes 36 = .ok (.aload_n 0, 1) := by decide +kernel
theorem dX2_readClashes_37 : decode cX2_readClashes 37 = .ok (.getfield 42, 3) := by decide +kernel
theorem dX2_readClashes_40 : decode cX2_readClashes 40 = .ok (.iload_n 1, 1) := by decide +kernel
theorem dX2_readClashes_41 : decode cX2_readClashes 41 = .ok (.invokestatic 54, 3) := by decide +kernel
theorem dX2_readClashes_44 : decode cX2_readClashes 44 = .ok (.ifCond .eq 53, 3) := by decide +kernel
theorem dX2_readClashes_47 : decode cX2_readClashes 47 = .ok (.aload_n 0, 1) := by decide +kernel
theorem dX2_readClashes_48 : decode cX2_readClashes 48 = .ok (.getfield 42, 3) := by decide +kernel
theorem dX2_readClashes_51 : decode cX2_readClashes 51 = .ok (.iload_n 2, 1) := by decide +kernel
theorem dX2_readClashes_52 : decode cX2_readClashes 52 = .ok (.invokestatic 54, 3) := by decide +kernel
theorem dX2_readClashes_55 : decode cX2_readClashes 55 = .ok (.ifCond .eq 42, 3) := by decide +kernel
theorem dX2_readClashes_58 : decode cX2_readClashes 58 = .ok (.aload_n 0, 1) := by decide +kernel
theorem dX2_readClashes_59 : decode cX2_readClashes 59 = .ok (.getfield 15, 3) := by decide +kernel
theorem dX2_readClashes_62 : decode cX2_readClashes 62 = .ok (.iload_n 1, 1) := by decide +kernel
theorem dX2_readClashes_63 : decode cX2_readClashes 63 = .ok (.iload_n 2, 1) := by decide +kernel
theorem dX2_readClashes_64 : decode cX2_readClashes 64 = .ok (.invokevirtual 58, 3) := by decide +kernel
theorem dX2_readClashes_67 : decode cX2_readClashes 67 = .ok (.ifCond .ne 6, 3) := by decide +kernel
theorem dX2_readClashes_70 : decode cX2_readClashes 70 = .ok (.goto 27, 3) := by decide +kernel
theorem dX2_readClashes_73 : decode cX2_readClashes 73 = .ok (.aload_n 0, 1) := by decide +kernel
theorem dX2_readClashes_74 : decode cX2_readClashes 74 = .ok (.getfield 9, 3) := by decide +kernel
theorem dX2_readClashes_77 : decode cX2_readClashes 77 = .ok (.iload_n 1, 1) := by decide +kernel
theorem dX2_readClashes_78 : decode cX2_readClashes 78 = .ok (.dup2, 1) := by decide +kernel
theorem dX2_readClashes_79 : decode cX2_readClashes 79 = .ok (.iaload, 1) := by decide +kernel
theorem dX2_readClashes_80 : decode cX2_readClashes 80 = .ok (.iconst 1, 1) := by decide +kernel
theorem dX2_readClashes_81 : decode cX2_readClashes 81 = .ok (.iload_n 2, 1) := by decide +kernel
theorem dX2_readClashes_82 : decode cX2_readClashes 82 = .ok (.ishl, 1) := by decide +kernel
theorem dX2_readClashes_83 : decode cX2_readClashes 83 = .ok (.ior, 1) := by decide +kernel
theorem dX2_readClashes_84 : decode cX2_readClashes 84 = .ok (.iastore, 1) := by decide +kernel
theorem dX2_readClashes_85 : decode cX2_readClashes 85 = .ok (.aload_n 0, 1) := by decide +kernel
theorem dX2_readClashes_86 : decode cX2_readClashes 86 = .ok (.getfield 9, 3) := by decide +kernel
theorem dX2_readClashes_89 : decode cX2_readClashes 89 = .ok (.iload_n 2, 1) := by decide +kernel
theorem dX2_readClashes_90 : decode cX2_readClashes 90 = .ok (.dup2, 1) := by decide +kernel
theorem dX2_readClashes_91 : decode cX2_readClashes 91 = .ok (.iaload, 1) := by decide +kernel
theorem dX2_readClashes_92 : decode cX2_readClashes 92 = .ok (.iconst 1, 1) := by decide +kernel
theorem dX2_readClashes_93 : decode cX2_readClashes 93 = .ok (.iload_n 1, 1) := by decide +kernel
theorem dX2_readClashes_94 : decode cX2_readClashes 94 = .ok (.ishl, 1) := by decide +kernel
theorem dX2_readClashes_95 : decode cX2_readClashes 95 = .ok (.ior, 1) := by decide +kernel
theorem dX2_readClashes_96 : decode cX2_readClashes 96 = .ok (.iastore, 1) := by decide +kernel
theorem dX2_readClashes_97 : decode cX2_readClashes 97 = .ok (.iinc 2 1, 3) := by decide +kernel
theorem dX2_readClashes_100 : decode cX2_readClashes 100 = .ok (.goto (-75), 3) := by decide +kernel
theorem dX2_readClashes_103 : decode cX2_readClashes 103 = .ok (.iinc 1 1, 3) := by decide +kernel
theorem dX2_readClashes_106 : decode cX2_readClashes 106 = .ok (.goto (-96), 3) := by decide +kernel
theorem dX2_readClashes_109 : decode cX2_readClashes 109 = .ok (.return_, 1) := by decide +kernel
theorem dX2_isWidestClique_0 : decode cX2_isWidestClique 0 = .ok (.iload_n 1, 1) := by decide +kernel
theorem dX2_isWidestClique_1 : decode cX2_isWidestClique 1 = .ok (.invokestatic 61, 3) := by decide +kernel
theorem dX2_isWidestClique_4 : decode cX2_isWidestClique 4 = .ok (.iconst 2, 1) := by decide +kernel
theorem dX2_isWidestClique_5 : decode cX2_isWidestClique 5 = .ok (.if_icmp .lt 14, 3) := by decide +kernel
theorem dX2_isWidestClique_8 : decode cX2_isWidestClique 8 = .ok (.iload_n 1, 1) := by decide +kernel
theorem dX2_isWidestClique_9 : decode cX2_isWidestClique 9 = .ok (.aload_n 0, 1) := by decide +kernel
theorem dX2_isWidestClique_10 : decode cX2_isWidestClique 10 = .ok (.getfield 42, 3) := by decide +kernel
theorem dX2_isWidestClique_13 : decode cX2_isWidestClique 13 = .ok (.iconst (-1), 1) := by decide +kernel
theorem dX2_isWidestClique_14 : decode cX2_isWidestClique 14 = .ok (.ixor, 1) := by decide +kernel
theorem dX2_isWidestClique_15 : decode cX2_isWidestClique 15 = .ok (.iand, 1) := by decide +kernel
theorem dX2_isWidestClique_16 : decode cX2_isWidestClique 16 = .ok (.ifCond .eq 5, 3) := by decide +kernel
theorem dX2_isWidestClique_19 : decode cX2_isWidestClique 19 = .ok (.iconst 0, 1) := by decide +kernel
theorem dX2_isWidestClique_20 : decode cX2_isWidestClique 20 = .ok (.ireturn, 1) := by decide +kernel
theorem dX2_isWidestClique_21 : decode cX2_isWidestClique 21 = .ok (.iconst 0, 1) := by decide +kernel
theorem dX2_isWidestClique_22 : decode cX2_isWidestClique 22 = .ok (.istore_n 2, 1) := by decide +kernel
theorem dX2_isWidestClique_23 : decode cX2_isWidestClique 23 = .ok (.iload_n 2, 1) := by decide +kernel
theorem dX2_isWidestClique_24 : decode cX2_isWidestClique 24 = .ok (.aload_n 0, 1) := by decide +kernel
theorem dX2_isWidestClique_25 : decode cX2_isWidestClique 25 = .ok (.getfield 15, 3) := by decide +kernel
theorem dX2_isWidestClique_28 : decode cX2_isWidestClique 28 = .ok (.getfield 29, 3) := by decide +kernel
theorem dX2_isWidestClique_31 : decode cX2_isWidestClique 31 = .ok (.if_icmp .ge 62, 3) := by decide +kernel
theorem dX2_isWidestClique_34 : decode cX2_isWidestClique 34 = .ok (.aload_n 0, 1) := by decide +kernel
theorem dX2_isWidestClique_35 : decode cX2_isWidestClique 35 = .ok (.getfield 42, 3) := by decide +kernel
theorem dX2_isWidestClique_38 : decode cX2_isWidestClique 38 = .ok (.iload_n 2, 1) := by decide +kernel
theorem dX2_isWidestClique_39 : decode cX2_isWidestClique 39 = .ok (.invokestatic 54, 3) := by decide +kernel
theorem dX2_isWidestClique_42 : decode cX2_isWidestClique 42 = .ok (.ifCond .ne 6, 3) := by decide +kernel
theorem dX2_isWidestClique_45 : decode cX2_isWidestClique 45 = .ok (.goto 42, 3) := by decide +kernel
theorem dX2_isWidestClique_48 : decode cX2_isWidestClique 48 = .ok (.iload_n 1, 1) := by decide +kernel
theorem dX2_isWidestClique_49 : decode cX2_isWidestClique 49 = .ok (.iconst 1, 1) := by decide +kernel
theorem dX2_isWidestClique_50 : decode cX2_isWidestClique 50 = .ok (.iload_n 2, 1) := by decide +kernel
theorem dX2_isWidestClique_51 : decode cX2_isWidestClique 51 = .ok (.ishl, 1) := by decide +kernel
theorem dX2_isWidestClique_52 : decode cX2_isWidestClique 52 = .ok (.iconst (-1), 1) := by decide +kernel
theorem dX2_isWidestClique_53 : decode cX2_isWidestClique 53 = .ok (.ixor, 1) := by decide +kernel
theorem dX2_isWidestClique_54 : decode cX2_isWidestClique 54 = .ok (.iand, 1) := by decide +kernel
theorem dX2_isWidestClique_55 : decode cX2_isWidestClique 55 = .ok (.istore_n 3, 1) := by decide +kernel
theorem dX2_isWidestClique_56 : decode cX2_isWidestClique 56 = .ok (.aload_n 0, 1) := by decide +kernel
theorem dX2_isWidestClique_57 : decode cX2_isWidestClique 57 = .ok (.getfield 9, 3) := by decide +kernel
theorem dX2_isWidestClique_60 : decode cX2_isWidestClique 60 = .ok (.iload_n 2, 1) := by decide +kernel
theorem dX2_isWidestClique_61 : decode cX2_isWidestClique 61 = .ok (.iaload, 1) := by decide +kernel
theorem dX2_isWidestClique_62 : decode cX2_isWidestClique 62 = .ok (.iload_n 3, 1) := by decide +kernel
theorem dX2_isWidestClique_63 : decode cX2_isWidestClique 63 = .ok (.iand, 1) := by decide +kernel
theorem dX2_isWidestClique_64 : decode cX2_isWidestClique 64 = .ok (.iload_n 3, 1) := by decide +kernel
theorem dX2_isWidestClique_65 : decode cX2_isWidestClique 65 = .ok (.if_icmp .ne 7, 3) := by decide +kernel
theorem dX2_isWidestClique_68 : decode cX2_isWidestClique 68 = .ok (.iconst 1, 1) := by decide +kernel
theorem dX2_isWidestClique_69 : decode cX2_isWidestClique 69 = .ok (.goto 4, 3) := by decide +kernel
theorem dX2_isWidestClique_72 : decode cX2_isWidestClique 72 = .ok (.iconst 0, 1) := by decide +kernel
theorem dX2_isWidestClique_73 : decode cX2_isWidestClique 73 = .ok (.istore 4, 2) := by decide +kernel
theorem dX2_isWidestClique_75 : decode cX2_isWidestClique 75 = .ok (.iload 4, 2) := by decide +kernel
theorem dX2_isWidestClique_77 : decode cX2_isWidestClique 77 = .ok (.iload_n 1, 1) := by decide +kernel
theorem dX2_isWidestClique_78 : decode cX2_isWidestClique 78 = .ok (.iload_n 2, 1) := by decide +kernel
theorem dX2_isWidestClique_79 : decode cX2_isWidestClique 79 = .ok (.invokestatic 54, 3) := by decide +kernel
theorem dX2_isWidestClique_82 : decode cX2_isWidestClique 82 = .ok (.if_icmp .eq 5, 3) := by decide +kernel
theorem dX2_isWidestClique_85 : decode cX2_isWidestClique 85 = .ok (.iconst 0, 1) := by decide +kernel
theorem dX2_isWidestClique_86 : decode cX2_isWidestClique 86 = .ok (.ireturn, 1) := by decide +kernel
theorem dX2_isWidestClique_87 : decode cX2_isWidestClique 87 = .ok (.iinc 2 1, 3) := by decide +kernel
theorem dX2_isWidestClique_90 : decode cX2_isWidestClique 90 = .ok (.goto (-67), 3) := by decide +kernel
theorem dX2_isWidestClique_93 : decode cX2_isWidestClique 93 = .ok (.iconst 1, 1) := by decide +kernel
theorem dX2_isWidestClique_94 : decode cX2_isWidestClique 94 = .ok (.ireturn, 1) := by decide +kernel
theorem dX2_tryClique_0 : decode cX2_tryClique 0 = .ok (.aload_n 0, 1) := by decide +kernel
theorem dX2_tryClique_1 : decode cX2_tryClique 1 = .ok (.getfield 19, 3) := by decide +kernel
theorem dX2_tryClique_4 : decode cX2_tryClique 4 = .ok (.iconst 3, 1) := by decide +kernel
theorem dX2_tryClique_5 : decode cX2_tryClique 5 = .ok (.invokevirtual 67, 3) := by decide +kernel
theorem dX2_tryClique_8 : decode cX2_tryClique 8 = .ok (.astore_n 2, 1) := by decide +kernel
theorem dX2_tryClique_9 : decode cX2_tryClique 9 = .ok (.iconst 0, 1) := by decide +kernel
theorem dX2_tryClique_10 : decode cX2_tryClique 10 = .ok (.istore_n 3, 1) := by decide +kernel
theorem dX2_tryClique_11 : decode cX2_tryClique 11 = .ok (.iload_n 3, 1) := by decide +kernel
theorem dX2_tryClique_12 : decode cX2_tryClique 12 = .ok (.aload_n 0, 1) := by decide +kernel
theorem dX2_tryClique_13 : decode cX2_tryClique 13 = .ok (.getfield 15, 3) := by decide +kernel
theorem dX2_tryClique_16 : decode cX2_tryClique 16 = .ok (.getfield 29, 3) := by decide +kernel
theorem dX2_tryClique_19 : decode cX2_tryClique 19 = .ok (.if_icmp .ge 28, 3) := by decide +kernel
theorem dX2_tryClique_22 : decode cX2_tryClique 22 = .ok (.aload_n 2, 1) := by decide +kernel
theorem dX2_tryClique_23 : decode cX2_tryClique 23 = .ok (.getfield 73, 3) := by decide +kernel
theorem dX2_tryClique_26 : decode cX2_tryClique 26 = .ok (.iload_n 3, 1) := by decide +kernel
theorem dX2_tryClique_27 : decode cX2_tryClique 27 = .ok (.iload_n 1, 1) := by decide +kernel
theorem dX2_tryClique_28 : decode cX2_tryClique 28 = .ok (.iload_n 3, 1) := by decide +kernel
theorem dX2_tryClique_29 : decode cX2_tryClique 29 = .ok (.invokestatic 54, 3) := by decide +kernel
theorem dX2_tryClique_32 : decode cX2_tryClique 32 = .ok (.ifCond .eq 7, 3) := by decide +kernel
theorem dX2_tryClique_35 : decode cX2_tryClique 35 = .ok (.iconst 1, 1) := by decide +kernel
theorem dX2_tryClique_36 : decode cX2_tryClique 36 = .ok (.goto 4, 3) := by decide +kernel
theorem dX2_tryClique_39 : decode cX2_tryClique 39 = .ok (.iconst 0, 1) := by decide +kernel
theorem dX2_tryClique_40 : decode cX2_tryClique 40 = .ok (.iastore, 1) := by decide +kernel
theorem dX2_tryClique_41 : decode cX2_tryClique 41 = .ok (.iinc 3 1, 3) := by decide +kernel
theorem dX2_tryClique_44 : decode cX2_tryClique 44 = .ok (.goto (-33), 3) := by decide +kernel
theorem dX2_tryClique_47 : decode cX2_tryClique 47 = .ok (.aload_n 2, 1) := by decide +kernel
theorem dX2_tryClique_48 : decode cX2_tryClique 48 = .ok (.iconst 1, 1) := by decide +kernel
theorem dX2_tryClique_49 : decode cX2_tryClique 49 = .ok (.putfield 78, 3) := by decide +kernel
theorem dX2_tryClique_52 : decode cX2_tryClique 52 = .ok (.aload_n 0, 1) := by decide +kernel
theorem dX2_tryClique_53 : decode cX2_tryClique 53 = .ok (.getfield 19, 3) := by decide +kernel
theorem dX2_tryClique_56 : decode cX2_tryClique 56 = .ok (.invokevirtual 81, 3) := by decide +kernel
theorem dX2_tryClique_59 : decode cX2_tryClique 59 = .ok (.ireturn, 1) := by decide +kernel
theorem dX3_init_0 : decode cX3_init 0 = .ok (.aload_n 0, 1) := by decide +kernel
theorem dX3_init_1 : decode cX3_init 1 = .ok (.invokespecial 3, 3) := by decide +kernel
theorem dX3_init_4 : decode cX3_init 4 = .ok (.aload_n 0, 1) := by decide +kernel
theorem dX3_init_5 : decode cX3_init 5 = .ok (.bipush 8, 2) := by decide +kernel
theorem dX3_init_7 : decode cX3_init 7 = .ok (.newarray .int, 2) := by decide +kernel
theorem dX3_init_9 : decode cX3_init 9 = .ok (.putfield 9, 3) := by decide +kernel
theorem dX3_init_12 : decode cX3_init 12 = .ok (.aload_n 0, 1) := by decide +kernel
theorem dX3_init_13 : decode cX3_init 13 = .ok (.bipush 8, 2) := by decide +kernel
theorem dX3_init_15 : decode cX3_init 15 = .ok (.newarray .int, 2) := by decide +kernel
theorem dX3_init_17 : decode cX3_init 17 = .ok (.putfield 15, 3) := by decide +kernel
theorem dX3_init_20 : decode cX3_init 20 = .ok (.aload_n 0, 1) := by decide +kernel
theorem dX3_init_21 : decode cX3_init 21 = .ok (.bipush 8, 2) := by decide +kernel
theorem dX3_init_23 : decode cX3_init 23 = .ok (.newarray .int, 2) := by decide +kernel
theorem dX3_init_25 : decode cX3_init 25 = .ok (.putfield 18, 3) := by decide +kernel
theorem dX3_init_28 : decode cX3_init 28 = .ok (.aload_n 0, 1) := by decide +kernel
theorem dX3_init_29 : decode cX3_init 29 = .ok (.bipush 65, 2) := by decide +kernel
theorem dX3_init_31 : decode cX3_init 31 = .ok (.newarray .int, 2) := by decide +kernel
theorem dX3_init_33 : decode cX3_init 33 = .ok (.putfield 21, 3) := by decide +kernel
theorem dX3_init_36 : decode cX3_init 36 = .ok (.aload_n 0, 1) := by decide +kernel
theorem dX3_init_37 : decode cX3_init 37 = .ok (.aload_n 1, 1) := by decide +kernel
theorem dX3_init_38 : decode cX3_init 38 = .ok (.putfield 24, 3) := by decide +kernel
theorem dX3_init_41 : decode cX3_init 41 = .ok (.aload_n 0, 1) := by decide +kernel
theorem dX3_init_42 : decode cX3_init 42 = .ok (.aload_n 2, 1) := by decide +kernel
theorem dX3_init_43 : decode cX3_init 43 = .ok (.putfield 28, 3) := by decide +kernel
theorem dX3_init_46 : decode cX3_init 46 = .ok (.return_, 1) := by decide +kernel
theorem dX3_seekCovers_0 : decode cX3_seekCovers 0 = .ok (.iconst 0, 1) := by decide +kernel
theorem dX3_seekCovers_1 : decode cX3_seekCovers 1 = .ok (.istore_n 1, 1) := by decide +kernel
theorem dX3_seekCovers_2 : decode cX3_seekCovers 2 = .ok (.iload_n 1, 1) := by decide +kernel
theorem dX3_seekCovers_3 : decode cX3_seekCovers 3 = .ok (.aload_n 0, 1) := by decide +kernel
theorem dX3_seekCovers_4 : decode cX3_seekCovers 4 = .ok (.getfield 24, 3) := by decide +kernel
theorem dX3_seekCovers_7 : decode cX3_seekCovers 7 = .ok (.getfield 32, 3) := by decide +kernel
theorem dX3_seekCovers_10 : decode cX3_seekCovers 10 = .ok (.if_icmp .ge 50, 3) := by decide +kernel
theorem dX3_seekCovers_13 : decode cX3_seekCovers 13 = .ok (.aload_n 0, 1) := by decide +kernel
theorem dX3_seekCovers_14 : decode cX3_seekCovers 14 = .ok (.iload_n 1, 1) := by decide +kernel
theorem dX3_seekCovers_15 : decode cX3_seekCovers 15 = .ok (.invokevirtual 38, 3) := by decide +kernel
theorem dX3_seekCovers_18 : decode cX3_seekCovers 18 = .ok (.iconst 1, 1) := by decide +kernel
theorem dX3_seekCovers_19 : decode cX3_seekCovers 19 = .ok (.istore_n 2, 1) := by decide +kernel
theorem dX3_seekCovers_20 : decode cX3_seekCovers 20 = .ok (.iload_n 2, 1) := by decide +kernel
theorem dX3_seekCovers_21 : decode cX3_seekCovers 21 = .ok (.iconst 1, 1) := by decide +kernel
theorem dX3_seekCovers_22 : decode cX3_seekCovers 22 = .ok (.aload_n 0, 1) := by decide +kernel
theorem dX3_seekCovers_23 : decode cX3_seekCovers 23 = .ok (.getfield 42, 3) := by decide +kernel
theorem dX3_seekCovers_26 : decode cX3_seekCovers 26 = .ok (.ishl, 1) := by decide +kernel
theorem dX3_seekCovers_27 : decode cX3_seekCovers 27 = .ok (.if_icmp .ge 27, 3) := by decide +kernel
theorem dX3_seekCovers_30 : decode cX3_seekCovers 30 = .ok (.aload_n 0, 1) := by decide +kernel
theorem dX3_seekCovers_31 : decode cX3_seekCovers 31 = .ok (.iload_n 2, 1) := by decide +kernel
theorem dX3_seekCovers_32 : decode cX3_seekCovers 32 = .ok (.invokevirtual 45, 3) := by decide +kernel
theorem dX3_seekCovers_35 : decode cX3_seekCovers 35 = .ok (.ifCond .eq 13, 3) := by decide +kernel
theorem dX3_seekCovers_38 : decode cX3_seekCovers 38 = .ok (.aload_n 0, 1) := by decide +kernel
theorem dX3_seekCovers_39 : decode cX3_seekCovers 39 = .ok (.iload_n 1, 1) := by decide +kernel
theorem dX3_seekCovers_40 : decode cX3_seekCovers 40 = .ok (.iload_n 2, 1) := by decide +kernel
theorem dX3_seekCovers_41 : decode cX3_seekCovers 41 = .ok (.invokevirtual 49, 3) := by decide +kernel
theorem dX3_seekCovers_44 : decode cX3_seekCovers 44 = .ok (.ifCond .ne 4, 3) := by decide +kernel
theorem dX3_seekCovers_47 : decode cX3_seekCovers 47 = .ok (.return_, 1) := by decide +kernel
theorem dX3_seekCovers_48 : decode cX3_seekCovers 48 = .ok (.iinc 2 1, 3) := by decide +kernel
theorem dX3_seekCovers_51 : decode cX3_seekCovers 51 = .ok (.goto (-31), 3) := by decide +kernel
theorem dX3_seekCovers_54 : decode cX3_seekCovers 54 = .ok (.iinc 1 1, 3) := by decide +kernel
theorem dX3_seekCovers_57 : decode cX3_seekCovers 57 = .ok (.goto (-55), 3) := by decide +kernel
theorem dX3_seekCovers_60 : decode cX3_seekCovers 60 = .ok (.return_, 1) := by decide +kernel
theorem dX3_readLiterals_0 : decode cX3_readLiterals 0 = .ok (.aload_n 0, 1) := by decide +kernel
theorem dX3_readLiterals_1 : decode cX3_readLiterals 1 = .ok (.iconst 0, 1) := by decide +kernel
theorem dX3_readLiterals_2 : decode cX3_readLiterals 2 = .ok (.putfield 42, 3) := by decide +kernel
theorem dX3_readLiterals_5 : decode cX3_readLiterals 5 = .ok (.aload_n 0, 1) := by decide +kernel
theorem dX3_readLiterals_6 : decode cX3_readLiterals 6 = .ok (.aload_n 0, 1) := by decide +kernel
theorem dX3_readLiterals_7 : decode cX3_readLiterals 7 = .ok (.getfield 24, 3) := by decide +kernel
theorem dX3_readLiterals_10 : decode cX3_readLiterals 10 = .ok (.getfield 53, 3) := by decide +kernel
theorem dX3_readLiterals_13 : decode cX3_readLiterals 13 = .ok (.iload_n 1, 1) := by decide +kernel
theorem dX3_readLiterals_14 : decode cX3_readLiterals 14 = .ok (.iaload, 1) := by decide +kernel
theorem dX3_readLiterals_15 : decode cX3_readLiterals 15 = .ok (.putfield 56, 3) := by decide +kernel
theorem dX3_readLiterals_18 : decode cX3_readLiterals 18 = .ok (.iconst 0, 1) := by decide +kernel
theorem dX3_readLiterals_19 : decode cX3_readLiterals 19 = .ok (.istore_n 2, 1) := by decide +kernel
theorem dX3_readLiterals_20 : decode cX3_readLiterals 20 = .ok (.iload_n 2, 1) := by decide +kernel
theorem dX3_readLiterals_21 : decode cX3_readLiterals 21 = .ok (.aload_n 0, 1) := by decide +kernel
theorem dX3_readLiterals_22 : decode cX3_readLiterals 22 = .ok (.getfield 24, 3) := by decide +kernel
theorem dX3_readLiterals_25 : decode cX3_readLiterals 25 = .ok (.getfield 59, 3) := by decide +kernel
theorem dX3_readLiterals_28 : decode cX3_readLiterals 28 = .ok (.if_icmp .ge 104, 3) := by decide +kernel
theorem dX3_readLiterals_31 : decode cX3_readLiterals 31 = .ok (.aload_n 0, 1) := by decide +kernel
theorem dX3_readLiterals_32 : decode cX3_readLiterals 32 = .ok (.getfield 24, 3) := by decide +kernel
theorem dX3_readLiterals_35 : decode cX3_readLiterals 35 = .ok (.getfield 62, 3) := by decide +kernel
theorem dX3_readLiterals_38 : decode cX3_readLiterals 38 = .ok (.iload_n 1, 1) := by decide +kernel
theorem dX3_readLiterals_39 : decode cX3_readLiterals 39 = .ok (.aaload, 1) := by decide +kernel
theorem dX3_readLiterals_40 : decode cX3_readLiterals 40 = .ok (.iload_n 2, 1) := by decide +kernel
theorem dX3_readLiterals_41 : decode cX3_readLiterals 41 = .ok (.iaload, 1) := by decide +kernel
theorem dX3_readLiterals_42 : decode cX3_readLiterals 42 = .ok (.istore_n 3, 1) := by decide +kernel
theorem dX3_readLiterals_43 : decode cX3_readLiterals 43 = .ok (.aload_n 0, 1) := by decide +kernel
theorem dX3_readLiterals_44 : decode cX3_readLiterals 44 = .ok (.getfield 24, 3) := by decide +kernel
theorem dX3_readLiterals_47 : decode cX3_readLiterals 47 = .ok (.iload_n 2, 1) := by decide +kernel
theorem dX3_readLiterals_48 : decode cX3_readLiterals 48 = .ok (.invokevirtual 66, 3) := by decide +kernel
theorem dX3_readLiterals_51 : decode cX3_readLiterals 51 = .ok (.ifCond .ne 24, 3) := by decide +kernel
theorem dX3_readLiterals_54 : decode cX3_readLiterals 54 = .ok (.aload_n 0, 1) := by decide +kernel
theorem dX3_readLiterals_55 : decode cX3_readLiterals 55 = .ok (.dup, 1) := by decide +kernel
theorem dX3_readLiterals_56 : decode cX3_readLiterals 56 = .ok (.getfield 56, 3) := by decide +kernel
theorem dX3_readLiterals_59 : decode cX3_readLiterals 59 = .ok (.aload_n 0, 1) := by decide +kernel
theorem dX3_readLiterals_60 : decode cX3_readLiterals 60 = .ok (.getfield 24, 3) := by decide +kernel
theorem dX3_readLiterals_63 : decode cX3_readLiterals 63 = .ok (.iload_n 1, 1) := by decide +kernel
theorem dX3_readLiterals_64 : decode cX3_readLiterals 64 = .ok (.iload_n 2, 1) := by decide +kernel
theorem dX3_readLiterals_65 : decode cX3_readLiterals 65 = .ok (.invokevirtual 69, 3) := by decide +kernel
theorem dX3_readLiterals_68 : decode cX3_readLiterals 68 = .ok (.isub, 1) := by decide +kernel
theorem dX3_readLiterals_69 : decode cX3_readLiterals 69 = .ok (.putfield 56, 3) := by decide +kernel
theorem dX3_readLiterals_72 : decode cX3_readLiterals 72 = .ok (.goto 54, 3) := by decide +kernel
theorem dX3_readLiterals_75 : decode cX3_readLiterals 75 = .ok (.iload_n 3, 1) := by decide +kernel
theorem dX3_readLiterals_76 : decode cX3_readLiterals 76 = .ok (.ifCond .eq 50, 3) := by decide +kernel
theorem dX3_readLiterals_79 : decode cX3_readLiterals 79 = .ok (.aload_n 0, 1) := by decide +kernel
theorem dX3_readLiterals_80 : decode cX3_readLiterals 80 = .ok (.getfield 9, 3) := by decide +kernel
theorem dX3_readLiterals_83 : decode cX3_readLiterals 83 = .ok (.aload_n 0, 1) := by decide +kernel
theorem dX3_readLiterals_84 : decode cX3_readLiterals 84 = .ok (.getfield 42, 3) := by decide +kernel
theorem dX3_readLiterals_87 : decode cX3_readLiterals 87 = .ok (.iload_n 2, 1) := by decide +kernel
theorem dX3_readLiterals_88 : decode cX3_readLiterals 88 = .ok (.iastore, 1) := by decide +kernel
theorem dX3_readLiterals_89 : decode cX3_readLiterals 89 = .ok (.aload_n 0, 1) := by decide +kernel
theorem dX3_readLiterals_90 : decode cX3_readLiterals 90 = .ok (.getfield 15, 3) := by decide +kernel
theorem dX3_readLiterals_93 : decode cX3_readLiterals 93 = .ok (.aload_n 0, 1) := by decide +kernel
theorem dX3_readLiterals_94 : decode cX3_readLiterals 94 = .ok (.getfield 42, 3) := by decide +kernel
theorem dX3_readLiterals_97 : decode cX3_readLiterals 97 = .ok (.iload_n 3, 1) := by decide +kernel
theorem dX3_readLiterals_98 : decode cX3_readLiterals 98 = .ok (.invokestatic 73, 3) := by decide +kernel
theorem dX3_readLiterals_101 : decode cX3_readLiterals 101 = .ok (.iastore, 1) := by decide +kernel
theorem dX3_readLiterals_102 : decode cX3_readLiterals 102 = .ok (.aload_n 0, 1) := by decide +kernel
theorem dX3_readLiterals_103 : decode cX3_readLiterals 103 = .ok (.dup, 1) := by decide +kernel
theorem dX3_readLiterals_104 : decode cX3_readLiterals 104 = .ok (.getfield 42, 3) := by decide +kernel
theorem dX3_readLiterals_107 : decode cX3_readLiterals 107 = .ok (.iconst 1, 1) := by decide +kernel
theorem dX3_readLiterals_108 : decode cX3_readLiterals 108 = .ok (.iadd, 1) := by decide +kernel
theorem dX3_readLiterals_109 : decode cX3_readLiterals 109 = .ok (.putfield 42, 3) := by decide +kernel
theorem dX3_readLiterals_112 : decode cX3_readLiterals 112 = .ok (.iload_n 3, 1) := by decide +kernel
theorem dX3_readLiterals_113 : decode cX3_readLiterals 113 = .ok (.ifCond .ge 13, 3) := by decide +kernel
theorem dX3_readLiterals_116 : decode cX3_readLiterals 116 = .ok (.aload_n 0, 1) := by decide +kernel
theorem dX3_readLiterals_117 : decode cX3_readLiterals 117 = .ok (.dup, 1) := by decide +kernel
theorem dX3_readLiterals_118 : decode cX3_readLiterals 118 = .ok (.getfield 56, 3) := by decide +kernel
theorem dX3_readLiterals_121 : decode cX3_readLiterals 121 = .ok (.iload_n 3, 1) := by decide +kernel
theorem dX3_readLiterals_122 : decode cX3_readLiterals 122 = .ok (.isub, 1) := by decide +kernel
theorem dX3_readLiterals_123 : decode cX3_readLiterals 123 = .ok (.putfield 56, 3) := by decide +kernel
theorem dX3_readLiterals_126 : decode cX3_readLiterals 126 = .ok (.iinc 2 1, 3) := by decide +kernel
theorem dX3_readLiterals_129 : decode cX3_readLiterals 129 = .ok (.goto (-109), 3) := by decide +kernel
theorem dX3_readLiterals_132 : decode cX3_readLiterals 132 = .ok (.return_, 1) := by decide +kernel
theorem dX3_isMinimalCover_0 : decode cX3_isMinimalCover 0 = .ok (.iconst 0, 1) := by decide +kernel
theorem dX3_isMinimalCover_1 : decode cX3_isMinimalCover 1 = .ok (.istore_n 2, 1) := by decide +kernel
theorem dX3_isMinimalCover_2 : decode cX3_isMinimalCover 2 = .ok (.ldc 79, 2) := by decide +kernel
theorem dX3_isMinimalCover_4 : decode cX3_isMinimalCover 4 = .ok (.istore_n 3, 1) := by decide +kernel
theorem dX3_isMinimalCover_5 : decode cX3_isMinimalCover 5 = .ok (.iconst 0, 1) := by decide +kernel
theorem dX3_isMinimalCover_6 : decode cX3_isMinimalCover 6 = .ok (.istore 4, 2) := by decide +kernel
theorem dX3_isMinimalCover_8 : decode cX3_isMinimalCover 8 = .ok (.iload 4, 2) := by decide +kernel
theorem dX3_isMinimalCover_10 : decode cX3_isMinimalCover 10 = .ok (.aload_n 0, 1) := by decide +kernel
theorem dX3_isMinimalCover_11 : decode cX3_isMinimalCover 11 = .ok (.getfield 42, 3) := by decide +kernel
theorem dX3_isMinimalCover_14 : decode cX3_isMinimalCover 14 = .ok (.if_icmp .ge 43, 3) := by decide +kernel
theorem dX3_isMinimalCover_17 : decode cX3_isMinimalCover 17 = .ok (.iload_n 1, 1) := by decide +kernel
theorem dX3_isMinimalCover_18 : decode cX3_isMinimalCover 18 = .ok (.iload 4, 2) := by decide +kernel
theorem dX3_isMinimalCover_20 : decode cX3_isMinimalCover 20 = .ok (.invokestatic 80, 3) := by decide +kernel
theorem dX3_isMinimalCover_23 : decode cX3_isMinimalCover 23 = .ok (.ifCond .ne 6, 3) := by decide +kernel
theorem dX3_isMinimalCover_26 : decode cX3_isMinimalCover 26 = .ok (.goto 25, 3) := by decide +kernel
theorem dX3_isMinimalCover_29 : decode cX3_isMinimalCover 29 = .ok (.iload_n 2, 1) := by decide +kernel
theorem dX3_isMinimalCover_30 : decode cX3_isMinimalCover 30 = .ok (.aload_n 0, 1) := by decide +kernel
theorem dX3_isMinimalCover_31 : decode cX3_isMinimalCover 31 = .ok (.getfield 15, 3) := by decide +kernel
theorem dX3_isMinimalCover_34 : decode cX3_isMinimalCover 34 = .ok (.iload 4, 2) := by decide +kernel
theorem dX3_isMinimalCover_36 : decode cX3_isMinimalCover 36 = .ok (.iaload, 1) := by decide +kernel
theorem dX3_isMinimalCover_37 : decode cX3_isMinimalCover 37 = .ok (.iadd, 1) := by decide +kernel
theorem dX3_isMinimalCover_38 : decode cX3_isMinimalCover 38 = .ok (.istore_n 2, 1) := by decide +kernel
theorem dX3_isMinimalCover_39 : decode cX3_isMinimalCover 39 = .ok (.iload_n 3, 1) := by decide +kernel
theorem dX3_isMinimalCover_40 : decode cX3_isMinimalCover 40 = .ok (.aload_n 0, 1) := by decide +kernel
theorem dX3_isMinimalCover_41 : decode cX3_isMinimalCover 41 = .ok (.getfield 15, 3) := by decide +kernel
theorem dX3_isMinimalCover_44 : decode cX3_isMinimalCover 44 = .ok (.iload 4, 2) := by decide +kernel
theorem dX3_isMinimalCover_46 : decode cX3_isMinimalCover 46 = .ok (.iaload, 1) := by decide +kernel
theorem dX3_isMinimalCover_47 : decode cX3_isMinimalCover 47 = .ok (.invokestatic 83, 3) := by decide +kernel
theorem dX3_isMinimalCover_50 : decode cX3_isMinimalCover 50 = .ok (.istore_n 3, 1) := by decide +kernel
theorem dX3_isMinimalCover_51 : decode cX3_isMinimalCover 51 = .ok (.iinc 4 1, 3) := by decide +kernel
theorem dX3_isMinimalCover_54 : decode cX3_isMinimalCover 54 = .ok (.goto (-46), 3) := by decide +kernel
theorem dX3_isMinimalCover_57 : decode cX3_isMinimalCover 57 = .ok (.iload_n 2, 1) := by decide +kernel
theorem dX3_isMinimalCover_58 : decode cX3_isMinimalCover 58 = .ok (.aload_n 0, 1) := by decide +kernel
theorem dX3_isMinimalCover_59 : decode cX3_isMinimalCover 59 = .ok (.getfield 56, 3) := by decide +kernel
theorem dX3_isMinimalCover_62 : decode cX3_isMinimalCover 62 = .ok (.if_icmp .le 17, 3) := by decide +kernel
theorem dX3_isMinimalCover_65 : decode cX3_isMinimalCover 65 = .ok (.iload_n 2, 1) := by decide +kernel
theorem dX3_isMinimalCover_66 : decode cX3_isMinimalCover 66 = .ok (.iload_n 3, 1) := by decide +kernel
theorem dX3_isMinimalCover_67 : decode cX3_isMinimalCover 67 = .ok (.isub, 1) := by decide +kernel
theorem dX3_isMinimalCover_68 : decode cX3_isMinimalCover 68 = .ok (.aload_n 0, 1) := by decide +kernel
theorem dX3_isMinimalCover_69 : decode cX3_isMinimalCover 69 = .ok (.getfield 56, 3) := by decide +kernel
theorem dX3_isMinimalCover_72 : decode cX3_isMinimalCover 72 = .ok (.if_icmp .gt 7, 3) := by decide +kernel
theorem dX3_isMinimalCover_75 : decode cX3_isMinimalCover 75 = .ok (.iconst 1, 1) := by decide +kernel
theorem dX3_isMinimalCover_76 : decode cX3_isMinimalCover 76 = .ok (.goto 4, 3) := by decide +kernel
theorem dX3_isMinimalCover_79 : decode cX3_isMinimalCover 79 = .ok (.iconst 0, 1) := by decide +kernel
theorem dX3_isMinimalCover_80 : decode cX3_isMinimalCover 80 = .ok (.ireturn, 1) := by decide +kernel
theorem dX3_tryCover_0 : decode cX3_tryCover 0 = .ok (.aload_n 0, 1) := by decide +kernel
theorem dX3_tryCover_1 : decode cX3_tryCover 1 = .ok (.iload_n 2, 1) := by decide +kernel
theorem dX3_tryCover_2 : decode cX3_tryCover 2 = .ok (.invokevirtual 86, 3) := by decide +kernel
theorem dX3_tryCover_5 : decode cX3_tryCover 5 = .ok (.aload_n 0, 1) := by decide +kernel
theorem dX3_tryCover_6 : decode cX3_tryCover 6 = .ok (.getfield 28, 3) := by decide +kernel
theorem dX3_tryCover_9 : decode cX3_tryCover 9 = .ok (.iconst 2, 1) := by decide +kernel
theorem dX3_tryCover_10 : decode cX3_tryCover 10 = .ok (.invokevirtual 89, 3) := by decide +kernel
theorem dX3_tryCover_13 : decode cX3_tryCover 13 = .ok (.astore_n 3, 1) := by decide +kernel
theorem dX3_tryCover_14 : decode cX3_tryCover 14 = .ok (.aload_n 3, 1) := by decide +kernel
theorem dX3_tryCover_15 : decode cX3_tryCover 15 = .ok (.iload_n 1, 1) := by decide +kernel
theorem dX3_tryCover_16 : decode cX3_tryCover 16 = .ok (.putfield 95, 3) := by decide +kernel
theorem dX3_tryCover_19 : decode cX3_tryCover 19 = .ok (.aload_n 3, 1) := by decide +kernel
theorem dX3_tryCover_20 : decode cX3_tryCover 20 = .ok (.iload_n 2, 1) := by decide +kernel
theorem dX3_tryCover_21 : decode cX3_tryCover 21 = .ok (.invokestatic 100, 3) := by decide +kernel
theorem dX3_tryCover_24 : decode cX3_tryCover 24 = .ok (.iconst 1, 1) := by decide +kernel
theorem dX3_tryCover_25 : decode cX3_tryCover 25 = .ok (.isub, 1) := by decide +kernel
theorem dX3_tryCover_26 : decode cX3_tryCover 26 = .ok (.putfield 105, 3) := by decide +kernel
theorem dX3_tryCover_29 : decode cX3_tryCover 29 = .ok (.iconst 0, 1) := by decide +kernel
theorem dX3_tryCover_30 : decode cX3_tryCover 30 = .ok (.istore 4, 2) := by decide +kernel
theorem dX3_tryCover_32 : decode cX3_tryCover 32 = .ok (.iload 4, 2) := by decide +kernel
theorem dX3_tryCover_34 : decode cX3_tryCover 34 = .ok (.aload_n 0, 1) := by decide +kernel
theorem dX3_tryCover_35 : decode cX3_tryCover 35 = .ok (.getfield 42, 3) := by decide +kernel
theorem dX3_tryCover_38 : decode cX3_tryCover 38 = .ok (.if_icmp .ge 81, 3) := by decide +kernel
theorem dX3_tryCover_41 : decode cX3_tryCover 41 = .ok (.aload_n 0, 1) := by decide +kernel
theorem dX3_tryCover_42 : decode cX3_tryCover 42 = .ok (.getfield 9, 3) := by decide +kernel
theorem dX3_tryCover_45 : decode cX3_tryCover 45 = .ok (.iload 4, 2) := by decide +kernel
theorem dX3_tryCover_47 : decode cX3_tryCover 47 = .ok (.iaload, 1) := by decide +kernel
theorem dX3_tryCover_48 : decode cX3_tryCover 48 = .ok (.istore 5, 2) := by decide +kernel
theorem dX3_tryCover_50 : decode cX3_tryCover 50 = .ok (.aload_n 0, 1) := by decide +kernel
theorem dX3_tryCover_51 : decode cX3_tryCover 51 = .ok (.getfield 24, 3) := by decide +kernel
theorem dX3_tryCover_54 : decode cX3_tryCover 54 = .ok (.getfield 62, 3) := by decide +kernel
theorem dX3_tryCover_57 : decode cX3_tryCover 57 = .ok (.iload_n 1, 1) := by decide +kernel
theorem dX3_tryCover_58 : decode cX3_tryCover 58 = .ok (.aaload, 1) := by decide +kernel
theorem dX3_tryCover_59 : decode cX3_tryCover 59 = .ok (.iload 5, 2) := by decide +kernel
theorem dX3_tryCover_61 : decode cX3_tryCover 61 = .ok (.iaload, 1) := by decide +kernel
theorem dX3_tryCover_62 : decode cX3_tryCover 62 = .ok (.ifCond .le 20, 3) := by decide +kernel
theorem dX3_tryCover_65 : decode cX3_tryCover 65 = .ok (.aload_n 3, 1) := by decide +kernel
theorem dX3_tryCover_66 : decode cX3_tryCover 66 = .ok (.getfield 108, 3) := by decide +kernel
theorem dX3_tryCover_69 : decode cX3_tryCover 69 = .ok (.iload 5, 2) := by decide +kernel
theorem dX3_tryCover_71 : decode cX3_tryCover 71 = .ok (.aload_n 0, 1) := by decide +kernel
theorem dX3_tryCover_72 : decode cX3_tryCover 72 = .ok (.getfield 18, 3) := by decide +kernel
theorem dX3_tryCover_75 : decode cX3_tryCover 75 = .ok (.iload 4, 2) := by decide +kernel
theorem dX3_tryCover_77 : decode cX3_tryCover 77 = .ok (.iaload, 1) := by decide +kernel
theorem dX3_tryCover_78 : decode cX3_tryCover 78 = .ok (.iastore, 1) := by decide +kernel
theorem dX3_tryCover_79 : decode cX3_tryCover 79 = .ok (.goto 34, 3) := by decide +kernel
theorem dX3_tryCover_82 : decode cX3_tryCover 82 = .ok (.aload_n 3, 1) := by decide +kernel
theorem dX3_tryCover_83 : decode cX3_tryCover 83 = .ok (.getfield 108, 3) := by decide +kernel
theorem dX3_tryCover_86 : decode cX3_tryCover 86 = .ok (.iload 5, 2) := by decide +kernel
theorem dX3_tryCover_88 : decode cX3_tryCover 88 = .ok (.aload_n 0, 1) := by decide +kernel
theorem dX3_tryCover_89 : decode cX3_tryCover 89 = .ok (.getfield 18, 3) := by decide +kernel
theorem dX3_tryCover_92 : decode cX3_tryCover 92 = .ok (.iload 4, 2) := by decide +kernel
theorem dX3_tryCover_94 : decode cX3_tryCover 94 = .ok (.iaload, 1) := by decide +kernel
theorem dX3_tryCover_95 : decode cX3_tryCover 95 = .ok (.ineg, 1) := by decide +kernel
theorem dX3_tryCover_96 : decode cX3_tryCover 96 = .ok (.iastore, 1) := by decide +kernel
theorem dX3_tryCover_97 : decode cX3_tryCover 97 = .ok (.aload_n 3, 1) := by decide +kernel
theorem dX3_tryCover_98 : decode cX3_tryCover 98 = .ok (.dup, 1) := by decide +kernel
theorem dX3_tryCover_99 : decode cX3_tryCover 99 = .ok (.getfield 105, 3) := by decide +kernel
theorem dX3_tryCover_102 : decode cX3_tryCover 102 = .ok (.aload_n 0, 1) := by decide +kernel
theorem dX3_tryCover_103 : decode cX3_tryCover 103 = .ok (.getfield 18, 3) := by decide +kernel
theorem dX3_tryCover_106 : decode cX3_tryCover 106 = .ok (.iload 4, 2) := by decide +kernel
theorem dX3_tryCover_108 : decode cX3_tryCover 108 = .ok (.iaload, 1) := by decide +kernel
theorem dX3_tryCover_109 : decode cX3_tryCover 109 = .ok (.isub, 1) := by decide +kernel
theorem dX3_tryCover_110 : decode cX3_tryCover 110 = .ok (.putfield 105, 3) := by decide +kernel
theorem dX3_tryCover_113 : decode cX3_tryCover 113 = .ok (.iinc 4 1, 3) := by decide +kernel
theorem dX3_tryCover_116 : decode cX3_tryCover 116 = .ok (.goto (-84), 3) := by decide +kernel
theorem dX3_tryCover_119 : decode cX3_tryCover 119 = .ok (.aload_n 0, 1) := by decide +kernel
theorem dX3_tryCover_120 : decode cX3_tryCover 120 = .ok (.getfield 28, 3) := by decide +kernel
theorem dX3_tryCover_123 : decode cX3_tryCover 123 = .ok (.invokevirtual 110, 3) := by decide +kernel
theorem dX3_tryCover_126 : decode cX3_tryCover 126 = .ok (.ireturn, 1) := by decide +kernel
theorem dX3_lift_0 : decode cX3_lift 0 = .ok (.iload_n 1, 1) := by decide +kernel
theorem dX3_lift_1 : decode cX3_lift 1 = .ok (.invokestatic 100, 3) := by decide +kernel
theorem dX3_lift_4 : decode cX3_lift 4 = .ok (.iconst 1, 1) := by decide +kernel
theorem dX3_lift_5 : decode cX3_lift 5 = .ok (.isub, 1) := by decide +kernel
theorem dX3_lift_6 : decode cX3_lift 6 = .ok (.istore_n 2, 1) := by decide +kernel
theorem dX3_lift_7 : decode cX3_lift 7 = .ok (.aload_n 0, 1) := by decide +kernel
theorem dX3_lift_8 : decode cX3_lift 8 = .ok (.getfield 21, 3) := by decide +kernel
theorem dX3_lift_11 : decode cX3_lift 11 = .ok (.ldc 79, 2) := by decide +kernel
theorem dX3_lift_13 : decode cX3_lift 13 = .ok (.invokestatic 114, 3) := by decide +kernel
theorem dX3_lift_16 : decode cX3_lift 16 = .ok (.aload_n 0, 1) := by decide +kernel
theorem dX3_lift_17 : decode cX3_lift 17 = .ok (.getfield 21, 3) := by decide +kernel
theorem dX3_lift_20 : decode cX3_lift 20 = .ok (.iconst 0, 1) := by decide +kernel
theorem dX3_lift_21 : decode cX3_lift 21 = .ok (.iconst 0, 1) := by decide +kernel
theorem dX3_lift_22 : decode cX3_lift 22 = .ok (.iastore, 1) := by decide +kernel
theorem dX3_lift_23 : decode cX3_lift 23 = .ok (.iconst 0, 1) := by decide +kernel
theorem dX3_lift_24 : decode cX3_lift 24 = .ok (.istore_n 3, 1) := by decide +kernel
theorem dX3_lift_25 : decode cX3_lift 25 = .ok (.iload_n 3, 1) := by decide +kernel
theorem dX3_lift_26 : decode cX3_lift 26 = .ok (.aload_n 0, 1) := by decide +kernel
theorem dX3_lift_27 : decode cX3_lift 27 = .ok (.getfield 42, 3) := by decide +kernel
theorem dX3_lift_30 : decode cX3_lift 30 = .ok (.if_icmp .ge 23, 3) := by decide +kernel
theorem dX3_lift_33 : decode cX3_lift 33 = .ok (.iload_n 1, 1) := by decide +kernel
theorem dX3_lift_34 : decode cX3_lift 34 = .ok (.iload_n 3, 1) := by decide +kernel
theorem dX3_lift_35 : decode cX3_lift 35 = .ok (.invokestatic 80, 3) := by decide +kernel
theorem dX3_lift_38 : decode cX3_lift 38 = .ok (.ifCond .eq 9, 3) := by decide +kernel
theorem dX3_lift_41 : decode cX3_lift 41 = .ok (.aload_n 0, 1) := by decide +kernel
theorem dX3_lift_42 : decode cX3_lift 42 = .ok (.iload_n 3, 1) := by decide +kernel
theorem dX3_lift_43 : decode cX3_lift 43 = .ok (.iconst 1, 1) := by decide +kernel
theorem dX3_lift_44 : decode cX3_lift 44 = .ok (.invokevirtual 120, 3) := by decide +kernel
theorem dX3_lift_47 : decode cX3_lift 47 = .ok (.iinc 3 1, 3) := by decide +kernel
theorem dX3_lift_50 : decode cX3_lift 50 = .ok (.goto (-25), 3) := by decide +kernel
theorem dX3_lift_53 : decode cX3_lift 53 = .ok (.iconst 0, 1) := by decide +kernel
theorem dX3_lift_54 : decode cX3_lift 54 = .ok (.istore_n 3, 1) := by decide +kernel
theorem dX3_lift_55 : decode cX3_lift 55 = .ok (.iload_n 3, 1) := by decide +kernel
theorem dX3_lift_56 : decode cX3_lift 56 = .ok (.aload_n 0, 1) := by decide +kernel
theorem dX3_lift_57 : decode cX3_lift 57 = .ok (.getfield 42, 3) := by decide +kernel
theorem dX3_lift_60 : decode cX3_lift 60 = .ok (.if_icmp .ge 39, 3) := by decide +kernel
theorem dX3_lift_63 : decode cX3_lift 63 = .ok (.iload_n 1, 1) := by decide +kernel
theorem dX3_lift_64 : decode cX3_lift 64 = .ok (.iload_n 3, 1) := by decide +kernel
theorem dX3_lift_65 : decode cX3_lift 65 = .ok (.invokestatic 80, 3) := by decide +kernel
theorem dX3_lift_68 : decode cX3_lift 68 = .ok (.ifCond .ne 25, 3) := by decide +kernel
theorem dX3_lift_71 : decode cX3_lift 71 = .ok (.aload_n 0, 1) := by decide +kernel
theorem dX3_lift_72 : decode cX3_lift 72 = .ok (.iload_n 3, 1) := by decide +kernel
theorem dX3_lift_73 : decode cX3_lift 73 = .ok (.iload_n 2, 1) := by decide +kernel
theorem dX3_lift_74 : decode cX3_lift 74 = .ok (.aload_n 0, 1) := by decide +kernel
theorem dX3_lift_75 : decode cX3_lift 75 = .ok (.aload_n 0, 1) := by decide +kernel
theorem dX3_lift_76 : decode cX3_lift 76 = .ok (.getfield 56, 3) := by decide +kernel
theorem dX3_lift_79 : decode cX3_lift 79 = .ok (.aload_n 0, 1) := by decide +kernel
theorem dX3_lift_80 : decode cX3_lift 80 = .ok (.getfield 15, 3) := by decide +kernel
theorem dX3_lift_83 : decode cX3_lift 83 = .ok (.iload_n 3, 1) := by decide +kernel
theorem dX3_lift_84 : decode cX3_lift 84 = .ok (.iaload, 1) := by decide +kernel
theorem dX3_lift_85 : decode cX3_lift 85 = .ok (.isub, 1) := by decide +kernel
theorem dX3_lift_86 : decode cX3_lift 86 = .ok (.invokevirtual 124, 3) := by decide +kernel
theorem dX3_lift_89 : decode cX3_lift 89 = .ok (.isub, 1) := by decide +kernel
theorem dX3_lift_90 : decode cX3_lift 90 = .ok (.invokevirtual 120, 3) := by decide +kernel
theorem dX3_lift_93 : decode cX3_lift 93 = .ok (.iinc 3 1, 3) := by decide +kernel
theorem dX3_lift_96 : decode cX3_lift 96 = .ok (.goto (-41), 3) := by decide +kernel
theorem dX3_lift_99 : decode cX3_lift 99 = .ok (.return_, 1) := by decide +kernel
theorem dX3_giveAlpha_0 : decode cX3_giveAlpha 0 = .ok (.aload_n 0, 1) := by decide +kernel
theorem dX3_giveAlpha_1 : decode cX3_giveAlpha 1 = .ok (.getfield 18, 3) := by decide +kernel
theorem dX3_giveAlpha_4 : decode cX3_giveAlpha 4 = .ok (.iload_n 1, 1) := by decide +kernel
theorem dX3_giveAlpha_5 : decode cX3_giveAlpha 5 = .ok (.iload_n 2, 1) := by decide +kernel
theorem dX3_giveAlpha_6 : decode cX3_giveAlpha 6 = .ok (.iastore, 1) := by decide +kernel
theorem dX3_giveAlpha_7 : decode cX3_giveAlpha 7 = .ok (.iload_n 2, 1) := by decide +kernel
theorem dX3_giveAlpha_8 : decode cX3_giveAlpha 8 = .ok (.ifCond .gt 4, 3) := by decide +kernel
theorem dX3_giveAlpha_11 : decode cX3_giveAlpha 11 = .ok (.return_, 1) := by decide +kernel
theorem dX3_giveAlpha_12 : decode cX3_giveAlpha 12 = .ok (.bipush 64, 2) := by decide +kernel
theorem dX3_giveAlpha_14 : decode cX3_giveAlpha 14 = .ok (.istore_n 3, 1) := by decide +kernel
theorem dX3_giveAlpha_15 : decode cX3_giveAlpha 15 = .ok (.iload_n 3, 1) := by decide +kernel
theorem dX3_giveAlpha_16 : decode cX3_giveAlpha 16 = .ok (.iload_n 2, 1) := by decide +kernel
theorem dX3_giveAlpha_17 : decode cX3_giveAlpha 17 = .ok (.if_icmp .lt 39, 3) := by decide +kernel
theorem dX3_giveAlpha_20 : decode cX3_giveAlpha 20 = .ok (.aload_n 0, 1) := by decide +kernel
theorem dX3_giveAlpha_21 : decode cX3_giveAlpha 21 = .ok (.getfield 21, 3) := by decide +kernel
theorem dX3_giveAlpha_24 : decode cX3_giveAlpha 24 = .ok (.iload_n 3, 1) := by decide +kernel
theorem dX3_giveAlpha_25 : decode cX3_giveAlpha 25 = .ok (.aload_n 0, 1) := by decide +kernel
theorem dX3_giveAlpha_26 : decode cX3_giveAlpha 26 = .ok (.getfield 21, 3) := by decide +kernel
theorem dX3_giveAlpha_29 : decode cX3_giveAlpha 29 = .ok (.iload_n 3, 1) := by decide +kernel
theorem dX3_giveAlpha_30 : decode cX3_giveAlpha 30 = .ok (.iaload, 1) := by decide +kernel
theorem dX3_giveAlpha_31 : decode cX3_giveAlpha 31 = .ok (.aload_n 0, 1) := by decide +kernel
theorem dX3_giveAlpha_32 : decode cX3_giveAlpha 32 = .ok (.getfield 21, 3) := by decide +kernel
theorem dX3_giveAlpha_35 : decode cX3_giveAlpha 35 = .ok (.iload_n 3, 1) := by decide +kernel
theorem dX3_giveAlpha_36 : decode cX3_giveAlpha 36 = .ok (.iload_n 2, 1) := by decide +kernel
theorem dX3_giveAlpha_37 : decode cX3_giveAlpha 37 = .ok (.isub, 1) := by decide +kernel
theorem dX3_giveAlpha_38 : decode cX3_giveAlpha 38 = .ok (.iaload, 1) := by decide +kernel
theorem dX3_giveAlpha_39 : decode cX3_giveAlpha 39 = .ok (.aload_n 0, 1) := by decide +kernel
theorem dX3_giveAlpha_40 : decode cX3_giveAlpha 40 = .ok (.getfield 15, 3) := by decide +kernel
theorem dX3_giveAlpha_43 : decode cX3_giveAlpha 43 = .ok (.iload_n 1, 1) := by decide +kernel
theorem dX3_giveAlpha_44 : decode cX3_giveAlpha 44 = .ok (.iaload, 1) := by decide +kernel
theorem dX3_giveAlpha_45 : decode cX3_giveAlpha 45 = .ok (.iadd, 1) := by decide +kernel
theorem dX3_giveAlpha_46 : decode cX3_giveAlpha 46 = .ok (.invokestatic 83, 3) := by decide +kernel
theorem dX3_giveAlpha_49 : decode cX3_giveAlpha 49 = .ok (.iastore, 1) := by decide +kernel
theorem dX3_giveAlpha_50 : decode cX3_giveAlpha 50 = .ok (.iinc 3 (-1), 3) := by decide +kernel
theorem dX3_giveAlpha_53 : decode cX3_giveAlpha 53 = .ok (.goto (-38), 3) := by decide +kernel
theorem dX3_giveAlpha_56 : decode cX3_giveAlpha 56 = .ok (.return_, 1) := by decide +kernel
theorem dX3_greatestSum_0 : decode cX3_greatestSum 0 = .ok (.bipush 64, 2) := by decide +kernel
theorem dX3_greatestSum_2 : decode cX3_greatestSum 2 = .ok (.istore_n 2, 1) := by decide +kernel
theorem dX3_greatestSum_3 : decode cX3_greatestSum 3 = .ok (.iload_n 2, 1) := by decide +kernel
theorem dX3_greatestSum_4 : decode cX3_greatestSum 4 = .ok (.ifCond .le 21, 3) := by decide +kernel
theorem dX3_greatestSum_7 : decode cX3_greatestSum 7 = .ok (.aload_n 0, 1) := by decide +kernel
theorem dX3_greatestSum_8 : decode cX3_greatestSum 8 = .ok (.getfield 21, 3) := by decide +kernel
theorem dX3_greatestSum_11 : decode cX3_greatestSum 11 = .ok (.iload_n 2, 1) := by decide +kernel
theorem dX3_greatestSum_12 : decode cX3_greatestSum 12 = .ok (.iaload, 1) := by decide +kernel
theorem dX3_greatestSum_13 : decode cX3_greatestSum 13 = .ok (.iload_n 1, 1) := by decide +kernel
theorem dX3_greatestSum_14 : decode cX3_greatestSum 14 = .ok (.if_icmp .gt 5, 3) := by decide +kernel
theorem dX3_greatestSum_17 : decode cX3_greatestSum 17 = .ok (.iload_n 2, 1) := by decide +kernel
theorem dX3_greatestSum_18 : decode cX3_greatestSum 18 = .ok (.ireturn, 1) := by decide +kernel
theorem dX3_greatestSum_19 : decode cX3_greatestSum 19 = .ok (.iinc 2 (-1), 3) := by decide +kernel
theorem dX3_greatestSum_22 : decode cX3_greatestSum 22 = .ok (.goto (-19), 3) := by decide +kernel
theorem dX3_greatestSum_25 : decode cX3_greatestSum 25 = .ok (.iconst 0, 1) := by decide +kernel
theorem dX3_greatestSum_26 : decode cX3_greatestSum 26 = .ok (.ireturn, 1) := by decide +kernel
theorem dX4_init_0 : decode cX4_init 0 = .ok (.aload_n 0, 1) := by decide +kernel
theorem dX4_init_1 : decode cX4_init 1 = .ok (.invokespecial 3, 3) := by decide +kernel
theorem dX4_init_4 : decode cX4_init 4 = .ok (.aload_n 0, 1) := by decide +kernel
theorem dX4_init_5 : decode cX4_init 5 = .ok (.bipush 8, 2) := by decide +kernel
theorem dX4_init_7 : decode cX4_init 7 = .ok (.newarray .int, 2) := by decide +kernel
theorem dX4_init_9 : decode cX4_init 9 = .ok (.putfield 9, 3) := by decide +kernel
theorem dX4_init_12 : decode cX4_init 12 = .ok (.aload_n 0, 1) := by decide +kernel
theorem dX4_init_13 : decode cX4_init 13 = .ok (.bipush 10, 2) := by decide +kernel
theorem dX4_init_15 : decode cX4_init 15 = .ok (.newarray .int, 2) := by decide +kernel
theorem dX4_init_17 : decode cX4_init 17 = .ok (.putfield 15, 3) := by decide +kernel
theorem dX4_init_20 : decode cX4_init 20 = .ok (.aload_n 0, 1) := by decide +kernel
theorem dX4_init_21 : decode cX4_init 21 = .ok (.bipush 8, 2) := by decide +kernel
theorem dX4_init_23 : decode cX4_init 23 = .ok (.newarray .int, 2) := by decide +kernel
theorem dX4_init_25 : decode cX4_init 25 = .ok (.putfield 18, 3) := by decide +kernel
theorem dX4_init_28 : decode cX4_init 28 = .ok (.aload_n 0, 1) := by decide +kernel
theorem dX4_init_29 : decode cX4_init 29 = .ok (.bipush 8, 2) := by decide +kernel
theorem dX4_init_31 : decode cX4_init 31 = .ok (.newarray .int, 2) := by decide +kernel
theorem dX4_init_33 : decode cX4_init 33 = .ok (.putfield 21, 3) := by decide +kernel
theorem dX4_init_36 : decode cX4_init 36 = .ok (.return_, 1) := by decide +kernel
theorem dX4_begin_0 : decode cX4_begin 0 = .ok (.aload_n 0, 1) := by decide +kernel
theorem dX4_begin_1 : decode cX4_begin 1 = .ok (.getfield 9, 3) := by decide +kernel
theorem dX4_begin_4 : decode cX4_begin 4 = .ok (.iconst 0, 1) := by decide +kernel
theorem dX4_begin_5 : decode cX4_begin 5 = .ok (.invokestatic 24, 3) := by decide +kernel
theorem dX4_begin_8 : decode cX4_begin 8 = .ok (.aload_n 0, 1) := by decide +kernel
theorem dX4_begin_9 : decode cX4_begin 9 = .ok (.getfield 15, 3) := by decide +kernel
theorem dX4_begin_12 : decode cX4_begin 12 = .ok (.iconst 0, 1) := by decide +kernel
theorem dX4_begin_13 : decode cX4_begin 13 = .ok (.invokestatic 24, 3) := by decide +kernel
theorem dX4_begin_16 : decode cX4_begin 16 = .ok (.aload_n 0, 1) := by decide +kernel
theorem dX4_begin_17 : decode cX4_begin 17 = .ok (.getfield 18, 3) := by decide +kernel
theorem dX4_begin_20 : decode cX4_begin 20 = .ok (.iconst 0, 1) := by decide +kernel
theorem dX4_begin_21 : decode cX4_begin 21 = .ok (.invokestatic 24, 3) := by decide +kernel
theorem dX4_begin_24 : decode cX4_begin 24 = .ok (.aload_n 0, 1) := by decide +kernel
theorem dX4_begin_25 : decode cX4_begin 25 = .ok (.getfield 21, 3) := by decide +kernel
theorem dX4_begin_28 : decode cX4_begin 28 = .ok (.iconst 0, 1) := by decide +kernel
theorem dX4_begin_29 : decode cX4_begin 29 = .ok (.invokestatic 24, 3) := by decide +kernel
theorem dX4_begin_32 : decode cX4_begin 32 = .ok (.aload_n 0, 1) := by decide +kernel
theorem dX4_begin_33 : decode cX4_begin 33 = .ok (.iconst 0, 1) := by decide +kernel
theorem dX4_begin_34 : decode cX4_begin 34 = .ok (.putfield 30, 3) := by decide +kernel
theorem dX4_begin_37 : decode cX4_begin 37 = .ok (.aload_n 0, 1) := by decide +kernel
theorem dX4_begin_38 : decode cX4_begin 38 = .ok (.iload_n 1, 1) := by decide +kernel
theorem dX4_begin_39 : decode cX4_begin 39 = .ok (.putfield 34, 3) := by decide +kernel
theorem dX4_begin_42 : decode cX4_begin 42 = .ok (.aload_n 0, 1) := by decide +kernel
theorem dX4_begin_43 : decode cX4_begin 43 = .ok (.iconst 0, 1) := by decide +kernel
theorem dX4_begin_44 : decode cX4_begin 44 = .ok (.putfield 37, 3) := by decide +kernel
theorem dX4_begin_47 : decode cX4_begin 47 = .ok (.aload_n 0, 1) := by decide +kernel
theorem dX4_begin_48 : decode cX4_begin 48 = .ok (.iconst 0, 1) := by decide +kernel
theorem dX4_begin_49 : decode cX4_begin 49 = .ok (.putfield 40, 3) := by decide +kernel
theorem dX4_begin_52 : decode cX4_begin 52 = .ok (.aload_n 0, 1) := by decide +kernel
theorem dX4_begin_53 : decode cX4_begin 53 = .ok (.iconst 0, 1) := by decide +kernel
theorem dX4_begin_54 : decode cX4_begin 54 = .ok (.putfield 43, 3) := by decide +kernel
theorem dX4_begin_57 : decode cX4_begin 57 = .ok (.return_, 1) := by decide +kernel
theorem dX4_saysTheSameAs_0 : decode cX4_saysTheSameAs 0 = .ok (.aload_n 0, 1) := by decide +kernel
theorem dX4_saysTheSameAs_1 : decode cX4_saysTheSameAs 1 = .ok (.getfield 30, 3) := by decide +kernel
theorem dX4_saysTheSameAs_4 : decode cX4_saysTheSameAs 4 = .ok (.aload_n 1, 1) := by decide +kernel
theorem dX4_saysTheSameAs_5 : decode cX4_saysTheSameAs 5 = .ok (.getfield 30, 3) := by decide +kernel
theorem dX4_saysTheSameAs_8 : decode cX4_saysTheSameAs 8 = .ok (.if_icmp .eq 5, 3) := by decide +kernel
theorem dX4_saysTheSameAs_11 : decode cX4_saysTheSameAs 11 = .ok (.iconst 0, 1) := by decide +kernel
theorem dX4_saysTheSameAs_12 : decode cX4_saysTheSameAs 12 = .ok (.ireturn, 1) := by decide +kernel
theorem dX4_saysTheSameAs_13 : decode cX4_saysTheSameAs 13 = .ok (.iconst 0, 1) := by decide +kernel
theorem dX4_saysTheSameAs_14 : decode cX4_saysTheSameAs 14 = .ok (.istore_n 3, 1) := by decide +kernel
theorem dX4_saysTheSameAs_15 : decode cX4_saysTheSameAs 15 = .ok (.iload_n 3, 1) := by decide +kernel
theorem dX4_saysTheSameAs_16 : decode cX4_saysTheSameAs 16 = .ok (.iload_n 2, 1) := by decide +kernel
theorem dX4_saysTheSameAs_17 : decode cX4_saysTheSameAs 17 = .ok (.if_icmp .ge 26, 3) := by decide +kernel
theorem dX4_saysTheSameAs_20 : decode cX4_saysTheSameAs 20 = .ok (.aload_n 0, 1) := by decide +kernel
theorem dX4_saysTheSameAs_21 : decode cX4_saysTheSameAs 21 = .ok (.getfield 9, 3) := by decide +kernel
theorem dX4_saysTheSameAs_24 : decode cX4_saysTheSameAs 24 = .ok (.iload_n 3, 1) := by decide +kernel
theorem dX4_saysTheSameAs_25 : decode cX4_saysTheSameAs 25 = .ok (.iaload, 1) := by decide +kernel
theorem dX4_saysTheSameAs_26 : decode cX4_saysTheSameAs 26 = .ok (.aload_n 1, 1) := by decide +kernel
theorem dX4_saysTheSameAs_27 : decode cX4_saysTheSameAs 27 = .ok (.getfield 9, 3) := by decide +kernel
theorem dX4_saysTheSameAs_30 : decode cX4_saysTheSameAs 30 = .ok (.iload_n 3, 1) := by decide +kernel
theorem dX4_saysTheSameAs_31 : decode cX4_saysTheSameAs 31 = .ok (.iaload, 1) := by decide +kernel
theorem dX4_saysTheSameAs_32 : decode cX4_saysTheSameAs 32 = .ok (.if_icmp .eq 5, 3) := by decide +kernel
theorem dX4_saysTheSameAs_35 : decode cX4_saysTheSameAs 35 = .ok (.iconst 0, 1) := by decide +kernel
theorem dX4_saysTheSameAs_36 : decode cX4_saysTheSameAs 36 = .ok (.ireturn, 1) := by decide +kernel
theorem dX4_saysTheSameAs_37 : decode cX4_saysTheSameAs 37 = .ok (.iinc 3 1, 3) := by decide +kernel
theorem dX4_saysTheSameAs_40 : decode cX4_saysTheSameAs 40 = .ok (.goto (-25), 3) := by decide +kernel
theorem dX4_saysTheSameAs_43 : decode cX4_saysTheSameAs 43 = .ok (.iconst 1, 1) := by decide +kernel
theorem dX4_saysTheSameAs_44 : decode cX4_saysTheSameAs 44 = .ok (.ireturn, 1) := by decide +kernel
theorem dX4_shown_0 : decode cX4_shown 0 = .ok (.iload_n 1, 1) := by decide +kernel
theorem dX4_shown_1 : decode cX4_shown 1 = .ok (.tableswitch 63 0 2 #[27, 49, 56], 27) := by decide +kernel
theorem dX4_shown_28 : decode cX4_shown 28 = .ok (.aload_n 0, 1) := by decide +kernel
theorem dX4_shown_29 : decode cX4_shown 29 = .ok (.getfield 34, 3) := by decide +kernel
theorem dX4_shown_32 : decode cX4_shown 32 = .ok (.iconst 2, 1) := by decide +kernel
theorem dX4_shown_33 : decode cX4_shown 33 = .ok (.if_icmp .ne 10, 3) := by decide +kernel
theorem dX4_shown_36 : decode cX4_shown 36 = .ok (.aload_n 0, 1) := by decide +kernel
theorem dX4_shown_37 : decode cX4_shown 37 = .ok (.getfield 43, 3) := by decide +kernel
theorem dX4_shown_40 : decode cX4_shown 40 = .ok (.goto 9, 3) := by decide +kernel
theorem dX4_shown_43 : decode cX4_shown 43 = .ok (.aload_n 0, 1) := by decide +kernel
theorem dX4_shown_44 : decode cX4_shown 44 = .ok (.getfield 15, 3) := by decide +kernel
theorem dX4_shown_47 : decode cX4_shown 47 = .ok (.iload_n 2, 1) := by decide +kernel
theorem dX4_shown_48 : decode cX4_shown 48 = .ok (.iaload, 1) := by decide +kernel
theorem dX4_shown_49 : decode cX4_shown 49 = .ok (.ireturn, 1) := by decide +kernel
theorem dX4_shown_50 : decode cX4_shown 50 = .ok (.aload_n 0, 1) := by decide +kernel
theorem dX4_shown_51 : decode cX4_shown 51 = .ok (.getfield 18, 3) := by decide +kernel
theorem dX4_shown_54 : decode cX4_shown 54 = .ok (.iload_n 2, 1) := by decide +kernel
theorem dX4_shown_55 : decode cX4_shown 55 = .ok (.iaload, 1) := by decide +kernel
theorem dX4_shown_56 : decode cX4_shown 56 = .ok (.ireturn, 1) := by decide +kernel
theorem dX4_shown_57 : decode cX4_shown 57 = .ok (.aload_n 0, 1) := by decide +kernel
theorem dX4_shown_58 : decode cX4_shown 58 = .ok (.getfield 21, 3) := by decide +kernel
theorem dX4_shown_61 : decode cX4_shown 61 = .ok (.iload_n 2, 1) := by decide +kernel
theorem dX4_shown_62 : decode cX4_shown 62 = .ok (.iaload, 1) := by decide +kernel
theorem dX4_shown_63 : decode cX4_shown 63 = .ok (.ireturn, 1) := by decide +kernel
theorem dX4_shown_64 : decode cX4_shown 64 = .ok (.aload_n 0, 1) := by decide +kernel
theorem dX4_shown_65 : decode cX4_shown 65 = .ok (.getfield 40, 3) := by decide +kernel
theorem dX4_shown_68 : decode cX4_shown 68 = .ok (.ireturn, 1) := by decide +kernel
theorem dX4_showOtherwise_0 : decode cX4_showOtherwise 0 = .ok (.iload_n 1, 1) := by decide +kernel
theorem dX4_showOtherwise_1 : decode cX4_showOtherwise 1 = .ok (.tableswitch 73 0 2 #[27, 53, 63], 27) := by decide +kernel
theorem dX4_showOtherwise_28 : decode cX4_showOtherwise 28 = .ok (.aload_n 0, 1) := by decide +kernel
theorem dX4_showOtherwise_29 : decode cX4_showOtherwise 29 = .ok (.getfield 34, 3) := by decide +kernel
theorem dX4_showOtherwise_32 : decode cX4_showOtherwise 32 = .ok (.iconst 2, 1) := by decide +kernel
theorem dX4_showOtherwise_33 : decode cX4_showOtherwise 33 = .ok (.if_icmp .ne 11, 3) := by decide +kernel
theorem dX4_showOtherwise_36 : decode cX4_showOtherwise 36 = .ok (.aload_n 0, 1) := by decide +kernel
theorem dX4_showOtherwise_37 : decode cX4_showOtherwise 37 = .ok (.iload_n 3, 1) := by decide +kernel
theorem dX4_showOtherwise_38 : decode cX4_showOtherwise 38 = .ok (.putfield 43, 3) := by decide +kernel
theorem dX4_showOtherwise_41 : decode cX4_showOtherwise 41 = .ok (.goto 38, 3) := by decide +kernel
theorem dX4_showOtherwise_44 : decode cX4_showOtherwise 44 = .ok (.aload_n 0, 1) := by decide +kernel
theorem dX4_showOtherwise_45 : decode cX4_showOtherwise 45 = .ok (.getfield 15, 3) := by decide +kernel
theorem dX4_showOtherwise_48 : decode cX4_showOtherwise 48 = .ok (.iload_n 2, 1) := by decide +kernel
theorem dX4_showOtherwise_49 : decode cX4_showOtherwise 49 = .ok (.iload_n 3, 1) := by decide +kernel
theorem dX4_showOtherwise_50 : decode cX4_showOtherwise 50 = .ok (.iastore, 1) := by decide +kernel
theorem dX4_showOtherwise_51 : decode cX4_showOtherwise 51 = .ok (.goto 28, 3) := by decide +kernel
theorem dX4_showOtherwise_54 : decode cX4_showOtherwise 54 = .ok (.aload_n 0, 1) := by decide +kernel
theorem dX4_showOtherwise_55 : decode cX4_showOtherwise 55 = .ok (.getfield 18, 3) := by decide +kernel
theorem dX4_showOtherwise_58 : decode cX4_showOtherwise 58 = .ok (.iload_n 2, 1) := by decide +kernel
theorem dX4_showOtherwise_59 : decode cX4_showOtherwise 59 = .ok (.iload_n 3, 1) := by decide +kernel
theorem dX4_showOtherwise_60 : decode cX4_showOtherwise 60 = .ok (.iastore, 1) := by decide +kernel
theorem dX4_showOtherwise_61 : decode cX4_showOtherwise 61 = .ok (.goto 18, 3) := by decide +kernel
theorem dX4_showOtherwise_64 : decode cX4_showOtherwise 64 = .ok (.aload_n 0, 1) := by decide +kernel
theorem dX4_showOtherwise_65 : decode cX4_showOtherwise 65 = .ok (.getfield 21, 3) := by decide +kernel
theorem dX4_showOtherwise_68 : decode cX4_showOtherwise 68 = .ok (.iload_n 2, 1) := by decide +kernel
theorem dX4_showOtherwise_69 : decode cX4_showOtherwise 69 = .ok (.iload_n 3, 1) := by decide +kernel
theorem dX4_showOtherwise_70 : decode cX4_showOtherwise 70 = .ok (.iastore, 1) := by decide +kernel
theorem dX4_showOtherwise_71 : decode cX4_showOtherwise 71 = .ok (.goto 8, 3) := by decide +kernel
theorem dX4_showOtherwise_74 : decode cX4_showOtherwise 74 = .ok (.aload_n 0, 1) := by decide +kernel
theorem dX4_showOtherwise_75 : decode cX4_showOtherwise 75 = .ok (.iload_n 3, 1) := by decide +kernel
theorem dX4_showOtherwise_76 : decode cX4_showOtherwise 76 = .ok (.putfield 40, 3) := by decide +kernel
theorem dX4_showOtherwise_79 : decode cX4_showOtherwise 79 = .ok (.return_, 1) := by decide +kernel
theorem dX5_init_0 : decode cX5_init 0 = .ok (.aload_n 0, 1) := by decide +kernel
theorem dX5_init_1 : decode cX5_init 1 = .ok (.invokespecial 3, 3) := by decide +kernel
theorem dX5_init_4 : decode cX5_init 4 = .ok (.aload_n 0, 1) := by decide +kernel
theorem dX5_init_5 : decode cX5_init 5 = .ok (.bipush 41, 2) := by decide +kernel
theorem dX5_init_7 : decode cX5_init 7 = .ok (.anewarray 9, 3) := by decide +kernel
theorem dX5_init_10 : decode cX5_init 10 = .ok (.putfield 11, 3) := by decide +kernel
theorem dX5_init_13 : decode cX5_init 13 = .ok (.aload_n 0, 1) := by decide +kernel
theorem dX5_init_14 : decode cX5_init 14 = .ok (.iconst 1, 1) := by decide +kernel
theorem dX5_init_15 : decode cX5_init 15 = .ok (.putfield 17, 3) := by decide +kernel
theorem dX5_init_18 : decode cX5_init 18 = .ok (.aload_n 0, 1) := by decide +kernel
theorem dX5_init_19 : decode cX5_init 19 = .ok (.aload_n 1, 1) := by decide +kernel
theorem dX5_init_20 : decode cX5_init 20 = .ok (.putfield 21, 3) := by decide +kernel
theorem dX5_init_23 : decode cX5_init 23 = .ok (.iconst 0, 1) := by decide +kernel
theorem dX5_init_24 : decode cX5_init 24 = .ok (.istore_n 2, 1) := by decide +kernel
theorem dX5_init_25 : decode cX5_init 25 = .ok (.iload_n 2, 1) := by decide +kernel
theorem dX5_init_26 : decode cX5_init 26 = .ok (.aload_n 0, 1) := by decide +kernel
theorem dX5_init_27 : decode cX5_init 27 = .ok (.getfield 11, 3) := by decide +kernel
theorem dX5_init_30 : decode cX5_init 30 = .ok (.arraylength, 1) := by decide +kernel
theorem dX5_init_31 : decode cX5_init 31 = .ok (.if_icmp .ge 22, 3) := by decide +kernel
theorem dX5_init_34 : decode cX5_init 34 = .ok (.aload_n 0, 1) := by decide +kernel
theorem dX5_init_35 : decode cX5_init 35 = .ok (.getfield 11, 3) := by decide +kernel
theorem dX5_init_38 : decode cX5_init 38 = .ok (.iload_n 2, 1) := by decide +kernel
theorem dX5_init_39 : decode cX5_init 39 = .ok (.new 9, 3) := by decide +kernel
theorem dX5_init_42 : decode cX5_init 42 = .ok (.dup, 1) := by decide +kernel
theorem dX5_init_43 : decode cX5_init 43 = .ok (.invokespecial 25, 3) := by decide +kernel
theorem dX5_init_46 : decode cX5_init 46 = .ok (.aastore, 1) := by decide +kernel
theorem dX5_init_47 : decode cX5_init 47 = .ok (.iinc 2 1, 3) := by decide +kernel
theorem dX5_init_50 : decode cX5_init 50 = .ok (.goto (-25), 3) := by decide +kernel
theorem dX5_init_53 : decode cX5_init 53 = .ok (.return_, 1) := by decide +kernel
theorem dX5_has_0 : decode cX5_has 0 = .ok (.iload_n 1, 1) := by decide +kernel
theorem dX5_has_1 : decode cX5_has 1 = .ok (.ifCond .lt 15, 3) := by decide +kernel
theorem dX5_has_4 : decode cX5_has 4 = .ok (.iload_n 1, 1) := by decide +kernel
theorem dX5_has_5 : decode cX5_has 5 = .ok (.aload_n 0, 1) := by decide +kernel
theorem dX5_has_6 : decode cX5_has 6 = .ok (.getfield 26, 3) := by decide +kernel
theorem dX5_has_9 : decode cX5_has 9 = .ok (.if_icmp .ge 7, 3) := by decide +kernel
theorem dX5_has_12 : decode cX5_has 12 = .ok (.iconst 1, 1) := by decide +kernel
theorem dX5_has_13 : decode cX5_has 13 = .ok (.goto 4, 3) := by decide +kernel
theorem dX5_has_16 : decode cX5_has 16 = .ok (.iconst 0, 1) := by decide +kernel
theorem dX5_has_17 : decode cX5_has 17 = .ok (.ireturn, 1) := by decide +kernel
theorem dX5_newDraft_0 : decode cX5_newDraft 0 = .ok (.aload_n 0, 1) := by decide +kernel
theorem dX5_newDraft_1 : decode cX5_newDraft 1 = .ok (.getfield 11, 3) := by decide +kernel
theorem dX5_newDraft_4 : decode cX5_newDraft 4 = .ok (.aload_n 0, 1) := by decide +kernel
theorem dX5_newDraft_5 : decode cX5_newDraft 5 = .ok (.getfield 26, 3) := by decide +kernel
theorem dX5_newDraft_8 : decode cX5_newDraft 8 = .ok (.aaload, 1) := by decide +kernel
theorem dX5_newDraft_9 : decode cX5_newDraft 9 = .ok (.astore_n 2, 1) := by decide +kernel
theorem dX5_newDraft_10 : decode cX5_newDraft 10 = .ok (.aload_n 2, 1) := by decide +kernel
theorem dX5_newDraft_11 : decode cX5_newDraft 11 = .ok (.iload_n 1, 1) := by decide +kernel
theorem dX5_newDraft_12 : decode cX5_newDraft 12 = .ok (.invokevirtual 30, 3) := by decide +kernel
theorem dX5_newDraft_15 : decode cX5_newDraft 15 = .ok (.aload_n 2, 1) := by decide +kernel
theorem dX5_newDraft_16 : decode cX5_newDraft 16 = .ok (.areturn, 1) := by decide +kernel
theorem dX5_settleDraft_0 : decode cX5_settleDraft 0 = .ok (.aload_n 0, 1) := by decide +kernel
theorem dX5_settleDraft_1 : decode cX5_settleDraft 1 = .ok (.getfield 21, 3) := by decide +kernel
theorem dX5_settleDraft_4 : decode cX5_settleDraft 4 = .ok (.aload_n 0, 1) := by decide +kernel
theorem dX5_settleDraft_5 : decode cX5_settleDraft 5 = .ok (.getfield 11, 3) := by decide +kernel
theorem dX5_settleDraft_8 : decode cX5_settleDraft 8 = .ok (.aload_n 0, 1) := by decide +kernel
theorem dX5_settleDraft_9 : decode cX5_settleDraft 9 = .ok (.getfield 26, 3) := by decide +kernel
theorem dX5_settleDraft_12 : decode cX5_settleDraft 12 = .ok (.aaload, 1) := by decide +kernel
theorem dX5_settleDraft_13 : decode cX5_settleDraft 13 = .ok (.invokevirtual 34, 3) := by decide +kernel
theorem dX5_settleDraft_16 : decode cX5_settleDraft 16 = .ok (.lconst 0, 1) := by decide +kernel
theorem dX5_settleDraft_17 : decode cX5_settleDraft 17 = .ok (.lcmp, 1) := by decide +kernel
theorem dX5_settleDraft_18 : decode cX5_settleDraft 18 = .ok (.ifCond .le 19, 3) := by decide +kernel
theorem dX5_settleDraft_21 : decode cX5_settleDraft 21 = .ok (.aload_n 0, 1) := by decide +kernel
theorem dX5_settleDraft_22 : decode cX5_settleDraft 22 = .ok (.aload_n 0, 1) := by decide +kernel
theorem dX5_settleDraft_23 : decode cX5_settleDraft 23 = .ok (.getfield 11, 3) := by decide +kernel
theorem dX5_settleDraft_26 : decode cX5_settleDraft 26 = .ok (.aload_n 0, 1) := by decide +kernel
theorem dX5_settleDraft_27 : decode cX5_settleDraft 27 = .ok (.getfield 26, 3) := by decide +kernel
theorem dX5_settleDraft_30 : decode cX5_settleDraft 30 = .ok (.aaload, 1) := by decide +kernel
theorem dX5_settleDraft_31 : decode cX5_settleDraft 31 = .ok (.invokevirtual 40, 3) := by decide +kernel
theorem dX5_settleDraft_34 : decode cX5_settleDraft 34 = .ok (.ifCond .eq 5, 3) := by decide +kernel
theorem dX5_settleDraft_37 : decode cX5_settleDraft 37 = .ok (.iconst 1, 1) := by decide +kernel
theorem dX5_settleDraft_38 : decode cX5_settleDraft 38 = .ok (.ireturn, 1) := by decide +kernel
theorem dX5_settleDraft_39 : decode cX5_settleDraft 39 = .ok (.aload_n 0, 1) := by decide +kernel
theorem dX5_settleDraft_40 : decode cX5_settleDraft 40 = .ok (.getfield 26, 3) := by decide +kernel
theorem dX5_settleDraft_43 : decode cX5_settleDraft 43 = .ok (.bipush 40, 2) := by decide +kernel
theorem dX5_settleDraft_45 : decode cX5_settleDraft 45 = .ok (.if_icmp .lt 10, 3) := by decide +kernel
theorem dX5_settleDraft_48 : decode cX5_settleDraft 48 = .ok (.aload_n 0, 1) := by decide +kernel
theorem dX5_settleDraft_49 : decode cX5_settleDraft 49 = .ok (.iconst 0, 1) := by decide +kernel
theorem dX5_settleDraft_50 : decode cX5_settleDraft 50 = .ok (.putfield 17, 3) := by decide +kernel
theorem dX5_settleDraft_53 : decode cX5_settleDraft 53 = .ok (.iconst 0, 1) := by decide +kernel
theorem dX5_settleDraft_54 : decode cX5_settleDraft 54 = .ok (.ireturn, 1) := by decide +kernel
theorem dX5_settleDraft_55 : decode cX5_settleDraft 55 = .ok (.aload_n 0, 1) := by decide +kernel
theorem dX5_settleDraft_56 : decode cX5_settleDraft 56 = .ok (.dup, 1) := by decide +kernel
theorem dX5_settleDraft_57 : decode cX5_settleDraft 57 = .ok (.getfield 26, 3) := by decide +kernel
theorem dX5_settleDraft_60 : decode cX5_settleDraft 60 = .ok (.iconst 1, 1) := by decide +kernel
theorem dX5_settleDraft_61 : decode cX5_settleDraft 61 = .ok (.iadd, 1) := by decide +kernel
theorem dX5_settleDraft_62 : decode cX5_settleDraft 62 = .ok (.putfield 26, 3) := by decide +kernel
theorem dX5_settleDraft_65 : decode cX5_settleDraft 65 = .ok (.iconst 1, 1) := by decide +kernel
theorem dX5_settleDraft_66 : decode cX5_settleDraft 66 = .ok (.ireturn, 1) := by decide +kernel
theorem dX5_isToldAlready_0 : decode cX5_isToldAlready 0 = .ok (.iconst 0, 1) := by decide +kernel
theorem dX5_isToldAlready_1 : decode cX5_isToldAlready 1 = .ok (.istore_n 2, 1) := by decide +kernel
theorem dX5_isToldAlready_2 : decode cX5_isToldAlready 2 = .ok (.iload_n 2, 1) := by decide +kernel
theorem dX5_isToldAlready_3 : decode cX5_isToldAlready 3 = .ok (.aload_n 0, 1) := by decide +kernel
theorem dX5_isToldAlready_4 : decode cX5_isToldAlready 4 = .ok (.getfield 26, 3) := by decide +kernel
theorem dX5_isToldAlready_7 : decode cX5_isToldAlready 7 = .ok (.if_icmp .ge 31, 3) := by decide +kernel
theorem dX5_isToldAlready_10 : decode cX5_isToldAlready 10 = .ok (.aload_n 0, 1) := by decide +kernel
theorem dX5_isToldAlready_11 : decode cX5_isToldAlready 11 = .ok (.getfield 11, 3) := by decide +kernel
theorem dX5_isToldAlready_14 : decode cX5_isToldAlready 14 = .ok (.iload_n 2, 1) := by decide +kernel
theorem dX5_isToldAlready_15 : decode cX5_isToldAlready 15 = .ok (.aaload, 1) := by decide +kernel
theorem dX5_isToldAlready_16 : decode cX5_isToldAlready 16 = .ok (.aload_n 1, 1) := by decide +kernel
theorem dX5_isToldAlready_17 : decode cX5_isToldAlready 17 = .ok (.aload_n 0, 1) := by decide +kernel
theorem dX5_isToldAlready_18 : decode cX5_isToldAlready 18 = .ok (.getfield 21, 3) := by decide +kernel
theorem dX5_isToldAlready_21 : decode cX5_isToldAlready 21 = .ok (.getfield 44, 3) := by decide +kernel
theorem dX5_isToldAlready_24 : decode cX5_isToldAlready 24 = .ok (.invokevirtual 47, 3) := by decide +kernel
theorem dX5_isToldAlready_27 : decode cX5_isToldAlready 27 = .ok (.ifCond .eq 5, 3) := by decide +kernel
theorem dX5_isToldAlready_30 : decode cX5_isToldAlready 30 = .ok (.iconst 1, 1) := by decide +kernel
theorem dX5_isToldAlready_31 : decode cX5_isToldAlready 31 = .ok (.ireturn, 1) := by decide +kernel
theorem dX5_isToldAlready_32 : decode cX5_isToldAlready 32 = .ok (.iinc 2 1, 3) := by decide +kernel
theorem dX5_isToldAlready_35 : decode cX5_isToldAlready 35 = .ok (.goto (-33), 3) := by decide +kernel
theorem dX5_isToldAlready_38 : decode cX5_isToldAlready 38 = .ok (.iconst 0, 1) := by decide +kernel
theorem dX5_isToldAlready_39 : decode cX5_isToldAlready 39 = .ok (.ireturn, 1) := by decide +kernel
theorem dX5_ageAll_0 : decode cX5_ageAll 0 = .ok (.iconst 0, 1) := by decide +kernel
theorem dX5_ageAll_1 : decode cX5_ageAll 1 = .ok (.istore_n 1, 1) := by decide +kernel
theorem dX5_ageAll_2 : decode cX5_ageAll 2 = .ok (.aload_n 0, 1) := by decide +kernel
theorem dX5_ageAll_3 : decode cX5_ageAll 3 = .ok (.getfield 26, 3) := by decide +kernel
theorem dX5_ageAll_6 : decode cX5_ageAll 6 = .ok (.istore_n 2, 1) := by decide +kernel
theorem dX5_ageAll_7 : decode cX5_ageAll 7 = .ok (.iconst 0, 1) := by decide +kernel
theorem dX5_ageAll_8 : decode cX5_ageAll 8 = .ok (.istore_n 3, 1) := by decide +kernel
theorem dX5_ageAll_9 : decode cX5_ageAll 9 = .ok (.iload_n 3, 1) := by decide +kernel
theorem dX5_ageAll_10 : decode cX5_ageAll 10 = .ok (.iload_n 2, 1) := by decide +kernel
theorem dX5_ageAll_11 : decode cX5_ageAll 11 = .ok (.if_icmp .ge 82, 3) := by decide +kernel
theorem dX5_ageAll_14 : decode cX5_ageAll 14 = .ok (.aload_n 0, 1) := by decide +kernel
theorem dX5_ageAll_15 : decode cX5_ageAll 15 = .ok (.getfield 11, 3) := by decide +kernel
theorem dX5_ageAll_18 : decode cX5_ageAll 18 = .ok (.iload_n 3, 1) := by decide +kernel
theorem dX5_ageAll_19 : decode cX5_ageAll 19 = .ok (.aaload, 1) := by decide +kernel
theorem dX5_ageAll_20 : decode cX5_ageAll 20 = .ok (.astore 4, 2) := by decide +kernel
theorem dX5_ageAll_22 : decode cX5_ageAll 22 = .ok (.aload 4, 2) := by decide +kernel
theorem dX5_ageAll_24 : decode cX5_ageAll 24 = .ok (.aload_n 0, 1) := by decide +kernel
theorem dX5_ageAll_25 : decode cX5_ageAll 25 = .ok (.getfield 21, 3) := by decide +kernel
theorem dX5_ageAll_28 : decode cX5_ageAll 28 = .ok (.aload 4, 2) := by decide +kernel
theorem dX5_ageAll_30 : decode cX5_ageAll 30 = .ok (.invokevirtual 34, 3) := by decide +kernel
theorem dX5_ageAll_33 : decode cX5_ageAll 33 = .ok (.lconst 0, 1) := by decide +kernel
theorem dX5_ageAll_34 : decode cX5_ageAll 34 = .ok (.lcmp, 1) := by decide +kernel
theorem dX5_ageAll_35 : decode cX5_ageAll 35 = .ok (.ifCond .ge 13, 3) := by decide +kernel
theorem dX5_ageAll_38 : decode cX5_ageAll 38 = .ok (.aload 4, 2) := by decide +kernel
theorem dX5_ageAll_40 : decode cX5_ageAll 40 = .ok (.getfield 51, 3) := by decide +kernel
theorem dX5_ageAll_43 : decode cX5_ageAll 43 = .ok (.iconst 1, 1) := by decide +kernel
theorem dX5_ageAll_44 : decode cX5_ageAll 44 = .ok (.iadd, 1) := by decide +kernel
theorem dX5_ageAll_45 : decode cX5_ageAll 45 = .ok (.goto 4, 3) := by decide +kernel
theorem dX5_ageAll_48 : decode cX5_ageAll 48 = .ok (.iconst 0, 1) := by decide +kernel
theorem dX5_ageAll_49 : decode cX5_ageAll 49 = .ok (.putfield 51, 3) := by decide +kernel
theorem dX5_ageAll_52 : decode cX5_ageAll 52 = .ok (.aload 4, 2) := by decide +kernel
theorem dX5_ageAll_54 : decode cX5_ageAll 54 = .ok (.getfield 51, 3) := by decide +kernel
theorem dX5_ageAll_57 : decode cX5_ageAll 57 = .ok (.iconst 3, 1) := by decide +kernel
theorem dX5_ageAll_58 : decode cX5_ageAll 58 = .ok (.if_icmp .lt 6, 3) := by decide +kernel
theorem dX5_ageAll_61 : decode cX5_ageAll 61 = .ok (.goto 26, 3) := by decide +kernel
theorem dX5_ageAll_64 : decode cX5_ageAll 64 = .ok (.aload_n 0, 1) := by decide +kernel
theorem dX5_ageAll_65 : decode cX5_ageAll 65 = .ok (.getfield 11, 3) := by decide +kernel
theorem dX5_ageAll_68 : decode cX5_ageAll 68 = .ok (.iload_n 3, 1) := by decide +kernel
theorem dX5_ageAll_69 : decode cX5_ageAll 69 = .ok (.aload_n 0, 1) := by decide +kernel
theorem dX5_ageAll_70 : decode cX5_ageAll 70 = .ok (.getfield 11, 3) := by decide +kernel
theorem dX5_ageAll_73 : decode cX5_ageAll 73 = .ok (.iload_n 1, 1) := by decide +kernel
theorem dX5_ageAll_74 : decode cX5_ageAll 74 = .ok (.aaload, 1) := by decide +kernel
theorem dX5_ageAll_75 : decode cX5_ageAll 75 = .ok (.aastore, 1) := by decide +kernel
theorem dX5_ageAll_76 : decode cX5_ageAll 76 = .ok (.aload_n 0, 1) := by decide +kernel
theorem dX5_ageAll_77 : decode cX5_ageAll 77 = .ok (.getfield 11, 3) := by decide +kernel
theorem dX5_ageAll_80 : decode cX5_ageAll 80 = .ok (.iload_n 1, 1) := by decide +kernel
theorem dX5_ageAll_81 : decode cX5_ageAll 81 = .ok (.aload 4, 2) := by decide +kernel
theorem dX5_ageAll_83 : decode cX5_ageAll 83 = .ok (.aastore, 1) := by decide +kernel
theorem dX5_ageAll_84 : decode cX5_ageAll 84 = .ok (.iinc 1 1, 3) := by decide +kernel
theorem dX5_ageAll_87 : decode cX5_ageAll 87 = .ok (.iinc 3 1, 3) := by decide +kernel
theorem dX5_ageAll_90 : decode cX5_ageAll 90 = .ok (.goto (-81), 3) := by decide +kernel
theorem dX5_ageAll_93 : decode cX5_ageAll 93 = .ok (.aload_n 0, 1) := by decide +kernel
theorem dX5_ageAll_94 : decode cX5_ageAll 94 = .ok (.iload_n 1, 1) := by decide +kernel
theorem dX5_ageAll_95 : decode cX5_ageAll 95 = .ok (.putfield 26, 3) := by decide +kernel
theorem dX5_ageAll_98 : decode cX5_ageAll 98 = .ok (.iload_n 2, 1) := by decide +kernel
theorem dX5_ageAll_99 : decode cX5_ageAll 99 = .ok (.iload_n 1, 1) := by decide +kernel
theorem dX5_ageAll_100 : decode cX5_ageAll 100 = .ok (.isub, 1) := by decide +kernel
theorem dX5_ageAll_101 : decode cX5_ageAll 101 = .ok (.ireturn, 1) := by decide +kernel
