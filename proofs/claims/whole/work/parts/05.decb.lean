theorem dX6_init_0 : decode cX6_init 0 = .ok (.aload_n 0, 1) := by decide +kernel
theorem dX6_init_1 : decode cX6_init 1 = .ok (.invokespecial 3, 3) := by decide +kernel
theorem dX6_init_4 : decode cX6_init 4 = .ok (.aload_n 0, 1) := by decide +kernel
theorem dX6_init_5 : decode cX6_init 5 = .ok (.bipush 8, 2) := by decide +kernel
theorem dX6_init_7 : decode cX6_init 7 = .ok (.newarray .int, 2) := by decide +kernel
theorem dX6_init_9 : decode cX6_init 9 = .ok (.putfield 9, 3) := by decide +kernel
theorem dX6_init_12 : decode cX6_init 12 = .ok (.aload_n 0, 1) := by decide +kernel
theorem dX6_init_13 : decode cX6_init 13 = .ok (.bipush 8, 2) := by decide +kernel
theorem dX6_init_15 : decode cX6_init 15 = .ok (.newarray .int, 2) := by decide +kernel
theorem dX6_init_17 : decode cX6_init 17 = .ok (.putfield 15, 3) := by decide +kernel
theorem dX6_init_20 : decode cX6_init 20 = .ok (.aload_n 0, 1) := by decide +kernel
theorem dX6_init_21 : decode cX6_init 21 = .ok (.bipush 8, 2) := by decide +kernel
theorem dX6_init_23 : decode cX6_init 23 = .ok (.newarray .long, 2) := by decide +kernel
theorem dX6_init_25 : decode cX6_init 25 = .ok (.putfield 18, 3) := by decide +kernel
theorem dX6_init_28 : decode cX6_init 28 = .ok (.aload_n 0, 1) := by decide +kernel
theorem dX6_init_29 : decode cX6_init 29 = .ok (.bipush 10, 2) := by decide +kernel
theorem dX6_init_31 : decode cX6_init 31 = .ok (.bipush 8, 2) := by decide +kernel
theorem dX6_init_33 : decode cX6_init 33 = .ok (.multianewarray 22 2, 4) := by decide +kernel
theorem dX6_init_37 : decode cX6_init 37 = .ok (.putfield 24, 3) := by decide +kernel
theorem dX6_init_40 : decode cX6_init 40 = .ok (.aload_n 0, 1) := by decide +kernel
theorem dX6_init_41 : decode cX6_init 41 = .ok (.bipush 10, 2) := by decide +kernel
theorem dX6_init_43 : decode cX6_init 43 = .ok (.newarray .int, 2) := by decide +kernel
theorem dX6_init_45 : decode cX6_init 45 = .ok (.putfield 27, 3) := by decide +kernel
theorem dX6_init_48 : decode cX6_init 48 = .ok (.return_, 1) := by decide +kernel
theorem dX6_hasName_0 : decode cX6_hasName 0 = .ok (.iload_n 1, 1) := by decide +kernel
theorem dX6_hasName_1 : decode cX6_hasName 1 = .ok (.ifCond .lt 15, 3) := by decide +kernel
theorem dX6_hasName_4 : decode cX6_hasName 4 = .ok (.iload_n 1, 1) := by decide +kernel
theorem dX6_hasName_5 : decode cX6_hasName 5 = .ok (.aload_n 0, 1) := by decide +kernel
theorem dX6_hasName_6 : decode cX6_hasName 6 = .ok (.getfield 30, 3) := by decide +kernel
theorem dX6_hasName_9 : decode cX6_hasName 9 = .ok (.if_icmp .ge 7, 3) := by decide +kernel
theorem dX6_hasName_12 : decode cX6_hasName 12 = .ok (.iconst 1, 1) := by decide +kernel
theorem dX6_hasName_13 : decode cX6_hasName 13 = .ok (.goto 4, 3) := by decide +kernel
theorem dX6_hasName_16 : decode cX6_hasName 16 = .ok (.iconst 0, 1) := by decide +kernel
theorem dX6_hasName_17 : decode cX6_hasName 17 = .ok (.ireturn, 1) := by decide +kernel
theorem dX6_hasRow_0 : decode cX6_hasRow 0 = .ok (.iload_n 1, 1) := by decide +kernel
theorem dX6_hasRow_1 : decode cX6_hasRow 1 = .ok (.ifCond .lt 15, 3) := by decide +kernel
theorem dX6_hasRow_4 : decode cX6_hasRow 4 = .ok (.iload_n 1, 1) := by decide +kernel
theorem dX6_hasRow_5 : decode cX6_hasRow 5 = .ok (.aload_n 0, 1) := by decide +kernel
theorem dX6_hasRow_6 : decode cX6_hasRow 6 = .ok (.getfield 34, 3) := by decide +kernel
theorem dX6_hasRow_9 : decode cX6_hasRow 9 = .ok (.if_icmp .ge 7, 3) := by decide +kernel
theorem dX6_hasRow_12 : decode cX6_hasRow 12 = .ok (.iconst 1, 1) := by decide +kernel
theorem dX6_hasRow_13 : decode cX6_hasRow 13 = .ok (.goto 4, 3) := by decide +kernel
theorem dX6_hasRow_16 : decode cX6_hasRow 16 = .ok (.iconst 0, 1) := by decide +kernel
theorem dX6_hasRow_17 : decode cX6_hasRow 17 = .ok (.ireturn, 1) := by decide +kernel
theorem dX6_addName_0 : decode cX6_addName 0 = .ok (.aload_n 0, 1) := by decide +kernel
theorem dX6_addName_1 : decode cX6_addName 1 = .ok (.getfield 9, 3) := by decide +kernel
theorem dX6_addName_4 : decode cX6_addName 4 = .ok (.aload_n 0, 1) := by decide +kernel
theorem dX6_addName_5 : decode cX6_addName 5 = .ok (.getfield 30, 3) := by decide +kernel
theorem dX6_addName_8 : decode cX6_addName 8 = .ok (.iload_n 1, 1) := by decide +kernel
theorem dX6_addName_9 : decode cX6_addName 9 = .ok (.iastore, 1) := by decide +kernel
theorem dX6_addName_10 : decode cX6_addName 10 = .ok (.aload_n 0, 1) := by decide +kernel
theorem dX6_addName_11 : decode cX6_addName 11 = .ok (.getfield 15, 3) := by decide +kernel
theorem dX6_addName_14 : decode cX6_addName 14 = .ok (.aload_n 0, 1) := by decide +kernel
theorem dX6_addName_15 : decode cX6_addName 15 = .ok (.getfield 30, 3) := by decide +kernel
theorem dX6_addName_18 : decode cX6_addName 18 = .ok (.iload_n 2, 1) := by decide +kernel
theorem dX6_addName_19 : decode cX6_addName 19 = .ok (.iastore, 1) := by decide +kernel
theorem dX6_addName_20 : decode cX6_addName 20 = .ok (.aload_n 0, 1) := by decide +kernel
theorem dX6_addName_21 : decode cX6_addName 21 = .ok (.getfield 18, 3) := by decide +kernel
theorem dX6_addName_24 : decode cX6_addName 24 = .ok (.aload_n 0, 1) := by decide +kernel
theorem dX6_addName_25 : decode cX6_addName 25 = .ok (.getfield 30, 3) := by decide +kernel
theorem dX6_addName_28 : decode cX6_addName 28 = .ok (.lconst 0, 1) := by decide +kernel
theorem dX6_addName_29 : decode cX6_addName 29 = .ok (.lastore, 1) := by decide +kernel
theorem dX6_addName_30 : decode cX6_addName 30 = .ok (.aload_n 0, 1) := by decide +kernel
theorem dX6_addName_31 : decode cX6_addName 31 = .ok (.dup, 1) := by decide +kernel
theorem dX6_addName_32 : decode cX6_addName 32 = .ok (.getfield 30, 3) := by decide +kernel
theorem dX6_addName_35 : decode cX6_addName 35 = .ok (.dup_x1, 1) := by decide +kernel
theorem dX6_addName_36 : decode cX6_addName 36 = .ok (.iconst 1, 1) := by decide +kernel
theorem dX6_addName_37 : decode cX6_addName 37 = .ok (.iadd, 1) := by decide +kernel
theorem dX6_addName_38 : decode cX6_addName 38 = .ok (.putfield 30, 3) := by decide +kernel
theorem dX6_addName_41 : decode cX6_addName 41 = .ok (.ireturn, 1) := by decide +kernel
theorem dX6_addRow_0 : decode cX6_addRow 0 = .ok (.aload_n 0, 1) := by decide +kernel
theorem dX6_addRow_1 : decode cX6_addRow 1 = .ok (.getfield 27, 3) := by decide +kernel
theorem dX6_addRow_4 : decode cX6_addRow 4 = .ok (.aload_n 0, 1) := by decide +kernel
theorem dX6_addRow_5 : decode cX6_addRow 5 = .ok (.getfield 34, 3) := by decide +kernel
theorem dX6_addRow_8 : decode cX6_addRow 8 = .ok (.iload_n 1, 1) := by decide +kernel
theorem dX6_addRow_9 : decode cX6_addRow 9 = .ok (.iastore, 1) := by decide +kernel
theorem dX6_addRow_10 : decode cX6_addRow 10 = .ok (.aload_n 0, 1) := by decide +kernel
theorem dX6_addRow_11 : decode cX6_addRow 11 = .ok (.getfield 24, 3) := by decide +kernel
theorem dX6_addRow_14 : decode cX6_addRow 14 = .ok (.aload_n 0, 1) := by decide +kernel
theorem dX6_addRow_15 : decode cX6_addRow 15 = .ok (.getfield 34, 3) := by decide +kernel
theorem dX6_addRow_18 : decode cX6_addRow 18 = .ok (.aaload, 1) := by decide +kernel
theorem dX6_addRow_19 : decode cX6_addRow 19 = .ok (.iconst 0, 1) := by decide +kernel
theorem dX6_addRow_20 : decode cX6_addRow 20 = .ok (.invokestatic 37, 3) := by decide +kernel
theorem dX6_addRow_23 : decode cX6_addRow 23 = .ok (.aload_n 0, 1) := by decide +kernel
theorem dX6_addRow_24 : decode cX6_addRow 24 = .ok (.dup, 1) := by decide +kernel
theorem dX6_addRow_25 : decode cX6_addRow 25 = .ok (.getfield 34, 3) := by decide +kernel
theorem dX6_addRow_28 : decode cX6_addRow 28 = .ok (.dup_x1, 1) := by decide +kernel
theorem dX6_addRow_29 : decode cX6_addRow 29 = .ok (.iconst 1, 1) := by decide +kernel
theorem dX6_addRow_30 : decode cX6_addRow 30 = .ok (.iadd, 1) := by decide +kernel
theorem dX6_addRow_31 : decode cX6_addRow 31 = .ok (.putfield 34, 3) := by decide +kernel
theorem dX6_addRow_34 : decode cX6_addRow 34 = .ok (.ireturn, 1) := by decide +kernel
theorem dX6_isBinary_0 : decode cX6_isBinary 0 = .ok (.aload_n 0, 1) := by decide +kernel
theorem dX6_isBinary_1 : decode cX6_isBinary 1 = .ok (.getfield 9, 3) := by decide +kernel
theorem dX6_isBinary_4 : decode cX6_isBinary 4 = .ok (.iload_n 1, 1) := by decide +kernel
theorem dX6_isBinary_5 : decode cX6_isBinary 5 = .ok (.iaload, 1) := by decide +kernel
theorem dX6_isBinary_6 : decode cX6_isBinary 6 = .ok (.ifCond .ne 17, 3) := by decide +kernel
theorem dX6_isBinary_9 : decode cX6_isBinary 9 = .ok (.aload_n 0, 1) := by decide +kernel
theorem dX6_isBinary_10 : decode cX6_isBinary 10 = .ok (.getfield 15, 3) := by decide +kernel
theorem dX6_isBinary_13 : decode cX6_isBinary 13 = .ok (.iload_n 1, 1) := by decide +kernel
theorem dX6_isBinary_14 : decode cX6_isBinary 14 = .ok (.iaload, 1) := by decide +kernel
theorem dX6_isBinary_15 : decode cX6_isBinary 15 = .ok (.iconst 1, 1) := by decide +kernel
theorem dX6_isBinary_16 : decode cX6_isBinary 16 = .ok (.if_icmp .ne 7, 3) := by decide +kernel
theorem dX6_isBinary_19 : decode cX6_isBinary 19 = .ok (.iconst 1, 1) := by decide +kernel
theorem dX6_isBinary_20 : decode cX6_isBinary 20 = .ok (.goto 4, 3) := by decide +kernel
theorem dX6_isBinary_23 : decode cX6_isBinary 23 = .ok (.iconst 0, 1) := by decide +kernel
theorem dX6_isBinary_24 : decode cX6_isBinary 24 = .ok (.ireturn, 1) := by decide +kernel
theorem dX6_least_0 : decode cX6_least 0 = .ok (.aload_n 0, 1) := by decide +kernel
theorem dX6_least_1 : decode cX6_least 1 = .ok (.getfield 24, 3) := by decide +kernel
theorem dX6_least_4 : decode cX6_least 4 = .ok (.iload_n 1, 1) := by decide +kernel
theorem dX6_least_5 : decode cX6_least 5 = .ok (.aaload, 1) := by decide +kernel
theorem dX6_least_6 : decode cX6_least 6 = .ok (.iload_n 2, 1) := by decide +kernel
theorem dX6_least_7 : decode cX6_least 7 = .ok (.iaload, 1) := by decide +kernel
theorem dX6_least_8 : decode cX6_least 8 = .ok (.aload_n 0, 1) := by decide +kernel
theorem dX6_least_9 : decode cX6_least 9 = .ok (.getfield 24, 3) := by decide +kernel
theorem dX6_least_12 : decode cX6_least 12 = .ok (.iload_n 1, 1) := by decide +kernel
theorem dX6_least_13 : decode cX6_least 13 = .ok (.aaload, 1) := by decide +kernel
theorem dX6_least_14 : decode cX6_least 14 = .ok (.iload_n 2, 1) := by decide +kernel
theorem dX6_least_15 : decode cX6_least 15 = .ok (.iaload, 1) := by decide +kernel
theorem dX6_least_16 : decode cX6_least 16 = .ok (.ifCond .ge 12, 3) := by decide +kernel
theorem dX6_least_19 : decode cX6_least 19 = .ok (.aload_n 0, 1) := by decide +kernel
theorem dX6_least_20 : decode cX6_least 20 = .ok (.getfield 15, 3) := by decide +kernel
theorem dX6_least_23 : decode cX6_least 23 = .ok (.iload_n 2, 1) := by decide +kernel
theorem dX6_least_24 : decode cX6_least 24 = .ok (.iaload, 1) := by decide +kernel
theorem dX6_least_25 : decode cX6_least 25 = .ok (.goto 9, 3) := by decide +kernel
theorem dX6_least_28 : decode cX6_least 28 = .ok (.aload_n 0, 1) := by decide +kernel
theorem dX6_least_29 : decode cX6_least 29 = .ok (.getfield 9, 3) := by decide +kernel
theorem dX6_least_32 : decode cX6_least 32 = .ok (.iload_n 2, 1) := by decide +kernel
theorem dX6_least_33 : decode cX6_least 33 = .ok (.iaload, 1) := by decide +kernel
theorem dX6_least_34 : decode cX6_least 34 = .ok (.imul, 1) := by decide +kernel
theorem dX6_least_35 : decode cX6_least 35 = .ok (.ireturn, 1) := by decide +kernel
theorem dX6_clashAnywhere_0 : decode cX6_clashAnywhere 0 = .ok (.iconst 0, 1) := by decide +kernel
theorem dX6_clashAnywhere_1 : decode cX6_clashAnywhere 1 = .ok (.istore_n 3, 1) := by decide +kernel
theorem dX6_clashAnywhere_2 : decode cX6_clashAnywhere 2 = .ok (.iload_n 3, 1) := by decide +kernel
theorem dX6_clashAnywhere_3 : decode cX6_clashAnywhere 3 = .ok (.aload_n 0, 1) := by decide +kernel
theorem dX6_clashAnywhere_4 : decode cX6_clashAnywhere 4 = .ok (.getfield 34, 3) := by decide +kernel
theorem dX6_clashAnywhere_7 : decode cX6_clashAnywhere 7 = .ok (.if_icmp .ge 21, 3) := by decide +kernel
theorem dX6_clashAnywhere_10 : decode cX6_clashAnywhere 10 = .ok (.aload_n 0, 1) := by decide +kernel
theorem dX6_clashAnywhere_11 : decode cX6_clashAnywhere 11 = .ok (.iload_n 3, 1) := by decide +kernel
theorem dX6_clashAnywhere_12 : decode cX6_clashAnywhere 12 = .ok (.iload_n 1, 1) := by decide +kernel
theorem dX6_clashAnywhere_13 : decode cX6_clashAnywhere 13 = .ok (.iload_n 2, 1) := by decide +kernel
theorem dX6_clashAnywhere_14 : decode cX6_clashAnywhere 14 = .ok (.invokevirtual 43, 3) := by decide +kernel
theorem dX6_clashAnywhere_17 : decode cX6_clashAnywhere 17 = .ok (.ifCond .eq 5, 3) := by decide +kernel
theorem dX6_clashAnywhere_20 : decode cX6_clashAnywhere 20 = .ok (.iconst 1, 1) := by decide +kernel
theorem dX6_clashAnywhere_21 : decode cX6_clashAnywhere 21 = .ok (.ireturn, 1) := by decide +kernel
theorem dX6_clashAnywhere_22 : decode cX6_clashAnywhere 22 = .ok (.iinc 3 1, 3) := by decide +kernel
theorem dX6_clashAnywhere_25 : decode cX6_clashAnywhere 25 = .ok (.goto (-23), 3) := by decide +kernel
theorem dX6_clashAnywhere_28 : decode cX6_clashAnywhere 28 = .ok (.iconst 0, 1) := by decide +kernel
theorem dX6_clashAnywhere_29 : decode cX6_clashAnywhere 29 = .ok (.ireturn, 1) := by decide +kernel
theorem dX6_clashIn_0 : decode cX6_clashIn 0 = .ok (.aload_n 0, 1) := by decide +kernel
theorem dX6_clashIn_1 : decode cX6_clashIn 1 = .ok (.getfield 24, 3) := by decide +kernel
theorem dX6_clashIn_4 : decode cX6_clashIn 4 = .ok (.iload_n 1, 1) := by decide +kernel
theorem dX6_clashIn_5 : decode cX6_clashIn 5 = .ok (.aaload, 1) := by decide +kernel
theorem dX6_clashIn_6 : decode cX6_clashIn 6 = .ok (.iload_n 2, 1) := by decide +kernel
theorem dX6_clashIn_7 : decode cX6_clashIn 7 = .ok (.iaload, 1) := by decide +kernel
theorem dX6_clashIn_8 : decode cX6_clashIn 8 = .ok (.aload_n 0, 1) := by decide +kernel
theorem dX6_clashIn_9 : decode cX6_clashIn 9 = .ok (.getfield 24, 3) := by decide +kernel
theorem dX6_clashIn_12 : decode cX6_clashIn 12 = .ok (.iload_n 1, 1) := by decide +kernel
theorem dX6_clashIn_13 : decode cX6_clashIn 13 = .ok (.aaload, 1) := by decide +kernel
theorem dX6_clashIn_14 : decode cX6_clashIn 14 = .ok (.iload_n 3, 1) := by decide +kernel
theorem dX6_clashIn_15 : decode cX6_clashIn 15 = .ok (.iaload, 1) := by decide +kernel
theorem dX6_clashIn_16 : decode cX6_clashIn 16 = .ok (.iadd, 1) := by decide +kernel
theorem dX6_clashIn_17 : decode cX6_clashIn 17 = .ok (.istore 4, 2) := by decide +kernel
theorem dX6_clashIn_19 : decode cX6_clashIn 19 = .ok (.iconst 0, 1) := by decide +kernel
theorem dX6_clashIn_20 : decode cX6_clashIn 20 = .ok (.istore 5, 2) := by decide +kernel
theorem dX6_clashIn_22 : decode cX6_clashIn 22 = .ok (.iload 5, 2) := by decide +kernel
theorem dX6_clashIn_24 : decode cX6_clashIn 24 = .ok (.aload_n 0, 1) := by decide +kernel
theorem dX6_clashIn_25 : decode cX6_clashIn 25 = .ok (.getfield 30, 3) := by decide +kernel
theorem dX6_clashIn_28 : decode cX6_clashIn 28 = .ok (.if_icmp .ge 33, 3) := by decide +kernel
theorem dX6_clashIn_31 : decode cX6_clashIn 31 = .ok (.iload 5, 2) := by decide +kernel
theorem dX6_clashIn_33 : decode cX6_clashIn 33 = .ok (.iload_n 2, 1) := by decide +kernel
theorem dX6_clashIn_34 : decode cX6_clashIn 34 = .ok (.if_icmp .eq 21, 3) := by decide +kernel
theorem dX6_clashIn_37 : decode cX6_clashIn 37 = .ok (.iload 5, 2) := by decide +kernel
theorem dX6_clashIn_39 : decode cX6_clashIn 39 = .ok (.iload_n 3, 1) := by decide +kernel
theorem dX6_clashIn_40 : decode cX6_clashIn 40 = .ok (.if_icmp .eq 15, 3) := by decide +kernel
theorem dX6_clashIn_43 : decode cX6_clashIn 43 = .ok (.iload 4, 2) := by decide +kernel
theorem dX6_clashIn_45 : decode cX6_clashIn 45 = .ok (.aload_n 0, 1) := by decide +kernel
theorem dX6_clashIn_46 : decode cX6_clashIn 46 = .ok (.iload_n 1, 1) := by decide +kernel
theorem dX6_clashIn_47 : decode cX6_clashIn 47 = .ok (.iload 5, 2) := by decide +kernel
theorem dX6_clashIn_49 : decode cX6_clashIn 49 = .ok (.invokevirtual 47, 3) := by decide +kernel
theorem dX6_clashIn_52 : decode cX6_clashIn 52 = .ok (.iadd, 1) := by decide +kernel
theorem dX6_clashIn_53 : decode cX6_clashIn 53 = .ok (.istore 4, 2) := by decide +kernel
theorem dX6_clashIn_55 : decode cX6_clashIn 55 = .ok (.iinc 5 1, 3) := by decide +kernel
theorem dX6_clashIn_58 : decode cX6_clashIn 58 = .ok (.goto (-36), 3) := by decide +kernel
theorem dX6_clashIn_61 : decode cX6_clashIn 61 = .ok (.iload 4, 2) := by decide +kernel
theorem dX6_clashIn_63 : decode cX6_clashIn 63 = .ok (.aload_n 0, 1) := by decide +kernel
theorem dX6_clashIn_64 : decode cX6_clashIn 64 = .ok (.getfield 27, 3) := by decide +kernel
theorem dX6_clashIn_67 : decode cX6_clashIn 67 = .ok (.iload_n 1, 1) := by decide +kernel
theorem dX6_clashIn_68 : decode cX6_clashIn 68 = .ok (.iaload, 1) := by decide +kernel
theorem dX6_clashIn_69 : decode cX6_clashIn 69 = .ok (.if_icmp .le 7, 3) := by decide +kernel
theorem dX6_clashIn_72 : decode cX6_clashIn 72 = .ok (.iconst 1, 1) := by decide +kernel
theorem dX6_clashIn_73 : decode cX6_clashIn 73 = .ok (.goto 4, 3) := by decide +kernel
theorem dX6_clashIn_76 : decode cX6_clashIn 76 = .ok (.iconst 0, 1) := by decide +kernel
theorem dX6_clashIn_77 : decode cX6_clashIn 77 = .ok (.ireturn, 1) := by decide +kernel
theorem dX6_choices_0 : decode cX6_choices 0 = .ok (.lconst 1, 1) := by decide +kernel
theorem dX6_choices_1 : decode cX6_choices 1 = .ok (.lstore_n 1, 1) := by decide +kernel
theorem dX6_choices_2 : decode cX6_choices 2 = .ok (.iconst 0, 1) := by decide +kernel
theorem dX6_choices_3 : decode cX6_choices 3 = .ok (.istore_n 3, 1) := by decide +kernel
theorem dX6_choices_4 : decode cX6_choices 4 = .ok (.iload_n 3, 1) := by decide +kernel
theorem dX6_choices_5 : decode cX6_choices 5 = .ok (.aload_n 0, 1) := by decide +kernel
theorem dX6_choices_6 : decode cX6_choices 6 = .ok (.getfield 30, 3) := by decide +kernel
theorem dX6_choices_9 : decode cX6_choices 9 = .ok (.if_icmp .ge 28, 3) := by decide +kernel
theorem dX6_choices_12 : decode cX6_choices 12 = .ok (.lload_n 1, 1) := by decide +kernel
theorem dX6_choices_13 : decode cX6_choices 13 = .ok (.aload_n 0, 1) := by decide +kernel
theorem dX6_choices_14 : decode cX6_choices 14 = .ok (.getfield 15, 3) := by decide +kernel
theorem dX6_choices_17 : decode cX6_choices 17 = .ok (.iload_n 3, 1) := by decide +kernel
theorem dX6_choices_18 : decode cX6_choices 18 = .ok (.iaload, 1) := by decide +kernel
theorem dX6_choices_19 : decode cX6_choices 19 = .ok (.aload_n 0, 1) := by decide +kernel
theorem dX6_choices_20 : decode cX6_choices 20 = .ok (.getfield 9, 3) := by decide +kernel
theorem dX6_choices_23 : decode cX6_choices 23 = .ok (.iload_n 3, 1) := by decide +kernel
theorem dX6_choices_24 : decode cX6_choices 24 = .ok (.iaload, 1) := by decide +kernel
theorem dX6_choices_25 : decode cX6_choices 25 = .ok (.isub, 1) := by decide +kernel
theorem dX6_choices_26 : decode cX6_choices 26 = .ok (.iconst 1, 1) := by decide +kernel
theorem dX6_choices_27 : decode cX6_choices 27 = .ok (.iadd, 1) := by decide +kernel
theorem dX6_choices_28 : decode cX6_choices 28 = .ok (.i2l, 1) := by decide +kernel
theorem dX6_choices_29 : decode cX6_choices 29 = .ok (.lmul, 1) := by decide +kernel
theorem dX6_choices_30 : decode cX6_choices 30 = .ok (.lstore_n 1, 1) := by decide +kernel
theorem dX6_choices_31 : decode cX6_choices 31 = .ok (.iinc 3 1, 3) := by decide +kernel
theorem dX6_choices_34 : decode cX6_choices 34 = .ok (.goto (-30), 3) := by decide +kernel
theorem dX6_choices_37 : decode cX6_choices 37 = .ok (.lload_n 1, 1) := by decide +kernel
theorem dX6_choices_38 : decode cX6_choices 38 = .ok (.lreturn, 1) := by decide +kernel
theorem dX6_scaledStrength_0 : decode cX6_scaledStrength 0 = .ok (.lconst 0, 1) := by decide +kernel
theorem dX6_scaledStrength_1 : decode cX6_scaledStrength 1 = .ok (.lstore_n 2, 1) := by decide +kernel
theorem dX6_scaledStrength_2 : decode cX6_scaledStrength 2 = .ok (.iconst 0, 1) := by decide +kernel
theorem dX6_scaledStrength_3 : decode cX6_scaledStrength 3 = .ok (.istore 4, 2) := by decide +kernel
theorem dX6_scaledStrength_5 : decode cX6_scaledStrength 5 = .ok (.iload 4, 2) := by decide +kernel
theorem dX6_scaledStrength_7 : decode cX6_scaledStrength 7 = .ok (.aload_n 0, 1) := by decide +kernel
theorem dX6_scaledStrength_8 : decode cX6_scaledStrength 8 = .ok (.getfield 30, 3) := by decide +kernel
theorem dX6_scaledStrength_11 : decode cX6_scaledStrength 11 = .ok (.if_icmp .ge 28, 3) := by decide +kernel
theorem dX6_scaledStrength_14 : decode cX6_scaledStrength 14 = .ok (.lload_n 2, 1) := by decide +kernel
theorem dX6_scaledStrength_15 : decode cX6_scaledStrength 15 = .ok (.aload_n 1, 1) := by decide +kernel
theorem dX6_scaledStrength_16 : decode cX6_scaledStrength 16 = .ok (.getfield 51, 3) := by decide +kernel
theorem dX6_scaledStrength_19 : decode cX6_scaledStrength 19 = .ok (.iload 4, 2) := by decide +kernel
theorem dX6_scaledStrength_21 : decode cX6_scaledStrength 21 = .ok (.iaload, 1) := by decide +kernel
theorem dX6_scaledStrength_22 : decode cX6_scaledStrength 22 = .ok (.i2l, 1) := by decide +kernel
theorem dX6_scaledStrength_23 : decode cX6_scaledStrength 23 = .ok (.aload_n 0, 1) := by decide +kernel
theorem dX6_scaledStrength_24 : decode cX6_scaledStrength 24 = .ok (.getfield 18, 3) := by decide +kernel
theorem dX6_scaledStrength_27 : decode cX6_scaledStrength 27 = .ok (.iload 4, 2) := by decide +kernel
theorem dX6_scaledStrength_29 : decode cX6_scaledStrength 29 = .ok (.laload, 1) := by decide +kernel
theorem dX6_scaledStrength_30 : decode cX6_scaledStrength 30 = .ok (.lmul, 1) := by decide +kernel
theorem dX6_scaledStrength_31 : decode cX6_scaledStrength 31 = .ok (.ladd, 1) := by decide +kernel
theorem dX6_scaledStrength_32 : decode cX6_scaledStrength 32 = .ok (.lstore_n 2, 1) := by decide +kernel
theorem dX6_scaledStrength_33 : decode cX6_scaledStrength 33 = .ok (.iinc 4 1, 3) := by decide +kernel
theorem dX6_scaledStrength_36 : decode cX6_scaledStrength 36 = .ok (.goto (-31), 3) := by decide +kernel
theorem dX6_scaledStrength_39 : decode cX6_scaledStrength 39 = .ok (.lload_n 2, 1) := by decide +kernel
theorem dX6_scaledStrength_40 : decode cX6_scaledStrength 40 = .ok (.aload_n 1, 1) := by decide +kernel
theorem dX6_scaledStrength_41 : decode cX6_scaledStrength 41 = .ok (.getfield 55, 3) := by decide +kernel
theorem dX6_scaledStrength_44 : decode cX6_scaledStrength 44 = .ok (.i2l, 1) := by decide +kernel
theorem dX6_scaledStrength_45 : decode cX6_scaledStrength 45 = .ok (.ldc2_w 58, 3) := by decide +kernel
theorem dX6_scaledStrength_48 : decode cX6_scaledStrength 48 = .ok (.lmul, 1) := by decide +kernel
theorem dX6_scaledStrength_49 : decode cX6_scaledStrength 49 = .ok (.lsub, 1) := by decide +kernel
theorem dX6_scaledStrength_50 : decode cX6_scaledStrength 50 = .ok (.lreturn, 1) := by decide +kernel
theorem dX7_init_0 : decode cX7_init 0 = .ok (.aload_n 0, 1) := by decide +kernel
theorem dX7_init_1 : decode cX7_init 1 = .ok (.invokespecial 3, 3) := by decide +kernel
theorem dX7_init_4 : decode cX7_init 4 = .ok (.aload_n 0, 1) := by decide +kernel
theorem dX7_init_5 : decode cX7_init 5 = .ok (.bipush 8, 2) := by decide +kernel
theorem dX7_init_7 : decode cX7_init 7 = .ok (.newarray .int, 2) := by decide +kernel
theorem dX7_init_9 : decode cX7_init 9 = .ok (.putfield 9, 3) := by decide +kernel
theorem dX7_init_12 : decode cX7_init 12 = .ok (.aload_n 0, 1) := by decide +kernel
theorem dX7_init_13 : decode cX7_init 13 = .ok (.aload_n 1, 1) := by decide +kernel
theorem dX7_init_14 : decode cX7_init 14 = .ok (.putfield 15, 3) := by decide +kernel
theorem dX7_init_17 : decode cX7_init 17 = .ok (.aload_n 0, 1) := by decide +kernel
theorem dX7_init_18 : decode cX7_init 18 = .ok (.aload_n 2, 1) := by decide +kernel
theorem dX7_init_19 : decode cX7_init 19 = .ok (.putfield 19, 3) := by decide +kernel
theorem dX7_init_22 : decode cX7_init 22 = .ok (.return_, 1) := by decide +kernel
theorem dX7_seekHalves_0 : decode cX7_seekHalves 0 = .ok (.aload_n 0, 1) := by decide +kernel
theorem dX7_seekHalves_1 : decode cX7_seekHalves 1 = .ok (.getfield 9, 3) := by decide +kernel
theorem dX7_seekHalves_4 : decode cX7_seekHalves 4 = .ok (.iconst 0, 1) := by decide +kernel
theorem dX7_seekHalves_5 : decode cX7_seekHalves 5 = .ok (.invokestatic 23, 3) := by decide +kernel
theorem dX7_seekHalves_8 : decode cX7_seekHalves 8 = .ok (.aload_n 0, 1) := by decide +kernel
theorem dX7_seekHalves_9 : decode cX7_seekHalves 9 = .ok (.iconst 0, 1) := by decide +kernel
theorem dX7_seekHalves_10 : decode cX7_seekHalves 10 = .ok (.putfield 29, 3) := by decide +kernel
theorem dX7_seekHalves_13 : decode cX7_seekHalves 13 = .ok (.iconst 1, 1) := by decide +kernel
theorem dX7_seekHalves_14 : decode cX7_seekHalves 14 = .ok (.istore_n 1, 1) := by decide +kernel
theorem dX7_seekHalves_15 : decode cX7_seekHalves 15 = .ok (.iload_n 1, 1) := by decide +kernel
theorem dX7_seekHalves_16 : decode cX7_seekHalves 16 = .ok (.iconst 1, 1) := by decide +kernel
theorem dX7_seekHalves_17 : decode cX7_seekHalves 17 = .ok (.aload_n 0, 1) := by decide +kernel
theorem dX7_seekHalves_18 : decode cX7_seekHalves 18 = .ok (.getfield 15, 3) := by decide +kernel
theorem dX7_seekHalves_21 : decode cX7_seekHalves 21 = .ok (.getfield 33, 3) := by decide +kernel
theorem dX7_seekHalves_24 : decode cX7_seekHalves 24 = .ok (.ishl, 1) := by decide +kernel
theorem dX7_seekHalves_25 : decode cX7_seekHalves 25 = .ok (.if_icmp .ge 23, 3) := by decide +kernel
theorem dX7_seekHalves_28 : decode cX7_seekHalves 28 = .ok (.aload_n 0, 1) := by decide +kernel
theorem dX7_seekHalves_29 : decode cX7_seekHalves 29 = .ok (.iload_n 1, 1) := by decide +kernel
theorem dX7_seekHalves_30 : decode cX7_seekHalves 30 = .ok (.invokevirtual 38, 3) := by decide +kernel
theorem dX7_seekHalves_33 : decode cX7_seekHalves 33 = .ok (.aload_n 0, 1) := by decide +kernel
theorem dX7_seekHalves_34 : decode cX7_seekHalves 34 = .ok (.iload_n 1, 1) := by decide +kernel
theorem dX7_seekHalves_35 : decode cX7_seekHalves 35 = .ok (.invokevirtual 42, 3) := by decide +kernel
theorem dX7_seekHalves_38 : decode cX7_seekHalves 38 = .ok (.ifCond .ne 4, 3) := by decide +kernel
theorem dX7_seekHalves_41 : decode cX7_seekHalves 41 = .ok (.return_, 1) := by decide +kernel
theorem dX7_seekHalves_42 : decode cX7_seekHalves 42 = .ok (.iinc 1 1, 3) := by decide +kernel
theorem dX7_seekHalves_45 : decode cX7_seekHalves 45 = .ok (.goto (-30), 3) := by decide +kernel
theorem dX7_seekHalves_48 : decode cX7_seekHalves 48 = .ok (.return_, 1) := by decide +kernel
theorem dX7_seekRounded_0 : decode cX7_seekRounded 0 = .ok (.iconst 0, 1) := by decide +kernel
theorem dX7_seekRounded_1 : decode cX7_seekRounded 1 = .ok (.istore_n 1, 1) := by decide +kernel
theorem dX7_seekRounded_2 : decode cX7_seekRounded 2 = .ok (.iload_n 1, 1) := by decide +kernel
theorem dX7_seekRounded_3 : decode cX7_seekRounded 3 = .ok (.aload_n 0, 1) := by decide +kernel
theorem dX7_seekRounded_4 : decode cX7_seekRounded 4 = .ok (.getfield 15, 3) := by decide +kernel
theorem dX7_seekRounded_7 : decode cX7_seekRounded 7 = .ok (.getfield 33, 3) := by decide +kernel
theorem dX7_seekRounded_10 : decode cX7_seekRounded 10 = .ok (.if_icmp .ge 33, 3) := by decide +kernel
theorem dX7_seekRounded_13 : decode cX7_seekRounded 13 = .ok (.iconst 2, 1) := by decide +kernel
theorem dX7_seekRounded_14 : decode cX7_seekRounded 14 = .ok (.istore_n 2, 1) := by decide +kernel
theorem dX7_seekRounded_15 : decode cX7_seekRounded 15 = .ok (.iload_n 2, 1) := by decide +kernel
theorem dX7_seekRounded_16 : decode cX7_seekRounded 16 = .ok (.bipush 9, 2) := by decide +kernel
theorem dX7_seekRounded_18 : decode cX7_seekRounded 18 = .ok (.if_icmp .gt 19, 3) := by decide +kernel
theorem dX7_seekRounded_21 : decode cX7_seekRounded 21 = .ok (.aload_n 0, 1) := by decide +kernel
theorem dX7_seekRounded_22 : decode cX7_seekRounded 22 = .ok (.iload_n 1, 1) := by decide +kernel
theorem dX7_seekRounded_23 : decode cX7_seekRounded 23 = .ok (.iload_n 2, 1) := by decide +kernel
theorem dX7_seekRounded_24 : decode cX7_seekRounded 24 = .ok (.invokevirtual 46, 3) := by decide +kernel
theorem dX7_seekRounded_27 : decode cX7_seekRounded 27 = .ok (.ifCond .ne 4, 3) := by decide +kernel
theorem dX7_seekRounded_30 : decode cX7_seekRounded 30 = .ok (.return_, 1) := by decide +kernel
theorem dX7_seekRounded_31 : decode cX7_seekRounded 31 = .ok (.iinc 2 1, 3) := by decide +kernel
theorem dX7_seekRounded_34 : decode cX7_seekRounded 34 = .ok (.goto (-19), 3) := by decide +kernel
theorem dX7_seekRounded_37 : decode cX7_seekRounded 37 = .ok (.iinc 1 1, 3) := by decide +kernel
theorem dX7_seekRounded_40 : decode cX7_seekRounded 40 = .ok (.goto (-38), 3) := by decide +kernel
theorem dX7_seekRounded_43 : decode cX7_seekRounded 43 = .ok (.return_, 1) := by decide +kernel
theorem dX7_moveSumTo_0 : decode cX7_moveSumTo 0 = .ok (.iload_n 1, 1) := by decide +kernel
theorem dX7_moveSumTo_1 : decode cX7_moveSumTo 1 = .ok (.iload_n 1, 1) := by decide +kernel
theorem dX7_moveSumTo_2 : decode cX7_moveSumTo 2 = .ok (.iconst 1, 1) := by decide +kernel
theorem dX7_moveSumTo_3 : decode cX7_moveSumTo 3 = .ok (.isub, 1) := by decide +kernel
theorem dX7_moveSumTo_4 : decode cX7_moveSumTo 4 = .ok (.ixor, 1) := by decide +kernel
theorem dX7_moveSumTo_5 : decode cX7_moveSumTo 5 = .ok (.istore_n 2, 1) := by decide +kernel
theorem dX7_moveSumTo_6 : decode cX7_moveSumTo 6 = .ok (.iconst 0, 1) := by decide +kernel
theorem dX7_moveSumTo_7 : decode cX7_moveSumTo 7 = .ok (.istore_n 3, 1) := by decide +kernel
theorem dX7_moveSumTo_8 : decode cX7_moveSumTo 8 = .ok (.iload_n 3, 1) := by decide +kernel
theorem dX7_moveSumTo_9 : decode cX7_moveSumTo 9 = .ok (.aload_n 0, 1) := by decide +kernel
theorem dX7_moveSumTo_10 : decode cX7_moveSumTo 10 = .ok (.getfield 15, 3) := by decide +kernel
theorem dX7_moveSumTo_13 : decode cX7_moveSumTo 13 = .ok (.getfield 33, 3) := by decide +kernel
theorem dX7_moveSumTo_16 : decode cX7_moveSumTo 16 = .ok (.if_icmp .ge 99, 3) := by decide +kernel
theorem dX7_moveSumTo_19 : decode cX7_moveSumTo 19 = .ok (.iload_n 2, 1) := by decide +kernel
theorem dX7_moveSumTo_20 : decode cX7_moveSumTo 20 = .ok (.iload_n 3, 1) := by decide +kernel
theorem dX7_moveSumTo_21 : decode cX7_moveSumTo 21 = .ok (.invokestatic 50, 3) := by decide +kernel
theorem dX7_moveSumTo_24 : decode cX7_moveSumTo 24 = .ok (.ifCond .eq 91, 3) := by decide +kernel
theorem dX7_moveSumTo_27 : decode cX7_moveSumTo 27 = .ok (.iload_n 1, 1) := by decide +kernel
theorem dX7_moveSumTo_28 : decode cX7_moveSumTo 28 = .ok (.iload_n 3, 1) := by decide +kernel
theorem dX7_moveSumTo_29 : decode cX7_moveSumTo 29 = .ok (.invokestatic 50, 3) := by decide +kernel
theorem dX7_moveSumTo_32 : decode cX7_moveSumTo 32 = .ok (.ifCond .eq 7, 3) := by decide +kernel
theorem dX7_moveSumTo_35 : decode cX7_moveSumTo 35 = .ok (.iconst 1, 1) := by decide +kernel
theorem dX7_moveSumTo_36 : decode cX7_moveSumTo 36 = .ok (.goto 4, 3) := by decide +kernel
theorem dX7_moveSumTo_39 : decode cX7_moveSumTo 39 = .ok (.iconst (-1), 1) := by decide +kernel
theorem dX7_moveSumTo_40 : decode cX7_moveSumTo 40 = .ok (.istore 4, 2) := by decide +kernel
theorem dX7_moveSumTo_42 : decode cX7_moveSumTo 42 = .ok (.iconst 0, 1) := by decide +kernel
theorem dX7_moveSumTo_43 : decode cX7_moveSumTo 43 = .ok (.istore 5, 2) := by decide +kernel
theorem dX7_moveSumTo_45 : decode cX7_moveSumTo 45 = .ok (.iload 5, 2) := by decide +kernel
theorem dX7_moveSumTo_47 : decode cX7_moveSumTo 47 = .ok (.aload_n 0, 1) := by decide +kernel
theorem dX7_moveSumTo_48 : decode cX7_moveSumTo 48 = .ok (.getfield 15, 3) := by decide +kernel
theorem dX7_moveSumTo_51 : decode cX7_moveSumTo 51 = .ok (.getfield 53, 3) := by decide +kernel
theorem dX7_moveSumTo_54 : decode cX7_moveSumTo 54 = .ok (.if_icmp .ge 34, 3) := by decide +kernel
theorem dX7_moveSumTo_57 : decode cX7_moveSumTo 57 = .ok (.aload_n 0, 1) := by decide +kernel
theorem dX7_moveSumTo_58 : decode cX7_moveSumTo 58 = .ok (.getfield 9, 3) := by decide +kernel
theorem dX7_moveSumTo_61 : decode cX7_moveSumTo 61 = .ok (.iload 5, 2) := by decide +kernel
theorem dX7_moveSumTo_63 : decode cX7_moveSumTo 63 = .ok (.dup2, 1) := by decide +kernel
theorem dX7_moveSumTo_64 : decode cX7_moveSumTo 64 = .ok (.iaload, 1) := by decide +kernel
theorem dX7_moveSumTo_65 : decode cX7_moveSumTo 65 = .ok (.iload 4, 2) := by decide +kernel
theorem dX7_moveSumTo_67 : decode cX7_moveSumTo 67 = .ok (.aload_n 0, 1) := by decide +kernel
theorem dX7_moveSumTo_68 : decode cX7_moveSumTo 68 = .ok (.getfield 15, 3) := by decide +kernel
theorem dX7_moveSumTo_71 : decode cX7_moveSumTo 71 = .ok (.getfield 56, 3) := by decide +kernel
theorem dX7_moveSumTo_74 : decode cX7_moveSumTo 74 = .ok (.iload_n 3, 1) := by decide +kernel
theorem dX7_moveSumTo_75 : decode cX7_moveSumTo 75 = .ok (.aaload, 1) := by decide +kernel
theorem dX7_moveSumTo_76 : decode cX7_moveSumTo 76 = .ok (.iload 5, 2) := by decide +kernel
theorem dX7_moveSumTo_78 : decode cX7_moveSumTo 78 = .ok (.iaload, 1) := by decide +kernel
theorem dX7_moveSumTo_79 : decode cX7_moveSumTo 79 = .ok (.imul, 1) := by decide +kernel
theorem dX7_moveSumTo_80 : decode cX7_moveSumTo 80 = .ok (.iadd, 1) := by decide +kernel
theorem dX7_moveSumTo_81 : decode cX7_moveSumTo 81 = .ok (.iastore, 1) := by decide +kernel
theorem dX7_moveSumTo_82 : decode cX7_moveSumTo 82 = .ok (.iinc 5 1, 3) := by decide +kernel
theorem dX7_moveSumTo_85 : decode cX7_moveSumTo 85 = .ok (.goto (-40), 3) := by decide +kernel
theorem dX7_moveSumTo_88 : decode cX7_moveSumTo 88 = .ok (.aload_n 0, 1) := by decide +kernel
theorem dX7_moveSumTo_89 : decode cX7_moveSumTo 89 = .ok (.dup, 1) := by decide +kernel
theorem dX7_moveSumTo_90 : decode cX7_moveSumTo 90 = .ok (.getfield 29, 3) := by decide +kernel
theorem dX7_moveSumTo_93 : decode cX7_moveSumTo 93 = .ok (.iload 4, 2) := by decide +kernel
theorem dX7_moveSumTo_95 : decode cX7_moveSumTo 95 = .ok (.aload_n 0, 1) := by decide +kernel
theorem dX7_moveSumTo_96 : decode cX7_moveSumTo 96 = .ok (.getfield 15, 3) := by decide +kernel
theorem dX7_moveSumTo_99 : decode cX7_moveSumTo 99 = .ok (.getfield 60, 3) := by decide +kernel
theorem dX7_moveSumTo_102 : decode cX7_moveSumTo 102 = .ok (.iload_n 3, 1) := by decide +kernel
theorem dX7_moveSumTo_103 : decode cX7_moveSumTo 103 = .ok (.iaload, 1) := by decide +kernel
theorem dX7_moveSumTo_104 : decode cX7_moveSumTo 104 = .ok (.imul, 1) := by decide +kernel
theorem dX7_moveSumTo_105 : decode cX7_moveSumTo 105 = .ok (.iadd, 1) := by decide +kernel
theorem dX7_moveSumTo_106 : decode cX7_moveSumTo 106 = .ok (.putfield 29, 3) := by decide +kernel
theorem dX7_moveSumTo_109 : decode cX7_moveSumTo 109 = .ok (.iinc 3 1, 3) := by decide +kernel
theorem dX7_moveSumTo_112 : decode cX7_moveSumTo 112 = .ok (.goto (-104), 3) := by decide +kernel
theorem dX7_moveSumTo_115 : decode cX7_moveSumTo 115 = .ok (.return_, 1) := by decide +kernel
theorem dX7_tryHalves_0 : decode cX7_tryHalves 0 = .ok (.aload_n 0, 1) := by decide +kernel
theorem dX7_tryHalves_1 : decode cX7_tryHalves 1 = .ok (.getfield 19, 3) := by decide +kernel
theorem dX7_tryHalves_4 : decode cX7_tryHalves 4 = .ok (.iconst 0, 1) := by decide +kernel
theorem dX7_tryHalves_5 : decode cX7_tryHalves 5 = .ok (.invokevirtual 63, 3) := by decide +kernel
theorem dX7_tryHalves_8 : decode cX7_tryHalves 8 = .ok (.astore_n 2, 1) := by decide +kernel
theorem dX7_tryHalves_9 : decode cX7_tryHalves 9 = .ok (.iconst 0, 1) := by decide +kernel
theorem dX7_tryHalves_10 : decode cX7_tryHalves 10 = .ok (.istore_n 3, 1) := by decide +kernel
theorem dX7_tryHalves_11 : decode cX7_tryHalves 11 = .ok (.iload_n 3, 1) := by decide +kernel
theorem dX7_tryHalves_12 : decode cX7_tryHalves 12 = .ok (.aload_n 0, 1) := by decide +kernel
theorem dX7_tryHalves_13 : decode cX7_tryHalves 13 = .ok (.getfield 15, 3) := by decide +kernel
theorem dX7_tryHalves_16 : decode cX7_tryHalves 16 = .ok (.getfield 33, 3) := by decide +kernel
theorem dX7_tryHalves_19 : decode cX7_tryHalves 19 = .ok (.if_icmp .ge 28, 3) := by decide +kernel
theorem dX7_tryHalves_22 : decode cX7_tryHalves 22 = .ok (.aload_n 2, 1) := by decide +kernel
theorem dX7_tryHalves_23 : decode cX7_tryHalves 23 = .ok (.getfield 69, 3) := by decide +kernel
theorem dX7_tryHalves_26 : decode cX7_tryHalves 26 = .ok (.iload_n 3, 1) := by decide +kernel
theorem dX7_tryHalves_27 : decode cX7_tryHalves 27 = .ok (.iload_n 1, 1) := by decide +kernel
theorem dX7_tryHalves_28 : decode cX7_tryHalves 28 = .ok (.iload_n 3, 1) := by decide +kernel
theorem dX7_tryHalves_29 : decode cX7_tryHalves 29 = .ok (.invokestatic 50, 3) := by decide +kernel
theorem dX7_tryHalves_32 : decode cX7_tryHalves 32 = .ok (.ifCond .eq 7, 3) := by decide +kernel
theorem dX7_tryHalves_35 : decode cX7_tryHalves 35 = .ok (.iconst 1, 1) := by decide +kernel
theorem dX7_tryHalves_36 : decode cX7_tryHalves 36 = .ok (.goto 4, 3) := by decide +kernel
theorem dX7_tryHalves_39 : decode cX7_tryHalves 39 = .ok (.iconst 0, 1) := by decide +kernel
theorem dX7_tryHalves_40 : decode cX7_tryHalves 40 = .ok (.iastore, 1) := by decide +kernel
theorem dX7_tryHalves_41 : decode cX7_tryHalves 41 = .ok (.iinc 3 1, 3) := by decide +kernel
theorem dX7_tryHalves_44 : decode cX7_tryHalves 44 = .ok (.goto (-33), 3) := by decide +kernel
theorem dX7_tryHalves_47 : decode cX7_tryHalves 47 = .ok (.aload_n 2, 1) := by decide +kernel
theorem dX7_tryHalves_48 : decode cX7_tryHalves 48 = .ok (.iconst 2, 1) := by decide +kernel
theorem dX7_tryHalves_49 : decode cX7_tryHalves 49 = .ok (.putfield 74, 3) := by decide +kernel
theorem dX7_tryHalves_52 : decode cX7_tryHalves 52 = .ok (.aload_n 2, 1) := by decide +kernel
theorem dX7_tryHalves_53 : decode cX7_tryHalves 53 = .ok (.aload_n 0, 1) := by decide +kernel
theorem dX7_tryHalves_54 : decode cX7_tryHalves 54 = .ok (.getfield 29, 3) := by decide +kernel
theorem dX7_tryHalves_57 : decode cX7_tryHalves 57 = .ok (.putfield 77, 3) := by decide +kernel
theorem dX7_tryHalves_60 : decode cX7_tryHalves 60 = .ok (.iconst 0, 1) := by decide +kernel
theorem dX7_tryHalves_61 : decode cX7_tryHalves 61 = .ok (.istore_n 3, 1) := by decide +kernel
theorem dX7_tryHalves_62 : decode cX7_tryHalves 62 = .ok (.iload_n 3, 1) := by decide +kernel
theorem dX7_tryHalves_63 : decode cX7_tryHalves 63 = .ok (.aload_n 0, 1) := by decide +kernel
theorem dX7_tryHalves_64 : decode cX7_tryHalves 64 = .ok (.getfield 15, 3) := by decide +kernel
theorem dX7_tryHalves_67 : decode cX7_tryHalves 67 = .ok (.getfield 53, 3) := by decide +kernel
theorem dX7_tryHalves_70 : decode cX7_tryHalves 70 = .ok (.if_icmp .ge 62, 3) := by decide +kernel
theorem dX7_tryHalves_73 : decode cX7_tryHalves 73 = .ok (.aload_n 2, 1) := by decide +kernel
theorem dX7_tryHalves_74 : decode cX7_tryHalves 74 = .ok (.getfield 80, 3) := by decide +kernel
theorem dX7_tryHalves_77 : decode cX7_tryHalves 77 = .ok (.iload_n 3, 1) := by decide +kernel
theorem dX7_tryHalves_78 : decode cX7_tryHalves 78 = .ok (.aload_n 0, 1) := by decide +kernel
theorem dX7_tryHalves_79 : decode cX7_tryHalves 79 = .ok (.getfield 9, 3) := by decide +kernel
theorem dX7_tryHalves_82 : decode cX7_tryHalves 82 = .ok (.iload_n 3, 1) := by decide +kernel
theorem dX7_tryHalves_83 : decode cX7_tryHalves 83 = .ok (.iaload, 1) := by decide +kernel
theorem dX7_tryHalves_84 : decode cX7_tryHalves 84 = .ok (.iastore, 1) := by decide +kernel
theorem dX7_tryHalves_85 : decode cX7_tryHalves 85 = .ok (.aload_n 0, 1) := by decide +kernel
theorem dX7_tryHalves_86 : decode cX7_tryHalves 86 = .ok (.getfield 9, 3) := by decide +kernel
theorem dX7_tryHalves_89 : decode cX7_tryHalves 89 = .ok (.iload_n 3, 1) := by decide +kernel
theorem dX7_tryHalves_90 : decode cX7_tryHalves 90 = .ok (.iaload, 1) := by decide +kernel
theorem dX7_tryHalves_91 : decode cX7_tryHalves 91 = .ok (.iconst 2, 1) := by decide +kernel
theorem dX7_tryHalves_92 : decode cX7_tryHalves 92 = .ok (.invokestatic 82, 3) := by decide +kernel
theorem dX7_tryHalves_95 : decode cX7_tryHalves 95 = .ok (.ifCond .ne 6, 3) := by decide +kernel
theorem dX7_tryHalves_98 : decode cX7_tryHalves 98 = .ok (.goto 28, 3) := by decide +kernel
theorem dX7_tryHalves_101 : decode cX7_tryHalves 101 = .ok (.aload_n 0, 1) := by decide +kernel
theorem dX7_tryHalves_102 : decode cX7_tryHalves 102 = .ok (.iload_n 3, 1) := by decide +kernel
theorem dX7_tryHalves_103 : decode cX7_tryHalves 103 = .ok (.invokevirtual 88, 3) := by decide +kernel
theorem dX7_tryHalves_106 : decode cX7_tryHalves 106 = .ok (.ifCond .eq 13, 3) := by decide +kernel
theorem dX7_tryHalves_109 : decode cX7_tryHalves 109 = .ok (.aload_n 0, 1) := by decide +kernel
theorem dX7_tryHalves_110 : decode cX7_tryHalves 110 = .ok (.aload_n 2, 1) := by decide +kernel
theorem dX7_tryHalves_111 : decode cX7_tryHalves 111 = .ok (.iload_n 3, 1) := by decide +kernel
theorem dX7_tryHalves_112 : decode cX7_tryHalves 112 = .ok (.iconst 1, 1) := by decide +kernel
theorem dX7_tryHalves_113 : decode cX7_tryHalves 113 = .ok (.invokevirtual 91, 3) := by decide +kernel
theorem dX7_tryHalves_116 : decode cX7_tryHalves 116 = .ok (.goto 10, 3) := by decide +kernel
theorem dX7_tryHalves_119 : decode cX7_tryHalves 119 = .ok (.aload_n 0, 1) := by decide +kernel
theorem dX7_tryHalves_120 : decode cX7_tryHalves 120 = .ok (.aload_n 2, 1) := by decide +kernel
theorem dX7_tryHalves_121 : decode cX7_tryHalves 121 = .ok (.iload_n 3, 1) := by decide +kernel
theorem dX7_tryHalves_122 : decode cX7_tryHalves 122 = .ok (.iconst 1, 1) := by decide +kernel
theorem dX7_tryHalves_123 : decode cX7_tryHalves 123 = .ok (.invokevirtual 95, 3) := by decide +kernel
theorem dX7_tryHalves_126 : decode cX7_tryHalves 126 = .ok (.iinc 3 1, 3) := by decide +kernel
theorem dX7_tryHalves_129 : decode cX7_tryHalves 129 = .ok (.goto (-67), 3) := by decide +kernel
theorem dX7_tryHalves_132 : decode cX7_tryHalves 132 = .ok (.aload_n 0, 1) := by decide +kernel
theorem dX7_tryHalves_133 : decode cX7_tryHalves 133 = .ok (.aload_n 2, 1) := by decide +kernel
theorem dX7_tryHalves_134 : decode cX7_tryHalves 134 = .ok (.iconst 2, 1) := by decide +kernel
theorem dX7_tryHalves_135 : decode cX7_tryHalves 135 = .ok (.invokevirtual 98, 3) := by decide +kernel
theorem dX7_tryHalves_138 : decode cX7_tryHalves 138 = .ok (.ireturn, 1) := by decide +kernel
theorem dX7_tryRounded_0 : decode cX7_tryRounded 0 = .ok (.aload_n 0, 1) := by decide +kernel
theorem dX7_tryRounded_1 : decode cX7_tryRounded 1 = .ok (.getfield 19, 3) := by decide +kernel
theorem dX7_tryRounded_4 : decode cX7_tryRounded 4 = .ok (.iconst 1, 1) := by decide +kernel
theorem dX7_tryRounded_5 : decode cX7_tryRounded 5 = .ok (.invokevirtual 63, 3) := by decide +kernel
theorem dX7_tryRounded_8 : decode cX7_tryRounded 8 = .ok (.astore_n 3, 1) := by decide +kernel
theorem dX7_tryRounded_9 : decode cX7_tryRounded 9 = .ok (.aload_n 3, 1) := by decide +kernel
theorem dX7_tryRounded_10 : decode cX7_tryRounded 10 = .ok (.getfield 69, 3) := by decide +kernel
theorem dX7_tryRounded_13 : decode cX7_tryRounded 13 = .ok (.iload_n 1, 1) := by decide +kernel
theorem dX7_tryRounded_14 : decode cX7_tryRounded 14 = .ok (.iconst 1, 1) := by decide +kernel
theorem dX7_tryRounded_15 : decode cX7_tryRounded 15 = .ok (.iastore, 1) := by decide +kernel
theorem dX7_tryRounded_16 : decode cX7_tryRounded 16 = .ok (.aload_n 3, 1) := by decide +kernel
theorem dX7_tryRounded_17 : decode cX7_tryRounded 17 = .ok (.iload_n 2, 1) := by decide +kernel
theorem dX7_tryRounded_18 : decode cX7_tryRounded 18 = .ok (.putfield 74, 3) := by decide +kernel
theorem dX7_tryRounded_21 : decode cX7_tryRounded 21 = .ok (.aload_n 3, 1) := by decide +kernel
theorem dX7_tryRounded_22 : decode cX7_tryRounded 22 = .ok (.aload_n 0, 1) := by decide +kernel
theorem dX7_tryRounded_23 : decode cX7_tryRounded 23 = .ok (.getfield 15, 3) := by decide +kernel
theorem dX7_tryRounded_26 : decode cX7_tryRounded 26 = .ok (.getfield 60, 3) := by decide +kernel
theorem dX7_tryRounded_29 : decode cX7_tryRounded 29 = .ok (.iload_n 1, 1) := by decide +kernel
theorem dX7_tryRounded_30 : decode cX7_tryRounded 30 = .ok (.iaload, 1) := by decide +kernel
theorem dX7_tryRounded_31 : decode cX7_tryRounded 31 = .ok (.putfield 77, 3) := by decide +kernel
theorem dX7_tryRounded_34 : decode cX7_tryRounded 34 = .ok (.iconst 0, 1) := by decide +kernel
theorem dX7_tryRounded_35 : decode cX7_tryRounded 35 = .ok (.istore 4, 2) := by decide +kernel
theorem dX7_tryRounded_37 : decode cX7_tryRounded 37 = .ok (.iload 4, 2) := by decide +kernel
theorem dX7_tryRounded_39 : decode cX7_tryRounded 39 = .ok (.aload_n 0, 1) := by decide +kernel
theorem dX7_tryRounded_40 : decode cX7_tryRounded 40 = .ok (.getfield 15, 3) := by decide +kernel
theorem dX7_tryRounded_43 : decode cX7_tryRounded 43 = .ok (.getfield 53, 3) := by decide +kernel
theorem dX7_tryRounded_46 : decode cX7_tryRounded 46 = .ok (.if_icmp .ge 84, 3) := by decide +kernel
theorem dX7_tryRounded_49 : decode cX7_tryRounded 49 = .ok (.aload_n 3, 1) := by decide +kernel
theorem dX7_tryRounded_50 : decode cX7_tryRounded 50 = .ok (.getfield 80, 3) := by decide +kernel
theorem dX7_tryRounded_53 : decode cX7_tryRounded 53 = .ok (.iload 4, 2) := by decide +kernel
theorem dX7_tryRounded_55 : decode cX7_tryRounded 55 = .ok (.aload_n 0, 1) := by decide +kernel
theorem dX7_tryRounded_56 : decode cX7_tryRounded 56 = .ok (.getfield 15, 3) := by decide +kernel
theorem dX7_tryRounded_59 : decode cX7_tryRounded 59 = .ok (.getfield 56, 3) := by decide +kernel
theorem dX7_tryRounded_62 : decode cX7_tryRounded 62 = .ok (.iload_n 1, 1) := by decide +kernel
theorem dX7_tryRounded_63 : decode cX7_tryRounded 63 = .ok (.aaload, 1) := by decide +kernel
theorem dX7_tryRounded_64 : decode cX7_tryRounded 64 = .ok (.iload 4, 2) := by decide +kernel
theorem dX7_tryRounded_66 : decode cX7_tryRounded 66 = .ok (.iaload, 1) := by decide +kernel
theorem dX7_tryRounded_67 : decode cX7_tryRounded 67 = .ok (.iastore, 1) := by decide +kernel
theorem dX7_tryRounded_68 : decode cX7_tryRounded 68 = .ok (.aload_n 3, 1) := by decide +kernel
theorem dX7_tryRounded_69 : decode cX7_tryRounded 69 = .ok (.getfield 80, 3) := by decide +kernel
theorem dX7_tryRounded_72 : decode cX7_tryRounded 72 = .ok (.iload 4, 2) := by decide +kernel
theorem dX7_tryRounded_74 : decode cX7_tryRounded 74 = .ok (.iaload, 1) := by decide +kernel
theorem dX7_tryRounded_75 : decode cX7_tryRounded 75 = .ok (.iload_n 2, 1) := by decide +kernel
theorem dX7_tryRounded_76 : decode cX7_tryRounded 76 = .ok (.invokestatic 82, 3) := by decide +kernel
theorem dX7_tryRounded_79 : decode cX7_tryRounded 79 = .ok (.istore 5, 2) := by decide +kernel
theorem dX7_tryRounded_81 : decode cX7_tryRounded 81 = .ok (.iload 5, 2) := by decide +kernel
theorem dX7_tryRounded_83 : decode cX7_tryRounded 83 = .ok (.ifCond .ne 6, 3) := by decide +kernel
theorem dX7_tryRounded_86 : decode cX7_tryRounded 86 = .ok (.goto 38, 3) := by decide +kernel
theorem dX7_tryRounded_89 : decode cX7_tryRounded 89 = .ok (.aload_n 0, 1) := by decide +kernel
theorem dX7_tryRounded_90 : decode cX7_tryRounded 90 = .ok (.iload 4, 2) := by decide +kernel
theorem dX7_tryRounded_92 : decode cX7_tryRounded 92 = .ok (.iload 5, 2) := by decide +kernel
theorem dX7_tryRounded_94 : decode cX7_tryRounded 94 = .ok (.iload_n 2, 1) := by decide +kernel
theorem dX7_tryRounded_95 : decode cX7_tryRounded 95 = .ok (.invokevirtual 102, 3) := by decide +kernel
theorem dX7_tryRounded_98 : decode cX7_tryRounded 98 = .ok (.ifCond .eq 15, 3) := by decide +kernel
theorem dX7_tryRounded_101 : decode cX7_tryRounded 101 = .ok (.aload_n 0, 1) := by decide +kernel
theorem dX7_tryRounded_102 : decode cX7_tryRounded 102 = .ok (.aload_n 3, 1) := by decide +kernel
theorem dX7_tryRounded_103 : decode cX7_tryRounded 103 = .ok (.iload 4, 2) := by decide +kernel
theorem dX7_tryRounded_105 : decode cX7_tryRounded 105 = .ok (.iload 5, 2) := by decide +kernel
theorem dX7_tryRounded_107 : decode cX7_tryRounded 107 = .ok (.invokevirtual 95, 3) := by decide +kernel
theorem dX7_tryRounded_110 : decode cX7_tryRounded 110 = .ok (.goto 14, 3) := by decide +kernel
theorem dX7_tryRounded_113 : decode cX7_tryRounded 113 = .ok (.aload_n 0, 1) := by decide +kernel
theorem dX7_tryRounded_114 : decode cX7_tryRounded 114 = .ok (.aload_n 3, 1) := by decide +kernel
theorem dX7_tryRounded_115 : decode cX7_tryRounded 115 = .ok (.iload 4, 2) := by decide +kernel
theorem dX7_tryRounded_117 : decode cX7_tryRounded 117 = .ok (.iload_n 2, 1) := by decide +kernel
theorem dX7_tryRounded_118 : decode cX7_tryRounded 118 = .ok (.iload 5, 2) := by decide +kernel
theorem dX7_tryRounded_120 : decode cX7_tryRounded 120 = .ok (.isub, 1) := by decide +kernel
theorem dX7_tryRounded_121 : decode cX7_tryRounded 121 = .ok (.invokevirtual 91, 3) := by decide +kernel
theorem dX7_tryRounded_124 : decode cX7_tryRounded 124 = .ok (.iinc 4 1, 3) := by decide +kernel
theorem dX7_tryRounded_127 : decode cX7_tryRounded 127 = .ok (.goto (-90), 3) := by decide +kernel
theorem dX7_tryRounded_130 : decode cX7_tryRounded 130 = .ok (.aload_n 0, 1) := by decide +kernel
theorem dX7_tryRounded_131 : decode cX7_tryRounded 131 = .ok (.aload_n 3, 1) := by decide +kernel
theorem dX7_tryRounded_132 : decode cX7_tryRounded 132 = .ok (.iload_n 2, 1) := by decide +kernel
theorem dX7_tryRounded_133 : decode cX7_tryRounded 133 = .ok (.invokevirtual 98, 3) := by decide +kernel
theorem dX7_tryRounded_136 : decode cX7_tryRounded 136 = .ok (.ireturn, 1) := by decide +kernel
theorem dX7_isHighNearer_0 : decode cX7_isHighNearer 0 = .ok (.ldc2_w 106, 3) := by decide +kernel
theorem dX7_isHighNearer_3 : decode cX7_isHighNearer 3 = .ok (.aload_n 0, 1) := by decide +kernel
theorem dX7_isHighNearer_4 : decode cX7_isHighNearer 4 = .ok (.getfield 15, 3) := by decide +kernel
theorem dX7_isHighNearer_7 : decode cX7_isHighNearer 7 = .ok (.getfield 108, 3) := by decide +kernel
theorem dX7_isHighNearer_10 : decode cX7_isHighNearer 10 = .ok (.iload_n 1, 1) := by decide +kernel
theorem dX7_isHighNearer_11 : decode cX7_isHighNearer 11 = .ok (.laload, 1) := by decide +kernel
theorem dX7_isHighNearer_12 : decode cX7_isHighNearer 12 = .ok (.lmul, 1) := by decide +kernel
theorem dX7_isHighNearer_13 : decode cX7_isHighNearer 13 = .ok (.ldc2_w 112, 3) := by decide +kernel
theorem dX7_isHighNearer_16 : decode cX7_isHighNearer 16 = .ok (.aload_n 0, 1) := by decide +kernel
theorem dX7_isHighNearer_17 : decode cX7_isHighNearer 17 = .ok (.getfield 15, 3) := by decide +kernel
theorem dX7_isHighNearer_20 : decode cX7_isHighNearer 20 = .ok (.getfield 114, 3) := by decide +kernel
theorem dX7_isHighNearer_23 : decode cX7_isHighNearer 23 = .ok (.iload_n 1, 1) := by decide +kernel
theorem dX7_isHighNearer_24 : decode cX7_isHighNearer 24 = .ok (.iaload, 1) := by decide +kernel
theorem dX7_isHighNearer_25 : decode cX7_isHighNearer 25 = .ok (.aload_n 0, 1) := by decide +kernel
theorem dX7_isHighNearer_26 : decode cX7_isHighNearer 26 = .ok (.getfield 15, 3) := by decide +kernel
theorem dX7_isHighNearer_29 : decode cX7_isHighNearer 29 = .ok (.getfield 117, 3) := by decide +kernel
theorem dX7_isHighNearer_32 : decode cX7_isHighNearer 32 = .ok (.iload_n 1, 1) := by decide +kernel
theorem dX7_isHighNearer_33 : decode cX7_isHighNearer 33 = .ok (.iaload, 1) := by decide +kernel
theorem dX7_isHighNearer_34 : decode cX7_isHighNearer 34 = .ok (.iadd, 1) := by decide +kernel
theorem dX7_isHighNearer_35 : decode cX7_isHighNearer 35 = .ok (.i2l, 1) := by decide +kernel
theorem dX7_isHighNearer_36 : decode cX7_isHighNearer 36 = .ok (.lmul, 1) := by decide +kernel
theorem dX7_isHighNearer_37 : decode cX7_isHighNearer 37 = .ok (.lcmp, 1) := by decide +kernel
theorem dX7_isHighNearer_38 : decode cX7_isHighNearer 38 = .ok (.ifCond .lt 7, 3) := by decide +kernel
theorem dX7_isHighNearer_41 : decode cX7_isHighNearer 41 = .ok (.iconst 1, 1) := by decide +kernel
theorem dX7_isHighNearer_42 : decode cX7_isHighNearer 42 = .ok (.goto 4, 3) := by decide +kernel
theorem dX7_isHighNearer_45 : decode cX7_isHighNearer 45 = .ok (.iconst 0, 1) := by decide +kernel
theorem dX7_isHighNearer_46 : decode cX7_isHighNearer 46 = .ok (.ireturn, 1) := by decide +kernel
theorem dX7_isLowCheaper_0 : decode cX7_isLowCheaper 0 = .ok (.aload_n 0, 1) := by decide +kernel
theorem dX7_isLowCheaper_1 : decode cX7_isLowCheaper 1 = .ok (.getfield 15, 3) := by decide +kernel
theorem dX7_isLowCheaper_4 : decode cX7_isLowCheaper 4 = .ok (.getfield 108, 3) := by decide +kernel
theorem dX7_isLowCheaper_7 : decode cX7_isLowCheaper 7 = .ok (.iload_n 1, 1) := by decide +kernel
theorem dX7_isLowCheaper_8 : decode cX7_isLowCheaper 8 = .ok (.laload, 1) := by decide +kernel
theorem dX7_isLowCheaper_9 : decode cX7_isLowCheaper 9 = .ok (.ldc2_w 112, 3) := by decide +kernel
theorem dX7_isLowCheaper_12 : decode cX7_isLowCheaper 12 = .ok (.aload_n 0, 1) := by decide +kernel
theorem dX7_isLowCheaper_13 : decode cX7_isLowCheaper 13 = .ok (.getfield 15, 3) := by decide +kernel
theorem dX7_isLowCheaper_16 : decode cX7_isLowCheaper 16 = .ok (.getfield 114, 3) := by decide +kernel
theorem dX7_isLowCheaper_19 : decode cX7_isLowCheaper 19 = .ok (.iload_n 1, 1) := by decide +kernel
theorem dX7_isLowCheaper_20 : decode cX7_isLowCheaper 20 = .ok (.iaload, 1) := by decide +kernel
theorem dX7_isLowCheaper_21 : decode cX7_isLowCheaper 21 = .ok (.i2l, 1) := by decide +kernel
theorem dX7_isLowCheaper_22 : decode cX7_isLowCheaper 22 = .ok (.lmul, 1) := by decide +kernel
theorem dX7_isLowCheaper_23 : decode cX7_isLowCheaper 23 = .ok (.lsub, 1) := by decide +kernel
theorem dX7_isLowCheaper_24 : decode cX7_isLowCheaper 24 = .ok (.lstore 4, 2) := by decide +kernel
theorem dX7_isLowCheaper_26 : decode cX7_isLowCheaper 26 = .ok (.ldc2_w 112, 3) := by decide +kernel
theorem dX7_isLowCheaper_29 : decode cX7_isLowCheaper 29 = .ok (.aload_n 0, 1) := by decide +kernel
theorem dX7_isLowCheaper_30 : decode cX7_isLowCheaper 30 = .ok (.getfield 15, 3) := by decide +kernel
theorem dX7_isLowCheaper_33 : decode cX7_isLowCheaper 33 = .ok (.getfield 117, 3) := by decide +kernel
theorem dX7_isLowCheaper_36 : decode cX7_isLowCheaper 36 = .ok (.iload_n 1, 1) := by decide +kernel
theorem dX7_isLowCheaper_37 : decode cX7_isLowCheaper 37 = .ok (.iaload, 1) := by decide +kernel
theorem dX7_isLowCheaper_38 : decode cX7_isLowCheaper 38 = .ok (.i2l, 1) := by decide +kernel
theorem dX7_isLowCheaper_39 : decode cX7_isLowCheaper 39 = .ok (.lmul, 1) := by decide +kernel
theorem dX7_isLowCheaper_40 : decode cX7_isLowCheaper 40 = .ok (.aload_n 0, 1) := by decide +kernel
theorem dX7_isLowCheaper_41 : decode cX7_isLowCheaper 41 = .ok (.getfield 15, 3) := by decide +kernel
theorem dX7_isLowCheaper_44 : decode cX7_isLowCheaper 44 = .ok (.getfield 108, 3) := by decide +kernel
theorem dX7_isLowCheaper_47 : decode cX7_isLowCheaper 47 = .ok (.iload_n 1, 1) := by decide +kernel
theorem dX7_isLowCheaper_48 : decode cX7_isLowCheaper 48 = .ok (.laload, 1) := by decide +kernel
theorem dX7_isLowCheaper_49 : decode cX7_isLowCheaper 49 = .ok (.lsub, 1) := by decide +kernel
theorem dX7_isLowCheaper_50 : decode cX7_isLowCheaper 50 = .ok (.lstore 6, 2) := by decide +kernel
theorem dX7_isLowCheaper_52 : decode cX7_isLowCheaper 52 = .ok (.iload_n 2, 1) := by decide +kernel
theorem dX7_isLowCheaper_53 : decode cX7_isLowCheaper 53 = .ok (.i2l, 1) := by decide +kernel
theorem dX7_isLowCheaper_54 : decode cX7_isLowCheaper 54 = .ok (.lload 4, 2) := by decide +kernel
theorem dX7_isLowCheaper_56 : decode cX7_isLowCheaper 56 = .ok (.lmul, 1) := by decide +kernel
theorem dX7_isLowCheaper_57 : decode cX7_isLowCheaper 57 = .ok (.iload_n 3, 1) := by decide +kernel
theorem dX7_isLowCheaper_58 : decode cX7_isLowCheaper 58 = .ok (.iload_n 2, 1) := by decide +kernel
theorem dX7_isLowCheaper_59 : decode cX7_isLowCheaper 59 = .ok (.isub, 1) := by decide +kernel
theorem dX7_isLowCheaper_60 : decode cX7_isLowCheaper 60 = .ok (.i2l, 1) := by decide +kernel
theorem dX7_isLowCheaper_61 : decode cX7_isLowCheaper 61 = .ok (.lload 6, 2) := by decide +kernel
theorem dX7_isLowCheaper_63 : decode cX7_isLowCheaper 63 = .ok (.lmul, 1) := by decide +kernel
theorem dX7_isLowCheaper_64 : decode cX7_isLowCheaper 64 = .ok (.lcmp, 1) := by decide +kernel
theorem dX7_isLowCheaper_65 : decode cX7_isLowCheaper 65 = .ok (.ifCond .gt 7, 3) := by decide +kernel
theorem dX7_isLowCheaper_68 : decode cX7_isLowCheaper 68 = .ok (.iconst 1, 1) := by decide +kernel
theorem dX7_isLowCheaper_69 : decode cX7_isLowCheaper 69 = .ok (.goto 4, 3) := by decide +kernel
theorem dX7_isLowCheaper_72 : decode cX7_isLowCheaper 72 = .ok (.iconst 0, 1) := by decide +kernel
theorem dX7_isLowCheaper_73 : decode cX7_isLowCheaper 73 = .ok (.ireturn, 1) := by decide +kernel
theorem dX7_takeLow_0 : decode cX7_takeLow 0 = .ok (.aload_n 1, 1) := by decide +kernel
theorem dX7_takeLow_1 : decode cX7_takeLow 1 = .ok (.getfield 120, 3) := by decide +kernel
theorem dX7_takeLow_4 : decode cX7_takeLow 4 = .ok (.iload_n 2, 1) := by decide +kernel
theorem dX7_takeLow_5 : decode cX7_takeLow 5 = .ok (.iload_n 3, 1) := by decide +kernel
theorem dX7_takeLow_6 : decode cX7_takeLow 6 = .ok (.iastore, 1) := by decide +kernel
theorem dX7_takeLow_7 : decode cX7_takeLow 7 = .ok (.aload_n 1, 1) := by decide +kernel
theorem dX7_takeLow_8 : decode cX7_takeLow 8 = .ok (.getfield 80, 3) := by decide +kernel
theorem dX7_takeLow_11 : decode cX7_takeLow 11 = .ok (.iload_n 2, 1) := by decide +kernel
theorem dX7_takeLow_12 : decode cX7_takeLow 12 = .ok (.dup2, 1) := by decide +kernel
theorem dX7_takeLow_13 : decode cX7_takeLow 13 = .ok (.iaload, 1) := by decide +kernel
theorem dX7_takeLow_14 : decode cX7_takeLow 14 = .ok (.iload_n 3, 1) := by decide +kernel
theorem dX7_takeLow_15 : decode cX7_takeLow 15 = .ok (.isub, 1) := by decide +kernel
theorem dX7_takeLow_16 : decode cX7_takeLow 16 = .ok (.iastore, 1) := by decide +kernel
theorem dX7_takeLow_17 : decode cX7_takeLow 17 = .ok (.aload_n 1, 1) := by decide +kernel
theorem dX7_takeLow_18 : decode cX7_takeLow 18 = .ok (.dup, 1) := by decide +kernel
theorem dX7_takeLow_19 : decode cX7_takeLow 19 = .ok (.getfield 77, 3) := by decide +kernel
theorem dX7_takeLow_22 : decode cX7_takeLow 22 = .ok (.iload_n 3, 1) := by decide +kernel
theorem dX7_takeLow_23 : decode cX7_takeLow 23 = .ok (.aload_n 0, 1) := by decide +kernel
theorem dX7_takeLow_24 : decode cX7_takeLow 24 = .ok (.getfield 15, 3) := by decide +kernel
theorem dX7_takeLow_27 : decode cX7_takeLow 27 = .ok (.getfield 114, 3) := by decide +kernel
theorem dX7_takeLow_30 : decode cX7_takeLow 30 = .ok (.iload_n 2, 1) := by decide +kernel
theorem dX7_takeLow_31 : decode cX7_takeLow 31 = .ok (.iaload, 1) := by decide +kernel
theorem dX7_takeLow_32 : decode cX7_takeLow 32 = .ok (.imul, 1) := by decide +kernel
theorem dX7_takeLow_33 : decode cX7_takeLow 33 = .ok (.isub, 1) := by decide +kernel
theorem dX7_takeLow_34 : decode cX7_takeLow 34 = .ok (.putfield 77, 3) := by decide +kernel
theorem dX7_takeLow_37 : decode cX7_takeLow 37 = .ok (.return_, 1) := by decide +kernel
theorem dX7_takeHigh_0 : decode cX7_takeHigh 0 = .ok (.aload_n 1, 1) := by decide +kernel
theorem dX7_takeHigh_1 : decode cX7_takeHigh 1 = .ok (.getfield 123, 3) := by decide +kernel
theorem dX7_takeHigh_4 : decode cX7_takeHigh 4 = .ok (.iload_n 2, 1) := by decide +kernel
theorem dX7_takeHigh_5 : decode cX7_takeHigh 5 = .ok (.iload_n 3, 1) := by decide +kernel
theorem dX7_takeHigh_6 : decode cX7_takeHigh 6 = .ok (.iastore, 1) := by decide +kernel
theorem dX7_takeHigh_7 : decode cX7_takeHigh 7 = .ok (.aload_n 1, 1) := by decide +kernel
theorem dX7_takeHigh_8 : decode cX7_takeHigh 8 = .ok (.getfield 80, 3) := by decide +kernel
theorem dX7_takeHigh_11 : decode cX7_takeHigh 11 = .ok (.iload_n 2, 1) := by decide +kernel
theorem dX7_takeHigh_12 : decode cX7_takeHigh 12 = .ok (.dup2, 1) := by decide +kernel
theorem dX7_takeHigh_13 : decode cX7_takeHigh 13 = .ok (.iaload, 1) := by decide +kernel
theorem dX7_takeHigh_14 : decode cX7_takeHigh 14 = .ok (.iload_n 3, 1) := by decide +kernel
theorem dX7_takeHigh_15 : decode cX7_takeHigh 15 = .ok (.iadd, 1) := by decide +kernel
theorem dX7_takeHigh_16 : decode cX7_takeHigh 16 = .ok (.iastore, 1) := by decide +kernel
theorem dX7_takeHigh_17 : decode cX7_takeHigh 17 = .ok (.aload_n 1, 1) := by decide +kernel
theorem dX7_takeHigh_18 : decode cX7_takeHigh 18 = .ok (.dup, 1) := by decide +kernel
theorem dX7_takeHigh_19 : decode cX7_takeHigh 19 = .ok (.getfield 77, 3) := by decide +kernel
theorem dX7_takeHigh_22 : decode cX7_takeHigh 22 = .ok (.iload_n 3, 1) := by decide +kernel
theorem dX7_takeHigh_23 : decode cX7_takeHigh 23 = .ok (.aload_n 0, 1) := by decide +kernel
theorem dX7_takeHigh_24 : decode cX7_takeHigh 24 = .ok (.getfield 15, 3) := by decide +kernel
theorem dX7_takeHigh_27 : decode cX7_takeHigh 27 = .ok (.getfield 117, 3) := by decide +kernel
theorem dX7_takeHigh_30 : decode cX7_takeHigh 30 = .ok (.iload_n 2, 1) := by decide +kernel
theorem dX7_takeHigh_31 : decode cX7_takeHigh 31 = .ok (.iaload, 1) := by decide +kernel
theorem dX7_takeHigh_32 : decode cX7_takeHigh 32 = .ok (.imul, 1) := by decide +kernel
theorem dX7_takeHigh_33 : decode cX7_takeHigh 33 = .ok (.iadd, 1) := by decide +kernel
theorem dX7_takeHigh_34 : decode cX7_takeHigh 34 = .ok (.putfield 77, 3) := by decide +kernel
theorem dX7_takeHigh_37 : decode cX7_takeHigh 37 = .ok (.return_, 1) := by decide +kernel
theorem dX7_divideAndSettle_0 : decode cX7_divideAndSettle 0 = .ok (.iload_n 2, 1) := by decide +kernel
theorem dX7_divideAndSettle_1 : decode cX7_divideAndSettle 1 = .ok (.iconst 1, 1) := by decide +kernel
theorem dX7_divideAndSettle_2 : decode cX7_divideAndSettle 2 = .ok (.if_icmp .ge 5, 3) := by decide +kernel
theorem dX7_divideAndSettle_5 : decode cX7_divideAndSettle 5 = .ok (.iconst 1, 1) := by decide +kernel
theorem dX7_divideAndSettle_6 : decode cX7_divideAndSettle 6 = .ok (.ireturn, 1) := by decide +kernel
theorem dX7_divideAndSettle_7 : decode cX7_divideAndSettle 7 = .ok (.iconst 0, 1) := by decide +kernel
theorem dX7_divideAndSettle_8 : decode cX7_divideAndSettle 8 = .ok (.istore_n 3, 1) := by decide +kernel
theorem dX7_divideAndSettle_9 : decode cX7_divideAndSettle 9 = .ok (.iload_n 3, 1) := by decide +kernel
theorem dX7_divideAndSettle_10 : decode cX7_divideAndSettle 10 = .ok (.aload_n 0, 1) := by decide +kernel
theorem dX7_divideAndSettle_11 : decode cX7_divideAndSettle 11 = .ok (.getfield 15, 3) := by decide +kernel
theorem dX7_divideAndSettle_14 : decode cX7_divideAndSettle 14 = .ok (.getfield 53, 3) := by decide +kernel
theorem dX7_divideAndSettle_17 : decode cX7_divideAndSettle 17 = .ok (.if_icmp .ge 19, 3) := by decide +kernel
theorem dX7_divideAndSettle_20 : decode cX7_divideAndSettle 20 = .ok (.aload_n 1, 1) := by decide +kernel
theorem dX7_divideAndSettle_21 : decode cX7_divideAndSettle 21 = .ok (.getfield 80, 3) := by decide +kernel
theorem dX7_divideAndSettle_24 : decode cX7_divideAndSettle 24 = .ok (.iload_n 3, 1) := by decide +kernel
theorem dX7_divideAndSettle_25 : decode cX7_divideAndSettle 25 = .ok (.dup2, 1) := by decide +kernel
theorem dX7_divideAndSettle_26 : decode cX7_divideAndSettle 26 = .ok (.iaload, 1) := by decide +kernel
theorem dX7_divideAndSettle_27 : decode cX7_divideAndSettle 27 = .ok (.iload_n 2, 1) := by decide +kernel
theorem dX7_divideAndSettle_28 : decode cX7_divideAndSettle 28 = .ok (.idiv, 1) := by decide +kernel
theorem dX7_divideAndSettle_29 : decode cX7_divideAndSettle 29 = .ok (.iastore, 1) := by decide +kernel
theorem dX7_divideAndSettle_30 : decode cX7_divideAndSettle 30 = .ok (.iinc 3 1, 3) := by decide +kernel
theorem dX7_divideAndSettle_33 : decode cX7_divideAndSettle 33 = .ok (.goto (-24), 3) := by decide +kernel
theorem dX7_divideAndSettle_36 : decode cX7_divideAndSettle 36 = .ok (.aload_n 1, 1) := by decide +kernel
theorem dX7_divideAndSettle_37 : decode cX7_divideAndSettle 37 = .ok (.aload_n 1, 1) := by decide +kernel
theorem dX7_divideAndSettle_38 : decode cX7_divideAndSettle 38 = .ok (.getfield 77, 3) := by decide +kernel
theorem dX7_divideAndSettle_41 : decode cX7_divideAndSettle 41 = .ok (.iload_n 2, 1) := by decide +kernel
theorem dX7_divideAndSettle_42 : decode cX7_divideAndSettle 42 = .ok (.invokestatic 126, 3) := by decide +kernel
theorem dX7_divideAndSettle_45 : decode cX7_divideAndSettle 45 = .ok (.putfield 77, 3) := by decide +kernel
theorem dX7_divideAndSettle_48 : decode cX7_divideAndSettle 48 = .ok (.aload_n 0, 1) := by decide +kernel
theorem dX7_divideAndSettle_49 : decode cX7_divideAndSettle 49 = .ok (.getfield 19, 3) := by decide +kernel
theorem dX7_divideAndSettle_52 : decode cX7_divideAndSettle 52 = .ok (.invokevirtual 129, 3) := by decide +kernel
theorem dX7_divideAndSettle_55 : decode cX7_divideAndSettle 55 = .ok (.ireturn, 1) := by decide +kernel
theorem dX8_init_0 : decode cX8_init 0 = .ok (.aload_n 0, 1) := by decide +kernel
theorem dX8_init_1 : decode cX8_init 1 = .ok (.invokespecial 1, 3) := by decide +kernel
theorem dX8_init_4 : decode cX8_init 4 = .ok (.aload_n 0, 1) := by decide +kernel
theorem dX8_init_5 : decode cX8_init 5 = .ok (.new 7, 3) := by decide +kernel
theorem dX8_init_8 : decode cX8_init 8 = .ok (.dup, 1) := by decide +kernel
theorem dX8_init_9 : decode cX8_init 9 = .ok (.invokespecial 9, 3) := by decide +kernel
theorem dX8_init_12 : decode cX8_init 12 = .ok (.putfield 10, 3) := by decide +kernel
theorem dX8_init_15 : decode cX8_init 15 = .ok (.aload_n 0, 1) := by decide +kernel
theorem dX8_init_16 : decode cX8_init 16 = .ok (.new 16, 3) := by decide +kernel
theorem dX8_init_19 : decode cX8_init 19 = .ok (.dup, 1) := by decide +kernel
theorem dX8_init_20 : decode cX8_init 20 = .ok (.aload_n 0, 1) := by decide +kernel
theorem dX8_init_21 : decode cX8_init 21 = .ok (.getfield 10, 3) := by decide +kernel
theorem dX8_init_24 : decode cX8_init 24 = .ok (.invokespecial 18, 3) := by decide +kernel
theorem dX8_init_27 : decode cX8_init 27 = .ok (.putfield 21, 3) := by decide +kernel
theorem dX8_init_30 : decode cX8_init 30 = .ok (.aload_n 0, 1) := by decide +kernel
theorem dX8_init_31 : decode cX8_init 31 = .ok (.new 25, 3) := by decide +kernel
theorem dX8_init_34 : decode cX8_init 34 = .ok (.dup, 1) := by decide +kernel
theorem dX8_init_35 : decode cX8_init 35 = .ok (.aload_n 0, 1) := by decide +kernel
theorem dX8_init_36 : decode cX8_init 36 = .ok (.getfield 10, 3) := by decide +kernel
theorem dX8_init_39 : decode cX8_init 39 = .ok (.aload_n 0, 1) := by decide +kernel
theorem dX8_init_40 : decode cX8_init 40 = .ok (.getfield 21, 3) := by decide +kernel
theorem dX8_init_43 : decode cX8_init 43 = .ok (.invokespecial 27, 3) := by decide +kernel
theorem dX8_init_46 : decode cX8_init 46 = .ok (.putfield 30, 3) := by decide +kernel
theorem dX8_init_49 : decode cX8_init 49 = .ok (.aload_n 0, 1) := by decide +kernel
theorem dX8_init_50 : decode cX8_init 50 = .ok (.new 34, 3) := by decide +kernel
theorem dX8_init_53 : decode cX8_init 53 = .ok (.dup, 1) := by decide +kernel
theorem dX8_init_54 : decode cX8_init 54 = .ok (.aload_n 0, 1) := by decide +kernel
theorem dX8_init_55 : decode cX8_init 55 = .ok (.getfield 10, 3) := by decide +kernel
theorem dX8_init_58 : decode cX8_init 58 = .ok (.aload_n 0, 1) := by decide +kernel
theorem dX8_init_59 : decode cX8_init 59 = .ok (.getfield 21, 3) := by decide +kernel
theorem dX8_init_62 : decode cX8_init 62 = .ok (.invokespecial 36, 3) := by decide +kernel
theorem dX8_init_65 : decode cX8_init 65 = .ok (.putfield 37, 3) := by decide +kernel
theorem dX8_init_68 : decode cX8_init 68 = .ok (.aload_n 0, 1) := by decide +kernel
theorem dX8_init_69 : decode cX8_init 69 = .ok (.new 41, 3) := by decide +kernel
theorem dX8_init_72 : decode cX8_init 72 = .ok (.dup, 1) := by decide +kernel
theorem dX8_init_73 : decode cX8_init 73 = .ok (.aload_n 0, 1) := by decide +kernel
theorem dX8_init_74 : decode cX8_init 74 = .ok (.getfield 10, 3) := by decide +kernel
theorem dX8_init_77 : decode cX8_init 77 = .ok (.aload_n 0, 1) := by decide +kernel
theorem dX8_init_78 : decode cX8_init 78 = .ok (.getfield 21, 3) := by decide +kernel
theorem dX8_init_81 : decode cX8_init 81 = .ok (.invokespecial 43, 3) := by decide +kernel
theorem dX8_init_84 : decode cX8_init 84 = .ok (.putfield 44, 3) := by decide +kernel
theorem dX8_init_87 : decode cX8_init 87 = .ok (.aload_n 0, 1) := by decide +kernel
theorem dX8_init_88 : decode cX8_init 88 = .ok (.new 48, 3) := by decide +kernel
theorem dX8_init_91 : decode cX8_init 91 = .ok (.dup, 1) := by decide +kernel
theorem dX8_init_92 : decode cX8_init 92 = .ok (.aload_n 0, 1) := by decide +kernel
theorem dX8_init_93 : decode cX8_init 93 = .ok (.getfield 10, 3) := by decide +kernel
theorem dX8_init_96 : decode cX8_init 96 = .ok (.invokespecial 50, 3) := by decide +kernel
theorem dX8_init_99 : decode cX8_init 99 = .ok (.putfield 51, 3) := by decide +kernel
theorem dX8_init_102 : decode cX8_init 102 = .ok (.aload_n 0, 1) := by decide +kernel
theorem dX8_init_103 : decode cX8_init 103 = .ok (.new 55, 3) := by decide +kernel
theorem dX8_init_106 : decode cX8_init 106 = .ok (.dup, 1) := by decide +kernel
theorem dX8_init_107 : decode cX8_init 107 = .ok (.aload_n 0, 1) := by decide +kernel
theorem dX8_init_108 : decode cX8_init 108 = .ok (.getfield 10, 3) := by decide +kernel
theorem dX8_init_111 : decode cX8_init 111 = .ok (.invokespecial 57, 3) := by decide +kernel
theorem dX8_init_114 : decode cX8_init 114 = .ok (.putfield 58, 3) := by decide +kernel
theorem dX8_init_117 : decode cX8_init 117 = .ok (.return_, 1) := by decide +kernel
theorem dX8_name_0 : decode cX8_name 0 = .ok (.iload_n 1, 1) := by decide +kernel
theorem dX8_name_1 : decode cX8_name 1 = .ok (.bipush 30, 2) := by decide +kernel
theorem dX8_name_3 : decode cX8_name 3 = .ok (.invokestatic 62, 3) := by decide +kernel
theorem dX8_name_6 : decode cX8_name 6 = .ok (.ifCond .ne 17, 3) := by decide +kernel
theorem dX8_name_9 : decode cX8_name 9 = .ok (.iload_n 2, 1) := by decide +kernel
theorem dX8_name_10 : decode cX8_name 10 = .ok (.bipush 30, 2) := by decide +kernel
theorem dX8_name_12 : decode cX8_name 12 = .ok (.invokestatic 62, 3) := by decide +kernel
theorem dX8_name_15 : decode cX8_name 15 = .ok (.ifCond .ne 8, 3) := by decide +kernel
theorem dX8_name_18 : decode cX8_name 18 = .ok (.iload_n 2, 1) := by decide +kernel
theorem dX8_name_19 : decode cX8_name 19 = .ok (.iload_n 1, 1) := by decide +kernel
theorem dX8_name_20 : decode cX8_name 20 = .ok (.if_icmp .ge 6, 3) := by decide +kernel
theorem dX8_name_23 : decode cX8_name 23 = .ok (.bipush (-2), 2) := by decide +kernel
theorem dX8_name_25 : decode cX8_name 25 = .ok (.ireturn, 1) := by decide +kernel
theorem dX8_name_26 : decode cX8_name 26 = .ok (.aload_n 0, 1) := by decide +kernel
theorem dX8_name_27 : decode cX8_name 27 = .ok (.getfield 10, 3) := by decide +kernel
theorem dX8_name_30 : decode cX8_name 30 = .ok (.getfield 66, 3) := by decide +kernel
theorem dX8_name_33 : decode cX8_name 33 = .ok (.bipush 8, 2) := by decide +kernel
theorem dX8_name_35 : decode cX8_name 35 = .ok (.if_icmp .lt 6, 3) := by decide +kernel
theorem dX8_name_38 : decode cX8_name 38 = .ok (.bipush (-4), 2) := by decide +kernel
theorem dX8_name_40 : decode cX8_name 40 = .ok (.ireturn, 1) := by decide +kernel
theorem dX8_name_41 : decode cX8_name 41 = .ok (.aload_n 0, 1) := by decide +kernel
theorem dX8_name_42 : decode cX8_name 42 = .ok (.getfield 21, 3) := by decide +kernel
theorem dX8_name_45 : decode cX8_name 45 = .ok (.iconst 0, 1) := by decide +kernel
theorem dX8_name_46 : decode cX8_name 46 = .ok (.putfield 70, 3) := by decide +kernel
theorem dX8_name_49 : decode cX8_name 49 = .ok (.aload_n 0, 1) := by decide +kernel
theorem dX8_name_50 : decode cX8_name 50 = .ok (.getfield 10, 3) := by decide +kernel
theorem dX8_name_53 : decode cX8_name 53 = .ok (.iload_n 1, 1) := by decide +kernel
theorem dX8_name_54 : decode cX8_name 54 = .ok (.iload_n 2, 1) := by decide +kernel
theorem dX8_name_55 : decode cX8_name 55 = .ok (.invokevirtual 73, 3) := by decide +kernel
theorem dX8_name_58 : decode cX8_name 58 = .ok (.ireturn, 1) := by decide +kernel
theorem dX8_row_0 : decode cX8_row 0 = .ok (.iload_n 1, 1) := by decide +kernel
theorem dX8_row_1 : decode cX8_row 1 = .ok (.sipush 9999, 3) := by decide +kernel
theorem dX8_row_4 : decode cX8_row 4 = .ok (.invokestatic 62, 3) := by decide +kernel
theorem dX8_row_7 : decode cX8_row 7 = .ok (.ifCond .eq 6, 3) := by decide +kernel
theorem dX8_row_10 : decode cX8_row 10 = .ok (.bipush (-2), 2) := by decide +kernel
theorem dX8_row_12 : decode cX8_row 12 = .ok (.ireturn, 1) := by decide +kernel
theorem dX8_row_13 : decode cX8_row 13 = .ok (.aload_n 0, 1) := by decide +kernel
theorem dX8_row_14 : decode cX8_row 14 = .ok (.getfield 10, 3) := by decide +kernel
theorem dX8_row_17 : decode cX8_row 17 = .ok (.getfield 77, 3) := by decide +kernel
theorem dX8_row_20 : decode cX8_row 20 = .ok (.bipush 10, 2) := by decide +kernel
theorem dX8_row_22 : decode cX8_row 22 = .ok (.if_icmp .lt 6, 3) := by decide +kernel
theorem dX8_row_25 : decode cX8_row 25 = .ok (.bipush (-4), 2) := by decide +kernel
theorem dX8_row_27 : decode cX8_row 27 = .ok (.ireturn, 1) := by decide +kernel
theorem dX8_row_28 : decode cX8_row 28 = .ok (.aload_n 0, 1) := by decide +kernel
theorem dX8_row_29 : decode cX8_row 29 = .ok (.getfield 21, 3) := by decide +kernel
theorem dX8_row_32 : decode cX8_row 32 = .ok (.iconst 0, 1) := by decide +kernel
theorem dX8_row_33 : decode cX8_row 33 = .ok (.putfield 70, 3) := by decide +kernel
theorem dX8_row_36 : decode cX8_row 36 = .ok (.aload_n 0, 1) := by decide +kernel
theorem dX8_row_37 : decode cX8_row 37 = .ok (.getfield 10, 3) := by decide +kernel
theorem dX8_row_40 : decode cX8_row 40 = .ok (.iload_n 1, 1) := by decide +kernel
theorem dX8_row_41 : decode cX8_row 41 = .ok (.invokevirtual 80, 3) := by decide +kernel
theorem dX8_row_44 : decode cX8_row 44 = .ok (.ireturn, 1) := by decide +kernel
theorem dX8_factor_0 : decode cX8_factor 0 = .ok (.aload_n 0, 1) := by decide +kernel
theorem dX8_factor_1 : decode cX8_factor 1 = .ok (.getfield 10, 3) := by decide +kernel
theorem dX8_factor_4 : decode cX8_factor 4 = .ok (.iload_n 1, 1) := by decide +kernel
theorem dX8_factor_5 : decode cX8_factor 5 = .ok (.invokevirtual 84, 3) := by decide +kernel
theorem dX8_factor_8 : decode cX8_factor 8 = .ok (.ifCond .eq 14, 3) := by decide +kernel
theorem dX8_factor_11 : decode cX8_factor 11 = .ok (.aload_n 0, 1) := by decide +kernel
theorem dX8_factor_12 : decode cX8_factor 12 = .ok (.getfield 10, 3) := by decide +kernel
theorem dX8_factor_15 : decode cX8_factor 15 = .ok (.iload_n 2, 1) := by decide +kernel
theorem dX8_factor_16 : decode cX8_factor 16 = .ok (.invokevirtual 88, 3) := by decide +kernel
theorem dX8_factor_19 : decode cX8_factor 19 = .ok (.ifCond .ne 5, 3) := by decide +kernel
theorem dX8_factor_22 : decode cX8_factor 22 = .ok (.iconst (-1), 1) := by decide +kernel
theorem dX8_factor_23 : decode cX8_factor 23 = .ok (.ireturn, 1) := by decide +kernel
theorem dX8_factor_24 : decode cX8_factor 24 = .ok (.iload_n 3, 1) := by decide +kernel
theorem dX8_factor_25 : decode cX8_factor 25 = .ok (.bipush 50, 2) := by decide +kernel
theorem dX8_factor_27 : decode cX8_factor 27 = .ok (.invokestatic 62, 3) := by decide +kernel
theorem dX8_factor_30 : decode cX8_factor 30 = .ok (.ifCond .eq 6, 3) := by decide +kernel
theorem dX8_factor_33 : decode cX8_factor 33 = .ok (.bipush (-2), 2) := by decide +kernel
theorem dX8_factor_35 : decode cX8_factor 35 = .ok (.ireturn, 1) := by decide +kernel
theorem dX8_factor_36 : decode cX8_factor 36 = .ok (.aload_n 0, 1) := by decide +kernel
theorem dX8_factor_37 : decode cX8_factor 37 = .ok (.getfield 10, 3) := by decide +kernel
theorem dX8_factor_40 : decode cX8_factor 40 = .ok (.getfield 91, 3) := by decide +kernel
theorem dX8_factor_43 : decode cX8_factor 43 = .ok (.iload_n 1, 1) := by decide +kernel
theorem dX8_factor_44 : decode cX8_factor 44 = .ok (.aaload, 1) := by decide +kernel
theorem dX8_factor_45 : decode cX8_factor 45 = .ok (.iload_n 2, 1) := by decide +kernel
theorem dX8_factor_46 : decode cX8_factor 46 = .ok (.iaload, 1) := by decide +kernel
theorem dX8_factor_47 : decode cX8_factor 47 = .ok (.istore 4, 2) := by decide +kernel
theorem dX8_factor_49 : decode cX8_factor 49 = .ok (.aload_n 0, 1) := by decide +kernel
theorem dX8_factor_50 : decode cX8_factor 50 = .ok (.getfield 10, 3) := by decide +kernel
theorem dX8_factor_53 : decode cX8_factor 53 = .ok (.getfield 91, 3) := by decide +kernel
theorem dX8_factor_56 : decode cX8_factor 56 = .ok (.iload_n 1, 1) := by decide +kernel
theorem dX8_factor_57 : decode cX8_factor 57 = .ok (.aaload, 1) := by decide +kernel
theorem dX8_factor_58 : decode cX8_factor 58 = .ok (.iload_n 2, 1) := by decide +kernel
theorem dX8_factor_59 : decode cX8_factor 59 = .ok (.iload_n 3, 1) := by decide +kernel
theorem dX8_factor_60 : decode cX8_factor 60 = .ok (.iastore, 1) := by decide +kernel
theorem dX8_factor_61 : decode cX8_factor 61 = .ok (.aload_n 0, 1) := by decide +kernel
theorem dX8_factor_62 : decode cX8_factor 62 = .ok (.getfield 21, 3) := by decide +kernel
theorem dX8_factor_65 : decode cX8_factor 65 = .ok (.iconst 0, 1) := by decide +kernel
theorem dX8_factor_66 : decode cX8_factor 66 = .ok (.putfield 70, 3) := by decide +kernel
theorem dX8_factor_69 : decode cX8_factor 69 = .ok (.iload 4, 2) := by decide +kernel
theorem dX8_factor_71 : decode cX8_factor 71 = .ok (.ireturn, 1) := by decide +kernel
theorem dX8_point_0 : decode cX8_point 0 = .ok (.aload_n 0, 1) := by decide +kernel
theorem dX8_point_1 : decode cX8_point 1 = .ok (.getfield 10, 3) := by decide +kernel
theorem dX8_point_4 : decode cX8_point 4 = .ok (.iload_n 1, 1) := by decide +kernel
theorem dX8_point_5 : decode cX8_point 5 = .ok (.invokevirtual 88, 3) := by decide +kernel
theorem dX8_point_8 : decode cX8_point 8 = .ok (.ifCond .ne 5, 3) := by decide +kernel
theorem dX8_point_11 : decode cX8_point 11 = .ok (.iconst (-1), 1) := by decide +kernel
theorem dX8_point_12 : decode cX8_point 12 = .ok (.ireturn, 1) := by decide +kernel
theorem dX8_point_13 : decode cX8_point 13 = .ok (.iload_n 3, 1) := by decide +kernel
theorem dX8_point_14 : decode cX8_point 14 = .ok (.iconst 1, 1) := by decide +kernel
theorem dX8_point_15 : decode cX8_point 15 = .ok (.if_icmp .lt 19, 3) := by decide +kernel
theorem dX8_point_18 : decode cX8_point 18 = .ok (.iload_n 3, 1) := by decide +kernel
theorem dX8_point_19 : decode cX8_point 19 = .ok (.bipush 12, 2) := by decide +kernel
theorem dX8_point_21 : decode cX8_point 21 = .ok (.if_icmp .gt 13, 3) := by decide +kernel
theorem dX8_point_24 : decode cX8_point 24 = .ok (.iload_n 2, 1) := by decide +kernel
theorem dX8_point_25 : decode cX8_point 25 = .ok (.sipush 400, 3) := by decide +kernel
theorem dX8_point_28 : decode cX8_point 28 = .ok (.invokestatic 62, 3) := by decide +kernel
theorem dX8_point_31 : decode cX8_point 31 = .ok (.ifCond .eq 6, 3) := by decide +kernel
theorem dX8_point_34 : decode cX8_point 34 = .ok (.bipush (-2), 2) := by decide +kernel
theorem dX8_point_36 : decode cX8_point 36 = .ok (.ireturn, 1) := by decide +kernel
theorem dX8_point_37 : decode cX8_point 37 = .ok (.aload_n 0, 1) := by decide +kernel
theorem dX8_point_38 : decode cX8_point 38 = .ok (.getfield 10, 3) := by decide +kernel
theorem dX8_point_41 : decode cX8_point 41 = .ok (.getfield 95, 3) := by decide +kernel
theorem dX8_point_44 : decode cX8_point 44 = .ok (.iload_n 1, 1) := by decide +kernel
theorem dX8_point_45 : decode cX8_point 45 = .ok (.iload_n 2, 1) := by decide +kernel
theorem dX8_point_46 : decode cX8_point 46 = .ok (.i2l, 1) := by decide +kernel
theorem dX8_point_47 : decode cX8_point 47 = .ok (.sipush 27720, 3) := by decide +kernel
theorem dX8_point_50 : decode cX8_point 50 = .ok (.iload_n 3, 1) := by decide +kernel
theorem dX8_point_51 : decode cX8_point 51 = .ok (.idiv, 1) := by decide +kernel
theorem dX8_point_52 : decode cX8_point 52 = .ok (.i2l, 1) := by decide +kernel
theorem dX8_point_53 : decode cX8_point 53 = .ok (.lmul, 1) := by decide +kernel
theorem dX8_point_54 : decode cX8_point 54 = .ok (.lastore, 1) := by decide +kernel
theorem dX8_point_55 : decode cX8_point 55 = .ok (.iconst 1, 1) := by decide +kernel
theorem dX8_point_56 : decode cX8_point 56 = .ok (.ireturn, 1) := by decide +kernel
theorem dX8_find_0 : decode cX8_find 0 = .ok (.iload_n 1, 1) := by decide +kernel
theorem dX8_find_1 : decode cX8_find 1 = .ok (.ifCond .lt 8, 3) := by decide +kernel
theorem dX8_find_4 : decode cX8_find 4 = .ok (.iload_n 1, 1) := by decide +kernel
theorem dX8_find_5 : decode cX8_find 5 = .ok (.iconst 3, 1) := by decide +kernel
theorem dX8_find_6 : decode cX8_find 6 = .ok (.if_icmp .le 6, 3) := by decide +kernel
theorem dX8_find_9 : decode cX8_find 9 = .ok (.bipush (-2), 2) := by decide +kernel
theorem dX8_find_11 : decode cX8_find 11 = .ok (.ireturn, 1) := by decide +kernel
theorem dX8_find_12 : decode cX8_find 12 = .ok (.aload_n 0, 1) := by decide +kernel
theorem dX8_find_13 : decode cX8_find 13 = .ok (.getfield 21, 3) := by decide +kernel
theorem dX8_find_16 : decode cX8_find 16 = .ok (.getfield 70, 3) := by decide +kernel
theorem dX8_find_19 : decode cX8_find 19 = .ok (.istore_n 2, 1) := by decide +kernel
theorem dX8_find_20 : decode cX8_find 20 = .ok (.aload_n 0, 1) := by decide +kernel
theorem dX8_find_21 : decode cX8_find 21 = .ok (.getfield 21, 3) := by decide +kernel
theorem dX8_find_24 : decode cX8_find 24 = .ok (.iconst 1, 1) := by decide +kernel
theorem dX8_find_25 : decode cX8_find 25 = .ok (.putfield 99, 3) := by decide +kernel
theorem dX8_find_28 : decode cX8_find 28 = .ok (.iload_n 1, 1) := by decide +kernel
theorem dX8_find_29 : decode cX8_find 29 = .ok (.tableswitch 57 0 2 #[27, 37, 47], 27) := by decide +kernel
theorem dX8_find_56 : decode cX8_find 56 = .ok (.aload_n 0, 1) := by decide +kernel
theorem dX8_find_57 : decode cX8_find 57 = .ok (.getfield 30, 3) := by decide +kernel
theorem dX8_find_60 : decode cX8_find 60 = .ok (.invokevirtual 103, 3) := by decide +kernel
theorem dX8_find_63 : decode cX8_find 63 = .ok (.goto 30, 3) := by decide +kernel
theorem dX8_find_66 : decode cX8_find 66 = .ok (.aload_n 0, 1) := by decide +kernel
theorem dX8_find_67 : decode cX8_find 67 = .ok (.getfield 30, 3) := by decide +kernel
theorem dX8_find_70 : decode cX8_find 70 = .ok (.invokevirtual 106, 3) := by decide +kernel
theorem dX8_find_73 : decode cX8_find 73 = .ok (.goto 20, 3) := by decide +kernel
theorem dX8_find_76 : decode cX8_find 76 = .ok (.aload_n 0, 1) := by decide +kernel
theorem dX8_find_77 : decode cX8_find 77 = .ok (.getfield 37, 3) := by decide +kernel
theorem dX8_find_80 : decode cX8_find 80 = .ok (.invokevirtual 109, 3) := by decide +kernel
theorem dX8_find_83 : decode cX8_find 83 = .ok (.goto 10, 3) := by decide +kernel
theorem dX8_find_86 : decode cX8_find 86 = .ok (.aload_n 0, 1) := by decide +kernel
theorem dX8_find_87 : decode cX8_find 87 = .ok (.getfield 44, 3) := by decide +kernel
theorem dX8_find_90 : decode cX8_find 90 = .ok (.invokevirtual 112, 3) := by decide +kernel
theorem dX8_find_93 : decode cX8_find 93 = .ok (.aload_n 0, 1) := by decide +kernel
theorem dX8_find_94 : decode cX8_find 94 = .ok (.getfield 21, 3) := by decide +kernel
theorem dX8_find_97 : decode cX8_find 97 = .ok (.getfield 70, 3) := by decide +kernel
theorem dX8_find_100 : decode cX8_find 100 = .ok (.iload_n 2, 1) := by decide +kernel
theorem dX8_find_101 : decode cX8_find 101 = .ok (.isub, 1) := by decide +kernel
theorem dX8_find_102 : decode cX8_find 102 = .ok (.ireturn, 1) := by decide +kernel
theorem dX8_closed_0 : decode cX8_closed 0 = .ok (.aload_n 0, 1) := by decide +kernel
theorem dX8_closed_1 : decode cX8_closed 1 = .ok (.getfield 21, 3) := by decide +kernel
theorem dX8_closed_4 : decode cX8_closed 4 = .ok (.getfield 99, 3) := by decide +kernel
theorem dX8_closed_7 : decode cX8_closed 7 = .ok (.ifCond .eq 7, 3) := by decide +kernel
theorem dX8_closed_10 : decode cX8_closed 10 = .ok (.iconst 1, 1) := by decide +kernel
theorem dX8_closed_11 : decode cX8_closed 11 = .ok (.goto 4, 3) := by decide +kernel
theorem dX8_closed_14 : decode cX8_closed 14 = .ok (.iconst 0, 1) := by decide +kernel
theorem dX8_closed_15 : decode cX8_closed 15 = .ok (.ireturn, 1) := by decide +kernel
theorem dX8_cut_0 : decode cX8_cut 0 = .ok (.aload_n 0, 1) := by decide +kernel
theorem dX8_cut_1 : decode cX8_cut 1 = .ok (.getfield 21, 3) := by decide +kernel
theorem dX8_cut_4 : decode cX8_cut 4 = .ok (.iload_n 1, 1) := by decide +kernel
theorem dX8_cut_5 : decode cX8_cut 5 = .ok (.invokevirtual 115, 3) := by decide +kernel
theorem dX8_cut_8 : decode cX8_cut 8 = .ok (.ifCond .ne 13, 3) := by decide +kernel
theorem dX8_cut_11 : decode cX8_cut 11 = .ok (.new 118, 3) := by decide +kernel
theorem dX8_cut_14 : decode cX8_cut 14 = .ok (.dup, 1) := by decide +kernel
theorem dX8_cut_15 : decode cX8_cut 15 = .ok (.ldc 120, 2) := by decide +kernel
theorem dX8_cut_17 : decode cX8_cut 17 = .ok (.invokespecial 122, 3) := by decide +kernel
theorem dX8_cut_20 : decode cX8_cut 20 = .ok (.athrow, 1) := by decide +kernel
theorem dX8_cut_21 : decode cX8_cut 21 = .ok (.aload_n 0, 1) := by decide +kernel
theorem dX8_cut_22 : decode cX8_cut 22 = .ok (.getfield 21, 3) := by decide +kernel
theorem dX8_cut_25 : decode cX8_cut 25 = .ok (.getfield 125, 3) := by decide +kernel
theorem dX8_cut_28 : decode cX8_cut 28 = .ok (.iload_n 1, 1) := by decide +kernel
theorem dX8_cut_29 : decode cX8_cut 29 = .ok (.aaload, 1) := by decide +kernel
theorem dX8_cut_30 : decode cX8_cut 30 = .ok (.astore 4, 2) := by decide +kernel
theorem dX8_cut_32 : decode cX8_cut 32 = .ok (.iload_n 2, 1) := by decide +kernel
theorem dX8_cut_33 : decode cX8_cut 33 = .ok (.tableswitch 78 0 3 #[31, 60, 66, 72], 31) := by decide +kernel
theorem dX8_cut_64 : decode cX8_cut 64 = .ok (.aload_n 0, 1) := by decide +kernel
theorem dX8_cut_65 : decode cX8_cut 65 = .ok (.getfield 10, 3) := by decide +kernel
theorem dX8_cut_68 : decode cX8_cut 68 = .ok (.iload_n 3, 1) := by decide +kernel
theorem dX8_cut_69 : decode cX8_cut 69 = .ok (.invokevirtual 88, 3) := by decide +kernel
theorem dX8_cut_72 : decode cX8_cut 72 = .ok (.ifCond .ne 13, 3) := by decide +kernel
theorem dX8_cut_75 : decode cX8_cut 75 = .ok (.new 118, 3) := by decide +kernel
theorem dX8_cut_78 : decode cX8_cut 78 = .ok (.dup, 1) := by decide +kernel
theorem dX8_cut_79 : decode cX8_cut 79 = .ok (.ldc 129, 2) := by decide +kernel
theorem dX8_cut_81 : decode cX8_cut 81 = .ok (.invokespecial 122, 3) := by decide +kernel
theorem dX8_cut_84 : decode cX8_cut 84 = .ok (.athrow, 1) := by decide +kernel
theorem dX8_cut_85 : decode cX8_cut 85 = .ok (.aload 4, 2) := by decide +kernel
theorem dX8_cut_87 : decode cX8_cut 87 = .ok (.getfield 131, 3) := by decide +kernel
theorem dX8_cut_90 : decode cX8_cut 90 = .ok (.iload_n 3, 1) := by decide +kernel
theorem dX8_cut_91 : decode cX8_cut 91 = .ok (.iaload, 1) := by decide +kernel
theorem dX8_cut_92 : decode cX8_cut 92 = .ok (.ireturn, 1) := by decide +kernel
theorem dX8_cut_93 : decode cX8_cut 93 = .ok (.aload 4, 2) := by decide +kernel
theorem dX8_cut_95 : decode cX8_cut 95 = .ok (.getfield 136, 3) := by decide +kernel
theorem dX8_cut_98 : decode cX8_cut 98 = .ok (.ireturn, 1) := by decide +kernel
theorem dX8_cut_99 : decode cX8_cut 99 = .ok (.aload 4, 2) := by decide +kernel
theorem dX8_cut_101 : decode cX8_cut 101 = .ok (.getfield 139, 3) := by decide +kernel
theorem dX8_cut_104 : decode cX8_cut 104 = .ok (.ireturn, 1) := by decide +kernel
theorem dX8_cut_105 : decode cX8_cut 105 = .ok (.aload 4, 2) := by decide +kernel
theorem dX8_cut_107 : decode cX8_cut 107 = .ok (.getfield 142, 3) := by decide +kernel
theorem dX8_cut_110 : decode cX8_cut 110 = .ok (.ireturn, 1) := by decide +kernel
theorem dX8_cut_111 : decode cX8_cut 111 = .ok (.new 145, 3) := by decide +kernel
theorem dX8_cut_114 : decode cX8_cut 114 = .ok (.dup, 1) := by decide +kernel
theorem dX8_cut_115 : decode cX8_cut 115 = .ok (.ldc 147, 2) := by decide +kernel
theorem dX8_cut_117 : decode cX8_cut 117 = .ok (.invokespecial 149, 3) := by decide +kernel
theorem dX8_cut_120 : decode cX8_cut 120 = .ok (.athrow, 1) := by decide +kernel
theorem dX8_proof_0 : decode cX8_proof 0 = .ok (.aload_n 0, 1) := by decide +kernel
theorem dX8_proof_1 : decode cX8_proof 1 = .ok (.getfield 21, 3) := by decide +kernel
theorem dX8_proof_4 : decode cX8_proof 4 = .ok (.iload_n 1, 1) := by decide +kernel
theorem dX8_proof_5 : decode cX8_proof 5 = .ok (.invokevirtual 115, 3) := by decide +kernel
theorem dX8_proof_8 : decode cX8_proof 8 = .ok (.ifCond .ne 5, 3) := by decide +kernel
theorem dX8_proof_11 : decode cX8_proof 11 = .ok (.iconst (-1), 1) := by decide +kernel
theorem dX8_proof_12 : decode cX8_proof 12 = .ok (.ireturn, 1) := by decide +kernel
theorem dX8_proof_13 : decode cX8_proof 13 = .ok (.aload_n 0, 1) := by decide +kernel
theorem dX8_proof_14 : decode cX8_proof 14 = .ok (.getfield 21, 3) := by decide +kernel
theorem dX8_proof_17 : decode cX8_proof 17 = .ok (.getfield 125, 3) := by decide +kernel
theorem dX8_proof_20 : decode cX8_proof 20 = .ok (.iload_n 1, 1) := by decide +kernel
theorem dX8_proof_21 : decode cX8_proof 21 = .ok (.aaload, 1) := by decide +kernel
theorem dX8_proof_22 : decode cX8_proof 22 = .ok (.astore 4, 2) := by decide +kernel
theorem dX8_proof_24 : decode cX8_proof 24 = .ok (.aload_n 0, 1) := by decide +kernel
theorem dX8_proof_25 : decode cX8_proof 25 = .ok (.aload 4, 2) := by decide +kernel
theorem dX8_proof_27 : decode cX8_proof 27 = .ok (.iload_n 2, 1) := by decide +kernel
theorem dX8_proof_28 : decode cX8_proof 28 = .ok (.iload_n 3, 1) := by decide +kernel
theorem dX8_proof_29 : decode cX8_proof 29 = .ok (.invokevirtual 150, 3) := by decide +kernel
theorem dX8_proof_32 : decode cX8_proof 32 = .ok (.istore 5, 2) := by decide +kernel
theorem dX8_proof_34 : decode cX8_proof 34 = .ok (.iload 5, 2) := by decide +kernel
theorem dX8_proof_36 : decode cX8_proof 36 = .ok (.ifCond .ne 13, 3) := by decide +kernel
theorem dX8_proof_39 : decode cX8_proof 39 = .ok (.aload 4, 2) := by decide +kernel
theorem dX8_proof_41 : decode cX8_proof 41 = .ok (.iload_n 2, 1) := by decide +kernel
theorem dX8_proof_42 : decode cX8_proof 42 = .ok (.iload_n 3, 1) := by decide +kernel
theorem dX8_proof_43 : decode cX8_proof 43 = .ok (.invokevirtual 154, 3) := by decide +kernel
theorem dX8_proof_46 : decode cX8_proof 46 = .ok (.goto 5, 3) := by decide +kernel
theorem dX8_proof_49 : decode cX8_proof 49 = .ok (.iload 5, 2) := by decide +kernel
theorem dX8_proof_51 : decode cX8_proof 51 = .ok (.ireturn, 1) := by decide +kernel
theorem dX8_plant_0 : decode cX8_plant 0 = .ok (.aload_n 0, 1) := by decide +kernel
theorem dX8_plant_1 : decode cX8_plant 1 = .ok (.getfield 21, 3) := by decide +kernel
theorem dX8_plant_4 : decode cX8_plant 4 = .ok (.iload_n 1, 1) := by decide +kernel
theorem dX8_plant_5 : decode cX8_plant 5 = .ok (.invokevirtual 115, 3) := by decide +kernel
theorem dX8_plant_8 : decode cX8_plant 8 = .ok (.ifCond .ne 5, 3) := by decide +kernel
theorem dX8_plant_11 : decode cX8_plant 11 = .ok (.iconst (-1), 1) := by decide +kernel
theorem dX8_plant_12 : decode cX8_plant 12 = .ok (.ireturn, 1) := by decide +kernel
theorem dX8_plant_13 : decode cX8_plant 13 = .ok (.aload_n 0, 1) := by decide +kernel
theorem dX8_plant_14 : decode cX8_plant 14 = .ok (.getfield 21, 3) := by decide +kernel
theorem dX8_plant_17 : decode cX8_plant 17 = .ok (.getfield 125, 3) := by decide +kernel
theorem dX8_plant_20 : decode cX8_plant 20 = .ok (.iload_n 1, 1) := by decide +kernel
theorem dX8_plant_21 : decode cX8_plant 21 = .ok (.aaload, 1) := by decide +kernel
theorem dX8_plant_22 : decode cX8_plant 22 = .ok (.astore 5, 2) := by decide +kernel
theorem dX8_plant_24 : decode cX8_plant 24 = .ok (.aload_n 0, 1) := by decide +kernel
theorem dX8_plant_25 : decode cX8_plant 25 = .ok (.aload 5, 2) := by decide +kernel
theorem dX8_plant_27 : decode cX8_plant 27 = .ok (.iload_n 2, 1) := by decide +kernel
theorem dX8_plant_28 : decode cX8_plant 28 = .ok (.iload_n 3, 1) := by decide +kernel
theorem dX8_plant_29 : decode cX8_plant 29 = .ok (.invokevirtual 157, 3) := by decide +kernel
theorem dX8_plant_32 : decode cX8_plant 32 = .ok (.istore 6, 2) := by decide +kernel
theorem dX8_plant_34 : decode cX8_plant 34 = .ok (.iload 6, 2) := by decide +kernel
theorem dX8_plant_36 : decode cX8_plant 36 = .ok (.ifCond .eq 6, 3) := by decide +kernel
theorem dX8_plant_39 : decode cX8_plant 39 = .ok (.iload 6, 2) := by decide +kernel
theorem dX8_plant_41 : decode cX8_plant 41 = .ok (.ireturn, 1) := by decide +kernel
theorem dX8_plant_42 : decode cX8_plant 42 = .ok (.iload 4, 2) := by decide +kernel
theorem dX8_plant_44 : decode cX8_plant 44 = .ok (.sipush 1000, 3) := by decide +kernel
theorem dX8_plant_47 : decode cX8_plant 47 = .ok (.invokestatic 62, 3) := by decide +kernel
theorem dX8_plant_50 : decode cX8_plant 50 = .ok (.ifCond .eq 6, 3) := by decide +kernel
theorem dX8_plant_53 : decode cX8_plant 53 = .ok (.bipush (-2), 2) := by decide +kernel
theorem dX8_plant_55 : decode cX8_plant 55 = .ok (.ireturn, 1) := by decide +kernel
theorem dX8_plant_56 : decode cX8_plant 56 = .ok (.iload_n 2, 1) := by decide +kernel
theorem dX8_plant_57 : decode cX8_plant 57 = .ok (.lookupswitch 49 #[(0, 27), (1, 39)], 27) := by decide +kernel
theorem dX8_plant_84 : decode cX8_plant 84 = .ok (.aload 5, 2) := by decide +kernel
theorem dX8_plant_86 : decode cX8_plant 86 = .ok (.getfield 131, 3) := by decide +kernel
theorem dX8_plant_89 : decode cX8_plant 89 = .ok (.iload_n 3, 1) := by decide +kernel
theorem dX8_plant_90 : decode cX8_plant 90 = .ok (.iload 4, 2) := by decide +kernel
theorem dX8_plant_92 : decode cX8_plant 92 = .ok (.iastore, 1) := by decide +kernel
theorem dX8_plant_93 : decode cX8_plant 93 = .ok (.goto 24, 3) := by decide +kernel
theorem dX8_plant_96 : decode cX8_plant 96 = .ok (.aload 5, 2) := by decide +kernel
theorem dX8_plant_98 : decode cX8_plant 98 = .ok (.iload 4, 2) := by decide +kernel
theorem dX8_plant_100 : decode cX8_plant 100 = .ok (.putfield 136, 3) := by decide +kernel
theorem dX8_plant_103 : decode cX8_plant 103 = .ok (.goto 14, 3) := by decide +kernel
theorem dX8_plant_106 : decode cX8_plant 106 = .ok (.aload 5, 2) := by decide +kernel
theorem dX8_plant_108 : decode cX8_plant 108 = .ok (.iload_n 2, 1) := by decide +kernel
theorem dX8_plant_109 : decode cX8_plant 109 = .ok (.iconst 2, 1) := by decide +kernel
theorem dX8_plant_110 : decode cX8_plant 110 = .ok (.isub, 1) := by decide +kernel
theorem dX8_plant_111 : decode cX8_plant 111 = .ok (.iload_n 3, 1) := by decide +kernel
theorem dX8_plant_112 : decode cX8_plant 112 = .ok (.iload 4, 2) := by decide +kernel
theorem dX8_plant_114 : decode cX8_plant 114 = .ok (.invokevirtual 160, 3) := by decide +kernel
theorem dX8_plant_117 : decode cX8_plant 117 = .ok (.iconst 1, 1) := by decide +kernel
theorem dX8_plant_118 : decode cX8_plant 118 = .ok (.ireturn, 1) := by decide +kernel
theorem dX8_check_0 : decode cX8_check 0 = .ok (.aload_n 0, 1) := by decide +kernel
theorem dX8_check_1 : decode cX8_check 1 = .ok (.getfield 21, 3) := by decide +kernel
theorem dX8_check_4 : decode cX8_check 4 = .ok (.iload_n 1, 1) := by decide +kernel
theorem dX8_check_5 : decode cX8_check 5 = .ok (.invokevirtual 115, 3) := by decide +kernel
theorem dX8_check_8 : decode cX8_check 8 = .ok (.ifCond .ne 5, 3) := by decide +kernel
theorem dX8_check_11 : decode cX8_check 11 = .ok (.iconst (-1), 1) := by decide +kernel
theorem dX8_check_12 : decode cX8_check 12 = .ok (.ireturn, 1) := by decide +kernel
theorem dX8_check_13 : decode cX8_check 13 = .ok (.aload_n 0, 1) := by decide +kernel
theorem dX8_check_14 : decode cX8_check 14 = .ok (.getfield 51, 3) := by decide +kernel
theorem dX8_check_17 : decode cX8_check 17 = .ok (.aload_n 0, 1) := by decide +kernel
theorem dX8_check_18 : decode cX8_check 18 = .ok (.getfield 21, 3) := by decide +kernel
theorem dX8_check_21 : decode cX8_check 21 = .ok (.getfield 125, 3) := by decide +kernel
theorem dX8_check_24 : decode cX8_check 24 = .ok (.iload_n 1, 1) := by decide +kernel
theorem dX8_check_25 : decode cX8_check 25 = .ok (.aaload, 1) := by decide +kernel
theorem dX8_check_26 : decode cX8_check 26 = .ok (.invokevirtual 164, 3) := by decide +kernel
theorem dX8_check_29 : decode cX8_check 29 = .ok (.ifCond .eq 7, 3) := by decide +kernel
theorem dX8_check_32 : decode cX8_check 32 = .ok (.iconst 1, 1) := by decide +kernel
theorem dX8_check_33 : decode cX8_check 33 = .ok (.goto 4, 3) := by decide +kernel
theorem dX8_check_36 : decode cX8_check 36 = .ok (.iconst 0, 1) := by decide +kernel
theorem dX8_check_37 : decode cX8_check 37 = .ok (.ireturn, 1) := by decide +kernel
theorem dX8_strength_0 : decode cX8_strength 0 = .ok (.aload_n 0, 1) := by decide +kernel
theorem dX8_strength_1 : decode cX8_strength 1 = .ok (.getfield 21, 3) := by decide +kernel
theorem dX8_strength_4 : decode cX8_strength 4 = .ok (.iload_n 1, 1) := by decide +kernel
theorem dX8_strength_5 : decode cX8_strength 5 = .ok (.invokevirtual 115, 3) := by decide +kernel
theorem dX8_strength_8 : decode cX8_strength 8 = .ok (.ifCond .ne 13, 3) := by decide +kernel
theorem dX8_strength_11 : decode cX8_strength 11 = .ok (.new 118, 3) := by decide +kernel
theorem dX8_strength_14 : decode cX8_strength 14 = .ok (.dup, 1) := by decide +kernel
theorem dX8_strength_15 : decode cX8_strength 15 = .ok (.ldc 120, 2) := by decide +kernel
theorem dX8_strength_17 : decode cX8_strength 17 = .ok (.invokespecial 122, 3) := by decide +kernel
theorem dX8_strength_20 : decode cX8_strength 20 = .ok (.athrow, 1) := by decide +kernel
theorem dX8_strength_21 : decode cX8_strength 21 = .ok (.iload_n 2, 1) := by decide +kernel
theorem dX8_strength_22 : decode cX8_strength 22 = .ok (.ifCond .eq 18, 3) := by decide +kernel
theorem dX8_strength_25 : decode cX8_strength 25 = .ok (.iload_n 2, 1) := by decide +kernel
theorem dX8_strength_26 : decode cX8_strength 26 = .ok (.iconst 1, 1) := by decide +kernel
theorem dX8_strength_27 : decode cX8_strength 27 = .ok (.if_icmp .eq 13, 3) := by decide +kernel
theorem dX8_strength_30 : decode cX8_strength 30 = .ok (.new 145, 3) := by decide +kernel
theorem dX8_strength_33 : decode cX8_strength 33 = .ok (.dup, 1) := by decide +kernel
theorem dX8_strength_34 : decode cX8_strength 34 = .ok (.ldc 168, 2) := by decide +kernel
theorem dX8_strength_36 : decode cX8_strength 36 = .ok (.invokespecial 149, 3) := by decide +kernel
theorem dX8_strength_39 : decode cX8_strength 39 = .ok (.athrow, 1) := by decide +kernel
theorem dX8_strength_40 : decode cX8_strength 40 = .ok (.aload_n 0, 1) := by decide +kernel
theorem dX8_strength_41 : decode cX8_strength 41 = .ok (.getfield 10, 3) := by decide +kernel
theorem dX8_strength_44 : decode cX8_strength 44 = .ok (.aload_n 0, 1) := by decide +kernel
theorem dX8_strength_45 : decode cX8_strength 45 = .ok (.getfield 21, 3) := by decide +kernel
theorem dX8_strength_48 : decode cX8_strength 48 = .ok (.getfield 125, 3) := by decide +kernel
theorem dX8_strength_51 : decode cX8_strength 51 = .ok (.iload_n 1, 1) := by decide +kernel
theorem dX8_strength_52 : decode cX8_strength 52 = .ok (.aaload, 1) := by decide +kernel
theorem dX8_strength_53 : decode cX8_strength 53 = .ok (.invokevirtual 170, 3) := by decide +kernel
theorem dX8_strength_56 : decode cX8_strength 56 = .ok (.lstore_n 3, 1) := by decide +kernel
theorem dX8_strength_57 : decode cX8_strength 57 = .ok (.lload_n 3, 1) := by decide +kernel
theorem dX8_strength_58 : decode cX8_strength 58 = .ok (.invokestatic 174, 3) := by decide +kernel
theorem dX8_strength_61 : decode cX8_strength 61 = .ok (.lstore 5, 2) := by decide +kernel
theorem dX8_strength_63 : decode cX8_strength 63 = .ok (.iload_n 2, 1) := by decide +kernel
theorem dX8_strength_64 : decode cX8_strength 64 = .ok (.ifCond .ne 10, 3) := by decide +kernel
theorem dX8_strength_67 : decode cX8_strength 67 = .ok (.lload_n 3, 1) := by decide +kernel
theorem dX8_strength_68 : decode cX8_strength 68 = .ok (.lload 5, 2) := by decide +kernel
theorem dX8_strength_70 : decode cX8_strength 70 = .ok (.ldiv, 1) := by decide +kernel
theorem dX8_strength_71 : decode cX8_strength 71 = .ok (.goto 9, 3) := by decide +kernel
theorem dX8_strength_74 : decode cX8_strength 74 = .ok (.ldc2_w 178, 3) := by decide +kernel
theorem dX8_strength_77 : decode cX8_strength 77 = .ok (.lload 5, 2) := by decide +kernel
theorem dX8_strength_79 : decode cX8_strength 79 = .ok (.ldiv, 1) := by decide +kernel
theorem dX8_strength_80 : decode cX8_strength 80 = .ok (.lreturn, 1) := by decide +kernel
theorem dX8_best_0 : decode cX8_best 0 = .ok (.iconst (-1), 1) := by decide +kernel
theorem dX8_best_1 : decode cX8_best 1 = .ok (.istore_n 1, 1) := by decide +kernel
theorem dX8_best_2 : decode cX8_best 2 = .ok (.lconst 0, 1) := by decide +kernel
theorem dX8_best_3 : decode cX8_best 3 = .ok (.lstore_n 2, 1) := by decide +kernel
theorem dX8_best_4 : decode cX8_best 4 = .ok (.iconst 0, 1) := by decide +kernel
theorem dX8_best_5 : decode cX8_best 5 = .ok (.istore 4, 2) := by decide +kernel
theorem dX8_best_7 : decode cX8_best 7 = .ok (.iload 4, 2) := by decide +kernel
theorem dX8_best_9 : decode cX8_best 9 = .ok (.aload_n 0, 1) := by decide +kernel
theorem dX8_best_10 : decode cX8_best 10 = .ok (.getfield 21, 3) := by decide +kernel
theorem dX8_best_13 : decode cX8_best 13 = .ok (.getfield 70, 3) := by decide +kernel
theorem dX8_best_16 : decode cX8_best 16 = .ok (.if_icmp .ge 46, 3) := by decide +kernel
theorem dX8_best_19 : decode cX8_best 19 = .ok (.aload_n 0, 1) := by decide +kernel
theorem dX8_best_20 : decode cX8_best 20 = .ok (.getfield 10, 3) := by decide +kernel
theorem dX8_best_23 : decode cX8_best 23 = .ok (.aload_n 0, 1) := by decide +kernel
theorem dX8_best_24 : decode cX8_best 24 = .ok (.getfield 21, 3) := by decide +kernel
theorem dX8_best_27 : decode cX8_best 27 = .ok (.getfield 125, 3) := by decide +kernel
theorem dX8_best_30 : decode cX8_best 30 = .ok (.iload 4, 2) := by decide +kernel
theorem dX8_best_32 : decode cX8_best 32 = .ok (.aaload, 1) := by decide +kernel
theorem dX8_best_33 : decode cX8_best 33 = .ok (.invokevirtual 170, 3) := by decide +kernel
theorem dX8_best_36 : decode cX8_best 36 = .ok (.lstore 5, 2) := by decide +kernel
theorem dX8_best_38 : decode cX8_best 38 = .ok (.iload_n 1, 1) := by decide +kernel
theorem dX8_best_39 : decode cX8_best 39 = .ok (.iconst (-1), 1) := by decide +kernel
theorem dX8_best_40 : decode cX8_best 40 = .ok (.if_icmp .eq 10, 3) := by decide +kernel
theorem dX8_best_43 : decode cX8_best 43 = .ok (.lload 5, 2) := by decide +kernel
theorem dX8_best_45 : decode cX8_best 45 = .ok (.lload_n 2, 1) := by decide +kernel
theorem dX8_best_46 : decode cX8_best 46 = .ok (.lcmp, 1) := by decide +kernel
theorem dX8_best_47 : decode cX8_best 47 = .ok (.ifCond .le 9, 3) := by decide +kernel
theorem dX8_best_50 : decode cX8_best 50 = .ok (.iload 4, 2) := by decide +kernel
theorem dX8_best_52 : decode cX8_best 52 = .ok (.istore_n 1, 1) := by decide +kernel
theorem dX8_best_53 : decode cX8_best 53 = .ok (.lload 5, 2) := by decide +kernel
theorem dX8_best_55 : decode cX8_best 55 = .ok (.lstore_n 2, 1) := by decide +kernel
theorem dX8_best_56 : decode cX8_best 56 = .ok (.iinc 4 1, 3) := by decide +kernel
theorem dX8_best_59 : decode cX8_best 59 = .ok (.goto (-52), 3) := by decide +kernel
theorem dX8_best_62 : decode cX8_best 62 = .ok (.iload_n 1, 1) := by decide +kernel
theorem dX8_best_63 : decode cX8_best 63 = .ok (.ireturn, 1) := by decide +kernel
theorem dX8_holds_0 : decode cX8_holds 0 = .ok (.aload_n 0, 1) := by decide +kernel
theorem dX8_holds_1 : decode cX8_holds 1 = .ok (.getfield 21, 3) := by decide +kernel
theorem dX8_holds_4 : decode cX8_holds 4 = .ok (.iload_n 1, 1) := by decide +kernel
theorem dX8_holds_5 : decode cX8_holds 5 = .ok (.invokevirtual 115, 3) := by decide +kernel
theorem dX8_holds_8 : decode cX8_holds 8 = .ok (.ifCond .ne 5, 3) := by decide +kernel
theorem dX8_holds_11 : decode cX8_holds 11 = .ok (.iconst (-1), 1) := by decide +kernel
theorem dX8_holds_12 : decode cX8_holds 12 = .ok (.ireturn, 1) := by decide +kernel
theorem dX8_holds_13 : decode cX8_holds 13 = .ok (.aload_n 0, 1) := by decide +kernel
theorem dX8_holds_14 : decode cX8_holds 14 = .ok (.getfield 10, 3) := by decide +kernel
theorem dX8_holds_17 : decode cX8_holds 17 = .ok (.invokevirtual 180, 3) := by decide +kernel
theorem dX8_holds_20 : decode cX8_holds 20 = .ok (.lstore_n 2, 1) := by decide +kernel
theorem dX8_holds_21 : decode cX8_holds 21 = .ok (.lload_n 2, 1) := by decide +kernel
theorem dX8_holds_22 : decode cX8_holds 22 = .ok (.ldc2_w 184, 3) := by decide +kernel
theorem dX8_holds_25 : decode cX8_holds 25 = .ok (.lcmp, 1) := by decide +kernel
theorem dX8_holds_26 : decode cX8_holds 26 = .ok (.ifCond .le 6, 3) := by decide +kernel
theorem dX8_holds_29 : decode cX8_holds 29 = .ok (.bipush (-4), 2) := by decide +kernel
theorem dX8_holds_31 : decode cX8_holds 31 = .ok (.ireturn, 1) := by decide +kernel
theorem dX8_holds_32 : decode cX8_holds 32 = .ok (.aload_n 0, 1) := by decide +kernel
theorem dX8_holds_33 : decode cX8_holds 33 = .ok (.getfield 21, 3) := by decide +kernel
theorem dX8_holds_36 : decode cX8_holds 36 = .ok (.getfield 125, 3) := by decide +kernel
theorem dX8_holds_39 : decode cX8_holds 39 = .ok (.iload_n 1, 1) := by decide +kernel
theorem dX8_holds_40 : decode cX8_holds 40 = .ok (.aaload, 1) := by decide +kernel
theorem dX8_holds_41 : decode cX8_holds 41 = .ok (.astore 4, 2) := by decide +kernel
theorem dX8_holds_43 : decode cX8_holds 43 = .ok (.aload_n 0, 1) := by decide +kernel
theorem dX8_holds_44 : decode cX8_holds 44 = .ok (.getfield 58, 3) := by decide +kernel
theorem dX8_holds_47 : decode cX8_holds 47 = .ok (.invokevirtual 186, 3) := by decide +kernel
theorem dX8_holds_50 : decode cX8_holds 50 = .ok (.iconst 0, 1) := by decide +kernel
theorem dX8_holds_51 : decode cX8_holds 51 = .ok (.istore 5, 2) := by decide +kernel
theorem dX8_holds_53 : decode cX8_holds 53 = .ok (.iload 5, 2) := by decide +kernel
theorem dX8_holds_55 : decode cX8_holds 55 = .ok (.i2l, 1) := by decide +kernel
theorem dX8_holds_56 : decode cX8_holds 56 = .ok (.lload_n 2, 1) := by decide +kernel
theorem dX8_holds_57 : decode cX8_holds 57 = .ok (.lcmp, 1) := by decide +kernel
theorem dX8_holds_58 : decode cX8_holds 58 = .ok (.ifCond .ge 40, 3) := by decide +kernel
theorem dX8_holds_61 : decode cX8_holds 61 = .ok (.aload_n 0, 1) := by decide +kernel
theorem dX8_holds_62 : decode cX8_holds 62 = .ok (.getfield 58, 3) := by decide +kernel
theorem dX8_holds_65 : decode cX8_holds 65 = .ok (.invokevirtual 189, 3) := by decide +kernel
theorem dX8_holds_68 : decode cX8_holds 68 = .ok (.ifCond .eq 17, 3) := by decide +kernel
theorem dX8_holds_71 : decode cX8_holds 71 = .ok (.aload_n 0, 1) := by decide +kernel
theorem dX8_holds_72 : decode cX8_holds 72 = .ok (.getfield 58, 3) := by decide +kernel
theorem dX8_holds_75 : decode cX8_holds 75 = .ok (.aload 4, 2) := by decide +kernel
theorem dX8_holds_77 : decode cX8_holds 77 = .ok (.invokevirtual 193, 3) := by decide +kernel
theorem dX8_holds_80 : decode cX8_holds 80 = .ok (.ifCond .ne 5, 3) := by decide +kernel
theorem dX8_holds_83 : decode cX8_holds 83 = .ok (.iconst 0, 1) := by decide +kernel
theorem dX8_holds_84 : decode cX8_holds 84 = .ok (.ireturn, 1) := by decide +kernel
theorem dX8_holds_85 : decode cX8_holds 85 = .ok (.aload_n 0, 1) := by decide +kernel
theorem dX8_holds_86 : decode cX8_holds 86 = .ok (.getfield 58, 3) := by decide +kernel
theorem dX8_holds_89 : decode cX8_holds 89 = .ok (.invokevirtual 196, 3) := by decide +kernel
theorem dX8_holds_92 : decode cX8_holds 92 = .ok (.iinc 5 1, 3) := by decide +kernel
theorem dX8_holds_95 : decode cX8_holds 95 = .ok (.goto (-42), 3) := by decide +kernel
theorem dX8_holds_98 : decode cX8_holds 98 = .ok (.iconst 1, 1) := by decide +kernel
theorem dX8_holds_99 : decode cX8_holds 99 = .ok (.ireturn, 1) := by decide +kernel
theorem dX8_plans_0 : decode cX8_plans 0 = .ok (.aload_n 0, 1) := by decide +kernel
theorem dX8_plans_1 : decode cX8_plans 1 = .ok (.getfield 10, 3) := by decide +kernel
theorem dX8_plans_4 : decode cX8_plans 4 = .ok (.invokevirtual 180, 3) := by decide +kernel
theorem dX8_plans_7 : decode cX8_plans 7 = .ok (.lstore_n 1, 1) := by decide +kernel
theorem dX8_plans_8 : decode cX8_plans 8 = .ok (.lload_n 1, 1) := by decide +kernel
theorem dX8_plans_9 : decode cX8_plans 9 = .ok (.ldc2_w 184, 3) := by decide +kernel
theorem dX8_plans_12 : decode cX8_plans 12 = .ok (.lcmp, 1) := by decide +kernel
theorem dX8_plans_13 : decode cX8_plans 13 = .ok (.ifCond .le 6, 3) := by decide +kernel
theorem dX8_plans_16 : decode cX8_plans 16 = .ok (.bipush (-4), 2) := by decide +kernel
theorem dX8_plans_18 : decode cX8_plans 18 = .ok (.ireturn, 1) := by decide +kernel
theorem dX8_plans_19 : decode cX8_plans 19 = .ok (.iconst 0, 1) := by decide +kernel
theorem dX8_plans_20 : decode cX8_plans 20 = .ok (.istore_n 3, 1) := by decide +kernel
theorem dX8_plans_21 : decode cX8_plans 21 = .ok (.aload_n 0, 1) := by decide +kernel
theorem dX8_plans_22 : decode cX8_plans 22 = .ok (.getfield 58, 3) := by decide +kernel
theorem dX8_plans_25 : decode cX8_plans 25 = .ok (.invokevirtual 186, 3) := by decide +kernel
theorem dX8_plans_28 : decode cX8_plans 28 = .ok (.iconst 0, 1) := by decide +kernel
theorem dX8_plans_29 : decode cX8_plans 29 = .ok (.istore 4, 2) := by decide +kernel
theorem dX8_plans_31 : decode cX8_plans 31 = .ok (.iload 4, 2) := by decide +kernel
theorem dX8_plans_33 : decode cX8_plans 33 = .ok (.i2l, 1) := by decide +kernel
theorem dX8_plans_34 : decode cX8_plans 34 = .ok (.lload_n 1, 1) := by decide +kernel
theorem dX8_plans_35 : decode cX8_plans 35 = .ok (.lcmp, 1) := by decide +kernel
theorem dX8_plans_36 : decode cX8_plans 36 = .ok (.ifCond .ge 29, 3) := by decide +kernel
theorem dX8_plans_39 : decode cX8_plans 39 = .ok (.aload_n 0, 1) := by decide +kernel
theorem dX8_plans_40 : decode cX8_plans 40 = .ok (.getfield 58, 3) := by decide +kernel
theorem dX8_plans_43 : decode cX8_plans 43 = .ok (.invokevirtual 189, 3) := by decide +kernel
theorem dX8_plans_46 : decode cX8_plans 46 = .ok (.ifCond .eq 6, 3) := by decide +kernel
theorem dX8_plans_49 : decode cX8_plans 49 = .ok (.iinc 3 1, 3) := by decide +kernel
theorem dX8_plans_52 : decode cX8_plans 52 = .ok (.aload_n 0, 1) := by decide +kernel
theorem dX8_plans_53 : decode cX8_plans 53 = .ok (.getfield 58, 3) := by decide +kernel
theorem dX8_plans_56 : decode cX8_plans 56 = .ok (.invokevirtual 196, 3) := by decide +kernel
theorem dX8_plans_59 : decode cX8_plans 59 = .ok (.iinc 4 1, 3) := by decide +kernel
theorem dX8_plans_62 : decode cX8_plans 62 = .ok (.goto (-31), 3) := by decide +kernel
theorem dX8_plans_65 : decode cX8_plans 65 = .ok (.iload_n 3, 1) := by decide +kernel
theorem dX8_plans_66 : decode cX8_plans 66 = .ok (.ireturn, 1) := by decide +kernel
theorem dX8_turn_0 : decode cX8_turn 0 = .ok (.aload_n 0, 1) := by decide +kernel
theorem dX8_turn_1 : decode cX8_turn 1 = .ok (.getfield 21, 3) := by decide +kernel
theorem dX8_turn_4 : decode cX8_turn 4 = .ok (.invokevirtual 199, 3) := by decide +kernel
theorem dX8_turn_7 : decode cX8_turn 7 = .ok (.ireturn, 1) := by decide +kernel
theorem dX8_told_0 : decode cX8_told 0 = .ok (.iload_n 1, 1) := by decide +kernel
theorem dX8_told_1 : decode cX8_told 1 = .ok (.tableswitch 69 0 4 #[35, 43, 51, 59, 64], 35) := by decide +kernel
theorem dX8_told_36 : decode cX8_told 36 = .ok (.aload_n 0, 1) := by decide +kernel
theorem dX8_told_37 : decode cX8_told 37 = .ok (.getfield 10, 3) := by decide +kernel
theorem dX8_told_40 : decode cX8_told 40 = .ok (.getfield 66, 3) := by decide +kernel
theorem dX8_told_43 : decode cX8_told 43 = .ok (.ireturn, 1) := by decide +kernel
theorem dX8_told_44 : decode cX8_told 44 = .ok (.aload_n 0, 1) := by decide +kernel
theorem dX8_told_45 : decode cX8_told 45 = .ok (.getfield 10, 3) := by decide +kernel
theorem dX8_told_48 : decode cX8_told 48 = .ok (.getfield 77, 3) := by decide +kernel
theorem dX8_told_51 : decode cX8_told 51 = .ok (.ireturn, 1) := by decide +kernel
theorem dX8_told_52 : decode cX8_told 52 = .ok (.aload_n 0, 1) := by decide +kernel
theorem dX8_told_53 : decode cX8_told 53 = .ok (.getfield 21, 3) := by decide +kernel
theorem dX8_told_56 : decode cX8_told 56 = .ok (.getfield 70, 3) := by decide +kernel
theorem dX8_told_59 : decode cX8_told 59 = .ok (.ireturn, 1) := by decide +kernel
theorem dX8_told_60 : decode cX8_told 60 = .ok (.aload_n 0, 1) := by decide +kernel
theorem dX8_told_61 : decode cX8_told 61 = .ok (.invokevirtual 203, 3) := by decide +kernel
theorem dX8_told_64 : decode cX8_told 64 = .ok (.ireturn, 1) := by decide +kernel
theorem dX8_told_65 : decode cX8_told 65 = .ok (.aload_n 0, 1) := by decide +kernel
theorem dX8_told_66 : decode cX8_told 66 = .ok (.invokevirtual 206, 3) := by decide +kernel
theorem dX8_told_69 : decode cX8_told 69 = .ok (.ireturn, 1) := by decide +kernel
theorem dX8_told_70 : decode cX8_told 70 = .ok (.bipush (-2), 2) := by decide +kernel
theorem dX8_told_72 : decode cX8_told 72 = .ok (.ireturn, 1) := by decide +kernel
theorem dX8_clear_0 : decode cX8_clear 0 = .ok (.aload_n 0, 1) := by decide +kernel
theorem dX8_clear_1 : decode cX8_clear 1 = .ok (.getfield 10, 3) := by decide +kernel
theorem dX8_clear_4 : decode cX8_clear 4 = .ok (.iconst 0, 1) := by decide +kernel
theorem dX8_clear_5 : decode cX8_clear 5 = .ok (.putfield 66, 3) := by decide +kernel
theorem dX8_clear_8 : decode cX8_clear 8 = .ok (.aload_n 0, 1) := by decide +kernel
theorem dX8_clear_9 : decode cX8_clear 9 = .ok (.getfield 10, 3) := by decide +kernel
theorem dX8_clear_12 : decode cX8_clear 12 = .ok (.iconst 0, 1) := by decide +kernel
theorem dX8_clear_13 : decode cX8_clear 13 = .ok (.putfield 77, 3) := by decide +kernel
theorem dX8_clear_16 : decode cX8_clear 16 = .ok (.aload_n 0, 1) := by decide +kernel
theorem dX8_clear_17 : decode cX8_clear 17 = .ok (.getfield 21, 3) := by decide +kernel
theorem dX8_clear_20 : decode cX8_clear 20 = .ok (.iconst 0, 1) := by decide +kernel
theorem dX8_clear_21 : decode cX8_clear 21 = .ok (.putfield 70, 3) := by decide +kernel
theorem dX8_clear_24 : decode cX8_clear 24 = .ok (.aload_n 0, 1) := by decide +kernel
theorem dX8_clear_25 : decode cX8_clear 25 = .ok (.getfield 21, 3) := by decide +kernel
theorem dX8_clear_28 : decode cX8_clear 28 = .ok (.iconst 1, 1) := by decide +kernel
theorem dX8_clear_29 : decode cX8_clear 29 = .ok (.putfield 99, 3) := by decide +kernel
theorem dX8_clear_32 : decode cX8_clear 32 = .ok (.return_, 1) := by decide +kernel
theorem dX8_countBroken_0 : decode cX8_countBroken 0 = .ok (.iconst 0, 1) := by decide +kernel
theorem dX8_countBroken_1 : decode cX8_countBroken 1 = .ok (.istore_n 1, 1) := by decide +kernel
theorem dX8_countBroken_2 : decode cX8_countBroken 2 = .ok (.iconst 0, 1) := by decide +kernel
theorem dX8_countBroken_3 : decode cX8_countBroken 3 = .ok (.istore_n 2, 1) := by decide +kernel
theorem dX8_countBroken_4 : decode cX8_countBroken 4 = .ok (.iload_n 2, 1) := by decide +kernel
theorem dX8_countBroken_5 : decode cX8_countBroken 5 = .ok (.aload_n 0, 1) := by decide +kernel
theorem dX8_countBroken_6 : decode cX8_countBroken 6 = .ok (.getfield 21, 3) := by decide +kernel
theorem dX8_countBroken_9 : decode cX8_countBroken 9 = .ok (.getfield 70, 3) := by decide +kernel
theorem dX8_countBroken_12 : decode cX8_countBroken 12 = .ok (.if_icmp .ge 33, 3) := by decide +kernel
theorem dX8_countBroken_15 : decode cX8_countBroken 15 = .ok (.aload_n 0, 1) := by decide +kernel
theorem dX8_countBroken_16 : decode cX8_countBroken 16 = .ok (.getfield 10, 3) := by decide +kernel
theorem dX8_countBroken_19 : decode cX8_countBroken 19 = .ok (.aload_n 0, 1) := by decide +kernel
theorem dX8_countBroken_20 : decode cX8_countBroken 20 = .ok (.getfield 21, 3) := by decide +kernel
theorem dX8_countBroken_23 : decode cX8_countBroken 23 = .ok (.getfield 125, 3) := by decide +kernel
theorem dX8_countBroken_26 : decode cX8_countBroken 26 = .ok (.iload_n 2, 1) := by decide +kernel
theorem dX8_countBroken_27 : decode cX8_countBroken 27 = .ok (.aaload, 1) := by decide +kernel
theorem dX8_countBroken_28 : decode cX8_countBroken 28 = .ok (.invokevirtual 170, 3) := by decide +kernel
theorem dX8_countBroken_31 : decode cX8_countBroken 31 = .ok (.lconst 0, 1) := by decide +kernel
theorem dX8_countBroken_32 : decode cX8_countBroken 32 = .ok (.lcmp, 1) := by decide +kernel
theorem dX8_countBroken_33 : decode cX8_countBroken 33 = .ok (.ifCond .le 6, 3) := by decide +kernel
theorem dX8_countBroken_36 : decode cX8_countBroken 36 = .ok (.iinc 1 1, 3) := by decide +kernel
theorem dX8_countBroken_39 : decode cX8_countBroken 39 = .ok (.iinc 2 1, 3) := by decide +kernel
theorem dX8_countBroken_42 : decode cX8_countBroken 42 = .ok (.goto (-38), 3) := by decide +kernel
theorem dX8_countBroken_45 : decode cX8_countBroken 45 = .ok (.iload_n 1, 1) := by decide +kernel
theorem dX8_countBroken_46 : decode cX8_countBroken 46 = .ok (.ireturn, 1) := by decide +kernel
theorem dX8_countAccepted_0 : decode cX8_countAccepted 0 = .ok (.iconst 0, 1) := by decide +kernel
theorem dX8_countAccepted_1 : decode cX8_countAccepted 1 = .ok (.istore_n 1, 1) := by decide +kernel
theorem dX8_countAccepted_2 : decode cX8_countAccepted 2 = .ok (.iconst 0, 1) := by decide +kernel
theorem dX8_countAccepted_3 : decode cX8_countAccepted 3 = .ok (.istore_n 2, 1) := by decide +kernel
theorem dX8_countAccepted_4 : decode cX8_countAccepted 4 = .ok (.iload_n 2, 1) := by decide +kernel
theorem dX8_countAccepted_5 : decode cX8_countAccepted 5 = .ok (.aload_n 0, 1) := by decide +kernel
theorem dX8_countAccepted_6 : decode cX8_countAccepted 6 = .ok (.getfield 21, 3) := by decide +kernel
theorem dX8_countAccepted_9 : decode cX8_countAccepted 9 = .ok (.getfield 70, 3) := by decide +kernel
theorem dX8_countAccepted_12 : decode cX8_countAccepted 12 = .ok (.if_icmp .ge 31, 3) := by decide +kernel
theorem dX8_countAccepted_15 : decode cX8_countAccepted 15 = .ok (.aload_n 0, 1) := by decide +kernel
theorem dX8_countAccepted_16 : decode cX8_countAccepted 16 = .ok (.getfield 51, 3) := by decide +kernel
theorem dX8_countAccepted_19 : decode cX8_countAccepted 19 = .ok (.aload_n 0, 1) := by decide +kernel
theorem dX8_countAccepted_20 : decode cX8_countAccepted 20 = .ok (.getfield 21, 3) := by decide +kernel
theorem dX8_countAccepted_23 : decode cX8_countAccepted 23 = .ok (.getfield 125, 3) := by decide +kernel
theorem dX8_countAccepted_26 : decode cX8_countAccepted 26 = .ok (.iload_n 2, 1) := by decide +kernel
theorem dX8_countAccepted_27 : decode cX8_countAccepted 27 = .ok (.aaload, 1) := by decide +kernel
theorem dX8_countAccepted_28 : decode cX8_countAccepted 28 = .ok (.invokevirtual 164, 3) := by decide +kernel
theorem dX8_countAccepted_31 : decode cX8_countAccepted 31 = .ok (.ifCond .eq 6, 3) := by decide +kernel
theorem dX8_countAccepted_34 : decode cX8_countAccepted 34 = .ok (.iinc 1 1, 3) := by decide +kernel
theorem dX8_countAccepted_37 : decode cX8_countAccepted 37 = .ok (.iinc 2 1, 3) := by decide +kernel
theorem dX8_countAccepted_40 : decode cX8_countAccepted 40 = .ok (.goto (-36), 3) := by decide +kernel
theorem dX8_countAccepted_43 : decode cX8_countAccepted 43 = .ok (.iload_n 1, 1) := by decide +kernel
theorem dX8_countAccepted_44 : decode cX8_countAccepted 44 = .ok (.ireturn, 1) := by decide +kernel
theorem dX8_refusalOfPlanted_0 : decode cX8_refusalOfPlanted 0 = .ok (.iload_n 2, 1) := by decide +kernel
theorem dX8_refusalOfPlanted_1 : decode cX8_refusalOfPlanted 1 = .ok (.tableswitch 77 0 5 #[39, 56, 67, 67, 67, 67], 39) := by decide +kernel
theorem dX8_refusalOfPlanted_40 : decode cX8_refusalOfPlanted 40 = .ok (.aload_n 0, 1) := by decide +kernel
theorem dX8_refusalOfPlanted_41 : decode cX8_refusalOfPlanted 41 = .ok (.getfield 10, 3) := by decide +kernel
theorem dX8_refusalOfPlanted_44 : decode cX8_refusalOfPlanted 44 = .ok (.iload_n 3, 1) := by decide +kernel
theorem dX8_refusalOfPlanted_45 : decode cX8_refusalOfPlanted 45 = .ok (.invokevirtual 88, 3) := by decide +kernel
theorem dX8_refusalOfPlanted_48 : decode cX8_refusalOfPlanted 48 = .ok (.ifCond .eq 7, 3) := by decide +kernel
theorem dX8_refusalOfPlanted_51 : decode cX8_refusalOfPlanted 51 = .ok (.iconst 0, 1) := by decide +kernel
theorem dX8_refusalOfPlanted_52 : decode cX8_refusalOfPlanted 52 = .ok (.goto 4, 3) := by decide +kernel
theorem dX8_refusalOfPlanted_55 : decode cX8_refusalOfPlanted 55 = .ok (.iconst (-1), 1) := by decide +kernel
theorem dX8_refusalOfPlanted_56 : decode cX8_refusalOfPlanted 56 = .ok (.ireturn, 1) := by decide +kernel
theorem dX8_refusalOfPlanted_57 : decode cX8_refusalOfPlanted 57 = .ok (.iload_n 3, 1) := by decide +kernel
theorem dX8_refusalOfPlanted_58 : decode cX8_refusalOfPlanted 58 = .ok (.ifCond .ne 7, 3) := by decide +kernel
theorem dX8_refusalOfPlanted_61 : decode cX8_refusalOfPlanted 61 = .ok (.iconst 0, 1) := by decide +kernel
theorem dX8_refusalOfPlanted_62 : decode cX8_refusalOfPlanted 62 = .ok (.goto 5, 3) := by decide +kernel
theorem dX8_refusalOfPlanted_65 : decode cX8_refusalOfPlanted 65 = .ok (.bipush (-2), 2) := by decide +kernel
theorem dX8_refusalOfPlanted_67 : decode cX8_refusalOfPlanted 67 = .ok (.ireturn, 1) := by decide +kernel
theorem dX8_refusalOfPlanted_68 : decode cX8_refusalOfPlanted 68 = .ok (.aload_n 0, 1) := by decide +kernel
theorem dX8_refusalOfPlanted_69 : decode cX8_refusalOfPlanted 69 = .ok (.aload_n 1, 1) := by decide +kernel
theorem dX8_refusalOfPlanted_70 : decode cX8_refusalOfPlanted 70 = .ok (.iload_n 2, 1) := by decide +kernel
theorem dX8_refusalOfPlanted_71 : decode cX8_refusalOfPlanted 71 = .ok (.iconst 2, 1) := by decide +kernel
theorem dX8_refusalOfPlanted_72 : decode cX8_refusalOfPlanted 72 = .ok (.isub, 1) := by decide +kernel
theorem dX8_refusalOfPlanted_73 : decode cX8_refusalOfPlanted 73 = .ok (.iload_n 3, 1) := by decide +kernel
theorem dX8_refusalOfPlanted_74 : decode cX8_refusalOfPlanted 74 = .ok (.invokevirtual 150, 3) := by decide +kernel
theorem dX8_refusalOfPlanted_77 : decode cX8_refusalOfPlanted 77 = .ok (.ireturn, 1) := by decide +kernel
theorem dX8_refusalOfPlanted_78 : decode cX8_refusalOfPlanted 78 = .ok (.bipush (-2), 2) := by decide +kernel
theorem dX8_refusalOfPlanted_80 : decode cX8_refusalOfPlanted 80 = .ok (.ireturn, 1) := by decide +kernel
theorem dX8_refusalOfShown_0 : decode cX8_refusalOfShown 0 = .ok (.iload_n 2, 1) := by decide +kernel
theorem dX8_refusalOfShown_1 : decode cX8_refusalOfShown 1 = .ok (.ifCond .lt 8, 3) := by decide +kernel
theorem dX8_refusalOfShown_4 : decode cX8_refusalOfShown 4 = .ok (.iload_n 2, 1) := by decide +kernel
theorem dX8_refusalOfShown_5 : decode cX8_refusalOfShown 5 = .ok (.iconst 3, 1) := by decide +kernel
theorem dX8_refusalOfShown_6 : decode cX8_refusalOfShown 6 = .ok (.if_icmp .le 6, 3) := by decide +kernel
theorem dX8_refusalOfShown_9 : decode cX8_refusalOfShown 9 = .ok (.bipush (-2), 2) := by decide +kernel
theorem dX8_refusalOfShown_11 : decode cX8_refusalOfShown 11 = .ok (.ireturn, 1) := by decide +kernel
theorem dX8_refusalOfShown_12 : decode cX8_refusalOfShown 12 = .ok (.aload_n 1, 1) := by decide +kernel
theorem dX8_refusalOfShown_13 : decode cX8_refusalOfShown 13 = .ok (.getfield 139, 3) := by decide +kernel
theorem dX8_refusalOfShown_16 : decode cX8_refusalOfShown 16 = .ok (.iconst 3, 1) := by decide +kernel
theorem dX8_refusalOfShown_17 : decode cX8_refusalOfShown 17 = .ok (.if_icmp .ne 5, 3) := by decide +kernel
theorem dX8_refusalOfShown_20 : decode cX8_refusalOfShown 20 = .ok (.iconst (-1), 1) := by decide +kernel
theorem dX8_refusalOfShown_21 : decode cX8_refusalOfShown 21 = .ok (.ireturn, 1) := by decide +kernel
theorem dX8_refusalOfShown_22 : decode cX8_refusalOfShown 22 = .ok (.aload_n 1, 1) := by decide +kernel
theorem dX8_refusalOfShown_23 : decode cX8_refusalOfShown 23 = .ok (.getfield 139, 3) := by decide +kernel
theorem dX8_refusalOfShown_26 : decode cX8_refusalOfShown 26 = .ok (.iconst 2, 1) := by decide +kernel
theorem dX8_refusalOfShown_27 : decode cX8_refusalOfShown 27 = .ok (.if_icmp .ne 9, 3) := by decide +kernel
theorem dX8_refusalOfShown_30 : decode cX8_refusalOfShown 30 = .ok (.iload_n 2, 1) := by decide +kernel
theorem dX8_refusalOfShown_31 : decode cX8_refusalOfShown 31 = .ok (.ifCond .eq 5, 3) := by decide +kernel
theorem dX8_refusalOfShown_34 : decode cX8_refusalOfShown 34 = .ok (.iconst (-1), 1) := by decide +kernel
theorem dX8_refusalOfShown_35 : decode cX8_refusalOfShown 35 = .ok (.ireturn, 1) := by decide +kernel
theorem dX8_refusalOfShown_36 : decode cX8_refusalOfShown 36 = .ok (.aload_n 1, 1) := by decide +kernel
theorem dX8_refusalOfShown_37 : decode cX8_refusalOfShown 37 = .ok (.getfield 139, 3) := by decide +kernel
theorem dX8_refusalOfShown_40 : decode cX8_refusalOfShown 40 = .ok (.iconst 2, 1) := by decide +kernel
theorem dX8_refusalOfShown_41 : decode cX8_refusalOfShown 41 = .ok (.if_icmp .eq 8, 3) := by decide +kernel
theorem dX8_refusalOfShown_44 : decode cX8_refusalOfShown 44 = .ok (.iload_n 2, 1) := by decide +kernel
theorem dX8_refusalOfShown_45 : decode cX8_refusalOfShown 45 = .ok (.iconst 3, 1) := by decide +kernel
theorem dX8_refusalOfShown_46 : decode cX8_refusalOfShown 46 = .ok (.if_icmp .ne 14, 3) := by decide +kernel
theorem dX8_refusalOfShown_49 : decode cX8_refusalOfShown 49 = .ok (.iload_n 3, 1) := by decide +kernel
theorem dX8_refusalOfShown_50 : decode cX8_refusalOfShown 50 = .ok (.ifCond .ne 7, 3) := by decide +kernel
theorem dX8_refusalOfShown_53 : decode cX8_refusalOfShown 53 = .ok (.iconst 0, 1) := by decide +kernel
theorem dX8_refusalOfShown_54 : decode cX8_refusalOfShown 54 = .ok (.goto 5, 3) := by decide +kernel
theorem dX8_refusalOfShown_57 : decode cX8_refusalOfShown 57 = .ok (.bipush (-2), 2) := by decide +kernel
theorem dX8_refusalOfShown_59 : decode cX8_refusalOfShown 59 = .ok (.ireturn, 1) := by decide +kernel
theorem dX8_refusalOfShown_60 : decode cX8_refusalOfShown 60 = .ok (.iload_n 2, 1) := by decide +kernel
theorem dX8_refusalOfShown_61 : decode cX8_refusalOfShown 61 = .ok (.ifCond .ne 14, 3) := by decide +kernel
theorem dX8_refusalOfShown_64 : decode cX8_refusalOfShown 64 = .ok (.aload_n 0, 1) := by decide +kernel
theorem dX8_refusalOfShown_65 : decode cX8_refusalOfShown 65 = .ok (.getfield 10, 3) := by decide +kernel
theorem dX8_refusalOfShown_68 : decode cX8_refusalOfShown 68 = .ok (.iload_n 3, 1) := by decide +kernel
theorem dX8_refusalOfShown_69 : decode cX8_refusalOfShown 69 = .ok (.invokevirtual 84, 3) := by decide +kernel
theorem dX8_refusalOfShown_72 : decode cX8_refusalOfShown 72 = .ok (.goto 11, 3) := by decide +kernel
theorem dX8_refusalOfShown_75 : decode cX8_refusalOfShown 75 = .ok (.aload_n 0, 1) := by decide +kernel
theorem dX8_refusalOfShown_76 : decode cX8_refusalOfShown 76 = .ok (.getfield 10, 3) := by decide +kernel
theorem dX8_refusalOfShown_79 : decode cX8_refusalOfShown 79 = .ok (.iload_n 3, 1) := by decide +kernel
theorem dX8_refusalOfShown_80 : decode cX8_refusalOfShown 80 = .ok (.invokevirtual 88, 3) := by decide +kernel
theorem dX8_refusalOfShown_83 : decode cX8_refusalOfShown 83 = .ok (.istore 4, 2) := by decide +kernel
theorem dX8_refusalOfShown_85 : decode cX8_refusalOfShown 85 = .ok (.iload 4, 2) := by decide +kernel
theorem dX8_refusalOfShown_87 : decode cX8_refusalOfShown 87 = .ok (.ifCond .eq 7, 3) := by decide +kernel
theorem dX8_refusalOfShown_90 : decode cX8_refusalOfShown 90 = .ok (.iconst 0, 1) := by decide +kernel
theorem dX8_refusalOfShown_91 : decode cX8_refusalOfShown 91 = .ok (.goto 4, 3) := by decide +kernel
theorem dX8_refusalOfShown_94 : decode cX8_refusalOfShown 94 = .ok (.iconst (-1), 1) := by decide +kernel
theorem dX8_refusalOfShown_95 : decode cX8_refusalOfShown 95 = .ok (.ireturn, 1) := by decide +kernel
theorem dX8_isBeyond_0 : decode cX8_isBeyond 0 = .ok (.iload_n 0, 1) := by decide +kernel
theorem dX8_isBeyond_1 : decode cX8_isBeyond 1 = .ok (.iload_n 1, 1) := by decide +kernel
theorem dX8_isBeyond_2 : decode cX8_isBeyond 2 = .ok (.ineg, 1) := by decide +kernel
theorem dX8_isBeyond_3 : decode cX8_isBeyond 3 = .ok (.if_icmp .lt 8, 3) := by decide +kernel
theorem dX8_isBeyond_6 : decode cX8_isBeyond 6 = .ok (.iload_n 0, 1) := by decide +kernel
theorem dX8_isBeyond_7 : decode cX8_isBeyond 7 = .ok (.iload_n 1, 1) := by decide +kernel
theorem dX8_isBeyond_8 : decode cX8_isBeyond 8 = .ok (.if_icmp .le 7, 3) := by decide +kernel
theorem dX8_isBeyond_11 : decode cX8_isBeyond 11 = .ok (.iconst 1, 1) := by decide +kernel
theorem dX8_isBeyond_12 : decode cX8_isBeyond 12 = .ok (.goto 4, 3) := by decide +kernel
theorem dX8_isBeyond_15 : decode cX8_isBeyond 15 = .ok (.iconst 0, 1) := by decide +kernel
theorem dX8_isBeyond_16 : decode cX8_isBeyond 16 = .ok (.ireturn, 1) := by decide +kernel
theorem dX8_commonWithScale_0 : decode cX8_commonWithScale 0 = .ok (.ldc2_w 178, 3) := by decide +kernel
theorem dX8_commonWithScale_3 : decode cX8_commonWithScale 3 = .ok (.lstore_n 2, 1) := by decide +kernel
theorem dX8_commonWithScale_4 : decode cX8_commonWithScale 4 = .ok (.lload_n 0, 1) := by decide +kernel
theorem dX8_commonWithScale_5 : decode cX8_commonWithScale 5 = .ok (.invokestatic 209, 3) := by decide +kernel
theorem dX8_commonWithScale_8 : decode cX8_commonWithScale 8 = .ok (.ldc2_w 178, 3) := by decide +kernel
theorem dX8_commonWithScale_11 : decode cX8_commonWithScale 11 = .ok (.lrem, 1) := by decide +kernel
theorem dX8_commonWithScale_12 : decode cX8_commonWithScale 12 = .ok (.lstore 4, 2) := by decide +kernel
theorem dX8_commonWithScale_14 : decode cX8_commonWithScale 14 = .ok (.iconst 0, 1) := by decide +kernel
theorem dX8_commonWithScale_15 : decode cX8_commonWithScale 15 = .ok (.istore 6, 2) := by decide +kernel
theorem dX8_commonWithScale_17 : decode cX8_commonWithScale 17 = .ok (.iload 6, 2) := by decide +kernel
theorem dX8_commonWithScale_19 : decode cX8_commonWithScale 19 = .ok (.bipush 100, 2) := by decide +kernel
theorem dX8_commonWithScale_21 : decode cX8_commonWithScale 21 = .ok (.if_icmp .ge 29, 3) := by decide +kernel
theorem dX8_commonWithScale_24 : decode cX8_commonWithScale 24 = .ok (.lload 4, 2) := by decide +kernel
theorem dX8_commonWithScale_26 : decode cX8_commonWithScale 26 = .ok (.lconst 0, 1) := by decide +kernel
theorem dX8_commonWithScale_27 : decode cX8_commonWithScale 27 = .ok (.lcmp, 1) := by decide +kernel
theorem dX8_commonWithScale_28 : decode cX8_commonWithScale 28 = .ok (.ifCond .eq 22, 3) := by decide +kernel
theorem dX8_commonWithScale_31 : decode cX8_commonWithScale 31 = .ok (.lload_n 2, 1) := by decide +kernel
theorem dX8_commonWithScale_32 : decode cX8_commonWithScale 32 = .ok (.lload 4, 2) := by decide +kernel
theorem dX8_commonWithScale_34 : decode cX8_commonWithScale 34 = .ok (.lrem, 1) := by decide +kernel
theorem dX8_commonWithScale_35 : decode cX8_commonWithScale 35 = .ok (.lstore 7, 2) := by decide +kernel
theorem dX8_commonWithScale_37 : decode cX8_commonWithScale 37 = .ok (.lload 4, 2) := by decide +kernel
theorem dX8_commonWithScale_39 : decode cX8_commonWithScale 39 = .ok (.lstore_n 2, 1) := by decide +kernel
theorem dX8_commonWithScale_40 : decode cX8_commonWithScale 40 = .ok (.lload 7, 2) := by decide +kernel
theorem dX8_commonWithScale_42 : decode cX8_commonWithScale 42 = .ok (.lstore 4, 2) := by decide +kernel
theorem dX8_commonWithScale_44 : decode cX8_commonWithScale 44 = .ok (.iinc 6 1, 3) := by decide +kernel
theorem dX8_commonWithScale_47 : decode cX8_commonWithScale 47 = .ok (.goto (-30), 3) := by decide +kernel
theorem dX8_commonWithScale_50 : decode cX8_commonWithScale 50 = .ok (.lload_n 2, 1) := by decide +kernel
theorem dX8_commonWithScale_51 : decode cX8_commonWithScale 51 = .ok (.lconst 1, 1) := by decide +kernel
theorem dX8_commonWithScale_52 : decode cX8_commonWithScale 52 = .ok (.invokestatic 214, 3) := by decide +kernel
theorem dX8_commonWithScale_55 : decode cX8_commonWithScale 55 = .ok (.lreturn, 1) := by decide +kernel
theorem dX8_isIn_0 : decode cX8_isIn 0 = .ok (.iload_n 0, 1) := by decide +kernel
theorem dX8_isIn_1 : decode cX8_isIn 1 = .ok (.iload_n 1, 1) := by decide +kernel
theorem dX8_isIn_2 : decode cX8_isIn 2 = .ok (.ishr, 1) := by decide +kernel
theorem dX8_isIn_3 : decode cX8_isIn 3 = .ok (.iconst 1, 1) := by decide +kernel
theorem dX8_isIn_4 : decode cX8_isIn 4 = .ok (.iand, 1) := by decide +kernel
theorem dX8_isIn_5 : decode cX8_isIn 5 = .ok (.iconst 1, 1) := by decide +kernel
theorem dX8_isIn_6 : decode cX8_isIn 6 = .ok (.if_icmp .ne 7, 3) := by decide +kernel
theorem dX8_isIn_9 : decode cX8_isIn 9 = .ok (.iconst 1, 1) := by decide +kernel
theorem dX8_isIn_10 : decode cX8_isIn 10 = .ok (.goto 4, 3) := by decide +kernel
theorem dX8_isIn_13 : decode cX8_isIn 13 = .ok (.iconst 0, 1) := by decide +kernel
theorem dX8_isIn_14 : decode cX8_isIn 14 = .ok (.ireturn, 1) := by decide +kernel
