theorem dd_MO_init_0 : decode bb_MO_init 0 = .ok (.aload_n 0, 1) := by decide +kernel
theorem dd_MO_init_1 : decode bb_MO_init 1 = .ok (.invokespecial 1, 3) := by decide +kernel
theorem dd_MO_init_4 : decode bb_MO_init 4 = .ok (.aload_n 0, 1) := by decide +kernel
theorem dd_MO_init_5 : decode bb_MO_init 5 = .ok (.sipush 240, 3) := by decide +kernel
theorem dd_MO_init_8 : decode bb_MO_init 8 = .ok (.newarray .int, 2) := by decide +kernel
theorem dd_MO_init_10 : decode bb_MO_init 10 = .ok (.putfield 7, 3) := by decide +kernel
theorem dd_MO_init_13 : decode bb_MO_init 13 = .ok (.aload_n 0, 1) := by decide +kernel
theorem dd_MO_init_14 : decode bb_MO_init 14 = .ok (.sipush 240, 3) := by decide +kernel
theorem dd_MO_init_17 : decode bb_MO_init 17 = .ok (.newarray .boolean, 2) := by decide +kernel
theorem dd_MO_init_19 : decode bb_MO_init 19 = .ok (.putfield 13, 3) := by decide +kernel
theorem dd_MO_init_22 : decode bb_MO_init 22 = .ok (.aload_n 0, 1) := by decide +kernel
theorem dd_MO_init_23 : decode bb_MO_init 23 = .ok (.sipush 240, 3) := by decide +kernel
theorem dd_MO_init_26 : decode bb_MO_init 26 = .ok (.newarray .boolean, 2) := by decide +kernel
theorem dd_MO_init_28 : decode bb_MO_init 28 = .ok (.putfield 17, 3) := by decide +kernel
theorem dd_MO_init_31 : decode bb_MO_init 31 = .ok (.aload_n 0, 1) := by decide +kernel
theorem dd_MO_init_32 : decode bb_MO_init 32 = .ok (.sipush 240, 3) := by decide +kernel
theorem dd_MO_init_35 : decode bb_MO_init 35 = .ok (.newarray .int, 2) := by decide +kernel
theorem dd_MO_init_37 : decode bb_MO_init 37 = .ok (.putfield 20, 3) := by decide +kernel
theorem dd_MO_init_40 : decode bb_MO_init 40 = .ok (.aload_n 0, 1) := by decide +kernel
theorem dd_MO_init_41 : decode bb_MO_init 41 = .ok (.iconst 4, 1) := by decide +kernel
theorem dd_MO_init_42 : decode bb_MO_init 42 = .ok (.newarray .int, 2) := by decide +kernel
theorem dd_MO_init_44 : decode bb_MO_init 44 = .ok (.putfield 23, 3) := by decide +kernel
theorem dd_MO_init_47 : decode bb_MO_init 47 = .ok (.aload_n 0, 1) := by decide +kernel
theorem dd_MO_init_48 : decode bb_MO_init 48 = .ok (.bipush 80, 2) := by decide +kernel
theorem dd_MO_init_50 : decode bb_MO_init 50 = .ok (.newarray .int, 2) := by decide +kernel
theorem dd_MO_init_52 : decode bb_MO_init 52 = .ok (.putfield 26, 3) := by decide +kernel
theorem dd_MO_init_55 : decode bb_MO_init 55 = .ok (.aload_n 0, 1) := by decide +kernel
theorem dd_MO_init_56 : decode bb_MO_init 56 = .ok (.bipush 80, 2) := by decide +kernel
theorem dd_MO_init_58 : decode bb_MO_init 58 = .ok (.newarray .int, 2) := by decide +kernel
theorem dd_MO_init_60 : decode bb_MO_init 60 = .ok (.putfield 29, 3) := by decide +kernel
theorem dd_MO_init_63 : decode bb_MO_init 63 = .ok (.aload_n 0, 1) := by decide +kernel
theorem dd_MO_init_64 : decode bb_MO_init 64 = .ok (.bipush 60, 2) := by decide +kernel
theorem dd_MO_init_66 : decode bb_MO_init 66 = .ok (.newarray .int, 2) := by decide +kernel
theorem dd_MO_init_68 : decode bb_MO_init 68 = .ok (.putfield 32, 3) := by decide +kernel
theorem dd_MO_init_71 : decode bb_MO_init 71 = .ok (.iconst 0, 1) := by decide +kernel
theorem dd_MO_init_72 : decode bb_MO_init 72 = .ok (.istore_n 1, 1) := by decide +kernel
theorem dd_MO_init_73 : decode bb_MO_init 73 = .ok (.iload_n 1, 1) := by decide +kernel
theorem dd_MO_init_74 : decode bb_MO_init 74 = .ok (.sipush 240, 3) := by decide +kernel
theorem dd_MO_init_77 : decode bb_MO_init 77 = .ok (.if_icmp .ge 16, 3) := by decide +kernel
theorem dd_MO_init_80 : decode bb_MO_init 80 = .ok (.aload_n 0, 1) := by decide +kernel
theorem dd_MO_init_81 : decode bb_MO_init 81 = .ok (.getfield 7, 3) := by decide +kernel
theorem dd_MO_init_84 : decode bb_MO_init 84 = .ok (.iload_n 1, 1) := by decide +kernel
theorem dd_MO_init_85 : decode bb_MO_init 85 = .ok (.iconst (-1), 1) := by decide +kernel
theorem dd_MO_init_86 : decode bb_MO_init 86 = .ok (.iastore, 1) := by decide +kernel
theorem dd_MO_init_87 : decode bb_MO_init 87 = .ok (.iinc 1 1, 3) := by decide +kernel
theorem dd_MO_init_90 : decode bb_MO_init 90 = .ok (.goto (-17), 3) := by decide +kernel
theorem dd_MO_init_93 : decode bb_MO_init 93 = .ok (.iconst 0, 1) := by decide +kernel
theorem dd_MO_init_94 : decode bb_MO_init 94 = .ok (.istore_n 1, 1) := by decide +kernel
theorem dd_MO_init_95 : decode bb_MO_init 95 = .ok (.iload_n 1, 1) := by decide +kernel
theorem dd_MO_init_96 : decode bb_MO_init 96 = .ok (.bipush 80, 2) := by decide +kernel
theorem dd_MO_init_98 : decode bb_MO_init 98 = .ok (.if_icmp .ge 16, 3) := by decide +kernel
theorem dd_MO_init_101 : decode bb_MO_init 101 = .ok (.aload_n 0, 1) := by decide +kernel
theorem dd_MO_init_102 : decode bb_MO_init 102 = .ok (.getfield 26, 3) := by decide +kernel
theorem dd_MO_init_105 : decode bb_MO_init 105 = .ok (.iload_n 1, 1) := by decide +kernel
theorem dd_MO_init_106 : decode bb_MO_init 106 = .ok (.iconst (-1), 1) := by decide +kernel
theorem dd_MO_init_107 : decode bb_MO_init 107 = .ok (.iastore, 1) := by decide +kernel
theorem dd_MO_init_108 : decode bb_MO_init 108 = .ok (.iinc 1 1, 3) := by decide +kernel
theorem dd_MO_init_111 : decode bb_MO_init 111 = .ok (.goto (-16), 3) := by decide +kernel
theorem dd_MO_init_114 : decode bb_MO_init 114 = .ok (.return_, 1) := by decide +kernel
theorem dd_MO_thrown_0 : decode bb_MO_thrown 0 = .ok (.aload_n 0, 1) := by decide +kernel
theorem dd_MO_thrown_1 : decode bb_MO_thrown 1 = .ok (.getfield 35, 3) := by decide +kernel
theorem dd_MO_thrown_4 : decode bb_MO_thrown 4 = .ok (.ireturn, 1) := by decide +kernel
theorem dd_MO_noFile_0 : decode bb_MO_noFile 0 = .ok (.iload_n 0, 1) := by decide +kernel
theorem dd_MO_noFile_1 : decode bb_MO_noFile 1 = .ok (.ifCond .lt 8, 3) := by decide +kernel
theorem dd_MO_noFile_4 : decode bb_MO_noFile 4 = .ok (.iload_n 0, 1) := by decide +kernel
theorem dd_MO_noFile_5 : decode bb_MO_noFile 5 = .ok (.iconst 3, 1) := by decide +kernel
theorem dd_MO_noFile_6 : decode bb_MO_noFile 6 = .ok (.if_icmp .le 7, 3) := by decide +kernel
theorem dd_MO_noFile_9 : decode bb_MO_noFile 9 = .ok (.iconst 1, 1) := by decide +kernel
theorem dd_MO_noFile_10 : decode bb_MO_noFile 10 = .ok (.goto 4, 3) := by decide +kernel
theorem dd_MO_noFile_13 : decode bb_MO_noFile 13 = .ok (.iconst 0, 1) := by decide +kernel
theorem dd_MO_noFile_14 : decode bb_MO_noFile 14 = .ok (.ireturn, 1) := by decide +kernel
theorem dd_MO_noBlock_0 : decode bb_MO_noBlock 0 = .ok (.iload_n 0, 1) := by decide +kernel
theorem dd_MO_noBlock_1 : decode bb_MO_noBlock 1 = .ok (.ifCond .lt 9, 3) := by decide +kernel
theorem dd_MO_noBlock_4 : decode bb_MO_noBlock 4 = .ok (.iload_n 0, 1) := by decide +kernel
theorem dd_MO_noBlock_5 : decode bb_MO_noBlock 5 = .ok (.bipush 59, 2) := by decide +kernel
theorem dd_MO_noBlock_7 : decode bb_MO_noBlock 7 = .ok (.if_icmp .le 7, 3) := by decide +kernel
theorem dd_MO_noBlock_10 : decode bb_MO_noBlock 10 = .ok (.iconst 1, 1) := by decide +kernel
theorem dd_MO_noBlock_11 : decode bb_MO_noBlock 11 = .ok (.goto 4, 3) := by decide +kernel
theorem dd_MO_noBlock_14 : decode bb_MO_noBlock 14 = .ok (.iconst 0, 1) := by decide +kernel
theorem dd_MO_noBlock_15 : decode bb_MO_noBlock 15 = .ok (.ireturn, 1) := by decide +kernel
theorem dd_MO_goesOn_0 : decode bb_MO_goesOn 0 = .ok (.iload_n 1, 1) := by decide +kernel
theorem dd_MO_goesOn_1 : decode bb_MO_goesOn 1 = .ok (.bipush 60, 2) := by decide +kernel
theorem dd_MO_goesOn_3 : decode bb_MO_goesOn 3 = .ok (.irem, 1) := by decide +kernel
theorem dd_MO_goesOn_4 : decode bb_MO_goesOn 4 = .ok (.ifCond .le 63, 3) := by decide +kernel
theorem dd_MO_goesOn_7 : decode bb_MO_goesOn 7 = .ok (.aload_n 0, 1) := by decide +kernel
theorem dd_MO_goesOn_8 : decode bb_MO_goesOn 8 = .ok (.getfield 7, 3) := by decide +kernel
theorem dd_MO_goesOn_11 : decode bb_MO_goesOn 11 = .ok (.iload_n 1, 1) := by decide +kernel
theorem dd_MO_goesOn_12 : decode bb_MO_goesOn 12 = .ok (.iaload, 1) := by decide +kernel
theorem dd_MO_goesOn_13 : decode bb_MO_goesOn 13 = .ok (.ifCond .lt 54, 3) := by decide +kernel
theorem dd_MO_goesOn_16 : decode bb_MO_goesOn 16 = .ok (.aload_n 0, 1) := by decide +kernel
theorem dd_MO_goesOn_17 : decode bb_MO_goesOn 17 = .ok (.getfield 7, 3) := by decide +kernel
theorem dd_MO_goesOn_20 : decode bb_MO_goesOn 20 = .ok (.iload_n 1, 1) := by decide +kernel
theorem dd_MO_goesOn_21 : decode bb_MO_goesOn 21 = .ok (.iconst 1, 1) := by decide +kernel
theorem dd_MO_goesOn_22 : decode bb_MO_goesOn 22 = .ok (.isub, 1) := by decide +kernel
theorem dd_MO_goesOn_23 : decode bb_MO_goesOn 23 = .ok (.iaload, 1) := by decide +kernel
theorem dd_MO_goesOn_24 : decode bb_MO_goesOn 24 = .ok (.ifCond .lt 43, 3) := by decide +kernel
theorem dd_MO_goesOn_27 : decode bb_MO_goesOn 27 = .ok (.aload_n 0, 1) := by decide +kernel
theorem dd_MO_goesOn_28 : decode bb_MO_goesOn 28 = .ok (.getfield 7, 3) := by decide +kernel
theorem dd_MO_goesOn_31 : decode bb_MO_goesOn 31 = .ok (.iload_n 1, 1) := by decide +kernel
theorem dd_MO_goesOn_32 : decode bb_MO_goesOn 32 = .ok (.iaload, 1) := by decide +kernel
theorem dd_MO_goesOn_33 : decode bb_MO_goesOn 33 = .ok (.aload_n 0, 1) := by decide +kernel
theorem dd_MO_goesOn_34 : decode bb_MO_goesOn 34 = .ok (.getfield 7, 3) := by decide +kernel
theorem dd_MO_goesOn_37 : decode bb_MO_goesOn 37 = .ok (.iload_n 1, 1) := by decide +kernel
theorem dd_MO_goesOn_38 : decode bb_MO_goesOn 38 = .ok (.iconst 1, 1) := by decide +kernel
theorem dd_MO_goesOn_39 : decode bb_MO_goesOn 39 = .ok (.isub, 1) := by decide +kernel
theorem dd_MO_goesOn_40 : decode bb_MO_goesOn 40 = .ok (.iaload, 1) := by decide +kernel
theorem dd_MO_goesOn_41 : decode bb_MO_goesOn 41 = .ok (.iconst 1, 1) := by decide +kernel
theorem dd_MO_goesOn_42 : decode bb_MO_goesOn 42 = .ok (.iadd, 1) := by decide +kernel
theorem dd_MO_goesOn_43 : decode bb_MO_goesOn 43 = .ok (.if_icmp .ne 24, 3) := by decide +kernel
theorem dd_MO_goesOn_46 : decode bb_MO_goesOn 46 = .ok (.aload_n 0, 1) := by decide +kernel
theorem dd_MO_goesOn_47 : decode bb_MO_goesOn 47 = .ok (.getfield 13, 3) := by decide +kernel
theorem dd_MO_goesOn_50 : decode bb_MO_goesOn 50 = .ok (.iload_n 1, 1) := by decide +kernel
theorem dd_MO_goesOn_51 : decode bb_MO_goesOn 51 = .ok (.baload, 1) := by decide +kernel
theorem dd_MO_goesOn_52 : decode bb_MO_goesOn 52 = .ok (.aload_n 0, 1) := by decide +kernel
theorem dd_MO_goesOn_53 : decode bb_MO_goesOn 53 = .ok (.getfield 13, 3) := by decide +kernel
theorem dd_MO_goesOn_56 : decode bb_MO_goesOn 56 = .ok (.iload_n 1, 1) := by decide +kernel
theorem dd_MO_goesOn_57 : decode bb_MO_goesOn 57 = .ok (.iconst 1, 1) := by decide +kernel
theorem dd_MO_goesOn_58 : decode bb_MO_goesOn 58 = .ok (.isub, 1) := by decide +kernel
theorem dd_MO_goesOn_59 : decode bb_MO_goesOn 59 = .ok (.baload, 1) := by decide +kernel
theorem dd_MO_goesOn_60 : decode bb_MO_goesOn 60 = .ok (.if_icmp .ne 7, 3) := by decide +kernel
theorem dd_MO_goesOn_63 : decode bb_MO_goesOn 63 = .ok (.iconst 1, 1) := by decide +kernel
theorem dd_MO_goesOn_64 : decode bb_MO_goesOn 64 = .ok (.goto 4, 3) := by decide +kernel
theorem dd_MO_goesOn_67 : decode bb_MO_goesOn 67 = .ok (.iconst 0, 1) := by decide +kernel
theorem dd_MO_goesOn_68 : decode bb_MO_goesOn 68 = .ok (.ireturn, 1) := by decide +kernel
theorem dd_MO_extents_0 : decode bb_MO_extents 0 = .ok (.iconst 0, 1) := by decide +kernel
theorem dd_MO_extents_1 : decode bb_MO_extents 1 = .ok (.istore_n 3, 1) := by decide +kernel
theorem dd_MO_extents_2 : decode bb_MO_extents 2 = .ok (.aload_n 0, 1) := by decide +kernel
theorem dd_MO_extents_3 : decode bb_MO_extents 3 = .ok (.iconst 0, 1) := by decide +kernel
theorem dd_MO_extents_4 : decode bb_MO_extents 4 = .ok (.putfield 39, 3) := by decide +kernel
theorem dd_MO_extents_7 : decode bb_MO_extents 7 = .ok (.bipush 60, 2) := by decide +kernel
theorem dd_MO_extents_9 : decode bb_MO_extents 9 = .ok (.iload_n 1, 1) := by decide +kernel
theorem dd_MO_extents_10 : decode bb_MO_extents 10 = .ok (.imul, 1) := by decide +kernel
theorem dd_MO_extents_11 : decode bb_MO_extents 11 = .ok (.istore 4, 2) := by decide +kernel
theorem dd_MO_extents_13 : decode bb_MO_extents 13 = .ok (.iload 4, 2) := by decide +kernel
theorem dd_MO_extents_15 : decode bb_MO_extents 15 = .ok (.bipush 60, 2) := by decide +kernel
theorem dd_MO_extents_17 : decode bb_MO_extents 17 = .ok (.iload_n 1, 1) := by decide +kernel
theorem dd_MO_extents_18 : decode bb_MO_extents 18 = .ok (.imul, 1) := by decide +kernel
theorem dd_MO_extents_19 : decode bb_MO_extents 19 = .ok (.bipush 60, 2) := by decide +kernel
theorem dd_MO_extents_21 : decode bb_MO_extents 21 = .ok (.iadd, 1) := by decide +kernel
theorem dd_MO_extents_22 : decode bb_MO_extents 22 = .ok (.if_icmp .ge 108, 3) := by decide +kernel
theorem dd_MO_extents_25 : decode bb_MO_extents 25 = .ok (.aload_n 0, 1) := by decide +kernel
theorem dd_MO_extents_26 : decode bb_MO_extents 26 = .ok (.getfield 7, 3) := by decide +kernel
theorem dd_MO_extents_29 : decode bb_MO_extents 29 = .ok (.iload 4, 2) := by decide +kernel
theorem dd_MO_extents_31 : decode bb_MO_extents 31 = .ok (.iaload, 1) := by decide +kernel
theorem dd_MO_extents_32 : decode bb_MO_extents 32 = .ok (.ifCond .lt 76, 3) := by decide +kernel
theorem dd_MO_extents_35 : decode bb_MO_extents 35 = .ok (.aload_n 0, 1) := by decide +kernel
theorem dd_MO_extents_36 : decode bb_MO_extents 36 = .ok (.getfield 39, 3) := by decide +kernel
theorem dd_MO_extents_39 : decode bb_MO_extents 39 = .ok (.ifCond .le 25, 3) := by decide +kernel
theorem dd_MO_extents_42 : decode bb_MO_extents 42 = .ok (.aload_n 0, 1) := by decide +kernel
theorem dd_MO_extents_43 : decode bb_MO_extents 43 = .ok (.getfield 39, 3) := by decide +kernel
theorem dd_MO_extents_46 : decode bb_MO_extents 46 = .ok (.bipush 8, 2) := by decide +kernel
theorem dd_MO_extents_48 : decode bb_MO_extents 48 = .ok (.if_icmp .ge 16, 3) := by decide +kernel
theorem dd_MO_extents_51 : decode bb_MO_extents 51 = .ok (.aload_n 0, 1) := by decide +kernel
theorem dd_MO_extents_52 : decode bb_MO_extents 52 = .ok (.iload 4, 2) := by decide +kernel
theorem dd_MO_extents_54 : decode bb_MO_extents 54 = .ok (.invokevirtual 42, 3) := by decide +kernel
theorem dd_MO_extents_57 : decode bb_MO_extents 57 = .ok (.ifCond .eq 7, 3) := by decide +kernel
theorem dd_MO_extents_60 : decode bb_MO_extents 60 = .ok (.iconst 1, 1) := by decide +kernel
theorem dd_MO_extents_61 : decode bb_MO_extents 61 = .ok (.goto 4, 3) := by decide +kernel
theorem dd_MO_extents_64 : decode bb_MO_extents 64 = .ok (.iconst 0, 1) := by decide +kernel
theorem dd_MO_extents_65 : decode bb_MO_extents 65 = .ok (.istore 5, 2) := by decide +kernel
theorem dd_MO_extents_67 : decode bb_MO_extents 67 = .ok (.iload 5, 2) := by decide +kernel
theorem dd_MO_extents_69 : decode bb_MO_extents 69 = .ok (.ifCond .ne 26, 3) := by decide +kernel
theorem dd_MO_extents_72 : decode bb_MO_extents 72 = .ok (.iload_n 3, 1) := by decide +kernel
theorem dd_MO_extents_73 : decode bb_MO_extents 73 = .ok (.iload_n 2, 1) := by decide +kernel
theorem dd_MO_extents_74 : decode bb_MO_extents 74 = .ok (.iconst 1, 1) := by decide +kernel
theorem dd_MO_extents_75 : decode bb_MO_extents 75 = .ok (.iadd, 1) := by decide +kernel
theorem dd_MO_extents_76 : decode bb_MO_extents 76 = .ok (.if_icmp .ne 5, 3) := by decide +kernel
theorem dd_MO_extents_79 : decode bb_MO_extents 79 = .ok (.iload_n 3, 1) := by decide +kernel
theorem dd_MO_extents_80 : decode bb_MO_extents 80 = .ok (.ireturn, 1) := by decide +kernel
theorem dd_MO_extents_81 : decode bb_MO_extents 81 = .ok (.iinc 3 1, 3) := by decide +kernel
theorem dd_MO_extents_84 : decode bb_MO_extents 84 = .ok (.aload_n 0, 1) := by decide +kernel
theorem dd_MO_extents_85 : decode bb_MO_extents 85 = .ok (.iload 4, 2) := by decide +kernel
theorem dd_MO_extents_87 : decode bb_MO_extents 87 = .ok (.putfield 46, 3) := by decide +kernel
theorem dd_MO_extents_90 : decode bb_MO_extents 90 = .ok (.aload_n 0, 1) := by decide +kernel
theorem dd_MO_extents_91 : decode bb_MO_extents 91 = .ok (.iconst 0, 1) := by decide +kernel
theorem dd_MO_extents_92 : decode bb_MO_extents 92 = .ok (.putfield 39, 3) := by decide +kernel
theorem dd_MO_extents_95 : decode bb_MO_extents 95 = .ok (.aload_n 0, 1) := by decide +kernel
theorem dd_MO_extents_96 : decode bb_MO_extents 96 = .ok (.dup, 1) := by decide +kernel
theorem dd_MO_extents_97 : decode bb_MO_extents 97 = .ok (.getfield 39, 3) := by decide +kernel
theorem dd_MO_extents_100 : decode bb_MO_extents 100 = .ok (.iconst 1, 1) := by decide +kernel
theorem dd_MO_extents_101 : decode bb_MO_extents 101 = .ok (.iadd, 1) := by decide +kernel
theorem dd_MO_extents_102 : decode bb_MO_extents 102 = .ok (.putfield 39, 3) := by decide +kernel
theorem dd_MO_extents_105 : decode bb_MO_extents 105 = .ok (.goto 19, 3) := by decide +kernel
theorem dd_MO_extents_108 : decode bb_MO_extents 108 = .ok (.aload_n 0, 1) := by decide +kernel
theorem dd_MO_extents_109 : decode bb_MO_extents 109 = .ok (.getfield 39, 3) := by decide +kernel
theorem dd_MO_extents_112 : decode bb_MO_extents 112 = .ok (.ifCond .le 12, 3) := by decide +kernel
theorem dd_MO_extents_115 : decode bb_MO_extents 115 = .ok (.iload_n 3, 1) := by decide +kernel
theorem dd_MO_extents_116 : decode bb_MO_extents 116 = .ok (.iload_n 2, 1) := by decide +kernel
theorem dd_MO_extents_117 : decode bb_MO_extents 117 = .ok (.iconst 1, 1) := by decide +kernel
theorem dd_MO_extents_118 : decode bb_MO_extents 118 = .ok (.iadd, 1) := by decide +kernel
theorem dd_MO_extents_119 : decode bb_MO_extents 119 = .ok (.if_icmp .ne 5, 3) := by decide +kernel
theorem dd_MO_extents_122 : decode bb_MO_extents 122 = .ok (.iload_n 3, 1) := by decide +kernel
theorem dd_MO_extents_123 : decode bb_MO_extents 123 = .ok (.ireturn, 1) := by decide +kernel
theorem dd_MO_extents_124 : decode bb_MO_extents 124 = .ok (.iinc 4 1, 3) := by decide +kernel
theorem dd_MO_extents_127 : decode bb_MO_extents 127 = .ok (.goto (-114), 3) := by decide +kernel
theorem dd_MO_extents_130 : decode bb_MO_extents 130 = .ok (.iload_n 3, 1) := by decide +kernel
theorem dd_MO_extents_131 : decode bb_MO_extents 131 = .ok (.ireturn, 1) := by decide +kernel
theorem dd_MO_tree_0 : decode bb_MO_tree 0 = .ok (.iload_n 0, 1) := by decide +kernel
theorem dd_MO_tree_1 : decode bb_MO_tree 1 = .ok (.iconst 3, 1) := by decide +kernel
theorem dd_MO_tree_2 : decode bb_MO_tree 2 = .ok (.if_icmp .gt 7, 3) := by decide +kernel
theorem dd_MO_tree_5 : decode bb_MO_tree 5 = .ok (.iconst 0, 1) := by decide +kernel
theorem dd_MO_tree_6 : decode bb_MO_tree 6 = .ok (.goto 8, 3) := by decide +kernel
theorem dd_MO_tree_9 : decode bb_MO_tree 9 = .ok (.iload_n 0, 1) := by decide +kernel
theorem dd_MO_tree_10 : decode bb_MO_tree 10 = .ok (.iconst 3, 1) := by decide +kernel
theorem dd_MO_tree_11 : decode bb_MO_tree 11 = .ok (.iadd, 1) := by decide +kernel
theorem dd_MO_tree_12 : decode bb_MO_tree 12 = .ok (.iconst 4, 1) := by decide +kernel
theorem dd_MO_tree_13 : decode bb_MO_tree 13 = .ok (.idiv, 1) := by decide +kernel
theorem dd_MO_tree_14 : decode bb_MO_tree 14 = .ok (.ireturn, 1) := by decide +kernel
theorem dd_MO_mappedOf_0 : decode bb_MO_mappedOf 0 = .ok (.iconst 0, 1) := by decide +kernel
theorem dd_MO_mappedOf_1 : decode bb_MO_mappedOf 1 = .ok (.istore_n 2, 1) := by decide +kernel
theorem dd_MO_mappedOf_2 : decode bb_MO_mappedOf 2 = .ok (.bipush 60, 2) := by decide +kernel
theorem dd_MO_mappedOf_4 : decode bb_MO_mappedOf 4 = .ok (.iload_n 1, 1) := by decide +kernel
theorem dd_MO_mappedOf_5 : decode bb_MO_mappedOf 5 = .ok (.imul, 1) := by decide +kernel
theorem dd_MO_mappedOf_6 : decode bb_MO_mappedOf 6 = .ok (.istore_n 3, 1) := by decide +kernel
theorem dd_MO_mappedOf_7 : decode bb_MO_mappedOf 7 = .ok (.iload_n 3, 1) := by decide +kernel
theorem dd_MO_mappedOf_8 : decode bb_MO_mappedOf 8 = .ok (.bipush 60, 2) := by decide +kernel
theorem dd_MO_mappedOf_10 : decode bb_MO_mappedOf 10 = .ok (.iload_n 1, 1) := by decide +kernel
theorem dd_MO_mappedOf_11 : decode bb_MO_mappedOf 11 = .ok (.imul, 1) := by decide +kernel
theorem dd_MO_mappedOf_12 : decode bb_MO_mappedOf 12 = .ok (.bipush 60, 2) := by decide +kernel
theorem dd_MO_mappedOf_14 : decode bb_MO_mappedOf 14 = .ok (.iadd, 1) := by decide +kernel
theorem dd_MO_mappedOf_15 : decode bb_MO_mappedOf 15 = .ok (.if_icmp .ge 26, 3) := by decide +kernel
theorem dd_MO_mappedOf_18 : decode bb_MO_mappedOf 18 = .ok (.aload_n 0, 1) := by decide +kernel
theorem dd_MO_mappedOf_19 : decode bb_MO_mappedOf 19 = .ok (.getfield 7, 3) := by decide +kernel
theorem dd_MO_mappedOf_22 : decode bb_MO_mappedOf 22 = .ok (.iload_n 3, 1) := by decide +kernel
theorem dd_MO_mappedOf_23 : decode bb_MO_mappedOf 23 = .ok (.iaload, 1) := by decide +kernel
theorem dd_MO_mappedOf_24 : decode bb_MO_mappedOf 24 = .ok (.ifCond .lt 9, 3) := by decide +kernel
theorem dd_MO_mappedOf_27 : decode bb_MO_mappedOf 27 = .ok (.iload_n 2, 1) := by decide +kernel
theorem dd_MO_mappedOf_28 : decode bb_MO_mappedOf 28 = .ok (.iconst 1, 1) := by decide +kernel
theorem dd_MO_mappedOf_29 : decode bb_MO_mappedOf 29 = .ok (.iadd, 1) := by decide +kernel
theorem dd_MO_mappedOf_30 : decode bb_MO_mappedOf 30 = .ok (.goto 4, 3) := by decide +kernel
theorem dd_MO_mappedOf_33 : decode bb_MO_mappedOf 33 = .ok (.iload_n 2, 1) := by decide +kernel
theorem dd_MO_mappedOf_34 : decode bb_MO_mappedOf 34 = .ok (.istore_n 2, 1) := by decide +kernel
theorem dd_MO_mappedOf_35 : decode bb_MO_mappedOf 35 = .ok (.iinc 3 1, 3) := by decide +kernel
theorem dd_MO_mappedOf_38 : decode bb_MO_mappedOf 38 = .ok (.goto (-31), 3) := by decide +kernel
theorem dd_MO_mappedOf_41 : decode bb_MO_mappedOf 41 = .ok (.iload_n 2, 1) := by decide +kernel
theorem dd_MO_mappedOf_42 : decode bb_MO_mappedOf 42 = .ok (.ireturn, 1) := by decide +kernel
theorem dd_MO_pagesOf_0 : decode bb_MO_pagesOf 0 = .ok (.iconst 0, 1) := by decide +kernel
theorem dd_MO_pagesOf_1 : decode bb_MO_pagesOf 1 = .ok (.istore_n 2, 1) := by decide +kernel
theorem dd_MO_pagesOf_2 : decode bb_MO_pagesOf 2 = .ok (.bipush 60, 2) := by decide +kernel
theorem dd_MO_pagesOf_4 : decode bb_MO_pagesOf 4 = .ok (.iload_n 1, 1) := by decide +kernel
theorem dd_MO_pagesOf_5 : decode bb_MO_pagesOf 5 = .ok (.imul, 1) := by decide +kernel
theorem dd_MO_pagesOf_6 : decode bb_MO_pagesOf 6 = .ok (.istore_n 3, 1) := by decide +kernel
theorem dd_MO_pagesOf_7 : decode bb_MO_pagesOf 7 = .ok (.iload_n 3, 1) := by decide +kernel
theorem dd_MO_pagesOf_8 : decode bb_MO_pagesOf 8 = .ok (.bipush 60, 2) := by decide +kernel
theorem dd_MO_pagesOf_10 : decode bb_MO_pagesOf 10 = .ok (.iload_n 1, 1) := by decide +kernel
theorem dd_MO_pagesOf_11 : decode bb_MO_pagesOf 11 = .ok (.imul, 1) := by decide +kernel
theorem dd_MO_pagesOf_12 : decode bb_MO_pagesOf 12 = .ok (.bipush 60, 2) := by decide +kernel
theorem dd_MO_pagesOf_14 : decode bb_MO_pagesOf 14 = .ok (.iadd, 1) := by decide +kernel
theorem dd_MO_pagesOf_15 : decode bb_MO_pagesOf 15 = .ok (.if_icmp .ge 26, 3) := by decide +kernel
theorem dd_MO_pagesOf_18 : decode bb_MO_pagesOf 18 = .ok (.aload_n 0, 1) := by decide +kernel
theorem dd_MO_pagesOf_19 : decode bb_MO_pagesOf 19 = .ok (.getfield 17, 3) := by decide +kernel
theorem dd_MO_pagesOf_22 : decode bb_MO_pagesOf 22 = .ok (.iload_n 3, 1) := by decide +kernel
theorem dd_MO_pagesOf_23 : decode bb_MO_pagesOf 23 = .ok (.baload, 1) := by decide +kernel
theorem dd_MO_pagesOf_24 : decode bb_MO_pagesOf 24 = .ok (.ifCond .eq 9, 3) := by decide +kernel
theorem dd_MO_pagesOf_27 : decode bb_MO_pagesOf 27 = .ok (.iload_n 2, 1) := by decide +kernel
theorem dd_MO_pagesOf_28 : decode bb_MO_pagesOf 28 = .ok (.iconst 1, 1) := by decide +kernel
theorem dd_MO_pagesOf_29 : decode bb_MO_pagesOf 29 = .ok (.iadd, 1) := by decide +kernel
theorem dd_MO_pagesOf_30 : decode bb_MO_pagesOf 30 = .ok (.goto 4, 3) := by decide +kernel
theorem dd_MO_pagesOf_33 : decode bb_MO_pagesOf 33 = .ok (.iload_n 2, 1) := by decide +kernel
theorem dd_MO_pagesOf_34 : decode bb_MO_pagesOf 34 = .ok (.istore_n 2, 1) := by decide +kernel
theorem dd_MO_pagesOf_35 : decode bb_MO_pagesOf 35 = .ok (.iinc 3 1, 3) := by decide +kernel
theorem dd_MO_pagesOf_38 : decode bb_MO_pagesOf 38 = .ok (.goto (-31), 3) := by decide +kernel
theorem dd_MO_pagesOf_41 : decode bb_MO_pagesOf 41 = .ok (.iload_n 2, 1) := by decide +kernel
theorem dd_MO_pagesOf_42 : decode bb_MO_pagesOf 42 = .ok (.ireturn, 1) := by decide +kernel
theorem dd_MO_reservedOf_0 : decode bb_MO_reservedOf 0 = .ok (.iconst 0, 1) := by decide +kernel
theorem dd_MO_reservedOf_1 : decode bb_MO_reservedOf 1 = .ok (.istore_n 2, 1) := by decide +kernel
theorem dd_MO_reservedOf_2 : decode bb_MO_reservedOf 2 = .ok (.iconst 0, 1) := by decide +kernel
theorem dd_MO_reservedOf_3 : decode bb_MO_reservedOf 3 = .ok (.istore_n 3, 1) := by decide +kernel
theorem dd_MO_reservedOf_4 : decode bb_MO_reservedOf 4 = .ok (.bipush 60, 2) := by decide +kernel
theorem dd_MO_reservedOf_6 : decode bb_MO_reservedOf 6 = .ok (.iload_n 1, 1) := by decide +kernel
theorem dd_MO_reservedOf_7 : decode bb_MO_reservedOf 7 = .ok (.imul, 1) := by decide +kernel
theorem dd_MO_reservedOf_8 : decode bb_MO_reservedOf 8 = .ok (.istore 4, 2) := by decide +kernel
theorem dd_MO_reservedOf_10 : decode bb_MO_reservedOf 10 = .ok (.iload 4, 2) := by decide +kernel
theorem dd_MO_reservedOf_12 : decode bb_MO_reservedOf 12 = .ok (.bipush 60, 2) := by decide +kernel
theorem dd_MO_reservedOf_14 : decode bb_MO_reservedOf 14 = .ok (.iload_n 1, 1) := by decide +kernel
theorem dd_MO_reservedOf_15 : decode bb_MO_reservedOf 15 = .ok (.imul, 1) := by decide +kernel
theorem dd_MO_reservedOf_16 : decode bb_MO_reservedOf 16 = .ok (.bipush 60, 2) := by decide +kernel
theorem dd_MO_reservedOf_18 : decode bb_MO_reservedOf 18 = .ok (.iadd, 1) := by decide +kernel
theorem dd_MO_reservedOf_19 : decode bb_MO_reservedOf 19 = .ok (.if_icmp .ge 75, 3) := by decide +kernel
theorem dd_MO_reservedOf_22 : decode bb_MO_reservedOf 22 = .ok (.aload_n 0, 1) := by decide +kernel
theorem dd_MO_reservedOf_23 : decode bb_MO_reservedOf 23 = .ok (.getfield 17, 3) := by decide +kernel
theorem dd_MO_reservedOf_26 : decode bb_MO_reservedOf 26 = .ok (.iload 4, 2) := by decide +kernel
theorem dd_MO_reservedOf_28 : decode bb_MO_reservedOf 28 = .ok (.baload, 1) := by decide +kernel
theorem dd_MO_reservedOf_29 : decode bb_MO_reservedOf 29 = .ok (.ifCond .eq 19, 3) := by decide +kernel
theorem dd_MO_reservedOf_32 : decode bb_MO_reservedOf 32 = .ok (.aload_n 0, 1) := by decide +kernel
theorem dd_MO_reservedOf_33 : decode bb_MO_reservedOf 33 = .ok (.getfield 7, 3) := by decide +kernel
theorem dd_MO_reservedOf_36 : decode bb_MO_reservedOf 36 = .ok (.iload 4, 2) := by decide +kernel
theorem dd_MO_reservedOf_38 : decode bb_MO_reservedOf 38 = .ok (.iaload, 1) := by decide +kernel
theorem dd_MO_reservedOf_39 : decode bb_MO_reservedOf 39 = .ok (.ifCond .ge 9, 3) := by decide +kernel
theorem dd_MO_reservedOf_42 : decode bb_MO_reservedOf 42 = .ok (.iload_n 2, 1) := by decide +kernel
theorem dd_MO_reservedOf_43 : decode bb_MO_reservedOf 43 = .ok (.iconst 1, 1) := by decide +kernel
theorem dd_MO_reservedOf_44 : decode bb_MO_reservedOf 44 = .ok (.iadd, 1) := by decide +kernel
theorem dd_MO_reservedOf_45 : decode bb_MO_reservedOf 45 = .ok (.goto 4, 3) := by decide +kernel
theorem dd_MO_reservedOf_48 : decode bb_MO_reservedOf 48 = .ok (.iload_n 2, 1) := by decide +kernel
theorem dd_MO_reservedOf_49 : decode bb_MO_reservedOf 49 = .ok (.istore_n 2, 1) := by decide +kernel
theorem dd_MO_reservedOf_50 : decode bb_MO_reservedOf 50 = .ok (.aload_n 0, 1) := by decide +kernel
theorem dd_MO_reservedOf_51 : decode bb_MO_reservedOf 51 = .ok (.getfield 17, 3) := by decide +kernel
theorem dd_MO_reservedOf_54 : decode bb_MO_reservedOf 54 = .ok (.iload 4, 2) := by decide +kernel
theorem dd_MO_reservedOf_56 : decode bb_MO_reservedOf 56 = .ok (.baload, 1) := by decide +kernel
theorem dd_MO_reservedOf_57 : decode bb_MO_reservedOf 57 = .ok (.ifCond .eq 29, 3) := by decide +kernel
theorem dd_MO_reservedOf_60 : decode bb_MO_reservedOf 60 = .ok (.aload_n 0, 1) := by decide +kernel
theorem dd_MO_reservedOf_61 : decode bb_MO_reservedOf 61 = .ok (.getfield 7, 3) := by decide +kernel
theorem dd_MO_reservedOf_64 : decode bb_MO_reservedOf 64 = .ok (.iload 4, 2) := by decide +kernel
theorem dd_MO_reservedOf_66 : decode bb_MO_reservedOf 66 = .ok (.iaload, 1) := by decide +kernel
theorem dd_MO_reservedOf_67 : decode bb_MO_reservedOf 67 = .ok (.ifCond .lt 19, 3) := by decide +kernel
theorem dd_MO_reservedOf_70 : decode bb_MO_reservedOf 70 = .ok (.aload_n 0, 1) := by decide +kernel
theorem dd_MO_reservedOf_71 : decode bb_MO_reservedOf 71 = .ok (.getfield 13, 3) := by decide +kernel
theorem dd_MO_reservedOf_74 : decode bb_MO_reservedOf 74 = .ok (.iload 4, 2) := by decide +kernel
theorem dd_MO_reservedOf_76 : decode bb_MO_reservedOf 76 = .ok (.baload, 1) := by decide +kernel
theorem dd_MO_reservedOf_77 : decode bb_MO_reservedOf 77 = .ok (.ifCond .ne 9, 3) := by decide +kernel
theorem dd_MO_reservedOf_80 : decode bb_MO_reservedOf 80 = .ok (.iload_n 3, 1) := by decide +kernel
theorem dd_MO_reservedOf_81 : decode bb_MO_reservedOf 81 = .ok (.iconst 1, 1) := by decide +kernel
theorem dd_MO_reservedOf_82 : decode bb_MO_reservedOf 82 = .ok (.iadd, 1) := by decide +kernel
theorem dd_MO_reservedOf_83 : decode bb_MO_reservedOf 83 = .ok (.goto 4, 3) := by decide +kernel
theorem dd_MO_reservedOf_86 : decode bb_MO_reservedOf 86 = .ok (.iload_n 3, 1) := by decide +kernel
theorem dd_MO_reservedOf_87 : decode bb_MO_reservedOf 87 = .ok (.istore_n 3, 1) := by decide +kernel
theorem dd_MO_reservedOf_88 : decode bb_MO_reservedOf 88 = .ok (.iinc 4 1, 3) := by decide +kernel
theorem dd_MO_reservedOf_91 : decode bb_MO_reservedOf 91 = .ok (.goto (-81), 3) := by decide +kernel
theorem dd_MO_reservedOf_94 : decode bb_MO_reservedOf 94 = .ok (.aload_n 0, 1) := by decide +kernel
theorem dd_MO_reservedOf_95 : decode bb_MO_reservedOf 95 = .ok (.iload_n 1, 1) := by decide +kernel
theorem dd_MO_reservedOf_96 : decode bb_MO_reservedOf 96 = .ok (.bipush 60, 2) := by decide +kernel
theorem dd_MO_reservedOf_98 : decode bb_MO_reservedOf 98 = .ok (.invokevirtual 49, 3) := by decide +kernel
theorem dd_MO_reservedOf_101 : decode bb_MO_reservedOf 101 = .ok (.istore 4, 2) := by decide +kernel
theorem dd_MO_reservedOf_103 : decode bb_MO_reservedOf 103 = .ok (.iload_n 2, 1) := by decide +kernel
theorem dd_MO_reservedOf_104 : decode bb_MO_reservedOf 104 = .ok (.iload 4, 2) := by decide +kernel
theorem dd_MO_reservedOf_106 : decode bb_MO_reservedOf 106 = .ok (.iload_n 2, 1) := by decide +kernel
theorem dd_MO_reservedOf_107 : decode bb_MO_reservedOf 107 = .ok (.iadd, 1) := by decide +kernel
theorem dd_MO_reservedOf_108 : decode bb_MO_reservedOf 108 = .ok (.iconst 2, 1) := by decide +kernel
theorem dd_MO_reservedOf_109 : decode bb_MO_reservedOf 109 = .ok (.iload_n 3, 1) := by decide +kernel
theorem dd_MO_reservedOf_110 : decode bb_MO_reservedOf 110 = .ok (.imul, 1) := by decide +kernel
theorem dd_MO_reservedOf_111 : decode bb_MO_reservedOf 111 = .ok (.iadd, 1) := by decide +kernel
theorem dd_MO_reservedOf_112 : decode bb_MO_reservedOf 112 = .ok (.invokestatic 53, 3) := by decide +kernel
theorem dd_MO_reservedOf_115 : decode bb_MO_reservedOf 115 = .ok (.iadd, 1) := by decide +kernel
theorem dd_MO_reservedOf_116 : decode bb_MO_reservedOf 116 = .ok (.iload 4, 2) := by decide +kernel
theorem dd_MO_reservedOf_118 : decode bb_MO_reservedOf 118 = .ok (.invokestatic 53, 3) := by decide +kernel
theorem dd_MO_reservedOf_121 : decode bb_MO_reservedOf 121 = .ok (.isub, 1) := by decide +kernel
theorem dd_MO_reservedOf_122 : decode bb_MO_reservedOf 122 = .ok (.ireturn, 1) := by decide +kernel
theorem dd_MO_allReserved_0 : decode bb_MO_allReserved 0 = .ok (.iconst 0, 1) := by decide +kernel
theorem dd_MO_allReserved_1 : decode bb_MO_allReserved 1 = .ok (.istore_n 1, 1) := by decide +kernel
theorem dd_MO_allReserved_2 : decode bb_MO_allReserved 2 = .ok (.iconst 0, 1) := by decide +kernel
theorem dd_MO_allReserved_3 : decode bb_MO_allReserved 3 = .ok (.istore_n 2, 1) := by decide +kernel
theorem dd_MO_allReserved_4 : decode bb_MO_allReserved 4 = .ok (.iload_n 2, 1) := by decide +kernel
theorem dd_MO_allReserved_5 : decode bb_MO_allReserved 5 = .ok (.iconst 4, 1) := by decide +kernel
theorem dd_MO_allReserved_6 : decode bb_MO_allReserved 6 = .ok (.if_icmp .ge 17, 3) := by decide +kernel
theorem dd_MO_allReserved_9 : decode bb_MO_allReserved 9 = .ok (.iload_n 1, 1) := by decide +kernel
theorem dd_MO_allReserved_10 : decode bb_MO_allReserved 10 = .ok (.aload_n 0, 1) := by decide +kernel
theorem dd_MO_allReserved_11 : decode bb_MO_allReserved 11 = .ok (.iload_n 2, 1) := by decide +kernel
theorem dd_MO_allReserved_12 : decode bb_MO_allReserved 12 = .ok (.invokevirtual 57, 3) := by decide +kernel
theorem dd_MO_allReserved_15 : decode bb_MO_allReserved 15 = .ok (.iadd, 1) := by decide +kernel
theorem dd_MO_allReserved_16 : decode bb_MO_allReserved 16 = .ok (.istore_n 1, 1) := by decide +kernel
theorem dd_MO_allReserved_17 : decode bb_MO_allReserved 17 = .ok (.iinc 2 1, 3) := by decide +kernel
theorem dd_MO_allReserved_20 : decode bb_MO_allReserved 20 = .ok (.goto (-16), 3) := by decide +kernel
theorem dd_MO_allReserved_23 : decode bb_MO_allReserved 23 = .ok (.iload_n 1, 1) := by decide +kernel
theorem dd_MO_allReserved_24 : decode bb_MO_allReserved 24 = .ok (.ireturn, 1) := by decide +kernel
theorem dd_MO_allFree_0 : decode bb_MO_allFree 0 = .ok (.bipush 80, 2) := by decide +kernel
theorem dd_MO_allFree_2 : decode bb_MO_allFree 2 = .ok (.istore_n 1, 1) := by decide +kernel
theorem dd_MO_allFree_3 : decode bb_MO_allFree 3 = .ok (.iconst 0, 1) := by decide +kernel
theorem dd_MO_allFree_4 : decode bb_MO_allFree 4 = .ok (.istore_n 2, 1) := by decide +kernel
theorem dd_MO_allFree_5 : decode bb_MO_allFree 5 = .ok (.iload_n 2, 1) := by decide +kernel
theorem dd_MO_allFree_6 : decode bb_MO_allFree 6 = .ok (.iconst 4, 1) := by decide +kernel
theorem dd_MO_allFree_7 : decode bb_MO_allFree 7 = .ok (.if_icmp .ge 28, 3) := by decide +kernel
theorem dd_MO_allFree_10 : decode bb_MO_allFree 10 = .ok (.iload_n 1, 1) := by decide +kernel
theorem dd_MO_allFree_11 : decode bb_MO_allFree 11 = .ok (.aload_n 0, 1) := by decide +kernel
theorem dd_MO_allFree_12 : decode bb_MO_allFree 12 = .ok (.iload_n 2, 1) := by decide +kernel
theorem dd_MO_allFree_13 : decode bb_MO_allFree 13 = .ok (.invokevirtual 60, 3) := by decide +kernel
theorem dd_MO_allFree_16 : decode bb_MO_allFree 16 = .ok (.isub, 1) := by decide +kernel
theorem dd_MO_allFree_17 : decode bb_MO_allFree 17 = .ok (.aload_n 0, 1) := by decide +kernel
theorem dd_MO_allFree_18 : decode bb_MO_allFree 18 = .ok (.iload_n 2, 1) := by decide +kernel
theorem dd_MO_allFree_19 : decode bb_MO_allFree 19 = .ok (.bipush 60, 2) := by decide +kernel
theorem dd_MO_allFree_21 : decode bb_MO_allFree 21 = .ok (.invokevirtual 49, 3) := by decide +kernel
theorem dd_MO_allFree_24 : decode bb_MO_allFree 24 = .ok (.invokestatic 53, 3) := by decide +kernel
theorem dd_MO_allFree_27 : decode bb_MO_allFree 27 = .ok (.isub, 1) := by decide +kernel
theorem dd_MO_allFree_28 : decode bb_MO_allFree 28 = .ok (.istore_n 1, 1) := by decide +kernel
theorem dd_MO_allFree_29 : decode bb_MO_allFree 29 = .ok (.iinc 2 1, 3) := by decide +kernel
theorem dd_MO_allFree_32 : decode bb_MO_allFree 32 = .ok (.goto (-27), 3) := by decide +kernel
theorem dd_MO_allFree_35 : decode bb_MO_allFree 35 = .ok (.iload_n 1, 1) := by decide +kernel
theorem dd_MO_allFree_36 : decode bb_MO_allFree 36 = .ok (.ireturn, 1) := by decide +kernel
theorem dd_MO_map_0 : decode bb_MO_map 0 = .ok (.aload_n 0, 1) := by decide +kernel
theorem dd_MO_map_1 : decode bb_MO_map 1 = .ok (.getfield 7, 3) := by decide +kernel
theorem dd_MO_map_4 : decode bb_MO_map 4 = .ok (.iload_n 1, 1) := by decide +kernel
theorem dd_MO_map_5 : decode bb_MO_map 5 = .ok (.iload_n 2, 1) := by decide +kernel
theorem dd_MO_map_6 : decode bb_MO_map 6 = .ok (.iastore, 1) := by decide +kernel
theorem dd_MO_map_7 : decode bb_MO_map 7 = .ok (.aload_n 0, 1) := by decide +kernel
theorem dd_MO_map_8 : decode bb_MO_map 8 = .ok (.getfield 26, 3) := by decide +kernel
theorem dd_MO_map_11 : decode bb_MO_map 11 = .ok (.iload_n 2, 1) := by decide +kernel
theorem dd_MO_map_12 : decode bb_MO_map 12 = .ok (.iload_n 1, 1) := by decide +kernel
theorem dd_MO_map_13 : decode bb_MO_map 13 = .ok (.iastore, 1) := by decide +kernel
theorem dd_MO_map_14 : decode bb_MO_map 14 = .ok (.aload_n 0, 1) := by decide +kernel
theorem dd_MO_map_15 : decode bb_MO_map 15 = .ok (.getfield 13, 3) := by decide +kernel
theorem dd_MO_map_18 : decode bb_MO_map 18 = .ok (.iload_n 1, 1) := by decide +kernel
theorem dd_MO_map_19 : decode bb_MO_map 19 = .ok (.iconst 0, 1) := by decide +kernel
theorem dd_MO_map_20 : decode bb_MO_map 20 = .ok (.bastore, 1) := by decide +kernel
theorem dd_MO_map_21 : decode bb_MO_map 21 = .ok (.return_, 1) := by decide +kernel
theorem dd_MO_unmap_0 : decode bb_MO_unmap 0 = .ok (.aload_n 0, 1) := by decide +kernel
theorem dd_MO_unmap_1 : decode bb_MO_unmap 1 = .ok (.getfield 7, 3) := by decide +kernel
theorem dd_MO_unmap_4 : decode bb_MO_unmap 4 = .ok (.iload_n 1, 1) := by decide +kernel
theorem dd_MO_unmap_5 : decode bb_MO_unmap 5 = .ok (.iaload, 1) := by decide +kernel
theorem dd_MO_unmap_6 : decode bb_MO_unmap 6 = .ok (.ifCond .lt 15, 3) := by decide +kernel
theorem dd_MO_unmap_9 : decode bb_MO_unmap 9 = .ok (.aload_n 0, 1) := by decide +kernel
theorem dd_MO_unmap_10 : decode bb_MO_unmap 10 = .ok (.getfield 26, 3) := by decide +kernel
theorem dd_MO_unmap_13 : decode bb_MO_unmap 13 = .ok (.aload_n 0, 1) := by decide +kernel
theorem dd_MO_unmap_14 : decode bb_MO_unmap 14 = .ok (.getfield 7, 3) := by decide +kernel
theorem dd_MO_unmap_17 : decode bb_MO_unmap 17 = .ok (.iload_n 1, 1) := by decide +kernel
theorem dd_MO_unmap_18 : decode bb_MO_unmap 18 = .ok (.iaload, 1) := by decide +kernel
theorem dd_MO_unmap_19 : decode bb_MO_unmap 19 = .ok (.iconst (-1), 1) := by decide +kernel
theorem dd_MO_unmap_20 : decode bb_MO_unmap 20 = .ok (.iastore, 1) := by decide +kernel
theorem dd_MO_unmap_21 : decode bb_MO_unmap 21 = .ok (.aload_n 0, 1) := by decide +kernel
theorem dd_MO_unmap_22 : decode bb_MO_unmap 22 = .ok (.getfield 7, 3) := by decide +kernel
theorem dd_MO_unmap_25 : decode bb_MO_unmap 25 = .ok (.iload_n 1, 1) := by decide +kernel
theorem dd_MO_unmap_26 : decode bb_MO_unmap 26 = .ok (.iconst (-1), 1) := by decide +kernel
theorem dd_MO_unmap_27 : decode bb_MO_unmap 27 = .ok (.iastore, 1) := by decide +kernel
theorem dd_MO_unmap_28 : decode bb_MO_unmap 28 = .ok (.aload_n 0, 1) := by decide +kernel
theorem dd_MO_unmap_29 : decode bb_MO_unmap 29 = .ok (.getfield 13, 3) := by decide +kernel
theorem dd_MO_unmap_32 : decode bb_MO_unmap 32 = .ok (.iload_n 1, 1) := by decide +kernel
theorem dd_MO_unmap_33 : decode bb_MO_unmap 33 = .ok (.iconst 0, 1) := by decide +kernel
theorem dd_MO_unmap_34 : decode bb_MO_unmap 34 = .ok (.bastore, 1) := by decide +kernel
theorem dd_MO_unmap_35 : decode bb_MO_unmap 35 = .ok (.return_, 1) := by decide +kernel
theorem dd_MO_room_0 : decode bb_MO_room 0 = .ok (.iconst 0, 1) := by decide +kernel
theorem dd_MO_room_1 : decode bb_MO_room 1 = .ok (.istore_n 2, 1) := by decide +kernel
theorem dd_MO_room_2 : decode bb_MO_room 2 = .ok (.iload_n 1, 1) := by decide +kernel
theorem dd_MO_room_3 : decode bb_MO_room 3 = .ok (.iload_n 2, 1) := by decide +kernel
theorem dd_MO_room_4 : decode bb_MO_room 4 = .ok (.iadd, 1) := by decide +kernel
theorem dd_MO_room_5 : decode bb_MO_room 5 = .ok (.bipush 80, 2) := by decide +kernel
theorem dd_MO_room_7 : decode bb_MO_room 7 = .ok (.if_icmp .ge 20, 3) := by decide +kernel
theorem dd_MO_room_10 : decode bb_MO_room 10 = .ok (.aload_n 0, 1) := by decide +kernel
theorem dd_MO_room_11 : decode bb_MO_room 11 = .ok (.getfield 26, 3) := by decide +kernel
theorem dd_MO_room_14 : decode bb_MO_room 14 = .ok (.iload_n 1, 1) := by decide +kernel
theorem dd_MO_room_15 : decode bb_MO_room 15 = .ok (.iload_n 2, 1) := by decide +kernel
theorem dd_MO_room_16 : decode bb_MO_room 16 = .ok (.iadd, 1) := by decide +kernel
theorem dd_MO_room_17 : decode bb_MO_room 17 = .ok (.iaload, 1) := by decide +kernel
theorem dd_MO_room_18 : decode bb_MO_room 18 = .ok (.ifCond .ge 9, 3) := by decide +kernel
theorem dd_MO_room_21 : decode bb_MO_room 21 = .ok (.iinc 2 1, 3) := by decide +kernel
theorem dd_MO_room_24 : decode bb_MO_room 24 = .ok (.goto (-22), 3) := by decide +kernel
theorem dd_MO_room_27 : decode bb_MO_room 27 = .ok (.iload_n 2, 1) := by decide +kernel
theorem dd_MO_room_28 : decode bb_MO_room 28 = .ok (.ireturn, 1) := by decide +kernel
theorem dd_MO_bestFor_0 : decode bb_MO_bestFor 0 = .ok (.iconst (-1), 1) := by decide +kernel
theorem dd_MO_bestFor_1 : decode bb_MO_bestFor 1 = .ok (.istore_n 2, 1) := by decide +kernel
theorem dd_MO_bestFor_2 : decode bb_MO_bestFor 2 = .ok (.iconst 0, 1) := by decide +kernel
theorem dd_MO_bestFor_3 : decode bb_MO_bestFor 3 = .ok (.istore_n 3, 1) := by decide +kernel
theorem dd_MO_bestFor_4 : decode bb_MO_bestFor 4 = .ok (.iconst 0, 1) := by decide +kernel
theorem dd_MO_bestFor_5 : decode bb_MO_bestFor 5 = .ok (.istore 4, 2) := by decide +kernel
theorem dd_MO_bestFor_7 : decode bb_MO_bestFor 7 = .ok (.iload 4, 2) := by decide +kernel
theorem dd_MO_bestFor_9 : decode bb_MO_bestFor 9 = .ok (.bipush 80, 2) := by decide +kernel
theorem dd_MO_bestFor_11 : decode bb_MO_bestFor 11 = .ok (.if_icmp .ge 88, 3) := by decide +kernel
theorem dd_MO_bestFor_14 : decode bb_MO_bestFor 14 = .ok (.aload_n 0, 1) := by decide +kernel
theorem dd_MO_bestFor_15 : decode bb_MO_bestFor 15 = .ok (.iload 4, 2) := by decide +kernel
theorem dd_MO_bestFor_17 : decode bb_MO_bestFor 17 = .ok (.invokevirtual 63, 3) := by decide +kernel
theorem dd_MO_bestFor_20 : decode bb_MO_bestFor 20 = .ok (.istore 5, 2) := by decide +kernel
theorem dd_MO_bestFor_22 : decode bb_MO_bestFor 22 = .ok (.iload 5, 2) := by decide +kernel
theorem dd_MO_bestFor_24 : decode bb_MO_bestFor 24 = .ok (.ifCond .le 69, 3) := by decide +kernel
theorem dd_MO_bestFor_27 : decode bb_MO_bestFor 27 = .ok (.iload 4, 2) := by decide +kernel
theorem dd_MO_bestFor_29 : decode bb_MO_bestFor 29 = .ok (.ifCond .eq 15, 3) := by decide +kernel
theorem dd_MO_bestFor_32 : decode bb_MO_bestFor 32 = .ok (.aload_n 0, 1) := by decide +kernel
theorem dd_MO_bestFor_33 : decode bb_MO_bestFor 33 = .ok (.getfield 26, 3) := by decide +kernel
theorem dd_MO_bestFor_36 : decode bb_MO_bestFor 36 = .ok (.iload 4, 2) := by decide +kernel
theorem dd_MO_bestFor_38 : decode bb_MO_bestFor 38 = .ok (.iconst 1, 1) := by decide +kernel
theorem dd_MO_bestFor_39 : decode bb_MO_bestFor 39 = .ok (.isub, 1) := by decide +kernel
theorem dd_MO_bestFor_40 : decode bb_MO_bestFor 40 = .ok (.iaload, 1) := by decide +kernel
theorem dd_MO_bestFor_41 : decode bb_MO_bestFor 41 = .ok (.ifCond .lt 52, 3) := by decide +kernel
theorem dd_MO_bestFor_44 : decode bb_MO_bestFor 44 = .ok (.iload_n 3, 1) := by decide +kernel
theorem dd_MO_bestFor_45 : decode bb_MO_bestFor 45 = .ok (.iload_n 1, 1) := by decide +kernel
theorem dd_MO_bestFor_46 : decode bb_MO_bestFor 46 = .ok (.if_icmp .lt 23, 3) := by decide +kernel
theorem dd_MO_bestFor_49 : decode bb_MO_bestFor 49 = .ok (.iload 5, 2) := by decide +kernel
theorem dd_MO_bestFor_51 : decode bb_MO_bestFor 51 = .ok (.iload_n 1, 1) := by decide +kernel
theorem dd_MO_bestFor_52 : decode bb_MO_bestFor 52 = .ok (.if_icmp .lt 13, 3) := by decide +kernel
theorem dd_MO_bestFor_55 : decode bb_MO_bestFor 55 = .ok (.iload 5, 2) := by decide +kernel
theorem dd_MO_bestFor_57 : decode bb_MO_bestFor 57 = .ok (.iload_n 3, 1) := by decide +kernel
theorem dd_MO_bestFor_58 : decode bb_MO_bestFor 58 = .ok (.if_icmp .ge 7, 3) := by decide +kernel
theorem dd_MO_bestFor_61 : decode bb_MO_bestFor 61 = .ok (.iconst 1, 1) := by decide +kernel
theorem dd_MO_bestFor_62 : decode bb_MO_bestFor 62 = .ok (.goto 18, 3) := by decide +kernel
theorem dd_MO_bestFor_65 : decode bb_MO_bestFor 65 = .ok (.iconst 0, 1) := by decide +kernel
theorem dd_MO_bestFor_66 : decode bb_MO_bestFor 66 = .ok (.goto 14, 3) := by decide +kernel
theorem dd_MO_bestFor_69 : decode bb_MO_bestFor 69 = .ok (.iload 5, 2) := by decide +kernel
theorem dd_MO_bestFor_71 : decode bb_MO_bestFor 71 = .ok (.iload_n 3, 1) := by decide +kernel
theorem dd_MO_bestFor_72 : decode bb_MO_bestFor 72 = .ok (.if_icmp .le 7, 3) := by decide +kernel
theorem dd_MO_bestFor_75 : decode bb_MO_bestFor 75 = .ok (.iconst 1, 1) := by decide +kernel
theorem dd_MO_bestFor_76 : decode bb_MO_bestFor 76 = .ok (.goto 4, 3) := by decide +kernel
theorem dd_MO_bestFor_79 : decode bb_MO_bestFor 79 = .ok (.iconst 0, 1) := by decide +kernel
theorem dd_MO_bestFor_80 : decode bb_MO_bestFor 80 = .ok (.istore 6, 2) := by decide +kernel
theorem dd_MO_bestFor_82 : decode bb_MO_bestFor 82 = .ok (.iload 6, 2) := by decide +kernel
theorem dd_MO_bestFor_84 : decode bb_MO_bestFor 84 = .ok (.ifCond .eq 9, 3) := by decide +kernel
theorem dd_MO_bestFor_87 : decode bb_MO_bestFor 87 = .ok (.iload 4, 2) := by decide +kernel
theorem dd_MO_bestFor_89 : decode bb_MO_bestFor 89 = .ok (.istore_n 2, 1) := by decide +kernel
theorem dd_MO_bestFor_90 : decode bb_MO_bestFor 90 = .ok (.iload 5, 2) := by decide +kernel
theorem dd_MO_bestFor_92 : decode bb_MO_bestFor 92 = .ok (.istore_n 3, 1) := by decide +kernel
theorem dd_MO_bestFor_93 : decode bb_MO_bestFor 93 = .ok (.iinc 4 1, 3) := by decide +kernel
theorem dd_MO_bestFor_96 : decode bb_MO_bestFor 96 = .ok (.goto (-89), 3) := by decide +kernel
theorem dd_MO_bestFor_99 : decode bb_MO_bestFor 99 = .ok (.iload_n 2, 1) := by decide +kernel
theorem dd_MO_bestFor_100 : decode bb_MO_bestFor 100 = .ok (.ireturn, 1) := by decide +kernel
theorem dd_MO_mapRow_0 : decode bb_MO_mapRow 0 = .ok (.iconst 0, 1) := by decide +kernel
theorem dd_MO_mapRow_1 : decode bb_MO_mapRow 1 = .ok (.istore_n 3, 1) := by decide +kernel
theorem dd_MO_mapRow_2 : decode bb_MO_mapRow 2 = .ok (.iload_n 1, 1) := by decide +kernel
theorem dd_MO_mapRow_3 : decode bb_MO_mapRow 3 = .ok (.bipush 60, 2) := by decide +kernel
theorem dd_MO_mapRow_5 : decode bb_MO_mapRow 5 = .ok (.irem, 1) := by decide +kernel
theorem dd_MO_mapRow_6 : decode bb_MO_mapRow 6 = .ok (.ifCond .le 66, 3) := by decide +kernel
theorem dd_MO_mapRow_9 : decode bb_MO_mapRow 9 = .ok (.aload_n 0, 1) := by decide +kernel
theorem dd_MO_mapRow_10 : decode bb_MO_mapRow 10 = .ok (.getfield 7, 3) := by decide +kernel
theorem dd_MO_mapRow_13 : decode bb_MO_mapRow 13 = .ok (.iload_n 1, 1) := by decide +kernel
theorem dd_MO_mapRow_14 : decode bb_MO_mapRow 14 = .ok (.iconst 1, 1) := by decide +kernel
theorem dd_MO_mapRow_15 : decode bb_MO_mapRow 15 = .ok (.isub, 1) := by decide +kernel
theorem dd_MO_mapRow_16 : decode bb_MO_mapRow 16 = .ok (.iaload, 1) := by decide +kernel
theorem dd_MO_mapRow_17 : decode bb_MO_mapRow 17 = .ok (.ifCond .lt 55, 3) := by decide +kernel
theorem dd_MO_mapRow_20 : decode bb_MO_mapRow 20 = .ok (.aload_n 0, 1) := by decide +kernel
theorem dd_MO_mapRow_21 : decode bb_MO_mapRow 21 = .ok (.getfield 7, 3) := by decide +kernel
theorem dd_MO_mapRow_24 : decode bb_MO_mapRow 24 = .ok (.iload_n 1, 1) := by decide +kernel
theorem dd_MO_mapRow_25 : decode bb_MO_mapRow 25 = .ok (.iconst 1, 1) := by decide +kernel
theorem dd_MO_mapRow_26 : decode bb_MO_mapRow 26 = .ok (.isub, 1) := by decide +kernel
theorem dd_MO_mapRow_27 : decode bb_MO_mapRow 27 = .ok (.iaload, 1) := by decide +kernel
theorem dd_MO_mapRow_28 : decode bb_MO_mapRow 28 = .ok (.iconst 1, 1) := by decide +kernel
theorem dd_MO_mapRow_29 : decode bb_MO_mapRow 29 = .ok (.iadd, 1) := by decide +kernel
theorem dd_MO_mapRow_30 : decode bb_MO_mapRow 30 = .ok (.istore 4, 2) := by decide +kernel
theorem dd_MO_mapRow_32 : decode bb_MO_mapRow 32 = .ok (.iload_n 3, 1) := by decide +kernel
theorem dd_MO_mapRow_33 : decode bb_MO_mapRow 33 = .ok (.iload_n 2, 1) := by decide +kernel
theorem dd_MO_mapRow_34 : decode bb_MO_mapRow 34 = .ok (.if_icmp .ge 38, 3) := by decide +kernel
theorem dd_MO_mapRow_37 : decode bb_MO_mapRow 37 = .ok (.iload 4, 2) := by decide +kernel
theorem dd_MO_mapRow_39 : decode bb_MO_mapRow 39 = .ok (.bipush 80, 2) := by decide +kernel
theorem dd_MO_mapRow_41 : decode bb_MO_mapRow 41 = .ok (.if_icmp .ge 31, 3) := by decide +kernel
theorem dd_MO_mapRow_44 : decode bb_MO_mapRow 44 = .ok (.aload_n 0, 1) := by decide +kernel
theorem dd_MO_mapRow_45 : decode bb_MO_mapRow 45 = .ok (.getfield 26, 3) := by decide +kernel
theorem dd_MO_mapRow_48 : decode bb_MO_mapRow 48 = .ok (.iload 4, 2) := by decide +kernel
theorem dd_MO_mapRow_50 : decode bb_MO_mapRow 50 = .ok (.iaload, 1) := by decide +kernel
theorem dd_MO_mapRow_51 : decode bb_MO_mapRow 51 = .ok (.ifCond .ge 21, 3) := by decide +kernel
theorem dd_MO_mapRow_54 : decode bb_MO_mapRow 54 = .ok (.aload_n 0, 1) := by decide +kernel
theorem dd_MO_mapRow_55 : decode bb_MO_mapRow 55 = .ok (.iload_n 1, 1) := by decide +kernel
theorem dd_MO_mapRow_56 : decode bb_MO_mapRow 56 = .ok (.iload_n 3, 1) := by decide +kernel
theorem dd_MO_mapRow_57 : decode bb_MO_mapRow 57 = .ok (.iadd, 1) := by decide +kernel
theorem dd_MO_mapRow_58 : decode bb_MO_mapRow 58 = .ok (.iload 4, 2) := by decide +kernel
theorem dd_MO_mapRow_60 : decode bb_MO_mapRow 60 = .ok (.invokevirtual 66, 3) := by decide +kernel
theorem dd_MO_mapRow_63 : decode bb_MO_mapRow 63 = .ok (.iinc 3 1, 3) := by decide +kernel
theorem dd_MO_mapRow_66 : decode bb_MO_mapRow 66 = .ok (.iinc 4 1, 3) := by decide +kernel
theorem dd_MO_mapRow_69 : decode bb_MO_mapRow 69 = .ok (.goto (-37), 3) := by decide +kernel
theorem dd_MO_mapRow_72 : decode bb_MO_mapRow 72 = .ok (.iload_n 3, 1) := by decide +kernel
theorem dd_MO_mapRow_73 : decode bb_MO_mapRow 73 = .ok (.iload_n 2, 1) := by decide +kernel
theorem dd_MO_mapRow_74 : decode bb_MO_mapRow 74 = .ok (.if_icmp .ge 59, 3) := by decide +kernel
theorem dd_MO_mapRow_77 : decode bb_MO_mapRow 77 = .ok (.aload_n 0, 1) := by decide +kernel
theorem dd_MO_mapRow_78 : decode bb_MO_mapRow 78 = .ok (.iload_n 2, 1) := by decide +kernel
theorem dd_MO_mapRow_79 : decode bb_MO_mapRow 79 = .ok (.iload_n 3, 1) := by decide +kernel
theorem dd_MO_mapRow_80 : decode bb_MO_mapRow 80 = .ok (.isub, 1) := by decide +kernel
theorem dd_MO_mapRow_81 : decode bb_MO_mapRow 81 = .ok (.invokevirtual 70, 3) := by decide +kernel
theorem dd_MO_mapRow_84 : decode bb_MO_mapRow 84 = .ok (.istore 4, 2) := by decide +kernel
theorem dd_MO_mapRow_86 : decode bb_MO_mapRow 86 = .ok (.aload_n 0, 1) := by decide +kernel
theorem dd_MO_mapRow_87 : decode bb_MO_mapRow 87 = .ok (.iload 4, 2) := by decide +kernel
theorem dd_MO_mapRow_89 : decode bb_MO_mapRow 89 = .ok (.invokevirtual 63, 3) := by decide +kernel
theorem dd_MO_mapRow_92 : decode bb_MO_mapRow 92 = .ok (.istore 5, 2) := by decide +kernel
theorem dd_MO_mapRow_94 : decode bb_MO_mapRow 94 = .ok (.iconst 0, 1) := by decide +kernel
theorem dd_MO_mapRow_95 : decode bb_MO_mapRow 95 = .ok (.istore 6, 2) := by decide +kernel
theorem dd_MO_mapRow_97 : decode bb_MO_mapRow 97 = .ok (.iload 6, 2) := by decide +kernel
theorem dd_MO_mapRow_99 : decode bb_MO_mapRow 99 = .ok (.iload 5, 2) := by decide +kernel
theorem dd_MO_mapRow_101 : decode bb_MO_mapRow 101 = .ok (.if_icmp .ge 29, 3) := by decide +kernel
theorem dd_MO_mapRow_104 : decode bb_MO_mapRow 104 = .ok (.iload_n 3, 1) := by decide +kernel
theorem dd_MO_mapRow_105 : decode bb_MO_mapRow 105 = .ok (.iload_n 2, 1) := by decide +kernel
theorem dd_MO_mapRow_106 : decode bb_MO_mapRow 106 = .ok (.if_icmp .ge 24, 3) := by decide +kernel
theorem dd_MO_mapRow_109 : decode bb_MO_mapRow 109 = .ok (.aload_n 0, 1) := by decide +kernel
theorem dd_MO_mapRow_110 : decode bb_MO_mapRow 110 = .ok (.iload_n 1, 1) := by decide +kernel
theorem dd_MO_mapRow_111 : decode bb_MO_mapRow 111 = .ok (.iload_n 3, 1) := by decide +kernel
theorem dd_MO_mapRow_112 : decode bb_MO_mapRow 112 = .ok (.iadd, 1) := by decide +kernel
theorem dd_MO_mapRow_113 : decode bb_MO_mapRow 113 = .ok (.iload 4, 2) := by decide +kernel
theorem dd_MO_mapRow_115 : decode bb_MO_mapRow 115 = .ok (.iload 6, 2) := by decide +kernel
theorem dd_MO_mapRow_117 : decode bb_MO_mapRow 117 = .ok (.iadd, 1) := by decide +kernel
theorem dd_MO_mapRow_118 : decode bb_MO_mapRow 118 = .ok (.invokevirtual 66, 3) := by decide +kernel
theorem dd_MO_mapRow_121 : decode bb_MO_mapRow 121 = .ok (.iinc 3 1, 3) := by decide +kernel
theorem dd_MO_mapRow_124 : decode bb_MO_mapRow 124 = .ok (.iinc 6 1, 3) := by decide +kernel
theorem dd_MO_mapRow_127 : decode bb_MO_mapRow 127 = .ok (.goto (-30), 3) := by decide +kernel
theorem dd_MO_mapRow_130 : decode bb_MO_mapRow 130 = .ok (.goto (-58), 3) := by decide +kernel
theorem dd_MO_mapRow_133 : decode bb_MO_mapRow 133 = .ok (.return_, 1) := by decide +kernel
theorem dd_MO_mapHoles_0 : decode bb_MO_mapHoles 0 = .ok (.iload_n 1, 1) := by decide +kernel
theorem dd_MO_mapHoles_1 : decode bb_MO_mapHoles 1 = .ok (.istore 4, 2) := by decide +kernel
theorem dd_MO_mapHoles_3 : decode bb_MO_mapHoles 3 = .ok (.iload 4, 2) := by decide +kernel
theorem dd_MO_mapHoles_5 : decode bb_MO_mapHoles 5 = .ok (.iload_n 2, 1) := by decide +kernel
theorem dd_MO_mapHoles_6 : decode bb_MO_mapHoles 6 = .ok (.if_icmp .ge 76, 3) := by decide +kernel
theorem dd_MO_mapHoles_9 : decode bb_MO_mapHoles 9 = .ok (.iconst 0, 1) := by decide +kernel
theorem dd_MO_mapHoles_10 : decode bb_MO_mapHoles 10 = .ok (.istore 5, 2) := by decide +kernel
theorem dd_MO_mapHoles_12 : decode bb_MO_mapHoles 12 = .ok (.iload 4, 2) := by decide +kernel
theorem dd_MO_mapHoles_14 : decode bb_MO_mapHoles 14 = .ok (.iload 5, 2) := by decide +kernel
theorem dd_MO_mapHoles_16 : decode bb_MO_mapHoles 16 = .ok (.iadd, 1) := by decide +kernel
theorem dd_MO_mapHoles_17 : decode bb_MO_mapHoles 17 = .ok (.iload_n 2, 1) := by decide +kernel
theorem dd_MO_mapHoles_18 : decode bb_MO_mapHoles 18 = .ok (.if_icmp .ge 39, 3) := by decide +kernel
theorem dd_MO_mapHoles_21 : decode bb_MO_mapHoles 21 = .ok (.aload_n 0, 1) := by decide +kernel
theorem dd_MO_mapHoles_22 : decode bb_MO_mapHoles 22 = .ok (.getfield 7, 3) := by decide +kernel
theorem dd_MO_mapHoles_25 : decode bb_MO_mapHoles 25 = .ok (.iload 4, 2) := by decide +kernel
theorem dd_MO_mapHoles_27 : decode bb_MO_mapHoles 27 = .ok (.iload 5, 2) := by decide +kernel
theorem dd_MO_mapHoles_29 : decode bb_MO_mapHoles 29 = .ok (.iadd, 1) := by decide +kernel
theorem dd_MO_mapHoles_30 : decode bb_MO_mapHoles 30 = .ok (.iaload, 1) := by decide +kernel
theorem dd_MO_mapHoles_31 : decode bb_MO_mapHoles 31 = .ok (.ifCond .ge 26, 3) := by decide +kernel
theorem dd_MO_mapHoles_34 : decode bb_MO_mapHoles 34 = .ok (.iload_n 3, 1) := by decide +kernel
theorem dd_MO_mapHoles_35 : decode bb_MO_mapHoles 35 = .ok (.ifCond .ne 16, 3) := by decide +kernel
theorem dd_MO_mapHoles_38 : decode bb_MO_mapHoles 38 = .ok (.aload_n 0, 1) := by decide +kernel
theorem dd_MO_mapHoles_39 : decode bb_MO_mapHoles 39 = .ok (.getfield 17, 3) := by decide +kernel
theorem dd_MO_mapHoles_42 : decode bb_MO_mapHoles 42 = .ok (.iload 4, 2) := by decide +kernel
theorem dd_MO_mapHoles_44 : decode bb_MO_mapHoles 44 = .ok (.iload 5, 2) := by decide +kernel
theorem dd_MO_mapHoles_46 : decode bb_MO_mapHoles 46 = .ok (.iadd, 1) := by decide +kernel
theorem dd_MO_mapHoles_47 : decode bb_MO_mapHoles 47 = .ok (.baload, 1) := by decide +kernel
theorem dd_MO_mapHoles_48 : decode bb_MO_mapHoles 48 = .ok (.ifCond .eq 9, 3) := by decide +kernel
theorem dd_MO_mapHoles_51 : decode bb_MO_mapHoles 51 = .ok (.iinc 5 1, 3) := by decide +kernel
theorem dd_MO_mapHoles_54 : decode bb_MO_mapHoles 54 = .ok (.goto (-42), 3) := by decide +kernel
theorem dd_MO_mapHoles_57 : decode bb_MO_mapHoles 57 = .ok (.iload 5, 2) := by decide +kernel
theorem dd_MO_mapHoles_59 : decode bb_MO_mapHoles 59 = .ok (.ifCond .le 11, 3) := by decide +kernel
theorem dd_MO_mapHoles_62 : decode bb_MO_mapHoles 62 = .ok (.aload_n 0, 1) := by decide +kernel
theorem dd_MO_mapHoles_63 : decode bb_MO_mapHoles 63 = .ok (.iload 4, 2) := by decide +kernel
theorem dd_MO_mapHoles_65 : decode bb_MO_mapHoles 65 = .ok (.iload 5, 2) := by decide +kernel
theorem dd_MO_mapHoles_67 : decode bb_MO_mapHoles 67 = .ok (.invokevirtual 73, 3) := by decide +kernel
theorem dd_MO_mapHoles_70 : decode bb_MO_mapHoles 70 = .ok (.iload 4, 2) := by decide +kernel
theorem dd_MO_mapHoles_72 : decode bb_MO_mapHoles 72 = .ok (.iload 5, 2) := by decide +kernel
theorem dd_MO_mapHoles_74 : decode bb_MO_mapHoles 74 = .ok (.iadd, 1) := by decide +kernel
theorem dd_MO_mapHoles_75 : decode bb_MO_mapHoles 75 = .ok (.iconst 1, 1) := by decide +kernel
theorem dd_MO_mapHoles_76 : decode bb_MO_mapHoles 76 = .ok (.iadd, 1) := by decide +kernel
theorem dd_MO_mapHoles_77 : decode bb_MO_mapHoles 77 = .ok (.istore 4, 2) := by decide +kernel
theorem dd_MO_mapHoles_79 : decode bb_MO_mapHoles 79 = .ok (.goto (-76), 3) := by decide +kernel
theorem dd_MO_mapHoles_82 : decode bb_MO_mapHoles 82 = .ok (.return_, 1) := by decide +kernel
theorem dd_MO_write_0 : decode bb_MO_write 0 = .ok (.aload_n 0, 1) := by decide +kernel
theorem dd_MO_write_1 : decode bb_MO_write 1 = .ok (.iconst 0, 1) := by decide +kernel
theorem dd_MO_write_2 : decode bb_MO_write 2 = .ok (.invokevirtual 76, 3) := by decide +kernel
theorem dd_MO_write_5 : decode bb_MO_write 5 = .ok (.aload_n 0, 1) := by decide +kernel
theorem dd_MO_write_6 : decode bb_MO_write 6 = .ok (.iconst 1, 1) := by decide +kernel
theorem dd_MO_write_7 : decode bb_MO_write 7 = .ok (.invokevirtual 76, 3) := by decide +kernel
theorem dd_MO_write_10 : decode bb_MO_write 10 = .ok (.iadd, 1) := by decide +kernel
theorem dd_MO_write_11 : decode bb_MO_write 11 = .ok (.aload_n 0, 1) := by decide +kernel
theorem dd_MO_write_12 : decode bb_MO_write 12 = .ok (.iconst 2, 1) := by decide +kernel
theorem dd_MO_write_13 : decode bb_MO_write 13 = .ok (.invokevirtual 76, 3) := by decide +kernel
theorem dd_MO_write_16 : decode bb_MO_write 16 = .ok (.iadd, 1) := by decide +kernel
theorem dd_MO_write_17 : decode bb_MO_write 17 = .ok (.aload_n 0, 1) := by decide +kernel
theorem dd_MO_write_18 : decode bb_MO_write 18 = .ok (.iconst 3, 1) := by decide +kernel
theorem dd_MO_write_19 : decode bb_MO_write 19 = .ok (.invokevirtual 76, 3) := by decide +kernel
theorem dd_MO_write_22 : decode bb_MO_write 22 = .ok (.iadd, 1) := by decide +kernel
theorem dd_MO_write_23 : decode bb_MO_write 23 = .ok (.istore 4, 2) := by decide +kernel
theorem dd_MO_write_25 : decode bb_MO_write 25 = .ok (.aload_n 0, 1) := by decide +kernel
theorem dd_MO_write_26 : decode bb_MO_write 26 = .ok (.iload_n 1, 1) := by decide +kernel
theorem dd_MO_write_27 : decode bb_MO_write 27 = .ok (.invokestatic 79, 3) := by decide +kernel
theorem dd_MO_write_30 : decode bb_MO_write 30 = .ok (.ifCond .ne 10, 3) := by decide +kernel
theorem dd_MO_write_33 : decode bb_MO_write 33 = .ok (.iload_n 2, 1) := by decide +kernel
theorem dd_MO_write_34 : decode bb_MO_write 34 = .ok (.invokestatic 82, 3) := by decide +kernel
theorem dd_MO_write_37 : decode bb_MO_write 37 = .ok (.ifCond .eq 7, 3) := by decide +kernel
theorem dd_MO_write_40 : decode bb_MO_write 40 = .ok (.iconst 1, 1) := by decide +kernel
theorem dd_MO_write_41 : decode bb_MO_write 41 = .ok (.goto 29, 3) := by decide +kernel
theorem dd_MO_write_44 : decode bb_MO_write 44 = .ok (.aload_n 0, 1) := by decide +kernel
theorem dd_MO_write_45 : decode bb_MO_write 45 = .ok (.getfield 17, 3) := by decide +kernel
theorem dd_MO_write_48 : decode bb_MO_write 48 = .ok (.bipush 60, 2) := by decide +kernel
theorem dd_MO_write_50 : decode bb_MO_write 50 = .ok (.iload_n 1, 1) := by decide +kernel
theorem dd_MO_write_51 : decode bb_MO_write 51 = .ok (.imul, 1) := by decide +kernel
theorem dd_MO_write_52 : decode bb_MO_write 52 = .ok (.iload_n 2, 1) := by decide +kernel
theorem dd_MO_write_53 : decode bb_MO_write 53 = .ok (.iadd, 1) := by decide +kernel
theorem dd_MO_write_54 : decode bb_MO_write 54 = .ok (.baload, 1) := by decide +kernel
theorem dd_MO_write_55 : decode bb_MO_write 55 = .ok (.ifCond .ne 14, 3) := by decide +kernel
theorem dd_MO_write_58 : decode bb_MO_write 58 = .ok (.iload 4, 2) := by decide +kernel
theorem dd_MO_write_60 : decode bb_MO_write 60 = .ok (.bipush 24, 2) := by decide +kernel
theorem dd_MO_write_62 : decode bb_MO_write 62 = .ok (.if_icmp .ne 7, 3) := by decide +kernel
theorem dd_MO_write_65 : decode bb_MO_write 65 = .ok (.iconst 2, 1) := by decide +kernel
theorem dd_MO_write_66 : decode bb_MO_write 66 = .ok (.goto 4, 3) := by decide +kernel
theorem dd_MO_write_69 : decode bb_MO_write 69 = .ok (.iconst 0, 1) := by decide +kernel
theorem dd_MO_write_70 : decode bb_MO_write 70 = .ok (.putfield 35, 3) := by decide +kernel
theorem dd_MO_write_73 : decode bb_MO_write 73 = .ok (.aload_n 0, 1) := by decide +kernel
theorem dd_MO_write_74 : decode bb_MO_write 74 = .ok (.getfield 35, 3) := by decide +kernel
theorem dd_MO_write_77 : decode bb_MO_write 77 = .ok (.ifCond .le 4, 3) := by decide +kernel
theorem dd_MO_write_80 : decode bb_MO_write 80 = .ok (.return_, 1) := by decide +kernel
theorem dd_MO_write_81 : decode bb_MO_write 81 = .ok (.bipush 60, 2) := by decide +kernel
theorem dd_MO_write_83 : decode bb_MO_write 83 = .ok (.iload_n 1, 1) := by decide +kernel
theorem dd_MO_write_84 : decode bb_MO_write 84 = .ok (.imul, 1) := by decide +kernel
theorem dd_MO_write_85 : decode bb_MO_write 85 = .ok (.iload_n 2, 1) := by decide +kernel
theorem dd_MO_write_86 : decode bb_MO_write 86 = .ok (.iadd, 1) := by decide +kernel
theorem dd_MO_write_87 : decode bb_MO_write 87 = .ok (.istore 5, 2) := by decide +kernel
theorem dd_MO_write_89 : decode bb_MO_write 89 = .ok (.aload_n 0, 1) := by decide +kernel
theorem dd_MO_write_90 : decode bb_MO_write 90 = .ok (.getfield 17, 3) := by decide +kernel
theorem dd_MO_write_93 : decode bb_MO_write 93 = .ok (.iload 5, 2) := by decide +kernel
theorem dd_MO_write_95 : decode bb_MO_write 95 = .ok (.baload, 1) := by decide +kernel
theorem dd_MO_write_96 : decode bb_MO_write 96 = .ok (.istore 6, 2) := by decide +kernel
theorem dd_MO_write_98 : decode bb_MO_write 98 = .ok (.aload_n 0, 1) := by decide +kernel
theorem dd_MO_write_99 : decode bb_MO_write 99 = .ok (.getfield 17, 3) := by decide +kernel
theorem dd_MO_write_102 : decode bb_MO_write 102 = .ok (.iload 5, 2) := by decide +kernel
theorem dd_MO_write_104 : decode bb_MO_write 104 = .ok (.iconst 1, 1) := by decide +kernel
theorem dd_MO_write_105 : decode bb_MO_write 105 = .ok (.bastore, 1) := by decide +kernel
theorem dd_MO_write_106 : decode bb_MO_write 106 = .ok (.iload 6, 2) := by decide +kernel
theorem dd_MO_write_108 : decode bb_MO_write 108 = .ok (.ifCond .ne 28, 3) := by decide +kernel
theorem dd_MO_write_111 : decode bb_MO_write 111 = .ok (.aload_n 0, 1) := by decide +kernel
theorem dd_MO_write_112 : decode bb_MO_write 112 = .ok (.invokevirtual 85, 3) := by decide +kernel
theorem dd_MO_write_115 : decode bb_MO_write 115 = .ok (.aload_n 0, 1) := by decide +kernel
theorem dd_MO_write_116 : decode bb_MO_write 116 = .ok (.invokevirtual 89, 3) := by decide +kernel
theorem dd_MO_write_119 : decode bb_MO_write 119 = .ok (.if_icmp .ge 17, 3) := by decide +kernel
theorem dd_MO_write_122 : decode bb_MO_write 122 = .ok (.aload_n 0, 1) := by decide +kernel
theorem dd_MO_write_123 : decode bb_MO_write 123 = .ok (.getfield 17, 3) := by decide +kernel
theorem dd_MO_write_126 : decode bb_MO_write 126 = .ok (.iload 5, 2) := by decide +kernel
theorem dd_MO_write_128 : decode bb_MO_write 128 = .ok (.iconst 0, 1) := by decide +kernel
theorem dd_MO_write_129 : decode bb_MO_write 129 = .ok (.bastore, 1) := by decide +kernel
theorem dd_MO_write_130 : decode bb_MO_write 130 = .ok (.aload_n 0, 1) := by decide +kernel
theorem dd_MO_write_131 : decode bb_MO_write 131 = .ok (.iconst 3, 1) := by decide +kernel
theorem dd_MO_write_132 : decode bb_MO_write 132 = .ok (.putfield 35, 3) := by decide +kernel
theorem dd_MO_write_135 : decode bb_MO_write 135 = .ok (.return_, 1) := by decide +kernel
theorem dd_MO_write_136 : decode bb_MO_write 136 = .ok (.aload_n 0, 1) := by decide +kernel
theorem dd_MO_write_137 : decode bb_MO_write 137 = .ok (.getfield 20, 3) := by decide +kernel
theorem dd_MO_write_140 : decode bb_MO_write 140 = .ok (.iload 5, 2) := by decide +kernel
theorem dd_MO_write_142 : decode bb_MO_write 142 = .ok (.iload_n 3, 1) := by decide +kernel
theorem dd_MO_write_143 : decode bb_MO_write 143 = .ok (.iastore, 1) := by decide +kernel
theorem dd_MO_write_144 : decode bb_MO_write 144 = .ok (.aload_n 0, 1) := by decide +kernel
theorem dd_MO_write_145 : decode bb_MO_write 145 = .ok (.getfield 23, 3) := by decide +kernel
theorem dd_MO_write_148 : decode bb_MO_write 148 = .ok (.iload_n 1, 1) := by decide +kernel
theorem dd_MO_write_149 : decode bb_MO_write 149 = .ok (.aload_n 0, 1) := by decide +kernel
theorem dd_MO_write_150 : decode bb_MO_write 150 = .ok (.getfield 23, 3) := by decide +kernel
theorem dd_MO_write_153 : decode bb_MO_write 153 = .ok (.iload_n 1, 1) := by decide +kernel
theorem dd_MO_write_154 : decode bb_MO_write 154 = .ok (.iaload, 1) := by decide +kernel
theorem dd_MO_write_155 : decode bb_MO_write 155 = .ok (.iload_n 2, 1) := by decide +kernel
theorem dd_MO_write_156 : decode bb_MO_write 156 = .ok (.if_icmp .le 12, 3) := by decide +kernel
