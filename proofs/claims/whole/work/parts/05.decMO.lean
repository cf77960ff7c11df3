theorem dd_MO_write_159 : decode bb_MO_write 159 = .ok (.aload_n 0, 1) := by decide +kernel
theorem dd_MO_write_160 : decode bb_MO_write 160 = .ok (.getfield 23, 3) := by decide +kernel
theorem dd_MO_write_163 : decode bb_MO_write 163 = .ok (.iload_n 1, 1) := by decide +kernel
theorem dd_MO_write_164 : decode bb_MO_write 164 = .ok (.iaload, 1) := by decide +kernel
theorem dd_MO_write_165 : decode bb_MO_write 165 = .ok (.goto 6, 3) := by decide +kernel
theorem dd_MO_write_168 : decode bb_MO_write 168 = .ok (.iload_n 2, 1) := by decide +kernel
theorem dd_MO_write_169 : decode bb_MO_write 169 = .ok (.iconst 1, 1) := by decide +kernel
theorem dd_MO_write_170 : decode bb_MO_write 170 = .ok (.iadd, 1) := by decide +kernel
theorem dd_MO_write_171 : decode bb_MO_write 171 = .ok (.iastore, 1) := by decide +kernel
theorem dd_MO_write_172 : decode bb_MO_write 172 = .ok (.return_, 1) := by decide +kernel
theorem dd_MO_read_0 : decode bb_MO_read 0 = .ok (.aload_n 0, 1) := by decide +kernel
theorem dd_MO_read_1 : decode bb_MO_read 1 = .ok (.iload_n 1, 1) := by decide +kernel
theorem dd_MO_read_2 : decode bb_MO_read 2 = .ok (.invokestatic 79, 3) := by decide +kernel
theorem dd_MO_read_5 : decode bb_MO_read 5 = .ok (.ifCond .ne 10, 3) := by decide +kernel
theorem dd_MO_read_8 : decode bb_MO_read 8 = .ok (.iload_n 2, 1) := by decide +kernel
theorem dd_MO_read_9 : decode bb_MO_read 9 = .ok (.invokestatic 82, 3) := by decide +kernel
theorem dd_MO_read_12 : decode bb_MO_read 12 = .ok (.ifCond .eq 7, 3) := by decide +kernel
theorem dd_MO_read_15 : decode bb_MO_read 15 = .ok (.iconst 1, 1) := by decide +kernel
theorem dd_MO_read_16 : decode bb_MO_read 16 = .ok (.goto 4, 3) := by decide +kernel
theorem dd_MO_read_19 : decode bb_MO_read 19 = .ok (.iconst 0, 1) := by decide +kernel
theorem dd_MO_read_20 : decode bb_MO_read 20 = .ok (.putfield 35, 3) := by decide +kernel
theorem dd_MO_read_23 : decode bb_MO_read 23 = .ok (.aload_n 0, 1) := by decide +kernel
theorem dd_MO_read_24 : decode bb_MO_read 24 = .ok (.getfield 35, 3) := by decide +kernel
theorem dd_MO_read_27 : decode bb_MO_read 27 = .ok (.ifCond .le 5, 3) := by decide +kernel
theorem dd_MO_read_30 : decode bb_MO_read 30 = .ok (.iconst 0, 1) := by decide +kernel
theorem dd_MO_read_31 : decode bb_MO_read 31 = .ok (.ireturn, 1) := by decide +kernel
theorem dd_MO_read_32 : decode bb_MO_read 32 = .ok (.bipush 60, 2) := by decide +kernel
theorem dd_MO_read_34 : decode bb_MO_read 34 = .ok (.iload_n 1, 1) := by decide +kernel
theorem dd_MO_read_35 : decode bb_MO_read 35 = .ok (.imul, 1) := by decide +kernel
theorem dd_MO_read_36 : decode bb_MO_read 36 = .ok (.iload_n 2, 1) := by decide +kernel
theorem dd_MO_read_37 : decode bb_MO_read 37 = .ok (.iadd, 1) := by decide +kernel
theorem dd_MO_read_38 : decode bb_MO_read 38 = .ok (.istore_n 3, 1) := by decide +kernel
theorem dd_MO_read_39 : decode bb_MO_read 39 = .ok (.aload_n 0, 1) := by decide +kernel
theorem dd_MO_read_40 : decode bb_MO_read 40 = .ok (.getfield 17, 3) := by decide +kernel
theorem dd_MO_read_43 : decode bb_MO_read 43 = .ok (.iload_n 3, 1) := by decide +kernel
theorem dd_MO_read_44 : decode bb_MO_read 44 = .ok (.baload, 1) := by decide +kernel
theorem dd_MO_read_45 : decode bb_MO_read 45 = .ok (.ifCond .eq 12, 3) := by decide +kernel
theorem dd_MO_read_48 : decode bb_MO_read 48 = .ok (.aload_n 0, 1) := by decide +kernel
theorem dd_MO_read_49 : decode bb_MO_read 49 = .ok (.getfield 20, 3) := by decide +kernel
theorem dd_MO_read_52 : decode bb_MO_read 52 = .ok (.iload_n 3, 1) := by decide +kernel
theorem dd_MO_read_53 : decode bb_MO_read 53 = .ok (.iaload, 1) := by decide +kernel
theorem dd_MO_read_54 : decode bb_MO_read 54 = .ok (.goto 36, 3) := by decide +kernel
theorem dd_MO_read_57 : decode bb_MO_read 57 = .ok (.aload_n 0, 1) := by decide +kernel
theorem dd_MO_read_58 : decode bb_MO_read 58 = .ok (.getfield 7, 3) := by decide +kernel
theorem dd_MO_read_61 : decode bb_MO_read 61 = .ok (.iload_n 3, 1) := by decide +kernel
theorem dd_MO_read_62 : decode bb_MO_read 62 = .ok (.iaload, 1) := by decide +kernel
theorem dd_MO_read_63 : decode bb_MO_read 63 = .ok (.ifCond .lt 26, 3) := by decide +kernel
theorem dd_MO_read_66 : decode bb_MO_read 66 = .ok (.aload_n 0, 1) := by decide +kernel
theorem dd_MO_read_67 : decode bb_MO_read 67 = .ok (.getfield 13, 3) := by decide +kernel
theorem dd_MO_read_70 : decode bb_MO_read 70 = .ok (.iload_n 3, 1) := by decide +kernel
theorem dd_MO_read_71 : decode bb_MO_read 71 = .ok (.baload, 1) := by decide +kernel
theorem dd_MO_read_72 : decode bb_MO_read 72 = .ok (.ifCond .eq 17, 3) := by decide +kernel
theorem dd_MO_read_75 : decode bb_MO_read 75 = .ok (.aload_n 0, 1) := by decide +kernel
theorem dd_MO_read_76 : decode bb_MO_read 76 = .ok (.getfield 29, 3) := by decide +kernel
theorem dd_MO_read_79 : decode bb_MO_read 79 = .ok (.aload_n 0, 1) := by decide +kernel
theorem dd_MO_read_80 : decode bb_MO_read 80 = .ok (.getfield 7, 3) := by decide +kernel
theorem dd_MO_read_83 : decode bb_MO_read 83 = .ok (.iload_n 3, 1) := by decide +kernel
theorem dd_MO_read_84 : decode bb_MO_read 84 = .ok (.iaload, 1) := by decide +kernel
theorem dd_MO_read_85 : decode bb_MO_read 85 = .ok (.iaload, 1) := by decide +kernel
theorem dd_MO_read_86 : decode bb_MO_read 86 = .ok (.goto 4, 3) := by decide +kernel
theorem dd_MO_read_89 : decode bb_MO_read 89 = .ok (.iconst 0, 1) := by decide +kernel
theorem dd_MO_read_90 : decode bb_MO_read 90 = .ok (.ireturn, 1) := by decide +kernel
theorem dd_MO_preallocate_0 : decode bb_MO_preallocate 0 = .ok (.aload_n 0, 1) := by decide +kernel
theorem dd_MO_preallocate_1 : decode bb_MO_preallocate 1 = .ok (.iload_n 1, 1) := by decide +kernel
theorem dd_MO_preallocate_2 : decode bb_MO_preallocate 2 = .ok (.invokestatic 79, 3) := by decide +kernel
theorem dd_MO_preallocate_5 : decode bb_MO_preallocate 5 = .ok (.ifCond .ne 10, 3) := by decide +kernel
theorem dd_MO_preallocate_8 : decode bb_MO_preallocate 8 = .ok (.iload_n 2, 1) := by decide +kernel
theorem dd_MO_preallocate_9 : decode bb_MO_preallocate 9 = .ok (.invokestatic 82, 3) := by decide +kernel
theorem dd_MO_preallocate_12 : decode bb_MO_preallocate 12 = .ok (.ifCond .eq 7, 3) := by decide +kernel
theorem dd_MO_preallocate_15 : decode bb_MO_preallocate 15 = .ok (.iconst 1, 1) := by decide +kernel
theorem dd_MO_preallocate_16 : decode bb_MO_preallocate 16 = .ok (.goto 21, 3) := by decide +kernel
theorem dd_MO_preallocate_19 : decode bb_MO_preallocate 19 = .ok (.iload_n 3, 1) := by decide +kernel
theorem dd_MO_preallocate_20 : decode bb_MO_preallocate 20 = .ok (.iconst 1, 1) := by decide +kernel
theorem dd_MO_preallocate_21 : decode bb_MO_preallocate 21 = .ok (.if_icmp .lt 11, 3) := by decide +kernel
theorem dd_MO_preallocate_24 : decode bb_MO_preallocate 24 = .ok (.iload_n 3, 1) := by decide +kernel
theorem dd_MO_preallocate_25 : decode bb_MO_preallocate 25 = .ok (.bipush 60, 2) := by decide +kernel
theorem dd_MO_preallocate_27 : decode bb_MO_preallocate 27 = .ok (.iload_n 2, 1) := by decide +kernel
theorem dd_MO_preallocate_28 : decode bb_MO_preallocate 28 = .ok (.isub, 1) := by decide +kernel
theorem dd_MO_preallocate_29 : decode bb_MO_preallocate 29 = .ok (.if_icmp .le 7, 3) := by decide +kernel
theorem dd_MO_preallocate_32 : decode bb_MO_preallocate 32 = .ok (.iconst 2, 1) := by decide +kernel
theorem dd_MO_preallocate_33 : decode bb_MO_preallocate 33 = .ok (.goto 4, 3) := by decide +kernel
theorem dd_MO_preallocate_36 : decode bb_MO_preallocate 36 = .ok (.iconst 0, 1) := by decide +kernel
theorem dd_MO_preallocate_37 : decode bb_MO_preallocate 37 = .ok (.putfield 35, 3) := by decide +kernel
theorem dd_MO_preallocate_40 : decode bb_MO_preallocate 40 = .ok (.aload_n 0, 1) := by decide +kernel
theorem dd_MO_preallocate_41 : decode bb_MO_preallocate 41 = .ok (.getfield 35, 3) := by decide +kernel
theorem dd_MO_preallocate_44 : decode bb_MO_preallocate 44 = .ok (.ifCond .le 5, 3) := by decide +kernel
theorem dd_MO_preallocate_47 : decode bb_MO_preallocate 47 = .ok (.iconst 0, 1) := by decide +kernel
theorem dd_MO_preallocate_48 : decode bb_MO_preallocate 48 = .ok (.ireturn, 1) := by decide +kernel
theorem dd_MO_preallocate_49 : decode bb_MO_preallocate 49 = .ok (.iconst 0, 1) := by decide +kernel
theorem dd_MO_preallocate_50 : decode bb_MO_preallocate 50 = .ok (.istore 4, 2) := by decide +kernel
theorem dd_MO_preallocate_52 : decode bb_MO_preallocate 52 = .ok (.iconst 0, 1) := by decide +kernel
theorem dd_MO_preallocate_53 : decode bb_MO_preallocate 53 = .ok (.istore 5, 2) := by decide +kernel
theorem dd_MO_preallocate_55 : decode bb_MO_preallocate 55 = .ok (.iconst 0, 1) := by decide +kernel
theorem dd_MO_preallocate_56 : decode bb_MO_preallocate 56 = .ok (.istore 6, 2) := by decide +kernel
theorem dd_MO_preallocate_58 : decode bb_MO_preallocate 58 = .ok (.iload 6, 2) := by decide +kernel
theorem dd_MO_preallocate_60 : decode bb_MO_preallocate 60 = .ok (.bipush 60, 2) := by decide +kernel
theorem dd_MO_preallocate_62 : decode bb_MO_preallocate 62 = .ok (.if_icmp .ge 28, 3) := by decide +kernel
theorem dd_MO_preallocate_65 : decode bb_MO_preallocate 65 = .ok (.aload_n 0, 1) := by decide +kernel
theorem dd_MO_preallocate_66 : decode bb_MO_preallocate 66 = .ok (.getfield 32, 3) := by decide +kernel
theorem dd_MO_preallocate_69 : decode bb_MO_preallocate 69 = .ok (.iload 6, 2) := by decide +kernel
theorem dd_MO_preallocate_71 : decode bb_MO_preallocate 71 = .ok (.aload_n 0, 1) := by decide +kernel
theorem dd_MO_preallocate_72 : decode bb_MO_preallocate 72 = .ok (.getfield 7, 3) := by decide +kernel
theorem dd_MO_preallocate_75 : decode bb_MO_preallocate 75 = .ok (.bipush 60, 2) := by decide +kernel
theorem dd_MO_preallocate_77 : decode bb_MO_preallocate 77 = .ok (.iload_n 1, 1) := by decide +kernel
theorem dd_MO_preallocate_78 : decode bb_MO_preallocate 78 = .ok (.imul, 1) := by decide +kernel
theorem dd_MO_preallocate_79 : decode bb_MO_preallocate 79 = .ok (.iload 6, 2) := by decide +kernel
theorem dd_MO_preallocate_81 : decode bb_MO_preallocate 81 = .ok (.iadd, 1) := by decide +kernel
theorem dd_MO_preallocate_82 : decode bb_MO_preallocate 82 = .ok (.iaload, 1) := by decide +kernel
theorem dd_MO_preallocate_83 : decode bb_MO_preallocate 83 = .ok (.iastore, 1) := by decide +kernel
theorem dd_MO_preallocate_84 : decode bb_MO_preallocate 84 = .ok (.iinc 6 1, 3) := by decide +kernel
theorem dd_MO_preallocate_87 : decode bb_MO_preallocate 87 = .ok (.goto (-29), 3) := by decide +kernel
theorem dd_MO_preallocate_90 : decode bb_MO_preallocate 90 = .ok (.bipush 60, 2) := by decide +kernel
theorem dd_MO_preallocate_92 : decode bb_MO_preallocate 92 = .ok (.iload_n 1, 1) := by decide +kernel
theorem dd_MO_preallocate_93 : decode bb_MO_preallocate 93 = .ok (.imul, 1) := by decide +kernel
theorem dd_MO_preallocate_94 : decode bb_MO_preallocate 94 = .ok (.iload_n 2, 1) := by decide +kernel
theorem dd_MO_preallocate_95 : decode bb_MO_preallocate 95 = .ok (.iadd, 1) := by decide +kernel
theorem dd_MO_preallocate_96 : decode bb_MO_preallocate 96 = .ok (.istore 6, 2) := by decide +kernel
theorem dd_MO_preallocate_98 : decode bb_MO_preallocate 98 = .ok (.iload 6, 2) := by decide +kernel
theorem dd_MO_preallocate_100 : decode bb_MO_preallocate 100 = .ok (.bipush 60, 2) := by decide +kernel
theorem dd_MO_preallocate_102 : decode bb_MO_preallocate 102 = .ok (.iload_n 1, 1) := by decide +kernel
theorem dd_MO_preallocate_103 : decode bb_MO_preallocate 103 = .ok (.imul, 1) := by decide +kernel
theorem dd_MO_preallocate_104 : decode bb_MO_preallocate 104 = .ok (.iload_n 2, 1) := by decide +kernel
theorem dd_MO_preallocate_105 : decode bb_MO_preallocate 105 = .ok (.iadd, 1) := by decide +kernel
theorem dd_MO_preallocate_106 : decode bb_MO_preallocate 106 = .ok (.iload_n 3, 1) := by decide +kernel
theorem dd_MO_preallocate_107 : decode bb_MO_preallocate 107 = .ok (.iadd, 1) := by decide +kernel
theorem dd_MO_preallocate_108 : decode bb_MO_preallocate 108 = .ok (.if_icmp .ge 30, 3) := by decide +kernel
theorem dd_MO_preallocate_111 : decode bb_MO_preallocate 111 = .ok (.aload_n 0, 1) := by decide +kernel
theorem dd_MO_preallocate_112 : decode bb_MO_preallocate 112 = .ok (.getfield 7, 3) := by decide +kernel
theorem dd_MO_preallocate_115 : decode bb_MO_preallocate 115 = .ok (.iload 6, 2) := by decide +kernel
theorem dd_MO_preallocate_117 : decode bb_MO_preallocate 117 = .ok (.iaload, 1) := by decide +kernel
theorem dd_MO_preallocate_118 : decode bb_MO_preallocate 118 = .ok (.ifCond .ge 10, 3) := by decide +kernel
theorem dd_MO_preallocate_121 : decode bb_MO_preallocate 121 = .ok (.iload 4, 2) := by decide +kernel
theorem dd_MO_preallocate_123 : decode bb_MO_preallocate 123 = .ok (.iconst 1, 1) := by decide +kernel
theorem dd_MO_preallocate_124 : decode bb_MO_preallocate 124 = .ok (.iadd, 1) := by decide +kernel
theorem dd_MO_preallocate_125 : decode bb_MO_preallocate 125 = .ok (.goto 5, 3) := by decide +kernel
theorem dd_MO_preallocate_128 : decode bb_MO_preallocate 128 = .ok (.iload 4, 2) := by decide +kernel
theorem dd_MO_preallocate_130 : decode bb_MO_preallocate 130 = .ok (.istore 4, 2) := by decide +kernel
theorem dd_MO_preallocate_132 : decode bb_MO_preallocate 132 = .ok (.iinc 6 1, 3) := by decide +kernel
theorem dd_MO_preallocate_135 : decode bb_MO_preallocate 135 = .ok (.goto (-37), 3) := by decide +kernel
theorem dd_MO_preallocate_138 : decode bb_MO_preallocate 138 = .ok (.iconst 0, 1) := by decide +kernel
theorem dd_MO_preallocate_139 : decode bb_MO_preallocate 139 = .ok (.istore 6, 2) := by decide +kernel
theorem dd_MO_preallocate_141 : decode bb_MO_preallocate 141 = .ok (.iload 6, 2) := by decide +kernel
theorem dd_MO_preallocate_143 : decode bb_MO_preallocate 143 = .ok (.bipush 80, 2) := by decide +kernel
theorem dd_MO_preallocate_145 : decode bb_MO_preallocate 145 = .ok (.if_icmp .ge 30, 3) := by decide +kernel
theorem dd_MO_preallocate_148 : decode bb_MO_preallocate 148 = .ok (.aload_n 0, 1) := by decide +kernel
theorem dd_MO_preallocate_149 : decode bb_MO_preallocate 149 = .ok (.getfield 26, 3) := by decide +kernel
theorem dd_MO_preallocate_152 : decode bb_MO_preallocate 152 = .ok (.iload 6, 2) := by decide +kernel
theorem dd_MO_preallocate_154 : decode bb_MO_preallocate 154 = .ok (.iaload, 1) := by decide +kernel
theorem dd_MO_preallocate_155 : decode bb_MO_preallocate 155 = .ok (.ifCond .lt 10, 3) := by decide +kernel
theorem dd_MO_preallocate_158 : decode bb_MO_preallocate 158 = .ok (.iload 5, 2) := by decide +kernel
theorem dd_MO_preallocate_160 : decode bb_MO_preallocate 160 = .ok (.iconst 1, 1) := by decide +kernel
theorem dd_MO_preallocate_161 : decode bb_MO_preallocate 161 = .ok (.iadd, 1) := by decide +kernel
theorem dd_MO_preallocate_162 : decode bb_MO_preallocate 162 = .ok (.goto 5, 3) := by decide +kernel
theorem dd_MO_preallocate_165 : decode bb_MO_preallocate 165 = .ok (.iload 5, 2) := by decide +kernel
theorem dd_MO_preallocate_167 : decode bb_MO_preallocate 167 = .ok (.istore 5, 2) := by decide +kernel
theorem dd_MO_preallocate_169 : decode bb_MO_preallocate 169 = .ok (.iinc 6 1, 3) := by decide +kernel
theorem dd_MO_preallocate_172 : decode bb_MO_preallocate 172 = .ok (.goto (-31), 3) := by decide +kernel
theorem dd_MO_preallocate_175 : decode bb_MO_preallocate 175 = .ok (.iload 4, 2) := by decide +kernel
theorem dd_MO_preallocate_177 : decode bb_MO_preallocate 177 = .ok (.bipush 80, 2) := by decide +kernel
theorem dd_MO_preallocate_179 : decode bb_MO_preallocate 179 = .ok (.iload 5, 2) := by decide +kernel
theorem dd_MO_preallocate_181 : decode bb_MO_preallocate 181 = .ok (.isub, 1) := by decide +kernel
theorem dd_MO_preallocate_182 : decode bb_MO_preallocate 182 = .ok (.if_icmp .le 10, 3) := by decide +kernel
theorem dd_MO_preallocate_185 : decode bb_MO_preallocate 185 = .ok (.aload_n 0, 1) := by decide +kernel
theorem dd_MO_preallocate_186 : decode bb_MO_preallocate 186 = .ok (.iconst 3, 1) := by decide +kernel
theorem dd_MO_preallocate_187 : decode bb_MO_preallocate 187 = .ok (.putfield 35, 3) := by decide +kernel
theorem dd_MO_preallocate_190 : decode bb_MO_preallocate 190 = .ok (.iconst 0, 1) := by decide +kernel
theorem dd_MO_preallocate_191 : decode bb_MO_preallocate 191 = .ok (.ireturn, 1) := by decide +kernel
theorem dd_MO_preallocate_192 : decode bb_MO_preallocate 192 = .ok (.aload_n 0, 1) := by decide +kernel
theorem dd_MO_preallocate_193 : decode bb_MO_preallocate 193 = .ok (.bipush 60, 2) := by decide +kernel
theorem dd_MO_preallocate_195 : decode bb_MO_preallocate 195 = .ok (.iload_n 1, 1) := by decide +kernel
theorem dd_MO_preallocate_196 : decode bb_MO_preallocate 196 = .ok (.imul, 1) := by decide +kernel
theorem dd_MO_preallocate_197 : decode bb_MO_preallocate 197 = .ok (.iload_n 2, 1) := by decide +kernel
theorem dd_MO_preallocate_198 : decode bb_MO_preallocate 198 = .ok (.iadd, 1) := by decide +kernel
theorem dd_MO_preallocate_199 : decode bb_MO_preallocate 199 = .ok (.bipush 60, 2) := by decide +kernel
theorem dd_MO_preallocate_201 : decode bb_MO_preallocate 201 = .ok (.iload_n 1, 1) := by decide +kernel
theorem dd_MO_preallocate_202 : decode bb_MO_preallocate 202 = .ok (.imul, 1) := by decide +kernel
theorem dd_MO_preallocate_203 : decode bb_MO_preallocate 203 = .ok (.iload_n 2, 1) := by decide +kernel
theorem dd_MO_preallocate_204 : decode bb_MO_preallocate 204 = .ok (.iadd, 1) := by decide +kernel
theorem dd_MO_preallocate_205 : decode bb_MO_preallocate 205 = .ok (.iload_n 3, 1) := by decide +kernel
theorem dd_MO_preallocate_206 : decode bb_MO_preallocate 206 = .ok (.iadd, 1) := by decide +kernel
theorem dd_MO_preallocate_207 : decode bb_MO_preallocate 207 = .ok (.iconst 1, 1) := by decide +kernel
theorem dd_MO_preallocate_208 : decode bb_MO_preallocate 208 = .ok (.invokevirtual 92, 3) := by decide +kernel
theorem dd_MO_preallocate_211 : decode bb_MO_preallocate 211 = .ok (.aload_n 0, 1) := by decide +kernel
theorem dd_MO_preallocate_212 : decode bb_MO_preallocate 212 = .ok (.invokevirtual 85, 3) := by decide +kernel
theorem dd_MO_preallocate_215 : decode bb_MO_preallocate 215 = .ok (.aload_n 0, 1) := by decide +kernel
theorem dd_MO_preallocate_216 : decode bb_MO_preallocate 216 = .ok (.invokevirtual 89, 3) := by decide +kernel
theorem dd_MO_preallocate_219 : decode bb_MO_preallocate 219 = .ok (.if_icmp .ge 47, 3) := by decide +kernel
theorem dd_MO_preallocate_222 : decode bb_MO_preallocate 222 = .ok (.iconst 0, 1) := by decide +kernel
theorem dd_MO_preallocate_223 : decode bb_MO_preallocate 223 = .ok (.istore 6, 2) := by decide +kernel
theorem dd_MO_preallocate_225 : decode bb_MO_preallocate 225 = .ok (.iload 6, 2) := by decide +kernel
theorem dd_MO_preallocate_227 : decode bb_MO_preallocate 227 = .ok (.bipush 60, 2) := by decide +kernel
theorem dd_MO_preallocate_229 : decode bb_MO_preallocate 229 = .ok (.if_icmp .ge 30, 3) := by decide +kernel
theorem dd_MO_preallocate_232 : decode bb_MO_preallocate 232 = .ok (.aload_n 0, 1) := by decide +kernel
theorem dd_MO_preallocate_233 : decode bb_MO_preallocate 233 = .ok (.getfield 32, 3) := by decide +kernel
theorem dd_MO_preallocate_236 : decode bb_MO_preallocate 236 = .ok (.iload 6, 2) := by decide +kernel
theorem dd_MO_preallocate_238 : decode bb_MO_preallocate 238 = .ok (.iaload, 1) := by decide +kernel
theorem dd_MO_preallocate_239 : decode bb_MO_preallocate 239 = .ok (.ifCond .ge 14, 3) := by decide +kernel
theorem dd_MO_preallocate_242 : decode bb_MO_preallocate 242 = .ok (.aload_n 0, 1) := by decide +kernel
theorem dd_MO_preallocate_243 : decode bb_MO_preallocate 243 = .ok (.bipush 60, 2) := by decide +kernel
theorem dd_MO_preallocate_245 : decode bb_MO_preallocate 245 = .ok (.iload_n 1, 1) := by decide +kernel
theorem dd_MO_preallocate_246 : decode bb_MO_preallocate 246 = .ok (.imul, 1) := by decide +kernel
theorem dd_MO_preallocate_247 : decode bb_MO_preallocate 247 = .ok (.iload 6, 2) := by decide +kernel
theorem dd_MO_preallocate_249 : decode bb_MO_preallocate 249 = .ok (.iadd, 1) := by decide +kernel
theorem dd_MO_preallocate_250 : decode bb_MO_preallocate 250 = .ok (.invokevirtual 96, 3) := by decide +kernel
theorem dd_MO_preallocate_253 : decode bb_MO_preallocate 253 = .ok (.iinc 6 1, 3) := by decide +kernel
theorem dd_MO_preallocate_256 : decode bb_MO_preallocate 256 = .ok (.goto (-31), 3) := by decide +kernel
theorem dd_MO_preallocate_259 : decode bb_MO_preallocate 259 = .ok (.aload_n 0, 1) := by decide +kernel
theorem dd_MO_preallocate_260 : decode bb_MO_preallocate 260 = .ok (.iconst 3, 1) := by decide +kernel
theorem dd_MO_preallocate_261 : decode bb_MO_preallocate 261 = .ok (.putfield 35, 3) := by decide +kernel
theorem dd_MO_preallocate_264 : decode bb_MO_preallocate 264 = .ok (.iconst 0, 1) := by decide +kernel
theorem dd_MO_preallocate_265 : decode bb_MO_preallocate 265 = .ok (.ireturn, 1) := by decide +kernel
theorem dd_MO_preallocate_266 : decode bb_MO_preallocate 266 = .ok (.iload 4, 2) := by decide +kernel
theorem dd_MO_preallocate_268 : decode bb_MO_preallocate 268 = .ok (.ireturn, 1) := by decide +kernel
theorem dd_MO_empty_0 : decode bb_MO_empty 0 = .ok (.iconst 0, 1) := by decide +kernel
theorem dd_MO_empty_1 : decode bb_MO_empty 1 = .ok (.istore_n 3, 1) := by decide +kernel
theorem dd_MO_empty_2 : decode bb_MO_empty 2 = .ok (.iload_n 1, 1) := by decide +kernel
theorem dd_MO_empty_3 : decode bb_MO_empty 3 = .ok (.istore 4, 2) := by decide +kernel
theorem dd_MO_empty_5 : decode bb_MO_empty 5 = .ok (.iload 4, 2) := by decide +kernel
theorem dd_MO_empty_7 : decode bb_MO_empty 7 = .ok (.iload_n 2, 1) := by decide +kernel
theorem dd_MO_empty_8 : decode bb_MO_empty 8 = .ok (.if_icmp .ge 41, 3) := by decide +kernel
theorem dd_MO_empty_11 : decode bb_MO_empty 11 = .ok (.aload_n 0, 1) := by decide +kernel
theorem dd_MO_empty_12 : decode bb_MO_empty 12 = .ok (.getfield 7, 3) := by decide +kernel
theorem dd_MO_empty_15 : decode bb_MO_empty 15 = .ok (.iload 4, 2) := by decide +kernel
theorem dd_MO_empty_17 : decode bb_MO_empty 17 = .ok (.iaload, 1) := by decide +kernel
theorem dd_MO_empty_18 : decode bb_MO_empty 18 = .ok (.ifCond .lt 9, 3) := by decide +kernel
theorem dd_MO_empty_21 : decode bb_MO_empty 21 = .ok (.iload_n 3, 1) := by decide +kernel
theorem dd_MO_empty_22 : decode bb_MO_empty 22 = .ok (.iconst 1, 1) := by decide +kernel
theorem dd_MO_empty_23 : decode bb_MO_empty 23 = .ok (.iadd, 1) := by decide +kernel
theorem dd_MO_empty_24 : decode bb_MO_empty 24 = .ok (.goto 4, 3) := by decide +kernel
theorem dd_MO_empty_27 : decode bb_MO_empty 27 = .ok (.iload_n 3, 1) := by decide +kernel
theorem dd_MO_empty_28 : decode bb_MO_empty 28 = .ok (.istore_n 3, 1) := by decide +kernel
theorem dd_MO_empty_29 : decode bb_MO_empty 29 = .ok (.aload_n 0, 1) := by decide +kernel
theorem dd_MO_empty_30 : decode bb_MO_empty 30 = .ok (.iload 4, 2) := by decide +kernel
theorem dd_MO_empty_32 : decode bb_MO_empty 32 = .ok (.invokevirtual 96, 3) := by decide +kernel
theorem dd_MO_empty_35 : decode bb_MO_empty 35 = .ok (.aload_n 0, 1) := by decide +kernel
theorem dd_MO_empty_36 : decode bb_MO_empty 36 = .ok (.getfield 17, 3) := by decide +kernel
theorem dd_MO_empty_39 : decode bb_MO_empty 39 = .ok (.iload 4, 2) := by decide +kernel
theorem dd_MO_empty_41 : decode bb_MO_empty 41 = .ok (.iconst 0, 1) := by decide +kernel
theorem dd_MO_empty_42 : decode bb_MO_empty 42 = .ok (.bastore, 1) := by decide +kernel
theorem dd_MO_empty_43 : decode bb_MO_empty 43 = .ok (.iinc 4 1, 3) := by decide +kernel
theorem dd_MO_empty_46 : decode bb_MO_empty 46 = .ok (.goto (-41), 3) := by decide +kernel
theorem dd_MO_empty_49 : decode bb_MO_empty 49 = .ok (.iload_n 3, 1) := by decide +kernel
theorem dd_MO_empty_50 : decode bb_MO_empty 50 = .ok (.ireturn, 1) := by decide +kernel
theorem dd_MO_punch_0 : decode bb_MO_punch 0 = .ok (.aload_n 0, 1) := by decide +kernel
theorem dd_MO_punch_1 : decode bb_MO_punch 1 = .ok (.iload_n 1, 1) := by decide +kernel
theorem dd_MO_punch_2 : decode bb_MO_punch 2 = .ok (.invokestatic 79, 3) := by decide +kernel
theorem dd_MO_punch_5 : decode bb_MO_punch 5 = .ok (.ifCond .ne 10, 3) := by decide +kernel
theorem dd_MO_punch_8 : decode bb_MO_punch 8 = .ok (.iload_n 2, 1) := by decide +kernel
theorem dd_MO_punch_9 : decode bb_MO_punch 9 = .ok (.invokestatic 82, 3) := by decide +kernel
theorem dd_MO_punch_12 : decode bb_MO_punch 12 = .ok (.ifCond .eq 7, 3) := by decide +kernel
theorem dd_MO_punch_15 : decode bb_MO_punch 15 = .ok (.iconst 1, 1) := by decide +kernel
theorem dd_MO_punch_16 : decode bb_MO_punch 16 = .ok (.goto 21, 3) := by decide +kernel
theorem dd_MO_punch_19 : decode bb_MO_punch 19 = .ok (.iload_n 3, 1) := by decide +kernel
theorem dd_MO_punch_20 : decode bb_MO_punch 20 = .ok (.iconst 1, 1) := by decide +kernel
theorem dd_MO_punch_21 : decode bb_MO_punch 21 = .ok (.if_icmp .lt 11, 3) := by decide +kernel
theorem dd_MO_punch_24 : decode bb_MO_punch 24 = .ok (.iload_n 3, 1) := by decide +kernel
theorem dd_MO_punch_25 : decode bb_MO_punch 25 = .ok (.bipush 60, 2) := by decide +kernel
theorem dd_MO_punch_27 : decode bb_MO_punch 27 = .ok (.iload_n 2, 1) := by decide +kernel
theorem dd_MO_punch_28 : decode bb_MO_punch 28 = .ok (.isub, 1) := by decide +kernel
theorem dd_MO_punch_29 : decode bb_MO_punch 29 = .ok (.if_icmp .le 7, 3) := by decide +kernel
theorem dd_MO_punch_32 : decode bb_MO_punch 32 = .ok (.iconst 2, 1) := by decide +kernel
theorem dd_MO_punch_33 : decode bb_MO_punch 33 = .ok (.goto 4, 3) := by decide +kernel
theorem dd_MO_punch_36 : decode bb_MO_punch 36 = .ok (.iconst 0, 1) := by decide +kernel
theorem dd_MO_punch_37 : decode bb_MO_punch 37 = .ok (.putfield 35, 3) := by decide +kernel
theorem dd_MO_punch_40 : decode bb_MO_punch 40 = .ok (.aload_n 0, 1) := by decide +kernel
theorem dd_MO_punch_41 : decode bb_MO_punch 41 = .ok (.getfield 35, 3) := by decide +kernel
theorem dd_MO_punch_44 : decode bb_MO_punch 44 = .ok (.ifCond .le 7, 3) := by decide +kernel
theorem dd_MO_punch_47 : decode bb_MO_punch 47 = .ok (.iconst 0, 1) := by decide +kernel
theorem dd_MO_punch_48 : decode bb_MO_punch 48 = .ok (.goto 21, 3) := by decide +kernel
theorem dd_MO_punch_51 : decode bb_MO_punch 51 = .ok (.aload_n 0, 1) := by decide +kernel
theorem dd_MO_punch_52 : decode bb_MO_punch 52 = .ok (.bipush 60, 2) := by decide +kernel
theorem dd_MO_punch_54 : decode bb_MO_punch 54 = .ok (.iload_n 1, 1) := by decide +kernel
theorem dd_MO_punch_55 : decode bb_MO_punch 55 = .ok (.imul, 1) := by decide +kernel
theorem dd_MO_punch_56 : decode bb_MO_punch 56 = .ok (.iload_n 2, 1) := by decide +kernel
theorem dd_MO_punch_57 : decode bb_MO_punch 57 = .ok (.iadd, 1) := by decide +kernel
theorem dd_MO_punch_58 : decode bb_MO_punch 58 = .ok (.bipush 60, 2) := by decide +kernel
theorem dd_MO_punch_60 : decode bb_MO_punch 60 = .ok (.iload_n 1, 1) := by decide +kernel
theorem dd_MO_punch_61 : decode bb_MO_punch 61 = .ok (.imul, 1) := by decide +kernel
theorem dd_MO_punch_62 : decode bb_MO_punch 62 = .ok (.iload_n 2, 1) := by decide +kernel
theorem dd_MO_punch_63 : decode bb_MO_punch 63 = .ok (.iadd, 1) := by decide +kernel
theorem dd_MO_punch_64 : decode bb_MO_punch 64 = .ok (.iload_n 3, 1) := by decide +kernel
theorem dd_MO_punch_65 : decode bb_MO_punch 65 = .ok (.iadd, 1) := by decide +kernel
theorem dd_MO_punch_66 : decode bb_MO_punch 66 = .ok (.invokevirtual 100, 3) := by decide +kernel
theorem dd_MO_punch_69 : decode bb_MO_punch 69 = .ok (.ireturn, 1) := by decide +kernel
theorem dd_MO_truncate_0 : decode bb_MO_truncate 0 = .ok (.aload_n 0, 1) := by decide +kernel
theorem dd_MO_truncate_1 : decode bb_MO_truncate 1 = .ok (.iload_n 1, 1) := by decide +kernel
theorem dd_MO_truncate_2 : decode bb_MO_truncate 2 = .ok (.invokestatic 79, 3) := by decide +kernel
theorem dd_MO_truncate_5 : decode bb_MO_truncate 5 = .ok (.ifCond .eq 7, 3) := by decide +kernel
theorem dd_MO_truncate_8 : decode bb_MO_truncate 8 = .ok (.iconst 1, 1) := by decide +kernel
theorem dd_MO_truncate_9 : decode bb_MO_truncate 9 = .ok (.goto 18, 3) := by decide +kernel
theorem dd_MO_truncate_12 : decode bb_MO_truncate 12 = .ok (.iload_n 2, 1) := by decide +kernel
theorem dd_MO_truncate_13 : decode bb_MO_truncate 13 = .ok (.ifCond .lt 9, 3) := by decide +kernel
theorem dd_MO_truncate_16 : decode bb_MO_truncate 16 = .ok (.iload_n 2, 1) := by decide +kernel
theorem dd_MO_truncate_17 : decode bb_MO_truncate 17 = .ok (.bipush 60, 2) := by decide +kernel
theorem dd_MO_truncate_19 : decode bb_MO_truncate 19 = .ok (.if_icmp .le 7, 3) := by decide +kernel
theorem dd_MO_truncate_22 : decode bb_MO_truncate 22 = .ok (.iconst 2, 1) := by decide +kernel
theorem dd_MO_truncate_23 : decode bb_MO_truncate 23 = .ok (.goto 4, 3) := by decide +kernel
theorem dd_MO_truncate_26 : decode bb_MO_truncate 26 = .ok (.iconst 0, 1) := by decide +kernel
theorem dd_MO_truncate_27 : decode bb_MO_truncate 27 = .ok (.putfield 35, 3) := by decide +kernel
theorem dd_MO_truncate_30 : decode bb_MO_truncate 30 = .ok (.aload_n 0, 1) := by decide +kernel
theorem dd_MO_truncate_31 : decode bb_MO_truncate 31 = .ok (.getfield 35, 3) := by decide +kernel
theorem dd_MO_truncate_34 : decode bb_MO_truncate 34 = .ok (.ifCond .le 5, 3) := by decide +kernel
theorem dd_MO_truncate_37 : decode bb_MO_truncate 37 = .ok (.iconst 0, 1) := by decide +kernel
theorem dd_MO_truncate_38 : decode bb_MO_truncate 38 = .ok (.ireturn, 1) := by decide +kernel
theorem dd_MO_truncate_39 : decode bb_MO_truncate 39 = .ok (.aload_n 0, 1) := by decide +kernel
theorem dd_MO_truncate_40 : decode bb_MO_truncate 40 = .ok (.getfield 23, 3) := by decide +kernel
theorem dd_MO_truncate_43 : decode bb_MO_truncate 43 = .ok (.iload_n 1, 1) := by decide +kernel
theorem dd_MO_truncate_44 : decode bb_MO_truncate 44 = .ok (.iload_n 2, 1) := by decide +kernel
theorem dd_MO_truncate_45 : decode bb_MO_truncate 45 = .ok (.iastore, 1) := by decide +kernel
theorem dd_MO_truncate_46 : decode bb_MO_truncate 46 = .ok (.aload_n 0, 1) := by decide +kernel
theorem dd_MO_truncate_47 : decode bb_MO_truncate 47 = .ok (.bipush 60, 2) := by decide +kernel
theorem dd_MO_truncate_49 : decode bb_MO_truncate 49 = .ok (.iload_n 1, 1) := by decide +kernel
theorem dd_MO_truncate_50 : decode bb_MO_truncate 50 = .ok (.imul, 1) := by decide +kernel
theorem dd_MO_truncate_51 : decode bb_MO_truncate 51 = .ok (.iload_n 2, 1) := by decide +kernel
theorem dd_MO_truncate_52 : decode bb_MO_truncate 52 = .ok (.iadd, 1) := by decide +kernel
theorem dd_MO_truncate_53 : decode bb_MO_truncate 53 = .ok (.bipush 60, 2) := by decide +kernel
theorem dd_MO_truncate_55 : decode bb_MO_truncate 55 = .ok (.iload_n 1, 1) := by decide +kernel
theorem dd_MO_truncate_56 : decode bb_MO_truncate 56 = .ok (.imul, 1) := by decide +kernel
theorem dd_MO_truncate_57 : decode bb_MO_truncate 57 = .ok (.bipush 60, 2) := by decide +kernel
theorem dd_MO_truncate_59 : decode bb_MO_truncate 59 = .ok (.iadd, 1) := by decide +kernel
theorem dd_MO_truncate_60 : decode bb_MO_truncate 60 = .ok (.invokevirtual 100, 3) := by decide +kernel
theorem dd_MO_truncate_63 : decode bb_MO_truncate 63 = .ok (.ireturn, 1) := by decide +kernel
theorem dd_MO_flush_0 : decode bb_MO_flush 0 = .ok (.aload_n 0, 1) := by decide +kernel
theorem dd_MO_flush_1 : decode bb_MO_flush 1 = .ok (.iload_n 1, 1) := by decide +kernel
theorem dd_MO_flush_2 : decode bb_MO_flush 2 = .ok (.invokestatic 79, 3) := by decide +kernel
theorem dd_MO_flush_5 : decode bb_MO_flush 5 = .ok (.ifCond .eq 7, 3) := by decide +kernel
theorem dd_MO_flush_8 : decode bb_MO_flush 8 = .ok (.iconst 1, 1) := by decide +kernel
theorem dd_MO_flush_9 : decode bb_MO_flush 9 = .ok (.goto 4, 3) := by decide +kernel
theorem dd_MO_flush_12 : decode bb_MO_flush 12 = .ok (.iconst 0, 1) := by decide +kernel
theorem dd_MO_flush_13 : decode bb_MO_flush 13 = .ok (.putfield 35, 3) := by decide +kernel
theorem dd_MO_flush_16 : decode bb_MO_flush 16 = .ok (.aload_n 0, 1) := by decide +kernel
theorem dd_MO_flush_17 : decode bb_MO_flush 17 = .ok (.getfield 35, 3) := by decide +kernel
theorem dd_MO_flush_20 : decode bb_MO_flush 20 = .ok (.ifCond .le 5, 3) := by decide +kernel
theorem dd_MO_flush_23 : decode bb_MO_flush 23 = .ok (.iconst 0, 1) := by decide +kernel
theorem dd_MO_flush_24 : decode bb_MO_flush 24 = .ok (.ireturn, 1) := by decide +kernel
theorem dd_MO_flush_25 : decode bb_MO_flush 25 = .ok (.aload_n 0, 1) := by decide +kernel
theorem dd_MO_flush_26 : decode bb_MO_flush 26 = .ok (.iload_n 1, 1) := by decide +kernel
theorem dd_MO_flush_27 : decode bb_MO_flush 27 = .ok (.invokevirtual 76, 3) := by decide +kernel
theorem dd_MO_flush_30 : decode bb_MO_flush 30 = .ok (.istore_n 2, 1) := by decide +kernel
theorem dd_MO_flush_31 : decode bb_MO_flush 31 = .ok (.aload_n 0, 1) := by decide +kernel
theorem dd_MO_flush_32 : decode bb_MO_flush 32 = .ok (.bipush 60, 2) := by decide +kernel
theorem dd_MO_flush_34 : decode bb_MO_flush 34 = .ok (.iload_n 1, 1) := by decide +kernel
theorem dd_MO_flush_35 : decode bb_MO_flush 35 = .ok (.imul, 1) := by decide +kernel
theorem dd_MO_flush_36 : decode bb_MO_flush 36 = .ok (.bipush 60, 2) := by decide +kernel
theorem dd_MO_flush_38 : decode bb_MO_flush 38 = .ok (.iload_n 1, 1) := by decide +kernel
theorem dd_MO_flush_39 : decode bb_MO_flush 39 = .ok (.imul, 1) := by decide +kernel
theorem dd_MO_flush_40 : decode bb_MO_flush 40 = .ok (.bipush 60, 2) := by decide +kernel
theorem dd_MO_flush_42 : decode bb_MO_flush 42 = .ok (.iadd, 1) := by decide +kernel
theorem dd_MO_flush_43 : decode bb_MO_flush 43 = .ok (.iconst 0, 1) := by decide +kernel
theorem dd_MO_flush_44 : decode bb_MO_flush 44 = .ok (.invokevirtual 92, 3) := by decide +kernel
theorem dd_MO_flush_47 : decode bb_MO_flush 47 = .ok (.bipush 60, 2) := by decide +kernel
theorem dd_MO_flush_49 : decode bb_MO_flush 49 = .ok (.iload_n 1, 1) := by decide +kernel
theorem dd_MO_flush_50 : decode bb_MO_flush 50 = .ok (.imul, 1) := by decide +kernel
theorem dd_MO_flush_51 : decode bb_MO_flush 51 = .ok (.istore_n 3, 1) := by decide +kernel
theorem dd_MO_flush_52 : decode bb_MO_flush 52 = .ok (.iload_n 3, 1) := by decide +kernel
theorem dd_MO_flush_53 : decode bb_MO_flush 53 = .ok (.bipush 60, 2) := by decide +kernel
theorem dd_MO_flush_55 : decode bb_MO_flush 55 = .ok (.iload_n 1, 1) := by decide +kernel
theorem dd_MO_flush_56 : decode bb_MO_flush 56 = .ok (.imul, 1) := by decide +kernel
theorem dd_MO_flush_57 : decode bb_MO_flush 57 = .ok (.bipush 60, 2) := by decide +kernel
theorem dd_MO_flush_59 : decode bb_MO_flush 59 = .ok (.iadd, 1) := by decide +kernel
theorem dd_MO_flush_60 : decode bb_MO_flush 60 = .ok (.if_icmp .ge 49, 3) := by decide +kernel
theorem dd_MO_flush_63 : decode bb_MO_flush 63 = .ok (.aload_n 0, 1) := by decide +kernel
theorem dd_MO_flush_64 : decode bb_MO_flush 64 = .ok (.getfield 17, 3) := by decide +kernel
theorem dd_MO_flush_67 : decode bb_MO_flush 67 = .ok (.iload_n 3, 1) := by decide +kernel
theorem dd_MO_flush_68 : decode bb_MO_flush 68 = .ok (.baload, 1) := by decide +kernel
theorem dd_MO_flush_69 : decode bb_MO_flush 69 = .ok (.ifCond .eq 34, 3) := by decide +kernel
theorem dd_MO_flush_72 : decode bb_MO_flush 72 = .ok (.aload_n 0, 1) := by decide +kernel
theorem dd_MO_flush_73 : decode bb_MO_flush 73 = .ok (.getfield 13, 3) := by decide +kernel
theorem dd_MO_flush_76 : decode bb_MO_flush 76 = .ok (.iload_n 3, 1) := by decide +kernel
theorem dd_MO_flush_77 : decode bb_MO_flush 77 = .ok (.iconst 1, 1) := by decide +kernel
theorem dd_MO_flush_78 : decode bb_MO_flush 78 = .ok (.bastore, 1) := by decide +kernel
theorem dd_MO_flush_79 : decode bb_MO_flush 79 = .ok (.aload_n 0, 1) := by decide +kernel
theorem dd_MO_flush_80 : decode bb_MO_flush 80 = .ok (.getfield 29, 3) := by decide +kernel
theorem dd_MO_flush_83 : decode bb_MO_flush 83 = .ok (.aload_n 0, 1) := by decide +kernel
theorem dd_MO_flush_84 : decode bb_MO_flush 84 = .ok (.getfield 7, 3) := by decide +kernel
theorem dd_MO_flush_87 : decode bb_MO_flush 87 = .ok (.iload_n 3, 1) := by decide +kernel
theorem dd_MO_flush_88 : decode bb_MO_flush 88 = .ok (.iaload, 1) := by decide +kernel
theorem dd_MO_flush_89 : decode bb_MO_flush 89 = .ok (.aload_n 0, 1) := by decide +kernel
theorem dd_MO_flush_90 : decode bb_MO_flush 90 = .ok (.getfield 20, 3) := by decide +kernel
theorem dd_MO_flush_93 : decode bb_MO_flush 93 = .ok (.iload_n 3, 1) := by decide +kernel
theorem dd_MO_flush_94 : decode bb_MO_flush 94 = .ok (.iaload, 1) := by decide +kernel
theorem dd_MO_flush_95 : decode bb_MO_flush 95 = .ok (.iastore, 1) := by decide +kernel
theorem dd_MO_flush_96 : decode bb_MO_flush 96 = .ok (.aload_n 0, 1) := by decide +kernel
theorem dd_MO_flush_97 : decode bb_MO_flush 97 = .ok (.getfield 17, 3) := by decide +kernel
theorem dd_MO_flush_100 : decode bb_MO_flush 100 = .ok (.iload_n 3, 1) := by decide +kernel
theorem dd_MO_flush_101 : decode bb_MO_flush 101 = .ok (.iconst 0, 1) := by decide +kernel
theorem dd_MO_flush_102 : decode bb_MO_flush 102 = .ok (.bastore, 1) := by decide +kernel
theorem dd_MO_flush_103 : decode bb_MO_flush 103 = .ok (.iinc 3 1, 3) := by decide +kernel
theorem dd_MO_flush_106 : decode bb_MO_flush 106 = .ok (.goto (-54), 3) := by decide +kernel
theorem dd_MO_flush_109 : decode bb_MO_flush 109 = .ok (.iload_n 2, 1) := by decide +kernel
theorem dd_MO_flush_110 : decode bb_MO_flush 110 = .ok (.ireturn, 1) := by decide +kernel
theorem dd_MO_crash_0 : decode bb_MO_crash 0 = .ok (.aload_n 0, 1) := by decide +kernel
theorem dd_MO_crash_1 : decode bb_MO_crash 1 = .ok (.iconst 0, 1) := by decide +kernel
theorem dd_MO_crash_2 : decode bb_MO_crash 2 = .ok (.putfield 35, 3) := by decide +kernel
theorem dd_MO_crash_5 : decode bb_MO_crash 5 = .ok (.iconst 0, 1) := by decide +kernel
theorem dd_MO_crash_6 : decode bb_MO_crash 6 = .ok (.istore_n 1, 1) := by decide +kernel
theorem dd_MO_crash_7 : decode bb_MO_crash 7 = .ok (.iconst 0, 1) := by decide +kernel
theorem dd_MO_crash_8 : decode bb_MO_crash 8 = .ok (.istore_n 2, 1) := by decide +kernel
theorem dd_MO_crash_9 : decode bb_MO_crash 9 = .ok (.iload_n 2, 1) := by decide +kernel
theorem dd_MO_crash_10 : decode bb_MO_crash 10 = .ok (.sipush 240, 3) := by decide +kernel
theorem dd_MO_crash_13 : decode bb_MO_crash 13 = .ok (.if_icmp .ge 33, 3) := by decide +kernel
theorem dd_MO_crash_16 : decode bb_MO_crash 16 = .ok (.aload_n 0, 1) := by decide +kernel
theorem dd_MO_crash_17 : decode bb_MO_crash 17 = .ok (.getfield 17, 3) := by decide +kernel
theorem dd_MO_crash_20 : decode bb_MO_crash 20 = .ok (.iload_n 2, 1) := by decide +kernel
theorem dd_MO_crash_21 : decode bb_MO_crash 21 = .ok (.baload, 1) := by decide +kernel
theorem dd_MO_crash_22 : decode bb_MO_crash 22 = .ok (.ifCond .eq 9, 3) := by decide +kernel
theorem dd_MO_crash_25 : decode bb_MO_crash 25 = .ok (.iload_n 1, 1) := by decide +kernel
theorem dd_MO_crash_26 : decode bb_MO_crash 26 = .ok (.iconst 1, 1) := by decide +kernel
theorem dd_MO_crash_27 : decode bb_MO_crash 27 = .ok (.iadd, 1) := by decide +kernel
theorem dd_MO_crash_28 : decode bb_MO_crash 28 = .ok (.goto 4, 3) := by decide +kernel
theorem dd_MO_crash_31 : decode bb_MO_crash 31 = .ok (.iload_n 1, 1) := by decide +kernel
theorem dd_MO_crash_32 : decode bb_MO_crash 32 = .ok (.istore_n 1, 1) := by decide +kernel
theorem dd_MO_crash_33 : decode bb_MO_crash 33 = .ok (.aload_n 0, 1) := by decide +kernel
theorem dd_MO_crash_34 : decode bb_MO_crash 34 = .ok (.getfield 17, 3) := by decide +kernel
theorem dd_MO_crash_37 : decode bb_MO_crash 37 = .ok (.iload_n 2, 1) := by decide +kernel
theorem dd_MO_crash_38 : decode bb_MO_crash 38 = .ok (.iconst 0, 1) := by decide +kernel
theorem dd_MO_crash_39 : decode bb_MO_crash 39 = .ok (.bastore, 1) := by decide +kernel
theorem dd_MO_crash_40 : decode bb_MO_crash 40 = .ok (.iinc 2 1, 3) := by decide +kernel
theorem dd_MO_crash_43 : decode bb_MO_crash 43 = .ok (.goto (-34), 3) := by decide +kernel
theorem dd_MO_crash_46 : decode bb_MO_crash 46 = .ok (.iload_n 1, 1) := by decide +kernel
theorem dd_MO_crash_47 : decode bb_MO_crash 47 = .ok (.ireturn, 1) := by decide +kernel
theorem dd_MO_extent_0 : decode bb_MO_extent 0 = .ok (.aload_n 0, 1) := by decide +kernel
theorem dd_MO_extent_1 : decode bb_MO_extent 1 = .ok (.iload_n 1, 1) := by decide +kernel
theorem dd_MO_extent_2 : decode bb_MO_extent 2 = .ok (.invokestatic 79, 3) := by decide +kernel
theorem dd_MO_extent_5 : decode bb_MO_extent 5 = .ok (.ifCond .ne 13, 3) := by decide +kernel
theorem dd_MO_extent_8 : decode bb_MO_extent 8 = .ok (.iload_n 2, 1) := by decide +kernel
theorem dd_MO_extent_9 : decode bb_MO_extent 9 = .ok (.ifCond .lt 9, 3) := by decide +kernel
theorem dd_MO_extent_12 : decode bb_MO_extent 12 = .ok (.iload_n 2, 1) := by decide +kernel
theorem dd_MO_extent_13 : decode bb_MO_extent 13 = .ok (.bipush 60, 2) := by decide +kernel
theorem dd_MO_extent_15 : decode bb_MO_extent 15 = .ok (.if_icmp .le 7, 3) := by decide +kernel
theorem dd_MO_extent_18 : decode bb_MO_extent 18 = .ok (.iconst 1, 1) := by decide +kernel
theorem dd_MO_extent_19 : decode bb_MO_extent 19 = .ok (.goto 4, 3) := by decide +kernel
theorem dd_MO_extent_22 : decode bb_MO_extent 22 = .ok (.iconst 0, 1) := by decide +kernel
theorem dd_MO_extent_23 : decode bb_MO_extent 23 = .ok (.putfield 35, 3) := by decide +kernel
theorem dd_MO_extent_26 : decode bb_MO_extent 26 = .ok (.aload_n 0, 1) := by decide +kernel
theorem dd_MO_extent_27 : decode bb_MO_extent 27 = .ok (.getfield 35, 3) := by decide +kernel
theorem dd_MO_extent_30 : decode bb_MO_extent 30 = .ok (.ifCond .ne 18, 3) := by decide +kernel
theorem dd_MO_extent_33 : decode bb_MO_extent 33 = .ok (.aload_n 0, 1) := by decide +kernel
theorem dd_MO_extent_34 : decode bb_MO_extent 34 = .ok (.iload_n 1, 1) := by decide +kernel
theorem dd_MO_extent_35 : decode bb_MO_extent 35 = .ok (.iload_n 2, 1) := by decide +kernel
theorem dd_MO_extent_36 : decode bb_MO_extent 36 = .ok (.invokevirtual 49, 3) := by decide +kernel
theorem dd_MO_extent_39 : decode bb_MO_extent 39 = .ok (.iload_n 2, 1) := by decide +kernel
theorem dd_MO_extent_40 : decode bb_MO_extent 40 = .ok (.if_icmp .gt 8, 3) := by decide +kernel
theorem dd_MO_extent_43 : decode bb_MO_extent 43 = .ok (.aload_n 0, 1) := by decide +kernel
theorem dd_MO_extent_44 : decode bb_MO_extent 44 = .ok (.iconst 1, 1) := by decide +kernel
theorem dd_MO_extent_45 : decode bb_MO_extent 45 = .ok (.putfield 35, 3) := by decide +kernel
theorem dd_MO_extent_48 : decode bb_MO_extent 48 = .ok (.aload_n 0, 1) := by decide +kernel
theorem dd_MO_extent_49 : decode bb_MO_extent 49 = .ok (.getfield 35, 3) := by decide +kernel
theorem dd_MO_extent_52 : decode bb_MO_extent 52 = .ok (.ifCond .ne 17, 3) := by decide +kernel
theorem dd_MO_extent_55 : decode bb_MO_extent 55 = .ok (.iload_n 3, 1) := by decide +kernel
theorem dd_MO_extent_56 : decode bb_MO_extent 56 = .ok (.ifCond .lt 8, 3) := by decide +kernel
theorem dd_MO_extent_59 : decode bb_MO_extent 59 = .ok (.iload_n 3, 1) := by decide +kernel
theorem dd_MO_extent_60 : decode bb_MO_extent 60 = .ok (.iconst 3, 1) := by decide +kernel
theorem dd_MO_extent_61 : decode bb_MO_extent 61 = .ok (.if_icmp .le 8, 3) := by decide +kernel
theorem dd_MO_extent_64 : decode bb_MO_extent 64 = .ok (.aload_n 0, 1) := by decide +kernel
theorem dd_MO_extent_65 : decode bb_MO_extent 65 = .ok (.iconst 2, 1) := by decide +kernel
theorem dd_MO_extent_66 : decode bb_MO_extent 66 = .ok (.putfield 35, 3) := by decide +kernel
theorem dd_MO_extent_69 : decode bb_MO_extent 69 = .ok (.aload_n 0, 1) := by decide +kernel
theorem dd_MO_extent_70 : decode bb_MO_extent 70 = .ok (.getfield 35, 3) := by decide +kernel
theorem dd_MO_extent_73 : decode bb_MO_extent 73 = .ok (.ifCond .le 5, 3) := by decide +kernel
theorem dd_MO_extent_76 : decode bb_MO_extent 76 = .ok (.iconst 0, 1) := by decide +kernel
theorem dd_MO_extent_77 : decode bb_MO_extent 77 = .ok (.ireturn, 1) := by decide +kernel
theorem dd_MO_extent_78 : decode bb_MO_extent 78 = .ok (.iload_n 3, 1) := by decide +kernel
theorem dd_MO_extent_79 : decode bb_MO_extent 79 = .ok (.ifCond .ne 15, 3) := by decide +kernel
theorem dd_MO_extent_82 : decode bb_MO_extent 82 = .ok (.aload_n 0, 1) := by decide +kernel
theorem dd_MO_extent_83 : decode bb_MO_extent 83 = .ok (.getfield 46, 3) := by decide +kernel
theorem dd_MO_extent_86 : decode bb_MO_extent 86 = .ok (.bipush 60, 2) := by decide +kernel
theorem dd_MO_extent_88 : decode bb_MO_extent 88 = .ok (.iload_n 1, 1) := by decide +kernel
theorem dd_MO_extent_89 : decode bb_MO_extent 89 = .ok (.imul, 1) := by decide +kernel
theorem dd_MO_extent_90 : decode bb_MO_extent 90 = .ok (.isub, 1) := by decide +kernel
theorem dd_MO_extent_91 : decode bb_MO_extent 91 = .ok (.goto 49, 3) := by decide +kernel
theorem dd_MO_extent_94 : decode bb_MO_extent 94 = .ok (.iload_n 3, 1) := by decide +kernel
theorem dd_MO_extent_95 : decode bb_MO_extent 95 = .ok (.iconst 1, 1) := by decide +kernel
theorem dd_MO_extent_96 : decode bb_MO_extent 96 = .ok (.if_icmp .ne 15, 3) := by decide +kernel
theorem dd_MO_extent_99 : decode bb_MO_extent 99 = .ok (.aload_n 0, 1) := by decide +kernel
theorem dd_MO_extent_100 : decode bb_MO_extent 100 = .ok (.getfield 7, 3) := by decide +kernel
theorem dd_MO_extent_103 : decode bb_MO_extent 103 = .ok (.aload_n 0, 1) := by decide +kernel
theorem dd_MO_extent_104 : decode bb_MO_extent 104 = .ok (.getfield 46, 3) := by decide +kernel
theorem dd_MO_extent_107 : decode bb_MO_extent 107 = .ok (.iaload, 1) := by decide +kernel
theorem dd_MO_extent_108 : decode bb_MO_extent 108 = .ok (.goto 32, 3) := by decide +kernel
theorem dd_MO_extent_111 : decode bb_MO_extent 111 = .ok (.iload_n 3, 1) := by decide +kernel
theorem dd_MO_extent_112 : decode bb_MO_extent 112 = .ok (.iconst 2, 1) := by decide +kernel
theorem dd_MO_extent_113 : decode bb_MO_extent 113 = .ok (.if_icmp .ne 10, 3) := by decide +kernel
theorem dd_MO_extent_116 : decode bb_MO_extent 116 = .ok (.aload_n 0, 1) := by decide +kernel
theorem dd_MO_extent_117 : decode bb_MO_extent 117 = .ok (.getfield 39, 3) := by decide +kernel
theorem dd_MO_extent_120 : decode bb_MO_extent 120 = .ok (.goto 20, 3) := by decide +kernel
theorem dd_MO_extent_123 : decode bb_MO_extent 123 = .ok (.aload_n 0, 1) := by decide +kernel
theorem dd_MO_extent_124 : decode bb_MO_extent 124 = .ok (.getfield 13, 3) := by decide +kernel
theorem dd_MO_extent_127 : decode bb_MO_extent 127 = .ok (.aload_n 0, 1) := by decide +kernel
theorem dd_MO_extent_128 : decode bb_MO_extent 128 = .ok (.getfield 46, 3) := by decide +kernel
theorem dd_MO_extent_131 : decode bb_MO_extent 131 = .ok (.baload, 1) := by decide +kernel
theorem dd_MO_extent_132 : decode bb_MO_extent 132 = .ok (.ifCond .eq 7, 3) := by decide +kernel
theorem dd_MO_extent_135 : decode bb_MO_extent 135 = .ok (.iconst 0, 1) := by decide +kernel
theorem dd_MO_extent_136 : decode bb_MO_extent 136 = .ok (.goto 4, 3) := by decide +kernel
theorem dd_MO_extent_139 : decode bb_MO_extent 139 = .ok (.iconst 1, 1) := by decide +kernel
theorem dd_MO_extent_140 : decode bb_MO_extent 140 = .ok (.ireturn, 1) := by decide +kernel
theorem dd_MO_about_0 : decode bb_MO_about 0 = .ok (.aload_n 0, 1) := by decide +kernel
theorem dd_MO_about_1 : decode bb_MO_about 1 = .ok (.iload_n 1, 1) := by decide +kernel
theorem dd_MO_about_2 : decode bb_MO_about 2 = .ok (.invokestatic 79, 3) := by decide +kernel
theorem dd_MO_about_5 : decode bb_MO_about 5 = .ok (.ifCond .eq 7, 3) := by decide +kernel
theorem dd_MO_about_8 : decode bb_MO_about 8 = .ok (.iconst 1, 1) := by decide +kernel
theorem dd_MO_about_9 : decode bb_MO_about 9 = .ok (.goto 17, 3) := by decide +kernel
theorem dd_MO_about_12 : decode bb_MO_about 12 = .ok (.iload_n 2, 1) := by decide +kernel
theorem dd_MO_about_13 : decode bb_MO_about 13 = .ok (.ifCond .lt 8, 3) := by decide +kernel
theorem dd_MO_about_16 : decode bb_MO_about 16 = .ok (.iload_n 2, 1) := by decide +kernel
theorem dd_MO_about_17 : decode bb_MO_about 17 = .ok (.iconst 5, 1) := by decide +kernel
theorem dd_MO_about_18 : decode bb_MO_about 18 = .ok (.if_icmp .le 7, 3) := by decide +kernel
theorem dd_MO_about_21 : decode bb_MO_about 21 = .ok (.iconst 2, 1) := by decide +kernel
theorem dd_MO_about_22 : decode bb_MO_about 22 = .ok (.goto 4, 3) := by decide +kernel
theorem dd_MO_about_25 : decode bb_MO_about 25 = .ok (.iconst 0, 1) := by decide +kernel
theorem dd_MO_about_26 : decode bb_MO_about 26 = .ok (.putfield 35, 3) := by decide +kernel
theorem dd_MO_about_29 : decode bb_MO_about 29 = .ok (.aload_n 0, 1) := by decide +kernel
theorem dd_MO_about_30 : decode bb_MO_about 30 = .ok (.getfield 35, 3) := by decide +kernel
theorem dd_MO_about_33 : decode bb_MO_about 33 = .ok (.ifCond .le 5, 3) := by decide +kernel
theorem dd_MO_about_36 : decode bb_MO_about 36 = .ok (.iconst 0, 1) := by decide +kernel
theorem dd_MO_about_37 : decode bb_MO_about 37 = .ok (.ireturn, 1) := by decide +kernel
theorem dd_MO_about_38 : decode bb_MO_about 38 = .ok (.iload_n 2, 1) := by decide +kernel
theorem dd_MO_about_72 : decode bb_MO_about 72 = .ok (.aload_n 0, 1) := by decide +kernel
theorem dd_MO_about_73 : decode bb_MO_about 73 = .ok (.getfield 23, 3) := by decide +kernel
theorem dd_MO_about_76 : decode bb_MO_about 76 = .ok (.iload_n 1, 1) := by decide +kernel
theorem dd_MO_about_77 : decode bb_MO_about 77 = .ok (.iaload, 1) := by decide +kernel
theorem dd_MO_about_78 : decode bb_MO_about 78 = .ok (.ireturn, 1) := by decide +kernel
theorem dd_MO_about_79 : decode bb_MO_about 79 = .ok (.aload_n 0, 1) := by decide +kernel
theorem dd_MO_about_80 : decode bb_MO_about 80 = .ok (.iload_n 1, 1) := by decide +kernel
theorem dd_MO_about_81 : decode bb_MO_about 81 = .ok (.invokevirtual 60, 3) := by decide +kernel
theorem dd_MO_about_84 : decode bb_MO_about 84 = .ok (.ireturn, 1) := by decide +kernel
theorem dd_MO_about_85 : decode bb_MO_about 85 = .ok (.aload_n 0, 1) := by decide +kernel
theorem dd_MO_about_86 : decode bb_MO_about 86 = .ok (.iload_n 1, 1) := by decide +kernel
theorem dd_MO_about_87 : decode bb_MO_about 87 = .ok (.bipush 60, 2) := by decide +kernel
theorem dd_MO_about_89 : decode bb_MO_about 89 = .ok (.invokevirtual 49, 3) := by decide +kernel
theorem dd_MO_about_92 : decode bb_MO_about 92 = .ok (.ireturn, 1) := by decide +kernel
theorem dd_MO_about_93 : decode bb_MO_about 93 = .ok (.aload_n 0, 1) := by decide +kernel
theorem dd_MO_about_94 : decode bb_MO_about 94 = .ok (.iload_n 1, 1) := by decide +kernel
theorem dd_MO_about_95 : decode bb_MO_about 95 = .ok (.bipush 60, 2) := by decide +kernel
theorem dd_MO_about_97 : decode bb_MO_about 97 = .ok (.invokevirtual 49, 3) := by decide +kernel
theorem dd_MO_about_100 : decode bb_MO_about 100 = .ok (.invokestatic 53, 3) := by decide +kernel
theorem dd_MO_about_103 : decode bb_MO_about 103 = .ok (.ireturn, 1) := by decide +kernel
theorem dd_MO_about_104 : decode bb_MO_about 104 = .ok (.aload_n 0, 1) := by decide +kernel
theorem dd_MO_about_105 : decode bb_MO_about 105 = .ok (.iload_n 1, 1) := by decide +kernel
theorem dd_MO_about_106 : decode bb_MO_about 106 = .ok (.invokevirtual 76, 3) := by decide +kernel
theorem dd_MO_about_109 : decode bb_MO_about 109 = .ok (.ireturn, 1) := by decide +kernel
theorem dd_MO_about_110 : decode bb_MO_about 110 = .ok (.aload_n 0, 1) := by decide +kernel
theorem dd_MO_about_111 : decode bb_MO_about 111 = .ok (.iload_n 1, 1) := by decide +kernel
theorem dd_MO_about_112 : decode bb_MO_about 112 = .ok (.invokevirtual 57, 3) := by decide +kernel
theorem dd_MO_about_115 : decode bb_MO_about 115 = .ok (.ireturn, 1) := by decide +kernel
theorem dd_MO_free_0 : decode bb_MO_free 0 = .ok (.aload_n 0, 1) := by decide +kernel
theorem dd_MO_free_1 : decode bb_MO_free 1 = .ok (.iconst 0, 1) := by decide +kernel
theorem dd_MO_free_2 : decode bb_MO_free 2 = .ok (.putfield 35, 3) := by decide +kernel
theorem dd_MO_free_5 : decode bb_MO_free 5 = .ok (.aload_n 0, 1) := by decide +kernel
theorem dd_MO_free_6 : decode bb_MO_free 6 = .ok (.invokevirtual 85, 3) := by decide +kernel
theorem dd_MO_free_9 : decode bb_MO_free 9 = .ok (.ireturn, 1) := by decide +kernel
theorem dd_MO_reserved_0 : decode bb_MO_reserved 0 = .ok (.aload_n 0, 1) := by decide +kernel
theorem dd_MO_reserved_1 : decode bb_MO_reserved 1 = .ok (.iconst 0, 1) := by decide +kernel
theorem dd_MO_reserved_2 : decode bb_MO_reserved 2 = .ok (.putfield 35, 3) := by decide +kernel
theorem dd_MO_reserved_5 : decode bb_MO_reserved 5 = .ok (.aload_n 0, 1) := by decide +kernel
theorem dd_MO_reserved_6 : decode bb_MO_reserved 6 = .ok (.invokevirtual 89, 3) := by decide +kernel
theorem dd_MO_reserved_9 : decode bb_MO_reserved 9 = .ok (.ireturn, 1) := by decide +kernel
theorem dd_MO_owner_0 : decode bb_MO_owner 0 = .ok (.aload_n 0, 1) := by decide +kernel
theorem dd_MO_owner_1 : decode bb_MO_owner 1 = .ok (.iload_n 1, 1) := by decide +kernel
theorem dd_MO_owner_2 : decode bb_MO_owner 2 = .ok (.ifCond .lt 9, 3) := by decide +kernel
theorem dd_MO_owner_5 : decode bb_MO_owner 5 = .ok (.iload_n 1, 1) := by decide +kernel
theorem dd_MO_owner_6 : decode bb_MO_owner 6 = .ok (.bipush 79, 2) := by decide +kernel
theorem dd_MO_owner_8 : decode bb_MO_owner 8 = .ok (.if_icmp .le 7, 3) := by decide +kernel
theorem dd_MO_owner_11 : decode bb_MO_owner 11 = .ok (.iconst 1, 1) := by decide +kernel
theorem dd_MO_owner_12 : decode bb_MO_owner 12 = .ok (.goto 4, 3) := by decide +kernel
theorem dd_MO_owner_15 : decode bb_MO_owner 15 = .ok (.iconst 0, 1) := by decide +kernel
theorem dd_MO_owner_16 : decode bb_MO_owner 16 = .ok (.putfield 35, 3) := by decide +kernel
theorem dd_MO_owner_19 : decode bb_MO_owner 19 = .ok (.aload_n 0, 1) := by decide +kernel
theorem dd_MO_owner_20 : decode bb_MO_owner 20 = .ok (.getfield 35, 3) := by decide +kernel
theorem dd_MO_owner_23 : decode bb_MO_owner 23 = .ok (.ifCond .le 7, 3) := by decide +kernel
theorem dd_MO_owner_26 : decode bb_MO_owner 26 = .ok (.iconst 0, 1) := by decide +kernel
theorem dd_MO_owner_27 : decode bb_MO_owner 27 = .ok (.goto 9, 3) := by decide +kernel
theorem dd_MO_owner_30 : decode bb_MO_owner 30 = .ok (.aload_n 0, 1) := by decide +kernel
theorem dd_MO_owner_31 : decode bb_MO_owner 31 = .ok (.getfield 26, 3) := by decide +kernel
theorem dd_MO_owner_34 : decode bb_MO_owner 34 = .ok (.iload_n 1, 1) := by decide +kernel
theorem dd_MO_owner_35 : decode bb_MO_owner 35 = .ok (.iaload, 1) := by decide +kernel
theorem dd_MO_owner_36 : decode bb_MO_owner 36 = .ok (.ireturn, 1) := by decide +kernel
theorem dd_MO_value_0 : decode bb_MO_value 0 = .ok (.aload_n 0, 1) := by decide +kernel
theorem dd_MO_value_1 : decode bb_MO_value 1 = .ok (.iload_n 1, 1) := by decide +kernel
theorem dd_MO_value_2 : decode bb_MO_value 2 = .ok (.ifCond .lt 9, 3) := by decide +kernel
theorem dd_MO_value_5 : decode bb_MO_value 5 = .ok (.iload_n 1, 1) := by decide +kernel
theorem dd_MO_value_6 : decode bb_MO_value 6 = .ok (.bipush 79, 2) := by decide +kernel
theorem dd_MO_value_8 : decode bb_MO_value 8 = .ok (.if_icmp .le 7, 3) := by decide +kernel
theorem dd_MO_value_11 : decode bb_MO_value 11 = .ok (.iconst 1, 1) := by decide +kernel
theorem dd_MO_value_12 : decode bb_MO_value 12 = .ok (.goto 4, 3) := by decide +kernel
theorem dd_MO_value_15 : decode bb_MO_value 15 = .ok (.iconst 0, 1) := by decide +kernel
theorem dd_MO_value_16 : decode bb_MO_value 16 = .ok (.putfield 35, 3) := by decide +kernel
theorem dd_MO_value_19 : decode bb_MO_value 19 = .ok (.aload_n 0, 1) := by decide +kernel
theorem dd_MO_value_20 : decode bb_MO_value 20 = .ok (.getfield 35, 3) := by decide +kernel
theorem dd_MO_value_23 : decode bb_MO_value 23 = .ok (.ifCond .le 7, 3) := by decide +kernel
theorem dd_MO_value_26 : decode bb_MO_value 26 = .ok (.iconst 0, 1) := by decide +kernel
theorem dd_MO_value_27 : decode bb_MO_value 27 = .ok (.goto 9, 3) := by decide +kernel
theorem dd_MO_value_30 : decode bb_MO_value 30 = .ok (.aload_n 0, 1) := by decide +kernel
theorem dd_MO_value_31 : decode bb_MO_value 31 = .ok (.getfield 29, 3) := by decide +kernel
theorem dd_MO_value_34 : decode bb_MO_value 34 = .ok (.iload_n 1, 1) := by decide +kernel
theorem dd_MO_value_35 : decode bb_MO_value 35 = .ok (.iaload, 1) := by decide +kernel
theorem dd_MO_value_36 : decode bb_MO_value 36 = .ok (.ireturn, 1) := by decide +kernel
