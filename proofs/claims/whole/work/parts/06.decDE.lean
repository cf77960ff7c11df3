theorem dd_DE_init_0 : decode bb_DE_init 0 = .ok (.aload_n 0, 1) := by decide +kernel
theorem dd_DE_init_1 : decode bb_DE_init 1 = .ok (.invokespecial 1, 3) := by decide +kernel
theorem dd_DE_init_4 : decode bb_DE_init 4 = .ok (.aload_n 0, 1) := by decide +kernel
theorem dd_DE_init_5 : decode bb_DE_init 5 = .ok (.new 7, 3) := by decide +kernel
theorem dd_DE_init_8 : decode bb_DE_init 8 = .ok (.dup, 1) := by decide +kernel
theorem dd_DE_init_9 : decode bb_DE_init 9 = .ok (.invokespecial 9, 3) := by decide +kernel
theorem dd_DE_init_12 : decode bb_DE_init 12 = .ok (.putfield 10, 3) := by decide +kernel
theorem dd_DE_init_15 : decode bb_DE_init 15 = .ok (.aload_n 0, 1) := by decide +kernel
theorem dd_DE_init_16 : decode bb_DE_init 16 = .ok (.iconst 4, 1) := by decide +kernel
theorem dd_DE_init_17 : decode bb_DE_init 17 = .ok (.anewarray 16, 3) := by decide +kernel
theorem dd_DE_init_20 : decode bb_DE_init 20 = .ok (.putfield 18, 3) := by decide +kernel
theorem dd_DE_init_23 : decode bb_DE_init 23 = .ok (.iconst 0, 1) := by decide +kernel
theorem dd_DE_init_24 : decode bb_DE_init 24 = .ok (.istore_n 1, 1) := by decide +kernel
theorem dd_DE_init_25 : decode bb_DE_init 25 = .ok (.iload_n 1, 1) := by decide +kernel
theorem dd_DE_init_26 : decode bb_DE_init 26 = .ok (.iconst 4, 1) := by decide +kernel
theorem dd_DE_init_27 : decode bb_DE_init 27 = .ok (.if_icmp .ge 30, 3) := by decide +kernel
theorem dd_DE_init_30 : decode bb_DE_init 30 = .ok (.aload_n 0, 1) := by decide +kernel
theorem dd_DE_init_31 : decode bb_DE_init 31 = .ok (.getfield 18, 3) := by decide +kernel
theorem dd_DE_init_34 : decode bb_DE_init 34 = .ok (.iload_n 1, 1) := by decide +kernel
theorem dd_DE_init_35 : decode bb_DE_init 35 = .ok (.new 16, 3) := by decide +kernel
theorem dd_DE_init_38 : decode bb_DE_init 38 = .ok (.dup, 1) := by decide +kernel
theorem dd_DE_init_39 : decode bb_DE_init 39 = .ok (.aload_n 0, 1) := by decide +kernel
theorem dd_DE_init_40 : decode bb_DE_init 40 = .ok (.getfield 10, 3) := by decide +kernel
theorem dd_DE_init_43 : decode bb_DE_init 43 = .ok (.iload_n 1, 1) := by decide +kernel
theorem dd_DE_init_44 : decode bb_DE_init 44 = .ok (.bipush 60, 2) := by decide +kernel
theorem dd_DE_init_46 : decode bb_DE_init 46 = .ok (.imul, 1) := by decide +kernel
theorem dd_DE_init_47 : decode bb_DE_init 47 = .ok (.invokespecial 22, 3) := by decide +kernel
theorem dd_DE_init_50 : decode bb_DE_init 50 = .ok (.aastore, 1) := by decide +kernel
theorem dd_DE_init_51 : decode bb_DE_init 51 = .ok (.iinc 1 1, 3) := by decide +kernel
theorem dd_DE_init_54 : decode bb_DE_init 54 = .ok (.goto (-29), 3) := by decide +kernel
theorem dd_DE_init_57 : decode bb_DE_init 57 = .ok (.return_, 1) := by decide +kernel
theorem dd_DE_write_0 : decode bb_DE_write 0 = .ok (.iload_n 1, 1) := by decide +kernel
theorem dd_DE_write_1 : decode bb_DE_write 1 = .ok (.iload_n 2, 1) := by decide +kernel
theorem dd_DE_write_2 : decode bb_DE_write 2 = .ok (.invokestatic 25, 3) := by decide +kernel
theorem dd_DE_write_5 : decode bb_DE_write 5 = .ok (.aload_n 0, 1) := by decide +kernel
theorem dd_DE_write_6 : decode bb_DE_write 6 = .ok (.getfield 18, 3) := by decide +kernel
theorem dd_DE_write_9 : decode bb_DE_write 9 = .ok (.iload_n 1, 1) := by decide +kernel
theorem dd_DE_write_10 : decode bb_DE_write 10 = .ok (.aaload, 1) := by decide +kernel
theorem dd_DE_write_11 : decode bb_DE_write 11 = .ok (.astore 4, 2) := by decide +kernel
theorem dd_DE_write_13 : decode bb_DE_write 13 = .ok (.aload 4, 2) := by decide +kernel
theorem dd_DE_write_15 : decode bb_DE_write 15 = .ok (.iload_n 2, 1) := by decide +kernel
theorem dd_DE_write_16 : decode bb_DE_write 16 = .ok (.invokevirtual 29, 3) := by decide +kernel
theorem dd_DE_write_19 : decode bb_DE_write 19 = .ok (.ifCond .ne 7, 3) := by decide +kernel
theorem dd_DE_write_22 : decode bb_DE_write 22 = .ok (.iconst 1, 1) := by decide +kernel
theorem dd_DE_write_23 : decode bb_DE_write 23 = .ok (.goto 4, 3) := by decide +kernel
theorem dd_DE_write_26 : decode bb_DE_write 26 = .ok (.iconst 0, 1) := by decide +kernel
theorem dd_DE_write_27 : decode bb_DE_write 27 = .ok (.istore 5, 2) := by decide +kernel
theorem dd_DE_write_29 : decode bb_DE_write 29 = .ok (.iload 5, 2) := by decide +kernel
theorem dd_DE_write_31 : decode bb_DE_write 31 = .ok (.ifCond .eq 20, 3) := by decide +kernel
theorem dd_DE_write_34 : decode bb_DE_write 34 = .ok (.aload_n 0, 1) := by decide +kernel
theorem dd_DE_write_35 : decode bb_DE_write 35 = .ok (.invokevirtual 33, 3) := by decide +kernel
theorem dd_DE_write_38 : decode bb_DE_write 38 = .ok (.bipush 24, 2) := by decide +kernel
theorem dd_DE_write_40 : decode bb_DE_write 40 = .ok (.if_icmp .lt 11, 3) := by decide +kernel
theorem dd_DE_write_43 : decode bb_DE_write 43 = .ok (.new 37, 3) := by decide +kernel
theorem dd_DE_write_46 : decode bb_DE_write 46 = .ok (.dup, 1) := by decide +kernel
theorem dd_DE_write_47 : decode bb_DE_write 47 = .ok (.invokespecial 39, 3) := by decide +kernel
theorem dd_DE_write_50 : decode bb_DE_write 50 = .ok (.athrow, 1) := by decide +kernel
theorem dd_DE_write_51 : decode bb_DE_write 51 = .ok (.aload 4, 2) := by decide +kernel
theorem dd_DE_write_53 : decode bb_DE_write 53 = .ok (.iload_n 2, 1) := by decide +kernel
theorem dd_DE_write_54 : decode bb_DE_write 54 = .ok (.iload_n 3, 1) := by decide +kernel
theorem dd_DE_write_55 : decode bb_DE_write 55 = .ok (.invokevirtual 40, 3) := by decide +kernel
theorem dd_DE_write_58 : decode bb_DE_write 58 = .ok (.iload 5, 2) := by decide +kernel
theorem dd_DE_write_60 : decode bb_DE_write 60 = .ok (.ifCond .eq 24, 3) := by decide +kernel
theorem dd_DE_write_63 : decode bb_DE_write 63 = .ok (.aload_n 0, 1) := by decide +kernel
theorem dd_DE_write_64 : decode bb_DE_write 64 = .ok (.invokevirtual 43, 3) := by decide +kernel
theorem dd_DE_write_67 : decode bb_DE_write 67 = .ok (.ifCond .eq 17, 3) := by decide +kernel
theorem dd_DE_write_70 : decode bb_DE_write 70 = .ok (.aload 4, 2) := by decide +kernel
theorem dd_DE_write_72 : decode bb_DE_write 72 = .ok (.iload_n 2, 1) := by decide +kernel
theorem dd_DE_write_73 : decode bb_DE_write 73 = .ok (.invokevirtual 47, 3) := by decide +kernel
theorem dd_DE_write_76 : decode bb_DE_write 76 = .ok (.new 51, 3) := by decide +kernel
theorem dd_DE_write_79 : decode bb_DE_write 79 = .ok (.dup, 1) := by decide +kernel
theorem dd_DE_write_80 : decode bb_DE_write 80 = .ok (.invokespecial 53, 3) := by decide +kernel
theorem dd_DE_write_83 : decode bb_DE_write 83 = .ok (.athrow, 1) := by decide +kernel
theorem dd_DE_write_84 : decode bb_DE_write 84 = .ok (.aload 4, 2) := by decide +kernel
theorem dd_DE_write_86 : decode bb_DE_write 86 = .ok (.iload_n 2, 1) := by decide +kernel
theorem dd_DE_write_87 : decode bb_DE_write 87 = .ok (.iconst 1, 1) := by decide +kernel
theorem dd_DE_write_88 : decode bb_DE_write 88 = .ok (.iadd, 1) := by decide +kernel
theorem dd_DE_write_89 : decode bb_DE_write 89 = .ok (.invokevirtual 54, 3) := by decide +kernel
theorem dd_DE_write_92 : decode bb_DE_write 92 = .ok (.return_, 1) := by decide +kernel
theorem dd_DE_read_0 : decode bb_DE_read 0 = .ok (.iload_n 1, 1) := by decide +kernel
theorem dd_DE_read_1 : decode bb_DE_read 1 = .ok (.iload_n 2, 1) := by decide +kernel
theorem dd_DE_read_2 : decode bb_DE_read 2 = .ok (.invokestatic 25, 3) := by decide +kernel
theorem dd_DE_read_5 : decode bb_DE_read 5 = .ok (.aload_n 0, 1) := by decide +kernel
theorem dd_DE_read_6 : decode bb_DE_read 6 = .ok (.getfield 18, 3) := by decide +kernel
theorem dd_DE_read_9 : decode bb_DE_read 9 = .ok (.iload_n 1, 1) := by decide +kernel
theorem dd_DE_read_10 : decode bb_DE_read 10 = .ok (.aaload, 1) := by decide +kernel
theorem dd_DE_read_11 : decode bb_DE_read 11 = .ok (.iload_n 2, 1) := by decide +kernel
theorem dd_DE_read_12 : decode bb_DE_read 12 = .ok (.invokevirtual 57, 3) := by decide +kernel
theorem dd_DE_read_15 : decode bb_DE_read 15 = .ok (.ireturn, 1) := by decide +kernel
theorem dd_DE_preallocate_0 : decode bb_DE_preallocate 0 = .ok (.iload_n 1, 1) := by decide +kernel
theorem dd_DE_preallocate_1 : decode bb_DE_preallocate 1 = .ok (.iload_n 2, 1) := by decide +kernel
theorem dd_DE_preallocate_2 : decode bb_DE_preallocate 2 = .ok (.invokestatic 25, 3) := by decide +kernel
theorem dd_DE_preallocate_5 : decode bb_DE_preallocate 5 = .ok (.iload_n 2, 1) := by decide +kernel
theorem dd_DE_preallocate_6 : decode bb_DE_preallocate 6 = .ok (.iload_n 3, 1) := by decide +kernel
theorem dd_DE_preallocate_7 : decode bb_DE_preallocate 7 = .ok (.invokestatic 61, 3) := by decide +kernel
theorem dd_DE_preallocate_10 : decode bb_DE_preallocate 10 = .ok (.aload_n 0, 1) := by decide +kernel
theorem dd_DE_preallocate_11 : decode bb_DE_preallocate 11 = .ok (.getfield 18, 3) := by decide +kernel
theorem dd_DE_preallocate_14 : decode bb_DE_preallocate 14 = .ok (.iload_n 1, 1) := by decide +kernel
theorem dd_DE_preallocate_15 : decode bb_DE_preallocate 15 = .ok (.aaload, 1) := by decide +kernel
theorem dd_DE_preallocate_16 : decode bb_DE_preallocate 16 = .ok (.astore 4, 2) := by decide +kernel
theorem dd_DE_preallocate_18 : decode bb_DE_preallocate 18 = .ok (.iload_n 2, 1) := by decide +kernel
theorem dd_DE_preallocate_19 : decode bb_DE_preallocate 19 = .ok (.iload_n 3, 1) := by decide +kernel
theorem dd_DE_preallocate_20 : decode bb_DE_preallocate 20 = .ok (.iadd, 1) := by decide +kernel
theorem dd_DE_preallocate_21 : decode bb_DE_preallocate 21 = .ok (.istore 5, 2) := by decide +kernel
theorem dd_DE_preallocate_23 : decode bb_DE_preallocate 23 = .ok (.aload 4, 2) := by decide +kernel
theorem dd_DE_preallocate_25 : decode bb_DE_preallocate 25 = .ok (.iload_n 2, 1) := by decide +kernel
theorem dd_DE_preallocate_26 : decode bb_DE_preallocate 26 = .ok (.iload 5, 2) := by decide +kernel
theorem dd_DE_preallocate_28 : decode bb_DE_preallocate 28 = .ok (.invokevirtual 64, 3) := by decide +kernel
theorem dd_DE_preallocate_31 : decode bb_DE_preallocate 31 = .ok (.istore 6, 2) := by decide +kernel
theorem dd_DE_preallocate_33 : decode bb_DE_preallocate 33 = .ok (.iload 6, 2) := by decide +kernel
theorem dd_DE_preallocate_35 : decode bb_DE_preallocate 35 = .ok (.aload_n 0, 1) := by decide +kernel
theorem dd_DE_preallocate_36 : decode bb_DE_preallocate 36 = .ok (.getfield 10, 3) := by decide +kernel
theorem dd_DE_preallocate_39 : decode bb_DE_preallocate 39 = .ok (.invokevirtual 68, 3) := by decide +kernel
theorem dd_DE_preallocate_42 : decode bb_DE_preallocate 42 = .ok (.if_icmp .le 11, 3) := by decide +kernel
theorem dd_DE_preallocate_45 : decode bb_DE_preallocate 45 = .ok (.new 51, 3) := by decide +kernel
theorem dd_DE_preallocate_48 : decode bb_DE_preallocate 48 = .ok (.dup, 1) := by decide +kernel
theorem dd_DE_preallocate_49 : decode bb_DE_preallocate 49 = .ok (.invokespecial 53, 3) := by decide +kernel
theorem dd_DE_preallocate_52 : decode bb_DE_preallocate 52 = .ok (.athrow, 1) := by decide +kernel
theorem dd_DE_preallocate_53 : decode bb_DE_preallocate 53 = .ok (.aload 4, 2) := by decide +kernel
theorem dd_DE_preallocate_55 : decode bb_DE_preallocate 55 = .ok (.invokevirtual 71, 3) := by decide +kernel
theorem dd_DE_preallocate_58 : decode bb_DE_preallocate 58 = .ok (.aload 4, 2) := by decide +kernel
theorem dd_DE_preallocate_60 : decode bb_DE_preallocate 60 = .ok (.iload_n 2, 1) := by decide +kernel
theorem dd_DE_preallocate_61 : decode bb_DE_preallocate 61 = .ok (.iload 5, 2) := by decide +kernel
theorem dd_DE_preallocate_63 : decode bb_DE_preallocate 63 = .ok (.iconst 0, 1) := by decide +kernel
theorem dd_DE_preallocate_64 : decode bb_DE_preallocate 64 = .ok (.invokevirtual 74, 3) := by decide +kernel
theorem dd_DE_preallocate_67 : decode bb_DE_preallocate 67 = .ok (.aload_n 0, 1) := by decide +kernel
theorem dd_DE_preallocate_68 : decode bb_DE_preallocate 68 = .ok (.invokevirtual 43, 3) := by decide +kernel
theorem dd_DE_preallocate_71 : decode bb_DE_preallocate 71 = .ok (.ifCond .eq 16, 3) := by decide +kernel
theorem dd_DE_preallocate_74 : decode bb_DE_preallocate 74 = .ok (.aload 4, 2) := by decide +kernel
theorem dd_DE_preallocate_76 : decode bb_DE_preallocate 76 = .ok (.invokevirtual 78, 3) := by decide +kernel
theorem dd_DE_preallocate_79 : decode bb_DE_preallocate 79 = .ok (.new 51, 3) := by decide +kernel
theorem dd_DE_preallocate_82 : decode bb_DE_preallocate 82 = .ok (.dup, 1) := by decide +kernel
theorem dd_DE_preallocate_83 : decode bb_DE_preallocate 83 = .ok (.invokespecial 53, 3) := by decide +kernel
theorem dd_DE_preallocate_86 : decode bb_DE_preallocate 86 = .ok (.athrow, 1) := by decide +kernel
theorem dd_DE_preallocate_87 : decode bb_DE_preallocate 87 = .ok (.iload 6, 2) := by decide +kernel
theorem dd_DE_preallocate_89 : decode bb_DE_preallocate 89 = .ok (.ireturn, 1) := by decide +kernel
theorem dd_DE_punch_0 : decode bb_DE_punch 0 = .ok (.iload_n 1, 1) := by decide +kernel
theorem dd_DE_punch_1 : decode bb_DE_punch 1 = .ok (.iload_n 2, 1) := by decide +kernel
theorem dd_DE_punch_2 : decode bb_DE_punch 2 = .ok (.invokestatic 25, 3) := by decide +kernel
theorem dd_DE_punch_5 : decode bb_DE_punch 5 = .ok (.iload_n 2, 1) := by decide +kernel
theorem dd_DE_punch_6 : decode bb_DE_punch 6 = .ok (.iload_n 3, 1) := by decide +kernel
theorem dd_DE_punch_7 : decode bb_DE_punch 7 = .ok (.invokestatic 61, 3) := by decide +kernel
theorem dd_DE_punch_10 : decode bb_DE_punch 10 = .ok (.aload_n 0, 1) := by decide +kernel
theorem dd_DE_punch_11 : decode bb_DE_punch 11 = .ok (.getfield 18, 3) := by decide +kernel
theorem dd_DE_punch_14 : decode bb_DE_punch 14 = .ok (.iload_n 1, 1) := by decide +kernel
theorem dd_DE_punch_15 : decode bb_DE_punch 15 = .ok (.aaload, 1) := by decide +kernel
theorem dd_DE_punch_16 : decode bb_DE_punch 16 = .ok (.iload_n 2, 1) := by decide +kernel
theorem dd_DE_punch_17 : decode bb_DE_punch 17 = .ok (.iload_n 2, 1) := by decide +kernel
theorem dd_DE_punch_18 : decode bb_DE_punch 18 = .ok (.iload_n 3, 1) := by decide +kernel
theorem dd_DE_punch_19 : decode bb_DE_punch 19 = .ok (.iadd, 1) := by decide +kernel
theorem dd_DE_punch_20 : decode bb_DE_punch 20 = .ok (.invokevirtual 81, 3) := by decide +kernel
theorem dd_DE_punch_23 : decode bb_DE_punch 23 = .ok (.ireturn, 1) := by decide +kernel
theorem dd_DE_truncate_0 : decode bb_DE_truncate 0 = .ok (.iload_n 1, 1) := by decide +kernel
theorem dd_DE_truncate_1 : decode bb_DE_truncate 1 = .ok (.invokestatic 84, 3) := by decide +kernel
theorem dd_DE_truncate_4 : decode bb_DE_truncate 4 = .ok (.iload_n 2, 1) := by decide +kernel
theorem dd_DE_truncate_5 : decode bb_DE_truncate 5 = .ok (.ifCond .lt 9, 3) := by decide +kernel
theorem dd_DE_truncate_8 : decode bb_DE_truncate 8 = .ok (.iload_n 2, 1) := by decide +kernel
theorem dd_DE_truncate_9 : decode bb_DE_truncate 9 = .ok (.bipush 60, 2) := by decide +kernel
theorem dd_DE_truncate_11 : decode bb_DE_truncate 11 = .ok (.if_icmp .le 11, 3) := by decide +kernel
theorem dd_DE_truncate_14 : decode bb_DE_truncate 14 = .ok (.new 87, 3) := by decide +kernel
theorem dd_DE_truncate_17 : decode bb_DE_truncate 17 = .ok (.dup, 1) := by decide +kernel
theorem dd_DE_truncate_18 : decode bb_DE_truncate 18 = .ok (.invokespecial 89, 3) := by decide +kernel
theorem dd_DE_truncate_21 : decode bb_DE_truncate 21 = .ok (.athrow, 1) := by decide +kernel
theorem dd_DE_truncate_22 : decode bb_DE_truncate 22 = .ok (.aload_n 0, 1) := by decide +kernel
theorem dd_DE_truncate_23 : decode bb_DE_truncate 23 = .ok (.getfield 18, 3) := by decide +kernel
theorem dd_DE_truncate_26 : decode bb_DE_truncate 26 = .ok (.iload_n 1, 1) := by decide +kernel
theorem dd_DE_truncate_27 : decode bb_DE_truncate 27 = .ok (.aaload, 1) := by decide +kernel
theorem dd_DE_truncate_28 : decode bb_DE_truncate 28 = .ok (.iload_n 2, 1) := by decide +kernel
theorem dd_DE_truncate_29 : decode bb_DE_truncate 29 = .ok (.invokevirtual 90, 3) := by decide +kernel
theorem dd_DE_truncate_32 : decode bb_DE_truncate 32 = .ok (.aload_n 0, 1) := by decide +kernel
theorem dd_DE_truncate_33 : decode bb_DE_truncate 33 = .ok (.getfield 18, 3) := by decide +kernel
theorem dd_DE_truncate_36 : decode bb_DE_truncate 36 = .ok (.iload_n 1, 1) := by decide +kernel
theorem dd_DE_truncate_37 : decode bb_DE_truncate 37 = .ok (.aaload, 1) := by decide +kernel
theorem dd_DE_truncate_38 : decode bb_DE_truncate 38 = .ok (.iload_n 2, 1) := by decide +kernel
theorem dd_DE_truncate_39 : decode bb_DE_truncate 39 = .ok (.bipush 60, 2) := by decide +kernel
theorem dd_DE_truncate_41 : decode bb_DE_truncate 41 = .ok (.invokevirtual 81, 3) := by decide +kernel
theorem dd_DE_truncate_44 : decode bb_DE_truncate 44 = .ok (.ireturn, 1) := by decide +kernel
theorem dd_DE_flush_0 : decode bb_DE_flush 0 = .ok (.iload_n 1, 1) := by decide +kernel
theorem dd_DE_flush_1 : decode bb_DE_flush 1 = .ok (.invokestatic 84, 3) := by decide +kernel
theorem dd_DE_flush_4 : decode bb_DE_flush 4 = .ok (.aload_n 0, 1) := by decide +kernel
theorem dd_DE_flush_5 : decode bb_DE_flush 5 = .ok (.getfield 18, 3) := by decide +kernel
theorem dd_DE_flush_8 : decode bb_DE_flush 8 = .ok (.iload_n 1, 1) := by decide +kernel
theorem dd_DE_flush_9 : decode bb_DE_flush 9 = .ok (.aaload, 1) := by decide +kernel
theorem dd_DE_flush_10 : decode bb_DE_flush 10 = .ok (.astore_n 2, 1) := by decide +kernel
theorem dd_DE_flush_11 : decode bb_DE_flush 11 = .ok (.aload_n 2, 1) := by decide +kernel
theorem dd_DE_flush_12 : decode bb_DE_flush 12 = .ok (.iconst 0, 1) := by decide +kernel
theorem dd_DE_flush_13 : decode bb_DE_flush 13 = .ok (.bipush 60, 2) := by decide +kernel
theorem dd_DE_flush_15 : decode bb_DE_flush 15 = .ok (.iconst 1, 1) := by decide +kernel
theorem dd_DE_flush_16 : decode bb_DE_flush 16 = .ok (.invokevirtual 74, 3) := by decide +kernel
theorem dd_DE_flush_19 : decode bb_DE_flush 19 = .ok (.aload_n 2, 1) := by decide +kernel
theorem dd_DE_flush_20 : decode bb_DE_flush 20 = .ok (.invokevirtual 93, 3) := by decide +kernel
theorem dd_DE_flush_23 : decode bb_DE_flush 23 = .ok (.ireturn, 1) := by decide +kernel
theorem dd_DE_crash_0 : decode bb_DE_crash 0 = .ok (.aload_n 0, 1) := by decide +kernel
theorem dd_DE_crash_1 : decode bb_DE_crash 1 = .ok (.invokevirtual 33, 3) := by decide +kernel
theorem dd_DE_crash_4 : decode bb_DE_crash 4 = .ok (.istore_n 1, 1) := by decide +kernel
theorem dd_DE_crash_5 : decode bb_DE_crash 5 = .ok (.iconst 0, 1) := by decide +kernel
theorem dd_DE_crash_6 : decode bb_DE_crash 6 = .ok (.istore_n 2, 1) := by decide +kernel
theorem dd_DE_crash_7 : decode bb_DE_crash 7 = .ok (.iload_n 2, 1) := by decide +kernel
theorem dd_DE_crash_8 : decode bb_DE_crash 8 = .ok (.iconst 4, 1) := by decide +kernel
theorem dd_DE_crash_9 : decode bb_DE_crash 9 = .ok (.if_icmp .ge 18, 3) := by decide +kernel
theorem dd_DE_crash_12 : decode bb_DE_crash 12 = .ok (.aload_n 0, 1) := by decide +kernel
theorem dd_DE_crash_13 : decode bb_DE_crash 13 = .ok (.getfield 18, 3) := by decide +kernel
theorem dd_DE_crash_16 : decode bb_DE_crash 16 = .ok (.iload_n 2, 1) := by decide +kernel
theorem dd_DE_crash_17 : decode bb_DE_crash 17 = .ok (.aaload, 1) := by decide +kernel
theorem dd_DE_crash_18 : decode bb_DE_crash 18 = .ok (.invokevirtual 96, 3) := by decide +kernel
theorem dd_DE_crash_21 : decode bb_DE_crash 21 = .ok (.iinc 2 1, 3) := by decide +kernel
theorem dd_DE_crash_24 : decode bb_DE_crash 24 = .ok (.goto (-17), 3) := by decide +kernel
theorem dd_DE_crash_27 : decode bb_DE_crash 27 = .ok (.iload_n 1, 1) := by decide +kernel
theorem dd_DE_crash_28 : decode bb_DE_crash 28 = .ok (.ireturn, 1) := by decide +kernel
theorem dd_DE_extent_0 : decode bb_DE_extent 0 = .ok (.iload_n 1, 1) := by decide +kernel
theorem dd_DE_extent_1 : decode bb_DE_extent 1 = .ok (.invokestatic 84, 3) := by decide +kernel
theorem dd_DE_extent_4 : decode bb_DE_extent 4 = .ok (.aload_n 0, 1) := by decide +kernel
theorem dd_DE_extent_5 : decode bb_DE_extent 5 = .ok (.getfield 18, 3) := by decide +kernel
theorem dd_DE_extent_8 : decode bb_DE_extent 8 = .ok (.iload_n 1, 1) := by decide +kernel
theorem dd_DE_extent_9 : decode bb_DE_extent 9 = .ok (.aaload, 1) := by decide +kernel
theorem dd_DE_extent_10 : decode bb_DE_extent 10 = .ok (.astore 4, 2) := by decide +kernel
theorem dd_DE_extent_12 : decode bb_DE_extent 12 = .ok (.aload 4, 2) := by decide +kernel
theorem dd_DE_extent_14 : decode bb_DE_extent 14 = .ok (.iload_n 2, 1) := by decide +kernel
theorem dd_DE_extent_15 : decode bb_DE_extent 15 = .ok (.invokevirtual 99, 3) := by decide +kernel
theorem dd_DE_extent_18 : decode bb_DE_extent 18 = .ok (.istore 5, 2) := by decide +kernel
theorem dd_DE_extent_20 : decode bb_DE_extent 20 = .ok (.iload 5, 2) := by decide +kernel
theorem dd_DE_extent_22 : decode bb_DE_extent 22 = .ok (.iconst (-1), 1) := by decide +kernel
theorem dd_DE_extent_23 : decode bb_DE_extent 23 = .ok (.if_icmp .ne 11, 3) := by decide +kernel
theorem dd_DE_extent_26 : decode bb_DE_extent 26 = .ok (.new 102, 3) := by decide +kernel
theorem dd_DE_extent_29 : decode bb_DE_extent 29 = .ok (.dup, 1) := by decide +kernel
theorem dd_DE_extent_30 : decode bb_DE_extent 30 = .ok (.invokespecial 104, 3) := by decide +kernel
theorem dd_DE_extent_33 : decode bb_DE_extent 33 = .ok (.athrow, 1) := by decide +kernel
theorem dd_DE_extent_34 : decode bb_DE_extent 34 = .ok (.iload_n 3, 1) := by decide +kernel
theorem dd_DE_extent_64 : decode bb_DE_extent 64 = .ok (.iload 5, 2) := by decide +kernel
theorem dd_DE_extent_66 : decode bb_DE_extent 66 = .ok (.ireturn, 1) := by decide +kernel
theorem dd_DE_extent_67 : decode bb_DE_extent 67 = .ok (.aload 4, 2) := by decide +kernel
theorem dd_DE_extent_69 : decode bb_DE_extent 69 = .ok (.iload 5, 2) := by decide +kernel
theorem dd_DE_extent_71 : decode bb_DE_extent 71 = .ok (.invokevirtual 105, 3) := by decide +kernel
theorem dd_DE_extent_74 : decode bb_DE_extent 74 = .ok (.ireturn, 1) := by decide +kernel
theorem dd_DE_extent_75 : decode bb_DE_extent 75 = .ok (.aload 4, 2) := by decide +kernel
theorem dd_DE_extent_77 : decode bb_DE_extent 77 = .ok (.iload 5, 2) := by decide +kernel
theorem dd_DE_extent_79 : decode bb_DE_extent 79 = .ok (.invokevirtual 108, 3) := by decide +kernel
theorem dd_DE_extent_82 : decode bb_DE_extent 82 = .ok (.ireturn, 1) := by decide +kernel
theorem dd_DE_extent_83 : decode bb_DE_extent 83 = .ok (.aload 4, 2) := by decide +kernel
theorem dd_DE_extent_85 : decode bb_DE_extent 85 = .ok (.iload 5, 2) := by decide +kernel
theorem dd_DE_extent_87 : decode bb_DE_extent 87 = .ok (.invokevirtual 111, 3) := by decide +kernel
theorem dd_DE_extent_90 : decode bb_DE_extent 90 = .ok (.ifCond .eq 7, 3) := by decide +kernel
theorem dd_DE_extent_93 : decode bb_DE_extent 93 = .ok (.iconst 0, 1) := by decide +kernel
theorem dd_DE_extent_94 : decode bb_DE_extent 94 = .ok (.goto 4, 3) := by decide +kernel
theorem dd_DE_extent_97 : decode bb_DE_extent 97 = .ok (.iconst 1, 1) := by decide +kernel
theorem dd_DE_extent_98 : decode bb_DE_extent 98 = .ok (.ireturn, 1) := by decide +kernel
theorem dd_DE_extent_99 : decode bb_DE_extent 99 = .ok (.new 87, 3) := by decide +kernel
theorem dd_DE_extent_102 : decode bb_DE_extent 102 = .ok (.dup, 1) := by decide +kernel
theorem dd_DE_extent_103 : decode bb_DE_extent 103 = .ok (.invokespecial 89, 3) := by decide +kernel
theorem dd_DE_extent_106 : decode bb_DE_extent 106 = .ok (.athrow, 1) := by decide +kernel
theorem dd_DE_about_0 : decode bb_DE_about 0 = .ok (.iload_n 1, 1) := by decide +kernel
theorem dd_DE_about_1 : decode bb_DE_about 1 = .ok (.invokestatic 84, 3) := by decide +kernel
theorem dd_DE_about_4 : decode bb_DE_about 4 = .ok (.aload_n 0, 1) := by decide +kernel
theorem dd_DE_about_5 : decode bb_DE_about 5 = .ok (.getfield 18, 3) := by decide +kernel
theorem dd_DE_about_8 : decode bb_DE_about 8 = .ok (.iload_n 1, 1) := by decide +kernel
theorem dd_DE_about_9 : decode bb_DE_about 9 = .ok (.aaload, 1) := by decide +kernel
theorem dd_DE_about_10 : decode bb_DE_about 10 = .ok (.astore_n 3, 1) := by decide +kernel
theorem dd_DE_about_11 : decode bb_DE_about 11 = .ok (.iload_n 2, 1) := by decide +kernel
theorem dd_DE_about_52 : decode bb_DE_about 52 = .ok (.aload_n 3, 1) := by decide +kernel
theorem dd_DE_about_53 : decode bb_DE_about 53 = .ok (.invokevirtual 114, 3) := by decide +kernel
theorem dd_DE_about_56 : decode bb_DE_about 56 = .ok (.ireturn, 1) := by decide +kernel
theorem dd_DE_about_57 : decode bb_DE_about 57 = .ok (.aload_n 3, 1) := by decide +kernel
theorem dd_DE_about_58 : decode bb_DE_about 58 = .ok (.invokevirtual 117, 3) := by decide +kernel
theorem dd_DE_about_61 : decode bb_DE_about 61 = .ok (.ireturn, 1) := by decide +kernel
theorem dd_DE_about_62 : decode bb_DE_about 62 = .ok (.aload_n 3, 1) := by decide +kernel
theorem dd_DE_about_63 : decode bb_DE_about 63 = .ok (.invokevirtual 120, 3) := by decide +kernel
theorem dd_DE_about_66 : decode bb_DE_about 66 = .ok (.ireturn, 1) := by decide +kernel
theorem dd_DE_about_67 : decode bb_DE_about 67 = .ok (.aload_n 3, 1) := by decide +kernel
theorem dd_DE_about_68 : decode bb_DE_about 68 = .ok (.invokevirtual 120, 3) := by decide +kernel
theorem dd_DE_about_71 : decode bb_DE_about 71 = .ok (.invokestatic 123, 3) := by decide +kernel
theorem dd_DE_about_74 : decode bb_DE_about 74 = .ok (.ireturn, 1) := by decide +kernel
theorem dd_DE_about_75 : decode bb_DE_about 75 = .ok (.aload_n 3, 1) := by decide +kernel
theorem dd_DE_about_76 : decode bb_DE_about 76 = .ok (.invokevirtual 126, 3) := by decide +kernel
theorem dd_DE_about_79 : decode bb_DE_about 79 = .ok (.ireturn, 1) := by decide +kernel
theorem dd_DE_about_80 : decode bb_DE_about 80 = .ok (.aload_n 3, 1) := by decide +kernel
theorem dd_DE_about_81 : decode bb_DE_about 81 = .ok (.invokevirtual 127, 3) := by decide +kernel
theorem dd_DE_about_84 : decode bb_DE_about 84 = .ok (.ireturn, 1) := by decide +kernel
theorem dd_DE_about_85 : decode bb_DE_about 85 = .ok (.new 87, 3) := by decide +kernel
theorem dd_DE_about_88 : decode bb_DE_about 88 = .ok (.dup, 1) := by decide +kernel
theorem dd_DE_about_89 : decode bb_DE_about 89 = .ok (.invokespecial 89, 3) := by decide +kernel
theorem dd_DE_about_92 : decode bb_DE_about 92 = .ok (.athrow, 1) := by decide +kernel
theorem dd_DE_free_0 : decode bb_DE_free 0 = .ok (.bipush 80, 2) := by decide +kernel
theorem dd_DE_free_2 : decode bb_DE_free 2 = .ok (.istore_n 1, 1) := by decide +kernel
theorem dd_DE_free_3 : decode bb_DE_free 3 = .ok (.iconst 0, 1) := by decide +kernel
theorem dd_DE_free_4 : decode bb_DE_free 4 = .ok (.istore_n 2, 1) := by decide +kernel
theorem dd_DE_free_5 : decode bb_DE_free 5 = .ok (.iload_n 2, 1) := by decide +kernel
theorem dd_DE_free_6 : decode bb_DE_free 6 = .ok (.iconst 4, 1) := by decide +kernel
theorem dd_DE_free_7 : decode bb_DE_free 7 = .ok (.if_icmp .ge 34, 3) := by decide +kernel
theorem dd_DE_free_10 : decode bb_DE_free 10 = .ok (.iload_n 1, 1) := by decide +kernel
theorem dd_DE_free_11 : decode bb_DE_free 11 = .ok (.aload_n 0, 1) := by decide +kernel
theorem dd_DE_free_12 : decode bb_DE_free 12 = .ok (.getfield 18, 3) := by decide +kernel
theorem dd_DE_free_15 : decode bb_DE_free 15 = .ok (.iload_n 2, 1) := by decide +kernel
theorem dd_DE_free_16 : decode bb_DE_free 16 = .ok (.aaload, 1) := by decide +kernel
theorem dd_DE_free_17 : decode bb_DE_free 17 = .ok (.invokevirtual 117, 3) := by decide +kernel
theorem dd_DE_free_20 : decode bb_DE_free 20 = .ok (.aload_n 0, 1) := by decide +kernel
theorem dd_DE_free_21 : decode bb_DE_free 21 = .ok (.getfield 18, 3) := by decide +kernel
theorem dd_DE_free_24 : decode bb_DE_free 24 = .ok (.iload_n 2, 1) := by decide +kernel
theorem dd_DE_free_25 : decode bb_DE_free 25 = .ok (.aaload, 1) := by decide +kernel
theorem dd_DE_free_26 : decode bb_DE_free 26 = .ok (.invokevirtual 120, 3) := by decide +kernel
theorem dd_DE_free_29 : decode bb_DE_free 29 = .ok (.invokestatic 123, 3) := by decide +kernel
theorem dd_DE_free_32 : decode bb_DE_free 32 = .ok (.iadd, 1) := by decide +kernel
theorem dd_DE_free_33 : decode bb_DE_free 33 = .ok (.isub, 1) := by decide +kernel
theorem dd_DE_free_34 : decode bb_DE_free 34 = .ok (.istore_n 1, 1) := by decide +kernel
theorem dd_DE_free_35 : decode bb_DE_free 35 = .ok (.iinc 2 1, 3) := by decide +kernel
theorem dd_DE_free_38 : decode bb_DE_free 38 = .ok (.goto (-33), 3) := by decide +kernel
theorem dd_DE_free_41 : decode bb_DE_free 41 = .ok (.iload_n 1, 1) := by decide +kernel
theorem dd_DE_free_42 : decode bb_DE_free 42 = .ok (.ireturn, 1) := by decide +kernel
theorem dd_DE_reserved_0 : decode bb_DE_reserved 0 = .ok (.iconst 0, 1) := by decide +kernel
theorem dd_DE_reserved_1 : decode bb_DE_reserved 1 = .ok (.istore_n 1, 1) := by decide +kernel
theorem dd_DE_reserved_2 : decode bb_DE_reserved 2 = .ok (.iconst 0, 1) := by decide +kernel
theorem dd_DE_reserved_3 : decode bb_DE_reserved 3 = .ok (.istore_n 2, 1) := by decide +kernel
theorem dd_DE_reserved_4 : decode bb_DE_reserved 4 = .ok (.iload_n 2, 1) := by decide +kernel
theorem dd_DE_reserved_5 : decode bb_DE_reserved 5 = .ok (.iconst 4, 1) := by decide +kernel
theorem dd_DE_reserved_6 : decode bb_DE_reserved 6 = .ok (.if_icmp .ge 21, 3) := by decide +kernel
theorem dd_DE_reserved_9 : decode bb_DE_reserved 9 = .ok (.iload_n 1, 1) := by decide +kernel
theorem dd_DE_reserved_10 : decode bb_DE_reserved 10 = .ok (.aload_n 0, 1) := by decide +kernel
theorem dd_DE_reserved_11 : decode bb_DE_reserved 11 = .ok (.getfield 18, 3) := by decide +kernel
theorem dd_DE_reserved_14 : decode bb_DE_reserved 14 = .ok (.iload_n 2, 1) := by decide +kernel
theorem dd_DE_reserved_15 : decode bb_DE_reserved 15 = .ok (.aaload, 1) := by decide +kernel
theorem dd_DE_reserved_16 : decode bb_DE_reserved 16 = .ok (.invokevirtual 127, 3) := by decide +kernel
theorem dd_DE_reserved_19 : decode bb_DE_reserved 19 = .ok (.iadd, 1) := by decide +kernel
theorem dd_DE_reserved_20 : decode bb_DE_reserved 20 = .ok (.istore_n 1, 1) := by decide +kernel
theorem dd_DE_reserved_21 : decode bb_DE_reserved 21 = .ok (.iinc 2 1, 3) := by decide +kernel
theorem dd_DE_reserved_24 : decode bb_DE_reserved 24 = .ok (.goto (-20), 3) := by decide +kernel
theorem dd_DE_reserved_27 : decode bb_DE_reserved 27 = .ok (.iload_n 1, 1) := by decide +kernel
theorem dd_DE_reserved_28 : decode bb_DE_reserved 28 = .ok (.ireturn, 1) := by decide +kernel
theorem dd_DE_owner_0 : decode bb_DE_owner 0 = .ok (.iload_n 1, 1) := by decide +kernel
theorem dd_DE_owner_1 : decode bb_DE_owner 1 = .ok (.invokestatic 130, 3) := by decide +kernel
theorem dd_DE_owner_4 : decode bb_DE_owner 4 = .ok (.aload_n 0, 1) := by decide +kernel
theorem dd_DE_owner_5 : decode bb_DE_owner 5 = .ok (.getfield 10, 3) := by decide +kernel
theorem dd_DE_owner_8 : decode bb_DE_owner 8 = .ok (.iload_n 1, 1) := by decide +kernel
theorem dd_DE_owner_9 : decode bb_DE_owner 9 = .ok (.invokevirtual 133, 3) := by decide +kernel
theorem dd_DE_owner_12 : decode bb_DE_owner 12 = .ok (.ireturn, 1) := by decide +kernel
theorem dd_DE_value_0 : decode bb_DE_value 0 = .ok (.iload_n 1, 1) := by decide +kernel
theorem dd_DE_value_1 : decode bb_DE_value 1 = .ok (.invokestatic 130, 3) := by decide +kernel
theorem dd_DE_value_4 : decode bb_DE_value 4 = .ok (.aload_n 0, 1) := by decide +kernel
theorem dd_DE_value_5 : decode bb_DE_value 5 = .ok (.getfield 10, 3) := by decide +kernel
theorem dd_DE_value_8 : decode bb_DE_value 8 = .ok (.iload_n 1, 1) := by decide +kernel
theorem dd_DE_value_9 : decode bb_DE_value 9 = .ok (.invokevirtual 136, 3) := by decide +kernel
theorem dd_DE_value_12 : decode bb_DE_value 12 = .ok (.ireturn, 1) := by decide +kernel
theorem dd_DE_requireFile_0 : decode bb_DE_requireFile 0 = .ok (.iload_n 0, 1) := by decide +kernel
theorem dd_DE_requireFile_1 : decode bb_DE_requireFile 1 = .ok (.ifCond .lt 8, 3) := by decide +kernel
theorem dd_DE_requireFile_4 : decode bb_DE_requireFile 4 = .ok (.iload_n 0, 1) := by decide +kernel
theorem dd_DE_requireFile_5 : decode bb_DE_requireFile 5 = .ok (.iconst 4, 1) := by decide +kernel
theorem dd_DE_requireFile_6 : decode bb_DE_requireFile 6 = .ok (.if_icmp .lt 11, 3) := by decide +kernel
theorem dd_DE_requireFile_9 : decode bb_DE_requireFile 9 = .ok (.new 102, 3) := by decide +kernel
theorem dd_DE_requireFile_12 : decode bb_DE_requireFile 12 = .ok (.dup, 1) := by decide +kernel
theorem dd_DE_requireFile_13 : decode bb_DE_requireFile 13 = .ok (.invokespecial 104, 3) := by decide +kernel
theorem dd_DE_requireFile_16 : decode bb_DE_requireFile 16 = .ok (.athrow, 1) := by decide +kernel
theorem dd_DE_requireFile_17 : decode bb_DE_requireFile 17 = .ok (.return_, 1) := by decide +kernel
theorem dd_DE_requireBlock_0 : decode bb_DE_requireBlock 0 = .ok (.iload_n 0, 1) := by decide +kernel
theorem dd_DE_requireBlock_1 : decode bb_DE_requireBlock 1 = .ok (.invokestatic 84, 3) := by decide +kernel
theorem dd_DE_requireBlock_4 : decode bb_DE_requireBlock 4 = .ok (.iload_n 1, 1) := by decide +kernel
theorem dd_DE_requireBlock_5 : decode bb_DE_requireBlock 5 = .ok (.ifCond .lt 9, 3) := by decide +kernel
theorem dd_DE_requireBlock_8 : decode bb_DE_requireBlock 8 = .ok (.iload_n 1, 1) := by decide +kernel
theorem dd_DE_requireBlock_9 : decode bb_DE_requireBlock 9 = .ok (.bipush 60, 2) := by decide +kernel
theorem dd_DE_requireBlock_11 : decode bb_DE_requireBlock 11 = .ok (.if_icmp .lt 11, 3) := by decide +kernel
theorem dd_DE_requireBlock_14 : decode bb_DE_requireBlock 14 = .ok (.new 102, 3) := by decide +kernel
theorem dd_DE_requireBlock_17 : decode bb_DE_requireBlock 17 = .ok (.dup, 1) := by decide +kernel
theorem dd_DE_requireBlock_18 : decode bb_DE_requireBlock 18 = .ok (.invokespecial 104, 3) := by decide +kernel
theorem dd_DE_requireBlock_21 : decode bb_DE_requireBlock 21 = .ok (.athrow, 1) := by decide +kernel
theorem dd_DE_requireBlock_22 : decode bb_DE_requireBlock 22 = .ok (.return_, 1) := by decide +kernel
theorem dd_DE_requireRow_0 : decode bb_DE_requireRow 0 = .ok (.iload_n 1, 1) := by decide +kernel
theorem dd_DE_requireRow_1 : decode bb_DE_requireRow 1 = .ok (.iconst 1, 1) := by decide +kernel
theorem dd_DE_requireRow_2 : decode bb_DE_requireRow 2 = .ok (.if_icmp .lt 11, 3) := by decide +kernel
theorem dd_DE_requireRow_5 : decode bb_DE_requireRow 5 = .ok (.iload_n 1, 1) := by decide +kernel
theorem dd_DE_requireRow_6 : decode bb_DE_requireRow 6 = .ok (.bipush 60, 2) := by decide +kernel
theorem dd_DE_requireRow_8 : decode bb_DE_requireRow 8 = .ok (.iload_n 0, 1) := by decide +kernel
theorem dd_DE_requireRow_9 : decode bb_DE_requireRow 9 = .ok (.isub, 1) := by decide +kernel
theorem dd_DE_requireRow_10 : decode bb_DE_requireRow 10 = .ok (.if_icmp .le 11, 3) := by decide +kernel
theorem dd_DE_requireRow_13 : decode bb_DE_requireRow 13 = .ok (.new 87, 3) := by decide +kernel
theorem dd_DE_requireRow_16 : decode bb_DE_requireRow 16 = .ok (.dup, 1) := by decide +kernel
theorem dd_DE_requireRow_17 : decode bb_DE_requireRow 17 = .ok (.invokespecial 89, 3) := by decide +kernel
theorem dd_DE_requireRow_20 : decode bb_DE_requireRow 20 = .ok (.athrow, 1) := by decide +kernel
theorem dd_DE_requireRow_21 : decode bb_DE_requireRow 21 = .ok (.return_, 1) := by decide +kernel
theorem dd_DE_requirePlace_0 : decode bb_DE_requirePlace 0 = .ok (.iload_n 0, 1) := by decide +kernel
theorem dd_DE_requirePlace_1 : decode bb_DE_requirePlace 1 = .ok (.ifCond .lt 9, 3) := by decide +kernel
theorem dd_DE_requirePlace_4 : decode bb_DE_requirePlace 4 = .ok (.iload_n 0, 1) := by decide +kernel
theorem dd_DE_requirePlace_5 : decode bb_DE_requirePlace 5 = .ok (.bipush 80, 2) := by decide +kernel
theorem dd_DE_requirePlace_7 : decode bb_DE_requirePlace 7 = .ok (.if_icmp .lt 11, 3) := by decide +kernel
theorem dd_DE_requirePlace_10 : decode bb_DE_requirePlace 10 = .ok (.new 102, 3) := by decide +kernel
theorem dd_DE_requirePlace_13 : decode bb_DE_requirePlace 13 = .ok (.dup, 1) := by decide +kernel
theorem dd_DE_requirePlace_14 : decode bb_DE_requirePlace 14 = .ok (.invokespecial 104, 3) := by decide +kernel
theorem dd_DE_requirePlace_17 : decode bb_DE_requirePlace 17 = .ok (.athrow, 1) := by decide +kernel
theorem dd_DE_requirePlace_18 : decode bb_DE_requirePlace 18 = .ok (.return_, 1) := by decide +kernel
theorem dd_DE_countPages_0 : decode bb_DE_countPages 0 = .ok (.iconst 0, 1) := by decide +kernel
theorem dd_DE_countPages_1 : decode bb_DE_countPages 1 = .ok (.istore_n 1, 1) := by decide +kernel
theorem dd_DE_countPages_2 : decode bb_DE_countPages 2 = .ok (.iconst 0, 1) := by decide +kernel
theorem dd_DE_countPages_3 : decode bb_DE_countPages 3 = .ok (.istore_n 2, 1) := by decide +kernel
theorem dd_DE_countPages_4 : decode bb_DE_countPages 4 = .ok (.iload_n 2, 1) := by decide +kernel
theorem dd_DE_countPages_5 : decode bb_DE_countPages 5 = .ok (.iconst 4, 1) := by decide +kernel
theorem dd_DE_countPages_6 : decode bb_DE_countPages 6 = .ok (.if_icmp .ge 21, 3) := by decide +kernel
theorem dd_DE_countPages_9 : decode bb_DE_countPages 9 = .ok (.iload_n 1, 1) := by decide +kernel
theorem dd_DE_countPages_10 : decode bb_DE_countPages 10 = .ok (.aload_n 0, 1) := by decide +kernel
theorem dd_DE_countPages_11 : decode bb_DE_countPages 11 = .ok (.getfield 18, 3) := by decide +kernel
theorem dd_DE_countPages_14 : decode bb_DE_countPages 14 = .ok (.iload_n 2, 1) := by decide +kernel
theorem dd_DE_countPages_15 : decode bb_DE_countPages 15 = .ok (.aaload, 1) := by decide +kernel
theorem dd_DE_countPages_16 : decode bb_DE_countPages 16 = .ok (.invokevirtual 126, 3) := by decide +kernel
theorem dd_DE_countPages_19 : decode bb_DE_countPages 19 = .ok (.iadd, 1) := by decide +kernel
theorem dd_DE_countPages_20 : decode bb_DE_countPages 20 = .ok (.istore_n 1, 1) := by decide +kernel
theorem dd_DE_countPages_21 : decode bb_DE_countPages 21 = .ok (.iinc 2 1, 3) := by decide +kernel
theorem dd_DE_countPages_24 : decode bb_DE_countPages 24 = .ok (.goto (-20), 3) := by decide +kernel
theorem dd_DE_countPages_27 : decode bb_DE_countPages 27 = .ok (.iload_n 1, 1) := by decide +kernel
theorem dd_DE_countPages_28 : decode bb_DE_countPages 28 = .ok (.ireturn, 1) := by decide +kernel
theorem dd_DE_isOverbooked_0 : decode bb_DE_isOverbooked 0 = .ok (.aload_n 0, 1) := by decide +kernel
theorem dd_DE_isOverbooked_1 : decode bb_DE_isOverbooked 1 = .ok (.invokevirtual 139, 3) := by decide +kernel
theorem dd_DE_isOverbooked_4 : decode bb_DE_isOverbooked 4 = .ok (.aload_n 0, 1) := by decide +kernel
theorem dd_DE_isOverbooked_5 : decode bb_DE_isOverbooked 5 = .ok (.invokevirtual 142, 3) := by decide +kernel
theorem dd_DE_isOverbooked_8 : decode bb_DE_isOverbooked 8 = .ok (.if_icmp .ge 7, 3) := by decide +kernel
theorem dd_DE_isOverbooked_11 : decode bb_DE_isOverbooked 11 = .ok (.iconst 1, 1) := by decide +kernel
theorem dd_DE_isOverbooked_12 : decode bb_DE_isOverbooked 12 = .ok (.goto 4, 3) := by decide +kernel
theorem dd_DE_isOverbooked_15 : decode bb_DE_isOverbooked 15 = .ok (.iconst 0, 1) := by decide +kernel
theorem dd_DE_isOverbooked_16 : decode bb_DE_isOverbooked 16 = .ok (.ireturn, 1) := by decide +kernel
theorem dd_LA_write_0 : decode bb_LA_write 0 = .ok (.aload_n 0, 1) := by decide +kernel
theorem dd_LA_write_1 : decode bb_LA_write 1 = .ok (.iload_n 1, 1) := by decide +kernel
theorem dd_LA_write_2 : decode bb_LA_write 2 = .ok (.iload_n 2, 1) := by decide +kernel
theorem dd_LA_write_3 : decode bb_LA_write 3 = .ok (.iload_n 3, 1) := by decide +kernel
theorem dd_LA_write_4 : decode bb_LA_write 4 = .ok (.invokevirtual 7, 3) := by decide +kernel
theorem dd_LA_write_7 : decode bb_LA_write 7 = .ok (.goto 15, 3) := by decide +kernel
theorem dd_LA_write_10 : decode bb_LA_write 10 = .ok (.astore 4, 2) := by decide +kernel
theorem dd_LA_write_12 : decode bb_LA_write 12 = .ok (.iconst 1, 1) := by decide +kernel
theorem dd_LA_write_13 : decode bb_LA_write 13 = .ok (.ireturn, 1) := by decide +kernel
theorem dd_LA_write_14 : decode bb_LA_write 14 = .ok (.astore 4, 2) := by decide +kernel
theorem dd_LA_write_16 : decode bb_LA_write 16 = .ok (.iconst 2, 1) := by decide +kernel
theorem dd_LA_write_17 : decode bb_LA_write 17 = .ok (.ireturn, 1) := by decide +kernel
theorem dd_LA_write_18 : decode bb_LA_write 18 = .ok (.astore 4, 2) := by decide +kernel
theorem dd_LA_write_20 : decode bb_LA_write 20 = .ok (.iconst 3, 1) := by decide +kernel
theorem dd_LA_write_21 : decode bb_LA_write 21 = .ok (.ireturn, 1) := by decide +kernel
theorem dd_LA_write_22 : decode bb_LA_write 22 = .ok (.iconst 0, 1) := by decide +kernel
theorem dd_LA_write_23 : decode bb_LA_write 23 = .ok (.ireturn, 1) := by decide +kernel
theorem dd_LA_read_0 : decode bb_LA_read 0 = .ok (.aload_n 3, 1) := by decide +kernel
theorem dd_LA_read_1 : decode bb_LA_read 1 = .ok (.iconst 0, 1) := by decide +kernel
theorem dd_LA_read_2 : decode bb_LA_read 2 = .ok (.aload_n 0, 1) := by decide +kernel
theorem dd_LA_read_3 : decode bb_LA_read 3 = .ok (.iload_n 1, 1) := by decide +kernel
theorem dd_LA_read_4 : decode bb_LA_read 4 = .ok (.iload_n 2, 1) := by decide +kernel
theorem dd_LA_read_5 : decode bb_LA_read 5 = .ok (.invokevirtual 19, 3) := by decide +kernel
theorem dd_LA_read_8 : decode bb_LA_read 8 = .ok (.i2l, 1) := by decide +kernel
theorem dd_LA_read_9 : decode bb_LA_read 9 = .ok (.lastore, 1) := by decide +kernel
theorem dd_LA_read_10 : decode bb_LA_read 10 = .ok (.goto 7, 3) := by decide +kernel
theorem dd_LA_read_13 : decode bb_LA_read 13 = .ok (.astore 4, 2) := by decide +kernel
theorem dd_LA_read_15 : decode bb_LA_read 15 = .ok (.iconst 1, 1) := by decide +kernel
theorem dd_LA_read_16 : decode bb_LA_read 16 = .ok (.ireturn, 1) := by decide +kernel
theorem dd_LA_read_17 : decode bb_LA_read 17 = .ok (.iconst 0, 1) := by decide +kernel
theorem dd_LA_read_18 : decode bb_LA_read 18 = .ok (.ireturn, 1) := by decide +kernel
theorem dd_LA_preallocate_0 : decode bb_LA_preallocate 0 = .ok (.aload 4, 2) := by decide +kernel
theorem dd_LA_preallocate_2 : decode bb_LA_preallocate 2 = .ok (.iconst 0, 1) := by decide +kernel
theorem dd_LA_preallocate_3 : decode bb_LA_preallocate 3 = .ok (.aload_n 0, 1) := by decide +kernel
theorem dd_LA_preallocate_4 : decode bb_LA_preallocate 4 = .ok (.iload_n 1, 1) := by decide +kernel
theorem dd_LA_preallocate_5 : decode bb_LA_preallocate 5 = .ok (.iload_n 2, 1) := by decide +kernel
theorem dd_LA_preallocate_6 : decode bb_LA_preallocate 6 = .ok (.iload_n 3, 1) := by decide +kernel
theorem dd_LA_preallocate_7 : decode bb_LA_preallocate 7 = .ok (.invokevirtual 23, 3) := by decide +kernel
theorem dd_LA_preallocate_10 : decode bb_LA_preallocate 10 = .ok (.i2l, 1) := by decide +kernel
theorem dd_LA_preallocate_11 : decode bb_LA_preallocate 11 = .ok (.lastore, 1) := by decide +kernel
theorem dd_LA_preallocate_12 : decode bb_LA_preallocate 12 = .ok (.goto 15, 3) := by decide +kernel
theorem dd_LA_preallocate_15 : decode bb_LA_preallocate 15 = .ok (.astore 5, 2) := by decide +kernel
theorem dd_LA_preallocate_17 : decode bb_LA_preallocate 17 = .ok (.iconst 1, 1) := by decide +kernel
theorem dd_LA_preallocate_18 : decode bb_LA_preallocate 18 = .ok (.ireturn, 1) := by decide +kernel
theorem dd_LA_preallocate_19 : decode bb_LA_preallocate 19 = .ok (.astore 5, 2) := by decide +kernel
theorem dd_LA_preallocate_21 : decode bb_LA_preallocate 21 = .ok (.iconst 2, 1) := by decide +kernel
theorem dd_LA_preallocate_22 : decode bb_LA_preallocate 22 = .ok (.ireturn, 1) := by decide +kernel
theorem dd_LA_preallocate_23 : decode bb_LA_preallocate 23 = .ok (.astore 5, 2) := by decide +kernel
theorem dd_LA_preallocate_25 : decode bb_LA_preallocate 25 = .ok (.iconst 3, 1) := by decide +kernel
theorem dd_LA_preallocate_26 : decode bb_LA_preallocate 26 = .ok (.ireturn, 1) := by decide +kernel
theorem dd_LA_preallocate_27 : decode bb_LA_preallocate 27 = .ok (.iconst 0, 1) := by decide +kernel
theorem dd_LA_preallocate_28 : decode bb_LA_preallocate 28 = .ok (.ireturn, 1) := by decide +kernel
theorem dd_LA_punch_0 : decode bb_LA_punch 0 = .ok (.aload 4, 2) := by decide +kernel
theorem dd_LA_punch_2 : decode bb_LA_punch 2 = .ok (.iconst 0, 1) := by decide +kernel
theorem dd_LA_punch_3 : decode bb_LA_punch 3 = .ok (.aload_n 0, 1) := by decide +kernel
theorem dd_LA_punch_4 : decode bb_LA_punch 4 = .ok (.iload_n 1, 1) := by decide +kernel
theorem dd_LA_punch_5 : decode bb_LA_punch 5 = .ok (.iload_n 2, 1) := by decide +kernel
theorem dd_LA_punch_6 : decode bb_LA_punch 6 = .ok (.iload_n 3, 1) := by decide +kernel
theorem dd_LA_punch_7 : decode bb_LA_punch 7 = .ok (.invokevirtual 29, 3) := by decide +kernel
theorem dd_LA_punch_10 : decode bb_LA_punch 10 = .ok (.i2l, 1) := by decide +kernel
theorem dd_LA_punch_11 : decode bb_LA_punch 11 = .ok (.lastore, 1) := by decide +kernel
theorem dd_LA_punch_12 : decode bb_LA_punch 12 = .ok (.goto 11, 3) := by decide +kernel
theorem dd_LA_punch_15 : decode bb_LA_punch 15 = .ok (.astore 5, 2) := by decide +kernel
theorem dd_LA_punch_17 : decode bb_LA_punch 17 = .ok (.iconst 1, 1) := by decide +kernel
theorem dd_LA_punch_18 : decode bb_LA_punch 18 = .ok (.ireturn, 1) := by decide +kernel
theorem dd_LA_punch_19 : decode bb_LA_punch 19 = .ok (.astore 5, 2) := by decide +kernel
theorem dd_LA_punch_21 : decode bb_LA_punch 21 = .ok (.iconst 2, 1) := by decide +kernel
theorem dd_LA_punch_22 : decode bb_LA_punch 22 = .ok (.ireturn, 1) := by decide +kernel
theorem dd_LA_punch_23 : decode bb_LA_punch 23 = .ok (.iconst 0, 1) := by decide +kernel
theorem dd_LA_punch_24 : decode bb_LA_punch 24 = .ok (.ireturn, 1) := by decide +kernel
theorem dd_LA_truncate_0 : decode bb_LA_truncate 0 = .ok (.aload_n 3, 1) := by decide +kernel
theorem dd_LA_truncate_1 : decode bb_LA_truncate 1 = .ok (.iconst 0, 1) := by decide +kernel
theorem dd_LA_truncate_2 : decode bb_LA_truncate 2 = .ok (.aload_n 0, 1) := by decide +kernel
theorem dd_LA_truncate_3 : decode bb_LA_truncate 3 = .ok (.iload_n 1, 1) := by decide +kernel
theorem dd_LA_truncate_4 : decode bb_LA_truncate 4 = .ok (.iload_n 2, 1) := by decide +kernel
theorem dd_LA_truncate_5 : decode bb_LA_truncate 5 = .ok (.invokevirtual 32, 3) := by decide +kernel
theorem dd_LA_truncate_8 : decode bb_LA_truncate 8 = .ok (.i2l, 1) := by decide +kernel
theorem dd_LA_truncate_9 : decode bb_LA_truncate 9 = .ok (.lastore, 1) := by decide +kernel
theorem dd_LA_truncate_10 : decode bb_LA_truncate 10 = .ok (.goto 11, 3) := by decide +kernel
theorem dd_LA_truncate_13 : decode bb_LA_truncate 13 = .ok (.astore 4, 2) := by decide +kernel
theorem dd_LA_truncate_15 : decode bb_LA_truncate 15 = .ok (.iconst 1, 1) := by decide +kernel
theorem dd_LA_truncate_16 : decode bb_LA_truncate 16 = .ok (.ireturn, 1) := by decide +kernel
theorem dd_LA_truncate_17 : decode bb_LA_truncate 17 = .ok (.astore 4, 2) := by decide +kernel
theorem dd_LA_truncate_19 : decode bb_LA_truncate 19 = .ok (.iconst 2, 1) := by decide +kernel
theorem dd_LA_truncate_20 : decode bb_LA_truncate 20 = .ok (.ireturn, 1) := by decide +kernel
theorem dd_LA_truncate_21 : decode bb_LA_truncate 21 = .ok (.iconst 0, 1) := by decide +kernel
theorem dd_LA_truncate_22 : decode bb_LA_truncate 22 = .ok (.ireturn, 1) := by decide +kernel
theorem dd_LA_flush_0 : decode bb_LA_flush 0 = .ok (.aload_n 2, 1) := by decide +kernel
theorem dd_LA_flush_1 : decode bb_LA_flush 1 = .ok (.iconst 0, 1) := by decide +kernel
theorem dd_LA_flush_2 : decode bb_LA_flush 2 = .ok (.aload_n 0, 1) := by decide +kernel
theorem dd_LA_flush_3 : decode bb_LA_flush 3 = .ok (.iload_n 1, 1) := by decide +kernel
theorem dd_LA_flush_4 : decode bb_LA_flush 4 = .ok (.invokevirtual 35, 3) := by decide +kernel
theorem dd_LA_flush_7 : decode bb_LA_flush 7 = .ok (.i2l, 1) := by decide +kernel
theorem dd_LA_flush_8 : decode bb_LA_flush 8 = .ok (.lastore, 1) := by decide +kernel
theorem dd_LA_flush_9 : decode bb_LA_flush 9 = .ok (.goto 6, 3) := by decide +kernel
theorem dd_LA_flush_12 : decode bb_LA_flush 12 = .ok (.astore_n 3, 1) := by decide +kernel
theorem dd_LA_flush_13 : decode bb_LA_flush 13 = .ok (.iconst 1, 1) := by decide +kernel
theorem dd_LA_flush_14 : decode bb_LA_flush 14 = .ok (.ireturn, 1) := by decide +kernel
theorem dd_LA_flush_15 : decode bb_LA_flush 15 = .ok (.iconst 0, 1) := by decide +kernel
theorem dd_LA_flush_16 : decode bb_LA_flush 16 = .ok (.ireturn, 1) := by decide +kernel
theorem dd_LA_extent_0 : decode bb_LA_extent 0 = .ok (.aload 4, 2) := by decide +kernel
theorem dd_LA_extent_2 : decode bb_LA_extent 2 = .ok (.iconst 0, 1) := by decide +kernel
theorem dd_LA_extent_3 : decode bb_LA_extent 3 = .ok (.aload_n 0, 1) := by decide +kernel
theorem dd_LA_extent_4 : decode bb_LA_extent 4 = .ok (.iload_n 1, 1) := by decide +kernel
theorem dd_LA_extent_5 : decode bb_LA_extent 5 = .ok (.iload_n 2, 1) := by decide +kernel
theorem dd_LA_extent_6 : decode bb_LA_extent 6 = .ok (.iload_n 3, 1) := by decide +kernel
theorem dd_LA_extent_7 : decode bb_LA_extent 7 = .ok (.invokevirtual 39, 3) := by decide +kernel
theorem dd_LA_extent_10 : decode bb_LA_extent 10 = .ok (.i2l, 1) := by decide +kernel
theorem dd_LA_extent_11 : decode bb_LA_extent 11 = .ok (.lastore, 1) := by decide +kernel
theorem dd_LA_extent_12 : decode bb_LA_extent 12 = .ok (.goto 11, 3) := by decide +kernel
theorem dd_LA_extent_15 : decode bb_LA_extent 15 = .ok (.astore 5, 2) := by decide +kernel
theorem dd_LA_extent_17 : decode bb_LA_extent 17 = .ok (.iconst 1, 1) := by decide +kernel
theorem dd_LA_extent_18 : decode bb_LA_extent 18 = .ok (.ireturn, 1) := by decide +kernel
theorem dd_LA_extent_19 : decode bb_LA_extent 19 = .ok (.astore 5, 2) := by decide +kernel
theorem dd_LA_extent_21 : decode bb_LA_extent 21 = .ok (.iconst 2, 1) := by decide +kernel
theorem dd_LA_extent_22 : decode bb_LA_extent 22 = .ok (.ireturn, 1) := by decide +kernel
theorem dd_LA_extent_23 : decode bb_LA_extent 23 = .ok (.iconst 0, 1) := by decide +kernel
theorem dd_LA_extent_24 : decode bb_LA_extent 24 = .ok (.ireturn, 1) := by decide +kernel
theorem dd_LA_about_0 : decode bb_LA_about 0 = .ok (.aload_n 3, 1) := by decide +kernel
theorem dd_LA_about_1 : decode bb_LA_about 1 = .ok (.iconst 0, 1) := by decide +kernel
theorem dd_LA_about_2 : decode bb_LA_about 2 = .ok (.aload_n 0, 1) := by decide +kernel
theorem dd_LA_about_3 : decode bb_LA_about 3 = .ok (.iload_n 1, 1) := by decide +kernel
theorem dd_LA_about_4 : decode bb_LA_about 4 = .ok (.iload_n 2, 1) := by decide +kernel
theorem dd_LA_about_5 : decode bb_LA_about 5 = .ok (.invokevirtual 42, 3) := by decide +kernel
theorem dd_LA_about_8 : decode bb_LA_about 8 = .ok (.i2l, 1) := by decide +kernel
theorem dd_LA_about_9 : decode bb_LA_about 9 = .ok (.lastore, 1) := by decide +kernel
theorem dd_LA_about_10 : decode bb_LA_about 10 = .ok (.goto 11, 3) := by decide +kernel
theorem dd_LA_about_13 : decode bb_LA_about 13 = .ok (.astore 4, 2) := by decide +kernel
theorem dd_LA_about_15 : decode bb_LA_about 15 = .ok (.iconst 1, 1) := by decide +kernel
theorem dd_LA_about_16 : decode bb_LA_about 16 = .ok (.ireturn, 1) := by decide +kernel
theorem dd_LA_about_17 : decode bb_LA_about 17 = .ok (.astore 4, 2) := by decide +kernel
theorem dd_LA_about_19 : decode bb_LA_about 19 = .ok (.iconst 2, 1) := by decide +kernel
theorem dd_LA_about_20 : decode bb_LA_about 20 = .ok (.ireturn, 1) := by decide +kernel
theorem dd_LA_about_21 : decode bb_LA_about 21 = .ok (.iconst 0, 1) := by decide +kernel
theorem dd_LA_about_22 : decode bb_LA_about 22 = .ok (.ireturn, 1) := by decide +kernel
theorem dd_LA_owner_0 : decode bb_LA_owner 0 = .ok (.aload_n 2, 1) := by decide +kernel
theorem dd_LA_owner_1 : decode bb_LA_owner 1 = .ok (.iconst 0, 1) := by decide +kernel
theorem dd_LA_owner_2 : decode bb_LA_owner 2 = .ok (.aload_n 0, 1) := by decide +kernel
theorem dd_LA_owner_3 : decode bb_LA_owner 3 = .ok (.iload_n 1, 1) := by decide +kernel
theorem dd_LA_owner_4 : decode bb_LA_owner 4 = .ok (.invokevirtual 45, 3) := by decide +kernel
theorem dd_LA_owner_7 : decode bb_LA_owner 7 = .ok (.i2l, 1) := by decide +kernel
theorem dd_LA_owner_8 : decode bb_LA_owner 8 = .ok (.lastore, 1) := by decide +kernel
theorem dd_LA_owner_9 : decode bb_LA_owner 9 = .ok (.goto 6, 3) := by decide +kernel
theorem dd_LA_owner_12 : decode bb_LA_owner 12 = .ok (.astore_n 3, 1) := by decide +kernel
theorem dd_LA_owner_13 : decode bb_LA_owner 13 = .ok (.iconst 1, 1) := by decide +kernel
theorem dd_LA_owner_14 : decode bb_LA_owner 14 = .ok (.ireturn, 1) := by decide +kernel
theorem dd_LA_owner_15 : decode bb_LA_owner 15 = .ok (.iconst 0, 1) := by decide +kernel
theorem dd_LA_owner_16 : decode bb_LA_owner 16 = .ok (.ireturn, 1) := by decide +kernel
theorem dd_LA_value_0 : decode bb_LA_value 0 = .ok (.aload_n 2, 1) := by decide +kernel
theorem dd_LA_value_1 : decode bb_LA_value 1 = .ok (.iconst 0, 1) := by decide +kernel
theorem dd_LA_value_2 : decode bb_LA_value 2 = .ok (.aload_n 0, 1) := by decide +kernel
theorem dd_LA_value_3 : decode bb_LA_value 3 = .ok (.iload_n 1, 1) := by decide +kernel
theorem dd_LA_value_4 : decode bb_LA_value 4 = .ok (.invokevirtual 48, 3) := by decide +kernel
theorem dd_LA_value_7 : decode bb_LA_value 7 = .ok (.i2l, 1) := by decide +kernel
theorem dd_LA_value_8 : decode bb_LA_value 8 = .ok (.lastore, 1) := by decide +kernel
theorem dd_LA_value_9 : decode bb_LA_value 9 = .ok (.goto 6, 3) := by decide +kernel
theorem dd_LA_value_12 : decode bb_LA_value 12 = .ok (.astore_n 3, 1) := by decide +kernel
theorem dd_LA_value_13 : decode bb_LA_value 13 = .ok (.iconst 1, 1) := by decide +kernel
theorem dd_LA_value_14 : decode bb_LA_value 14 = .ok (.ireturn, 1) := by decide +kernel
theorem dd_LA_value_15 : decode bb_LA_value 15 = .ok (.iconst 0, 1) := by decide +kernel
theorem dd_LA_value_16 : decode bb_LA_value 16 = .ok (.ireturn, 1) := by decide +kernel
