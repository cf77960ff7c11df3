theorem dd_BF_init_0 : decode bb_BF_init 0 = .ok (.aload_n 0, 1) := by decide +kernel
theorem dd_BF_init_1 : decode bb_BF_init 1 = .ok (.invokespecial 3, 3) := by decide +kernel
theorem dd_BF_init_4 : decode bb_BF_init 4 = .ok (.aload_n 0, 1) := by decide +kernel
theorem dd_BF_init_5 : decode bb_BF_init 5 = .ok (.bipush 60, 2) := by decide +kernel
theorem dd_BF_init_7 : decode bb_BF_init 7 = .ok (.newarray .int, 2) := by decide +kernel
theorem dd_BF_init_9 : decode bb_BF_init 9 = .ok (.putfield 9, 3) := by decide +kernel
theorem dd_BF_init_12 : decode bb_BF_init 12 = .ok (.aload_n 0, 1) := by decide +kernel
theorem dd_BF_init_13 : decode bb_BF_init 13 = .ok (.bipush 60, 2) := by decide +kernel
theorem dd_BF_init_15 : decode bb_BF_init 15 = .ok (.newarray .boolean, 2) := by decide +kernel
theorem dd_BF_init_17 : decode bb_BF_init 17 = .ok (.putfield 15, 3) := by decide +kernel
theorem dd_BF_init_20 : decode bb_BF_init 20 = .ok (.aload_n 0, 1) := by decide +kernel
theorem dd_BF_init_21 : decode bb_BF_init 21 = .ok (.bipush 60, 2) := by decide +kernel
theorem dd_BF_init_23 : decode bb_BF_init 23 = .ok (.newarray .boolean, 2) := by decide +kernel
theorem dd_BF_init_25 : decode bb_BF_init 25 = .ok (.putfield 19, 3) := by decide +kernel
theorem dd_BF_init_28 : decode bb_BF_init 28 = .ok (.aload_n 0, 1) := by decide +kernel
theorem dd_BF_init_29 : decode bb_BF_init 29 = .ok (.bipush 60, 2) := by decide +kernel
theorem dd_BF_init_31 : decode bb_BF_init 31 = .ok (.newarray .int, 2) := by decide +kernel
theorem dd_BF_init_33 : decode bb_BF_init 33 = .ok (.putfield 22, 3) := by decide +kernel
theorem dd_BF_init_36 : decode bb_BF_init 36 = .ok (.aload_n 0, 1) := by decide +kernel
theorem dd_BF_init_37 : decode bb_BF_init 37 = .ok (.bipush 60, 2) := by decide +kernel
theorem dd_BF_init_39 : decode bb_BF_init 39 = .ok (.newarray .boolean, 2) := by decide +kernel
theorem dd_BF_init_41 : decode bb_BF_init 41 = .ok (.putfield 25, 3) := by decide +kernel
theorem dd_BF_init_44 : decode bb_BF_init 44 = .ok (.aload_n 0, 1) := by decide +kernel
theorem dd_BF_init_45 : decode bb_BF_init 45 = .ok (.iconst 0, 1) := by decide +kernel
theorem dd_BF_init_46 : decode bb_BF_init 46 = .ok (.putfield 28, 3) := by decide +kernel
theorem dd_BF_init_49 : decode bb_BF_init 49 = .ok (.aload_n 0, 1) := by decide +kernel
theorem dd_BF_init_50 : decode bb_BF_init 50 = .ok (.aload_n 1, 1) := by decide +kernel
theorem dd_BF_init_51 : decode bb_BF_init 51 = .ok (.putfield 32, 3) := by decide +kernel
theorem dd_BF_init_54 : decode bb_BF_init 54 = .ok (.aload_n 0, 1) := by decide +kernel
theorem dd_BF_init_55 : decode bb_BF_init 55 = .ok (.iload_n 2, 1) := by decide +kernel
theorem dd_BF_init_56 : decode bb_BF_init 56 = .ok (.putfield 36, 3) := by decide +kernel
theorem dd_BF_init_59 : decode bb_BF_init 59 = .ok (.aload_n 0, 1) := by decide +kernel
theorem dd_BF_init_60 : decode bb_BF_init 60 = .ok (.getfield 9, 3) := by decide +kernel
theorem dd_BF_init_63 : decode bb_BF_init 63 = .ok (.iconst (-1), 1) := by decide +kernel
theorem dd_BF_init_64 : decode bb_BF_init 64 = .ok (.invokestatic 39, 3) := by decide +kernel
theorem dd_BF_init_67 : decode bb_BF_init 67 = .ok (.return_, 1) := by decide +kernel
theorem dd_BF_size_0 : decode bb_BF_size 0 = .ok (.aload_n 0, 1) := by decide +kernel
theorem dd_BF_size_1 : decode bb_BF_size 1 = .ok (.getfield 28, 3) := by decide +kernel
theorem dd_BF_size_4 : decode bb_BF_size 4 = .ok (.ireturn, 1) := by decide +kernel
theorem dd_BF_setSize_0 : decode bb_BF_setSize 0 = .ok (.aload_n 0, 1) := by decide +kernel
theorem dd_BF_setSize_1 : decode bb_BF_setSize 1 = .ok (.iload_n 1, 1) := by decide +kernel
theorem dd_BF_setSize_2 : decode bb_BF_setSize 2 = .ok (.putfield 28, 3) := by decide +kernel
theorem dd_BF_setSize_5 : decode bb_BF_setSize 5 = .ok (.return_, 1) := by decide +kernel
theorem dd_BF_growTo_0 : decode bb_BF_growTo 0 = .ok (.aload_n 0, 1) := by decide +kernel
theorem dd_BF_growTo_1 : decode bb_BF_growTo 1 = .ok (.aload_n 0, 1) := by decide +kernel
theorem dd_BF_growTo_2 : decode bb_BF_growTo 2 = .ok (.getfield 28, 3) := by decide +kernel
theorem dd_BF_growTo_5 : decode bb_BF_growTo 5 = .ok (.iload_n 1, 1) := by decide +kernel
theorem dd_BF_growTo_6 : decode bb_BF_growTo 6 = .ok (.invokestatic 45, 3) := by decide +kernel
theorem dd_BF_growTo_9 : decode bb_BF_growTo 9 = .ok (.putfield 28, 3) := by decide +kernel
theorem dd_BF_growTo_12 : decode bb_BF_growTo 12 = .ok (.return_, 1) := by decide +kernel
theorem dd_BF_placeOf_0 : decode bb_BF_placeOf 0 = .ok (.aload_n 0, 1) := by decide +kernel
theorem dd_BF_placeOf_1 : decode bb_BF_placeOf 1 = .ok (.getfield 9, 3) := by decide +kernel
theorem dd_BF_placeOf_4 : decode bb_BF_placeOf 4 = .ok (.iload_n 1, 1) := by decide +kernel
theorem dd_BF_placeOf_5 : decode bb_BF_placeOf 5 = .ok (.iaload, 1) := by decide +kernel
theorem dd_BF_placeOf_6 : decode bb_BF_placeOf 6 = .ok (.ireturn, 1) := by decide +kernel
theorem dd_BF_isWritten_0 : decode bb_BF_isWritten 0 = .ok (.aload_n 0, 1) := by decide +kernel
theorem dd_BF_isWritten_1 : decode bb_BF_isWritten 1 = .ok (.getfield 15, 3) := by decide +kernel
theorem dd_BF_isWritten_4 : decode bb_BF_isWritten 4 = .ok (.iload_n 1, 1) := by decide +kernel
theorem dd_BF_isWritten_5 : decode bb_BF_isWritten 5 = .ok (.baload, 1) := by decide +kernel
theorem dd_BF_isWritten_6 : decode bb_BF_isWritten 6 = .ok (.ireturn, 1) := by decide +kernel
theorem dd_BF_isHole_0 : decode bb_BF_isHole 0 = .ok (.aload_n 0, 1) := by decide +kernel
theorem dd_BF_isHole_1 : decode bb_BF_isHole 1 = .ok (.getfield 9, 3) := by decide +kernel
theorem dd_BF_isHole_4 : decode bb_BF_isHole 4 = .ok (.iload_n 1, 1) := by decide +kernel
theorem dd_BF_isHole_5 : decode bb_BF_isHole 5 = .ok (.iaload, 1) := by decide +kernel
theorem dd_BF_isHole_6 : decode bb_BF_isHole 6 = .ok (.iconst (-1), 1) := by decide +kernel
theorem dd_BF_isHole_7 : decode bb_BF_isHole 7 = .ok (.if_icmp .ne 7, 3) := by decide +kernel
theorem dd_BF_isHole_10 : decode bb_BF_isHole 10 = .ok (.iconst 1, 1) := by decide +kernel
theorem dd_BF_isHole_11 : decode bb_BF_isHole 11 = .ok (.goto 4, 3) := by decide +kernel
theorem dd_BF_isHole_14 : decode bb_BF_isHole 14 = .ok (.iconst 0, 1) := by decide +kernel
theorem dd_BF_isHole_15 : decode bb_BF_isHole 15 = .ok (.ireturn, 1) := by decide +kernel
theorem dd_BF_hasPage_0 : decode bb_BF_hasPage 0 = .ok (.aload_n 0, 1) := by decide +kernel
theorem dd_BF_hasPage_1 : decode bb_BF_hasPage 1 = .ok (.getfield 19, 3) := by decide +kernel
theorem dd_BF_hasPage_4 : decode bb_BF_hasPage 4 = .ok (.iload_n 1, 1) := by decide +kernel
theorem dd_BF_hasPage_5 : decode bb_BF_hasPage 5 = .ok (.baload, 1) := by decide +kernel
theorem dd_BF_hasPage_6 : decode bb_BF_hasPage 6 = .ok (.ireturn, 1) := by decide +kernel
theorem dd_BF_putPage_0 : decode bb_BF_putPage 0 = .ok (.aload_n 0, 1) := by decide +kernel
theorem dd_BF_putPage_1 : decode bb_BF_putPage 1 = .ok (.getfield 19, 3) := by decide +kernel
theorem dd_BF_putPage_4 : decode bb_BF_putPage 4 = .ok (.iload_n 1, 1) := by decide +kernel
theorem dd_BF_putPage_5 : decode bb_BF_putPage 5 = .ok (.iconst 1, 1) := by decide +kernel
theorem dd_BF_putPage_6 : decode bb_BF_putPage 6 = .ok (.bastore, 1) := by decide +kernel
theorem dd_BF_putPage_7 : decode bb_BF_putPage 7 = .ok (.aload_n 0, 1) := by decide +kernel
theorem dd_BF_putPage_8 : decode bb_BF_putPage 8 = .ok (.getfield 22, 3) := by decide +kernel
theorem dd_BF_putPage_11 : decode bb_BF_putPage 11 = .ok (.iload_n 1, 1) := by decide +kernel
theorem dd_BF_putPage_12 : decode bb_BF_putPage 12 = .ok (.iload_n 2, 1) := by decide +kernel
theorem dd_BF_putPage_13 : decode bb_BF_putPage 13 = .ok (.iastore, 1) := by decide +kernel
theorem dd_BF_putPage_14 : decode bb_BF_putPage 14 = .ok (.return_, 1) := by decide +kernel
theorem dd_BF_dropPage_0 : decode bb_BF_dropPage 0 = .ok (.aload_n 0, 1) := by decide +kernel
theorem dd_BF_dropPage_1 : decode bb_BF_dropPage 1 = .ok (.getfield 19, 3) := by decide +kernel
theorem dd_BF_dropPage_4 : decode bb_BF_dropPage 4 = .ok (.iload_n 1, 1) := by decide +kernel
theorem dd_BF_dropPage_5 : decode bb_BF_dropPage 5 = .ok (.iconst 0, 1) := by decide +kernel
theorem dd_BF_dropPage_6 : decode bb_BF_dropPage 6 = .ok (.bastore, 1) := by decide +kernel
theorem dd_BF_dropPage_7 : decode bb_BF_dropPage 7 = .ok (.return_, 1) := by decide +kernel
theorem dd_BF_dropPages_0 : decode bb_BF_dropPages 0 = .ok (.iconst 0, 1) := by decide +kernel
theorem dd_BF_dropPages_1 : decode bb_BF_dropPages 1 = .ok (.istore_n 1, 1) := by decide +kernel
theorem dd_BF_dropPages_2 : decode bb_BF_dropPages 2 = .ok (.iload_n 1, 1) := by decide +kernel
theorem dd_BF_dropPages_3 : decode bb_BF_dropPages 3 = .ok (.bipush 60, 2) := by decide +kernel
theorem dd_BF_dropPages_5 : decode bb_BF_dropPages 5 = .ok (.if_icmp .ge 14, 3) := by decide +kernel
theorem dd_BF_dropPages_8 : decode bb_BF_dropPages 8 = .ok (.aload_n 0, 1) := by decide +kernel
theorem dd_BF_dropPages_9 : decode bb_BF_dropPages 9 = .ok (.iload_n 1, 1) := by decide +kernel
theorem dd_BF_dropPages_10 : decode bb_BF_dropPages 10 = .ok (.invokevirtual 51, 3) := by decide +kernel
theorem dd_BF_dropPages_13 : decode bb_BF_dropPages 13 = .ok (.iinc 1 1, 3) := by decide +kernel
theorem dd_BF_dropPages_16 : decode bb_BF_dropPages 16 = .ok (.goto (-14), 3) := by decide +kernel
theorem dd_BF_dropPages_19 : decode bb_BF_dropPages 19 = .ok (.return_, 1) := by decide +kernel
theorem dd_BF_readsAs_0 : decode bb_BF_readsAs 0 = .ok (.aload_n 0, 1) := by decide +kernel
theorem dd_BF_readsAs_1 : decode bb_BF_readsAs 1 = .ok (.getfield 19, 3) := by decide +kernel
theorem dd_BF_readsAs_4 : decode bb_BF_readsAs 4 = .ok (.iload_n 1, 1) := by decide +kernel
theorem dd_BF_readsAs_5 : decode bb_BF_readsAs 5 = .ok (.baload, 1) := by decide +kernel
theorem dd_BF_readsAs_6 : decode bb_BF_readsAs 6 = .ok (.ifCond .eq 10, 3) := by decide +kernel
theorem dd_BF_readsAs_9 : decode bb_BF_readsAs 9 = .ok (.aload_n 0, 1) := by decide +kernel
theorem dd_BF_readsAs_10 : decode bb_BF_readsAs 10 = .ok (.getfield 22, 3) := by decide +kernel
theorem dd_BF_readsAs_13 : decode bb_BF_readsAs 13 = .ok (.iload_n 1, 1) := by decide +kernel
theorem dd_BF_readsAs_14 : decode bb_BF_readsAs 14 = .ok (.iaload, 1) := by decide +kernel
theorem dd_BF_readsAs_15 : decode bb_BF_readsAs 15 = .ok (.ireturn, 1) := by decide +kernel
theorem dd_BF_readsAs_16 : decode bb_BF_readsAs 16 = .ok (.aload_n 0, 1) := by decide +kernel
theorem dd_BF_readsAs_17 : decode bb_BF_readsAs 17 = .ok (.iload_n 1, 1) := by decide +kernel
theorem dd_BF_readsAs_18 : decode bb_BF_readsAs 18 = .ok (.invokevirtual 55, 3) := by decide +kernel
theorem dd_BF_readsAs_21 : decode bb_BF_readsAs 21 = .ok (.ifCond .ne 12, 3) := by decide +kernel
theorem dd_BF_readsAs_24 : decode bb_BF_readsAs 24 = .ok (.aload_n 0, 1) := by decide +kernel
theorem dd_BF_readsAs_25 : decode bb_BF_readsAs 25 = .ok (.getfield 15, 3) := by decide +kernel
theorem dd_BF_readsAs_28 : decode bb_BF_readsAs 28 = .ok (.iload_n 1, 1) := by decide +kernel
theorem dd_BF_readsAs_29 : decode bb_BF_readsAs 29 = .ok (.baload, 1) := by decide +kernel
theorem dd_BF_readsAs_30 : decode bb_BF_readsAs 30 = .ok (.ifCond .ne 5, 3) := by decide +kernel
theorem dd_BF_readsAs_33 : decode bb_BF_readsAs 33 = .ok (.iconst 0, 1) := by decide +kernel
theorem dd_BF_readsAs_34 : decode bb_BF_readsAs 34 = .ok (.ireturn, 1) := by decide +kernel
theorem dd_BF_readsAs_35 : decode bb_BF_readsAs 35 = .ok (.aload_n 0, 1) := by decide +kernel
theorem dd_BF_readsAs_36 : decode bb_BF_readsAs 36 = .ok (.getfield 32, 3) := by decide +kernel
theorem dd_BF_readsAs_39 : decode bb_BF_readsAs 39 = .ok (.aload_n 0, 1) := by decide +kernel
theorem dd_BF_readsAs_40 : decode bb_BF_readsAs 40 = .ok (.getfield 9, 3) := by decide +kernel
theorem dd_BF_readsAs_43 : decode bb_BF_readsAs 43 = .ok (.iload_n 1, 1) := by decide +kernel
theorem dd_BF_readsAs_44 : decode bb_BF_readsAs 44 = .ok (.iaload, 1) := by decide +kernel
theorem dd_BF_readsAs_45 : decode bb_BF_readsAs 45 = .ok (.invokevirtual 59, 3) := by decide +kernel
theorem dd_BF_readsAs_48 : decode bb_BF_readsAs 48 = .ok (.ireturn, 1) := by decide +kernel
theorem dd_BF_countPages_0 : decode bb_BF_countPages 0 = .ok (.iconst 0, 1) := by decide +kernel
theorem dd_BF_countPages_1 : decode bb_BF_countPages 1 = .ok (.istore_n 1, 1) := by decide +kernel
theorem dd_BF_countPages_2 : decode bb_BF_countPages 2 = .ok (.iconst 0, 1) := by decide +kernel
theorem dd_BF_countPages_3 : decode bb_BF_countPages 3 = .ok (.istore_n 2, 1) := by decide +kernel
theorem dd_BF_countPages_4 : decode bb_BF_countPages 4 = .ok (.iload_n 2, 1) := by decide +kernel
theorem dd_BF_countPages_5 : decode bb_BF_countPages 5 = .ok (.bipush 60, 2) := by decide +kernel
theorem dd_BF_countPages_7 : decode bb_BF_countPages 7 = .ok (.if_icmp .ge 21, 3) := by decide +kernel
theorem dd_BF_countPages_10 : decode bb_BF_countPages 10 = .ok (.aload_n 0, 1) := by decide +kernel
theorem dd_BF_countPages_11 : decode bb_BF_countPages 11 = .ok (.getfield 19, 3) := by decide +kernel
theorem dd_BF_countPages_14 : decode bb_BF_countPages 14 = .ok (.iload_n 2, 1) := by decide +kernel
theorem dd_BF_countPages_15 : decode bb_BF_countPages 15 = .ok (.baload, 1) := by decide +kernel
theorem dd_BF_countPages_16 : decode bb_BF_countPages 16 = .ok (.ifCond .eq 6, 3) := by decide +kernel
theorem dd_BF_countPages_19 : decode bb_BF_countPages 19 = .ok (.iinc 1 1, 3) := by decide +kernel
theorem dd_BF_countPages_22 : decode bb_BF_countPages 22 = .ok (.iinc 2 1, 3) := by decide +kernel
theorem dd_BF_countPages_25 : decode bb_BF_countPages 25 = .ok (.goto (-21), 3) := by decide +kernel
theorem dd_BF_countPages_28 : decode bb_BF_countPages 28 = .ok (.iload_n 1, 1) := by decide +kernel
theorem dd_BF_countPages_29 : decode bb_BF_countPages 29 = .ok (.ireturn, 1) := by decide +kernel
theorem dd_BF_countMapped_0 : decode bb_BF_countMapped 0 = .ok (.bipush 60, 2) := by decide +kernel
theorem dd_BF_countMapped_2 : decode bb_BF_countMapped 2 = .ok (.aload_n 0, 1) := by decide +kernel
theorem dd_BF_countMapped_3 : decode bb_BF_countMapped 3 = .ok (.iconst 0, 1) := by decide +kernel
theorem dd_BF_countMapped_4 : decode bb_BF_countMapped 4 = .ok (.bipush 60, 2) := by decide +kernel
theorem dd_BF_countMapped_6 : decode bb_BF_countMapped 6 = .ok (.invokevirtual 65, 3) := by decide +kernel
theorem dd_BF_countMapped_9 : decode bb_BF_countMapped 9 = .ok (.isub, 1) := by decide +kernel
theorem dd_BF_countMapped_10 : decode bb_BF_countMapped 10 = .ok (.ireturn, 1) := by decide +kernel
theorem dd_BF_countHoles_0 : decode bb_BF_countHoles 0 = .ok (.iconst 0, 1) := by decide +kernel
theorem dd_BF_countHoles_1 : decode bb_BF_countHoles 1 = .ok (.istore_n 3, 1) := by decide +kernel
theorem dd_BF_countHoles_2 : decode bb_BF_countHoles 2 = .ok (.iload_n 1, 1) := by decide +kernel
theorem dd_BF_countHoles_3 : decode bb_BF_countHoles 3 = .ok (.istore 4, 2) := by decide +kernel
theorem dd_BF_countHoles_5 : decode bb_BF_countHoles 5 = .ok (.iload 4, 2) := by decide +kernel
theorem dd_BF_countHoles_7 : decode bb_BF_countHoles 7 = .ok (.iload_n 2, 1) := by decide +kernel
theorem dd_BF_countHoles_8 : decode bb_BF_countHoles 8 = .ok (.if_icmp .ge 21, 3) := by decide +kernel
theorem dd_BF_countHoles_11 : decode bb_BF_countHoles 11 = .ok (.aload_n 0, 1) := by decide +kernel
theorem dd_BF_countHoles_12 : decode bb_BF_countHoles 12 = .ok (.iload 4, 2) := by decide +kernel
theorem dd_BF_countHoles_14 : decode bb_BF_countHoles 14 = .ok (.invokevirtual 55, 3) := by decide +kernel
theorem dd_BF_countHoles_17 : decode bb_BF_countHoles 17 = .ok (.ifCond .eq 6, 3) := by decide +kernel
theorem dd_BF_countHoles_20 : decode bb_BF_countHoles 20 = .ok (.iinc 3 1, 3) := by decide +kernel
theorem dd_BF_countHoles_23 : decode bb_BF_countHoles 23 = .ok (.iinc 4 1, 3) := by decide +kernel
theorem dd_BF_countHoles_26 : decode bb_BF_countHoles 26 = .ok (.goto (-21), 3) := by decide +kernel
theorem dd_BF_countHoles_29 : decode bb_BF_countHoles 29 = .ok (.iload_n 3, 1) := by decide +kernel
theorem dd_BF_countHoles_30 : decode bb_BF_countHoles 30 = .ok (.ireturn, 1) := by decide +kernel
theorem dd_BF_countReserved_0 : decode bb_BF_countReserved 0 = .ok (.iconst 0, 1) := by decide +kernel
theorem dd_BF_countReserved_1 : decode bb_BF_countReserved 1 = .ok (.istore_n 1, 1) := by decide +kernel
theorem dd_BF_countReserved_2 : decode bb_BF_countReserved 2 = .ok (.iconst 0, 1) := by decide +kernel
theorem dd_BF_countReserved_3 : decode bb_BF_countReserved 3 = .ok (.istore_n 2, 1) := by decide +kernel
theorem dd_BF_countReserved_4 : decode bb_BF_countReserved 4 = .ok (.iconst 0, 1) := by decide +kernel
theorem dd_BF_countReserved_5 : decode bb_BF_countReserved 5 = .ok (.istore_n 3, 1) := by decide +kernel
theorem dd_BF_countReserved_6 : decode bb_BF_countReserved 6 = .ok (.iload_n 3, 1) := by decide +kernel
theorem dd_BF_countReserved_7 : decode bb_BF_countReserved 7 = .ok (.bipush 60, 2) := by decide +kernel
theorem dd_BF_countReserved_9 : decode bb_BF_countReserved 9 = .ok (.if_icmp .ge 53, 3) := by decide +kernel
theorem dd_BF_countReserved_12 : decode bb_BF_countReserved 12 = .ok (.aload_n 0, 1) := by decide +kernel
theorem dd_BF_countReserved_13 : decode bb_BF_countReserved 13 = .ok (.getfield 19, 3) := by decide +kernel
theorem dd_BF_countReserved_16 : decode bb_BF_countReserved 16 = .ok (.iload_n 3, 1) := by decide +kernel
theorem dd_BF_countReserved_17 : decode bb_BF_countReserved 17 = .ok (.baload, 1) := by decide +kernel
theorem dd_BF_countReserved_18 : decode bb_BF_countReserved 18 = .ok (.ifCond .eq 17, 3) := by decide +kernel
theorem dd_BF_countReserved_21 : decode bb_BF_countReserved 21 = .ok (.aload_n 0, 1) := by decide +kernel
theorem dd_BF_countReserved_22 : decode bb_BF_countReserved 22 = .ok (.iload_n 3, 1) := by decide +kernel
theorem dd_BF_countReserved_23 : decode bb_BF_countReserved 23 = .ok (.invokevirtual 55, 3) := by decide +kernel
theorem dd_BF_countReserved_26 : decode bb_BF_countReserved 26 = .ok (.ifCond .eq 9, 3) := by decide +kernel
theorem dd_BF_countReserved_29 : decode bb_BF_countReserved 29 = .ok (.iinc 1 1, 3) := by decide +kernel
theorem dd_BF_countReserved_32 : decode bb_BF_countReserved 32 = .ok (.goto 24, 3) := by decide +kernel
theorem dd_BF_countReserved_35 : decode bb_BF_countReserved 35 = .ok (.aload_n 0, 1) := by decide +kernel
theorem dd_BF_countReserved_36 : decode bb_BF_countReserved 36 = .ok (.getfield 19, 3) := by decide +kernel
theorem dd_BF_countReserved_39 : decode bb_BF_countReserved 39 = .ok (.iload_n 3, 1) := by decide +kernel
theorem dd_BF_countReserved_40 : decode bb_BF_countReserved 40 = .ok (.baload, 1) := by decide +kernel
theorem dd_BF_countReserved_41 : decode bb_BF_countReserved 41 = .ok (.ifCond .eq 15, 3) := by decide +kernel
theorem dd_BF_countReserved_44 : decode bb_BF_countReserved 44 = .ok (.aload_n 0, 1) := by decide +kernel
theorem dd_BF_countReserved_45 : decode bb_BF_countReserved 45 = .ok (.getfield 15, 3) := by decide +kernel
theorem dd_BF_countReserved_48 : decode bb_BF_countReserved 48 = .ok (.iload_n 3, 1) := by decide +kernel
theorem dd_BF_countReserved_49 : decode bb_BF_countReserved 49 = .ok (.baload, 1) := by decide +kernel
theorem dd_BF_countReserved_50 : decode bb_BF_countReserved 50 = .ok (.ifCond .ne 6, 3) := by decide +kernel
theorem dd_BF_countReserved_53 : decode bb_BF_countReserved 53 = .ok (.iinc 2 1, 3) := by decide +kernel
theorem dd_BF_countReserved_56 : decode bb_BF_countReserved 56 = .ok (.iinc 3 1, 3) := by decide +kernel
theorem dd_BF_countReserved_59 : decode bb_BF_countReserved 59 = .ok (.goto (-53), 3) := by decide +kernel
theorem dd_BF_countReserved_62 : decode bb_BF_countReserved 62 = .ok (.aload_n 0, 1) := by decide +kernel
theorem dd_BF_countReserved_63 : decode bb_BF_countReserved 63 = .ok (.invokevirtual 68, 3) := by decide +kernel
theorem dd_BF_countReserved_66 : decode bb_BF_countReserved 66 = .ok (.istore_n 3, 1) := by decide +kernel
theorem dd_BF_countReserved_67 : decode bb_BF_countReserved 67 = .ok (.iload_n 3, 1) := by decide +kernel
theorem dd_BF_countReserved_68 : decode bb_BF_countReserved 68 = .ok (.iload_n 1, 1) := by decide +kernel
theorem dd_BF_countReserved_69 : decode bb_BF_countReserved 69 = .ok (.iadd, 1) := by decide +kernel
theorem dd_BF_countReserved_70 : decode bb_BF_countReserved 70 = .ok (.iconst 2, 1) := by decide +kernel
theorem dd_BF_countReserved_71 : decode bb_BF_countReserved 71 = .ok (.iload_n 2, 1) := by decide +kernel
theorem dd_BF_countReserved_72 : decode bb_BF_countReserved 72 = .ok (.imul, 1) := by decide +kernel
theorem dd_BF_countReserved_73 : decode bb_BF_countReserved 73 = .ok (.iadd, 1) := by decide +kernel
theorem dd_BF_countReserved_74 : decode bb_BF_countReserved 74 = .ok (.istore 4, 2) := by decide +kernel
theorem dd_BF_countReserved_76 : decode bb_BF_countReserved 76 = .ok (.iload_n 1, 1) := by decide +kernel
theorem dd_BF_countReserved_77 : decode bb_BF_countReserved 77 = .ok (.iload 4, 2) := by decide +kernel
theorem dd_BF_countReserved_79 : decode bb_BF_countReserved 79 = .ok (.invokestatic 72, 3) := by decide +kernel
theorem dd_BF_countReserved_82 : decode bb_BF_countReserved 82 = .ok (.iadd, 1) := by decide +kernel
theorem dd_BF_countReserved_83 : decode bb_BF_countReserved 83 = .ok (.iload_n 3, 1) := by decide +kernel
theorem dd_BF_countReserved_84 : decode bb_BF_countReserved 84 = .ok (.invokestatic 72, 3) := by decide +kernel
theorem dd_BF_countReserved_87 : decode bb_BF_countReserved 87 = .ok (.isub, 1) := by decide +kernel
theorem dd_BF_countReserved_88 : decode bb_BF_countReserved 88 = .ok (.ireturn, 1) := by decide +kernel
theorem dd_BF_countExtents_0 : decode bb_BF_countExtents 0 = .ok (.iconst 0, 1) := by decide +kernel
theorem dd_BF_countExtents_1 : decode bb_BF_countExtents 1 = .ok (.istore_n 1, 1) := by decide +kernel
theorem dd_BF_countExtents_2 : decode bb_BF_countExtents 2 = .ok (.iconst 0, 1) := by decide +kernel
theorem dd_BF_countExtents_3 : decode bb_BF_countExtents 3 = .ok (.istore_n 2, 1) := by decide +kernel
theorem dd_BF_countExtents_4 : decode bb_BF_countExtents 4 = .ok (.iload_n 2, 1) := by decide +kernel
theorem dd_BF_countExtents_5 : decode bb_BF_countExtents 5 = .ok (.bipush 60, 2) := by decide +kernel
theorem dd_BF_countExtents_7 : decode bb_BF_countExtents 7 = .ok (.if_icmp .ge 27, 3) := by decide +kernel
theorem dd_BF_countExtents_10 : decode bb_BF_countExtents 10 = .ok (.aload_n 0, 1) := by decide +kernel
theorem dd_BF_countExtents_11 : decode bb_BF_countExtents 11 = .ok (.iload_n 2, 1) := by decide +kernel
theorem dd_BF_countExtents_12 : decode bb_BF_countExtents 12 = .ok (.invokevirtual 75, 3) := by decide +kernel
theorem dd_BF_countExtents_15 : decode bb_BF_countExtents 15 = .ok (.istore_n 3, 1) := by decide +kernel
theorem dd_BF_countExtents_16 : decode bb_BF_countExtents 16 = .ok (.iload_n 3, 1) := by decide +kernel
theorem dd_BF_countExtents_17 : decode bb_BF_countExtents 17 = .ok (.ifCond .le 6, 3) := by decide +kernel
theorem dd_BF_countExtents_20 : decode bb_BF_countExtents 20 = .ok (.iinc 1 1, 3) := by decide +kernel
theorem dd_BF_countExtents_23 : decode bb_BF_countExtents 23 = .ok (.iload_n 2, 1) := by decide +kernel
theorem dd_BF_countExtents_24 : decode bb_BF_countExtents 24 = .ok (.iload_n 3, 1) := by decide +kernel
theorem dd_BF_countExtents_25 : decode bb_BF_countExtents 25 = .ok (.iconst 1, 1) := by decide +kernel
theorem dd_BF_countExtents_26 : decode bb_BF_countExtents 26 = .ok (.invokestatic 45, 3) := by decide +kernel
theorem dd_BF_countExtents_29 : decode bb_BF_countExtents 29 = .ok (.iadd, 1) := by decide +kernel
theorem dd_BF_countExtents_30 : decode bb_BF_countExtents 30 = .ok (.istore_n 2, 1) := by decide +kernel
theorem dd_BF_countExtents_31 : decode bb_BF_countExtents 31 = .ok (.goto (-27), 3) := by decide +kernel
theorem dd_BF_countExtents_34 : decode bb_BF_countExtents 34 = .ok (.iload_n 1, 1) := by decide +kernel
theorem dd_BF_countExtents_35 : decode bb_BF_countExtents 35 = .ok (.ireturn, 1) := by decide +kernel
theorem dd_BF_firstBlockOfExtent_0 : decode bb_BF_firstBlockOfExtent 0 = .ok (.iconst 0, 1) := by decide +kernel
theorem dd_BF_firstBlockOfExtent_1 : decode bb_BF_firstBlockOfExtent 1 = .ok (.istore_n 2, 1) := by decide +kernel
theorem dd_BF_firstBlockOfExtent_2 : decode bb_BF_firstBlockOfExtent 2 = .ok (.iconst 0, 1) := by decide +kernel
theorem dd_BF_firstBlockOfExtent_3 : decode bb_BF_firstBlockOfExtent 3 = .ok (.istore_n 3, 1) := by decide +kernel
theorem dd_BF_firstBlockOfExtent_4 : decode bb_BF_firstBlockOfExtent 4 = .ok (.iload_n 3, 1) := by decide +kernel
theorem dd_BF_firstBlockOfExtent_5 : decode bb_BF_firstBlockOfExtent 5 = .ok (.bipush 60, 2) := by decide +kernel
theorem dd_BF_firstBlockOfExtent_7 : decode bb_BF_firstBlockOfExtent 7 = .ok (.if_icmp .ge 37, 3) := by decide +kernel
theorem dd_BF_firstBlockOfExtent_10 : decode bb_BF_firstBlockOfExtent 10 = .ok (.aload_n 0, 1) := by decide +kernel
theorem dd_BF_firstBlockOfExtent_11 : decode bb_BF_firstBlockOfExtent 11 = .ok (.iload_n 3, 1) := by decide +kernel
theorem dd_BF_firstBlockOfExtent_12 : decode bb_BF_firstBlockOfExtent 12 = .ok (.invokevirtual 75, 3) := by decide +kernel
theorem dd_BF_firstBlockOfExtent_15 : decode bb_BF_firstBlockOfExtent 15 = .ok (.istore 4, 2) := by decide +kernel
theorem dd_BF_firstBlockOfExtent_17 : decode bb_BF_firstBlockOfExtent 17 = .ok (.iload 4, 2) := by decide +kernel
theorem dd_BF_firstBlockOfExtent_19 : decode bb_BF_firstBlockOfExtent 19 = .ok (.ifCond .le 13, 3) := by decide +kernel
theorem dd_BF_firstBlockOfExtent_22 : decode bb_BF_firstBlockOfExtent 22 = .ok (.iload_n 2, 1) := by decide +kernel
theorem dd_BF_firstBlockOfExtent_23 : decode bb_BF_firstBlockOfExtent 23 = .ok (.iload_n 1, 1) := by decide +kernel
theorem dd_BF_firstBlockOfExtent_24 : decode bb_BF_firstBlockOfExtent 24 = .ok (.if_icmp .ne 5, 3) := by decide +kernel
theorem dd_BF_firstBlockOfExtent_27 : decode bb_BF_firstBlockOfExtent 27 = .ok (.iload_n 3, 1) := by decide +kernel
theorem dd_BF_firstBlockOfExtent_28 : decode bb_BF_firstBlockOfExtent 28 = .ok (.ireturn, 1) := by decide +kernel
theorem dd_BF_firstBlockOfExtent_29 : decode bb_BF_firstBlockOfExtent 29 = .ok (.iinc 2 1, 3) := by decide +kernel
theorem dd_BF_firstBlockOfExtent_32 : decode bb_BF_firstBlockOfExtent 32 = .ok (.iload_n 3, 1) := by decide +kernel
theorem dd_BF_firstBlockOfExtent_33 : decode bb_BF_firstBlockOfExtent 33 = .ok (.iload 4, 2) := by decide +kernel
theorem dd_BF_firstBlockOfExtent_35 : decode bb_BF_firstBlockOfExtent 35 = .ok (.iconst 1, 1) := by decide +kernel
theorem dd_BF_firstBlockOfExtent_36 : decode bb_BF_firstBlockOfExtent 36 = .ok (.invokestatic 45, 3) := by decide +kernel
theorem dd_BF_firstBlockOfExtent_39 : decode bb_BF_firstBlockOfExtent 39 = .ok (.iadd, 1) := by decide +kernel
theorem dd_BF_firstBlockOfExtent_40 : decode bb_BF_firstBlockOfExtent 40 = .ok (.istore_n 3, 1) := by decide +kernel
theorem dd_BF_firstBlockOfExtent_41 : decode bb_BF_firstBlockOfExtent 41 = .ok (.goto (-37), 3) := by decide +kernel
theorem dd_BF_firstBlockOfExtent_44 : decode bb_BF_firstBlockOfExtent 44 = .ok (.iconst (-1), 1) := by decide +kernel
theorem dd_BF_firstBlockOfExtent_45 : decode bb_BF_firstBlockOfExtent 45 = .ok (.ireturn, 1) := by decide +kernel
theorem dd_BF_extentLength_0 : decode bb_BF_extentLength 0 = .ok (.aload_n 0, 1) := by decide +kernel
theorem dd_BF_extentLength_1 : decode bb_BF_extentLength 1 = .ok (.iload_n 1, 1) := by decide +kernel
theorem dd_BF_extentLength_2 : decode bb_BF_extentLength 2 = .ok (.invokevirtual 55, 3) := by decide +kernel
theorem dd_BF_extentLength_5 : decode bb_BF_extentLength 5 = .ok (.ifCond .eq 5, 3) := by decide +kernel
theorem dd_BF_extentLength_8 : decode bb_BF_extentLength 8 = .ok (.iconst 0, 1) := by decide +kernel
theorem dd_BF_extentLength_9 : decode bb_BF_extentLength 9 = .ok (.ireturn, 1) := by decide +kernel
theorem dd_BF_extentLength_10 : decode bb_BF_extentLength 10 = .ok (.iload_n 1, 1) := by decide +kernel
theorem dd_BF_extentLength_11 : decode bb_BF_extentLength 11 = .ok (.bipush 8, 2) := by decide +kernel
theorem dd_BF_extentLength_13 : decode bb_BF_extentLength 13 = .ok (.iadd, 1) := by decide +kernel
theorem dd_BF_extentLength_14 : decode bb_BF_extentLength 14 = .ok (.bipush 60, 2) := by decide +kernel
theorem dd_BF_extentLength_16 : decode bb_BF_extentLength 16 = .ok (.invokestatic 78, 3) := by decide +kernel
theorem dd_BF_extentLength_19 : decode bb_BF_extentLength 19 = .ok (.istore_n 2, 1) := by decide +kernel
theorem dd_BF_extentLength_20 : decode bb_BF_extentLength 20 = .ok (.iload_n 1, 1) := by decide +kernel
theorem dd_BF_extentLength_21 : decode bb_BF_extentLength 21 = .ok (.iconst 1, 1) := by decide +kernel
theorem dd_BF_extentLength_22 : decode bb_BF_extentLength 22 = .ok (.iadd, 1) := by decide +kernel
theorem dd_BF_extentLength_23 : decode bb_BF_extentLength 23 = .ok (.istore_n 3, 1) := by decide +kernel
theorem dd_BF_extentLength_24 : decode bb_BF_extentLength 24 = .ok (.iload_n 3, 1) := by decide +kernel
theorem dd_BF_extentLength_25 : decode bb_BF_extentLength 25 = .ok (.iload_n 2, 1) := by decide +kernel
theorem dd_BF_extentLength_26 : decode bb_BF_extentLength 26 = .ok (.if_icmp .ge 17, 3) := by decide +kernel
theorem dd_BF_extentLength_29 : decode bb_BF_extentLength 29 = .ok (.aload_n 0, 1) := by decide +kernel
theorem dd_BF_extentLength_30 : decode bb_BF_extentLength 30 = .ok (.iload_n 3, 1) := by decide +kernel
theorem dd_BF_extentLength_31 : decode bb_BF_extentLength 31 = .ok (.invokevirtual 81, 3) := by decide +kernel
theorem dd_BF_extentLength_34 : decode bb_BF_extentLength 34 = .ok (.ifCond .eq 9, 3) := by decide +kernel
theorem dd_BF_extentLength_37 : decode bb_BF_extentLength 37 = .ok (.iinc 3 1, 3) := by decide +kernel
theorem dd_BF_extentLength_40 : decode bb_BF_extentLength 40 = .ok (.goto (-16), 3) := by decide +kernel
theorem dd_BF_extentLength_43 : decode bb_BF_extentLength 43 = .ok (.iload_n 3, 1) := by decide +kernel
theorem dd_BF_extentLength_44 : decode bb_BF_extentLength 44 = .ok (.iload_n 1, 1) := by decide +kernel
theorem dd_BF_extentLength_45 : decode bb_BF_extentLength 45 = .ok (.isub, 1) := by decide +kernel
theorem dd_BF_extentLength_46 : decode bb_BF_extentLength 46 = .ok (.ireturn, 1) := by decide +kernel
theorem dd_BF_continuesRow_0 : decode bb_BF_continuesRow 0 = .ok (.aload_n 0, 1) := by decide +kernel
theorem dd_BF_continuesRow_1 : decode bb_BF_continuesRow 1 = .ok (.getfield 9, 3) := by decide +kernel
theorem dd_BF_continuesRow_4 : decode bb_BF_continuesRow 4 = .ok (.iload_n 1, 1) := by decide +kernel
theorem dd_BF_continuesRow_5 : decode bb_BF_continuesRow 5 = .ok (.iaload, 1) := by decide +kernel
theorem dd_BF_continuesRow_6 : decode bb_BF_continuesRow 6 = .ok (.aload_n 0, 1) := by decide +kernel
theorem dd_BF_continuesRow_7 : decode bb_BF_continuesRow 7 = .ok (.getfield 9, 3) := by decide +kernel
theorem dd_BF_continuesRow_10 : decode bb_BF_continuesRow 10 = .ok (.iload_n 1, 1) := by decide +kernel
theorem dd_BF_continuesRow_11 : decode bb_BF_continuesRow 11 = .ok (.iconst 1, 1) := by decide +kernel
theorem dd_BF_continuesRow_12 : decode bb_BF_continuesRow 12 = .ok (.isub, 1) := by decide +kernel
theorem dd_BF_continuesRow_13 : decode bb_BF_continuesRow 13 = .ok (.iaload, 1) := by decide +kernel
theorem dd_BF_continuesRow_14 : decode bb_BF_continuesRow 14 = .ok (.iconst 1, 1) := by decide +kernel
theorem dd_BF_continuesRow_15 : decode bb_BF_continuesRow 15 = .ok (.iadd, 1) := by decide +kernel
theorem dd_BF_continuesRow_16 : decode bb_BF_continuesRow 16 = .ok (.if_icmp .ne 24, 3) := by decide +kernel
theorem dd_BF_continuesRow_19 : decode bb_BF_continuesRow 19 = .ok (.aload_n 0, 1) := by decide +kernel
theorem dd_BF_continuesRow_20 : decode bb_BF_continuesRow 20 = .ok (.getfield 15, 3) := by decide +kernel
theorem dd_BF_continuesRow_23 : decode bb_BF_continuesRow 23 = .ok (.iload_n 1, 1) := by decide +kernel
theorem dd_BF_continuesRow_24 : decode bb_BF_continuesRow 24 = .ok (.baload, 1) := by decide +kernel
theorem dd_BF_continuesRow_25 : decode bb_BF_continuesRow 25 = .ok (.aload_n 0, 1) := by decide +kernel
theorem dd_BF_continuesRow_26 : decode bb_BF_continuesRow 26 = .ok (.getfield 15, 3) := by decide +kernel
theorem dd_BF_continuesRow_29 : decode bb_BF_continuesRow 29 = .ok (.iload_n 1, 1) := by decide +kernel
theorem dd_BF_continuesRow_30 : decode bb_BF_continuesRow 30 = .ok (.iconst 1, 1) := by decide +kernel
theorem dd_BF_continuesRow_31 : decode bb_BF_continuesRow 31 = .ok (.isub, 1) := by decide +kernel
theorem dd_BF_continuesRow_32 : decode bb_BF_continuesRow 32 = .ok (.baload, 1) := by decide +kernel
theorem dd_BF_continuesRow_33 : decode bb_BF_continuesRow 33 = .ok (.if_icmp .ne 7, 3) := by decide +kernel
theorem dd_BF_continuesRow_36 : decode bb_BF_continuesRow 36 = .ok (.iconst 1, 1) := by decide +kernel
theorem dd_BF_continuesRow_37 : decode bb_BF_continuesRow 37 = .ok (.goto 4, 3) := by decide +kernel
theorem dd_BF_continuesRow_40 : decode bb_BF_continuesRow 40 = .ok (.iconst 0, 1) := by decide +kernel
theorem dd_BF_continuesRow_41 : decode bb_BF_continuesRow 41 = .ok (.ireturn, 1) := by decide +kernel
theorem dd_BF_mapHoles_0 : decode bb_BF_mapHoles 0 = .ok (.iload_n 1, 1) := by decide +kernel
theorem dd_BF_mapHoles_1 : decode bb_BF_mapHoles 1 = .ok (.istore 4, 2) := by decide +kernel
theorem dd_BF_mapHoles_3 : decode bb_BF_mapHoles 3 = .ok (.iload 4, 2) := by decide +kernel
theorem dd_BF_mapHoles_5 : decode bb_BF_mapHoles 5 = .ok (.iload_n 2, 1) := by decide +kernel
theorem dd_BF_mapHoles_6 : decode bb_BF_mapHoles 6 = .ok (.if_icmp .ge 30, 3) := by decide +kernel
theorem dd_BF_mapHoles_9 : decode bb_BF_mapHoles 9 = .ok (.aload_n 0, 1) := by decide +kernel
theorem dd_BF_mapHoles_10 : decode bb_BF_mapHoles 10 = .ok (.iload 4, 2) := by decide +kernel
theorem dd_BF_mapHoles_12 : decode bb_BF_mapHoles 12 = .ok (.iload_n 2, 1) := by decide +kernel
theorem dd_BF_mapHoles_13 : decode bb_BF_mapHoles 13 = .ok (.iload_n 3, 1) := by decide +kernel
theorem dd_BF_mapHoles_14 : decode bb_BF_mapHoles 14 = .ok (.invokevirtual 84, 3) := by decide +kernel
theorem dd_BF_mapHoles_17 : decode bb_BF_mapHoles 17 = .ok (.istore 5, 2) := by decide +kernel
theorem dd_BF_mapHoles_19 : decode bb_BF_mapHoles 19 = .ok (.aload_n 0, 1) := by decide +kernel
theorem dd_BF_mapHoles_20 : decode bb_BF_mapHoles 20 = .ok (.iload 4, 2) := by decide +kernel
theorem dd_BF_mapHoles_22 : decode bb_BF_mapHoles 22 = .ok (.iload 5, 2) := by decide +kernel
theorem dd_BF_mapHoles_24 : decode bb_BF_mapHoles 24 = .ok (.invokevirtual 88, 3) := by decide +kernel
theorem dd_BF_mapHoles_27 : decode bb_BF_mapHoles 27 = .ok (.iload 5, 2) := by decide +kernel
theorem dd_BF_mapHoles_29 : decode bb_BF_mapHoles 29 = .ok (.iconst 1, 1) := by decide +kernel
theorem dd_BF_mapHoles_30 : decode bb_BF_mapHoles 30 = .ok (.iadd, 1) := by decide +kernel
theorem dd_BF_mapHoles_31 : decode bb_BF_mapHoles 31 = .ok (.istore 4, 2) := by decide +kernel
theorem dd_BF_mapHoles_33 : decode bb_BF_mapHoles 33 = .ok (.goto (-30), 3) := by decide +kernel
theorem dd_BF_mapHoles_36 : decode bb_BF_mapHoles 36 = .ok (.return_, 1) := by decide +kernel
theorem dd_BF_endOfRow_0 : decode bb_BF_endOfRow 0 = .ok (.iload_n 1, 1) := by decide +kernel
theorem dd_BF_endOfRow_1 : decode bb_BF_endOfRow 1 = .ok (.istore 4, 2) := by decide +kernel
theorem dd_BF_endOfRow_3 : decode bb_BF_endOfRow 3 = .ok (.iload 4, 2) := by decide +kernel
theorem dd_BF_endOfRow_5 : decode bb_BF_endOfRow 5 = .ok (.iload_n 2, 1) := by decide +kernel
theorem dd_BF_endOfRow_6 : decode bb_BF_endOfRow 6 = .ok (.if_icmp .ge 32, 3) := by decide +kernel
theorem dd_BF_endOfRow_9 : decode bb_BF_endOfRow 9 = .ok (.aload_n 0, 1) := by decide +kernel
theorem dd_BF_endOfRow_10 : decode bb_BF_endOfRow 10 = .ok (.iload 4, 2) := by decide +kernel
theorem dd_BF_endOfRow_12 : decode bb_BF_endOfRow 12 = .ok (.invokevirtual 55, 3) := by decide +kernel
theorem dd_BF_endOfRow_15 : decode bb_BF_endOfRow 15 = .ok (.ifCond .eq 23, 3) := by decide +kernel
theorem dd_BF_endOfRow_18 : decode bb_BF_endOfRow 18 = .ok (.aload_n 0, 1) := by decide +kernel
theorem dd_BF_endOfRow_19 : decode bb_BF_endOfRow 19 = .ok (.getfield 19, 3) := by decide +kernel
theorem dd_BF_endOfRow_22 : decode bb_BF_endOfRow 22 = .ok (.iload 4, 2) := by decide +kernel
theorem dd_BF_endOfRow_24 : decode bb_BF_endOfRow 24 = .ok (.baload, 1) := by decide +kernel
theorem dd_BF_endOfRow_25 : decode bb_BF_endOfRow 25 = .ok (.ifCond .ne 7, 3) := by decide +kernel
theorem dd_BF_endOfRow_28 : decode bb_BF_endOfRow 28 = .ok (.iload_n 3, 1) := by decide +kernel
theorem dd_BF_endOfRow_29 : decode bb_BF_endOfRow 29 = .ok (.ifCond .ne 9, 3) := by decide +kernel
theorem dd_BF_endOfRow_32 : decode bb_BF_endOfRow 32 = .ok (.iinc 4 1, 3) := by decide +kernel
theorem dd_BF_endOfRow_35 : decode bb_BF_endOfRow 35 = .ok (.goto (-32), 3) := by decide +kernel
theorem dd_BF_endOfRow_38 : decode bb_BF_endOfRow 38 = .ok (.iload 4, 2) := by decide +kernel
theorem dd_BF_endOfRow_40 : decode bb_BF_endOfRow 40 = .ok (.ireturn, 1) := by decide +kernel
theorem dd_BF_mapRow_0 : decode bb_BF_mapRow 0 = .ok (.aload_n 0, 1) := by decide +kernel
theorem dd_BF_mapRow_1 : decode bb_BF_mapRow 1 = .ok (.iload_n 1, 1) := by decide +kernel
theorem dd_BF_mapRow_2 : decode bb_BF_mapRow 2 = .ok (.iconst 1, 1) := by decide +kernel
theorem dd_BF_mapRow_3 : decode bb_BF_mapRow 3 = .ok (.isub, 1) := by decide +kernel
theorem dd_BF_mapRow_4 : decode bb_BF_mapRow 4 = .ok (.invokevirtual 92, 3) := by decide +kernel
theorem dd_BF_mapRow_7 : decode bb_BF_mapRow 7 = .ok (.istore_n 3, 1) := by decide +kernel
theorem dd_BF_mapRow_8 : decode bb_BF_mapRow 8 = .ok (.iload_n 1, 1) := by decide +kernel
theorem dd_BF_mapRow_9 : decode bb_BF_mapRow 9 = .ok (.istore 4, 2) := by decide +kernel
theorem dd_BF_mapRow_11 : decode bb_BF_mapRow 11 = .ok (.iload 4, 2) := by decide +kernel
theorem dd_BF_mapRow_13 : decode bb_BF_mapRow 13 = .ok (.iload_n 2, 1) := by decide +kernel
theorem dd_BF_mapRow_14 : decode bb_BF_mapRow 14 = .ok (.if_icmp .ge 42, 3) := by decide +kernel
theorem dd_BF_mapRow_17 : decode bb_BF_mapRow 17 = .ok (.aload_n 0, 1) := by decide +kernel
theorem dd_BF_mapRow_18 : decode bb_BF_mapRow 18 = .ok (.getfield 32, 3) := by decide +kernel
theorem dd_BF_mapRow_21 : decode bb_BF_mapRow 21 = .ok (.iload_n 3, 1) := by decide +kernel
theorem dd_BF_mapRow_22 : decode bb_BF_mapRow 22 = .ok (.invokevirtual 95, 3) := by decide +kernel
theorem dd_BF_mapRow_25 : decode bb_BF_mapRow 25 = .ok (.ifCond .ne 15, 3) := by decide +kernel
theorem dd_BF_mapRow_28 : decode bb_BF_mapRow 28 = .ok (.aload_n 0, 1) := by decide +kernel
theorem dd_BF_mapRow_29 : decode bb_BF_mapRow 29 = .ok (.getfield 32, 3) := by decide +kernel
theorem dd_BF_mapRow_32 : decode bb_BF_mapRow 32 = .ok (.iload_n 2, 1) := by decide +kernel
theorem dd_BF_mapRow_33 : decode bb_BF_mapRow 33 = .ok (.iload 4, 2) := by decide +kernel
theorem dd_BF_mapRow_35 : decode bb_BF_mapRow 35 = .ok (.isub, 1) := by decide +kernel
theorem dd_BF_mapRow_36 : decode bb_BF_mapRow 36 = .ok (.invokevirtual 98, 3) := by decide +kernel
theorem dd_BF_mapRow_39 : decode bb_BF_mapRow 39 = .ok (.istore_n 3, 1) := by decide +kernel
theorem dd_BF_mapRow_40 : decode bb_BF_mapRow 40 = .ok (.aload_n 0, 1) := by decide +kernel
theorem dd_BF_mapRow_41 : decode bb_BF_mapRow 41 = .ok (.iload 4, 2) := by decide +kernel
theorem dd_BF_mapRow_43 : decode bb_BF_mapRow 43 = .ok (.iload_n 3, 1) := by decide +kernel
theorem dd_BF_mapRow_44 : decode bb_BF_mapRow 44 = .ok (.invokevirtual 101, 3) := by decide +kernel
theorem dd_BF_mapRow_47 : decode bb_BF_mapRow 47 = .ok (.iinc 3 1, 3) := by decide +kernel
theorem dd_BF_mapRow_50 : decode bb_BF_mapRow 50 = .ok (.iinc 4 1, 3) := by decide +kernel
theorem dd_BF_mapRow_53 : decode bb_BF_mapRow 53 = .ok (.goto (-42), 3) := by decide +kernel
theorem dd_BF_mapRow_56 : decode bb_BF_mapRow 56 = .ok (.return_, 1) := by decide +kernel
theorem dd_BF_placeBehind_0 : decode bb_BF_placeBehind 0 = .ok (.iload_n 1, 1) := by decide +kernel
theorem dd_BF_placeBehind_1 : decode bb_BF_placeBehind 1 = .ok (.ifCond .lt 11, 3) := by decide +kernel
theorem dd_BF_placeBehind_4 : decode bb_BF_placeBehind 4 = .ok (.aload_n 0, 1) := by decide +kernel
theorem dd_BF_placeBehind_5 : decode bb_BF_placeBehind 5 = .ok (.iload_n 1, 1) := by decide +kernel
theorem dd_BF_placeBehind_6 : decode bb_BF_placeBehind 6 = .ok (.invokevirtual 55, 3) := by decide +kernel
theorem dd_BF_placeBehind_9 : decode bb_BF_placeBehind 9 = .ok (.ifCond .eq 5, 3) := by decide +kernel
theorem dd_BF_placeBehind_12 : decode bb_BF_placeBehind 12 = .ok (.iconst (-1), 1) := by decide +kernel
theorem dd_BF_placeBehind_13 : decode bb_BF_placeBehind 13 = .ok (.ireturn, 1) := by decide +kernel
theorem dd_BF_placeBehind_14 : decode bb_BF_placeBehind 14 = .ok (.aload_n 0, 1) := by decide +kernel
theorem dd_BF_placeBehind_15 : decode bb_BF_placeBehind 15 = .ok (.getfield 9, 3) := by decide +kernel
theorem dd_BF_placeBehind_18 : decode bb_BF_placeBehind 18 = .ok (.iload_n 1, 1) := by decide +kernel
theorem dd_BF_placeBehind_19 : decode bb_BF_placeBehind 19 = .ok (.iaload, 1) := by decide +kernel
theorem dd_BF_placeBehind_20 : decode bb_BF_placeBehind 20 = .ok (.iconst 1, 1) := by decide +kernel
theorem dd_BF_placeBehind_21 : decode bb_BF_placeBehind 21 = .ok (.iadd, 1) := by decide +kernel
theorem dd_BF_placeBehind_22 : decode bb_BF_placeBehind 22 = .ok (.ireturn, 1) := by decide +kernel
theorem dd_BF_mapTo_0 : decode bb_BF_mapTo 0 = .ok (.aload_n 0, 1) := by decide +kernel
theorem dd_BF_mapTo_1 : decode bb_BF_mapTo 1 = .ok (.getfield 32, 3) := by decide +kernel
theorem dd_BF_mapTo_4 : decode bb_BF_mapTo 4 = .ok (.iload_n 2, 1) := by decide +kernel
theorem dd_BF_mapTo_5 : decode bb_BF_mapTo 5 = .ok (.invokevirtual 95, 3) := by decide +kernel
theorem dd_BF_mapTo_8 : decode bb_BF_mapTo 8 = .ok (.ifCond .eq 24, 3) := by decide +kernel
theorem dd_BF_mapTo_11 : decode bb_BF_mapTo 11 = .ok (.aload_n 0, 1) := by decide +kernel
theorem dd_BF_mapTo_12 : decode bb_BF_mapTo 12 = .ok (.getfield 9, 3) := by decide +kernel
theorem dd_BF_mapTo_15 : decode bb_BF_mapTo 15 = .ok (.iload_n 1, 1) := by decide +kernel
theorem dd_BF_mapTo_16 : decode bb_BF_mapTo 16 = .ok (.iload_n 2, 1) := by decide +kernel
theorem dd_BF_mapTo_17 : decode bb_BF_mapTo 17 = .ok (.iastore, 1) := by decide +kernel
theorem dd_BF_mapTo_18 : decode bb_BF_mapTo 18 = .ok (.aload_n 0, 1) := by decide +kernel
theorem dd_BF_mapTo_19 : decode bb_BF_mapTo 19 = .ok (.getfield 32, 3) := by decide +kernel
theorem dd_BF_mapTo_22 : decode bb_BF_mapTo 22 = .ok (.iload_n 2, 1) := by decide +kernel
theorem dd_BF_mapTo_23 : decode bb_BF_mapTo 23 = .ok (.aload_n 0, 1) := by decide +kernel
theorem dd_BF_mapTo_24 : decode bb_BF_mapTo 24 = .ok (.getfield 36, 3) := by decide +kernel
theorem dd_BF_mapTo_27 : decode bb_BF_mapTo 27 = .ok (.iload_n 1, 1) := by decide +kernel
theorem dd_BF_mapTo_28 : decode bb_BF_mapTo 28 = .ok (.iadd, 1) := by decide +kernel
theorem dd_BF_mapTo_29 : decode bb_BF_mapTo 29 = .ok (.invokevirtual 104, 3) := by decide +kernel
theorem dd_BF_mapTo_32 : decode bb_BF_mapTo 32 = .ok (.return_, 1) := by decide +kernel
theorem dd_BF_unmap_0 : decode bb_BF_unmap 0 = .ok (.aload_n 0, 1) := by decide +kernel
theorem dd_BF_unmap_1 : decode bb_BF_unmap 1 = .ok (.getfield 32, 3) := by decide +kernel
theorem dd_BF_unmap_4 : decode bb_BF_unmap 4 = .ok (.aload_n 0, 1) := by decide +kernel
theorem dd_BF_unmap_5 : decode bb_BF_unmap 5 = .ok (.getfield 9, 3) := by decide +kernel
theorem dd_BF_unmap_8 : decode bb_BF_unmap 8 = .ok (.iload_n 1, 1) := by decide +kernel
theorem dd_BF_unmap_9 : decode bb_BF_unmap 9 = .ok (.iaload, 1) := by decide +kernel
theorem dd_BF_unmap_10 : decode bb_BF_unmap 10 = .ok (.invokevirtual 107, 3) := by decide +kernel
theorem dd_BF_unmap_13 : decode bb_BF_unmap 13 = .ok (.aload_n 0, 1) := by decide +kernel
theorem dd_BF_unmap_14 : decode bb_BF_unmap 14 = .ok (.getfield 9, 3) := by decide +kernel
theorem dd_BF_unmap_17 : decode bb_BF_unmap 17 = .ok (.iload_n 1, 1) := by decide +kernel
theorem dd_BF_unmap_18 : decode bb_BF_unmap 18 = .ok (.iconst (-1), 1) := by decide +kernel
theorem dd_BF_unmap_19 : decode bb_BF_unmap 19 = .ok (.iastore, 1) := by decide +kernel
theorem dd_BF_unmap_20 : decode bb_BF_unmap 20 = .ok (.aload_n 0, 1) := by decide +kernel
theorem dd_BF_unmap_21 : decode bb_BF_unmap 21 = .ok (.getfield 15, 3) := by decide +kernel
theorem dd_BF_unmap_24 : decode bb_BF_unmap 24 = .ok (.iload_n 1, 1) := by decide +kernel
theorem dd_BF_unmap_25 : decode bb_BF_unmap 25 = .ok (.iconst 0, 1) := by decide +kernel
theorem dd_BF_unmap_26 : decode bb_BF_unmap 26 = .ok (.bastore, 1) := by decide +kernel
theorem dd_BF_unmap_27 : decode bb_BF_unmap 27 = .ok (.return_, 1) := by decide +kernel
theorem dd_BF_makeHoles_0 : decode bb_BF_makeHoles 0 = .ok (.iconst 0, 1) := by decide +kernel
theorem dd_BF_makeHoles_1 : decode bb_BF_makeHoles 1 = .ok (.istore_n 3, 1) := by decide +kernel
theorem dd_BF_makeHoles_2 : decode bb_BF_makeHoles 2 = .ok (.iload_n 1, 1) := by decide +kernel
theorem dd_BF_makeHoles_3 : decode bb_BF_makeHoles 3 = .ok (.istore 4, 2) := by decide +kernel
theorem dd_BF_makeHoles_5 : decode bb_BF_makeHoles 5 = .ok (.iload 4, 2) := by decide +kernel
theorem dd_BF_makeHoles_7 : decode bb_BF_makeHoles 7 = .ok (.iload_n 2, 1) := by decide +kernel
theorem dd_BF_makeHoles_8 : decode bb_BF_makeHoles 8 = .ok (.if_icmp .ge 33, 3) := by decide +kernel
theorem dd_BF_makeHoles_11 : decode bb_BF_makeHoles 11 = .ok (.aload_n 0, 1) := by decide +kernel
theorem dd_BF_makeHoles_12 : decode bb_BF_makeHoles 12 = .ok (.iload 4, 2) := by decide +kernel
theorem dd_BF_makeHoles_14 : decode bb_BF_makeHoles 14 = .ok (.invokevirtual 51, 3) := by decide +kernel
theorem dd_BF_makeHoles_17 : decode bb_BF_makeHoles 17 = .ok (.aload_n 0, 1) := by decide +kernel
theorem dd_BF_makeHoles_18 : decode bb_BF_makeHoles 18 = .ok (.iload 4, 2) := by decide +kernel
theorem dd_BF_makeHoles_20 : decode bb_BF_makeHoles 20 = .ok (.invokevirtual 55, 3) := by decide +kernel
theorem dd_BF_makeHoles_23 : decode bb_BF_makeHoles 23 = .ok (.ifCond .ne 12, 3) := by decide +kernel
theorem dd_BF_makeHoles_26 : decode bb_BF_makeHoles 26 = .ok (.aload_n 0, 1) := by decide +kernel
theorem dd_BF_makeHoles_27 : decode bb_BF_makeHoles 27 = .ok (.iload 4, 2) := by decide +kernel
theorem dd_BF_makeHoles_29 : decode bb_BF_makeHoles 29 = .ok (.invokevirtual 110, 3) := by decide +kernel
theorem dd_BF_makeHoles_32 : decode bb_BF_makeHoles 32 = .ok (.iinc 3 1, 3) := by decide +kernel
theorem dd_BF_makeHoles_35 : decode bb_BF_makeHoles 35 = .ok (.iinc 4 1, 3) := by decide +kernel
theorem dd_BF_makeHoles_38 : decode bb_BF_makeHoles 38 = .ok (.goto (-33), 3) := by decide +kernel
theorem dd_BF_makeHoles_41 : decode bb_BF_makeHoles 41 = .ok (.iload_n 3, 1) := by decide +kernel
theorem dd_BF_makeHoles_42 : decode bb_BF_makeHoles 42 = .ok (.ireturn, 1) := by decide +kernel
theorem dd_BF_writePages_0 : decode bb_BF_writePages 0 = .ok (.iconst 0, 1) := by decide +kernel
theorem dd_BF_writePages_1 : decode bb_BF_writePages 1 = .ok (.istore_n 1, 1) := by decide +kernel
theorem dd_BF_writePages_2 : decode bb_BF_writePages 2 = .ok (.iconst 0, 1) := by decide +kernel
theorem dd_BF_writePages_3 : decode bb_BF_writePages 3 = .ok (.istore_n 2, 1) := by decide +kernel
theorem dd_BF_writePages_4 : decode bb_BF_writePages 4 = .ok (.iload_n 2, 1) := by decide +kernel
theorem dd_BF_writePages_5 : decode bb_BF_writePages 5 = .ok (.bipush 60, 2) := by decide +kernel
theorem dd_BF_writePages_7 : decode bb_BF_writePages 7 = .ok (.if_icmp .ge 26, 3) := by decide +kernel
theorem dd_BF_writePages_10 : decode bb_BF_writePages 10 = .ok (.aload_n 0, 1) := by decide +kernel
theorem dd_BF_writePages_11 : decode bb_BF_writePages 11 = .ok (.getfield 19, 3) := by decide +kernel
theorem dd_BF_writePages_14 : decode bb_BF_writePages 14 = .ok (.iload_n 2, 1) := by decide +kernel
theorem dd_BF_writePages_15 : decode bb_BF_writePages 15 = .ok (.baload, 1) := by decide +kernel
theorem dd_BF_writePages_16 : decode bb_BF_writePages 16 = .ok (.ifCond .eq 11, 3) := by decide +kernel
theorem dd_BF_writePages_19 : decode bb_BF_writePages 19 = .ok (.aload_n 0, 1) := by decide +kernel
theorem dd_BF_writePages_20 : decode bb_BF_writePages 20 = .ok (.iload_n 2, 1) := by decide +kernel
theorem dd_BF_writePages_21 : decode bb_BF_writePages 21 = .ok (.invokevirtual 113, 3) := by decide +kernel
theorem dd_BF_writePages_24 : decode bb_BF_writePages 24 = .ok (.iinc 1 1, 3) := by decide +kernel
theorem dd_BF_writePages_27 : decode bb_BF_writePages 27 = .ok (.iinc 2 1, 3) := by decide +kernel
theorem dd_BF_writePages_30 : decode bb_BF_writePages 30 = .ok (.goto (-26), 3) := by decide +kernel
theorem dd_BF_writePages_33 : decode bb_BF_writePages 33 = .ok (.iload_n 1, 1) := by decide +kernel
theorem dd_BF_writePages_34 : decode bb_BF_writePages 34 = .ok (.ireturn, 1) := by decide +kernel
theorem dd_BF_writePage_0 : decode bb_BF_writePage 0 = .ok (.aload_n 0, 1) := by decide +kernel
theorem dd_BF_writePage_1 : decode bb_BF_writePage 1 = .ok (.iload_n 1, 1) := by decide +kernel
theorem dd_BF_writePage_2 : decode bb_BF_writePage 2 = .ok (.invokevirtual 55, 3) := by decide +kernel
theorem dd_BF_writePage_5 : decode bb_BF_writePage 5 = .ok (.ifCond .ne 29, 3) := by decide +kernel
theorem dd_BF_writePage_8 : decode bb_BF_writePage 8 = .ok (.aload_n 0, 1) := by decide +kernel
theorem dd_BF_writePage_9 : decode bb_BF_writePage 9 = .ok (.getfield 32, 3) := by decide +kernel
theorem dd_BF_writePage_12 : decode bb_BF_writePage 12 = .ok (.aload_n 0, 1) := by decide +kernel
theorem dd_BF_writePage_13 : decode bb_BF_writePage 13 = .ok (.getfield 9, 3) := by decide +kernel
theorem dd_BF_writePage_16 : decode bb_BF_writePage 16 = .ok (.iload_n 1, 1) := by decide +kernel
theorem dd_BF_writePage_17 : decode bb_BF_writePage 17 = .ok (.iaload, 1) := by decide +kernel
theorem dd_BF_writePage_18 : decode bb_BF_writePage 18 = .ok (.aload_n 0, 1) := by decide +kernel
theorem dd_BF_writePage_19 : decode bb_BF_writePage 19 = .ok (.getfield 22, 3) := by decide +kernel
theorem dd_BF_writePage_22 : decode bb_BF_writePage 22 = .ok (.iload_n 1, 1) := by decide +kernel
theorem dd_BF_writePage_23 : decode bb_BF_writePage 23 = .ok (.iaload, 1) := by decide +kernel
theorem dd_BF_writePage_24 : decode bb_BF_writePage 24 = .ok (.invokevirtual 116, 3) := by decide +kernel
theorem dd_BF_writePage_27 : decode bb_BF_writePage 27 = .ok (.aload_n 0, 1) := by decide +kernel
theorem dd_BF_writePage_28 : decode bb_BF_writePage 28 = .ok (.getfield 15, 3) := by decide +kernel
theorem dd_BF_writePage_31 : decode bb_BF_writePage 31 = .ok (.iload_n 1, 1) := by decide +kernel
theorem dd_BF_writePage_32 : decode bb_BF_writePage 32 = .ok (.iconst 1, 1) := by decide +kernel
theorem dd_BF_writePage_33 : decode bb_BF_writePage 33 = .ok (.bastore, 1) := by decide +kernel
theorem dd_BF_writePage_34 : decode bb_BF_writePage 34 = .ok (.aload_n 0, 1) := by decide +kernel
theorem dd_BF_writePage_35 : decode bb_BF_writePage 35 = .ok (.iload_n 1, 1) := by decide +kernel
theorem dd_BF_writePage_36 : decode bb_BF_writePage 36 = .ok (.invokevirtual 51, 3) := by decide +kernel
theorem dd_BF_writePage_39 : decode bb_BF_writePage 39 = .ok (.return_, 1) := by decide +kernel
theorem dd_BF_noteHoles_0 : decode bb_BF_noteHoles 0 = .ok (.iconst 0, 1) := by decide +kernel
theorem dd_BF_noteHoles_1 : decode bb_BF_noteHoles 1 = .ok (.istore_n 1, 1) := by decide +kernel
theorem dd_BF_noteHoles_2 : decode bb_BF_noteHoles 2 = .ok (.iload_n 1, 1) := by decide +kernel
theorem dd_BF_noteHoles_3 : decode bb_BF_noteHoles 3 = .ok (.bipush 60, 2) := by decide +kernel
theorem dd_BF_noteHoles_5 : decode bb_BF_noteHoles 5 = .ok (.if_icmp .ge 20, 3) := by decide +kernel
theorem dd_BF_noteHoles_8 : decode bb_BF_noteHoles 8 = .ok (.aload_n 0, 1) := by decide +kernel
theorem dd_BF_noteHoles_9 : decode bb_BF_noteHoles 9 = .ok (.getfield 25, 3) := by decide +kernel
theorem dd_BF_noteHoles_12 : decode bb_BF_noteHoles 12 = .ok (.iload_n 1, 1) := by decide +kernel
theorem dd_BF_noteHoles_13 : decode bb_BF_noteHoles 13 = .ok (.aload_n 0, 1) := by decide +kernel
theorem dd_BF_noteHoles_14 : decode bb_BF_noteHoles 14 = .ok (.iload_n 1, 1) := by decide +kernel
theorem dd_BF_noteHoles_15 : decode bb_BF_noteHoles 15 = .ok (.invokevirtual 55, 3) := by decide +kernel
theorem dd_BF_noteHoles_18 : decode bb_BF_noteHoles 18 = .ok (.bastore, 1) := by decide +kernel
theorem dd_BF_noteHoles_19 : decode bb_BF_noteHoles 19 = .ok (.iinc 1 1, 3) := by decide +kernel
theorem dd_BF_noteHoles_22 : decode bb_BF_noteHoles 22 = .ok (.goto (-20), 3) := by decide +kernel
theorem dd_BF_noteHoles_25 : decode bb_BF_noteHoles 25 = .ok (.return_, 1) := by decide +kernel
theorem dd_BF_restoreHoles_0 : decode bb_BF_restoreHoles 0 = .ok (.iconst 0, 1) := by decide +kernel
theorem dd_BF_restoreHoles_1 : decode bb_BF_restoreHoles 1 = .ok (.istore_n 1, 1) := by decide +kernel
theorem dd_BF_restoreHoles_2 : decode bb_BF_restoreHoles 2 = .ok (.iload_n 1, 1) := by decide +kernel
theorem dd_BF_restoreHoles_3 : decode bb_BF_restoreHoles 3 = .ok (.bipush 60, 2) := by decide +kernel
theorem dd_BF_restoreHoles_5 : decode bb_BF_restoreHoles 5 = .ok (.if_icmp .ge 31, 3) := by decide +kernel
theorem dd_BF_restoreHoles_8 : decode bb_BF_restoreHoles 8 = .ok (.aload_n 0, 1) := by decide +kernel
theorem dd_BF_restoreHoles_9 : decode bb_BF_restoreHoles 9 = .ok (.getfield 25, 3) := by decide +kernel
theorem dd_BF_restoreHoles_12 : decode bb_BF_restoreHoles 12 = .ok (.iload_n 1, 1) := by decide +kernel
theorem dd_BF_restoreHoles_13 : decode bb_BF_restoreHoles 13 = .ok (.baload, 1) := by decide +kernel
theorem dd_BF_restoreHoles_14 : decode bb_BF_restoreHoles 14 = .ok (.ifCond .eq 16, 3) := by decide +kernel
theorem dd_BF_restoreHoles_17 : decode bb_BF_restoreHoles 17 = .ok (.aload_n 0, 1) := by decide +kernel
theorem dd_BF_restoreHoles_18 : decode bb_BF_restoreHoles 18 = .ok (.iload_n 1, 1) := by decide +kernel
theorem dd_BF_restoreHoles_19 : decode bb_BF_restoreHoles 19 = .ok (.invokevirtual 55, 3) := by decide +kernel
theorem dd_BF_restoreHoles_22 : decode bb_BF_restoreHoles 22 = .ok (.ifCond .ne 8, 3) := by decide +kernel
theorem dd_BF_restoreHoles_25 : decode bb_BF_restoreHoles 25 = .ok (.aload_n 0, 1) := by decide +kernel
theorem dd_BF_restoreHoles_26 : decode bb_BF_restoreHoles 26 = .ok (.iload_n 1, 1) := by decide +kernel
theorem dd_BF_restoreHoles_27 : decode bb_BF_restoreHoles 27 = .ok (.invokevirtual 110, 3) := by decide +kernel
theorem dd_BF_restoreHoles_30 : decode bb_BF_restoreHoles 30 = .ok (.iinc 1 1, 3) := by decide +kernel
theorem dd_BF_restoreHoles_33 : decode bb_BF_restoreHoles 33 = .ok (.goto (-31), 3) := by decide +kernel
theorem dd_BF_restoreHoles_36 : decode bb_BF_restoreHoles 36 = .ok (.return_, 1) := by decide +kernel
theorem dd_VO_init_0 : decode bb_VO_init 0 = .ok (.aload_n 0, 1) := by decide +kernel
theorem dd_VO_init_1 : decode bb_VO_init 1 = .ok (.invokespecial 3, 3) := by decide +kernel
theorem dd_VO_init_4 : decode bb_VO_init 4 = .ok (.aload_n 0, 1) := by decide +kernel
theorem dd_VO_init_5 : decode bb_VO_init 5 = .ok (.bipush 80, 2) := by decide +kernel
theorem dd_VO_init_7 : decode bb_VO_init 7 = .ok (.newarray .int, 2) := by decide +kernel
theorem dd_VO_init_9 : decode bb_VO_init 9 = .ok (.putfield 9, 3) := by decide +kernel
theorem dd_VO_init_12 : decode bb_VO_init 12 = .ok (.aload_n 0, 1) := by decide +kernel
theorem dd_VO_init_13 : decode bb_VO_init 13 = .ok (.bipush 80, 2) := by decide +kernel
theorem dd_VO_init_15 : decode bb_VO_init 15 = .ok (.newarray .int, 2) := by decide +kernel
theorem dd_VO_init_17 : decode bb_VO_init 17 = .ok (.putfield 15, 3) := by decide +kernel
theorem dd_VO_init_20 : decode bb_VO_init 20 = .ok (.aload_n 0, 1) := by decide +kernel
theorem dd_VO_init_21 : decode bb_VO_init 21 = .ok (.getfield 9, 3) := by decide +kernel
theorem dd_VO_init_24 : decode bb_VO_init 24 = .ok (.iconst (-1), 1) := by decide +kernel
theorem dd_VO_init_25 : decode bb_VO_init 25 = .ok (.invokestatic 18, 3) := by decide +kernel
theorem dd_VO_init_28 : decode bb_VO_init 28 = .ok (.return_, 1) := by decide +kernel
theorem dd_VO_ownerOf_0 : decode bb_VO_ownerOf 0 = .ok (.aload_n 0, 1) := by decide +kernel
theorem dd_VO_ownerOf_1 : decode bb_VO_ownerOf 1 = .ok (.getfield 9, 3) := by decide +kernel
theorem dd_VO_ownerOf_4 : decode bb_VO_ownerOf 4 = .ok (.iload_n 1, 1) := by decide +kernel
theorem dd_VO_ownerOf_5 : decode bb_VO_ownerOf 5 = .ok (.iaload, 1) := by decide +kernel
theorem dd_VO_ownerOf_6 : decode bb_VO_ownerOf 6 = .ok (.ireturn, 1) := by decide +kernel
theorem dd_VO_valueAt_0 : decode bb_VO_valueAt 0 = .ok (.aload_n 0, 1) := by decide +kernel
theorem dd_VO_valueAt_1 : decode bb_VO_valueAt 1 = .ok (.getfield 15, 3) := by decide +kernel
theorem dd_VO_valueAt_4 : decode bb_VO_valueAt 4 = .ok (.iload_n 1, 1) := by decide +kernel
theorem dd_VO_valueAt_5 : decode bb_VO_valueAt 5 = .ok (.iaload, 1) := by decide +kernel
theorem dd_VO_valueAt_6 : decode bb_VO_valueAt 6 = .ok (.ireturn, 1) := by decide +kernel
theorem dd_VO_setValue_0 : decode bb_VO_setValue 0 = .ok (.aload_n 0, 1) := by decide +kernel
theorem dd_VO_setValue_1 : decode bb_VO_setValue 1 = .ok (.getfield 15, 3) := by decide +kernel
theorem dd_VO_setValue_4 : decode bb_VO_setValue 4 = .ok (.iload_n 1, 1) := by decide +kernel
theorem dd_VO_setValue_5 : decode bb_VO_setValue 5 = .ok (.iload_n 2, 1) := by decide +kernel
theorem dd_VO_setValue_6 : decode bb_VO_setValue 6 = .ok (.iastore, 1) := by decide +kernel
theorem dd_VO_setValue_7 : decode bb_VO_setValue 7 = .ok (.return_, 1) := by decide +kernel
theorem dd_VO_take_0 : decode bb_VO_take 0 = .ok (.aload_n 0, 1) := by decide +kernel
theorem dd_VO_take_1 : decode bb_VO_take 1 = .ok (.getfield 9, 3) := by decide +kernel
theorem dd_VO_take_4 : decode bb_VO_take 4 = .ok (.iload_n 1, 1) := by decide +kernel
theorem dd_VO_take_5 : decode bb_VO_take 5 = .ok (.iload_n 2, 1) := by decide +kernel
theorem dd_VO_take_6 : decode bb_VO_take 6 = .ok (.iastore, 1) := by decide +kernel
theorem dd_VO_take_7 : decode bb_VO_take 7 = .ok (.return_, 1) := by decide +kernel
theorem dd_VO_release_0 : decode bb_VO_release 0 = .ok (.aload_n 0, 1) := by decide +kernel
theorem dd_VO_release_1 : decode bb_VO_release 1 = .ok (.getfield 9, 3) := by decide +kernel
theorem dd_VO_release_4 : decode bb_VO_release 4 = .ok (.iload_n 1, 1) := by decide +kernel
theorem dd_VO_release_5 : decode bb_VO_release 5 = .ok (.iconst (-1), 1) := by decide +kernel
theorem dd_VO_release_6 : decode bb_VO_release 6 = .ok (.iastore, 1) := by decide +kernel
theorem dd_VO_release_7 : decode bb_VO_release 7 = .ok (.return_, 1) := by decide +kernel
theorem dd_VO_isUntaken_0 : decode bb_VO_isUntaken 0 = .ok (.iload_n 1, 1) := by decide +kernel
theorem dd_VO_isUntaken_1 : decode bb_VO_isUntaken 1 = .ok (.ifCond .lt 23, 3) := by decide +kernel
theorem dd_VO_isUntaken_4 : decode bb_VO_isUntaken 4 = .ok (.iload_n 1, 1) := by decide +kernel
theorem dd_VO_isUntaken_5 : decode bb_VO_isUntaken 5 = .ok (.bipush 80, 2) := by decide +kernel
theorem dd_VO_isUntaken_7 : decode bb_VO_isUntaken 7 = .ok (.if_icmp .ge 17, 3) := by decide +kernel
theorem dd_VO_isUntaken_10 : decode bb_VO_isUntaken 10 = .ok (.aload_n 0, 1) := by decide +kernel
theorem dd_VO_isUntaken_11 : decode bb_VO_isUntaken 11 = .ok (.getfield 9, 3) := by decide +kernel
theorem dd_VO_isUntaken_14 : decode bb_VO_isUntaken 14 = .ok (.iload_n 1, 1) := by decide +kernel
theorem dd_VO_isUntaken_15 : decode bb_VO_isUntaken 15 = .ok (.iaload, 1) := by decide +kernel
theorem dd_VO_isUntaken_16 : decode bb_VO_isUntaken 16 = .ok (.iconst (-1), 1) := by decide +kernel
theorem dd_VO_isUntaken_17 : decode bb_VO_isUntaken 17 = .ok (.if_icmp .ne 7, 3) := by decide +kernel
theorem dd_VO_isUntaken_20 : decode bb_VO_isUntaken 20 = .ok (.iconst 1, 1) := by decide +kernel
theorem dd_VO_isUntaken_21 : decode bb_VO_isUntaken 21 = .ok (.goto 4, 3) := by decide +kernel
theorem dd_VO_isUntaken_24 : decode bb_VO_isUntaken 24 = .ok (.iconst 0, 1) := by decide +kernel
theorem dd_VO_isUntaken_25 : decode bb_VO_isUntaken 25 = .ok (.ireturn, 1) := by decide +kernel
theorem dd_VO_countUntaken_0 : decode bb_VO_countUntaken 0 = .ok (.iconst 0, 1) := by decide +kernel
theorem dd_VO_countUntaken_1 : decode bb_VO_countUntaken 1 = .ok (.istore_n 1, 1) := by decide +kernel
theorem dd_VO_countUntaken_2 : decode bb_VO_countUntaken 2 = .ok (.iconst 0, 1) := by decide +kernel
theorem dd_VO_countUntaken_3 : decode bb_VO_countUntaken 3 = .ok (.istore_n 2, 1) := by decide +kernel
theorem dd_VO_countUntaken_4 : decode bb_VO_countUntaken 4 = .ok (.iload_n 2, 1) := by decide +kernel
theorem dd_VO_countUntaken_5 : decode bb_VO_countUntaken 5 = .ok (.bipush 80, 2) := by decide +kernel
theorem dd_VO_countUntaken_7 : decode bb_VO_countUntaken 7 = .ok (.if_icmp .ge 22, 3) := by decide +kernel
theorem dd_VO_countUntaken_10 : decode bb_VO_countUntaken 10 = .ok (.aload_n 0, 1) := by decide +kernel
theorem dd_VO_countUntaken_11 : decode bb_VO_countUntaken 11 = .ok (.getfield 9, 3) := by decide +kernel
theorem dd_VO_countUntaken_14 : decode bb_VO_countUntaken 14 = .ok (.iload_n 2, 1) := by decide +kernel
theorem dd_VO_countUntaken_15 : decode bb_VO_countUntaken 15 = .ok (.iaload, 1) := by decide +kernel
theorem dd_VO_countUntaken_16 : decode bb_VO_countUntaken 16 = .ok (.iconst (-1), 1) := by decide +kernel
theorem dd_VO_countUntaken_17 : decode bb_VO_countUntaken 17 = .ok (.if_icmp .ne 6, 3) := by decide +kernel
theorem dd_VO_countUntaken_20 : decode bb_VO_countUntaken 20 = .ok (.iinc 1 1, 3) := by decide +kernel
theorem dd_VO_countUntaken_23 : decode bb_VO_countUntaken 23 = .ok (.iinc 2 1, 3) := by decide +kernel
theorem dd_VO_countUntaken_26 : decode bb_VO_countUntaken 26 = .ok (.goto (-22), 3) := by decide +kernel
theorem dd_VO_countUntaken_29 : decode bb_VO_countUntaken 29 = .ok (.iload_n 1, 1) := by decide +kernel
theorem dd_VO_countUntaken_30 : decode bb_VO_countUntaken 30 = .ok (.ireturn, 1) := by decide +kernel
theorem dd_VO_bestRow_0 : decode bb_VO_bestRow 0 = .ok (.iconst (-1), 1) := by decide +kernel
theorem dd_VO_bestRow_1 : decode bb_VO_bestRow 1 = .ok (.istore_n 2, 1) := by decide +kernel
theorem dd_VO_bestRow_2 : decode bb_VO_bestRow 2 = .ok (.iconst 0, 1) := by decide +kernel
theorem dd_VO_bestRow_3 : decode bb_VO_bestRow 3 = .ok (.istore_n 3, 1) := by decide +kernel
theorem dd_VO_bestRow_4 : decode bb_VO_bestRow 4 = .ok (.iconst 0, 1) := by decide +kernel
theorem dd_VO_bestRow_5 : decode bb_VO_bestRow 5 = .ok (.istore 4, 2) := by decide +kernel
theorem dd_VO_bestRow_7 : decode bb_VO_bestRow 7 = .ok (.iload 4, 2) := by decide +kernel
theorem dd_VO_bestRow_9 : decode bb_VO_bestRow 9 = .ok (.bipush 80, 2) := by decide +kernel
theorem dd_VO_bestRow_11 : decode bb_VO_bestRow 11 = .ok (.if_icmp .ge 39, 3) := by decide +kernel
theorem dd_VO_bestRow_14 : decode bb_VO_bestRow 14 = .ok (.aload_n 0, 1) := by decide +kernel
theorem dd_VO_bestRow_15 : decode bb_VO_bestRow 15 = .ok (.iload 4, 2) := by decide +kernel
theorem dd_VO_bestRow_17 : decode bb_VO_bestRow 17 = .ok (.invokevirtual 24, 3) := by decide +kernel
theorem dd_VO_bestRow_20 : decode bb_VO_bestRow 20 = .ok (.istore 5, 2) := by decide +kernel
theorem dd_VO_bestRow_22 : decode bb_VO_bestRow 22 = .ok (.iload 5, 2) := by decide +kernel
theorem dd_VO_bestRow_24 : decode bb_VO_bestRow 24 = .ok (.iload_n 3, 1) := by decide +kernel
theorem dd_VO_bestRow_25 : decode bb_VO_bestRow 25 = .ok (.iload_n 1, 1) := by decide +kernel
theorem dd_VO_bestRow_26 : decode bb_VO_bestRow 26 = .ok (.invokestatic 28, 3) := by decide +kernel
theorem dd_VO_bestRow_29 : decode bb_VO_bestRow 29 = .ok (.ifCond .eq 9, 3) := by decide +kernel
theorem dd_VO_bestRow_32 : decode bb_VO_bestRow 32 = .ok (.iload 4, 2) := by decide +kernel
theorem dd_VO_bestRow_34 : decode bb_VO_bestRow 34 = .ok (.istore_n 2, 1) := by decide +kernel
theorem dd_VO_bestRow_35 : decode bb_VO_bestRow 35 = .ok (.iload 5, 2) := by decide +kernel
theorem dd_VO_bestRow_37 : decode bb_VO_bestRow 37 = .ok (.istore_n 3, 1) := by decide +kernel
theorem dd_VO_bestRow_38 : decode bb_VO_bestRow 38 = .ok (.iload 4, 2) := by decide +kernel
theorem dd_VO_bestRow_40 : decode bb_VO_bestRow 40 = .ok (.iload 5, 2) := by decide +kernel
theorem dd_VO_bestRow_42 : decode bb_VO_bestRow 42 = .ok (.iconst 1, 1) := by decide +kernel
theorem dd_VO_bestRow_43 : decode bb_VO_bestRow 43 = .ok (.iadd, 1) := by decide +kernel
theorem dd_VO_bestRow_44 : decode bb_VO_bestRow 44 = .ok (.iadd, 1) := by decide +kernel
theorem dd_VO_bestRow_45 : decode bb_VO_bestRow 45 = .ok (.istore 4, 2) := by decide +kernel
theorem dd_VO_bestRow_47 : decode bb_VO_bestRow 47 = .ok (.goto (-40), 3) := by decide +kernel
theorem dd_VO_bestRow_50 : decode bb_VO_bestRow 50 = .ok (.iload_n 2, 1) := by decide +kernel
theorem dd_VO_bestRow_51 : decode bb_VO_bestRow 51 = .ok (.ireturn, 1) := by decide +kernel
theorem dd_VO_untakenFrom_0 : decode bb_VO_untakenFrom 0 = .ok (.iload_n 1, 1) := by decide +kernel
theorem dd_VO_untakenFrom_1 : decode bb_VO_untakenFrom 1 = .ok (.istore_n 2, 1) := by decide +kernel
theorem dd_VO_untakenFrom_2 : decode bb_VO_untakenFrom 2 = .ok (.iload_n 2, 1) := by decide +kernel
theorem dd_VO_untakenFrom_3 : decode bb_VO_untakenFrom 3 = .ok (.bipush 80, 2) := by decide +kernel
theorem dd_VO_untakenFrom_5 : decode bb_VO_untakenFrom 5 = .ok (.if_icmp .ge 19, 3) := by decide +kernel
theorem dd_VO_untakenFrom_8 : decode bb_VO_untakenFrom 8 = .ok (.aload_n 0, 1) := by decide +kernel
theorem dd_VO_untakenFrom_9 : decode bb_VO_untakenFrom 9 = .ok (.getfield 9, 3) := by decide +kernel
theorem dd_VO_untakenFrom_12 : decode bb_VO_untakenFrom 12 = .ok (.iload_n 2, 1) := by decide +kernel
theorem dd_VO_untakenFrom_13 : decode bb_VO_untakenFrom 13 = .ok (.iaload, 1) := by decide +kernel
theorem dd_VO_untakenFrom_14 : decode bb_VO_untakenFrom 14 = .ok (.iconst (-1), 1) := by decide +kernel
theorem dd_VO_untakenFrom_15 : decode bb_VO_untakenFrom 15 = .ok (.if_icmp .ne 9, 3) := by decide +kernel
theorem dd_VO_untakenFrom_18 : decode bb_VO_untakenFrom 18 = .ok (.iinc 2 1, 3) := by decide +kernel
theorem dd_VO_untakenFrom_21 : decode bb_VO_untakenFrom 21 = .ok (.goto (-19), 3) := by decide +kernel
theorem dd_VO_untakenFrom_24 : decode bb_VO_untakenFrom 24 = .ok (.iload_n 2, 1) := by decide +kernel
theorem dd_VO_untakenFrom_25 : decode bb_VO_untakenFrom 25 = .ok (.iload_n 1, 1) := by decide +kernel
theorem dd_VO_untakenFrom_26 : decode bb_VO_untakenFrom 26 = .ok (.isub, 1) := by decide +kernel
theorem dd_VO_untakenFrom_27 : decode bb_VO_untakenFrom 27 = .ok (.ireturn, 1) := by decide +kernel
theorem dd_VO_suitsBetter_0 : decode bb_VO_suitsBetter 0 = .ok (.iload_n 1, 1) := by decide +kernel
theorem dd_VO_suitsBetter_1 : decode bb_VO_suitsBetter 1 = .ok (.iload_n 2, 1) := by decide +kernel
theorem dd_VO_suitsBetter_2 : decode bb_VO_suitsBetter 2 = .ok (.if_icmp .ge 14, 3) := by decide +kernel
theorem dd_VO_suitsBetter_5 : decode bb_VO_suitsBetter 5 = .ok (.iload_n 0, 1) := by decide +kernel
theorem dd_VO_suitsBetter_6 : decode bb_VO_suitsBetter 6 = .ok (.iload_n 1, 1) := by decide +kernel
theorem dd_VO_suitsBetter_7 : decode bb_VO_suitsBetter 7 = .ok (.if_icmp .le 7, 3) := by decide +kernel
theorem dd_VO_suitsBetter_10 : decode bb_VO_suitsBetter 10 = .ok (.iconst 1, 1) := by decide +kernel
theorem dd_VO_suitsBetter_11 : decode bb_VO_suitsBetter 11 = .ok (.goto 4, 3) := by decide +kernel
theorem dd_VO_suitsBetter_14 : decode bb_VO_suitsBetter 14 = .ok (.iconst 0, 1) := by decide +kernel
theorem dd_VO_suitsBetter_15 : decode bb_VO_suitsBetter 15 = .ok (.ireturn, 1) := by decide +kernel
theorem dd_VO_suitsBetter_16 : decode bb_VO_suitsBetter 16 = .ok (.iload_n 0, 1) := by decide +kernel
theorem dd_VO_suitsBetter_17 : decode bb_VO_suitsBetter 17 = .ok (.iload_n 2, 1) := by decide +kernel
theorem dd_VO_suitsBetter_18 : decode bb_VO_suitsBetter 18 = .ok (.if_icmp .lt 12, 3) := by decide +kernel
theorem dd_VO_suitsBetter_21 : decode bb_VO_suitsBetter 21 = .ok (.iload_n 0, 1) := by decide +kernel
theorem dd_VO_suitsBetter_22 : decode bb_VO_suitsBetter 22 = .ok (.iload_n 1, 1) := by decide +kernel
theorem dd_VO_suitsBetter_23 : decode bb_VO_suitsBetter 23 = .ok (.if_icmp .ge 7, 3) := by decide +kernel
theorem dd_VO_suitsBetter_26 : decode bb_VO_suitsBetter 26 = .ok (.iconst 1, 1) := by decide +kernel
theorem dd_VO_suitsBetter_27 : decode bb_VO_suitsBetter 27 = .ok (.goto 4, 3) := by decide +kernel
theorem dd_VO_suitsBetter_30 : decode bb_VO_suitsBetter 30 = .ok (.iconst 0, 1) := by decide +kernel
theorem dd_VO_suitsBetter_31 : decode bb_VO_suitsBetter 31 = .ok (.ireturn, 1) := by decide +kernel
