theorem d_Store_init_0 : decode b_Store_init 0 = .ok (.aload_n 0, 1) := by decide +kernel
theorem d_Store_init_1 : decode b_Store_init 1 = .ok (.invokespecial 3, 3) := by decide +kernel
theorem d_Store_init_4 : decode b_Store_init 4 = .ok (.iconst 1, 1) := by decide +kernel
theorem d_Store_init_5 : decode b_Store_init 5 = .ok (.iload_n 1, 1) := by decide +kernel
theorem d_Store_init_6 : decode b_Store_init 6 = .ok (.invokestatic 9, 3) := by decide +kernel
theorem d_Store_init_9 : decode b_Store_init 9 = .ok (.istore_n 2, 1) := by decide +kernel
theorem d_Store_init_10 : decode b_Store_init 10 = .ok (.aload_n 0, 1) := by decide +kernel
theorem d_Store_init_11 : decode b_Store_init 11 = .ok (.iload_n 2, 1) := by decide +kernel
theorem d_Store_init_12 : decode b_Store_init 12 = .ok (.newarray .int, 2) := by decide +kernel
theorem d_Store_init_14 : decode b_Store_init 14 = .ok (.putfield 15, 3) := by decide +kernel
theorem d_Store_init_17 : decode b_Store_init 17 = .ok (.aload_n 0, 1) := by decide +kernel
theorem d_Store_init_18 : decode b_Store_init 18 = .ok (.iload_n 2, 1) := by decide +kernel
theorem d_Store_init_19 : decode b_Store_init 19 = .ok (.newarray .boolean, 2) := by decide +kernel
theorem d_Store_init_21 : decode b_Store_init 21 = .ok (.putfield 21, 3) := by decide +kernel
theorem d_Store_init_24 : decode b_Store_init 24 = .ok (.return_, 1) := by decide +kernel
theorem d_Store_clearMarks_0 : decode b_Store_clearMarks 0 = .ok (.iconst 0, 1) := by decide +kernel
theorem d_Store_clearMarks_1 : decode b_Store_clearMarks 1 = .ok (.istore_n 1, 1) := by decide +kernel
theorem d_Store_clearMarks_2 : decode b_Store_clearMarks 2 = .ok (.iload_n 1, 1) := by decide +kernel
theorem d_Store_clearMarks_3 : decode b_Store_clearMarks 3 = .ok (.aload_n 0, 1) := by decide +kernel
theorem d_Store_clearMarks_4 : decode b_Store_clearMarks 4 = .ok (.getfield 25, 3) := by decide +kernel
theorem d_Store_clearMarks_7 : decode b_Store_clearMarks 7 = .ok (.if_icmp .ge 25, 3) := by decide +kernel
theorem d_Store_clearMarks_10 : decode b_Store_clearMarks 10 = .ok (.iload_n 1, 1) := by decide +kernel
theorem d_Store_clearMarks_11 : decode b_Store_clearMarks 11 = .ok (.aload_n 0, 1) := by decide +kernel
theorem d_Store_clearMarks_12 : decode b_Store_clearMarks 12 = .ok (.getfield 21, 3) := by decide +kernel
theorem d_Store_clearMarks_15 : decode b_Store_clearMarks 15 = .ok (.arraylength, 1) := by decide +kernel
theorem d_Store_clearMarks_16 : decode b_Store_clearMarks 16 = .ok (.if_icmp .ge 16, 3) := by decide +kernel
theorem d_Store_clearMarks_19 : decode b_Store_clearMarks 19 = .ok (.aload_n 0, 1) := by decide +kernel
theorem d_Store_clearMarks_20 : decode b_Store_clearMarks 20 = .ok (.getfield 21, 3) := by decide +kernel
theorem d_Store_clearMarks_23 : decode b_Store_clearMarks 23 = .ok (.iload_n 1, 1) := by decide +kernel
theorem d_Store_clearMarks_24 : decode b_Store_clearMarks 24 = .ok (.iconst 0, 1) := by decide +kernel
theorem d_Store_clearMarks_25 : decode b_Store_clearMarks 25 = .ok (.bastore, 1) := by decide +kernel
theorem d_Store_clearMarks_26 : decode b_Store_clearMarks 26 = .ok (.iinc 1 1, 3) := by decide +kernel
theorem d_Store_clearMarks_29 : decode b_Store_clearMarks 29 = .ok (.goto (-27), 3) := by decide +kernel
theorem d_Store_clearMarks_32 : decode b_Store_clearMarks 32 = .ok (.return_, 1) := by decide +kernel
theorem d_Store_dropLast_0 : decode b_Store_dropLast 0 = .ok (.aload_n 0, 1) := by decide +kernel
theorem d_Store_dropLast_1 : decode b_Store_dropLast 1 = .ok (.getfield 25, 3) := by decide +kernel
theorem d_Store_dropLast_4 : decode b_Store_dropLast 4 = .ok (.iconst 1, 1) := by decide +kernel
theorem d_Store_dropLast_5 : decode b_Store_dropLast 5 = .ok (.isub, 1) := by decide +kernel
theorem d_Store_dropLast_6 : decode b_Store_dropLast 6 = .ok (.istore_n 1, 1) := by decide +kernel
theorem d_Store_dropLast_7 : decode b_Store_dropLast 7 = .ok (.aload_n 0, 1) := by decide +kernel
theorem d_Store_dropLast_8 : decode b_Store_dropLast 8 = .ok (.iload_n 1, 1) := by decide +kernel
theorem d_Store_dropLast_9 : decode b_Store_dropLast 9 = .ok (.invokevirtual 29, 3) := by decide +kernel
theorem d_Store_dropLast_12 : decode b_Store_dropLast 12 = .ok (.ifCond .ne 5, 3) := by decide +kernel
theorem d_Store_dropLast_15 : decode b_Store_dropLast 15 = .ok (.iconst 0, 1) := by decide +kernel
theorem d_Store_dropLast_16 : decode b_Store_dropLast 16 = .ok (.ireturn, 1) := by decide +kernel
theorem d_Store_dropLast_17 : decode b_Store_dropLast 17 = .ok (.aload_n 0, 1) := by decide +kernel
theorem d_Store_dropLast_18 : decode b_Store_dropLast 18 = .ok (.iload_n 1, 1) := by decide +kernel
theorem d_Store_dropLast_19 : decode b_Store_dropLast 19 = .ok (.putfield 25, 3) := by decide +kernel
theorem d_Store_dropLast_22 : decode b_Store_dropLast 22 = .ok (.aload_n 0, 1) := by decide +kernel
theorem d_Store_dropLast_23 : decode b_Store_dropLast 23 = .ok (.getfield 21, 3) := by decide +kernel
theorem d_Store_dropLast_26 : decode b_Store_dropLast 26 = .ok (.iload_n 1, 1) := by decide +kernel
theorem d_Store_dropLast_27 : decode b_Store_dropLast 27 = .ok (.baload, 1) := by decide +kernel
theorem d_Store_dropLast_28 : decode b_Store_dropLast 28 = .ok (.ireturn, 1) := by decide +kernel
theorem d_Store_find_0 : decode b_Store_find 0 = .ok (.iload_n 1, 1) := by decide +kernel
theorem d_Store_find_1 : decode b_Store_find 1 = .ok (.aload_n 0, 1) := by decide +kernel
theorem d_Store_find_2 : decode b_Store_find 2 = .ok (.getfield 15, 3) := by decide +kernel
theorem d_Store_find_5 : decode b_Store_find 5 = .ok (.aload_n 0, 1) := by decide +kernel
theorem d_Store_find_6 : decode b_Store_find 6 = .ok (.getfield 25, 3) := by decide +kernel
theorem d_Store_find_9 : decode b_Store_find 9 = .ok (.invokestatic 33, 3) := by decide +kernel
theorem d_Store_find_12 : decode b_Store_find 12 = .ok (.ireturn, 1) := by decide +kernel
theorem d_Store_has_0 : decode b_Store_has 0 = .ok (.iload_n 1, 1) := by decide +kernel
theorem d_Store_has_1 : decode b_Store_has 1 = .ok (.ifCond .lt 24, 3) := by decide +kernel
theorem d_Store_has_4 : decode b_Store_has 4 = .ok (.iload_n 1, 1) := by decide +kernel
theorem d_Store_has_5 : decode b_Store_has 5 = .ok (.aload_n 0, 1) := by decide +kernel
theorem d_Store_has_6 : decode b_Store_has 6 = .ok (.getfield 25, 3) := by decide +kernel
theorem d_Store_has_9 : decode b_Store_has 9 = .ok (.if_icmp .ge 16, 3) := by decide +kernel
theorem d_Store_has_12 : decode b_Store_has 12 = .ok (.iload_n 1, 1) := by decide +kernel
theorem d_Store_has_13 : decode b_Store_has 13 = .ok (.aload_n 0, 1) := by decide +kernel
theorem d_Store_has_14 : decode b_Store_has 14 = .ok (.getfield 15, 3) := by decide +kernel
theorem d_Store_has_17 : decode b_Store_has 17 = .ok (.arraylength, 1) := by decide +kernel
theorem d_Store_has_18 : decode b_Store_has 18 = .ok (.if_icmp .ge 7, 3) := by decide +kernel
theorem d_Store_has_21 : decode b_Store_has 21 = .ok (.iconst 1, 1) := by decide +kernel
theorem d_Store_has_22 : decode b_Store_has 22 = .ok (.goto 4, 3) := by decide +kernel
theorem d_Store_has_25 : decode b_Store_has 25 = .ok (.iconst 0, 1) := by decide +kernel
theorem d_Store_has_26 : decode b_Store_has 26 = .ok (.ireturn, 1) := by decide +kernel
theorem d_Store_isFull_0 : decode b_Store_isFull 0 = .ok (.aload_n 0, 1) := by decide +kernel
theorem d_Store_isFull_1 : decode b_Store_isFull 1 = .ok (.getfield 25, 3) := by decide +kernel
theorem d_Store_isFull_4 : decode b_Store_isFull 4 = .ok (.aload_n 0, 1) := by decide +kernel
theorem d_Store_isFull_5 : decode b_Store_isFull 5 = .ok (.getfield 15, 3) := by decide +kernel
theorem d_Store_isFull_8 : decode b_Store_isFull 8 = .ok (.arraylength, 1) := by decide +kernel
theorem d_Store_isFull_9 : decode b_Store_isFull 9 = .ok (.if_icmp .lt 7, 3) := by decide +kernel
theorem d_Store_isFull_12 : decode b_Store_isFull 12 = .ok (.iconst 1, 1) := by decide +kernel
theorem d_Store_isFull_13 : decode b_Store_isFull 13 = .ok (.goto 4, 3) := by decide +kernel
theorem d_Store_isFull_16 : decode b_Store_isFull 16 = .ok (.iconst 0, 1) := by decide +kernel
theorem d_Store_isFull_17 : decode b_Store_isFull 17 = .ok (.ireturn, 1) := by decide +kernel
theorem d_Store_isMarked_0 : decode b_Store_isMarked 0 = .ok (.aload_n 0, 1) := by decide +kernel
theorem d_Store_isMarked_1 : decode b_Store_isMarked 1 = .ok (.iload_n 1, 1) := by decide +kernel
theorem d_Store_isMarked_2 : decode b_Store_isMarked 2 = .ok (.invokevirtual 29, 3) := by decide +kernel
theorem d_Store_isMarked_5 : decode b_Store_isMarked 5 = .ok (.ifCond .eq 16, 3) := by decide +kernel
theorem d_Store_isMarked_8 : decode b_Store_isMarked 8 = .ok (.aload_n 0, 1) := by decide +kernel
theorem d_Store_isMarked_9 : decode b_Store_isMarked 9 = .ok (.getfield 21, 3) := by decide +kernel
theorem d_Store_isMarked_12 : decode b_Store_isMarked 12 = .ok (.iload_n 1, 1) := by decide +kernel
theorem d_Store_isMarked_13 : decode b_Store_isMarked 13 = .ok (.baload, 1) := by decide +kernel
theorem d_Store_isMarked_14 : decode b_Store_isMarked 14 = .ok (.ifCond .eq 7, 3) := by decide +kernel
theorem d_Store_isMarked_17 : decode b_Store_isMarked 17 = .ok (.iconst 1, 1) := by decide +kernel
theorem d_Store_isMarked_18 : decode b_Store_isMarked 18 = .ok (.goto 4, 3) := by decide +kernel
theorem d_Store_isMarked_21 : decode b_Store_isMarked 21 = .ok (.iconst 0, 1) := by decide +kernel
theorem d_Store_isMarked_22 : decode b_Store_isMarked 22 = .ok (.ireturn, 1) := by decide +kernel
theorem d_Store_lineAt_0 : decode b_Store_lineAt 0 = .ok (.aload_n 0, 1) := by decide +kernel
theorem d_Store_lineAt_1 : decode b_Store_lineAt 1 = .ok (.iload_n 1, 1) := by decide +kernel
theorem d_Store_lineAt_2 : decode b_Store_lineAt 2 = .ok (.invokevirtual 29, 3) := by decide +kernel
theorem d_Store_lineAt_5 : decode b_Store_lineAt 5 = .ok (.ifCond .eq 12, 3) := by decide +kernel
theorem d_Store_lineAt_8 : decode b_Store_lineAt 8 = .ok (.aload_n 0, 1) := by decide +kernel
theorem d_Store_lineAt_9 : decode b_Store_lineAt 9 = .ok (.getfield 15, 3) := by decide +kernel
theorem d_Store_lineAt_12 : decode b_Store_lineAt 12 = .ok (.iload_n 1, 1) := by decide +kernel
theorem d_Store_lineAt_13 : decode b_Store_lineAt 13 = .ok (.iaload, 1) := by decide +kernel
theorem d_Store_lineAt_14 : decode b_Store_lineAt 14 = .ok (.goto 4, 3) := by decide +kernel
theorem d_Store_lineAt_17 : decode b_Store_lineAt 17 = .ok (.iconst (-1), 1) := by decide +kernel
theorem d_Store_lineAt_18 : decode b_Store_lineAt 18 = .ok (.ireturn, 1) := by decide +kernel
theorem d_Store_markCount_0 : decode b_Store_markCount 0 = .ok (.iconst 0, 1) := by decide +kernel
theorem d_Store_markCount_1 : decode b_Store_markCount 1 = .ok (.istore_n 1, 1) := by decide +kernel
theorem d_Store_markCount_2 : decode b_Store_markCount 2 = .ok (.iconst 0, 1) := by decide +kernel
theorem d_Store_markCount_3 : decode b_Store_markCount 3 = .ok (.istore_n 2, 1) := by decide +kernel
theorem d_Store_markCount_4 : decode b_Store_markCount 4 = .ok (.iload_n 2, 1) := by decide +kernel
theorem d_Store_markCount_5 : decode b_Store_markCount 5 = .ok (.aload_n 0, 1) := by decide +kernel
theorem d_Store_markCount_6 : decode b_Store_markCount 6 = .ok (.getfield 25, 3) := by decide +kernel
theorem d_Store_markCount_9 : decode b_Store_markCount 9 = .ok (.if_icmp .ge 30, 3) := by decide +kernel
theorem d_Store_markCount_12 : decode b_Store_markCount 12 = .ok (.iload_n 2, 1) := by decide +kernel
theorem d_Store_markCount_13 : decode b_Store_markCount 13 = .ok (.aload_n 0, 1) := by decide +kernel
theorem d_Store_markCount_14 : decode b_Store_markCount 14 = .ok (.getfield 21, 3) := by decide +kernel
theorem d_Store_markCount_17 : decode b_Store_markCount 17 = .ok (.arraylength, 1) := by decide +kernel
theorem d_Store_markCount_18 : decode b_Store_markCount 18 = .ok (.if_icmp .ge 21, 3) := by decide +kernel
theorem d_Store_markCount_21 : decode b_Store_markCount 21 = .ok (.aload_n 0, 1) := by decide +kernel
theorem d_Store_markCount_22 : decode b_Store_markCount 22 = .ok (.getfield 21, 3) := by decide +kernel
theorem d_Store_markCount_25 : decode b_Store_markCount 25 = .ok (.iload_n 2, 1) := by decide +kernel
theorem d_Store_markCount_26 : decode b_Store_markCount 26 = .ok (.baload, 1) := by decide +kernel
theorem d_Store_markCount_27 : decode b_Store_markCount 27 = .ok (.ifCond .eq 6, 3) := by decide +kernel
theorem d_Store_markCount_30 : decode b_Store_markCount 30 = .ok (.iinc 1 1, 3) := by decide +kernel
theorem d_Store_markCount_33 : decode b_Store_markCount 33 = .ok (.iinc 2 1, 3) := by decide +kernel
theorem d_Store_markCount_36 : decode b_Store_markCount 36 = .ok (.goto (-32), 3) := by decide +kernel
theorem d_Store_markCount_39 : decode b_Store_markCount 39 = .ok (.iload_n 1, 1) := by decide +kernel
theorem d_Store_markCount_40 : decode b_Store_markCount 40 = .ok (.ireturn, 1) := by decide +kernel
theorem d_Store_moveInFront_0 : decode b_Store_moveInFront 0 = .ok (.iload_n 1, 1) := by decide +kernel
theorem d_Store_moveInFront_1 : decode b_Store_moveInFront 1 = .ok (.aload_n 0, 1) := by decide +kernel
theorem d_Store_moveInFront_2 : decode b_Store_moveInFront 2 = .ok (.getfield 15, 3) := by decide +kernel
theorem d_Store_moveInFront_5 : decode b_Store_moveInFront 5 = .ok (.arraylength, 1) := by decide +kernel
theorem d_Store_moveInFront_6 : decode b_Store_moveInFront 6 = .ok (.iconst 1, 1) := by decide +kernel
theorem d_Store_moveInFront_7 : decode b_Store_moveInFront 7 = .ok (.isub, 1) := by decide +kernel
theorem d_Store_moveInFront_8 : decode b_Store_moveInFront 8 = .ok (.invokestatic 41, 3) := by decide +kernel
theorem d_Store_moveInFront_11 : decode b_Store_moveInFront 11 = .ok (.istore 4, 2) := by decide +kernel
theorem d_Store_moveInFront_13 : decode b_Store_moveInFront 13 = .ok (.iload 4, 2) := by decide +kernel
theorem d_Store_moveInFront_15 : decode b_Store_moveInFront 15 = .ok (.ifCond .le 41, 3) := by decide +kernel
theorem d_Store_moveInFront_18 : decode b_Store_moveInFront 18 = .ok (.aload_n 0, 1) := by decide +kernel
theorem d_Store_moveInFront_19 : decode b_Store_moveInFront 19 = .ok (.getfield 15, 3) := by decide +kernel
theorem d_Store_moveInFront_22 : decode b_Store_moveInFront 22 = .ok (.iload 4, 2) := by decide +kernel
theorem d_Store_moveInFront_24 : decode b_Store_moveInFront 24 = .ok (.aload_n 0, 1) := by decide +kernel
theorem d_Store_moveInFront_25 : decode b_Store_moveInFront 25 = .ok (.getfield 15, 3) := by decide +kernel
theorem d_Store_moveInFront_28 : decode b_Store_moveInFront 28 = .ok (.iload 4, 2) := by decide +kernel
theorem d_Store_moveInFront_30 : decode b_Store_moveInFront 30 = .ok (.iconst 1, 1) := by decide +kernel
theorem d_Store_moveInFront_31 : decode b_Store_moveInFront 31 = .ok (.isub, 1) := by decide +kernel
theorem d_Store_moveInFront_32 : decode b_Store_moveInFront 32 = .ok (.iaload, 1) := by decide +kernel
theorem d_Store_moveInFront_33 : decode b_Store_moveInFront 33 = .ok (.iastore, 1) := by decide +kernel
theorem d_Store_moveInFront_34 : decode b_Store_moveInFront 34 = .ok (.aload_n 0, 1) := by decide +kernel
theorem d_Store_moveInFront_35 : decode b_Store_moveInFront 35 = .ok (.getfield 21, 3) := by decide +kernel
theorem d_Store_moveInFront_38 : decode b_Store_moveInFront 38 = .ok (.iload 4, 2) := by decide +kernel
theorem d_Store_moveInFront_40 : decode b_Store_moveInFront 40 = .ok (.aload_n 0, 1) := by decide +kernel
theorem d_Store_moveInFront_41 : decode b_Store_moveInFront 41 = .ok (.getfield 21, 3) := by decide +kernel
theorem d_Store_moveInFront_44 : decode b_Store_moveInFront 44 = .ok (.iload 4, 2) := by decide +kernel
theorem d_Store_moveInFront_46 : decode b_Store_moveInFront 46 = .ok (.iconst 1, 1) := by decide +kernel
theorem d_Store_moveInFront_47 : decode b_Store_moveInFront 47 = .ok (.isub, 1) := by decide +kernel
theorem d_Store_moveInFront_48 : decode b_Store_moveInFront 48 = .ok (.baload, 1) := by decide +kernel
theorem d_Store_moveInFront_49 : decode b_Store_moveInFront 49 = .ok (.bastore, 1) := by decide +kernel
theorem d_Store_moveInFront_50 : decode b_Store_moveInFront 50 = .ok (.iinc 4 (-1), 3) := by decide +kernel
theorem d_Store_moveInFront_53 : decode b_Store_moveInFront 53 = .ok (.goto (-40), 3) := by decide +kernel
theorem d_Store_moveInFront_56 : decode b_Store_moveInFront 56 = .ok (.aload_n 0, 1) := by decide +kernel
theorem d_Store_moveInFront_57 : decode b_Store_moveInFront 57 = .ok (.getfield 15, 3) := by decide +kernel
theorem d_Store_moveInFront_60 : decode b_Store_moveInFront 60 = .ok (.iconst 0, 1) := by decide +kernel
theorem d_Store_moveInFront_61 : decode b_Store_moveInFront 61 = .ok (.iload_n 2, 1) := by decide +kernel
theorem d_Store_moveInFront_62 : decode b_Store_moveInFront 62 = .ok (.iastore, 1) := by decide +kernel
theorem d_Store_moveInFront_63 : decode b_Store_moveInFront 63 = .ok (.aload_n 0, 1) := by decide +kernel
theorem d_Store_moveInFront_64 : decode b_Store_moveInFront 64 = .ok (.getfield 21, 3) := by decide +kernel
theorem d_Store_moveInFront_67 : decode b_Store_moveInFront 67 = .ok (.iconst 0, 1) := by decide +kernel
theorem d_Store_moveInFront_68 : decode b_Store_moveInFront 68 = .ok (.iload_n 3, 1) := by decide +kernel
theorem d_Store_moveInFront_69 : decode b_Store_moveInFront 69 = .ok (.bastore, 1) := by decide +kernel
theorem d_Store_moveInFront_70 : decode b_Store_moveInFront 70 = .ok (.return_, 1) := by decide +kernel
theorem d_Store_putFirst_0 : decode b_Store_putFirst 0 = .ok (.aload_n 0, 1) := by decide +kernel
theorem d_Store_putFirst_1 : decode b_Store_putFirst 1 = .ok (.getfield 25, 3) := by decide +kernel
theorem d_Store_putFirst_4 : decode b_Store_putFirst 4 = .ok (.aload_n 0, 1) := by decide +kernel
theorem d_Store_putFirst_5 : decode b_Store_putFirst 5 = .ok (.getfield 15, 3) := by decide +kernel
theorem d_Store_putFirst_8 : decode b_Store_putFirst 8 = .ok (.arraylength, 1) := by decide +kernel
theorem d_Store_putFirst_9 : decode b_Store_putFirst 9 = .ok (.if_icmp .ge 25, 3) := by decide +kernel
theorem d_Store_putFirst_12 : decode b_Store_putFirst 12 = .ok (.aload_n 0, 1) := by decide +kernel
theorem d_Store_putFirst_13 : decode b_Store_putFirst 13 = .ok (.dup, 1) := by decide +kernel
theorem d_Store_putFirst_14 : decode b_Store_putFirst 14 = .ok (.getfield 25, 3) := by decide +kernel
theorem d_Store_putFirst_17 : decode b_Store_putFirst 17 = .ok (.iconst 1, 1) := by decide +kernel
theorem d_Store_putFirst_18 : decode b_Store_putFirst 18 = .ok (.iadd, 1) := by decide +kernel
theorem d_Store_putFirst_19 : decode b_Store_putFirst 19 = .ok (.putfield 25, 3) := by decide +kernel
theorem d_Store_putFirst_22 : decode b_Store_putFirst 22 = .ok (.aload_n 0, 1) := by decide +kernel
theorem d_Store_putFirst_23 : decode b_Store_putFirst 23 = .ok (.aload_n 0, 1) := by decide +kernel
theorem d_Store_putFirst_24 : decode b_Store_putFirst 24 = .ok (.getfield 25, 3) := by decide +kernel
theorem d_Store_putFirst_27 : decode b_Store_putFirst 27 = .ok (.iconst 1, 1) := by decide +kernel
theorem d_Store_putFirst_28 : decode b_Store_putFirst 28 = .ok (.isub, 1) := by decide +kernel
theorem d_Store_putFirst_29 : decode b_Store_putFirst 29 = .ok (.iload_n 1, 1) := by decide +kernel
theorem d_Store_putFirst_30 : decode b_Store_putFirst 30 = .ok (.iload_n 2, 1) := by decide +kernel
theorem d_Store_putFirst_31 : decode b_Store_putFirst 31 = .ok (.invokevirtual 37, 3) := by decide +kernel
theorem d_Store_putFirst_34 : decode b_Store_putFirst 34 = .ok (.return_, 1) := by decide +kernel
theorem d_Store_size_0 : decode b_Store_size 0 = .ok (.aload_n 0, 1) := by decide +kernel
theorem d_Store_size_1 : decode b_Store_size 1 = .ok (.getfield 25, 3) := by decide +kernel
theorem d_Store_size_4 : decode b_Store_size 4 = .ok (.ireturn, 1) := by decide +kernel
theorem d_Store_use_0 : decode b_Store_use 0 = .ok (.aload_n 0, 1) := by decide +kernel
theorem d_Store_use_1 : decode b_Store_use 1 = .ok (.iload_n 1, 1) := by decide +kernel
theorem d_Store_use_2 : decode b_Store_use 2 = .ok (.invokevirtual 29, 3) := by decide +kernel
theorem d_Store_use_5 : decode b_Store_use 5 = .ok (.ifCond .eq 15, 3) := by decide +kernel
theorem d_Store_use_8 : decode b_Store_use 8 = .ok (.aload_n 0, 1) := by decide +kernel
theorem d_Store_use_9 : decode b_Store_use 9 = .ok (.iload_n 1, 1) := by decide +kernel
theorem d_Store_use_10 : decode b_Store_use 10 = .ok (.aload_n 0, 1) := by decide +kernel
theorem d_Store_use_11 : decode b_Store_use 11 = .ok (.getfield 15, 3) := by decide +kernel
theorem d_Store_use_14 : decode b_Store_use 14 = .ok (.iload_n 1, 1) := by decide +kernel
theorem d_Store_use_15 : decode b_Store_use 15 = .ok (.iaload, 1) := by decide +kernel
theorem d_Store_use_16 : decode b_Store_use 16 = .ok (.iconst 0, 1) := by decide +kernel
theorem d_Store_use_17 : decode b_Store_use 17 = .ok (.invokevirtual 37, 3) := by decide +kernel
theorem d_Store_use_20 : decode b_Store_use 20 = .ok (.return_, 1) := by decide +kernel
theorem d_Queue_init_0 : decode b_Queue_init 0 = .ok (.aload_n 0, 1) := by decide +kernel
theorem d_Queue_init_1 : decode b_Queue_init 1 = .ok (.invokespecial 3, 3) := by decide +kernel
theorem d_Queue_init_4 : decode b_Queue_init 4 = .ok (.aload_n 0, 1) := by decide +kernel
theorem d_Queue_init_5 : decode b_Queue_init 5 = .ok (.bipush 8, 2) := by decide +kernel
theorem d_Queue_init_7 : decode b_Queue_init 7 = .ok (.newarray .int, 2) := by decide +kernel
theorem d_Queue_init_9 : decode b_Queue_init 9 = .ok (.putfield 11, 3) := by decide +kernel
theorem d_Queue_init_12 : decode b_Queue_init 12 = .ok (.aload_n 0, 1) := by decide +kernel
theorem d_Queue_init_13 : decode b_Queue_init 13 = .ok (.bipush 8, 2) := by decide +kernel
theorem d_Queue_init_15 : decode b_Queue_init 15 = .ok (.newarray .int, 2) := by decide +kernel
theorem d_Queue_init_17 : decode b_Queue_init 17 = .ok (.putfield 15, 3) := by decide +kernel
theorem d_Queue_init_20 : decode b_Queue_init 20 = .ok (.return_, 1) := by decide +kernel
theorem d_Queue_add_0 : decode b_Queue_add 0 = .ok (.aload_n 0, 1) := by decide +kernel
theorem d_Queue_add_1 : decode b_Queue_add 1 = .ok (.getfield 18, 3) := by decide +kernel
theorem d_Queue_add_4 : decode b_Queue_add 4 = .ok (.ifCond .lt 42, 3) := by decide +kernel
theorem d_Queue_add_7 : decode b_Queue_add 7 = .ok (.aload_n 0, 1) := by decide +kernel
theorem d_Queue_add_8 : decode b_Queue_add 8 = .ok (.getfield 18, 3) := by decide +kernel
theorem d_Queue_add_11 : decode b_Queue_add 11 = .ok (.bipush 8, 2) := by decide +kernel
theorem d_Queue_add_13 : decode b_Queue_add 13 = .ok (.if_icmp .ge 33, 3) := by decide +kernel
theorem d_Queue_add_16 : decode b_Queue_add 16 = .ok (.aload_n 0, 1) := by decide +kernel
theorem d_Queue_add_17 : decode b_Queue_add 17 = .ok (.getfield 11, 3) := by decide +kernel
theorem d_Queue_add_20 : decode b_Queue_add 20 = .ok (.aload_n 0, 1) := by decide +kernel
theorem d_Queue_add_21 : decode b_Queue_add 21 = .ok (.getfield 18, 3) := by decide +kernel
theorem d_Queue_add_24 : decode b_Queue_add 24 = .ok (.iload_n 1, 1) := by decide +kernel
theorem d_Queue_add_25 : decode b_Queue_add 25 = .ok (.iastore, 1) := by decide +kernel
theorem d_Queue_add_26 : decode b_Queue_add 26 = .ok (.aload_n 0, 1) := by decide +kernel
theorem d_Queue_add_27 : decode b_Queue_add 27 = .ok (.getfield 15, 3) := by decide +kernel
theorem d_Queue_add_30 : decode b_Queue_add 30 = .ok (.aload_n 0, 1) := by decide +kernel
theorem d_Queue_add_31 : decode b_Queue_add 31 = .ok (.getfield 18, 3) := by decide +kernel
theorem d_Queue_add_34 : decode b_Queue_add 34 = .ok (.iload_n 2, 1) := by decide +kernel
theorem d_Queue_add_35 : decode b_Queue_add 35 = .ok (.iastore, 1) := by decide +kernel
theorem d_Queue_add_36 : decode b_Queue_add 36 = .ok (.aload_n 0, 1) := by decide +kernel
theorem d_Queue_add_37 : decode b_Queue_add 37 = .ok (.dup, 1) := by decide +kernel
theorem d_Queue_add_38 : decode b_Queue_add 38 = .ok (.getfield 18, 3) := by decide +kernel
theorem d_Queue_add_41 : decode b_Queue_add 41 = .ok (.iconst 1, 1) := by decide +kernel
theorem d_Queue_add_42 : decode b_Queue_add 42 = .ok (.iadd, 1) := by decide +kernel
theorem d_Queue_add_43 : decode b_Queue_add 43 = .ok (.putfield 18, 3) := by decide +kernel
theorem d_Queue_add_46 : decode b_Queue_add 46 = .ok (.return_, 1) := by decide +kernel
theorem d_Queue_clear_0 : decode b_Queue_clear 0 = .ok (.aload_n 0, 1) := by decide +kernel
theorem d_Queue_clear_1 : decode b_Queue_clear 1 = .ok (.iconst 0, 1) := by decide +kernel
theorem d_Queue_clear_2 : decode b_Queue_clear 2 = .ok (.putfield 18, 3) := by decide +kernel
theorem d_Queue_clear_5 : decode b_Queue_clear 5 = .ok (.return_, 1) := by decide +kernel
theorem d_Queue_cycleAt_0 : decode b_Queue_cycleAt 0 = .ok (.aload_n 0, 1) := by decide +kernel
theorem d_Queue_cycleAt_1 : decode b_Queue_cycleAt 1 = .ok (.iload_n 1, 1) := by decide +kernel
theorem d_Queue_cycleAt_2 : decode b_Queue_cycleAt 2 = .ok (.invokevirtual 22, 3) := by decide +kernel
theorem d_Queue_cycleAt_5 : decode b_Queue_cycleAt 5 = .ok (.ifCond .eq 12, 3) := by decide +kernel
theorem d_Queue_cycleAt_8 : decode b_Queue_cycleAt 8 = .ok (.aload_n 0, 1) := by decide +kernel
theorem d_Queue_cycleAt_9 : decode b_Queue_cycleAt 9 = .ok (.getfield 15, 3) := by decide +kernel
theorem d_Queue_cycleAt_12 : decode b_Queue_cycleAt 12 = .ok (.iload_n 1, 1) := by decide +kernel
theorem d_Queue_cycleAt_13 : decode b_Queue_cycleAt 13 = .ok (.iaload, 1) := by decide +kernel
theorem d_Queue_cycleAt_14 : decode b_Queue_cycleAt 14 = .ok (.goto 4, 3) := by decide +kernel
theorem d_Queue_cycleAt_17 : decode b_Queue_cycleAt 17 = .ok (.iconst (-1), 1) := by decide +kernel
theorem d_Queue_cycleAt_18 : decode b_Queue_cycleAt 18 = .ok (.ireturn, 1) := by decide +kernel
theorem d_Queue_find_0 : decode b_Queue_find 0 = .ok (.iload_n 1, 1) := by decide +kernel
theorem d_Queue_find_1 : decode b_Queue_find 1 = .ok (.aload_n 0, 1) := by decide +kernel
theorem d_Queue_find_2 : decode b_Queue_find 2 = .ok (.getfield 11, 3) := by decide +kernel
theorem d_Queue_find_5 : decode b_Queue_find 5 = .ok (.aload_n 0, 1) := by decide +kernel
theorem d_Queue_find_6 : decode b_Queue_find 6 = .ok (.getfield 18, 3) := by decide +kernel
theorem d_Queue_find_9 : decode b_Queue_find 9 = .ok (.invokestatic 26, 3) := by decide +kernel
theorem d_Queue_find_12 : decode b_Queue_find 12 = .ok (.ireturn, 1) := by decide +kernel
theorem d_Queue_firstIsDue_0 : decode b_Queue_firstIsDue 0 = .ok (.aload_n 0, 1) := by decide +kernel
theorem d_Queue_firstIsDue_1 : decode b_Queue_firstIsDue 1 = .ok (.getfield 18, 3) := by decide +kernel
theorem d_Queue_firstIsDue_4 : decode b_Queue_firstIsDue 4 = .ok (.ifCond .le 17, 3) := by decide +kernel
theorem d_Queue_firstIsDue_7 : decode b_Queue_firstIsDue 7 = .ok (.aload_n 0, 1) := by decide +kernel
theorem d_Queue_firstIsDue_8 : decode b_Queue_firstIsDue 8 = .ok (.getfield 15, 3) := by decide +kernel
theorem d_Queue_firstIsDue_11 : decode b_Queue_firstIsDue 11 = .ok (.iconst 0, 1) := by decide +kernel
theorem d_Queue_firstIsDue_12 : decode b_Queue_firstIsDue 12 = .ok (.iaload, 1) := by decide +kernel
theorem d_Queue_firstIsDue_13 : decode b_Queue_firstIsDue 13 = .ok (.iload_n 1, 1) := by decide +kernel
theorem d_Queue_firstIsDue_14 : decode b_Queue_firstIsDue 14 = .ok (.if_icmp .gt 7, 3) := by decide +kernel
theorem d_Queue_firstIsDue_17 : decode b_Queue_firstIsDue 17 = .ok (.iconst 1, 1) := by decide +kernel
theorem d_Queue_firstIsDue_18 : decode b_Queue_firstIsDue 18 = .ok (.goto 4, 3) := by decide +kernel
theorem d_Queue_firstIsDue_21 : decode b_Queue_firstIsDue 21 = .ok (.iconst 0, 1) := by decide +kernel
theorem d_Queue_firstIsDue_22 : decode b_Queue_firstIsDue 22 = .ok (.ireturn, 1) := by decide +kernel
theorem d_Queue_has_0 : decode b_Queue_has 0 = .ok (.iload_n 1, 1) := by decide +kernel
theorem d_Queue_has_1 : decode b_Queue_has 1 = .ok (.ifCond .lt 21, 3) := by decide +kernel
theorem d_Queue_has_4 : decode b_Queue_has 4 = .ok (.iload_n 1, 1) := by decide +kernel
theorem d_Queue_has_5 : decode b_Queue_has 5 = .ok (.aload_n 0, 1) := by decide +kernel
theorem d_Queue_has_6 : decode b_Queue_has 6 = .ok (.getfield 18, 3) := by decide +kernel
theorem d_Queue_has_9 : decode b_Queue_has 9 = .ok (.if_icmp .ge 13, 3) := by decide +kernel
theorem d_Queue_has_12 : decode b_Queue_has 12 = .ok (.iload_n 1, 1) := by decide +kernel
theorem d_Queue_has_13 : decode b_Queue_has 13 = .ok (.bipush 8, 2) := by decide +kernel
theorem d_Queue_has_15 : decode b_Queue_has 15 = .ok (.if_icmp .ge 7, 3) := by decide +kernel
theorem d_Queue_has_18 : decode b_Queue_has 18 = .ok (.iconst 1, 1) := by decide +kernel
theorem d_Queue_has_19 : decode b_Queue_has 19 = .ok (.goto 4, 3) := by decide +kernel
theorem d_Queue_has_22 : decode b_Queue_has 22 = .ok (.iconst 0, 1) := by decide +kernel
theorem d_Queue_has_23 : decode b_Queue_has 23 = .ok (.ireturn, 1) := by decide +kernel
theorem d_Queue_isFull_0 : decode b_Queue_isFull 0 = .ok (.aload_n 0, 1) := by decide +kernel
theorem d_Queue_isFull_1 : decode b_Queue_isFull 1 = .ok (.getfield 18, 3) := by decide +kernel
theorem d_Queue_isFull_4 : decode b_Queue_isFull 4 = .ok (.bipush 8, 2) := by decide +kernel
theorem d_Queue_isFull_6 : decode b_Queue_isFull 6 = .ok (.if_icmp .lt 7, 3) := by decide +kernel
theorem d_Queue_isFull_9 : decode b_Queue_isFull 9 = .ok (.iconst 1, 1) := by decide +kernel
theorem d_Queue_isFull_10 : decode b_Queue_isFull 10 = .ok (.goto 4, 3) := by decide +kernel
theorem d_Queue_isFull_13 : decode b_Queue_isFull 13 = .ok (.iconst 0, 1) := by decide +kernel
theorem d_Queue_isFull_14 : decode b_Queue_isFull 14 = .ok (.ireturn, 1) := by decide +kernel
theorem d_Queue_lineAt_0 : decode b_Queue_lineAt 0 = .ok (.aload_n 0, 1) := by decide +kernel
theorem d_Queue_lineAt_1 : decode b_Queue_lineAt 1 = .ok (.iload_n 1, 1) := by decide +kernel
theorem d_Queue_lineAt_2 : decode b_Queue_lineAt 2 = .ok (.invokevirtual 22, 3) := by decide +kernel
theorem d_Queue_lineAt_5 : decode b_Queue_lineAt 5 = .ok (.ifCond .eq 12, 3) := by decide +kernel
theorem d_Queue_lineAt_8 : decode b_Queue_lineAt 8 = .ok (.aload_n 0, 1) := by decide +kernel
theorem d_Queue_lineAt_9 : decode b_Queue_lineAt 9 = .ok (.getfield 11, 3) := by decide +kernel
theorem d_Queue_lineAt_12 : decode b_Queue_lineAt 12 = .ok (.iload_n 1, 1) := by decide +kernel
theorem d_Queue_lineAt_13 : decode b_Queue_lineAt 13 = .ok (.iaload, 1) := by decide +kernel
theorem d_Queue_lineAt_14 : decode b_Queue_lineAt 14 = .ok (.goto 4, 3) := by decide +kernel
theorem d_Queue_lineAt_17 : decode b_Queue_lineAt 17 = .ok (.iconst (-1), 1) := by decide +kernel
theorem d_Queue_lineAt_18 : decode b_Queue_lineAt 18 = .ok (.ireturn, 1) := by decide +kernel
theorem d_Queue_remove_0 : decode b_Queue_remove 0 = .ok (.aload_n 0, 1) := by decide +kernel
theorem d_Queue_remove_1 : decode b_Queue_remove 1 = .ok (.iload_n 1, 1) := by decide +kernel
theorem d_Queue_remove_2 : decode b_Queue_remove 2 = .ok (.invokevirtual 22, 3) := by decide +kernel
theorem d_Queue_remove_5 : decode b_Queue_remove 5 = .ok (.ifCond .ne 4, 3) := by decide +kernel
theorem d_Queue_remove_8 : decode b_Queue_remove 8 = .ok (.return_, 1) := by decide +kernel
theorem d_Queue_remove_9 : decode b_Queue_remove 9 = .ok (.aload_n 0, 1) := by decide +kernel
theorem d_Queue_remove_10 : decode b_Queue_remove 10 = .ok (.dup, 1) := by decide +kernel
theorem d_Queue_remove_11 : decode b_Queue_remove 11 = .ok (.getfield 18, 3) := by decide +kernel
theorem d_Queue_remove_14 : decode b_Queue_remove 14 = .ok (.iconst 1, 1) := by decide +kernel
theorem d_Queue_remove_15 : decode b_Queue_remove 15 = .ok (.isub, 1) := by decide +kernel
theorem d_Queue_remove_16 : decode b_Queue_remove 16 = .ok (.putfield 18, 3) := by decide +kernel
theorem d_Queue_remove_19 : decode b_Queue_remove 19 = .ok (.iload_n 1, 1) := by decide +kernel
theorem d_Queue_remove_20 : decode b_Queue_remove 20 = .ok (.istore_n 2, 1) := by decide +kernel
theorem d_Queue_remove_21 : decode b_Queue_remove 21 = .ok (.iload_n 2, 1) := by decide +kernel
theorem d_Queue_remove_22 : decode b_Queue_remove 22 = .ok (.aload_n 0, 1) := by decide +kernel
theorem d_Queue_remove_23 : decode b_Queue_remove 23 = .ok (.getfield 18, 3) := by decide +kernel
theorem d_Queue_remove_26 : decode b_Queue_remove 26 = .ok (.if_icmp .ge 45, 3) := by decide +kernel
theorem d_Queue_remove_29 : decode b_Queue_remove 29 = .ok (.iload_n 2, 1) := by decide +kernel
theorem d_Queue_remove_30 : decode b_Queue_remove 30 = .ok (.iconst 1, 1) := by decide +kernel
theorem d_Queue_remove_31 : decode b_Queue_remove 31 = .ok (.iadd, 1) := by decide +kernel
theorem d_Queue_remove_32 : decode b_Queue_remove 32 = .ok (.bipush 8, 2) := by decide +kernel
theorem d_Queue_remove_34 : decode b_Queue_remove 34 = .ok (.if_icmp .ge 37, 3) := by decide +kernel
theorem d_Queue_remove_37 : decode b_Queue_remove 37 = .ok (.aload_n 0, 1) := by decide +kernel
theorem d_Queue_remove_38 : decode b_Queue_remove 38 = .ok (.getfield 11, 3) := by decide +kernel
theorem d_Queue_remove_41 : decode b_Queue_remove 41 = .ok (.iload_n 2, 1) := by decide +kernel
theorem d_Queue_remove_42 : decode b_Queue_remove 42 = .ok (.aload_n 0, 1) := by decide +kernel
theorem d_Queue_remove_43 : decode b_Queue_remove 43 = .ok (.getfield 11, 3) := by decide +kernel
theorem d_Queue_remove_46 : decode b_Queue_remove 46 = .ok (.iload_n 2, 1) := by decide +kernel
theorem d_Queue_remove_47 : decode b_Queue_remove 47 = .ok (.iconst 1, 1) := by decide +kernel
theorem d_Queue_remove_48 : decode b_Queue_remove 48 = .ok (.iadd, 1) := by decide +kernel
theorem d_Queue_remove_49 : decode b_Queue_remove 49 = .ok (.iaload, 1) := by decide +kernel
theorem d_Queue_remove_50 : decode b_Queue_remove 50 = .ok (.iastore, 1) := by decide +kernel
theorem d_Queue_remove_51 : decode b_Queue_remove 51 = .ok (.aload_n 0, 1) := by decide +kernel
theorem d_Queue_remove_52 : decode b_Queue_remove 52 = .ok (.getfield 15, 3) := by decide +kernel
theorem d_Queue_remove_55 : decode b_Queue_remove 55 = .ok (.iload_n 2, 1) := by decide +kernel
theorem d_Queue_remove_56 : decode b_Queue_remove 56 = .ok (.aload_n 0, 1) := by decide +kernel
theorem d_Queue_remove_57 : decode b_Queue_remove 57 = .ok (.getfield 15, 3) := by decide +kernel
theorem d_Queue_remove_60 : decode b_Queue_remove 60 = .ok (.iload_n 2, 1) := by decide +kernel
theorem d_Queue_remove_61 : decode b_Queue_remove 61 = .ok (.iconst 1, 1) := by decide +kernel
theorem d_Queue_remove_62 : decode b_Queue_remove 62 = .ok (.iadd, 1) := by decide +kernel
theorem d_Queue_remove_63 : decode b_Queue_remove 63 = .ok (.iaload, 1) := by decide +kernel
theorem d_Queue_remove_64 : decode b_Queue_remove 64 = .ok (.iastore, 1) := by decide +kernel
theorem d_Queue_remove_65 : decode b_Queue_remove 65 = .ok (.iinc 2 1, 3) := by decide +kernel
theorem d_Queue_remove_68 : decode b_Queue_remove 68 = .ok (.goto (-47), 3) := by decide +kernel
theorem d_Queue_remove_71 : decode b_Queue_remove 71 = .ok (.return_, 1) := by decide +kernel
theorem d_Queue_size_0 : decode b_Queue_size 0 = .ok (.aload_n 0, 1) := by decide +kernel
theorem d_Queue_size_1 : decode b_Queue_size 1 = .ok (.getfield 18, 3) := by decide +kernel
theorem d_Queue_size_4 : decode b_Queue_size 4 = .ok (.ireturn, 1) := by decide +kernel
theorem d_Rule_init_0 : decode b_Rule_init 0 = .ok (.aload_n 0, 1) := by decide +kernel
theorem d_Rule_init_1 : decode b_Rule_init 1 = .ok (.invokespecial 3, 3) := by decide +kernel
theorem d_Rule_init_4 : decode b_Rule_init 4 = .ok (.aload_n 0, 1) := by decide +kernel
theorem d_Rule_init_5 : decode b_Rule_init 5 = .ok (.iconst 4, 1) := by decide +kernel
theorem d_Rule_init_6 : decode b_Rule_init 6 = .ok (.newarray .int, 2) := by decide +kernel
theorem d_Rule_init_8 : decode b_Rule_init 8 = .ok (.putfield 9, 3) := by decide +kernel
theorem d_Rule_init_11 : decode b_Rule_init 11 = .ok (.aload_n 0, 1) := by decide +kernel
theorem d_Rule_init_12 : decode b_Rule_init 12 = .ok (.iload_n 1, 1) := by decide +kernel
theorem d_Rule_init_13 : decode b_Rule_init 13 = .ok (.putfield 15, 3) := by decide +kernel
theorem d_Rule_init_16 : decode b_Rule_init 16 = .ok (.return_, 1) := by decide +kernel
theorem d_Rule_degree_0 : decode b_Rule_degree 0 = .ok (.aload_n 0, 1) := by decide +kernel
theorem d_Rule_degree_1 : decode b_Rule_degree 1 = .ok (.getfield 15, 3) := by decide +kernel
theorem d_Rule_degree_4 : decode b_Rule_degree 4 = .ok (.ireturn, 1) := by decide +kernel
theorem d_Rule_hear_0 : decode b_Rule_hear 0 = .ok (.aload_n 0, 1) := by decide +kernel
theorem d_Rule_hear_1 : decode b_Rule_hear 1 = .ok (.iconst 0, 1) := by decide +kernel
theorem d_Rule_hear_2 : decode b_Rule_hear 2 = .ok (.putfield 19, 3) := by decide +kernel
theorem d_Rule_hear_5 : decode b_Rule_hear 5 = .ok (.aload_n 0, 1) := by decide +kernel
theorem d_Rule_hear_6 : decode b_Rule_hear 6 = .ok (.iload_n 1, 1) := by decide +kernel
theorem d_Rule_hear_7 : decode b_Rule_hear 7 = .ok (.iload_n 2, 1) := by decide +kernel
theorem d_Rule_hear_8 : decode b_Rule_hear 8 = .ok (.invokevirtual 22, 3) := by decide +kernel
theorem d_Rule_hear_11 : decode b_Rule_hear 11 = .ok (.return_, 1) := by decide +kernel
theorem d_Rule_roundCount_0 : decode b_Rule_roundCount 0 = .ok (.iconst 0, 1) := by decide +kernel
theorem d_Rule_roundCount_1 : decode b_Rule_roundCount 1 = .ok (.ireturn, 1) := by decide +kernel
theorem d_Rule_saidCount_0 : decode b_Rule_saidCount 0 = .ok (.aload_n 0, 1) := by decide +kernel
theorem d_Rule_saidCount_1 : decode b_Rule_saidCount 1 = .ok (.getfield 19, 3) := by decide +kernel
theorem d_Rule_saidCount_4 : decode b_Rule_saidCount 4 = .ok (.ireturn, 1) := by decide +kernel
theorem d_Rule_saidLine_0 : decode b_Rule_saidLine 0 = .ok (.iload_n 1, 1) := by decide +kernel
theorem d_Rule_saidLine_1 : decode b_Rule_saidLine 1 = .ok (.ifCond .lt 29, 3) := by decide +kernel
theorem d_Rule_saidLine_4 : decode b_Rule_saidLine 4 = .ok (.iload_n 1, 1) := by decide +kernel
theorem d_Rule_saidLine_5 : decode b_Rule_saidLine 5 = .ok (.aload_n 0, 1) := by decide +kernel
theorem d_Rule_saidLine_6 : decode b_Rule_saidLine 6 = .ok (.getfield 19, 3) := by decide +kernel
theorem d_Rule_saidLine_9 : decode b_Rule_saidLine 9 = .ok (.if_icmp .ge 21, 3) := by decide +kernel
theorem d_Rule_saidLine_12 : decode b_Rule_saidLine 12 = .ok (.iload_n 1, 1) := by decide +kernel
theorem d_Rule_saidLine_13 : decode b_Rule_saidLine 13 = .ok (.aload_n 0, 1) := by decide +kernel
theorem d_Rule_saidLine_14 : decode b_Rule_saidLine 14 = .ok (.getfield 9, 3) := by decide +kernel
theorem d_Rule_saidLine_17 : decode b_Rule_saidLine 17 = .ok (.arraylength, 1) := by decide +kernel
theorem d_Rule_saidLine_18 : decode b_Rule_saidLine 18 = .ok (.if_icmp .ge 12, 3) := by decide +kernel
theorem d_Rule_saidLine_21 : decode b_Rule_saidLine 21 = .ok (.aload_n 0, 1) := by decide +kernel
theorem d_Rule_saidLine_22 : decode b_Rule_saidLine 22 = .ok (.getfield 9, 3) := by decide +kernel
theorem d_Rule_saidLine_25 : decode b_Rule_saidLine 25 = .ok (.iload_n 1, 1) := by decide +kernel
theorem d_Rule_saidLine_26 : decode b_Rule_saidLine 26 = .ok (.iaload, 1) := by decide +kernel
theorem d_Rule_saidLine_27 : decode b_Rule_saidLine 27 = .ok (.goto 4, 3) := by decide +kernel
theorem d_Rule_saidLine_30 : decode b_Rule_saidLine 30 = .ok (.iconst (-1), 1) := by decide +kernel
theorem d_Rule_saidLine_31 : decode b_Rule_saidLine 31 = .ok (.ireturn, 1) := by decide +kernel
theorem d_Rule_say_0 : decode b_Rule_say 0 = .ok (.aload_n 0, 1) := by decide +kernel
theorem d_Rule_say_1 : decode b_Rule_say 1 = .ok (.getfield 19, 3) := by decide +kernel
theorem d_Rule_say_4 : decode b_Rule_say 4 = .ok (.ifCond .lt 35, 3) := by decide +kernel
theorem d_Rule_say_7 : decode b_Rule_say 7 = .ok (.aload_n 0, 1) := by decide +kernel
theorem d_Rule_say_8 : decode b_Rule_say 8 = .ok (.getfield 19, 3) := by decide +kernel
theorem d_Rule_say_11 : decode b_Rule_say 11 = .ok (.aload_n 0, 1) := by decide +kernel
theorem d_Rule_say_12 : decode b_Rule_say 12 = .ok (.getfield 9, 3) := by decide +kernel
theorem d_Rule_say_15 : decode b_Rule_say 15 = .ok (.arraylength, 1) := by decide +kernel
theorem d_Rule_say_16 : decode b_Rule_say 16 = .ok (.if_icmp .ge 23, 3) := by decide +kernel
theorem d_Rule_say_19 : decode b_Rule_say 19 = .ok (.aload_n 0, 1) := by decide +kernel
theorem d_Rule_say_20 : decode b_Rule_say 20 = .ok (.getfield 9, 3) := by decide +kernel
theorem d_Rule_say_23 : decode b_Rule_say 23 = .ok (.aload_n 0, 1) := by decide +kernel
theorem d_Rule_say_24 : decode b_Rule_say 24 = .ok (.getfield 19, 3) := by decide +kernel
theorem d_Rule_say_27 : decode b_Rule_say 27 = .ok (.iload_n 1, 1) := by decide +kernel
theorem d_Rule_say_28 : decode b_Rule_say 28 = .ok (.iastore, 1) := by decide +kernel
theorem d_Rule_say_29 : decode b_Rule_say 29 = .ok (.aload_n 0, 1) := by decide +kernel
theorem d_Rule_say_30 : decode b_Rule_say 30 = .ok (.dup, 1) := by decide +kernel
theorem d_Rule_say_31 : decode b_Rule_say 31 = .ok (.getfield 19, 3) := by decide +kernel
theorem d_Rule_say_34 : decode b_Rule_say 34 = .ok (.iconst 1, 1) := by decide +kernel
theorem d_Rule_say_35 : decode b_Rule_say 35 = .ok (.iadd, 1) := by decide +kernel
theorem d_Rule_say_36 : decode b_Rule_say 36 = .ok (.putfield 19, 3) := by decide +kernel
theorem d_Rule_say_39 : decode b_Rule_say 39 = .ok (.return_, 1) := by decide +kernel
theorem d_Rule_sayInSteps_0 : decode b_Rule_sayInSteps 0 = .ok (.iconst 1, 1) := by decide +kernel
theorem d_Rule_sayInSteps_1 : decode b_Rule_sayInSteps 1 = .ok (.istore_n 3, 1) := by decide +kernel
theorem d_Rule_sayInSteps_2 : decode b_Rule_sayInSteps 2 = .ok (.iload_n 3, 1) := by decide +kernel
theorem d_Rule_sayInSteps_3 : decode b_Rule_sayInSteps 3 = .ok (.aload_n 0, 1) := by decide +kernel
theorem d_Rule_sayInSteps_4 : decode b_Rule_sayInSteps 4 = .ok (.getfield 15, 3) := by decide +kernel
theorem d_Rule_sayInSteps_7 : decode b_Rule_sayInSteps 7 = .ok (.if_icmp .gt 18, 3) := by decide +kernel
theorem d_Rule_sayInSteps_10 : decode b_Rule_sayInSteps 10 = .ok (.aload_n 0, 1) := by decide +kernel
theorem d_Rule_sayInSteps_11 : decode b_Rule_sayInSteps 11 = .ok (.iload_n 1, 1) := by decide +kernel
theorem d_Rule_sayInSteps_12 : decode b_Rule_sayInSteps 12 = .ok (.iload_n 3, 1) := by decide +kernel
theorem d_Rule_sayInSteps_13 : decode b_Rule_sayInSteps 13 = .ok (.iload_n 2, 1) := by decide +kernel
theorem d_Rule_sayInSteps_14 : decode b_Rule_sayInSteps 14 = .ok (.imul, 1) := by decide +kernel
theorem d_Rule_sayInSteps_15 : decode b_Rule_sayInSteps 15 = .ok (.iadd, 1) := by decide +kernel
theorem d_Rule_sayInSteps_16 : decode b_Rule_sayInSteps 16 = .ok (.invokevirtual 26, 3) := by decide +kernel
theorem d_Rule_sayInSteps_19 : decode b_Rule_sayInSteps 19 = .ok (.iinc 3 1, 3) := by decide +kernel
theorem d_Rule_sayInSteps_22 : decode b_Rule_sayInSteps 22 = .ok (.goto (-20), 3) := by decide +kernel
theorem d_Rule_sayInSteps_25 : decode b_Rule_sayInSteps 25 = .ok (.return_, 1) := by decide +kernel
theorem d_Next_init_0 : decode b_Next_init 0 = .ok (.aload_n 0, 1) := by decide +kernel
theorem d_Next_init_1 : decode b_Next_init 1 = .ok (.iload_n 1, 1) := by decide +kernel
theorem d_Next_init_2 : decode b_Next_init 2 = .ok (.invokespecial 1, 3) := by decide +kernel
theorem d_Next_init_5 : decode b_Next_init 5 = .ok (.return_, 1) := by decide +kernel
theorem d_Next_confidence_0 : decode b_Next_confidence 0 = .ok (.iconst 0, 1) := by decide +kernel
theorem d_Next_confidence_1 : decode b_Next_confidence 1 = .ok (.ireturn, 1) := by decide +kernel
theorem d_Next_knowledge_0 : decode b_Next_knowledge 0 = .ok (.iconst 0, 1) := by decide +kernel
theorem d_Next_knowledge_1 : decode b_Next_knowledge 1 = .ok (.ireturn, 1) := by decide +kernel
theorem d_Next_learn_0 : decode b_Next_learn 0 = .ok (.aload_n 0, 1) := by decide +kernel
theorem d_Next_learn_1 : decode b_Next_learn 1 = .ok (.iload_n 2, 1) := by decide +kernel
theorem d_Next_learn_2 : decode b_Next_learn 2 = .ok (.iconst 1, 1) := by decide +kernel
theorem d_Next_learn_3 : decode b_Next_learn 3 = .ok (.invokevirtual 7, 3) := by decide +kernel
theorem d_Next_learn_6 : decode b_Next_learn 6 = .ok (.return_, 1) := by decide +kernel
theorem d_Strides_init_0 : decode b_Strides_init 0 = .ok (.aload_n 0, 1) := by decide +kernel
theorem d_Strides_init_1 : decode b_Strides_init 1 = .ok (.iload_n 1, 1) := by decide +kernel
theorem d_Strides_init_2 : decode b_Strides_init 2 = .ok (.invokespecial 1, 3) := by decide +kernel
theorem d_Strides_init_5 : decode b_Strides_init 5 = .ok (.aload_n 0, 1) := by decide +kernel
theorem d_Strides_init_6 : decode b_Strides_init 6 = .ok (.bipush 16, 2) := by decide +kernel
theorem d_Strides_init_8 : decode b_Strides_init 8 = .ok (.newarray .boolean, 2) := by decide +kernel
theorem d_Strides_init_10 : decode b_Strides_init 10 = .ok (.putfield 9, 3) := by decide +kernel
theorem d_Strides_init_13 : decode b_Strides_init 13 = .ok (.aload_n 0, 1) := by decide +kernel
theorem d_Strides_init_14 : decode b_Strides_init 14 = .ok (.bipush 16, 2) := by decide +kernel
theorem d_Strides_init_16 : decode b_Strides_init 16 = .ok (.newarray .int, 2) := by decide +kernel
theorem d_Strides_init_18 : decode b_Strides_init 18 = .ok (.putfield 13, 3) := by decide +kernel
theorem d_Strides_init_21 : decode b_Strides_init 21 = .ok (.aload_n 0, 1) := by decide +kernel
theorem d_Strides_init_22 : decode b_Strides_init 22 = .ok (.bipush 16, 2) := by decide +kernel
theorem d_Strides_init_24 : decode b_Strides_init 24 = .ok (.newarray .int, 2) := by decide +kernel
theorem d_Strides_init_26 : decode b_Strides_init 26 = .ok (.putfield 17, 3) := by decide +kernel
theorem d_Strides_init_29 : decode b_Strides_init 29 = .ok (.aload_n 0, 1) := by decide +kernel
theorem d_Strides_init_30 : decode b_Strides_init 30 = .ok (.bipush 16, 2) := by decide +kernel
theorem d_Strides_init_32 : decode b_Strides_init 32 = .ok (.newarray .int, 2) := by decide +kernel
theorem d_Strides_init_34 : decode b_Strides_init 34 = .ok (.putfield 20, 3) := by decide +kernel
theorem d_Strides_init_37 : decode b_Strides_init 37 = .ok (.aload_n 0, 1) := by decide +kernel
theorem d_Strides_init_38 : decode b_Strides_init 38 = .ok (.bipush 16, 2) := by decide +kernel
theorem d_Strides_init_40 : decode b_Strides_init 40 = .ok (.newarray .int, 2) := by decide +kernel
theorem d_Strides_init_42 : decode b_Strides_init 42 = .ok (.putfield 23, 3) := by decide +kernel
theorem d_Strides_init_45 : decode b_Strides_init 45 = .ok (.return_, 1) := by decide +kernel
theorem d_Strides_begin_0 : decode b_Strides_begin 0 = .ok (.aload_n 0, 1) := by decide +kernel
theorem d_Strides_begin_1 : decode b_Strides_begin 1 = .ok (.getfield 9, 3) := by decide +kernel
theorem d_Strides_begin_4 : decode b_Strides_begin 4 = .ok (.iload_n 1, 1) := by decide +kernel
theorem d_Strides_begin_5 : decode b_Strides_begin 5 = .ok (.iconst 1, 1) := by decide +kernel
theorem d_Strides_begin_6 : decode b_Strides_begin 6 = .ok (.bastore, 1) := by decide +kernel
theorem d_Strides_begin_7 : decode b_Strides_begin 7 = .ok (.aload_n 0, 1) := by decide +kernel
theorem d_Strides_begin_8 : decode b_Strides_begin 8 = .ok (.getfield 13, 3) := by decide +kernel
theorem d_Strides_begin_11 : decode b_Strides_begin 11 = .ok (.iload_n 1, 1) := by decide +kernel
theorem d_Strides_begin_12 : decode b_Strides_begin 12 = .ok (.iload_n 2, 1) := by decide +kernel
theorem d_Strides_begin_13 : decode b_Strides_begin 13 = .ok (.iastore, 1) := by decide +kernel
theorem d_Strides_begin_14 : decode b_Strides_begin 14 = .ok (.aload_n 0, 1) := by decide +kernel
theorem d_Strides_begin_15 : decode b_Strides_begin 15 = .ok (.getfield 17, 3) := by decide +kernel
theorem d_Strides_begin_18 : decode b_Strides_begin 18 = .ok (.iload_n 1, 1) := by decide +kernel
theorem d_Strides_begin_19 : decode b_Strides_begin 19 = .ok (.iload_n 3, 1) := by decide +kernel
theorem d_Strides_begin_20 : decode b_Strides_begin 20 = .ok (.iastore, 1) := by decide +kernel
theorem d_Strides_begin_21 : decode b_Strides_begin 21 = .ok (.aload_n 0, 1) := by decide +kernel
theorem d_Strides_begin_22 : decode b_Strides_begin 22 = .ok (.getfield 20, 3) := by decide +kernel
theorem d_Strides_begin_25 : decode b_Strides_begin 25 = .ok (.iload_n 1, 1) := by decide +kernel
theorem d_Strides_begin_26 : decode b_Strides_begin 26 = .ok (.iconst 0, 1) := by decide +kernel
theorem d_Strides_begin_27 : decode b_Strides_begin 27 = .ok (.iastore, 1) := by decide +kernel
theorem d_Strides_begin_28 : decode b_Strides_begin 28 = .ok (.aload_n 0, 1) := by decide +kernel
theorem d_Strides_begin_29 : decode b_Strides_begin 29 = .ok (.getfield 23, 3) := by decide +kernel
theorem d_Strides_begin_32 : decode b_Strides_begin 32 = .ok (.iload_n 1, 1) := by decide +kernel
theorem d_Strides_begin_33 : decode b_Strides_begin 33 = .ok (.iconst 0, 1) := by decide +kernel
theorem d_Strides_begin_34 : decode b_Strides_begin 34 = .ok (.iastore, 1) := by decide +kernel
theorem d_Strides_begin_35 : decode b_Strides_begin 35 = .ok (.return_, 1) := by decide +kernel
theorem d_Strides_compare_0 : decode b_Strides_compare 0 = .ok (.iload_n 2, 1) := by decide +kernel
theorem d_Strides_compare_1 : decode b_Strides_compare 1 = .ok (.aload_n 0, 1) := by decide +kernel
theorem d_Strides_compare_2 : decode b_Strides_compare 2 = .ok (.getfield 20, 3) := by decide +kernel
theorem d_Strides_compare_5 : decode b_Strides_compare 5 = .ok (.iload_n 1, 1) := by decide +kernel
theorem d_Strides_compare_6 : decode b_Strides_compare 6 = .ok (.iaload, 1) := by decide +kernel
theorem d_Strides_compare_7 : decode b_Strides_compare 7 = .ok (.if_icmp .ne 24, 3) := by decide +kernel
theorem d_Strides_compare_10 : decode b_Strides_compare 10 = .ok (.aload_n 0, 1) := by decide +kernel
theorem d_Strides_compare_11 : decode b_Strides_compare 11 = .ok (.getfield 23, 3) := by decide +kernel
theorem d_Strides_compare_14 : decode b_Strides_compare 14 = .ok (.iload_n 1, 1) := by decide +kernel
theorem d_Strides_compare_15 : decode b_Strides_compare 15 = .ok (.iconst 3, 1) := by decide +kernel
theorem d_Strides_compare_16 : decode b_Strides_compare 16 = .ok (.aload_n 0, 1) := by decide +kernel
theorem d_Strides_compare_17 : decode b_Strides_compare 17 = .ok (.getfield 23, 3) := by decide +kernel
theorem d_Strides_compare_20 : decode b_Strides_compare 20 = .ok (.iload_n 1, 1) := by decide +kernel
theorem d_Strides_compare_21 : decode b_Strides_compare 21 = .ok (.iaload, 1) := by decide +kernel
theorem d_Strides_compare_22 : decode b_Strides_compare 22 = .ok (.iconst 1, 1) := by decide +kernel
theorem d_Strides_compare_23 : decode b_Strides_compare 23 = .ok (.iadd, 1) := by decide +kernel
theorem d_Strides_compare_24 : decode b_Strides_compare 24 = .ok (.invokestatic 45, 3) := by decide +kernel
theorem d_Strides_compare_27 : decode b_Strides_compare 27 = .ok (.iastore, 1) := by decide +kernel
theorem d_Strides_compare_28 : decode b_Strides_compare 28 = .ok (.goto 32, 3) := by decide +kernel
theorem d_Strides_compare_31 : decode b_Strides_compare 31 = .ok (.aload_n 0, 1) := by decide +kernel
theorem d_Strides_compare_32 : decode b_Strides_compare 32 = .ok (.getfield 23, 3) := by decide +kernel
theorem d_Strides_compare_35 : decode b_Strides_compare 35 = .ok (.iload_n 1, 1) := by decide +kernel
theorem d_Strides_compare_36 : decode b_Strides_compare 36 = .ok (.iaload, 1) := by decide +kernel
theorem d_Strides_compare_37 : decode b_Strides_compare 37 = .ok (.ifCond .le 16, 3) := by decide +kernel
theorem d_Strides_compare_40 : decode b_Strides_compare 40 = .ok (.aload_n 0, 1) := by decide +kernel
theorem d_Strides_compare_41 : decode b_Strides_compare 41 = .ok (.getfield 23, 3) := by decide +kernel
theorem d_Strides_compare_44 : decode b_Strides_compare 44 = .ok (.iload_n 1, 1) := by decide +kernel
theorem d_Strides_compare_45 : decode b_Strides_compare 45 = .ok (.dup2, 1) := by decide +kernel
theorem d_Strides_compare_46 : decode b_Strides_compare 46 = .ok (.iaload, 1) := by decide +kernel
theorem d_Strides_compare_47 : decode b_Strides_compare 47 = .ok (.iconst 1, 1) := by decide +kernel
theorem d_Strides_compare_48 : decode b_Strides_compare 48 = .ok (.isub, 1) := by decide +kernel
theorem d_Strides_compare_49 : decode b_Strides_compare 49 = .ok (.iastore, 1) := by decide +kernel
theorem d_Strides_compare_50 : decode b_Strides_compare 50 = .ok (.goto 10, 3) := by decide +kernel
theorem d_Strides_compare_53 : decode b_Strides_compare 53 = .ok (.aload_n 0, 1) := by decide +kernel
theorem d_Strides_compare_54 : decode b_Strides_compare 54 = .ok (.getfield 20, 3) := by decide +kernel
theorem d_Strides_compare_57 : decode b_Strides_compare 57 = .ok (.iload_n 1, 1) := by decide +kernel
theorem d_Strides_compare_58 : decode b_Strides_compare 58 = .ok (.iload_n 2, 1) := by decide +kernel
theorem d_Strides_compare_59 : decode b_Strides_compare 59 = .ok (.iastore, 1) := by decide +kernel
theorem d_Strides_compare_60 : decode b_Strides_compare 60 = .ok (.return_, 1) := by decide +kernel
theorem d_Strides_confidence_0 : decode b_Strides_confidence 0 = .ok (.iload_n 1, 1) := by decide +kernel
theorem d_Strides_confidence_1 : decode b_Strides_confidence 1 = .ok (.invokestatic 26, 3) := by decide +kernel
theorem d_Strides_confidence_4 : decode b_Strides_confidence 4 = .ok (.istore_n 2, 1) := by decide +kernel
theorem d_Strides_confidence_5 : decode b_Strides_confidence 5 = .ok (.aload_n 0, 1) := by decide +kernel
theorem d_Strides_confidence_6 : decode b_Strides_confidence 6 = .ok (.iload_n 2, 1) := by decide +kernel
theorem d_Strides_confidence_7 : decode b_Strides_confidence 7 = .ok (.iload_n 1, 1) := by decide +kernel
theorem d_Strides_confidence_8 : decode b_Strides_confidence 8 = .ok (.invokevirtual 30, 3) := by decide +kernel
theorem d_Strides_confidence_11 : decode b_Strides_confidence 11 = .ok (.ifCond .eq 12, 3) := by decide +kernel
theorem d_Strides_confidence_14 : decode b_Strides_confidence 14 = .ok (.aload_n 0, 1) := by decide +kernel
theorem d_Strides_confidence_15 : decode b_Strides_confidence 15 = .ok (.getfield 23, 3) := by decide +kernel
theorem d_Strides_confidence_18 : decode b_Strides_confidence 18 = .ok (.iload_n 2, 1) := by decide +kernel
theorem d_Strides_confidence_19 : decode b_Strides_confidence 19 = .ok (.iaload, 1) := by decide +kernel
theorem d_Strides_confidence_20 : decode b_Strides_confidence 20 = .ok (.goto 4, 3) := by decide +kernel
theorem d_Strides_confidence_23 : decode b_Strides_confidence 23 = .ok (.iconst 0, 1) := by decide +kernel
theorem d_Strides_confidence_24 : decode b_Strides_confidence 24 = .ok (.ireturn, 1) := by decide +kernel
theorem d_Strides_isOwn_0 : decode b_Strides_isOwn 0 = .ok (.aload_n 0, 1) := by decide +kernel
theorem d_Strides_isOwn_1 : decode b_Strides_isOwn 1 = .ok (.getfield 9, 3) := by decide +kernel
theorem d_Strides_isOwn_4 : decode b_Strides_isOwn 4 = .ok (.iload_n 1, 1) := by decide +kernel
theorem d_Strides_isOwn_5 : decode b_Strides_isOwn 5 = .ok (.baload, 1) := by decide +kernel
theorem d_Strides_isOwn_6 : decode b_Strides_isOwn 6 = .ok (.ifCond .eq 17, 3) := by decide +kernel
theorem d_Strides_isOwn_9 : decode b_Strides_isOwn 9 = .ok (.aload_n 0, 1) := by decide +kernel
theorem d_Strides_isOwn_10 : decode b_Strides_isOwn 10 = .ok (.getfield 13, 3) := by decide +kernel
theorem d_Strides_isOwn_13 : decode b_Strides_isOwn 13 = .ok (.iload_n 1, 1) := by decide +kernel
theorem d_Strides_isOwn_14 : decode b_Strides_isOwn 14 = .ok (.iaload, 1) := by decide +kernel
theorem d_Strides_isOwn_15 : decode b_Strides_isOwn 15 = .ok (.iload_n 2, 1) := by decide +kernel
theorem d_Strides_isOwn_16 : decode b_Strides_isOwn 16 = .ok (.if_icmp .ne 7, 3) := by decide +kernel
theorem d_Strides_isOwn_19 : decode b_Strides_isOwn 19 = .ok (.iconst 1, 1) := by decide +kernel
theorem d_Strides_isOwn_20 : decode b_Strides_isOwn 20 = .ok (.goto 4, 3) := by decide +kernel
theorem d_Strides_isOwn_23 : decode b_Strides_isOwn 23 = .ok (.iconst 0, 1) := by decide +kernel
theorem d_Strides_isOwn_24 : decode b_Strides_isOwn 24 = .ok (.ireturn, 1) := by decide +kernel
theorem d_Strides_knowledge_0 : decode b_Strides_knowledge 0 = .ok (.iload_n 1, 1) := by decide +kernel
theorem d_Strides_knowledge_1 : decode b_Strides_knowledge 1 = .ok (.invokestatic 26, 3) := by decide +kernel
theorem d_Strides_knowledge_4 : decode b_Strides_knowledge 4 = .ok (.istore_n 2, 1) := by decide +kernel
theorem d_Strides_knowledge_5 : decode b_Strides_knowledge 5 = .ok (.aload_n 0, 1) := by decide +kernel
theorem d_Strides_knowledge_6 : decode b_Strides_knowledge 6 = .ok (.iload_n 2, 1) := by decide +kernel
theorem d_Strides_knowledge_7 : decode b_Strides_knowledge 7 = .ok (.iload_n 1, 1) := by decide +kernel
theorem d_Strides_knowledge_8 : decode b_Strides_knowledge 8 = .ok (.invokevirtual 30, 3) := by decide +kernel
theorem d_Strides_knowledge_11 : decode b_Strides_knowledge 11 = .ok (.ifCond .eq 12, 3) := by decide +kernel
theorem d_Strides_knowledge_14 : decode b_Strides_knowledge 14 = .ok (.aload_n 0, 1) := by decide +kernel
theorem d_Strides_knowledge_15 : decode b_Strides_knowledge 15 = .ok (.getfield 20, 3) := by decide +kernel
theorem d_Strides_knowledge_18 : decode b_Strides_knowledge 18 = .ok (.iload_n 2, 1) := by decide +kernel
theorem d_Strides_knowledge_19 : decode b_Strides_knowledge 19 = .ok (.iaload, 1) := by decide +kernel
theorem d_Strides_knowledge_20 : decode b_Strides_knowledge 20 = .ok (.goto 4, 3) := by decide +kernel
theorem d_Strides_knowledge_23 : decode b_Strides_knowledge 23 = .ok (.iconst 0, 1) := by decide +kernel
theorem d_Strides_knowledge_24 : decode b_Strides_knowledge 24 = .ok (.ireturn, 1) := by decide +kernel
theorem d_Strides_learn_0 : decode b_Strides_learn 0 = .ok (.iload_n 1, 1) := by decide +kernel
theorem d_Strides_learn_1 : decode b_Strides_learn 1 = .ok (.invokestatic 26, 3) := by decide +kernel
theorem d_Strides_learn_4 : decode b_Strides_learn 4 = .ok (.istore_n 3, 1) := by decide +kernel
theorem d_Strides_learn_5 : decode b_Strides_learn 5 = .ok (.aload_n 0, 1) := by decide +kernel
theorem d_Strides_learn_6 : decode b_Strides_learn 6 = .ok (.iload_n 3, 1) := by decide +kernel
theorem d_Strides_learn_7 : decode b_Strides_learn 7 = .ok (.iload_n 1, 1) := by decide +kernel
theorem d_Strides_learn_8 : decode b_Strides_learn 8 = .ok (.invokevirtual 30, 3) := by decide +kernel
theorem d_Strides_learn_11 : decode b_Strides_learn 11 = .ok (.ifCond .ne 11, 3) := by decide +kernel
theorem d_Strides_learn_14 : decode b_Strides_learn 14 = .ok (.aload_n 0, 1) := by decide +kernel
theorem d_Strides_learn_15 : decode b_Strides_learn 15 = .ok (.iload_n 3, 1) := by decide +kernel
theorem d_Strides_learn_16 : decode b_Strides_learn 16 = .ok (.iload_n 1, 1) := by decide +kernel
theorem d_Strides_learn_17 : decode b_Strides_learn 17 = .ok (.iload_n 2, 1) := by decide +kernel
theorem d_Strides_learn_18 : decode b_Strides_learn 18 = .ok (.invokevirtual 34, 3) := by decide +kernel
theorem d_Strides_learn_21 : decode b_Strides_learn 21 = .ok (.return_, 1) := by decide +kernel
theorem d_Strides_learn_22 : decode b_Strides_learn 22 = .ok (.aload_n 0, 1) := by decide +kernel
theorem d_Strides_learn_23 : decode b_Strides_learn 23 = .ok (.iload_n 3, 1) := by decide +kernel
theorem d_Strides_learn_24 : decode b_Strides_learn 24 = .ok (.iload_n 2, 1) := by decide +kernel
theorem d_Strides_learn_25 : decode b_Strides_learn 25 = .ok (.aload_n 0, 1) := by decide +kernel
theorem d_Strides_learn_26 : decode b_Strides_learn 26 = .ok (.getfield 17, 3) := by decide +kernel
theorem d_Strides_learn_29 : decode b_Strides_learn 29 = .ok (.iload_n 3, 1) := by decide +kernel
theorem d_Strides_learn_30 : decode b_Strides_learn 30 = .ok (.iaload, 1) := by decide +kernel
theorem d_Strides_learn_31 : decode b_Strides_learn 31 = .ok (.isub, 1) := by decide +kernel
theorem d_Strides_learn_32 : decode b_Strides_learn 32 = .ok (.invokevirtual 38, 3) := by decide +kernel
theorem d_Strides_learn_35 : decode b_Strides_learn 35 = .ok (.aload_n 0, 1) := by decide +kernel
theorem d_Strides_learn_36 : decode b_Strides_learn 36 = .ok (.getfield 17, 3) := by decide +kernel
theorem d_Strides_learn_39 : decode b_Strides_learn 39 = .ok (.iload_n 3, 1) := by decide +kernel
theorem d_Strides_learn_40 : decode b_Strides_learn 40 = .ok (.iload_n 2, 1) := by decide +kernel
theorem d_Strides_learn_41 : decode b_Strides_learn 41 = .ok (.iastore, 1) := by decide +kernel
theorem d_Strides_learn_42 : decode b_Strides_learn 42 = .ok (.aload_n 0, 1) := by decide +kernel
theorem d_Strides_learn_43 : decode b_Strides_learn 43 = .ok (.getfield 23, 3) := by decide +kernel
theorem d_Strides_learn_46 : decode b_Strides_learn 46 = .ok (.iload_n 3, 1) := by decide +kernel
theorem d_Strides_learn_47 : decode b_Strides_learn 47 = .ok (.iaload, 1) := by decide +kernel
theorem d_Strides_learn_48 : decode b_Strides_learn 48 = .ok (.iconst 2, 1) := by decide +kernel
theorem d_Strides_learn_49 : decode b_Strides_learn 49 = .ok (.if_icmp .lt 23, 3) := by decide +kernel
theorem d_Strides_learn_52 : decode b_Strides_learn 52 = .ok (.aload_n 0, 1) := by decide +kernel
theorem d_Strides_learn_53 : decode b_Strides_learn 53 = .ok (.getfield 20, 3) := by decide +kernel
theorem d_Strides_learn_56 : decode b_Strides_learn 56 = .ok (.iload_n 3, 1) := by decide +kernel
theorem d_Strides_learn_57 : decode b_Strides_learn 57 = .ok (.iaload, 1) := by decide +kernel
theorem d_Strides_learn_58 : decode b_Strides_learn 58 = .ok (.ifCond .eq 14, 3) := by decide +kernel
theorem d_Strides_learn_61 : decode b_Strides_learn 61 = .ok (.aload_n 0, 1) := by decide +kernel
theorem d_Strides_learn_62 : decode b_Strides_learn 62 = .ok (.iload_n 2, 1) := by decide +kernel
theorem d_Strides_learn_63 : decode b_Strides_learn 63 = .ok (.aload_n 0, 1) := by decide +kernel
theorem d_Strides_learn_64 : decode b_Strides_learn 64 = .ok (.getfield 20, 3) := by decide +kernel
theorem d_Strides_learn_67 : decode b_Strides_learn 67 = .ok (.iload_n 3, 1) := by decide +kernel
theorem d_Strides_learn_68 : decode b_Strides_learn 68 = .ok (.iaload, 1) := by decide +kernel
theorem d_Strides_learn_69 : decode b_Strides_learn 69 = .ok (.invokevirtual 42, 3) := by decide +kernel
theorem d_Strides_learn_72 : decode b_Strides_learn 72 = .ok (.return_, 1) := by decide +kernel
theorem d_Strides_rowOf_0 : decode b_Strides_rowOf 0 = .ok (.iload_n 0, 1) := by decide +kernel
theorem d_Strides_rowOf_1 : decode b_Strides_rowOf 1 = .ok (.bipush 15, 2) := by decide +kernel
theorem d_Strides_rowOf_3 : decode b_Strides_rowOf 3 = .ok (.iand, 1) := by decide +kernel
theorem d_Strides_rowOf_4 : decode b_Strides_rowOf 4 = .ok (.ireturn, 1) := by decide +kernel
theorem d_Math_floorMod_0 : decode b_Math_floorMod 0 = .ok (.iload_n 0, 1) := by decide +kernel
theorem d_Math_floorMod_1 : decode b_Math_floorMod 1 = .ok (.iload_n 1, 1) := by decide +kernel
theorem d_Math_floorMod_2 : decode b_Math_floorMod 2 = .ok (.irem, 1) := by decide +kernel
theorem d_Math_floorMod_3 : decode b_Math_floorMod 3 = .ok (.istore_n 2, 1) := by decide +kernel
theorem d_Math_floorMod_4 : decode b_Math_floorMod 4 = .ok (.iload_n 0, 1) := by decide +kernel
theorem d_Math_floorMod_5 : decode b_Math_floorMod 5 = .ok (.iload_n 1, 1) := by decide +kernel
theorem d_Math_floorMod_6 : decode b_Math_floorMod 6 = .ok (.ixor, 1) := by decide +kernel
theorem d_Math_floorMod_7 : decode b_Math_floorMod 7 = .ok (.ifCond .ge 11, 3) := by decide +kernel
theorem d_Math_floorMod_10 : decode b_Math_floorMod 10 = .ok (.iload_n 2, 1) := by decide +kernel
theorem d_Math_floorMod_11 : decode b_Math_floorMod 11 = .ok (.ifCond .eq 7, 3) := by decide +kernel
theorem d_Math_floorMod_14 : decode b_Math_floorMod 14 = .ok (.iload_n 2, 1) := by decide +kernel
theorem d_Math_floorMod_15 : decode b_Math_floorMod 15 = .ok (.iload_n 1, 1) := by decide +kernel
theorem d_Math_floorMod_16 : decode b_Math_floorMod 16 = .ok (.iadd, 1) := by decide +kernel
theorem d_Math_floorMod_17 : decode b_Math_floorMod 17 = .ok (.ireturn, 1) := by decide +kernel
theorem d_Math_floorMod_18 : decode b_Math_floorMod 18 = .ok (.iload_n 2, 1) := by decide +kernel
theorem d_Math_floorMod_19 : decode b_Math_floorMod 19 = .ok (.ireturn, 1) := by decide +kernel
