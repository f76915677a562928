theorem d_Offsets_init_0 : decode b_Offsets_init 0 = .ok (.aload_n 0, 1) := by decide +kernel
theorem d_Offsets_init_1 : decode b_Offsets_init 1 = .ok (.iload_n 1, 1) := by decide +kernel
theorem d_Offsets_init_2 : decode b_Offsets_init 2 = .ok (.invokespecial 5, 3) := by decide +kernel
theorem d_Offsets_init_5 : decode b_Offsets_init 5 = .ok (.aload_n 0, 1) := by decide +kernel
theorem d_Offsets_init_6 : decode b_Offsets_init 6 = .ok (.bipush 32, 2) := by decide +kernel
theorem d_Offsets_init_8 : decode b_Offsets_init 8 = .ok (.newarray .int, 2) := by decide +kernel
theorem d_Offsets_init_10 : decode b_Offsets_init 10 = .ok (.putfield 11, 3) := by decide +kernel
theorem d_Offsets_init_13 : decode b_Offsets_init 13 = .ok (.aload_n 0, 1) := by decide +kernel
theorem d_Offsets_init_14 : decode b_Offsets_init 14 = .ok (.bipush 12, 2) := by decide +kernel
theorem d_Offsets_init_16 : decode b_Offsets_init 16 = .ok (.newarray .int, 2) := by decide +kernel
theorem d_Offsets_init_18 : decode b_Offsets_init 18 = .ok (.putfield 15, 3) := by decide +kernel
theorem d_Offsets_init_21 : decode b_Offsets_init 21 = .ok (.aload_n 0, 1) := by decide +kernel
theorem d_Offsets_init_22 : decode b_Offsets_init 22 = .ok (.iconst 1, 1) := by decide +kernel
theorem d_Offsets_init_23 : decode b_Offsets_init 23 = .ok (.putfield 18, 3) := by decide +kernel
theorem d_Offsets_init_26 : decode b_Offsets_init 26 = .ok (.return_, 1) := by decide +kernel
theorem d_Offsets_confidence_0 : decode b_Offsets_confidence 0 = .ok (.iload_n 1, 1) := by decide +kernel
theorem d_Offsets_confidence_1 : decode b_Offsets_confidence 1 = .ok (.ifCond .lt 18, 3) := by decide +kernel
theorem d_Offsets_confidence_4 : decode b_Offsets_confidence 4 = .ok (.iload_n 1, 1) := by decide +kernel
theorem d_Offsets_confidence_5 : decode b_Offsets_confidence 5 = .ok (.bipush 12, 2) := by decide +kernel
theorem d_Offsets_confidence_7 : decode b_Offsets_confidence 7 = .ok (.if_icmp .ge 12, 3) := by decide +kernel
theorem d_Offsets_confidence_10 : decode b_Offsets_confidence 10 = .ok (.aload_n 0, 1) := by decide +kernel
theorem d_Offsets_confidence_11 : decode b_Offsets_confidence 11 = .ok (.getfield 15, 3) := by decide +kernel
theorem d_Offsets_confidence_14 : decode b_Offsets_confidence 14 = .ok (.iload_n 1, 1) := by decide +kernel
theorem d_Offsets_confidence_15 : decode b_Offsets_confidence 15 = .ok (.iaload, 1) := by decide +kernel
theorem d_Offsets_confidence_16 : decode b_Offsets_confidence 16 = .ok (.goto 4, 3) := by decide +kernel
theorem d_Offsets_confidence_19 : decode b_Offsets_confidence 19 = .ok (.iconst 0, 1) := by decide +kernel
theorem d_Offsets_confidence_20 : decode b_Offsets_confidence 20 = .ok (.ireturn, 1) := by decide +kernel
theorem d_Offsets_endRound_0 : decode b_Offsets_endRound 0 = .ok (.iconst 0, 1) := by decide +kernel
theorem d_Offsets_endRound_1 : decode b_Offsets_endRound 1 = .ok (.istore_n 1, 1) := by decide +kernel
theorem d_Offsets_endRound_2 : decode b_Offsets_endRound 2 = .ok (.iconst 1, 1) := by decide +kernel
theorem d_Offsets_endRound_3 : decode b_Offsets_endRound 3 = .ok (.istore_n 2, 1) := by decide +kernel
theorem d_Offsets_endRound_4 : decode b_Offsets_endRound 4 = .ok (.iload_n 2, 1) := by decide +kernel
theorem d_Offsets_endRound_5 : decode b_Offsets_endRound 5 = .ok (.bipush 12, 2) := by decide +kernel
theorem d_Offsets_endRound_7 : decode b_Offsets_endRound 7 = .ok (.if_icmp .ge 26, 3) := by decide +kernel
theorem d_Offsets_endRound_10 : decode b_Offsets_endRound 10 = .ok (.aload_n 0, 1) := by decide +kernel
theorem d_Offsets_endRound_11 : decode b_Offsets_endRound 11 = .ok (.getfield 15, 3) := by decide +kernel
theorem d_Offsets_endRound_14 : decode b_Offsets_endRound 14 = .ok (.iload_n 2, 1) := by decide +kernel
theorem d_Offsets_endRound_15 : decode b_Offsets_endRound 15 = .ok (.iaload, 1) := by decide +kernel
theorem d_Offsets_endRound_16 : decode b_Offsets_endRound 16 = .ok (.aload_n 0, 1) := by decide +kernel
theorem d_Offsets_endRound_17 : decode b_Offsets_endRound 17 = .ok (.getfield 15, 3) := by decide +kernel
theorem d_Offsets_endRound_20 : decode b_Offsets_endRound 20 = .ok (.iload_n 1, 1) := by decide +kernel
theorem d_Offsets_endRound_21 : decode b_Offsets_endRound 21 = .ok (.iaload, 1) := by decide +kernel
theorem d_Offsets_endRound_22 : decode b_Offsets_endRound 22 = .ok (.if_icmp .le 5, 3) := by decide +kernel
theorem d_Offsets_endRound_25 : decode b_Offsets_endRound 25 = .ok (.iload_n 2, 1) := by decide +kernel
theorem d_Offsets_endRound_26 : decode b_Offsets_endRound 26 = .ok (.istore_n 1, 1) := by decide +kernel
theorem d_Offsets_endRound_27 : decode b_Offsets_endRound 27 = .ok (.iinc 2 1, 3) := by decide +kernel
theorem d_Offsets_endRound_30 : decode b_Offsets_endRound 30 = .ok (.goto (-26), 3) := by decide +kernel
theorem d_Offsets_endRound_33 : decode b_Offsets_endRound 33 = .ok (.aload_n 0, 1) := by decide +kernel
theorem d_Offsets_endRound_34 : decode b_Offsets_endRound 34 = .ok (.aload_n 0, 1) := by decide +kernel
theorem d_Offsets_endRound_35 : decode b_Offsets_endRound 35 = .ok (.getfield 15, 3) := by decide +kernel
theorem d_Offsets_endRound_38 : decode b_Offsets_endRound 38 = .ok (.iload_n 1, 1) := by decide +kernel
theorem d_Offsets_endRound_39 : decode b_Offsets_endRound 39 = .ok (.iaload, 1) := by decide +kernel
theorem d_Offsets_endRound_40 : decode b_Offsets_endRound 40 = .ok (.iconst 4, 1) := by decide +kernel
theorem d_Offsets_endRound_41 : decode b_Offsets_endRound 41 = .ok (.if_icmp .lt 11, 3) := by decide +kernel
theorem d_Offsets_endRound_44 : decode b_Offsets_endRound 44 = .ok (.getstatic 44, 3) := by decide +kernel
theorem d_Offsets_endRound_47 : decode b_Offsets_endRound 47 = .ok (.iload_n 1, 1) := by decide +kernel
theorem d_Offsets_endRound_48 : decode b_Offsets_endRound 48 = .ok (.iaload, 1) := by decide +kernel
theorem d_Offsets_endRound_49 : decode b_Offsets_endRound 49 = .ok (.goto 4, 3) := by decide +kernel
theorem d_Offsets_endRound_52 : decode b_Offsets_endRound 52 = .ok (.iconst 0, 1) := by decide +kernel
theorem d_Offsets_endRound_53 : decode b_Offsets_endRound 53 = .ok (.putfield 18, 3) := by decide +kernel
theorem d_Offsets_endRound_56 : decode b_Offsets_endRound 56 = .ok (.iconst 0, 1) := by decide +kernel
theorem d_Offsets_endRound_57 : decode b_Offsets_endRound 57 = .ok (.istore_n 2, 1) := by decide +kernel
theorem d_Offsets_endRound_58 : decode b_Offsets_endRound 58 = .ok (.iload_n 2, 1) := by decide +kernel
theorem d_Offsets_endRound_59 : decode b_Offsets_endRound 59 = .ok (.bipush 12, 2) := by decide +kernel
theorem d_Offsets_endRound_61 : decode b_Offsets_endRound 61 = .ok (.if_icmp .ge 16, 3) := by decide +kernel
theorem d_Offsets_endRound_64 : decode b_Offsets_endRound 64 = .ok (.aload_n 0, 1) := by decide +kernel
theorem d_Offsets_endRound_65 : decode b_Offsets_endRound 65 = .ok (.getfield 15, 3) := by decide +kernel
theorem d_Offsets_endRound_68 : decode b_Offsets_endRound 68 = .ok (.iload_n 2, 1) := by decide +kernel
theorem d_Offsets_endRound_69 : decode b_Offsets_endRound 69 = .ok (.iconst 0, 1) := by decide +kernel
theorem d_Offsets_endRound_70 : decode b_Offsets_endRound 70 = .ok (.iastore, 1) := by decide +kernel
theorem d_Offsets_endRound_71 : decode b_Offsets_endRound 71 = .ok (.iinc 2 1, 3) := by decide +kernel
theorem d_Offsets_endRound_74 : decode b_Offsets_endRound 74 = .ok (.goto (-16), 3) := by decide +kernel
theorem d_Offsets_endRound_77 : decode b_Offsets_endRound 77 = .ok (.aload_n 0, 1) := by decide +kernel
theorem d_Offsets_endRound_78 : decode b_Offsets_endRound 78 = .ok (.iconst 0, 1) := by decide +kernel
theorem d_Offsets_endRound_79 : decode b_Offsets_endRound 79 = .ok (.putfield 35, 3) := by decide +kernel
theorem d_Offsets_endRound_82 : decode b_Offsets_endRound 82 = .ok (.aload_n 0, 1) := by decide +kernel
theorem d_Offsets_endRound_83 : decode b_Offsets_endRound 83 = .ok (.dup, 1) := by decide +kernel
theorem d_Offsets_endRound_84 : decode b_Offsets_endRound 84 = .ok (.getfield 32, 3) := by decide +kernel
theorem d_Offsets_endRound_87 : decode b_Offsets_endRound 87 = .ok (.iconst 1, 1) := by decide +kernel
theorem d_Offsets_endRound_88 : decode b_Offsets_endRound 88 = .ok (.iadd, 1) := by decide +kernel
theorem d_Offsets_endRound_89 : decode b_Offsets_endRound 89 = .ok (.putfield 32, 3) := by decide +kernel
theorem d_Offsets_endRound_92 : decode b_Offsets_endRound 92 = .ok (.return_, 1) := by decide +kernel
theorem d_Offsets_isRecent_0 : decode b_Offsets_isRecent 0 = .ok (.iload_n 1, 1) := by decide +kernel
theorem d_Offsets_isRecent_1 : decode b_Offsets_isRecent 1 = .ok (.aload_n 0, 1) := by decide +kernel
theorem d_Offsets_isRecent_2 : decode b_Offsets_isRecent 2 = .ok (.getfield 11, 3) := by decide +kernel
theorem d_Offsets_isRecent_5 : decode b_Offsets_isRecent 5 = .ok (.bipush 32, 2) := by decide +kernel
theorem d_Offsets_isRecent_7 : decode b_Offsets_isRecent 7 = .ok (.aload_n 0, 1) := by decide +kernel
theorem d_Offsets_isRecent_8 : decode b_Offsets_isRecent 8 = .ok (.getfield 55, 3) := by decide +kernel
theorem d_Offsets_isRecent_11 : decode b_Offsets_isRecent 11 = .ok (.invokestatic 58, 3) := by decide +kernel
theorem d_Offsets_isRecent_14 : decode b_Offsets_isRecent 14 = .ok (.invokestatic 61, 3) := by decide +kernel
theorem d_Offsets_isRecent_17 : decode b_Offsets_isRecent 17 = .ok (.iconst (-1), 1) := by decide +kernel
theorem d_Offsets_isRecent_18 : decode b_Offsets_isRecent 18 = .ok (.if_icmp .eq 7, 3) := by decide +kernel
theorem d_Offsets_isRecent_21 : decode b_Offsets_isRecent 21 = .ok (.iconst 1, 1) := by decide +kernel
theorem d_Offsets_isRecent_22 : decode b_Offsets_isRecent 22 = .ok (.goto 4, 3) := by decide +kernel
theorem d_Offsets_isRecent_25 : decode b_Offsets_isRecent 25 = .ok (.iconst 0, 1) := by decide +kernel
theorem d_Offsets_isRecent_26 : decode b_Offsets_isRecent 26 = .ok (.ireturn, 1) := by decide +kernel
theorem d_Offsets_knowledge_0 : decode b_Offsets_knowledge 0 = .ok (.aload_n 0, 1) := by decide +kernel
theorem d_Offsets_knowledge_1 : decode b_Offsets_knowledge 1 = .ok (.getfield 18, 3) := by decide +kernel
theorem d_Offsets_knowledge_4 : decode b_Offsets_knowledge 4 = .ok (.ireturn, 1) := by decide +kernel
theorem d_Offsets_learn_0 : decode b_Offsets_learn 0 = .ok (.aload_n 0, 1) := by decide +kernel
theorem d_Offsets_learn_1 : decode b_Offsets_learn 1 = .ok (.iload_n 2, 1) := by decide +kernel
theorem d_Offsets_learn_2 : decode b_Offsets_learn 2 = .ok (.invokevirtual 22, 3) := by decide +kernel
theorem d_Offsets_learn_5 : decode b_Offsets_learn 5 = .ok (.aload_n 0, 1) := by decide +kernel
theorem d_Offsets_learn_6 : decode b_Offsets_learn 6 = .ok (.getfield 18, 3) := by decide +kernel
theorem d_Offsets_learn_9 : decode b_Offsets_learn 9 = .ok (.ifCond .eq 12, 3) := by decide +kernel
theorem d_Offsets_learn_12 : decode b_Offsets_learn 12 = .ok (.aload_n 0, 1) := by decide +kernel
theorem d_Offsets_learn_13 : decode b_Offsets_learn 13 = .ok (.iload_n 2, 1) := by decide +kernel
theorem d_Offsets_learn_14 : decode b_Offsets_learn 14 = .ok (.aload_n 0, 1) := by decide +kernel
theorem d_Offsets_learn_15 : decode b_Offsets_learn 15 = .ok (.getfield 18, 3) := by decide +kernel
theorem d_Offsets_learn_18 : decode b_Offsets_learn 18 = .ok (.invokevirtual 25, 3) := by decide +kernel
theorem d_Offsets_learn_21 : decode b_Offsets_learn 21 = .ok (.aload_n 0, 1) := by decide +kernel
theorem d_Offsets_learn_22 : decode b_Offsets_learn 22 = .ok (.iload_n 2, 1) := by decide +kernel
theorem d_Offsets_learn_23 : decode b_Offsets_learn 23 = .ok (.invokevirtual 29, 3) := by decide +kernel
theorem d_Offsets_learn_26 : decode b_Offsets_learn 26 = .ok (.return_, 1) := by decide +kernel
theorem d_Offsets_remember_0 : decode b_Offsets_remember 0 = .ok (.aload_n 0, 1) := by decide +kernel
theorem d_Offsets_remember_1 : decode b_Offsets_remember 1 = .ok (.getfield 11, 3) := by decide +kernel
theorem d_Offsets_remember_4 : decode b_Offsets_remember 4 = .ok (.aload_n 0, 1) := by decide +kernel
theorem d_Offsets_remember_5 : decode b_Offsets_remember 5 = .ok (.getfield 55, 3) := by decide +kernel
theorem d_Offsets_remember_8 : decode b_Offsets_remember 8 = .ok (.bipush 32, 2) := by decide +kernel
theorem d_Offsets_remember_10 : decode b_Offsets_remember 10 = .ok (.invokestatic 38, 3) := by decide +kernel
theorem d_Offsets_remember_13 : decode b_Offsets_remember 13 = .ok (.iload_n 1, 1) := by decide +kernel
theorem d_Offsets_remember_14 : decode b_Offsets_remember 14 = .ok (.iastore, 1) := by decide +kernel
theorem d_Offsets_remember_15 : decode b_Offsets_remember 15 = .ok (.aload_n 0, 1) := by decide +kernel
theorem d_Offsets_remember_16 : decode b_Offsets_remember 16 = .ok (.dup, 1) := by decide +kernel
theorem d_Offsets_remember_17 : decode b_Offsets_remember 17 = .ok (.getfield 55, 3) := by decide +kernel
theorem d_Offsets_remember_20 : decode b_Offsets_remember 20 = .ok (.iconst 1, 1) := by decide +kernel
theorem d_Offsets_remember_21 : decode b_Offsets_remember 21 = .ok (.iadd, 1) := by decide +kernel
theorem d_Offsets_remember_22 : decode b_Offsets_remember 22 = .ok (.putfield 55, 3) := by decide +kernel
theorem d_Offsets_remember_25 : decode b_Offsets_remember 25 = .ok (.return_, 1) := by decide +kernel
theorem d_Offsets_roundCount_0 : decode b_Offsets_roundCount 0 = .ok (.aload_n 0, 1) := by decide +kernel
theorem d_Offsets_roundCount_1 : decode b_Offsets_roundCount 1 = .ok (.getfield 32, 3) := by decide +kernel
theorem d_Offsets_roundCount_4 : decode b_Offsets_roundCount 4 = .ok (.ireturn, 1) := by decide +kernel
theorem d_Offsets_tryCandidate_0 : decode b_Offsets_tryCandidate 0 = .ok (.aload_n 0, 1) := by decide +kernel
theorem d_Offsets_tryCandidate_1 : decode b_Offsets_tryCandidate 1 = .ok (.getfield 35, 3) := by decide +kernel
theorem d_Offsets_tryCandidate_4 : decode b_Offsets_tryCandidate 4 = .ok (.bipush 12, 2) := by decide +kernel
theorem d_Offsets_tryCandidate_6 : decode b_Offsets_tryCandidate 6 = .ok (.invokestatic 38, 3) := by decide +kernel
theorem d_Offsets_tryCandidate_9 : decode b_Offsets_tryCandidate 9 = .ok (.istore_n 2, 1) := by decide +kernel
theorem d_Offsets_tryCandidate_10 : decode b_Offsets_tryCandidate 10 = .ok (.aload_n 0, 1) := by decide +kernel
theorem d_Offsets_tryCandidate_11 : decode b_Offsets_tryCandidate 11 = .ok (.iload_n 1, 1) := by decide +kernel
theorem d_Offsets_tryCandidate_12 : decode b_Offsets_tryCandidate 12 = .ok (.getstatic 44, 3) := by decide +kernel
theorem d_Offsets_tryCandidate_15 : decode b_Offsets_tryCandidate 15 = .ok (.iload_n 2, 1) := by decide +kernel
theorem d_Offsets_tryCandidate_16 : decode b_Offsets_tryCandidate 16 = .ok (.iaload, 1) := by decide +kernel
theorem d_Offsets_tryCandidate_17 : decode b_Offsets_tryCandidate 17 = .ok (.isub, 1) := by decide +kernel
theorem d_Offsets_tryCandidate_18 : decode b_Offsets_tryCandidate 18 = .ok (.invokevirtual 47, 3) := by decide +kernel
theorem d_Offsets_tryCandidate_21 : decode b_Offsets_tryCandidate 21 = .ok (.ifCond .eq 13, 3) := by decide +kernel
theorem d_Offsets_tryCandidate_24 : decode b_Offsets_tryCandidate 24 = .ok (.aload_n 0, 1) := by decide +kernel
theorem d_Offsets_tryCandidate_25 : decode b_Offsets_tryCandidate 25 = .ok (.getfield 15, 3) := by decide +kernel
theorem d_Offsets_tryCandidate_28 : decode b_Offsets_tryCandidate 28 = .ok (.iload_n 2, 1) := by decide +kernel
theorem d_Offsets_tryCandidate_29 : decode b_Offsets_tryCandidate 29 = .ok (.dup2, 1) := by decide +kernel
theorem d_Offsets_tryCandidate_30 : decode b_Offsets_tryCandidate 30 = .ok (.iaload, 1) := by decide +kernel
theorem d_Offsets_tryCandidate_31 : decode b_Offsets_tryCandidate 31 = .ok (.iconst 1, 1) := by decide +kernel
theorem d_Offsets_tryCandidate_32 : decode b_Offsets_tryCandidate 32 = .ok (.iadd, 1) := by decide +kernel
theorem d_Offsets_tryCandidate_33 : decode b_Offsets_tryCandidate 33 = .ok (.iastore, 1) := by decide +kernel
theorem d_Offsets_tryCandidate_34 : decode b_Offsets_tryCandidate 34 = .ok (.aload_n 0, 1) := by decide +kernel
theorem d_Offsets_tryCandidate_35 : decode b_Offsets_tryCandidate 35 = .ok (.dup, 1) := by decide +kernel
theorem d_Offsets_tryCandidate_36 : decode b_Offsets_tryCandidate 36 = .ok (.getfield 35, 3) := by decide +kernel
theorem d_Offsets_tryCandidate_39 : decode b_Offsets_tryCandidate 39 = .ok (.iconst 1, 1) := by decide +kernel
theorem d_Offsets_tryCandidate_40 : decode b_Offsets_tryCandidate 40 = .ok (.iadd, 1) := by decide +kernel
theorem d_Offsets_tryCandidate_41 : decode b_Offsets_tryCandidate 41 = .ok (.putfield 35, 3) := by decide +kernel
theorem d_Offsets_tryCandidate_44 : decode b_Offsets_tryCandidate 44 = .ok (.aload_n 0, 1) := by decide +kernel
theorem d_Offsets_tryCandidate_45 : decode b_Offsets_tryCandidate 45 = .ok (.getfield 15, 3) := by decide +kernel
theorem d_Offsets_tryCandidate_48 : decode b_Offsets_tryCandidate 48 = .ok (.iload_n 2, 1) := by decide +kernel
theorem d_Offsets_tryCandidate_49 : decode b_Offsets_tryCandidate 49 = .ok (.iaload, 1) := by decide +kernel
theorem d_Offsets_tryCandidate_50 : decode b_Offsets_tryCandidate 50 = .ok (.bipush 15, 2) := by decide +kernel
theorem d_Offsets_tryCandidate_52 : decode b_Offsets_tryCandidate 52 = .ok (.if_icmp .ge 13, 3) := by decide +kernel
theorem d_Offsets_tryCandidate_55 : decode b_Offsets_tryCandidate 55 = .ok (.aload_n 0, 1) := by decide +kernel
theorem d_Offsets_tryCandidate_56 : decode b_Offsets_tryCandidate 56 = .ok (.getfield 35, 3) := by decide +kernel
theorem d_Offsets_tryCandidate_59 : decode b_Offsets_tryCandidate 59 = .ok (.sipush 240, 3) := by decide +kernel
theorem d_Offsets_tryCandidate_62 : decode b_Offsets_tryCandidate 62 = .ok (.if_icmp .lt 7, 3) := by decide +kernel
theorem d_Offsets_tryCandidate_65 : decode b_Offsets_tryCandidate 65 = .ok (.aload_n 0, 1) := by decide +kernel
theorem d_Offsets_tryCandidate_66 : decode b_Offsets_tryCandidate 66 = .ok (.invokevirtual 51, 3) := by decide +kernel
theorem d_Offsets_tryCandidate_69 : decode b_Offsets_tryCandidate 69 = .ok (.return_, 1) := by decide +kernel
theorem d_Pairs_init_0 : decode b_Pairs_init 0 = .ok (.aload_n 0, 1) := by decide +kernel
theorem d_Pairs_init_1 : decode b_Pairs_init 1 = .ok (.iload_n 1, 1) := by decide +kernel
theorem d_Pairs_init_2 : decode b_Pairs_init 2 = .ok (.invokespecial 3, 3) := by decide +kernel
theorem d_Pairs_init_5 : decode b_Pairs_init 5 = .ok (.aload_n 0, 1) := by decide +kernel
theorem d_Pairs_init_6 : decode b_Pairs_init 6 = .ok (.bipush 64, 2) := by decide +kernel
theorem d_Pairs_init_8 : decode b_Pairs_init 8 = .ok (.newarray .boolean, 2) := by decide +kernel
theorem d_Pairs_init_10 : decode b_Pairs_init 10 = .ok (.putfield 11, 3) := by decide +kernel
theorem d_Pairs_init_13 : decode b_Pairs_init 13 = .ok (.aload_n 0, 1) := by decide +kernel
theorem d_Pairs_init_14 : decode b_Pairs_init 14 = .ok (.bipush 64, 2) := by decide +kernel
theorem d_Pairs_init_16 : decode b_Pairs_init 16 = .ok (.newarray .int, 2) := by decide +kernel
theorem d_Pairs_init_18 : decode b_Pairs_init 18 = .ok (.putfield 15, 3) := by decide +kernel
theorem d_Pairs_init_21 : decode b_Pairs_init 21 = .ok (.aload_n 0, 1) := by decide +kernel
theorem d_Pairs_init_22 : decode b_Pairs_init 22 = .ok (.bipush 64, 2) := by decide +kernel
theorem d_Pairs_init_24 : decode b_Pairs_init 24 = .ok (.newarray .int, 2) := by decide +kernel
theorem d_Pairs_init_26 : decode b_Pairs_init 26 = .ok (.putfield 19, 3) := by decide +kernel
theorem d_Pairs_init_29 : decode b_Pairs_init 29 = .ok (.aload_n 0, 1) := by decide +kernel
theorem d_Pairs_init_30 : decode b_Pairs_init 30 = .ok (.bipush 64, 2) := by decide +kernel
theorem d_Pairs_init_32 : decode b_Pairs_init 32 = .ok (.newarray .int, 2) := by decide +kernel
theorem d_Pairs_init_34 : decode b_Pairs_init 34 = .ok (.putfield 22, 3) := by decide +kernel
theorem d_Pairs_init_37 : decode b_Pairs_init 37 = .ok (.aload_n 0, 1) := by decide +kernel
theorem d_Pairs_init_38 : decode b_Pairs_init 38 = .ok (.bipush 64, 2) := by decide +kernel
theorem d_Pairs_init_40 : decode b_Pairs_init 40 = .ok (.newarray .int, 2) := by decide +kernel
theorem d_Pairs_init_42 : decode b_Pairs_init 42 = .ok (.putfield 25, 3) := by decide +kernel
theorem d_Pairs_init_45 : decode b_Pairs_init 45 = .ok (.return_, 1) := by decide +kernel
theorem d_Pairs_behindCount_0 : decode b_Pairs_behindCount 0 = .ok (.iload_n 1, 1) := by decide +kernel
theorem d_Pairs_behindCount_1 : decode b_Pairs_behindCount 1 = .ok (.invokestatic 44, 3) := by decide +kernel
theorem d_Pairs_behindCount_4 : decode b_Pairs_behindCount 4 = .ok (.istore_n 2, 1) := by decide +kernel
theorem d_Pairs_behindCount_5 : decode b_Pairs_behindCount 5 = .ok (.aload_n 0, 1) := by decide +kernel
theorem d_Pairs_behindCount_6 : decode b_Pairs_behindCount 6 = .ok (.iload_n 2, 1) := by decide +kernel
theorem d_Pairs_behindCount_7 : decode b_Pairs_behindCount 7 = .ok (.iload_n 1, 1) := by decide +kernel
theorem d_Pairs_behindCount_8 : decode b_Pairs_behindCount 8 = .ok (.invokevirtual 54, 3) := by decide +kernel
theorem d_Pairs_behindCount_11 : decode b_Pairs_behindCount 11 = .ok (.ifCond .eq 12, 3) := by decide +kernel
theorem d_Pairs_behindCount_14 : decode b_Pairs_behindCount 14 = .ok (.aload_n 0, 1) := by decide +kernel
theorem d_Pairs_behindCount_15 : decode b_Pairs_behindCount 15 = .ok (.getfield 19, 3) := by decide +kernel
theorem d_Pairs_behindCount_18 : decode b_Pairs_behindCount 18 = .ok (.iload_n 2, 1) := by decide +kernel
theorem d_Pairs_behindCount_19 : decode b_Pairs_behindCount 19 = .ok (.iaload, 1) := by decide +kernel
theorem d_Pairs_behindCount_20 : decode b_Pairs_behindCount 20 = .ok (.goto 4, 3) := by decide +kernel
theorem d_Pairs_behindCount_23 : decode b_Pairs_behindCount 23 = .ok (.iconst 0, 1) := by decide +kernel
theorem d_Pairs_behindCount_24 : decode b_Pairs_behindCount 24 = .ok (.ireturn, 1) := by decide +kernel
theorem d_Pairs_confidence_0 : decode b_Pairs_confidence 0 = .ok (.aload_n 0, 1) := by decide +kernel
theorem d_Pairs_confidence_1 : decode b_Pairs_confidence 1 = .ok (.iload_n 1, 1) := by decide +kernel
theorem d_Pairs_confidence_2 : decode b_Pairs_confidence 2 = .ok (.invokevirtual 40, 3) := by decide +kernel
theorem d_Pairs_confidence_5 : decode b_Pairs_confidence 5 = .ok (.iconst 1, 1) := by decide +kernel
theorem d_Pairs_confidence_6 : decode b_Pairs_confidence 6 = .ok (.if_icmp .le 15, 3) := by decide +kernel
theorem d_Pairs_confidence_9 : decode b_Pairs_confidence 9 = .ok (.aload_n 0, 1) := by decide +kernel
theorem d_Pairs_confidence_10 : decode b_Pairs_confidence 10 = .ok (.getfield 25, 3) := by decide +kernel
theorem d_Pairs_confidence_13 : decode b_Pairs_confidence 13 = .ok (.iload_n 1, 1) := by decide +kernel
theorem d_Pairs_confidence_14 : decode b_Pairs_confidence 14 = .ok (.invokestatic 44, 3) := by decide +kernel
theorem d_Pairs_confidence_17 : decode b_Pairs_confidence 17 = .ok (.iaload, 1) := by decide +kernel
theorem d_Pairs_confidence_18 : decode b_Pairs_confidence 18 = .ok (.goto 4, 3) := by decide +kernel
theorem d_Pairs_confidence_21 : decode b_Pairs_confidence 21 = .ok (.iconst (-1), 1) := by decide +kernel
theorem d_Pairs_confidence_22 : decode b_Pairs_confidence 22 = .ok (.ireturn, 1) := by decide +kernel
theorem d_Pairs_follow_0 : decode b_Pairs_follow 0 = .ok (.iload_n 1, 1) := by decide +kernel
theorem d_Pairs_follow_1 : decode b_Pairs_follow 1 = .ok (.invokestatic 44, 3) := by decide +kernel
theorem d_Pairs_follow_4 : decode b_Pairs_follow 4 = .ok (.istore_n 3, 1) := by decide +kernel
theorem d_Pairs_follow_5 : decode b_Pairs_follow 5 = .ok (.aload_n 0, 1) := by decide +kernel
theorem d_Pairs_follow_6 : decode b_Pairs_follow 6 = .ok (.iload_n 3, 1) := by decide +kernel
theorem d_Pairs_follow_7 : decode b_Pairs_follow 7 = .ok (.iload_n 1, 1) := by decide +kernel
theorem d_Pairs_follow_8 : decode b_Pairs_follow 8 = .ok (.invokevirtual 54, 3) := by decide +kernel
theorem d_Pairs_follow_11 : decode b_Pairs_follow 11 = .ok (.ifCond .ne 24, 3) := by decide +kernel
theorem d_Pairs_follow_14 : decode b_Pairs_follow 14 = .ok (.aload_n 0, 1) := by decide +kernel
theorem d_Pairs_follow_15 : decode b_Pairs_follow 15 = .ok (.getfield 11, 3) := by decide +kernel
theorem d_Pairs_follow_18 : decode b_Pairs_follow 18 = .ok (.iload_n 3, 1) := by decide +kernel
theorem d_Pairs_follow_19 : decode b_Pairs_follow 19 = .ok (.iconst 1, 1) := by decide +kernel
theorem d_Pairs_follow_20 : decode b_Pairs_follow 20 = .ok (.bastore, 1) := by decide +kernel
theorem d_Pairs_follow_21 : decode b_Pairs_follow 21 = .ok (.aload_n 0, 1) := by decide +kernel
theorem d_Pairs_follow_22 : decode b_Pairs_follow 22 = .ok (.getfield 15, 3) := by decide +kernel
theorem d_Pairs_follow_25 : decode b_Pairs_follow 25 = .ok (.iload_n 3, 1) := by decide +kernel
theorem d_Pairs_follow_26 : decode b_Pairs_follow 26 = .ok (.iload_n 1, 1) := by decide +kernel
theorem d_Pairs_follow_27 : decode b_Pairs_follow 27 = .ok (.iastore, 1) := by decide +kernel
theorem d_Pairs_follow_28 : decode b_Pairs_follow 28 = .ok (.aload_n 0, 1) := by decide +kernel
theorem d_Pairs_follow_29 : decode b_Pairs_follow 29 = .ok (.getfield 19, 3) := by decide +kernel
theorem d_Pairs_follow_32 : decode b_Pairs_follow 32 = .ok (.iload_n 3, 1) := by decide +kernel
theorem d_Pairs_follow_33 : decode b_Pairs_follow 33 = .ok (.iconst 0, 1) := by decide +kernel
theorem d_Pairs_follow_34 : decode b_Pairs_follow 34 = .ok (.iastore, 1) := by decide +kernel
theorem d_Pairs_follow_35 : decode b_Pairs_follow 35 = .ok (.aload_n 0, 1) := by decide +kernel
theorem d_Pairs_follow_36 : decode b_Pairs_follow 36 = .ok (.getfield 19, 3) := by decide +kernel
theorem d_Pairs_follow_39 : decode b_Pairs_follow 39 = .ok (.iload_n 3, 1) := by decide +kernel
theorem d_Pairs_follow_40 : decode b_Pairs_follow 40 = .ok (.iaload, 1) := by decide +kernel
theorem d_Pairs_follow_41 : decode b_Pairs_follow 41 = .ok (.ifCond .le 14, 3) := by decide +kernel
theorem d_Pairs_follow_44 : decode b_Pairs_follow 44 = .ok (.aload_n 0, 1) := by decide +kernel
theorem d_Pairs_follow_45 : decode b_Pairs_follow 45 = .ok (.getfield 22, 3) := by decide +kernel
theorem d_Pairs_follow_48 : decode b_Pairs_follow 48 = .ok (.iload_n 3, 1) := by decide +kernel
theorem d_Pairs_follow_49 : decode b_Pairs_follow 49 = .ok (.iaload, 1) := by decide +kernel
theorem d_Pairs_follow_50 : decode b_Pairs_follow 50 = .ok (.iload_n 2, 1) := by decide +kernel
theorem d_Pairs_follow_51 : decode b_Pairs_follow 51 = .ok (.if_icmp .ne 4, 3) := by decide +kernel
theorem d_Pairs_follow_54 : decode b_Pairs_follow 54 = .ok (.return_, 1) := by decide +kernel
theorem d_Pairs_follow_55 : decode b_Pairs_follow 55 = .ok (.aload_n 0, 1) := by decide +kernel
theorem d_Pairs_follow_56 : decode b_Pairs_follow 56 = .ok (.getfield 25, 3) := by decide +kernel
theorem d_Pairs_follow_59 : decode b_Pairs_follow 59 = .ok (.iload_n 3, 1) := by decide +kernel
theorem d_Pairs_follow_60 : decode b_Pairs_follow 60 = .ok (.aload_n 0, 1) := by decide +kernel
theorem d_Pairs_follow_61 : decode b_Pairs_follow 61 = .ok (.getfield 22, 3) := by decide +kernel
theorem d_Pairs_follow_64 : decode b_Pairs_follow 64 = .ok (.iload_n 3, 1) := by decide +kernel
theorem d_Pairs_follow_65 : decode b_Pairs_follow 65 = .ok (.iaload, 1) := by decide +kernel
theorem d_Pairs_follow_66 : decode b_Pairs_follow 66 = .ok (.iastore, 1) := by decide +kernel
theorem d_Pairs_follow_67 : decode b_Pairs_follow 67 = .ok (.aload_n 0, 1) := by decide +kernel
theorem d_Pairs_follow_68 : decode b_Pairs_follow 68 = .ok (.getfield 22, 3) := by decide +kernel
theorem d_Pairs_follow_71 : decode b_Pairs_follow 71 = .ok (.iload_n 3, 1) := by decide +kernel
theorem d_Pairs_follow_72 : decode b_Pairs_follow 72 = .ok (.iload_n 2, 1) := by decide +kernel
theorem d_Pairs_follow_73 : decode b_Pairs_follow 73 = .ok (.iastore, 1) := by decide +kernel
theorem d_Pairs_follow_74 : decode b_Pairs_follow 74 = .ok (.aload_n 0, 1) := by decide +kernel
theorem d_Pairs_follow_75 : decode b_Pairs_follow 75 = .ok (.getfield 19, 3) := by decide +kernel
theorem d_Pairs_follow_78 : decode b_Pairs_follow 78 = .ok (.iload_n 3, 1) := by decide +kernel
theorem d_Pairs_follow_79 : decode b_Pairs_follow 79 = .ok (.iconst 2, 1) := by decide +kernel
theorem d_Pairs_follow_80 : decode b_Pairs_follow 80 = .ok (.aload_n 0, 1) := by decide +kernel
theorem d_Pairs_follow_81 : decode b_Pairs_follow 81 = .ok (.getfield 19, 3) := by decide +kernel
theorem d_Pairs_follow_84 : decode b_Pairs_follow 84 = .ok (.iload_n 3, 1) := by decide +kernel
theorem d_Pairs_follow_85 : decode b_Pairs_follow 85 = .ok (.iaload, 1) := by decide +kernel
theorem d_Pairs_follow_86 : decode b_Pairs_follow 86 = .ok (.iconst 1, 1) := by decide +kernel
theorem d_Pairs_follow_87 : decode b_Pairs_follow 87 = .ok (.iadd, 1) := by decide +kernel
theorem d_Pairs_follow_88 : decode b_Pairs_follow 88 = .ok (.invokestatic 58, 3) := by decide +kernel
theorem d_Pairs_follow_91 : decode b_Pairs_follow 91 = .ok (.iastore, 1) := by decide +kernel
theorem d_Pairs_follow_92 : decode b_Pairs_follow 92 = .ok (.return_, 1) := by decide +kernel
theorem d_Pairs_isOwn_0 : decode b_Pairs_isOwn 0 = .ok (.aload_n 0, 1) := by decide +kernel
theorem d_Pairs_isOwn_1 : decode b_Pairs_isOwn 1 = .ok (.getfield 11, 3) := by decide +kernel
theorem d_Pairs_isOwn_4 : decode b_Pairs_isOwn 4 = .ok (.iload_n 1, 1) := by decide +kernel
theorem d_Pairs_isOwn_5 : decode b_Pairs_isOwn 5 = .ok (.baload, 1) := by decide +kernel
theorem d_Pairs_isOwn_6 : decode b_Pairs_isOwn 6 = .ok (.ifCond .eq 17, 3) := by decide +kernel
theorem d_Pairs_isOwn_9 : decode b_Pairs_isOwn 9 = .ok (.aload_n 0, 1) := by decide +kernel
theorem d_Pairs_isOwn_10 : decode b_Pairs_isOwn 10 = .ok (.getfield 15, 3) := by decide +kernel
theorem d_Pairs_isOwn_13 : decode b_Pairs_isOwn 13 = .ok (.iload_n 1, 1) := by decide +kernel
theorem d_Pairs_isOwn_14 : decode b_Pairs_isOwn 14 = .ok (.iaload, 1) := by decide +kernel
theorem d_Pairs_isOwn_15 : decode b_Pairs_isOwn 15 = .ok (.iload_n 2, 1) := by decide +kernel
theorem d_Pairs_isOwn_16 : decode b_Pairs_isOwn 16 = .ok (.if_icmp .ne 7, 3) := by decide +kernel
theorem d_Pairs_isOwn_19 : decode b_Pairs_isOwn 19 = .ok (.iconst 1, 1) := by decide +kernel
theorem d_Pairs_isOwn_20 : decode b_Pairs_isOwn 20 = .ok (.goto 4, 3) := by decide +kernel
theorem d_Pairs_isOwn_23 : decode b_Pairs_isOwn 23 = .ok (.iconst 0, 1) := by decide +kernel
theorem d_Pairs_isOwn_24 : decode b_Pairs_isOwn 24 = .ok (.ireturn, 1) := by decide +kernel
theorem d_Pairs_knowledge_0 : decode b_Pairs_knowledge 0 = .ok (.aload_n 0, 1) := by decide +kernel
theorem d_Pairs_knowledge_1 : decode b_Pairs_knowledge 1 = .ok (.iload_n 1, 1) := by decide +kernel
theorem d_Pairs_knowledge_2 : decode b_Pairs_knowledge 2 = .ok (.invokevirtual 40, 3) := by decide +kernel
theorem d_Pairs_knowledge_5 : decode b_Pairs_knowledge 5 = .ok (.ifCond .le 15, 3) := by decide +kernel
theorem d_Pairs_knowledge_8 : decode b_Pairs_knowledge 8 = .ok (.aload_n 0, 1) := by decide +kernel
theorem d_Pairs_knowledge_9 : decode b_Pairs_knowledge 9 = .ok (.getfield 22, 3) := by decide +kernel
theorem d_Pairs_knowledge_12 : decode b_Pairs_knowledge 12 = .ok (.iload_n 1, 1) := by decide +kernel
theorem d_Pairs_knowledge_13 : decode b_Pairs_knowledge 13 = .ok (.invokestatic 44, 3) := by decide +kernel
theorem d_Pairs_knowledge_16 : decode b_Pairs_knowledge 16 = .ok (.iaload, 1) := by decide +kernel
theorem d_Pairs_knowledge_17 : decode b_Pairs_knowledge 17 = .ok (.goto 4, 3) := by decide +kernel
theorem d_Pairs_knowledge_20 : decode b_Pairs_knowledge 20 = .ok (.iconst (-1), 1) := by decide +kernel
theorem d_Pairs_knowledge_21 : decode b_Pairs_knowledge 21 = .ok (.ireturn, 1) := by decide +kernel
theorem d_Pairs_learn_0 : decode b_Pairs_learn 0 = .ok (.aload_n 0, 1) := by decide +kernel
theorem d_Pairs_learn_1 : decode b_Pairs_learn 1 = .ok (.getfield 28, 3) := by decide +kernel
theorem d_Pairs_learn_4 : decode b_Pairs_learn 4 = .ok (.ifCond .eq 12, 3) := by decide +kernel
theorem d_Pairs_learn_7 : decode b_Pairs_learn 7 = .ok (.aload_n 0, 1) := by decide +kernel
theorem d_Pairs_learn_8 : decode b_Pairs_learn 8 = .ok (.aload_n 0, 1) := by decide +kernel
theorem d_Pairs_learn_9 : decode b_Pairs_learn 9 = .ok (.getfield 32, 3) := by decide +kernel
theorem d_Pairs_learn_12 : decode b_Pairs_learn 12 = .ok (.iload_n 2, 1) := by decide +kernel
theorem d_Pairs_learn_13 : decode b_Pairs_learn 13 = .ok (.invokevirtual 36, 3) := by decide +kernel
theorem d_Pairs_learn_16 : decode b_Pairs_learn 16 = .ok (.aload_n 0, 1) := by decide +kernel
theorem d_Pairs_learn_17 : decode b_Pairs_learn 17 = .ok (.iconst 1, 1) := by decide +kernel
theorem d_Pairs_learn_18 : decode b_Pairs_learn 18 = .ok (.putfield 28, 3) := by decide +kernel
theorem d_Pairs_learn_21 : decode b_Pairs_learn 21 = .ok (.aload_n 0, 1) := by decide +kernel
theorem d_Pairs_learn_22 : decode b_Pairs_learn 22 = .ok (.iload_n 2, 1) := by decide +kernel
theorem d_Pairs_learn_23 : decode b_Pairs_learn 23 = .ok (.putfield 32, 3) := by decide +kernel
theorem d_Pairs_learn_26 : decode b_Pairs_learn 26 = .ok (.aload_n 0, 1) := by decide +kernel
theorem d_Pairs_learn_27 : decode b_Pairs_learn 27 = .ok (.iload_n 2, 1) := by decide +kernel
theorem d_Pairs_learn_28 : decode b_Pairs_learn 28 = .ok (.invokevirtual 40, 3) := by decide +kernel
theorem d_Pairs_learn_31 : decode b_Pairs_learn 31 = .ok (.istore_n 3, 1) := by decide +kernel
theorem d_Pairs_learn_32 : decode b_Pairs_learn 32 = .ok (.iload_n 3, 1) := by decide +kernel
theorem d_Pairs_learn_33 : decode b_Pairs_learn 33 = .ok (.ifCond .le 16, 3) := by decide +kernel
theorem d_Pairs_learn_36 : decode b_Pairs_learn 36 = .ok (.aload_n 0, 1) := by decide +kernel
theorem d_Pairs_learn_37 : decode b_Pairs_learn 37 = .ok (.aload_n 0, 1) := by decide +kernel
theorem d_Pairs_learn_38 : decode b_Pairs_learn 38 = .ok (.getfield 22, 3) := by decide +kernel
theorem d_Pairs_learn_41 : decode b_Pairs_learn 41 = .ok (.iload_n 2, 1) := by decide +kernel
theorem d_Pairs_learn_42 : decode b_Pairs_learn 42 = .ok (.invokestatic 44, 3) := by decide +kernel
theorem d_Pairs_learn_45 : decode b_Pairs_learn 45 = .ok (.iaload, 1) := by decide +kernel
theorem d_Pairs_learn_46 : decode b_Pairs_learn 46 = .ok (.invokevirtual 47, 3) := by decide +kernel
theorem d_Pairs_learn_49 : decode b_Pairs_learn 49 = .ok (.iload_n 3, 1) := by decide +kernel
theorem d_Pairs_learn_50 : decode b_Pairs_learn 50 = .ok (.iconst 1, 1) := by decide +kernel
theorem d_Pairs_learn_51 : decode b_Pairs_learn 51 = .ok (.if_icmp .le 24, 3) := by decide +kernel
theorem d_Pairs_learn_54 : decode b_Pairs_learn 54 = .ok (.aload_n 0, 1) := by decide +kernel
theorem d_Pairs_learn_55 : decode b_Pairs_learn 55 = .ok (.invokevirtual 50, 3) := by decide +kernel
theorem d_Pairs_learn_58 : decode b_Pairs_learn 58 = .ok (.iconst 1, 1) := by decide +kernel
theorem d_Pairs_learn_59 : decode b_Pairs_learn 59 = .ok (.if_icmp .le 16, 3) := by decide +kernel
theorem d_Pairs_learn_62 : decode b_Pairs_learn 62 = .ok (.aload_n 0, 1) := by decide +kernel
theorem d_Pairs_learn_63 : decode b_Pairs_learn 63 = .ok (.aload_n 0, 1) := by decide +kernel
theorem d_Pairs_learn_64 : decode b_Pairs_learn 64 = .ok (.getfield 25, 3) := by decide +kernel
theorem d_Pairs_learn_67 : decode b_Pairs_learn 67 = .ok (.iload_n 2, 1) := by decide +kernel
theorem d_Pairs_learn_68 : decode b_Pairs_learn 68 = .ok (.invokestatic 44, 3) := by decide +kernel
theorem d_Pairs_learn_71 : decode b_Pairs_learn 71 = .ok (.iaload, 1) := by decide +kernel
theorem d_Pairs_learn_72 : decode b_Pairs_learn 72 = .ok (.invokevirtual 47, 3) := by decide +kernel
theorem d_Pairs_learn_75 : decode b_Pairs_learn 75 = .ok (.return_, 1) := by decide +kernel
theorem d_Pairs_rowOf_0 : decode b_Pairs_rowOf 0 = .ok (.iload_n 0, 1) := by decide +kernel
theorem d_Pairs_rowOf_1 : decode b_Pairs_rowOf 1 = .ok (.bipush 63, 2) := by decide +kernel
theorem d_Pairs_rowOf_3 : decode b_Pairs_rowOf 3 = .ok (.iand, 1) := by decide +kernel
theorem d_Pairs_rowOf_4 : decode b_Pairs_rowOf 4 = .ok (.ireturn, 1) := by decide +kernel
theorem d_Streams_init_0 : decode b_Streams_init 0 = .ok (.aload_n 0, 1) := by decide +kernel
theorem d_Streams_init_1 : decode b_Streams_init 1 = .ok (.iload_n 1, 1) := by decide +kernel
theorem d_Streams_init_2 : decode b_Streams_init 2 = .ok (.invokespecial 1, 3) := by decide +kernel
theorem d_Streams_init_5 : decode b_Streams_init 5 = .ok (.aload_n 0, 1) := by decide +kernel
theorem d_Streams_init_6 : decode b_Streams_init 6 = .ok (.bipush 8, 2) := by decide +kernel
theorem d_Streams_init_8 : decode b_Streams_init 8 = .ok (.newarray .int, 2) := by decide +kernel
theorem d_Streams_init_10 : decode b_Streams_init 10 = .ok (.putfield 9, 3) := by decide +kernel
theorem d_Streams_init_13 : decode b_Streams_init 13 = .ok (.aload_n 0, 1) := by decide +kernel
theorem d_Streams_init_14 : decode b_Streams_init 14 = .ok (.bipush 8, 2) := by decide +kernel
theorem d_Streams_init_16 : decode b_Streams_init 16 = .ok (.newarray .int, 2) := by decide +kernel
theorem d_Streams_init_18 : decode b_Streams_init 18 = .ok (.putfield 13, 3) := by decide +kernel
theorem d_Streams_init_21 : decode b_Streams_init 21 = .ok (.return_, 1) := by decide +kernel
theorem d_Streams_begin_0 : decode b_Streams_begin 0 = .ok (.aload_n 0, 1) := by decide +kernel
theorem d_Streams_begin_1 : decode b_Streams_begin 1 = .ok (.getfield 16, 3) := by decide +kernel
theorem d_Streams_begin_4 : decode b_Streams_begin 4 = .ok (.bipush 8, 2) := by decide +kernel
theorem d_Streams_begin_6 : decode b_Streams_begin 6 = .ok (.if_icmp .ge 13, 3) := by decide +kernel
theorem d_Streams_begin_9 : decode b_Streams_begin 9 = .ok (.aload_n 0, 1) := by decide +kernel
theorem d_Streams_begin_10 : decode b_Streams_begin 10 = .ok (.dup, 1) := by decide +kernel
theorem d_Streams_begin_11 : decode b_Streams_begin 11 = .ok (.getfield 16, 3) := by decide +kernel
theorem d_Streams_begin_14 : decode b_Streams_begin 14 = .ok (.iconst 1, 1) := by decide +kernel
theorem d_Streams_begin_15 : decode b_Streams_begin 15 = .ok (.iadd, 1) := by decide +kernel
theorem d_Streams_begin_16 : decode b_Streams_begin 16 = .ok (.putfield 16, 3) := by decide +kernel
theorem d_Streams_begin_19 : decode b_Streams_begin 19 = .ok (.aload_n 0, 1) := by decide +kernel
theorem d_Streams_begin_20 : decode b_Streams_begin 20 = .ok (.aload_n 0, 1) := by decide +kernel
theorem d_Streams_begin_21 : decode b_Streams_begin 21 = .ok (.getfield 16, 3) := by decide +kernel
theorem d_Streams_begin_24 : decode b_Streams_begin 24 = .ok (.iconst 1, 1) := by decide +kernel
theorem d_Streams_begin_25 : decode b_Streams_begin 25 = .ok (.isub, 1) := by decide +kernel
theorem d_Streams_begin_26 : decode b_Streams_begin 26 = .ok (.iload_n 1, 1) := by decide +kernel
theorem d_Streams_begin_27 : decode b_Streams_begin 27 = .ok (.iconst 0, 1) := by decide +kernel
theorem d_Streams_begin_28 : decode b_Streams_begin 28 = .ok (.invokevirtual 24, 3) := by decide +kernel
theorem d_Streams_begin_31 : decode b_Streams_begin 31 = .ok (.return_, 1) := by decide +kernel
theorem d_Streams_confidence_0 : decode b_Streams_confidence 0 = .ok (.iload_n 1, 1) := by decide +kernel
theorem d_Streams_confidence_1 : decode b_Streams_confidence 1 = .ok (.ifCond .lt 26, 3) := by decide +kernel
theorem d_Streams_confidence_4 : decode b_Streams_confidence 4 = .ok (.iload_n 1, 1) := by decide +kernel
theorem d_Streams_confidence_5 : decode b_Streams_confidence 5 = .ok (.aload_n 0, 1) := by decide +kernel
theorem d_Streams_confidence_6 : decode b_Streams_confidence 6 = .ok (.getfield 16, 3) := by decide +kernel
theorem d_Streams_confidence_9 : decode b_Streams_confidence 9 = .ok (.if_icmp .ge 18, 3) := by decide +kernel
theorem d_Streams_confidence_12 : decode b_Streams_confidence 12 = .ok (.iload_n 1, 1) := by decide +kernel
theorem d_Streams_confidence_13 : decode b_Streams_confidence 13 = .ok (.bipush 8, 2) := by decide +kernel
theorem d_Streams_confidence_15 : decode b_Streams_confidence 15 = .ok (.if_icmp .ge 12, 3) := by decide +kernel
theorem d_Streams_confidence_18 : decode b_Streams_confidence 18 = .ok (.aload_n 0, 1) := by decide +kernel
theorem d_Streams_confidence_19 : decode b_Streams_confidence 19 = .ok (.getfield 13, 3) := by decide +kernel
theorem d_Streams_confidence_22 : decode b_Streams_confidence 22 = .ok (.iload_n 1, 1) := by decide +kernel
theorem d_Streams_confidence_23 : decode b_Streams_confidence 23 = .ok (.iaload, 1) := by decide +kernel
theorem d_Streams_confidence_24 : decode b_Streams_confidence 24 = .ok (.goto 4, 3) := by decide +kernel
theorem d_Streams_confidence_27 : decode b_Streams_confidence 27 = .ok (.iconst 0, 1) := by decide +kernel
theorem d_Streams_confidence_28 : decode b_Streams_confidence 28 = .ok (.ireturn, 1) := by decide +kernel
theorem d_Streams_knowledge_0 : decode b_Streams_knowledge 0 = .ok (.aload_n 0, 1) := by decide +kernel
theorem d_Streams_knowledge_1 : decode b_Streams_knowledge 1 = .ok (.getfield 16, 3) := by decide +kernel
theorem d_Streams_knowledge_4 : decode b_Streams_knowledge 4 = .ok (.ireturn, 1) := by decide +kernel
theorem d_Streams_learn_0 : decode b_Streams_learn 0 = .ok (.iconst 0, 1) := by decide +kernel
theorem d_Streams_learn_1 : decode b_Streams_learn 1 = .ok (.istore_n 3, 1) := by decide +kernel
theorem d_Streams_learn_2 : decode b_Streams_learn 2 = .ok (.iload_n 3, 1) := by decide +kernel
theorem d_Streams_learn_3 : decode b_Streams_learn 3 = .ok (.aload_n 0, 1) := by decide +kernel
theorem d_Streams_learn_4 : decode b_Streams_learn 4 = .ok (.getfield 16, 3) := by decide +kernel
theorem d_Streams_learn_7 : decode b_Streams_learn 7 = .ok (.if_icmp .ge 61, 3) := by decide +kernel
theorem d_Streams_learn_10 : decode b_Streams_learn 10 = .ok (.iload_n 3, 1) := by decide +kernel
theorem d_Streams_learn_11 : decode b_Streams_learn 11 = .ok (.bipush 8, 2) := by decide +kernel
theorem d_Streams_learn_13 : decode b_Streams_learn 13 = .ok (.if_icmp .ge 55, 3) := by decide +kernel
theorem d_Streams_learn_16 : decode b_Streams_learn 16 = .ok (.iload_n 2, 1) := by decide +kernel
theorem d_Streams_learn_17 : decode b_Streams_learn 17 = .ok (.aload_n 0, 1) := by decide +kernel
theorem d_Streams_learn_18 : decode b_Streams_learn 18 = .ok (.getfield 9, 3) := by decide +kernel
theorem d_Streams_learn_21 : decode b_Streams_learn 21 = .ok (.iload_n 3, 1) := by decide +kernel
theorem d_Streams_learn_22 : decode b_Streams_learn 22 = .ok (.iaload, 1) := by decide +kernel
theorem d_Streams_learn_23 : decode b_Streams_learn 23 = .ok (.isub, 1) := by decide +kernel
theorem d_Streams_learn_24 : decode b_Streams_learn 24 = .ok (.invokestatic 20, 3) := by decide +kernel
theorem d_Streams_learn_27 : decode b_Streams_learn 27 = .ok (.istore 4, 2) := by decide +kernel
theorem d_Streams_learn_29 : decode b_Streams_learn 29 = .ok (.iload 4, 2) := by decide +kernel
theorem d_Streams_learn_31 : decode b_Streams_learn 31 = .ok (.ifCond .eq 31, 3) := by decide +kernel
theorem d_Streams_learn_34 : decode b_Streams_learn 34 = .ok (.aload_n 0, 1) := by decide +kernel
theorem d_Streams_learn_35 : decode b_Streams_learn 35 = .ok (.getfield 13, 3) := by decide +kernel
theorem d_Streams_learn_38 : decode b_Streams_learn 38 = .ok (.iload_n 3, 1) := by decide +kernel
theorem d_Streams_learn_39 : decode b_Streams_learn 39 = .ok (.iaload, 1) := by decide +kernel
theorem d_Streams_learn_40 : decode b_Streams_learn 40 = .ok (.iload 4, 2) := by decide +kernel
theorem d_Streams_learn_42 : decode b_Streams_learn 42 = .ok (.ineg, 1) := by decide +kernel
theorem d_Streams_learn_43 : decode b_Streams_learn 43 = .ok (.if_icmp .eq 19, 3) := by decide +kernel
theorem d_Streams_learn_46 : decode b_Streams_learn 46 = .ok (.aload_n 0, 1) := by decide +kernel
theorem d_Streams_learn_47 : decode b_Streams_learn 47 = .ok (.iload_n 3, 1) := by decide +kernel
theorem d_Streams_learn_48 : decode b_Streams_learn 48 = .ok (.iload_n 2, 1) := by decide +kernel
theorem d_Streams_learn_49 : decode b_Streams_learn 49 = .ok (.iload 4, 2) := by decide +kernel
theorem d_Streams_learn_51 : decode b_Streams_learn 51 = .ok (.invokevirtual 24, 3) := by decide +kernel
theorem d_Streams_learn_54 : decode b_Streams_learn 54 = .ok (.aload_n 0, 1) := by decide +kernel
theorem d_Streams_learn_55 : decode b_Streams_learn 55 = .ok (.iload_n 2, 1) := by decide +kernel
theorem d_Streams_learn_56 : decode b_Streams_learn 56 = .ok (.iload 4, 2) := by decide +kernel
theorem d_Streams_learn_58 : decode b_Streams_learn 58 = .ok (.invokevirtual 28, 3) := by decide +kernel
theorem d_Streams_learn_61 : decode b_Streams_learn 61 = .ok (.return_, 1) := by decide +kernel
theorem d_Streams_learn_62 : decode b_Streams_learn 62 = .ok (.iinc 3 1, 3) := by decide +kernel
theorem d_Streams_learn_65 : decode b_Streams_learn 65 = .ok (.goto (-63), 3) := by decide +kernel
theorem d_Streams_learn_68 : decode b_Streams_learn 68 = .ok (.aload_n 0, 1) := by decide +kernel
theorem d_Streams_learn_69 : decode b_Streams_learn 69 = .ok (.iload_n 2, 1) := by decide +kernel
theorem d_Streams_learn_70 : decode b_Streams_learn 70 = .ok (.invokevirtual 32, 3) := by decide +kernel
theorem d_Streams_learn_73 : decode b_Streams_learn 73 = .ok (.return_, 1) := by decide +kernel
theorem d_Streams_moveInFront_0 : decode b_Streams_moveInFront 0 = .ok (.iload_n 1, 1) := by decide +kernel
theorem d_Streams_moveInFront_1 : decode b_Streams_moveInFront 1 = .ok (.bipush 7, 2) := by decide +kernel
theorem d_Streams_moveInFront_3 : decode b_Streams_moveInFront 3 = .ok (.invokestatic 35, 3) := by decide +kernel
theorem d_Streams_moveInFront_6 : decode b_Streams_moveInFront 6 = .ok (.istore 4, 2) := by decide +kernel
theorem d_Streams_moveInFront_8 : decode b_Streams_moveInFront 8 = .ok (.iload 4, 2) := by decide +kernel
theorem d_Streams_moveInFront_10 : decode b_Streams_moveInFront 10 = .ok (.ifCond .le 41, 3) := by decide +kernel
theorem d_Streams_moveInFront_13 : decode b_Streams_moveInFront 13 = .ok (.aload_n 0, 1) := by decide +kernel
theorem d_Streams_moveInFront_14 : decode b_Streams_moveInFront 14 = .ok (.getfield 9, 3) := by decide +kernel
theorem d_Streams_moveInFront_17 : decode b_Streams_moveInFront 17 = .ok (.iload 4, 2) := by decide +kernel
theorem d_Streams_moveInFront_19 : decode b_Streams_moveInFront 19 = .ok (.aload_n 0, 1) := by decide +kernel
theorem d_Streams_moveInFront_20 : decode b_Streams_moveInFront 20 = .ok (.getfield 9, 3) := by decide +kernel
theorem d_Streams_moveInFront_23 : decode b_Streams_moveInFront 23 = .ok (.iload 4, 2) := by decide +kernel
theorem d_Streams_moveInFront_25 : decode b_Streams_moveInFront 25 = .ok (.iconst 1, 1) := by decide +kernel
theorem d_Streams_moveInFront_26 : decode b_Streams_moveInFront 26 = .ok (.isub, 1) := by decide +kernel
theorem d_Streams_moveInFront_27 : decode b_Streams_moveInFront 27 = .ok (.iaload, 1) := by decide +kernel
theorem d_Streams_moveInFront_28 : decode b_Streams_moveInFront 28 = .ok (.iastore, 1) := by decide +kernel
theorem d_Streams_moveInFront_29 : decode b_Streams_moveInFront 29 = .ok (.aload_n 0, 1) := by decide +kernel
theorem d_Streams_moveInFront_30 : decode b_Streams_moveInFront 30 = .ok (.getfield 13, 3) := by decide +kernel
theorem d_Streams_moveInFront_33 : decode b_Streams_moveInFront 33 = .ok (.iload 4, 2) := by decide +kernel
theorem d_Streams_moveInFront_35 : decode b_Streams_moveInFront 35 = .ok (.aload_n 0, 1) := by decide +kernel
theorem d_Streams_moveInFront_36 : decode b_Streams_moveInFront 36 = .ok (.getfield 13, 3) := by decide +kernel
theorem d_Streams_moveInFront_39 : decode b_Streams_moveInFront 39 = .ok (.iload 4, 2) := by decide +kernel
theorem d_Streams_moveInFront_41 : decode b_Streams_moveInFront 41 = .ok (.iconst 1, 1) := by decide +kernel
theorem d_Streams_moveInFront_42 : decode b_Streams_moveInFront 42 = .ok (.isub, 1) := by decide +kernel
theorem d_Streams_moveInFront_43 : decode b_Streams_moveInFront 43 = .ok (.iaload, 1) := by decide +kernel
theorem d_Streams_moveInFront_44 : decode b_Streams_moveInFront 44 = .ok (.iastore, 1) := by decide +kernel
theorem d_Streams_moveInFront_45 : decode b_Streams_moveInFront 45 = .ok (.iinc 4 (-1), 3) := by decide +kernel
theorem d_Streams_moveInFront_48 : decode b_Streams_moveInFront 48 = .ok (.goto (-40), 3) := by decide +kernel
theorem d_Streams_moveInFront_51 : decode b_Streams_moveInFront 51 = .ok (.aload_n 0, 1) := by decide +kernel
theorem d_Streams_moveInFront_52 : decode b_Streams_moveInFront 52 = .ok (.getfield 9, 3) := by decide +kernel
theorem d_Streams_moveInFront_55 : decode b_Streams_moveInFront 55 = .ok (.iconst 0, 1) := by decide +kernel
theorem d_Streams_moveInFront_56 : decode b_Streams_moveInFront 56 = .ok (.iload_n 2, 1) := by decide +kernel
theorem d_Streams_moveInFront_57 : decode b_Streams_moveInFront 57 = .ok (.iastore, 1) := by decide +kernel
theorem d_Streams_moveInFront_58 : decode b_Streams_moveInFront 58 = .ok (.aload_n 0, 1) := by decide +kernel
theorem d_Streams_moveInFront_59 : decode b_Streams_moveInFront 59 = .ok (.getfield 13, 3) := by decide +kernel
theorem d_Streams_moveInFront_62 : decode b_Streams_moveInFront 62 = .ok (.iconst 0, 1) := by decide +kernel
theorem d_Streams_moveInFront_63 : decode b_Streams_moveInFront 63 = .ok (.iload_n 3, 1) := by decide +kernel
theorem d_Streams_moveInFront_64 : decode b_Streams_moveInFront 64 = .ok (.iastore, 1) := by decide +kernel
theorem d_Streams_moveInFront_65 : decode b_Streams_moveInFront 65 = .ok (.return_, 1) := by decide +kernel
theorem d_Streams_wayTo_0 : decode b_Streams_wayTo 0 = .ok (.iload_n 0, 1) := by decide +kernel
theorem d_Streams_wayTo_1 : decode b_Streams_wayTo 1 = .ok (.iconst 1, 1) := by decide +kernel
theorem d_Streams_wayTo_2 : decode b_Streams_wayTo 2 = .ok (.if_icmp .lt 10, 3) := by decide +kernel
theorem d_Streams_wayTo_5 : decode b_Streams_wayTo 5 = .ok (.iload_n 0, 1) := by decide +kernel
theorem d_Streams_wayTo_6 : decode b_Streams_wayTo 6 = .ok (.iconst 2, 1) := by decide +kernel
theorem d_Streams_wayTo_7 : decode b_Streams_wayTo 7 = .ok (.if_icmp .gt 5, 3) := by decide +kernel
theorem d_Streams_wayTo_10 : decode b_Streams_wayTo 10 = .ok (.iconst 1, 1) := by decide +kernel
theorem d_Streams_wayTo_11 : decode b_Streams_wayTo 11 = .ok (.ireturn, 1) := by decide +kernel
theorem d_Streams_wayTo_12 : decode b_Streams_wayTo 12 = .ok (.iload_n 0, 1) := by decide +kernel
theorem d_Streams_wayTo_13 : decode b_Streams_wayTo 13 = .ok (.iconst (-1), 1) := by decide +kernel
theorem d_Streams_wayTo_14 : decode b_Streams_wayTo 14 = .ok (.if_icmp .gt 13, 3) := by decide +kernel
theorem d_Streams_wayTo_17 : decode b_Streams_wayTo 17 = .ok (.iload_n 0, 1) := by decide +kernel
theorem d_Streams_wayTo_18 : decode b_Streams_wayTo 18 = .ok (.bipush (-2), 2) := by decide +kernel
theorem d_Streams_wayTo_20 : decode b_Streams_wayTo 20 = .ok (.if_icmp .lt 7, 3) := by decide +kernel
theorem d_Streams_wayTo_23 : decode b_Streams_wayTo 23 = .ok (.iconst (-1), 1) := by decide +kernel
theorem d_Streams_wayTo_24 : decode b_Streams_wayTo 24 = .ok (.goto 4, 3) := by decide +kernel
theorem d_Streams_wayTo_27 : decode b_Streams_wayTo 27 = .ok (.iconst 0, 1) := by decide +kernel
theorem d_Streams_wayTo_28 : decode b_Streams_wayTo 28 = .ok (.ireturn, 1) := by decide +kernel
theorem d_Main_init_0 : decode b_Main_init 0 = .ok (.aload_n 0, 1) := by decide +kernel
theorem d_Main_init_1 : decode b_Main_init 1 = .ok (.invokespecial 1, 3) := by decide +kernel
theorem d_Main_init_4 : decode b_Main_init 4 = .ok (.aload_n 0, 1) := by decide +kernel
theorem d_Main_init_5 : decode b_Main_init 5 = .ok (.bipush 32, 2) := by decide +kernel
theorem d_Main_init_7 : decode b_Main_init 7 = .ok (.iload_n 3, 1) := by decide +kernel
theorem d_Main_init_8 : decode b_Main_init 8 = .ok (.invokestatic 9, 3) := by decide +kernel
theorem d_Main_init_11 : decode b_Main_init 11 = .ok (.putfield 13, 3) := by decide +kernel
theorem d_Main_init_14 : decode b_Main_init 14 = .ok (.aload_n 0, 1) := by decide +kernel
theorem d_Main_init_15 : decode b_Main_init 15 = .ok (.new 17, 3) := by decide +kernel
theorem d_Main_init_18 : decode b_Main_init 18 = .ok (.dup, 1) := by decide +kernel
theorem d_Main_init_19 : decode b_Main_init 19 = .ok (.bipush 64, 2) := by decide +kernel
theorem d_Main_init_21 : decode b_Main_init 21 = .ok (.iload 4, 2) := by decide +kernel
theorem d_Main_init_23 : decode b_Main_init 23 = .ok (.invokestatic 9, 3) := by decide +kernel
theorem d_Main_init_26 : decode b_Main_init 26 = .ok (.invokespecial 19, 3) := by decide +kernel
theorem d_Main_init_29 : decode b_Main_init 29 = .ok (.putfield 22, 3) := by decide +kernel
theorem d_Main_init_32 : decode b_Main_init 32 = .ok (.aload_n 0, 1) := by decide +kernel
theorem d_Main_init_33 : decode b_Main_init 33 = .ok (.new 26, 3) := by decide +kernel
theorem d_Main_init_36 : decode b_Main_init 36 = .ok (.dup, 1) := by decide +kernel
theorem d_Main_init_37 : decode b_Main_init 37 = .ok (.invokespecial 28, 3) := by decide +kernel
theorem d_Main_init_40 : decode b_Main_init 40 = .ok (.putfield 29, 3) := by decide +kernel
theorem d_Main_init_43 : decode b_Main_init 43 = .ok (.aload_n 0, 1) := by decide +kernel
theorem d_Main_init_44 : decode b_Main_init 44 = .ok (.iload_n 1, 1) := by decide +kernel
theorem d_Main_init_45 : decode b_Main_init 45 = .ok (.iconst 5, 1) := by decide +kernel
theorem d_Main_init_46 : decode b_Main_init 46 = .ok (.invokestatic 33, 3) := by decide +kernel
theorem d_Main_init_49 : decode b_Main_init 49 = .ok (.iconst 4, 1) := by decide +kernel
theorem d_Main_init_50 : decode b_Main_init 50 = .ok (.iload_n 2, 1) := by decide +kernel
theorem d_Main_init_51 : decode b_Main_init 51 = .ok (.invokestatic 9, 3) := by decide +kernel
theorem d_Main_init_54 : decode b_Main_init 54 = .ok (.invokestatic 38, 3) := by decide +kernel
theorem d_Main_init_57 : decode b_Main_init 57 = .ok (.putfield 42, 3) := by decide +kernel
theorem d_Main_init_60 : decode b_Main_init 60 = .ok (.return_, 1) := by decide +kernel
theorem d_Main_access_0 : decode b_Main_access 0 = .ok (.aload_n 0, 1) := by decide +kernel
theorem d_Main_access_1 : decode b_Main_access 1 = .ok (.dup, 1) := by decide +kernel
theorem d_Main_access_2 : decode b_Main_access 2 = .ok (.getfield 46, 3) := by decide +kernel
theorem d_Main_access_5 : decode b_Main_access 5 = .ok (.iconst 1, 1) := by decide +kernel
theorem d_Main_access_6 : decode b_Main_access 6 = .ok (.iadd, 1) := by decide +kernel
theorem d_Main_access_7 : decode b_Main_access 7 = .ok (.putfield 46, 3) := by decide +kernel
theorem d_Main_access_10 : decode b_Main_access 10 = .ok (.aload_n 0, 1) := by decide +kernel
theorem d_Main_access_11 : decode b_Main_access 11 = .ok (.invokevirtual 49, 3) := by decide +kernel
theorem d_Main_access_14 : decode b_Main_access 14 = .ok (.pop, 1) := by decide +kernel
theorem d_Main_access_15 : decode b_Main_access 15 = .ok (.aload_n 0, 1) := by decide +kernel
theorem d_Main_access_16 : decode b_Main_access 16 = .ok (.iload_n 2, 1) := by decide +kernel
theorem d_Main_access_17 : decode b_Main_access 17 = .ok (.invokevirtual 53, 3) := by decide +kernel
theorem d_Main_access_20 : decode b_Main_access 20 = .ok (.istore_n 3, 1) := by decide +kernel
theorem d_Main_access_21 : decode b_Main_access 21 = .ok (.aload_n 0, 1) := by decide +kernel
theorem d_Main_access_22 : decode b_Main_access 22 = .ok (.getfield 42, 3) := by decide +kernel
theorem d_Main_access_25 : decode b_Main_access 25 = .ok (.iload_n 1, 1) := by decide +kernel
theorem d_Main_access_26 : decode b_Main_access 26 = .ok (.iload_n 2, 1) := by decide +kernel
theorem d_Main_access_27 : decode b_Main_access 27 = .ok (.invokevirtual 57, 3) := by decide +kernel
theorem d_Main_access_30 : decode b_Main_access 30 = .ok (.aload_n 0, 1) := by decide +kernel
theorem d_Main_access_31 : decode b_Main_access 31 = .ok (.getfield 42, 3) := by decide +kernel
theorem d_Main_access_34 : decode b_Main_access 34 = .ok (.invokevirtual 63, 3) := by decide +kernel
theorem d_Main_access_37 : decode b_Main_access 37 = .ok (.istore 4, 2) := by decide +kernel
theorem d_Main_access_39 : decode b_Main_access 39 = .ok (.iconst 0, 1) := by decide +kernel
theorem d_Main_access_40 : decode b_Main_access 40 = .ok (.istore 5, 2) := by decide +kernel
theorem d_Main_access_42 : decode b_Main_access 42 = .ok (.iload 5, 2) := by decide +kernel
theorem d_Main_access_44 : decode b_Main_access 44 = .ok (.iload 4, 2) := by decide +kernel
theorem d_Main_access_46 : decode b_Main_access 46 = .ok (.if_icmp .ge 22, 3) := by decide +kernel
theorem d_Main_access_49 : decode b_Main_access 49 = .ok (.aload_n 0, 1) := by decide +kernel
theorem d_Main_access_50 : decode b_Main_access 50 = .ok (.aload_n 0, 1) := by decide +kernel
theorem d_Main_access_51 : decode b_Main_access 51 = .ok (.getfield 42, 3) := by decide +kernel
theorem d_Main_access_54 : decode b_Main_access 54 = .ok (.iload 5, 2) := by decide +kernel
theorem d_Main_access_56 : decode b_Main_access 56 = .ok (.invokevirtual 66, 3) := by decide +kernel
theorem d_Main_access_59 : decode b_Main_access 59 = .ok (.invokevirtual 69, 3) := by decide +kernel
theorem d_Main_access_62 : decode b_Main_access 62 = .ok (.iinc 5 1, 3) := by decide +kernel
theorem d_Main_access_65 : decode b_Main_access 65 = .ok (.goto (-23), 3) := by decide +kernel
theorem d_Main_access_68 : decode b_Main_access 68 = .ok (.iload_n 3, 1) := by decide +kernel
theorem d_Main_access_69 : decode b_Main_access 69 = .ok (.ireturn, 1) := by decide +kernel
theorem d_Main_ask_0 : decode b_Main_ask 0 = .ok (.aload_n 0, 1) := by decide +kernel
theorem d_Main_ask_1 : decode b_Main_ask 1 = .ok (.getfield 22, 3) := by decide +kernel
theorem d_Main_ask_4 : decode b_Main_ask 4 = .ok (.iload_n 1, 1) := by decide +kernel
theorem d_Main_ask_5 : decode b_Main_ask 5 = .ok (.invokevirtual 94, 3) := by decide +kernel
theorem d_Main_ask_8 : decode b_Main_ask 8 = .ok (.istore_n 2, 1) := by decide +kernel
theorem d_Main_ask_9 : decode b_Main_ask 9 = .ok (.iload_n 2, 1) := by decide +kernel
theorem d_Main_ask_10 : decode b_Main_ask 10 = .ok (.iconst (-1), 1) := by decide +kernel
theorem d_Main_ask_11 : decode b_Main_ask 11 = .ok (.if_icmp .eq 10, 3) := by decide +kernel
theorem d_Main_ask_14 : decode b_Main_ask 14 = .ok (.aload_n 0, 1) := by decide +kernel
theorem d_Main_ask_15 : decode b_Main_ask 15 = .ok (.iload_n 2, 1) := by decide +kernel
theorem d_Main_ask_16 : decode b_Main_ask 16 = .ok (.invokevirtual 187, 3) := by decide +kernel
theorem d_Main_ask_19 : decode b_Main_ask 19 = .ok (.iconst 1, 1) := by decide +kernel
theorem d_Main_ask_20 : decode b_Main_ask 20 = .ok (.ireturn, 1) := by decide +kernel
theorem d_Main_ask_21 : decode b_Main_ask 21 = .ok (.aload_n 0, 1) := by decide +kernel
theorem d_Main_ask_22 : decode b_Main_ask 22 = .ok (.getfield 29, 3) := by decide +kernel
theorem d_Main_ask_25 : decode b_Main_ask 25 = .ok (.iload_n 1, 1) := by decide +kernel
theorem d_Main_ask_26 : decode b_Main_ask 26 = .ok (.invokevirtual 101, 3) := by decide +kernel
theorem d_Main_ask_29 : decode b_Main_ask 29 = .ok (.istore_n 3, 1) := by decide +kernel
theorem d_Main_ask_30 : decode b_Main_ask 30 = .ok (.iload_n 3, 1) := by decide +kernel
theorem d_Main_ask_31 : decode b_Main_ask 31 = .ok (.iconst (-1), 1) := by decide +kernel
theorem d_Main_ask_32 : decode b_Main_ask 32 = .ok (.if_icmp .eq 29, 3) := by decide +kernel
theorem d_Main_ask_35 : decode b_Main_ask 35 = .ok (.aload_n 0, 1) := by decide +kernel
theorem d_Main_ask_36 : decode b_Main_ask 36 = .ok (.dup, 1) := by decide +kernel
theorem d_Main_ask_37 : decode b_Main_ask 37 = .ok (.getfield 131, 3) := by decide +kernel
theorem d_Main_ask_40 : decode b_Main_ask 40 = .ok (.iconst 1, 1) := by decide +kernel
theorem d_Main_ask_41 : decode b_Main_ask 41 = .ok (.iadd, 1) := by decide +kernel
theorem d_Main_ask_42 : decode b_Main_ask 42 = .ok (.putfield 131, 3) := by decide +kernel
theorem d_Main_ask_45 : decode b_Main_ask 45 = .ok (.aload_n 0, 1) := by decide +kernel
theorem d_Main_ask_46 : decode b_Main_ask 46 = .ok (.getfield 29, 3) := by decide +kernel
theorem d_Main_ask_49 : decode b_Main_ask 49 = .ok (.iload_n 3, 1) := by decide +kernel
theorem d_Main_ask_50 : decode b_Main_ask 50 = .ok (.invokevirtual 174, 3) := by decide +kernel
theorem d_Main_ask_53 : decode b_Main_ask 53 = .ok (.aload_n 0, 1) := by decide +kernel
theorem d_Main_ask_54 : decode b_Main_ask 54 = .ok (.iload_n 1, 1) := by decide +kernel
theorem d_Main_ask_55 : decode b_Main_ask 55 = .ok (.iconst 0, 1) := by decide +kernel
theorem d_Main_ask_56 : decode b_Main_ask 56 = .ok (.invokevirtual 170, 3) := by decide +kernel
theorem d_Main_ask_59 : decode b_Main_ask 59 = .ok (.iconst 2, 1) := by decide +kernel
theorem d_Main_ask_60 : decode b_Main_ask 60 = .ok (.ireturn, 1) := by decide +kernel
theorem d_Main_ask_61 : decode b_Main_ask 61 = .ok (.aload_n 0, 1) := by decide +kernel
theorem d_Main_ask_62 : decode b_Main_ask 62 = .ok (.dup, 1) := by decide +kernel
theorem d_Main_ask_63 : decode b_Main_ask 63 = .ok (.getfield 134, 3) := by decide +kernel
theorem d_Main_ask_66 : decode b_Main_ask 66 = .ok (.iconst 1, 1) := by decide +kernel
theorem d_Main_ask_67 : decode b_Main_ask 67 = .ok (.iadd, 1) := by decide +kernel
theorem d_Main_ask_68 : decode b_Main_ask 68 = .ok (.putfield 134, 3) := by decide +kernel
theorem d_Main_ask_71 : decode b_Main_ask 71 = .ok (.aload_n 0, 1) := by decide +kernel
theorem d_Main_ask_72 : decode b_Main_ask 72 = .ok (.iload_n 1, 1) := by decide +kernel
theorem d_Main_ask_73 : decode b_Main_ask 73 = .ok (.iconst 0, 1) := by decide +kernel
theorem d_Main_ask_74 : decode b_Main_ask 74 = .ok (.invokevirtual 170, 3) := by decide +kernel
theorem d_Main_ask_77 : decode b_Main_ask 77 = .ok (.iconst 0, 1) := by decide +kernel
theorem d_Main_ask_78 : decode b_Main_ask 78 = .ok (.ireturn, 1) := by decide +kernel
theorem d_Main_come_0 : decode b_Main_come 0 = .ok (.aload_n 0, 1) := by decide +kernel
theorem d_Main_come_1 : decode b_Main_come 1 = .ok (.getfield 22, 3) := by decide +kernel
theorem d_Main_come_4 : decode b_Main_come 4 = .ok (.invokevirtual 177, 3) := by decide +kernel
theorem d_Main_come_7 : decode b_Main_come 7 = .ok (.ifCond .eq 23, 3) := by decide +kernel
theorem d_Main_come_10 : decode b_Main_come 10 = .ok (.aload_n 0, 1) := by decide +kernel
theorem d_Main_come_11 : decode b_Main_come 11 = .ok (.getfield 22, 3) := by decide +kernel
theorem d_Main_come_14 : decode b_Main_come 14 = .ok (.invokevirtual 181, 3) := by decide +kernel
theorem d_Main_come_17 : decode b_Main_come 17 = .ok (.ifCond .eq 13, 3) := by decide +kernel
theorem d_Main_come_20 : decode b_Main_come 20 = .ok (.aload_n 0, 1) := by decide +kernel
theorem d_Main_come_21 : decode b_Main_come 21 = .ok (.dup, 1) := by decide +kernel
theorem d_Main_come_22 : decode b_Main_come 22 = .ok (.getfield 91, 3) := by decide +kernel
theorem d_Main_come_25 : decode b_Main_come 25 = .ok (.iconst 1, 1) := by decide +kernel
theorem d_Main_come_26 : decode b_Main_come 26 = .ok (.iadd, 1) := by decide +kernel
theorem d_Main_come_27 : decode b_Main_come 27 = .ok (.putfield 91, 3) := by decide +kernel
theorem d_Main_come_30 : decode b_Main_come 30 = .ok (.aload_n 0, 1) := by decide +kernel
theorem d_Main_come_31 : decode b_Main_come 31 = .ok (.getfield 22, 3) := by decide +kernel
theorem d_Main_come_34 : decode b_Main_come 34 = .ok (.iload_n 1, 1) := by decide +kernel
theorem d_Main_come_35 : decode b_Main_come 35 = .ok (.iload_n 2, 1) := by decide +kernel
theorem d_Main_come_36 : decode b_Main_come 36 = .ok (.invokevirtual 184, 3) := by decide +kernel
theorem d_Main_come_39 : decode b_Main_come 39 = .ok (.return_, 1) := by decide +kernel
theorem d_Main_count_0 : decode b_Main_count 0 = .ok (.iload_n 1, 1) := by decide +kernel
theorem d_Main_count_1 : decode b_Main_count 1 = .ok (.tableswitch 153 0 13 #[71, 76, 81, 86, 91, 96, 101, 106, 111, 116, 121, 129, 137, 145], 71) := by decide +kernel
theorem d_Main_count_72 : decode b_Main_count 72 = .ok (.aload_n 0, 1) := by decide +kernel
theorem d_Main_count_73 : decode b_Main_count 73 = .ok (.getfield 46, 3) := by decide +kernel
theorem d_Main_count_76 : decode b_Main_count 76 = .ok (.ireturn, 1) := by decide +kernel
theorem d_Main_count_77 : decode b_Main_count 77 = .ok (.aload_n 0, 1) := by decide +kernel
theorem d_Main_count_78 : decode b_Main_count 78 = .ok (.getfield 128, 3) := by decide +kernel
theorem d_Main_count_81 : decode b_Main_count 81 = .ok (.ireturn, 1) := by decide +kernel
theorem d_Main_count_82 : decode b_Main_count 82 = .ok (.aload_n 0, 1) := by decide +kernel
theorem d_Main_count_83 : decode b_Main_count 83 = .ok (.getfield 131, 3) := by decide +kernel
theorem d_Main_count_86 : decode b_Main_count 86 = .ok (.ireturn, 1) := by decide +kernel
theorem d_Main_count_87 : decode b_Main_count 87 = .ok (.aload_n 0, 1) := by decide +kernel
theorem d_Main_count_88 : decode b_Main_count 88 = .ok (.getfield 134, 3) := by decide +kernel
theorem d_Main_count_91 : decode b_Main_count 91 = .ok (.ireturn, 1) := by decide +kernel
theorem d_Main_count_92 : decode b_Main_count 92 = .ok (.aload_n 0, 1) := by decide +kernel
theorem d_Main_count_93 : decode b_Main_count 93 = .ok (.getfield 137, 3) := by decide +kernel
theorem d_Main_count_96 : decode b_Main_count 96 = .ok (.ireturn, 1) := by decide +kernel
theorem d_Main_count_97 : decode b_Main_count 97 = .ok (.aload_n 0, 1) := by decide +kernel
theorem d_Main_count_98 : decode b_Main_count 98 = .ok (.getfield 91, 3) := by decide +kernel
theorem d_Main_count_101 : decode b_Main_count 101 = .ok (.ireturn, 1) := by decide +kernel
theorem d_Main_count_102 : decode b_Main_count 102 = .ok (.aload_n 0, 1) := by decide +kernel
theorem d_Main_count_103 : decode b_Main_count 103 = .ok (.getfield 140, 3) := by decide +kernel
theorem d_Main_count_106 : decode b_Main_count 106 = .ok (.ireturn, 1) := by decide +kernel
theorem d_Main_count_107 : decode b_Main_count 107 = .ok (.aload_n 0, 1) := by decide +kernel
theorem d_Main_count_108 : decode b_Main_count 108 = .ok (.getfield 143, 3) := by decide +kernel
theorem d_Main_count_111 : decode b_Main_count 111 = .ok (.ireturn, 1) := by decide +kernel
theorem d_Main_count_112 : decode b_Main_count 112 = .ok (.aload_n 0, 1) := by decide +kernel
theorem d_Main_count_113 : decode b_Main_count 113 = .ok (.getfield 146, 3) := by decide +kernel
theorem d_Main_count_116 : decode b_Main_count 116 = .ok (.ireturn, 1) := by decide +kernel
theorem d_Main_count_117 : decode b_Main_count 117 = .ok (.aload_n 0, 1) := by decide +kernel
theorem d_Main_count_118 : decode b_Main_count 118 = .ok (.getfield 119, 3) := by decide +kernel
theorem d_Main_count_121 : decode b_Main_count 121 = .ok (.ireturn, 1) := by decide +kernel
theorem d_Main_count_122 : decode b_Main_count 122 = .ok (.aload_n 0, 1) := by decide +kernel
theorem d_Main_count_123 : decode b_Main_count 123 = .ok (.getfield 22, 3) := by decide +kernel
theorem d_Main_count_126 : decode b_Main_count 126 = .ok (.invokevirtual 102, 3) := by decide +kernel
theorem d_Main_count_129 : decode b_Main_count 129 = .ok (.ireturn, 1) := by decide +kernel
theorem d_Main_count_130 : decode b_Main_count 130 = .ok (.aload_n 0, 1) := by decide +kernel
theorem d_Main_count_131 : decode b_Main_count 131 = .ok (.getfield 29, 3) := by decide +kernel
theorem d_Main_count_134 : decode b_Main_count 134 = .ok (.invokevirtual 79, 3) := by decide +kernel
theorem d_Main_count_137 : decode b_Main_count 137 = .ok (.ireturn, 1) := by decide +kernel
theorem d_Main_count_138 : decode b_Main_count 138 = .ok (.aload_n 0, 1) := by decide +kernel
theorem d_Main_count_139 : decode b_Main_count 139 = .ok (.getfield 22, 3) := by decide +kernel
theorem d_Main_count_142 : decode b_Main_count 142 = .ok (.invokevirtual 82, 3) := by decide +kernel
theorem d_Main_count_145 : decode b_Main_count 145 = .ok (.ireturn, 1) := by decide +kernel
theorem d_Main_count_146 : decode b_Main_count 146 = .ok (.aload_n 0, 1) := by decide +kernel
theorem d_Main_count_147 : decode b_Main_count 147 = .ok (.getfield 42, 3) := by decide +kernel
theorem d_Main_count_150 : decode b_Main_count 150 = .ok (.invokevirtual 149, 3) := by decide +kernel
theorem d_Main_count_153 : decode b_Main_count 153 = .ok (.ireturn, 1) := by decide +kernel
theorem d_Main_count_154 : decode b_Main_count 154 = .ok (.iconst (-1), 1) := by decide +kernel
theorem d_Main_count_155 : decode b_Main_count 155 = .ok (.ireturn, 1) := by decide +kernel
theorem d_Main_fetch_0 : decode b_Main_fetch 0 = .ok (.aload_n 0, 1) := by decide +kernel
theorem d_Main_fetch_1 : decode b_Main_fetch 1 = .ok (.getfield 22, 3) := by decide +kernel
theorem d_Main_fetch_4 : decode b_Main_fetch 4 = .ok (.iload_n 1, 1) := by decide +kernel
theorem d_Main_fetch_5 : decode b_Main_fetch 5 = .ok (.invokevirtual 94, 3) := by decide +kernel
theorem d_Main_fetch_8 : decode b_Main_fetch 8 = .ok (.iconst (-1), 1) := by decide +kernel
theorem d_Main_fetch_9 : decode b_Main_fetch 9 = .ok (.if_icmp .ne 15, 3) := by decide +kernel
theorem d_Main_fetch_12 : decode b_Main_fetch 12 = .ok (.aload_n 0, 1) := by decide +kernel
theorem d_Main_fetch_13 : decode b_Main_fetch 13 = .ok (.getfield 29, 3) := by decide +kernel
theorem d_Main_fetch_16 : decode b_Main_fetch 16 = .ok (.iload_n 1, 1) := by decide +kernel
theorem d_Main_fetch_17 : decode b_Main_fetch 17 = .ok (.invokevirtual 101, 3) := by decide +kernel
theorem d_Main_fetch_20 : decode b_Main_fetch 20 = .ok (.iconst (-1), 1) := by decide +kernel
theorem d_Main_fetch_21 : decode b_Main_fetch 21 = .ok (.if_icmp .eq 16, 3) := by decide +kernel
theorem d_Main_fetch_24 : decode b_Main_fetch 24 = .ok (.aload_n 0, 1) := by decide +kernel
theorem d_Main_fetch_25 : decode b_Main_fetch 25 = .ok (.dup, 1) := by decide +kernel
theorem d_Main_fetch_26 : decode b_Main_fetch 26 = .ok (.getfield 140, 3) := by decide +kernel
theorem d_Main_fetch_29 : decode b_Main_fetch 29 = .ok (.iconst 1, 1) := by decide +kernel
theorem d_Main_fetch_30 : decode b_Main_fetch 30 = .ok (.iadd, 1) := by decide +kernel
theorem d_Main_fetch_31 : decode b_Main_fetch 31 = .ok (.putfield 140, 3) := by decide +kernel
theorem d_Main_fetch_34 : decode b_Main_fetch 34 = .ok (.goto 53, 3) := by decide +kernel
theorem d_Main_fetch_37 : decode b_Main_fetch 37 = .ok (.aload_n 0, 1) := by decide +kernel
theorem d_Main_fetch_38 : decode b_Main_fetch 38 = .ok (.getfield 29, 3) := by decide +kernel
theorem d_Main_fetch_41 : decode b_Main_fetch 41 = .ok (.invokevirtual 193, 3) := by decide +kernel
theorem d_Main_fetch_44 : decode b_Main_fetch 44 = .ok (.ifCond .eq 16, 3) := by decide +kernel
theorem d_Main_fetch_47 : decode b_Main_fetch 47 = .ok (.aload_n 0, 1) := by decide +kernel
theorem d_Main_fetch_48 : decode b_Main_fetch 48 = .ok (.dup, 1) := by decide +kernel
theorem d_Main_fetch_49 : decode b_Main_fetch 49 = .ok (.getfield 143, 3) := by decide +kernel
theorem d_Main_fetch_52 : decode b_Main_fetch 52 = .ok (.iconst 1, 1) := by decide +kernel
theorem d_Main_fetch_53 : decode b_Main_fetch 53 = .ok (.iadd, 1) := by decide +kernel
theorem d_Main_fetch_54 : decode b_Main_fetch 54 = .ok (.putfield 143, 3) := by decide +kernel
theorem d_Main_fetch_57 : decode b_Main_fetch 57 = .ok (.goto 30, 3) := by decide +kernel
theorem d_Main_fetch_60 : decode b_Main_fetch 60 = .ok (.aload_n 0, 1) := by decide +kernel
theorem d_Main_fetch_61 : decode b_Main_fetch 61 = .ok (.getfield 29, 3) := by decide +kernel
theorem d_Main_fetch_64 : decode b_Main_fetch 64 = .ok (.iload_n 1, 1) := by decide +kernel
theorem d_Main_fetch_65 : decode b_Main_fetch 65 = .ok (.aload_n 0, 1) := by decide +kernel
theorem d_Main_fetch_66 : decode b_Main_fetch 66 = .ok (.getfield 119, 3) := by decide +kernel
theorem d_Main_fetch_69 : decode b_Main_fetch 69 = .ok (.aload_n 0, 1) := by decide +kernel
theorem d_Main_fetch_70 : decode b_Main_fetch 70 = .ok (.getfield 13, 3) := by decide +kernel
theorem d_Main_fetch_73 : decode b_Main_fetch 73 = .ok (.iadd, 1) := by decide +kernel
theorem d_Main_fetch_74 : decode b_Main_fetch 74 = .ok (.invokevirtual 194, 3) := by decide +kernel
theorem d_Main_fetch_77 : decode b_Main_fetch 77 = .ok (.aload_n 0, 1) := by decide +kernel
theorem d_Main_fetch_78 : decode b_Main_fetch 78 = .ok (.dup, 1) := by decide +kernel
theorem d_Main_fetch_79 : decode b_Main_fetch 79 = .ok (.getfield 146, 3) := by decide +kernel
theorem d_Main_fetch_82 : decode b_Main_fetch 82 = .ok (.iconst 1, 1) := by decide +kernel
theorem d_Main_fetch_83 : decode b_Main_fetch 83 = .ok (.iadd, 1) := by decide +kernel
theorem d_Main_fetch_84 : decode b_Main_fetch 84 = .ok (.putfield 146, 3) := by decide +kernel
theorem d_Main_fetch_87 : decode b_Main_fetch 87 = .ok (.return_, 1) := by decide +kernel
theorem d_Main_finish_0 : decode b_Main_finish 0 = .ok (.aload_n 0, 1) := by decide +kernel
theorem d_Main_finish_1 : decode b_Main_finish 1 = .ok (.getfield 29, 3) := by decide +kernel
theorem d_Main_finish_4 : decode b_Main_finish 4 = .ok (.invokevirtual 79, 3) := by decide +kernel
theorem d_Main_finish_7 : decode b_Main_finish 7 = .ok (.aload_n 0, 1) := by decide +kernel
theorem d_Main_finish_8 : decode b_Main_finish 8 = .ok (.getfield 22, 3) := by decide +kernel
theorem d_Main_finish_11 : decode b_Main_finish 11 = .ok (.invokevirtual 82, 3) := by decide +kernel
theorem d_Main_finish_14 : decode b_Main_finish 14 = .ok (.iadd, 1) := by decide +kernel
theorem d_Main_finish_15 : decode b_Main_finish 15 = .ok (.istore_n 1, 1) := by decide +kernel
theorem d_Main_finish_16 : decode b_Main_finish 16 = .ok (.aload_n 0, 1) := by decide +kernel
theorem d_Main_finish_17 : decode b_Main_finish 17 = .ok (.getfield 29, 3) := by decide +kernel
theorem d_Main_finish_20 : decode b_Main_finish 20 = .ok (.invokevirtual 85, 3) := by decide +kernel
theorem d_Main_finish_23 : decode b_Main_finish 23 = .ok (.aload_n 0, 1) := by decide +kernel
theorem d_Main_finish_24 : decode b_Main_finish 24 = .ok (.getfield 22, 3) := by decide +kernel
theorem d_Main_finish_27 : decode b_Main_finish 27 = .ok (.invokevirtual 88, 3) := by decide +kernel
theorem d_Main_finish_30 : decode b_Main_finish 30 = .ok (.aload_n 0, 1) := by decide +kernel
theorem d_Main_finish_31 : decode b_Main_finish 31 = .ok (.dup, 1) := by decide +kernel
theorem d_Main_finish_32 : decode b_Main_finish 32 = .ok (.getfield 91, 3) := by decide +kernel
theorem d_Main_finish_35 : decode b_Main_finish 35 = .ok (.iload_n 1, 1) := by decide +kernel
theorem d_Main_finish_36 : decode b_Main_finish 36 = .ok (.iadd, 1) := by decide +kernel
theorem d_Main_finish_37 : decode b_Main_finish 37 = .ok (.putfield 91, 3) := by decide +kernel
theorem d_Main_finish_40 : decode b_Main_finish 40 = .ok (.iload_n 1, 1) := by decide +kernel
theorem d_Main_finish_41 : decode b_Main_finish 41 = .ok (.ireturn, 1) := by decide +kernel
theorem d_Main_hit_0 : decode b_Main_hit 0 = .ok (.aload_n 0, 1) := by decide +kernel
theorem d_Main_hit_1 : decode b_Main_hit 1 = .ok (.dup, 1) := by decide +kernel
theorem d_Main_hit_2 : decode b_Main_hit 2 = .ok (.getfield 128, 3) := by decide +kernel
theorem d_Main_hit_5 : decode b_Main_hit 5 = .ok (.iconst 1, 1) := by decide +kernel
theorem d_Main_hit_6 : decode b_Main_hit 6 = .ok (.iadd, 1) := by decide +kernel
theorem d_Main_hit_7 : decode b_Main_hit 7 = .ok (.putfield 128, 3) := by decide +kernel
theorem d_Main_hit_10 : decode b_Main_hit 10 = .ok (.aload_n 0, 1) := by decide +kernel
theorem d_Main_hit_11 : decode b_Main_hit 11 = .ok (.getfield 22, 3) := by decide +kernel
theorem d_Main_hit_14 : decode b_Main_hit 14 = .ok (.iload_n 1, 1) := by decide +kernel
theorem d_Main_hit_15 : decode b_Main_hit 15 = .ok (.invokevirtual 97, 3) := by decide +kernel
theorem d_Main_hit_18 : decode b_Main_hit 18 = .ok (.ifCond .eq 13, 3) := by decide +kernel
theorem d_Main_hit_21 : decode b_Main_hit 21 = .ok (.aload_n 0, 1) := by decide +kernel
theorem d_Main_hit_22 : decode b_Main_hit 22 = .ok (.dup, 1) := by decide +kernel
theorem d_Main_hit_23 : decode b_Main_hit 23 = .ok (.getfield 137, 3) := by decide +kernel
theorem d_Main_hit_26 : decode b_Main_hit 26 = .ok (.iconst 1, 1) := by decide +kernel
theorem d_Main_hit_27 : decode b_Main_hit 27 = .ok (.iadd, 1) := by decide +kernel
theorem d_Main_hit_28 : decode b_Main_hit 28 = .ok (.putfield 137, 3) := by decide +kernel
theorem d_Main_hit_31 : decode b_Main_hit 31 = .ok (.aload_n 0, 1) := by decide +kernel
theorem d_Main_hit_32 : decode b_Main_hit 32 = .ok (.getfield 22, 3) := by decide +kernel
theorem d_Main_hit_35 : decode b_Main_hit 35 = .ok (.iload_n 1, 1) := by decide +kernel
theorem d_Main_hit_36 : decode b_Main_hit 36 = .ok (.invokevirtual 190, 3) := by decide +kernel
theorem d_Main_hit_39 : decode b_Main_hit 39 = .ok (.return_, 1) := by decide +kernel
theorem d_Main_indexOf_0 : decode b_Main_indexOf 0 = .ok (.iconst 0, 1) := by decide +kernel
theorem d_Main_indexOf_1 : decode b_Main_indexOf 1 = .ok (.istore_n 3, 1) := by decide +kernel
theorem d_Main_indexOf_2 : decode b_Main_indexOf 2 = .ok (.iload_n 3, 1) := by decide +kernel
theorem d_Main_indexOf_3 : decode b_Main_indexOf 3 = .ok (.iload_n 2, 1) := by decide +kernel
theorem d_Main_indexOf_4 : decode b_Main_indexOf 4 = .ok (.if_icmp .ge 24, 3) := by decide +kernel
theorem d_Main_indexOf_7 : decode b_Main_indexOf 7 = .ok (.iload_n 3, 1) := by decide +kernel
theorem d_Main_indexOf_8 : decode b_Main_indexOf 8 = .ok (.aload_n 1, 1) := by decide +kernel
theorem d_Main_indexOf_9 : decode b_Main_indexOf 9 = .ok (.arraylength, 1) := by decide +kernel
theorem d_Main_indexOf_10 : decode b_Main_indexOf 10 = .ok (.if_icmp .ge 18, 3) := by decide +kernel
theorem d_Main_indexOf_13 : decode b_Main_indexOf 13 = .ok (.aload_n 1, 1) := by decide +kernel
theorem d_Main_indexOf_14 : decode b_Main_indexOf 14 = .ok (.iload_n 3, 1) := by decide +kernel
theorem d_Main_indexOf_15 : decode b_Main_indexOf 15 = .ok (.iaload, 1) := by decide +kernel
theorem d_Main_indexOf_16 : decode b_Main_indexOf 16 = .ok (.iload_n 0, 1) := by decide +kernel
theorem d_Main_indexOf_17 : decode b_Main_indexOf 17 = .ok (.if_icmp .ne 5, 3) := by decide +kernel
theorem d_Main_indexOf_20 : decode b_Main_indexOf 20 = .ok (.iload_n 3, 1) := by decide +kernel
theorem d_Main_indexOf_21 : decode b_Main_indexOf 21 = .ok (.ireturn, 1) := by decide +kernel
theorem d_Main_indexOf_22 : decode b_Main_indexOf 22 = .ok (.iinc 3 1, 3) := by decide +kernel
theorem d_Main_indexOf_25 : decode b_Main_indexOf 25 = .ok (.goto (-23), 3) := by decide +kernel
theorem d_Main_indexOf_28 : decode b_Main_indexOf 28 = .ok (.iconst (-1), 1) := by decide +kernel
theorem d_Main_indexOf_29 : decode b_Main_indexOf 29 = .ok (.ireturn, 1) := by decide +kernel
theorem d_Main_known_0 : decode b_Main_known 0 = .ok (.aload_n 0, 1) := by decide +kernel
theorem d_Main_known_1 : decode b_Main_known 1 = .ok (.getfield 42, 3) := by decide +kernel
theorem d_Main_known_4 : decode b_Main_known 4 = .ok (.iload_n 1, 1) := by decide +kernel
theorem d_Main_known_5 : decode b_Main_known 5 = .ok (.invokevirtual 122, 3) := by decide +kernel
theorem d_Main_known_8 : decode b_Main_known 8 = .ok (.ireturn, 1) := by decide +kernel
theorem d_Main_nextCycle_0 : decode b_Main_nextCycle 0 = .ok (.aload_n 0, 1) := by decide +kernel
theorem d_Main_nextCycle_1 : decode b_Main_nextCycle 1 = .ok (.dup, 1) := by decide +kernel
theorem d_Main_nextCycle_2 : decode b_Main_nextCycle 2 = .ok (.getfield 119, 3) := by decide +kernel
theorem d_Main_nextCycle_5 : decode b_Main_nextCycle 5 = .ok (.iconst 1, 1) := by decide +kernel
theorem d_Main_nextCycle_6 : decode b_Main_nextCycle 6 = .ok (.iadd, 1) := by decide +kernel
theorem d_Main_nextCycle_7 : decode b_Main_nextCycle 7 = .ok (.putfield 119, 3) := by decide +kernel
theorem d_Main_nextCycle_10 : decode b_Main_nextCycle 10 = .ok (.iconst 0, 1) := by decide +kernel
theorem d_Main_nextCycle_11 : decode b_Main_nextCycle 11 = .ok (.istore_n 1, 1) := by decide +kernel
theorem d_Main_nextCycle_12 : decode b_Main_nextCycle 12 = .ok (.iconst 0, 1) := by decide +kernel
theorem d_Main_nextCycle_13 : decode b_Main_nextCycle 13 = .ok (.istore_n 2, 1) := by decide +kernel
theorem d_Main_nextCycle_14 : decode b_Main_nextCycle 14 = .ok (.iload_n 2, 1) := by decide +kernel
theorem d_Main_nextCycle_15 : decode b_Main_nextCycle 15 = .ok (.bipush 8, 2) := by decide +kernel
theorem d_Main_nextCycle_17 : decode b_Main_nextCycle 17 = .ok (.if_icmp .ge 47, 3) := by decide +kernel
theorem d_Main_nextCycle_20 : decode b_Main_nextCycle 20 = .ok (.aload_n 0, 1) := by decide +kernel
theorem d_Main_nextCycle_21 : decode b_Main_nextCycle 21 = .ok (.getfield 29, 3) := by decide +kernel
theorem d_Main_nextCycle_24 : decode b_Main_nextCycle 24 = .ok (.aload_n 0, 1) := by decide +kernel
theorem d_Main_nextCycle_25 : decode b_Main_nextCycle 25 = .ok (.getfield 119, 3) := by decide +kernel
theorem d_Main_nextCycle_28 : decode b_Main_nextCycle 28 = .ok (.invokevirtual 167, 3) := by decide +kernel
theorem d_Main_nextCycle_31 : decode b_Main_nextCycle 31 = .ok (.ifCond .eq 33, 3) := by decide +kernel
theorem d_Main_nextCycle_34 : decode b_Main_nextCycle 34 = .ok (.aload_n 0, 1) := by decide +kernel
theorem d_Main_nextCycle_35 : decode b_Main_nextCycle 35 = .ok (.aload_n 0, 1) := by decide +kernel
theorem d_Main_nextCycle_36 : decode b_Main_nextCycle 36 = .ok (.getfield 29, 3) := by decide +kernel
theorem d_Main_nextCycle_39 : decode b_Main_nextCycle 39 = .ok (.iconst 0, 1) := by decide +kernel
theorem d_Main_nextCycle_40 : decode b_Main_nextCycle 40 = .ok (.invokevirtual 115, 3) := by decide +kernel
theorem d_Main_nextCycle_43 : decode b_Main_nextCycle 43 = .ok (.iconst 1, 1) := by decide +kernel
theorem d_Main_nextCycle_44 : decode b_Main_nextCycle 44 = .ok (.invokevirtual 170, 3) := by decide +kernel
theorem d_Main_nextCycle_47 : decode b_Main_nextCycle 47 = .ok (.aload_n 0, 1) := by decide +kernel
theorem d_Main_nextCycle_48 : decode b_Main_nextCycle 48 = .ok (.getfield 29, 3) := by decide +kernel
theorem d_Main_nextCycle_51 : decode b_Main_nextCycle 51 = .ok (.iconst 0, 1) := by decide +kernel
theorem d_Main_nextCycle_52 : decode b_Main_nextCycle 52 = .ok (.invokevirtual 174, 3) := by decide +kernel
theorem d_Main_nextCycle_55 : decode b_Main_nextCycle 55 = .ok (.iinc 1 1, 3) := by decide +kernel
theorem d_Main_nextCycle_58 : decode b_Main_nextCycle 58 = .ok (.iinc 2 1, 3) := by decide +kernel
theorem d_Main_nextCycle_61 : decode b_Main_nextCycle 61 = .ok (.goto (-47), 3) := by decide +kernel
theorem d_Main_nextCycle_64 : decode b_Main_nextCycle 64 = .ok (.iload_n 1, 1) := by decide +kernel
theorem d_Main_nextCycle_65 : decode b_Main_nextCycle 65 = .ok (.ireturn, 1) := by decide +kernel
theorem d_Main_oneTo_0 : decode b_Main_oneTo 0 = .ok (.iconst 1, 1) := by decide +kernel
theorem d_Main_oneTo_1 : decode b_Main_oneTo 1 = .ok (.iload_n 1, 1) := by decide +kernel
theorem d_Main_oneTo_2 : decode b_Main_oneTo 2 = .ok (.iconst 1, 1) := by decide +kernel
theorem d_Main_oneTo_3 : decode b_Main_oneTo 3 = .ok (.isub, 1) := by decide +kernel
theorem d_Main_oneTo_4 : decode b_Main_oneTo 4 = .ok (.iload_n 0, 1) := by decide +kernel
theorem d_Main_oneTo_5 : decode b_Main_oneTo 5 = .ok (.invokestatic 33, 3) := by decide +kernel
theorem d_Main_oneTo_8 : decode b_Main_oneTo 8 = .ok (.iadd, 1) := by decide +kernel
theorem d_Main_oneTo_9 : decode b_Main_oneTo 9 = .ok (.ireturn, 1) := by decide +kernel
theorem d_Main_pass_0 : decode b_Main_pass 0 = .ok (.iload_n 1, 1) := by decide +kernel
theorem d_Main_pass_1 : decode b_Main_pass 1 = .ok (.iconst 1, 1) := by decide +kernel
theorem d_Main_pass_2 : decode b_Main_pass 2 = .ok (.if_icmp .lt 9, 3) := by decide +kernel
theorem d_Main_pass_5 : decode b_Main_pass 5 = .ok (.iload_n 1, 1) := by decide +kernel
theorem d_Main_pass_6 : decode b_Main_pass 6 = .ok (.bipush 100, 2) := by decide +kernel
theorem d_Main_pass_8 : decode b_Main_pass 8 = .ok (.if_icmp .le 13, 3) := by decide +kernel
theorem d_Main_pass_11 : decode b_Main_pass 11 = .ok (.new 72, 3) := by decide +kernel
theorem d_Main_pass_14 : decode b_Main_pass 14 = .ok (.dup, 1) := by decide +kernel
theorem d_Main_pass_15 : decode b_Main_pass 15 = .ok (.ldc 74, 2) := by decide +kernel
theorem d_Main_pass_17 : decode b_Main_pass 17 = .ok (.invokespecial 76, 3) := by decide +kernel
theorem d_Main_pass_20 : decode b_Main_pass 20 = .ok (.athrow, 1) := by decide +kernel
theorem d_Main_pass_21 : decode b_Main_pass 21 = .ok (.iconst 0, 1) := by decide +kernel
theorem d_Main_pass_22 : decode b_Main_pass 22 = .ok (.istore_n 2, 1) := by decide +kernel
theorem d_Main_pass_23 : decode b_Main_pass 23 = .ok (.iconst 0, 1) := by decide +kernel
theorem d_Main_pass_24 : decode b_Main_pass 24 = .ok (.istore_n 3, 1) := by decide +kernel
theorem d_Main_pass_25 : decode b_Main_pass 25 = .ok (.iload_n 3, 1) := by decide +kernel
theorem d_Main_pass_26 : decode b_Main_pass 26 = .ok (.iload_n 1, 1) := by decide +kernel
theorem d_Main_pass_27 : decode b_Main_pass 27 = .ok (.if_icmp .ge 16, 3) := by decide +kernel
theorem d_Main_pass_30 : decode b_Main_pass 30 = .ok (.iload_n 2, 1) := by decide +kernel
theorem d_Main_pass_31 : decode b_Main_pass 31 = .ok (.aload_n 0, 1) := by decide +kernel
theorem d_Main_pass_32 : decode b_Main_pass 32 = .ok (.invokevirtual 49, 3) := by decide +kernel
theorem d_Main_pass_35 : decode b_Main_pass 35 = .ok (.iadd, 1) := by decide +kernel
theorem d_Main_pass_36 : decode b_Main_pass 36 = .ok (.istore_n 2, 1) := by decide +kernel
theorem d_Main_pass_37 : decode b_Main_pass 37 = .ok (.iinc 3 1, 3) := by decide +kernel
theorem d_Main_pass_40 : decode b_Main_pass 40 = .ok (.goto (-15), 3) := by decide +kernel
theorem d_Main_pass_43 : decode b_Main_pass 43 = .ok (.iload_n 2, 1) := by decide +kernel
theorem d_Main_pass_44 : decode b_Main_pass 44 = .ok (.ireturn, 1) := by decide +kernel
theorem d_Main_queued_0 : decode b_Main_queued 0 = .ok (.iload_n 1, 1) := by decide +kernel
theorem d_Main_queued_1 : decode b_Main_queued 1 = .ok (.ifCond .lt 14, 3) := by decide +kernel
theorem d_Main_queued_4 : decode b_Main_queued 4 = .ok (.iload_n 1, 1) := by decide +kernel
theorem d_Main_queued_5 : decode b_Main_queued 5 = .ok (.aload_n 0, 1) := by decide +kernel
theorem d_Main_queued_6 : decode b_Main_queued 6 = .ok (.getfield 29, 3) := by decide +kernel
theorem d_Main_queued_9 : decode b_Main_queued 9 = .ok (.invokevirtual 79, 3) := by decide +kernel
theorem d_Main_queued_12 : decode b_Main_queued 12 = .ok (.if_icmp .lt 13, 3) := by decide +kernel
theorem d_Main_queued_15 : decode b_Main_queued 15 = .ok (.new 103, 3) := by decide +kernel
theorem d_Main_queued_18 : decode b_Main_queued 18 = .ok (.dup, 1) := by decide +kernel
theorem d_Main_queued_19 : decode b_Main_queued 19 = .ok (.ldc 111, 2) := by decide +kernel
theorem d_Main_queued_21 : decode b_Main_queued 21 = .ok (.invokespecial 107, 3) := by decide +kernel
theorem d_Main_queued_24 : decode b_Main_queued 24 = .ok (.athrow, 1) := by decide +kernel
theorem d_Main_queued_25 : decode b_Main_queued 25 = .ok (.iload_n 2, 1) := by decide +kernel
theorem d_Main_queued_26 : decode b_Main_queued 26 = .ok (.ifCond .eq 18, 3) := by decide +kernel
theorem d_Main_queued_29 : decode b_Main_queued 29 = .ok (.iload_n 2, 1) := by decide +kernel
theorem d_Main_queued_30 : decode b_Main_queued 30 = .ok (.iconst 1, 1) := by decide +kernel
theorem d_Main_queued_31 : decode b_Main_queued 31 = .ok (.if_icmp .eq 13, 3) := by decide +kernel
theorem d_Main_queued_34 : decode b_Main_queued 34 = .ok (.new 103, 3) := by decide +kernel
theorem d_Main_queued_37 : decode b_Main_queued 37 = .ok (.dup, 1) := by decide +kernel
theorem d_Main_queued_38 : decode b_Main_queued 38 = .ok (.ldc 113, 2) := by decide +kernel
theorem d_Main_queued_40 : decode b_Main_queued 40 = .ok (.invokespecial 107, 3) := by decide +kernel
theorem d_Main_queued_43 : decode b_Main_queued 43 = .ok (.athrow, 1) := by decide +kernel
theorem d_Main_queued_44 : decode b_Main_queued 44 = .ok (.iload_n 2, 1) := by decide +kernel
theorem d_Main_queued_45 : decode b_Main_queued 45 = .ok (.ifCond .ne 14, 3) := by decide +kernel
theorem d_Main_queued_48 : decode b_Main_queued 48 = .ok (.aload_n 0, 1) := by decide +kernel
theorem d_Main_queued_49 : decode b_Main_queued 49 = .ok (.getfield 29, 3) := by decide +kernel
theorem d_Main_queued_52 : decode b_Main_queued 52 = .ok (.iload_n 1, 1) := by decide +kernel
theorem d_Main_queued_53 : decode b_Main_queued 53 = .ok (.invokevirtual 115, 3) := by decide +kernel
theorem d_Main_queued_56 : decode b_Main_queued 56 = .ok (.goto 16, 3) := by decide +kernel
theorem d_Main_queued_59 : decode b_Main_queued 59 = .ok (.aload_n 0, 1) := by decide +kernel
theorem d_Main_queued_60 : decode b_Main_queued 60 = .ok (.getfield 29, 3) := by decide +kernel
theorem d_Main_queued_63 : decode b_Main_queued 63 = .ok (.iload_n 1, 1) := by decide +kernel
theorem d_Main_queued_64 : decode b_Main_queued 64 = .ok (.invokevirtual 116, 3) := by decide +kernel
theorem d_Main_queued_67 : decode b_Main_queued 67 = .ok (.aload_n 0, 1) := by decide +kernel
theorem d_Main_queued_68 : decode b_Main_queued 68 = .ok (.getfield 119, 3) := by decide +kernel
theorem d_Main_queued_71 : decode b_Main_queued 71 = .ok (.isub, 1) := by decide +kernel
theorem d_Main_queued_72 : decode b_Main_queued 72 = .ok (.ireturn, 1) := by decide +kernel
theorem d_Main_ruleOf_0 : decode b_Main_ruleOf 0 = .ok (.iload_n 0, 1) := by decide +kernel
theorem d_Main_ruleOf_1 : decode b_Main_ruleOf 1 = .ok (.tableswitch 67 1 4 #[31, 40, 49, 58], 31) := by decide +kernel
theorem d_Main_ruleOf_32 : decode b_Main_ruleOf 32 = .ok (.new 152, 3) := by decide +kernel
theorem d_Main_ruleOf_35 : decode b_Main_ruleOf 35 = .ok (.dup, 1) := by decide +kernel
theorem d_Main_ruleOf_36 : decode b_Main_ruleOf 36 = .ok (.iload_n 1, 1) := by decide +kernel
theorem d_Main_ruleOf_37 : decode b_Main_ruleOf 37 = .ok (.invokespecial 154, 3) := by decide +kernel
theorem d_Main_ruleOf_40 : decode b_Main_ruleOf 40 = .ok (.areturn, 1) := by decide +kernel
theorem d_Main_ruleOf_41 : decode b_Main_ruleOf 41 = .ok (.new 155, 3) := by decide +kernel
theorem d_Main_ruleOf_44 : decode b_Main_ruleOf 44 = .ok (.dup, 1) := by decide +kernel
theorem d_Main_ruleOf_45 : decode b_Main_ruleOf 45 = .ok (.iload_n 1, 1) := by decide +kernel
theorem d_Main_ruleOf_46 : decode b_Main_ruleOf 46 = .ok (.invokespecial 157, 3) := by decide +kernel
theorem d_Main_ruleOf_49 : decode b_Main_ruleOf 49 = .ok (.areturn, 1) := by decide +kernel
theorem d_Main_ruleOf_50 : decode b_Main_ruleOf 50 = .ok (.new 158, 3) := by decide +kernel
theorem d_Main_ruleOf_53 : decode b_Main_ruleOf 53 = .ok (.dup, 1) := by decide +kernel
theorem d_Main_ruleOf_54 : decode b_Main_ruleOf 54 = .ok (.iload_n 1, 1) := by decide +kernel
theorem d_Main_ruleOf_55 : decode b_Main_ruleOf 55 = .ok (.invokespecial 160, 3) := by decide +kernel
theorem d_Main_ruleOf_58 : decode b_Main_ruleOf 58 = .ok (.areturn, 1) := by decide +kernel
theorem d_Main_ruleOf_59 : decode b_Main_ruleOf 59 = .ok (.new 161, 3) := by decide +kernel
theorem d_Main_ruleOf_62 : decode b_Main_ruleOf 62 = .ok (.dup, 1) := by decide +kernel
theorem d_Main_ruleOf_63 : decode b_Main_ruleOf 63 = .ok (.iload_n 1, 1) := by decide +kernel
theorem d_Main_ruleOf_64 : decode b_Main_ruleOf 64 = .ok (.invokespecial 163, 3) := by decide +kernel
theorem d_Main_ruleOf_67 : decode b_Main_ruleOf 67 = .ok (.areturn, 1) := by decide +kernel
theorem d_Main_ruleOf_68 : decode b_Main_ruleOf 68 = .ok (.new 164, 3) := by decide +kernel
theorem d_Main_ruleOf_71 : decode b_Main_ruleOf 71 = .ok (.dup, 1) := by decide +kernel
theorem d_Main_ruleOf_72 : decode b_Main_ruleOf 72 = .ok (.iload_n 1, 1) := by decide +kernel
theorem d_Main_ruleOf_73 : decode b_Main_ruleOf 73 = .ok (.invokespecial 166, 3) := by decide +kernel
theorem d_Main_ruleOf_76 : decode b_Main_ruleOf 76 = .ok (.areturn, 1) := by decide +kernel
theorem d_Main_state_0 : decode b_Main_state 0 = .ok (.aload_n 0, 1) := by decide +kernel
theorem d_Main_state_1 : decode b_Main_state 1 = .ok (.getfield 22, 3) := by decide +kernel
theorem d_Main_state_4 : decode b_Main_state 4 = .ok (.iload_n 1, 1) := by decide +kernel
theorem d_Main_state_5 : decode b_Main_state 5 = .ok (.invokevirtual 94, 3) := by decide +kernel
theorem d_Main_state_8 : decode b_Main_state 8 = .ok (.istore_n 2, 1) := by decide +kernel
theorem d_Main_state_9 : decode b_Main_state 9 = .ok (.iload_n 2, 1) := by decide +kernel
theorem d_Main_state_10 : decode b_Main_state 10 = .ok (.iconst (-1), 1) := by decide +kernel
theorem d_Main_state_11 : decode b_Main_state 11 = .ok (.if_icmp .eq 20, 3) := by decide +kernel
theorem d_Main_state_14 : decode b_Main_state 14 = .ok (.aload_n 0, 1) := by decide +kernel
theorem d_Main_state_15 : decode b_Main_state 15 = .ok (.getfield 22, 3) := by decide +kernel
theorem d_Main_state_18 : decode b_Main_state 18 = .ok (.iload_n 2, 1) := by decide +kernel
theorem d_Main_state_19 : decode b_Main_state 19 = .ok (.invokevirtual 97, 3) := by decide +kernel
theorem d_Main_state_22 : decode b_Main_state 22 = .ok (.ifCond .eq 7, 3) := by decide +kernel
theorem d_Main_state_25 : decode b_Main_state 25 = .ok (.iconst 2, 1) := by decide +kernel
theorem d_Main_state_26 : decode b_Main_state 26 = .ok (.goto 4, 3) := by decide +kernel
theorem d_Main_state_29 : decode b_Main_state 29 = .ok (.iconst 1, 1) := by decide +kernel
theorem d_Main_state_30 : decode b_Main_state 30 = .ok (.ireturn, 1) := by decide +kernel
theorem d_Main_state_31 : decode b_Main_state 31 = .ok (.aload_n 0, 1) := by decide +kernel
theorem d_Main_state_32 : decode b_Main_state 32 = .ok (.getfield 29, 3) := by decide +kernel
theorem d_Main_state_35 : decode b_Main_state 35 = .ok (.iload_n 1, 1) := by decide +kernel
theorem d_Main_state_36 : decode b_Main_state 36 = .ok (.invokevirtual 101, 3) := by decide +kernel
theorem d_Main_state_39 : decode b_Main_state 39 = .ok (.iconst (-1), 1) := by decide +kernel
theorem d_Main_state_40 : decode b_Main_state 40 = .ok (.if_icmp .eq 7, 3) := by decide +kernel
theorem d_Main_state_43 : decode b_Main_state 43 = .ok (.iconst 3, 1) := by decide +kernel
theorem d_Main_state_44 : decode b_Main_state 44 = .ok (.goto 4, 3) := by decide +kernel
theorem d_Main_state_47 : decode b_Main_state 47 = .ok (.iconst 0, 1) := by decide +kernel
theorem d_Main_state_48 : decode b_Main_state 48 = .ok (.ireturn, 1) := by decide +kernel
theorem d_Main_stored_0 : decode b_Main_stored 0 = .ok (.iload_n 1, 1) := by decide +kernel
theorem d_Main_stored_1 : decode b_Main_stored 1 = .ok (.ifCond .lt 14, 3) := by decide +kernel
theorem d_Main_stored_4 : decode b_Main_stored 4 = .ok (.iload_n 1, 1) := by decide +kernel
theorem d_Main_stored_5 : decode b_Main_stored 5 = .ok (.aload_n 0, 1) := by decide +kernel
theorem d_Main_stored_6 : decode b_Main_stored 6 = .ok (.getfield 22, 3) := by decide +kernel
theorem d_Main_stored_9 : decode b_Main_stored 9 = .ok (.invokevirtual 102, 3) := by decide +kernel
theorem d_Main_stored_12 : decode b_Main_stored 12 = .ok (.if_icmp .lt 13, 3) := by decide +kernel
theorem d_Main_stored_15 : decode b_Main_stored 15 = .ok (.new 103, 3) := by decide +kernel
theorem d_Main_stored_18 : decode b_Main_stored 18 = .ok (.dup, 1) := by decide +kernel
theorem d_Main_stored_19 : decode b_Main_stored 19 = .ok (.ldc 105, 2) := by decide +kernel
theorem d_Main_stored_21 : decode b_Main_stored 21 = .ok (.invokespecial 107, 3) := by decide +kernel
theorem d_Main_stored_24 : decode b_Main_stored 24 = .ok (.athrow, 1) := by decide +kernel
theorem d_Main_stored_25 : decode b_Main_stored 25 = .ok (.aload_n 0, 1) := by decide +kernel
theorem d_Main_stored_26 : decode b_Main_stored 26 = .ok (.getfield 22, 3) := by decide +kernel
theorem d_Main_stored_29 : decode b_Main_stored 29 = .ok (.iload_n 1, 1) := by decide +kernel
theorem d_Main_stored_30 : decode b_Main_stored 30 = .ok (.invokevirtual 108, 3) := by decide +kernel
theorem d_Main_stored_33 : decode b_Main_stored 33 = .ok (.ireturn, 1) := by decide +kernel
theorem d_Main_trust_0 : decode b_Main_trust 0 = .ok (.aload_n 0, 1) := by decide +kernel
theorem d_Main_trust_1 : decode b_Main_trust 1 = .ok (.getfield 42, 3) := by decide +kernel
theorem d_Main_trust_4 : decode b_Main_trust 4 = .ok (.iload_n 1, 1) := by decide +kernel
theorem d_Main_trust_5 : decode b_Main_trust 5 = .ok (.invokevirtual 125, 3) := by decide +kernel
theorem d_Main_trust_8 : decode b_Main_trust 8 = .ok (.ireturn, 1) := by decide +kernel
