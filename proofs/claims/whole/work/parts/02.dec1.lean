theorem dX0_init_0 : decode cX0_init 0 = .ok (.aload_n 0, 1) := by decide +kernel
theorem dX0_init_1 : decode cX0_init 1 = .ok (.invokespecial 1, 3) := by decide +kernel
theorem dX0_init_4 : decode cX0_init 4 = .ok (.aload_n 0, 1) := by decide +kernel
theorem dX0_init_5 : decode cX0_init 5 = .ok (.iload_n 1, 1) := by decide +kernel
theorem dX0_init_6 : decode cX0_init 6 = .ok (.putfield 7, 3) := by decide +kernel
theorem dX0_init_9 : decode cX0_init 9 = .ok (.aload_n 0, 1) := by decide +kernel
theorem dX0_init_10 : decode cX0_init 10 = .ok (.iload_n 2, 1) := by decide +kernel
theorem dX0_init_11 : decode cX0_init 11 = .ok (.putfield 13, 3) := by decide +kernel
theorem dX0_init_14 : decode cX0_init 14 = .ok (.aload_n 0, 1) := by decide +kernel
theorem dX0_init_15 : decode cX0_init 15 = .ok (.iload_n 3, 1) := by decide +kernel
theorem dX0_init_16 : decode cX0_init 16 = .ok (.putfield 16, 3) := by decide +kernel
theorem dX0_init_19 : decode cX0_init 19 = .ok (.return_, 1) := by decide +kernel
theorem dX0_kindNumber_0 : decode cX0_kindNumber 0 = .ok (.iconst 0, 1) := by decide +kernel
theorem dX0_kindNumber_1 : decode cX0_kindNumber 1 = .ok (.ireturn, 1) := by decide +kernel
theorem dX0_goesAgainst_0 : decode cX0_goesAgainst 0 = .ok (.aload_n 0, 1) := by decide +kernel
theorem dX0_goesAgainst_1 : decode cX0_goesAgainst 1 = .ok (.getfield 16, 3) := by decide +kernel
theorem dX0_goesAgainst_4 : decode cX0_goesAgainst 4 = .ok (.ireturn, 1) := by decide +kernel
theorem dX0_counts_0 : decode cX0_counts 0 = .ok (.iconst 1, 1) := by decide +kernel
theorem dX0_counts_1 : decode cX0_counts 1 = .ok (.ireturn, 1) := by decide +kernel
theorem dX0_telling_0 : decode cX0_telling 0 = .ok (.aload_n 0, 1) := by decide +kernel
theorem dX0_telling_1 : decode cX0_telling 1 = .ok (.aload_n 1, 1) := by decide +kernel
theorem dX0_telling_2 : decode cX0_telling 2 = .ok (.invokevirtual 19, 3) := by decide +kernel
theorem dX0_telling_5 : decode cX0_telling 5 = .ok (.ireturn, 1) := by decide +kernel
theorem dX0_tellingOfBoat_0 : decode cX0_tellingOfBoat 0 = .ok (.aload_n 1, 1) := by decide +kernel
theorem dX0_tellingOfBoat_1 : decode cX0_tellingOfBoat 1 = .ok (.iconst 1, 1) := by decide +kernel
theorem dX0_tellingOfBoat_2 : decode cX0_tellingOfBoat 2 = .ok (.invokevirtual 23, 3) := by decide +kernel
theorem dX0_tellingOfBoat_5 : decode cX0_tellingOfBoat 5 = .ok (.aload_n 0, 1) := by decide +kernel
theorem dX0_tellingOfBoat_6 : decode cX0_tellingOfBoat 6 = .ok (.getfield 16, 3) := by decide +kernel
theorem dX0_tellingOfBoat_9 : decode cX0_tellingOfBoat 9 = .ok (.ireturn, 1) := by decide +kernel
theorem dX0_hailing_0 : decode cX0_hailing 0 = .ok (.aload_n 1, 1) := by decide +kernel
theorem dX0_hailing_1 : decode cX0_hailing 1 = .ok (.iconst 4, 1) := by decide +kernel
theorem dX0_hailing_2 : decode cX0_hailing 2 = .ok (.invokevirtual 23, 3) := by decide +kernel
theorem dX0_hailing_5 : decode cX0_hailing 5 = .ok (.aload_n 0, 1) := by decide +kernel
theorem dX0_hailing_6 : decode cX0_hailing 6 = .ok (.getfield 7, 3) := by decide +kernel
theorem dX0_hailing_9 : decode cX0_hailing 9 = .ok (.ireturn, 1) := by decide +kernel
theorem dX1_init_0 : decode cX1_init 0 = .ok (.aload_n 0, 1) := by decide +kernel
theorem dX1_init_1 : decode cX1_init 1 = .ok (.invokespecial 3, 3) := by decide +kernel
theorem dX1_init_4 : decode cX1_init 4 = .ok (.aload_n 0, 1) := by decide +kernel
theorem dX1_init_5 : decode cX1_init 5 = .ok (.iconst 0, 1) := by decide +kernel
theorem dX1_init_6 : decode cX1_init 6 = .ok (.putfield 9, 3) := by decide +kernel
theorem dX1_init_9 : decode cX1_init 9 = .ok (.aload_n 0, 1) := by decide +kernel
theorem dX1_init_10 : decode cX1_init 10 = .ok (.iconst 0, 1) := by decide +kernel
theorem dX1_init_11 : decode cX1_init 11 = .ok (.putfield 15, 3) := by decide +kernel
theorem dX1_init_14 : decode cX1_init 14 = .ok (.aload_n 0, 1) := by decide +kernel
theorem dX1_init_15 : decode cX1_init 15 = .ok (.iconst 0, 1) := by decide +kernel
theorem dX1_init_16 : decode cX1_init 16 = .ok (.putfield 18, 3) := by decide +kernel
theorem dX1_init_19 : decode cX1_init 19 = .ok (.aload_n 0, 1) := by decide +kernel
theorem dX1_init_20 : decode cX1_init 20 = .ok (.iconst 0, 1) := by decide +kernel
theorem dX1_init_21 : decode cX1_init 21 = .ok (.putfield 21, 3) := by decide +kernel
theorem dX1_init_24 : decode cX1_init 24 = .ok (.aload_n 0, 1) := by decide +kernel
theorem dX1_init_25 : decode cX1_init 25 = .ok (.bipush 10, 2) := by decide +kernel
theorem dX1_init_27 : decode cX1_init 27 = .ok (.newarray .int, 2) := by decide +kernel
theorem dX1_init_29 : decode cX1_init 29 = .ok (.putfield 24, 3) := by decide +kernel
theorem dX1_init_32 : decode cX1_init 32 = .ok (.aload_n 0, 1) := by decide +kernel
theorem dX1_init_33 : decode cX1_init 33 = .ok (.iconst 3, 1) := by decide +kernel
theorem dX1_init_34 : decode cX1_init 34 = .ok (.anewarray 28, 3) := by decide +kernel
theorem dX1_init_37 : decode cX1_init 37 = .ok (.putfield 30, 3) := by decide +kernel
theorem dX1_init_40 : decode cX1_init 40 = .ok (.iconst 0, 1) := by decide +kernel
theorem dX1_init_41 : decode cX1_init 41 = .ok (.istore_n 1, 1) := by decide +kernel
theorem dX1_init_42 : decode cX1_init 42 = .ok (.iload_n 1, 1) := by decide +kernel
theorem dX1_init_43 : decode cX1_init 43 = .ok (.iconst 3, 1) := by decide +kernel
theorem dX1_init_44 : decode cX1_init 44 = .ok (.if_icmp .ge 25, 3) := by decide +kernel
theorem dX1_init_47 : decode cX1_init 47 = .ok (.aload_n 0, 1) := by decide +kernel
theorem dX1_init_48 : decode cX1_init 48 = .ok (.getfield 30, 3) := by decide +kernel
theorem dX1_init_51 : decode cX1_init 51 = .ok (.iload_n 1, 1) := by decide +kernel
theorem dX1_init_52 : decode cX1_init 52 = .ok (.new 28, 3) := by decide +kernel
theorem dX1_init_55 : decode cX1_init 55 = .ok (.dup, 1) := by decide +kernel
theorem dX1_init_56 : decode cX1_init 56 = .ok (.iload_n 1, 1) := by decide +kernel
theorem dX1_init_57 : decode cX1_init 57 = .ok (.iconst 0, 1) := by decide +kernel
theorem dX1_init_58 : decode cX1_init 58 = .ok (.iconst 1, 1) := by decide +kernel
theorem dX1_init_59 : decode cX1_init 59 = .ok (.invokespecial 34, 3) := by decide +kernel
theorem dX1_init_62 : decode cX1_init 62 = .ok (.aastore, 1) := by decide +kernel
theorem dX1_init_63 : decode cX1_init 63 = .ok (.iinc 1 1, 3) := by decide +kernel
theorem dX1_init_66 : decode cX1_init 66 = .ok (.goto (-24), 3) := by decide +kernel
theorem dX1_init_69 : decode cX1_init 69 = .ok (.return_, 1) := by decide +kernel
theorem dX1_drain_0 : decode cX1_drain 0 = .ok (.aload_n 0, 1) := by decide +kernel
theorem dX1_drain_1 : decode cX1_drain 1 = .ok (.iconst 0, 1) := by decide +kernel
theorem dX1_drain_2 : decode cX1_drain 2 = .ok (.putfield 9, 3) := by decide +kernel
theorem dX1_drain_5 : decode cX1_drain 5 = .ok (.aload_n 0, 1) := by decide +kernel
theorem dX1_drain_6 : decode cX1_drain 6 = .ok (.iconst 0, 1) := by decide +kernel
theorem dX1_drain_7 : decode cX1_drain 7 = .ok (.putfield 15, 3) := by decide +kernel
theorem dX1_drain_10 : decode cX1_drain 10 = .ok (.aload_n 0, 1) := by decide +kernel
theorem dX1_drain_11 : decode cX1_drain 11 = .ok (.iconst 0, 1) := by decide +kernel
theorem dX1_drain_12 : decode cX1_drain 12 = .ok (.putfield 18, 3) := by decide +kernel
theorem dX1_drain_15 : decode cX1_drain 15 = .ok (.aload_n 0, 1) := by decide +kernel
theorem dX1_drain_16 : decode cX1_drain 16 = .ok (.iconst 0, 1) := by decide +kernel
theorem dX1_drain_17 : decode cX1_drain 17 = .ok (.putfield 21, 3) := by decide +kernel
theorem dX1_drain_20 : decode cX1_drain 20 = .ok (.return_, 1) := by decide +kernel
theorem dX1_isThere_0 : decode cX1_isThere 0 = .ok (.aload_n 0, 1) := by decide +kernel
theorem dX1_isThere_1 : decode cX1_isThere 1 = .ok (.getfield 21, 3) := by decide +kernel
theorem dX1_isThere_4 : decode cX1_isThere 4 = .ok (.ifCond .le 7, 3) := by decide +kernel
theorem dX1_isThere_7 : decode cX1_isThere 7 = .ok (.iconst 1, 1) := by decide +kernel
theorem dX1_isThere_8 : decode cX1_isThere 8 = .ok (.goto 4, 3) := by decide +kernel
theorem dX1_isThere_11 : decode cX1_isThere 11 = .ok (.iconst 0, 1) := by decide +kernel
theorem dX1_isThere_12 : decode cX1_isThere 12 = .ok (.ireturn, 1) := by decide +kernel
theorem dX1_allBoats_0 : decode cX1_allBoats 0 = .ok (.iconst 1, 1) := by decide +kernel
theorem dX1_allBoats_1 : decode cX1_allBoats 1 = .ok (.aload_n 0, 1) := by decide +kernel
theorem dX1_allBoats_2 : decode cX1_allBoats 2 = .ok (.getfield 21, 3) := by decide +kernel
theorem dX1_allBoats_5 : decode cX1_allBoats 5 = .ok (.ishl, 1) := by decide +kernel
theorem dX1_allBoats_6 : decode cX1_allBoats 6 = .ok (.iconst 1, 1) := by decide +kernel
theorem dX1_allBoats_7 : decode cX1_allBoats 7 = .ok (.isub, 1) := by decide +kernel
theorem dX1_allBoats_8 : decode cX1_allBoats 8 = .ok (.ireturn, 1) := by decide +kernel
theorem dX1_hasIsle_0 : decode cX1_hasIsle 0 = .ok (.aload_n 0, 1) := by decide +kernel
theorem dX1_hasIsle_1 : decode cX1_hasIsle 1 = .ok (.getfield 15, 3) := by decide +kernel
theorem dX1_hasIsle_4 : decode cX1_hasIsle 4 = .ok (.iload_n 1, 1) := by decide +kernel
theorem dX1_hasIsle_5 : decode cX1_hasIsle 5 = .ok (.ishr, 1) := by decide +kernel
theorem dX1_hasIsle_6 : decode cX1_hasIsle 6 = .ok (.iconst 1, 1) := by decide +kernel
theorem dX1_hasIsle_7 : decode cX1_hasIsle 7 = .ok (.iand, 1) := by decide +kernel
theorem dX1_hasIsle_8 : decode cX1_hasIsle 8 = .ok (.iconst 1, 1) := by decide +kernel
theorem dX1_hasIsle_9 : decode cX1_hasIsle 9 = .ok (.if_icmp .ne 7, 3) := by decide +kernel
theorem dX1_hasIsle_12 : decode cX1_hasIsle 12 = .ok (.iconst 1, 1) := by decide +kernel
theorem dX1_hasIsle_13 : decode cX1_hasIsle 13 = .ok (.goto 4, 3) := by decide +kernel
theorem dX1_hasIsle_16 : decode cX1_hasIsle 16 = .ok (.iconst 0, 1) := by decide +kernel
theorem dX1_hasIsle_17 : decode cX1_hasIsle 17 = .ok (.ireturn, 1) := by decide +kernel
theorem dX1_startOf_0 : decode cX1_startOf 0 = .ok (.aload_n 1, 1) := by decide +kernel
theorem dX1_startOf_1 : decode cX1_startOf 1 = .ok (.getfield 37, 3) := by decide +kernel
theorem dX1_startOf_4 : decode cX1_startOf 4 = .ok (.ifCond .ne 7, 3) := by decide +kernel
theorem dX1_startOf_7 : decode cX1_startOf 7 = .ok (.iconst 0, 1) := by decide +kernel
theorem dX1_startOf_8 : decode cX1_startOf 8 = .ok (.goto 7, 3) := by decide +kernel
theorem dX1_startOf_11 : decode cX1_startOf 11 = .ok (.aload_n 0, 1) := by decide +kernel
theorem dX1_startOf_12 : decode cX1_startOf 12 = .ok (.getfield 9, 3) := by decide +kernel
theorem dX1_startOf_15 : decode cX1_startOf 15 = .ok (.ireturn, 1) := by decide +kernel
theorem dX1_goalOf_0 : decode cX1_goalOf 0 = .ok (.aload_n 1, 1) := by decide +kernel
theorem dX1_goalOf_1 : decode cX1_goalOf 1 = .ok (.getfield 37, 3) := by decide +kernel
theorem dX1_goalOf_4 : decode cX1_goalOf 4 = .ok (.ifCond .ne 10, 3) := by decide +kernel
theorem dX1_goalOf_7 : decode cX1_goalOf 7 = .ok (.aload_n 0, 1) := by decide +kernel
theorem dX1_goalOf_8 : decode cX1_goalOf 8 = .ok (.getfield 9, 3) := by decide +kernel
theorem dX1_goalOf_11 : decode cX1_goalOf 11 = .ok (.goto 4, 3) := by decide +kernel
theorem dX1_goalOf_14 : decode cX1_goalOf 14 = .ok (.iconst 0, 1) := by decide +kernel
theorem dX1_goalOf_15 : decode cX1_goalOf 15 = .ok (.ireturn, 1) := by decide +kernel
theorem dX1_isWith_0 : decode cX1_isWith 0 = .ok (.iload_n 2, 1) := by decide +kernel
theorem dX1_isWith_1 : decode cX1_isWith 1 = .ok (.aload_n 1, 1) := by decide +kernel
theorem dX1_isWith_2 : decode cX1_isWith 2 = .ok (.getfield 37, 3) := by decide +kernel
theorem dX1_isWith_5 : decode cX1_isWith 5 = .ok (.ifCond .ne 7, 3) := by decide +kernel
theorem dX1_isWith_8 : decode cX1_isWith 8 = .ok (.iconst 1, 1) := by decide +kernel
theorem dX1_isWith_9 : decode cX1_isWith 9 = .ok (.goto 4, 3) := by decide +kernel
theorem dX1_isWith_12 : decode cX1_isWith 12 = .ok (.iconst 2, 1) := by decide +kernel
theorem dX1_isWith_13 : decode cX1_isWith 13 = .ok (.if_icmp .ne 7, 3) := by decide +kernel
theorem dX1_isWith_16 : decode cX1_isWith 16 = .ok (.iconst 1, 1) := by decide +kernel
theorem dX1_isWith_17 : decode cX1_isWith 17 = .ok (.goto 4, 3) := by decide +kernel
theorem dX1_isWith_20 : decode cX1_isWith 20 = .ok (.iconst 0, 1) := by decide +kernel
theorem dX1_isWith_21 : decode cX1_isWith 21 = .ok (.ireturn, 1) := by decide +kernel
theorem dX1_countsWith_0 : decode cX1_countsWith 0 = .ok (.aload_n 1, 1) := by decide +kernel
theorem dX1_countsWith_1 : decode cX1_countsWith 1 = .ok (.invokevirtual 40, 3) := by decide +kernel
theorem dX1_countsWith_4 : decode cX1_countsWith 4 = .ok (.ifCond .eq 16, 3) := by decide +kernel
theorem dX1_countsWith_7 : decode cX1_countsWith 7 = .ok (.aload_n 0, 1) := by decide +kernel
theorem dX1_countsWith_8 : decode cX1_countsWith 8 = .ok (.aload_n 1, 1) := by decide +kernel
theorem dX1_countsWith_9 : decode cX1_countsWith 9 = .ok (.iload_n 2, 1) := by decide +kernel
theorem dX1_countsWith_10 : decode cX1_countsWith 10 = .ok (.invokevirtual 44, 3) := by decide +kernel
theorem dX1_countsWith_13 : decode cX1_countsWith 13 = .ok (.ifCond .eq 7, 3) := by decide +kernel
theorem dX1_countsWith_16 : decode cX1_countsWith 16 = .ok (.iconst 1, 1) := by decide +kernel
theorem dX1_countsWith_17 : decode cX1_countsWith 17 = .ok (.goto 4, 3) := by decide +kernel
theorem dX1_countsWith_20 : decode cX1_countsWith 20 = .ok (.iconst 0, 1) := by decide +kernel
theorem dX1_countsWith_21 : decode cX1_countsWith 21 = .ok (.ireturn, 1) := by decide +kernel
theorem dX1_cellAfter_0 : decode cX1_cellAfter 0 = .ok (.iload_n 3, 1) := by decide +kernel
theorem dX1_cellAfter_1 : decode cX1_cellAfter 1 = .ok (.ifCond .eq 12, 3) := by decide +kernel
theorem dX1_cellAfter_4 : decode cX1_cellAfter 4 = .ok (.iload_n 2, 1) := by decide +kernel
theorem dX1_cellAfter_5 : decode cX1_cellAfter 5 = .ok (.aload_n 0, 1) := by decide +kernel
theorem dX1_cellAfter_6 : decode cX1_cellAfter 6 = .ok (.aload_n 1, 1) := by decide +kernel
theorem dX1_cellAfter_7 : decode cX1_cellAfter 7 = .ok (.invokevirtual 48, 3) := by decide +kernel
theorem dX1_cellAfter_10 : decode cX1_cellAfter 10 = .ok (.if_icmp .ne 5, 3) := by decide +kernel
theorem dX1_cellAfter_13 : decode cX1_cellAfter 13 = .ok (.iload_n 2, 1) := by decide +kernel
theorem dX1_cellAfter_14 : decode cX1_cellAfter 14 = .ok (.ireturn, 1) := by decide +kernel
theorem dX1_cellAfter_15 : decode cX1_cellAfter 15 = .ok (.iload 4, 2) := by decide +kernel
theorem dX1_cellAfter_17 : decode cX1_cellAfter 17 = .ok (.ifCond .eq 55, 3) := by decide +kernel
theorem dX1_cellAfter_20 : decode cX1_cellAfter 20 = .ok (.aload_n 0, 1) := by decide +kernel
theorem dX1_cellAfter_21 : decode cX1_cellAfter 21 = .ok (.aload_n 1, 1) := by decide +kernel
theorem dX1_cellAfter_22 : decode cX1_cellAfter 22 = .ok (.iload_n 3, 1) := by decide +kernel
theorem dX1_cellAfter_23 : decode cX1_cellAfter 23 = .ok (.invokevirtual 44, 3) := by decide +kernel
theorem dX1_cellAfter_26 : decode cX1_cellAfter 26 = .ok (.ifCond .eq 10, 3) := by decide +kernel
theorem dX1_cellAfter_29 : decode cX1_cellAfter 29 = .ok (.aload_n 1, 1) := by decide +kernel
theorem dX1_cellAfter_30 : decode cX1_cellAfter 30 = .ok (.getfield 52, 3) := by decide +kernel
theorem dX1_cellAfter_33 : decode cX1_cellAfter 33 = .ok (.goto 7, 3) := by decide +kernel
theorem dX1_cellAfter_36 : decode cX1_cellAfter 36 = .ok (.aload_n 1, 1) := by decide +kernel
theorem dX1_cellAfter_37 : decode cX1_cellAfter 37 = .ok (.invokevirtual 55, 3) := by decide +kernel
theorem dX1_cellAfter_40 : decode cX1_cellAfter 40 = .ok (.istore 5, 2) := by decide +kernel
theorem dX1_cellAfter_42 : decode cX1_cellAfter 42 = .ok (.aload_n 1, 1) := by decide +kernel
theorem dX1_cellAfter_43 : decode cX1_cellAfter 43 = .ok (.getfield 37, 3) := by decide +kernel
theorem dX1_cellAfter_46 : decode cX1_cellAfter 46 = .ok (.ifCond .ne 17, 3) := by decide +kernel
theorem dX1_cellAfter_49 : decode cX1_cellAfter 49 = .ok (.aload_n 0, 1) := by decide +kernel
theorem dX1_cellAfter_50 : decode cX1_cellAfter 50 = .ok (.getfield 9, 3) := by decide +kernel
theorem dX1_cellAfter_53 : decode cX1_cellAfter 53 = .ok (.iload_n 2, 1) := by decide +kernel
theorem dX1_cellAfter_54 : decode cX1_cellAfter 54 = .ok (.iload 5, 2) := by decide +kernel
theorem dX1_cellAfter_56 : decode cX1_cellAfter 56 = .ok (.iadd, 1) := by decide +kernel
theorem dX1_cellAfter_57 : decode cX1_cellAfter 57 = .ok (.invokestatic 59, 3) := by decide +kernel
theorem dX1_cellAfter_60 : decode cX1_cellAfter 60 = .ok (.goto 11, 3) := by decide +kernel
theorem dX1_cellAfter_63 : decode cX1_cellAfter 63 = .ok (.iconst 0, 1) := by decide +kernel
theorem dX1_cellAfter_64 : decode cX1_cellAfter 64 = .ok (.iload_n 2, 1) := by decide +kernel
theorem dX1_cellAfter_65 : decode cX1_cellAfter 65 = .ok (.iload 5, 2) := by decide +kernel
theorem dX1_cellAfter_67 : decode cX1_cellAfter 67 = .ok (.isub, 1) := by decide +kernel
theorem dX1_cellAfter_68 : decode cX1_cellAfter 68 = .ok (.invokestatic 65, 3) := by decide +kernel
theorem dX1_cellAfter_71 : decode cX1_cellAfter 71 = .ok (.ireturn, 1) := by decide +kernel
theorem dX1_cellAfter_72 : decode cX1_cellAfter 72 = .ok (.iload_n 2, 1) := by decide +kernel
theorem dX1_cellAfter_73 : decode cX1_cellAfter 73 = .ok (.ifCond .eq 19, 3) := by decide +kernel
theorem dX1_cellAfter_76 : decode cX1_cellAfter 76 = .ok (.iload_n 2, 1) := by decide +kernel
theorem dX1_cellAfter_77 : decode cX1_cellAfter 77 = .ok (.aload_n 0, 1) := by decide +kernel
theorem dX1_cellAfter_78 : decode cX1_cellAfter 78 = .ok (.getfield 9, 3) := by decide +kernel
theorem dX1_cellAfter_81 : decode cX1_cellAfter 81 = .ok (.if_icmp .eq 11, 3) := by decide +kernel
theorem dX1_cellAfter_84 : decode cX1_cellAfter 84 = .ok (.aload_n 0, 1) := by decide +kernel
theorem dX1_cellAfter_85 : decode cX1_cellAfter 85 = .ok (.iload_n 2, 1) := by decide +kernel
theorem dX1_cellAfter_86 : decode cX1_cellAfter 86 = .ok (.invokevirtual 68, 3) := by decide +kernel
theorem dX1_cellAfter_89 : decode cX1_cellAfter 89 = .ok (.ifCond .eq 5, 3) := by decide +kernel
theorem dX1_cellAfter_92 : decode cX1_cellAfter 92 = .ok (.iload_n 2, 1) := by decide +kernel
theorem dX1_cellAfter_93 : decode cX1_cellAfter 93 = .ok (.ireturn, 1) := by decide +kernel
theorem dX1_cellAfter_94 : decode cX1_cellAfter 94 = .ok (.iload_n 3, 1) := by decide +kernel
theorem dX1_cellAfter_95 : decode cX1_cellAfter 95 = .ok (.iconst 1, 1) := by decide +kernel
theorem dX1_cellAfter_96 : decode cX1_cellAfter 96 = .ok (.if_icmp .ne 9, 3) := by decide +kernel
theorem dX1_cellAfter_99 : decode cX1_cellAfter 99 = .ok (.iload_n 2, 1) := by decide +kernel
theorem dX1_cellAfter_100 : decode cX1_cellAfter 100 = .ok (.iconst 1, 1) := by decide +kernel
theorem dX1_cellAfter_101 : decode cX1_cellAfter 101 = .ok (.iadd, 1) := by decide +kernel
theorem dX1_cellAfter_102 : decode cX1_cellAfter 102 = .ok (.goto 6, 3) := by decide +kernel
theorem dX1_cellAfter_105 : decode cX1_cellAfter 105 = .ok (.iload_n 2, 1) := by decide +kernel
theorem dX1_cellAfter_106 : decode cX1_cellAfter 106 = .ok (.iconst 1, 1) := by decide +kernel
theorem dX1_cellAfter_107 : decode cX1_cellAfter 107 = .ok (.isub, 1) := by decide +kernel
theorem dX1_cellAfter_108 : decode cX1_cellAfter 108 = .ok (.ireturn, 1) := by decide +kernel
theorem dX1_states_0 : decode cX1_states 0 = .ok (.iconst 1, 1) := by decide +kernel
theorem dX1_states_1 : decode cX1_states 1 = .ok (.istore_n 1, 1) := by decide +kernel
theorem dX1_states_2 : decode cX1_states 2 = .ok (.iconst 0, 1) := by decide +kernel
theorem dX1_states_3 : decode cX1_states 3 = .ok (.istore_n 2, 1) := by decide +kernel
theorem dX1_states_4 : decode cX1_states 4 = .ok (.iload_n 2, 1) := by decide +kernel
theorem dX1_states_5 : decode cX1_states 5 = .ok (.aload_n 0, 1) := by decide +kernel
theorem dX1_states_6 : decode cX1_states 6 = .ok (.getfield 21, 3) := by decide +kernel
theorem dX1_states_9 : decode cX1_states 9 = .ok (.if_icmp .ge 18, 3) := by decide +kernel
theorem dX1_states_12 : decode cX1_states 12 = .ok (.iload_n 1, 1) := by decide +kernel
theorem dX1_states_13 : decode cX1_states 13 = .ok (.aload_n 0, 1) := by decide +kernel
theorem dX1_states_14 : decode cX1_states 14 = .ok (.getfield 9, 3) := by decide +kernel
theorem dX1_states_17 : decode cX1_states 17 = .ok (.iconst 1, 1) := by decide +kernel
theorem dX1_states_18 : decode cX1_states 18 = .ok (.iadd, 1) := by decide +kernel
theorem dX1_states_19 : decode cX1_states 19 = .ok (.imul, 1) := by decide +kernel
theorem dX1_states_20 : decode cX1_states 20 = .ok (.istore_n 1, 1) := by decide +kernel
theorem dX1_states_21 : decode cX1_states 21 = .ok (.iinc 2 1, 3) := by decide +kernel
theorem dX1_states_24 : decode cX1_states 24 = .ok (.goto (-20), 3) := by decide +kernel
theorem dX1_states_27 : decode cX1_states 27 = .ok (.iload_n 1, 1) := by decide +kernel
theorem dX1_states_28 : decode cX1_states 28 = .ok (.ireturn, 1) := by decide +kernel
theorem dX2_init_0 : decode cX2_init 0 = .ok (.aload_n 0, 1) := by decide +kernel
theorem dX2_init_1 : decode cX2_init 1 = .ok (.iload_n 1, 1) := by decide +kernel
theorem dX2_init_2 : decode cX2_init 2 = .ok (.iload_n 2, 1) := by decide +kernel
theorem dX2_init_3 : decode cX2_init 3 = .ok (.iload_n 3, 1) := by decide +kernel
theorem dX2_init_4 : decode cX2_init 4 = .ok (.invokespecial 1, 3) := by decide +kernel
theorem dX2_init_7 : decode cX2_init 7 = .ok (.return_, 1) := by decide +kernel
theorem dX2_kindNumber_0 : decode cX2_kindNumber 0 = .ok (.iconst 1, 1) := by decide +kernel
theorem dX2_kindNumber_1 : decode cX2_kindNumber 1 = .ok (.ireturn, 1) := by decide +kernel
theorem dX2_goesAgainst_0 : decode cX2_goesAgainst 0 = .ok (.aload_n 0, 1) := by decide +kernel
theorem dX2_goesAgainst_1 : decode cX2_goesAgainst 1 = .ok (.getfield 7, 3) := by decide +kernel
theorem dX2_goesAgainst_4 : decode cX2_goesAgainst 4 = .ok (.iconst 1, 1) := by decide +kernel
theorem dX2_goesAgainst_5 : decode cX2_goesAgainst 5 = .ok (.iadd, 1) := by decide +kernel
theorem dX2_goesAgainst_6 : decode cX2_goesAgainst 6 = .ok (.ireturn, 1) := by decide +kernel
theorem dX2_telling_0 : decode cX2_telling 0 = .ok (.aload_n 1, 1) := by decide +kernel
theorem dX2_telling_1 : decode cX2_telling 1 = .ok (.iconst 2, 1) := by decide +kernel
theorem dX2_telling_2 : decode cX2_telling 2 = .ok (.invokevirtual 13, 3) := by decide +kernel
theorem dX2_telling_5 : decode cX2_telling 5 = .ok (.aload_n 0, 1) := by decide +kernel
theorem dX2_telling_6 : decode cX2_telling 6 = .ok (.aload_n 1, 1) := by decide +kernel
theorem dX2_telling_7 : decode cX2_telling 7 = .ok (.invokespecial 19, 3) := by decide +kernel
theorem dX2_telling_10 : decode cX2_telling 10 = .ok (.bipush 100, 2) := by decide +kernel
theorem dX2_telling_12 : decode cX2_telling 12 = .ok (.iadd, 1) := by decide +kernel
theorem dX2_telling_13 : decode cX2_telling 13 = .ok (.ireturn, 1) := by decide +kernel
theorem dX3_init_0 : decode cX3_init 0 = .ok (.aload_n 0, 1) := by decide +kernel
theorem dX3_init_1 : decode cX3_init 1 = .ok (.invokespecial 3, 3) := by decide +kernel
theorem dX3_init_4 : decode cX3_init 4 = .ok (.aload_n 0, 1) := by decide +kernel
theorem dX3_init_5 : decode cX3_init 5 = .ok (.iconst 0, 1) := by decide +kernel
theorem dX3_init_6 : decode cX3_init 6 = .ok (.putfield 9, 3) := by decide +kernel
theorem dX3_init_9 : decode cX3_init 9 = .ok (.aload_n 0, 1) := by decide +kernel
theorem dX3_init_10 : decode cX3_init 10 = .ok (.bipush 8, 2) := by decide +kernel
theorem dX3_init_12 : decode cX3_init 12 = .ok (.newarray .int, 2) := by decide +kernel
theorem dX3_init_14 : decode cX3_init 14 = .ok (.putfield 15, 3) := by decide +kernel
theorem dX3_init_17 : decode cX3_init 17 = .ok (.aload_n 0, 1) := by decide +kernel
theorem dX3_init_18 : decode cX3_init 18 = .ok (.bipush 8, 2) := by decide +kernel
theorem dX3_init_20 : decode cX3_init 20 = .ok (.newarray .int, 2) := by decide +kernel
theorem dX3_init_22 : decode cX3_init 22 = .ok (.putfield 19, 3) := by decide +kernel
theorem dX3_init_25 : decode cX3_init 25 = .ok (.aload_n 0, 1) := by decide +kernel
theorem dX3_init_26 : decode cX3_init 26 = .ok (.bipush 8, 2) := by decide +kernel
theorem dX3_init_28 : decode cX3_init 28 = .ok (.newarray .int, 2) := by decide +kernel
theorem dX3_init_30 : decode cX3_init 30 = .ok (.putfield 22, 3) := by decide +kernel
theorem dX3_init_33 : decode cX3_init 33 = .ok (.return_, 1) := by decide +kernel
theorem dX3_add_0 : decode cX3_add 0 = .ok (.aload_n 0, 1) := by decide +kernel
theorem dX3_add_1 : decode cX3_add 1 = .ok (.getfield 9, 3) := by decide +kernel
theorem dX3_add_4 : decode cX3_add 4 = .ok (.bipush 8, 2) := by decide +kernel
theorem dX3_add_6 : decode cX3_add 6 = .ok (.if_icmp .lt 6, 3) := by decide +kernel
theorem dX3_add_9 : decode cX3_add 9 = .ok (.bipush (-4), 2) := by decide +kernel
theorem dX3_add_11 : decode cX3_add 11 = .ok (.ireturn, 1) := by decide +kernel
theorem dX3_add_12 : decode cX3_add 12 = .ok (.aload_n 0, 1) := by decide +kernel
theorem dX3_add_13 : decode cX3_add 13 = .ok (.getfield 15, 3) := by decide +kernel
theorem dX3_add_16 : decode cX3_add 16 = .ok (.aload_n 0, 1) := by decide +kernel
theorem dX3_add_17 : decode cX3_add 17 = .ok (.getfield 9, 3) := by decide +kernel
theorem dX3_add_20 : decode cX3_add 20 = .ok (.iload_n 1, 1) := by decide +kernel
theorem dX3_add_21 : decode cX3_add 21 = .ok (.iastore, 1) := by decide +kernel
theorem dX3_add_22 : decode cX3_add 22 = .ok (.aload_n 0, 1) := by decide +kernel
theorem dX3_add_23 : decode cX3_add 23 = .ok (.getfield 19, 3) := by decide +kernel
theorem dX3_add_26 : decode cX3_add 26 = .ok (.aload_n 0, 1) := by decide +kernel
theorem dX3_add_27 : decode cX3_add 27 = .ok (.getfield 9, 3) := by decide +kernel
theorem dX3_add_30 : decode cX3_add 30 = .ok (.iload_n 2, 1) := by decide +kernel
theorem dX3_add_31 : decode cX3_add 31 = .ok (.iastore, 1) := by decide +kernel
theorem dX3_add_32 : decode cX3_add 32 = .ok (.aload_n 0, 1) := by decide +kernel
theorem dX3_add_33 : decode cX3_add 33 = .ok (.getfield 22, 3) := by decide +kernel
theorem dX3_add_36 : decode cX3_add 36 = .ok (.aload_n 0, 1) := by decide +kernel
theorem dX3_add_37 : decode cX3_add 37 = .ok (.getfield 9, 3) := by decide +kernel
theorem dX3_add_40 : decode cX3_add 40 = .ok (.iload_n 3, 1) := by decide +kernel
theorem dX3_add_41 : decode cX3_add 41 = .ok (.iastore, 1) := by decide +kernel
theorem dX3_add_42 : decode cX3_add 42 = .ok (.aload_n 0, 1) := by decide +kernel
theorem dX3_add_43 : decode cX3_add 43 = .ok (.dup, 1) := by decide +kernel
theorem dX3_add_44 : decode cX3_add 44 = .ok (.getfield 9, 3) := by decide +kernel
theorem dX3_add_47 : decode cX3_add 47 = .ok (.iconst 1, 1) := by decide +kernel
theorem dX3_add_48 : decode cX3_add 48 = .ok (.iadd, 1) := by decide +kernel
theorem dX3_add_49 : decode cX3_add 49 = .ok (.putfield 9, 3) := by decide +kernel
theorem dX3_add_52 : decode cX3_add 52 = .ok (.aload_n 0, 1) := by decide +kernel
theorem dX3_add_53 : decode cX3_add 53 = .ok (.getfield 9, 3) := by decide +kernel
theorem dX3_add_56 : decode cX3_add 56 = .ok (.iconst 1, 1) := by decide +kernel
theorem dX3_add_57 : decode cX3_add 57 = .ok (.isub, 1) := by decide +kernel
theorem dX3_add_58 : decode cX3_add 58 = .ok (.ireturn, 1) := by decide +kernel
theorem dX3_areWithin_0 : decode cX3_areWithin 0 = .ok (.iconst 0, 1) := by decide +kernel
theorem dX3_areWithin_1 : decode cX3_areWithin 1 = .ok (.istore_n 2, 1) := by decide +kernel
theorem dX3_areWithin_2 : decode cX3_areWithin 2 = .ok (.iload_n 2, 1) := by decide +kernel
theorem dX3_areWithin_3 : decode cX3_areWithin 3 = .ok (.aload_n 0, 1) := by decide +kernel
theorem dX3_areWithin_4 : decode cX3_areWithin 4 = .ok (.getfield 9, 3) := by decide +kernel
theorem dX3_areWithin_7 : decode cX3_areWithin 7 = .ok (.if_icmp .ge 21, 3) := by decide +kernel
theorem dX3_areWithin_10 : decode cX3_areWithin 10 = .ok (.aload_n 0, 1) := by decide +kernel
theorem dX3_areWithin_11 : decode cX3_areWithin 11 = .ok (.getfield 19, 3) := by decide +kernel
theorem dX3_areWithin_14 : decode cX3_areWithin 14 = .ok (.iload_n 2, 1) := by decide +kernel
theorem dX3_areWithin_15 : decode cX3_areWithin 15 = .ok (.iaload, 1) := by decide +kernel
theorem dX3_areWithin_16 : decode cX3_areWithin 16 = .ok (.iload_n 1, 1) := by decide +kernel
theorem dX3_areWithin_17 : decode cX3_areWithin 17 = .ok (.if_icmp .lt 5, 3) := by decide +kernel
theorem dX3_areWithin_20 : decode cX3_areWithin 20 = .ok (.iconst 0, 1) := by decide +kernel
theorem dX3_areWithin_21 : decode cX3_areWithin 21 = .ok (.ireturn, 1) := by decide +kernel
theorem dX3_areWithin_22 : decode cX3_areWithin 22 = .ok (.iinc 2 1, 3) := by decide +kernel
theorem dX3_areWithin_25 : decode cX3_areWithin 25 = .ok (.goto (-23), 3) := by decide +kernel
theorem dX3_areWithin_28 : decode cX3_areWithin 28 = .ok (.iconst 1, 1) := by decide +kernel
theorem dX3_areWithin_29 : decode cX3_areWithin 29 = .ok (.ireturn, 1) := by decide +kernel
theorem dX3_areSo_0 : decode cX3_areSo 0 = .ok (.iconst 0, 1) := by decide +kernel
theorem dX3_areSo_1 : decode cX3_areSo 1 = .ok (.istore_n 3, 1) := by decide +kernel
theorem dX3_areSo_2 : decode cX3_areSo 2 = .ok (.iload_n 3, 1) := by decide +kernel
theorem dX3_areSo_3 : decode cX3_areSo 3 = .ok (.aload_n 0, 1) := by decide +kernel
theorem dX3_areSo_4 : decode cX3_areSo 4 = .ok (.getfield 9, 3) := by decide +kernel
theorem dX3_areSo_7 : decode cX3_areSo 7 = .ok (.if_icmp .ge 38, 3) := by decide +kernel
theorem dX3_areSo_10 : decode cX3_areSo 10 = .ok (.aload_n 0, 1) := by decide +kernel
theorem dX3_areSo_11 : decode cX3_areSo 11 = .ok (.getfield 19, 3) := by decide +kernel
theorem dX3_areSo_14 : decode cX3_areSo 14 = .ok (.iload_n 3, 1) := by decide +kernel
theorem dX3_areSo_15 : decode cX3_areSo 15 = .ok (.iaload, 1) := by decide +kernel
theorem dX3_areSo_16 : decode cX3_areSo 16 = .ok (.iload_n 1, 1) := by decide +kernel
theorem dX3_areSo_17 : decode cX3_areSo 17 = .ok (.if_icmp .ne 22, 3) := by decide +kernel
theorem dX3_areSo_20 : decode cX3_areSo 20 = .ok (.aload_n 2, 1) := by decide +kernel
theorem dX3_areSo_21 : decode cX3_areSo 21 = .ok (.aload_n 0, 1) := by decide +kernel
theorem dX3_areSo_22 : decode cX3_areSo 22 = .ok (.getfield 15, 3) := by decide +kernel
theorem dX3_areSo_25 : decode cX3_areSo 25 = .ok (.iload_n 3, 1) := by decide +kernel
theorem dX3_areSo_26 : decode cX3_areSo 26 = .ok (.iaload, 1) := by decide +kernel
theorem dX3_areSo_27 : decode cX3_areSo 27 = .ok (.iaload, 1) := by decide +kernel
theorem dX3_areSo_28 : decode cX3_areSo 28 = .ok (.aload_n 0, 1) := by decide +kernel
theorem dX3_areSo_29 : decode cX3_areSo 29 = .ok (.getfield 22, 3) := by decide +kernel
theorem dX3_areSo_32 : decode cX3_areSo 32 = .ok (.iload_n 3, 1) := by decide +kernel
theorem dX3_areSo_33 : decode cX3_areSo 33 = .ok (.iaload, 1) := by decide +kernel
theorem dX3_areSo_34 : decode cX3_areSo 34 = .ok (.if_icmp .eq 5, 3) := by decide +kernel
theorem dX3_areSo_37 : decode cX3_areSo 37 = .ok (.iconst 0, 1) := by decide +kernel
theorem dX3_areSo_38 : decode cX3_areSo 38 = .ok (.ireturn, 1) := by decide +kernel
theorem dX3_areSo_39 : decode cX3_areSo 39 = .ok (.iinc 3 1, 3) := by decide +kernel
theorem dX3_areSo_42 : decode cX3_areSo 42 = .ok (.goto (-40), 3) := by decide +kernel
theorem dX3_areSo_45 : decode cX3_areSo 45 = .ok (.iconst 1, 1) := by decide +kernel
theorem dX3_areSo_46 : decode cX3_areSo 46 = .ok (.ireturn, 1) := by decide +kernel
theorem dX4_init_0 : decode cX4_init 0 = .ok (.aload_n 0, 1) := by decide +kernel
theorem dX4_init_1 : decode cX4_init 1 = .ok (.invokespecial 3, 3) := by decide +kernel
theorem dX4_init_4 : decode cX4_init 4 = .ok (.aload_n 0, 1) := by decide +kernel
theorem dX4_init_5 : decode cX4_init 5 = .ok (.iconst 1, 1) := by decide +kernel
theorem dX4_init_6 : decode cX4_init 6 = .ok (.putfield 9, 3) := by decide +kernel
theorem dX4_init_9 : decode cX4_init 9 = .ok (.aload_n 0, 1) := by decide +kernel
theorem dX4_init_10 : decode cX4_init 10 = .ok (.iconst 0, 1) := by decide +kernel
theorem dX4_init_11 : decode cX4_init 11 = .ok (.putfield 15, 3) := by decide +kernel
theorem dX4_init_14 : decode cX4_init 14 = .ok (.aload_n 0, 1) := by decide +kernel
theorem dX4_init_15 : decode cX4_init 15 = .ok (.iconst 0, 1) := by decide +kernel
theorem dX4_init_16 : decode cX4_init 16 = .ok (.putfield 19, 3) := by decide +kernel
theorem dX4_init_19 : decode cX4_init 19 = .ok (.aload_n 0, 1) := by decide +kernel
theorem dX4_init_20 : decode cX4_init 20 = .ok (.sipush 250, 3) := by decide +kernel
theorem dX4_init_23 : decode cX4_init 23 = .ok (.newarray .long, 2) := by decide +kernel
theorem dX4_init_25 : decode cX4_init 25 = .ok (.putfield 22, 3) := by decide +kernel
theorem dX4_init_28 : decode cX4_init 28 = .ok (.aload_n 0, 1) := by decide +kernel
theorem dX4_init_29 : decode cX4_init 29 = .ok (.sipush 250, 3) := by decide +kernel
theorem dX4_init_32 : decode cX4_init 32 = .ok (.newarray .long, 2) := by decide +kernel
theorem dX4_init_34 : decode cX4_init 34 = .ok (.putfield 26, 3) := by decide +kernel
theorem dX4_init_37 : decode cX4_init 37 = .ok (.aload_n 0, 1) := by decide +kernel
theorem dX4_init_38 : decode cX4_init 38 = .ok (.bipush 125, 2) := by decide +kernel
theorem dX4_init_40 : decode cX4_init 40 = .ok (.newarray .int, 2) := by decide +kernel
theorem dX4_init_42 : decode cX4_init 42 = .ok (.putfield 29, 3) := by decide +kernel
theorem dX4_init_45 : decode cX4_init 45 = .ok (.aload_n 0, 1) := by decide +kernel
theorem dX4_init_46 : decode cX4_init 46 = .ok (.bipush 8, 2) := by decide +kernel
theorem dX4_init_48 : decode cX4_init 48 = .ok (.newarray .int, 2) := by decide +kernel
theorem dX4_init_50 : decode cX4_init 50 = .ok (.putfield 33, 3) := by decide +kernel
theorem dX4_init_53 : decode cX4_init 53 = .ok (.aload_n 0, 1) := by decide +kernel
theorem dX4_init_54 : decode cX4_init 54 = .ok (.bipush 8, 2) := by decide +kernel
theorem dX4_init_56 : decode cX4_init 56 = .ok (.newarray .int, 2) := by decide +kernel
theorem dX4_init_58 : decode cX4_init 58 = .ok (.putfield 36, 3) := by decide +kernel
theorem dX4_init_61 : decode cX4_init 61 = .ok (.aload_n 0, 1) := by decide +kernel
theorem dX4_init_62 : decode cX4_init 62 = .ok (.new 39, 3) := by decide +kernel
theorem dX4_init_65 : decode cX4_init 65 = .ok (.dup, 1) := by decide +kernel
theorem dX4_init_66 : decode cX4_init 66 = .ok (.invokespecial 41, 3) := by decide +kernel
theorem dX4_init_69 : decode cX4_init 69 = .ok (.putfield 42, 3) := by decide +kernel
theorem dX4_init_72 : decode cX4_init 72 = .ok (.aload_n 0, 1) := by decide +kernel
theorem dX4_init_73 : decode cX4_init 73 = .ok (.new 46, 3) := by decide +kernel
theorem dX4_init_76 : decode cX4_init 76 = .ok (.dup, 1) := by decide +kernel
theorem dX4_init_77 : decode cX4_init 77 = .ok (.invokespecial 48, 3) := by decide +kernel
theorem dX4_init_80 : decode cX4_init 80 = .ok (.putfield 49, 3) := by decide +kernel
theorem dX4_init_83 : decode cX4_init 83 = .ok (.aload_n 0, 1) := by decide +kernel
theorem dX4_init_84 : decode cX4_init 84 = .ok (.new 46, 3) := by decide +kernel
theorem dX4_init_87 : decode cX4_init 87 = .ok (.dup, 1) := by decide +kernel
theorem dX4_init_88 : decode cX4_init 88 = .ok (.invokespecial 48, 3) := by decide +kernel
theorem dX4_init_91 : decode cX4_init 91 = .ok (.putfield 53, 3) := by decide +kernel
theorem dX4_init_94 : decode cX4_init 94 = .ok (.aload_n 0, 1) := by decide +kernel
theorem dX4_init_95 : decode cX4_init 95 = .ok (.bipush 11, 2) := by decide +kernel
theorem dX4_init_97 : decode cX4_init 97 = .ok (.anewarray 46, 3) := by decide +kernel
theorem dX4_init_100 : decode cX4_init 100 = .ok (.putfield 56, 3) := by decide +kernel
theorem dX4_init_103 : decode cX4_init 103 = .ok (.aload_n 0, 1) := by decide +kernel
theorem dX4_init_104 : decode cX4_init 104 = .ok (.bipush 10, 2) := by decide +kernel
theorem dX4_init_106 : decode cX4_init 106 = .ok (.anewarray 46, 3) := by decide +kernel
theorem dX4_init_109 : decode cX4_init 109 = .ok (.putfield 60, 3) := by decide +kernel
theorem dX4_init_112 : decode cX4_init 112 = .ok (.iconst 0, 1) := by decide +kernel
theorem dX4_init_113 : decode cX4_init 113 = .ok (.istore_n 1, 1) := by decide +kernel
theorem dX4_init_114 : decode cX4_init 114 = .ok (.iload_n 1, 1) := by decide +kernel
theorem dX4_init_115 : decode cX4_init 115 = .ok (.bipush 10, 2) := by decide +kernel
theorem dX4_init_117 : decode cX4_init 117 = .ok (.if_icmp .ge 35, 3) := by decide +kernel
theorem dX4_init_120 : decode cX4_init 120 = .ok (.aload_n 0, 1) := by decide +kernel
theorem dX4_init_121 : decode cX4_init 121 = .ok (.getfield 56, 3) := by decide +kernel
theorem dX4_init_124 : decode cX4_init 124 = .ok (.iload_n 1, 1) := by decide +kernel
theorem dX4_init_125 : decode cX4_init 125 = .ok (.new 46, 3) := by decide +kernel
theorem dX4_init_128 : decode cX4_init 128 = .ok (.dup, 1) := by decide +kernel
theorem dX4_init_129 : decode cX4_init 129 = .ok (.invokespecial 48, 3) := by decide +kernel
theorem dX4_init_132 : decode cX4_init 132 = .ok (.aastore, 1) := by decide +kernel
theorem dX4_init_133 : decode cX4_init 133 = .ok (.aload_n 0, 1) := by decide +kernel
theorem dX4_init_134 : decode cX4_init 134 = .ok (.getfield 60, 3) := by decide +kernel
theorem dX4_init_137 : decode cX4_init 137 = .ok (.iload_n 1, 1) := by decide +kernel
theorem dX4_init_138 : decode cX4_init 138 = .ok (.new 46, 3) := by decide +kernel
theorem dX4_init_141 : decode cX4_init 141 = .ok (.dup, 1) := by decide +kernel
theorem dX4_init_142 : decode cX4_init 142 = .ok (.invokespecial 48, 3) := by decide +kernel
theorem dX4_init_145 : decode cX4_init 145 = .ok (.aastore, 1) := by decide +kernel
theorem dX4_init_146 : decode cX4_init 146 = .ok (.iinc 1 1, 3) := by decide +kernel
theorem dX4_init_149 : decode cX4_init 149 = .ok (.goto (-35), 3) := by decide +kernel
theorem dX4_init_152 : decode cX4_init 152 = .ok (.aload_n 0, 1) := by decide +kernel
theorem dX4_init_153 : decode cX4_init 153 = .ok (.getfield 56, 3) := by decide +kernel
theorem dX4_init_156 : decode cX4_init 156 = .ok (.bipush 10, 2) := by decide +kernel
theorem dX4_init_158 : decode cX4_init 158 = .ok (.new 46, 3) := by decide +kernel
theorem dX4_init_161 : decode cX4_init 161 = .ok (.dup, 1) := by decide +kernel
theorem dX4_init_162 : decode cX4_init 162 = .ok (.invokespecial 48, 3) := by decide +kernel
theorem dX4_init_165 : decode cX4_init 165 = .ok (.aastore, 1) := by decide +kernel
theorem dX4_init_166 : decode cX4_init 166 = .ok (.return_, 1) := by decide +kernel
theorem dX4_fewestHours_0 : decode cX4_fewestHours 0 = .ok (.aload_n 0, 1) := by decide +kernel
theorem dX4_fewestHours_1 : decode cX4_fewestHours 1 = .ok (.aload_n 1, 1) := by decide +kernel
theorem dX4_fewestHours_2 : decode cX4_fewestHours 2 = .ok (.invokevirtual 63, 3) := by decide +kernel
theorem dX4_fewestHours_5 : decode cX4_fewestHours 5 = .ok (.aload_n 0, 1) := by decide +kernel
theorem dX4_fewestHours_6 : decode cX4_fewestHours 6 = .ok (.invokevirtual 67, 3) := by decide +kernel
theorem dX4_fewestHours_9 : decode cX4_fewestHours 9 = .ok (.iconst 0, 1) := by decide +kernel
theorem dX4_fewestHours_10 : decode cX4_fewestHours 10 = .ok (.istore_n 3, 1) := by decide +kernel
theorem dX4_fewestHours_11 : decode cX4_fewestHours 11 = .ok (.iload_n 3, 1) := by decide +kernel
theorem dX4_fewestHours_12 : decode cX4_fewestHours 12 = .ok (.aload_n 1, 1) := by decide +kernel
theorem dX4_fewestHours_13 : decode cX4_fewestHours 13 = .ok (.getfield 70, 3) := by decide +kernel
theorem dX4_fewestHours_16 : decode cX4_fewestHours 16 = .ok (.if_icmp .ge 37, 3) := by decide +kernel
theorem dX4_fewestHours_19 : decode cX4_fewestHours 19 = .ok (.aload_n 0, 1) := by decide +kernel
theorem dX4_fewestHours_20 : decode cX4_fewestHours 20 = .ok (.aload_n 0, 1) := by decide +kernel
theorem dX4_fewestHours_21 : decode cX4_fewestHours 21 = .ok (.getfield 49, 3) := by decide +kernel
theorem dX4_fewestHours_24 : decode cX4_fewestHours 24 = .ok (.iload_n 2, 1) := by decide +kernel
theorem dX4_fewestHours_25 : decode cX4_fewestHours 25 = .ok (.invokevirtual 75, 3) := by decide +kernel
theorem dX4_fewestHours_28 : decode cX4_fewestHours 28 = .ok (.ifCond .eq 5, 3) := by decide +kernel
theorem dX4_fewestHours_31 : decode cX4_fewestHours 31 = .ok (.iload_n 3, 1) := by decide +kernel
theorem dX4_fewestHours_32 : decode cX4_fewestHours 32 = .ok (.ireturn, 1) := by decide +kernel
theorem dX4_fewestHours_33 : decode cX4_fewestHours 33 = .ok (.aload_n 0, 1) := by decide +kernel
theorem dX4_fewestHours_34 : decode cX4_fewestHours 34 = .ok (.aload_n 0, 1) := by decide +kernel
theorem dX4_fewestHours_35 : decode cX4_fewestHours 35 = .ok (.getfield 49, 3) := by decide +kernel
theorem dX4_fewestHours_38 : decode cX4_fewestHours 38 = .ok (.aload_n 1, 1) := by decide +kernel
theorem dX4_fewestHours_39 : decode cX4_fewestHours 39 = .ok (.getfield 79, 3) := by decide +kernel
theorem dX4_fewestHours_42 : decode cX4_fewestHours 42 = .ok (.iload_n 3, 1) := by decide +kernel
theorem dX4_fewestHours_43 : decode cX4_fewestHours 43 = .ok (.iaload, 1) := by decide +kernel
theorem dX4_fewestHours_44 : decode cX4_fewestHours 44 = .ok (.invokevirtual 82, 3) := by decide +kernel
theorem dX4_fewestHours_47 : decode cX4_fewestHours 47 = .ok (.iinc 3 1, 3) := by decide +kernel
theorem dX4_fewestHours_50 : decode cX4_fewestHours 50 = .ok (.goto (-39), 3) := by decide +kernel
theorem dX4_fewestHours_53 : decode cX4_fewestHours 53 = .ok (.aload_n 0, 1) := by decide +kernel
theorem dX4_fewestHours_54 : decode cX4_fewestHours 54 = .ok (.aload_n 0, 1) := by decide +kernel
theorem dX4_fewestHours_55 : decode cX4_fewestHours 55 = .ok (.getfield 49, 3) := by decide +kernel
theorem dX4_fewestHours_58 : decode cX4_fewestHours 58 = .ok (.iload_n 2, 1) := by decide +kernel
theorem dX4_fewestHours_59 : decode cX4_fewestHours 59 = .ok (.invokevirtual 75, 3) := by decide +kernel
theorem dX4_fewestHours_62 : decode cX4_fewestHours 62 = .ok (.ifCond .eq 10, 3) := by decide +kernel
theorem dX4_fewestHours_65 : decode cX4_fewestHours 65 = .ok (.aload_n 1, 1) := by decide +kernel
theorem dX4_fewestHours_66 : decode cX4_fewestHours 66 = .ok (.getfield 70, 3) := by decide +kernel
theorem dX4_fewestHours_69 : decode cX4_fewestHours 69 = .ok (.goto 5, 3) := by decide +kernel
theorem dX4_fewestHours_72 : decode cX4_fewestHours 72 = .ok (.bipush (-9), 2) := by decide +kernel
theorem dX4_fewestHours_74 : decode cX4_fewestHours 74 = .ok (.ireturn, 1) := by decide +kernel
theorem dX4_fewestHats_0 : decode cX4_fewestHats 0 = .ok (.aload_n 0, 1) := by decide +kernel
theorem dX4_fewestHats_1 : decode cX4_fewestHats 1 = .ok (.aload_n 1, 1) := by decide +kernel
theorem dX4_fewestHats_2 : decode cX4_fewestHats 2 = .ok (.invokevirtual 63, 3) := by decide +kernel
theorem dX4_fewestHats_5 : decode cX4_fewestHats 5 = .ok (.aload_n 0, 1) := by decide +kernel
theorem dX4_fewestHats_6 : decode cX4_fewestHats 6 = .ok (.aload_n 1, 1) := by decide +kernel
theorem dX4_fewestHats_7 : decode cX4_fewestHats 7 = .ok (.iload_n 2, 1) := by decide +kernel
theorem dX4_fewestHats_8 : decode cX4_fewestHats 8 = .ok (.iload_n 3, 1) := by decide +kernel
theorem dX4_fewestHats_9 : decode cX4_fewestHats 9 = .ok (.invokevirtual 86, 3) := by decide +kernel
theorem dX4_fewestHats_12 : decode cX4_fewestHats 12 = .ok (.aload_n 0, 1) := by decide +kernel
theorem dX4_fewestHats_13 : decode cX4_fewestHats 13 = .ok (.getfield 56, 3) := by decide +kernel
theorem dX4_fewestHats_16 : decode cX4_fewestHats 16 = .ok (.iconst 0, 1) := by decide +kernel
theorem dX4_fewestHats_17 : decode cX4_fewestHats 17 = .ok (.aaload, 1) := by decide +kernel
theorem dX4_fewestHats_18 : decode cX4_fewestHats 18 = .ok (.aload_n 0, 1) := by decide +kernel
theorem dX4_fewestHats_19 : decode cX4_fewestHats 19 = .ok (.getfield 19, 3) := by decide +kernel
theorem dX4_fewestHats_22 : decode cX4_fewestHats 22 = .ok (.invokevirtual 90, 3) := by decide +kernel
theorem dX4_fewestHats_25 : decode cX4_fewestHats 25 = .ok (.ifCond .eq 5, 3) := by decide +kernel
theorem dX4_fewestHats_28 : decode cX4_fewestHats 28 = .ok (.iconst 0, 1) := by decide +kernel
theorem dX4_fewestHats_29 : decode cX4_fewestHats 29 = .ok (.ireturn, 1) := by decide +kernel
theorem dX4_fewestHats_30 : decode cX4_fewestHats 30 = .ok (.aload_n 0, 1) := by decide +kernel
theorem dX4_fewestHats_31 : decode cX4_fewestHats 31 = .ok (.aload_n 1, 1) := by decide +kernel
theorem dX4_fewestHats_32 : decode cX4_fewestHats 32 = .ok (.iload_n 3, 1) := by decide +kernel
theorem dX4_fewestHats_33 : decode cX4_fewestHats 33 = .ok (.invokevirtual 94, 3) := by decide +kernel
theorem dX4_fewestHats_36 : decode cX4_fewestHats 36 = .ok (.istore 4, 2) := by decide +kernel
theorem dX4_fewestHats_38 : decode cX4_fewestHats 38 = .ok (.iload 4, 2) := by decide +kernel
theorem dX4_fewestHats_40 : decode cX4_fewestHats 40 = .ok (.bipush (-9), 2) := by decide +kernel
theorem dX4_fewestHats_42 : decode cX4_fewestHats 42 = .ok (.if_icmp .eq 8, 3) := by decide +kernel
theorem dX4_fewestHats_45 : decode cX4_fewestHats 45 = .ok (.iload 4, 2) := by decide +kernel
theorem dX4_fewestHats_47 : decode cX4_fewestHats 47 = .ok (.goto 9, 3) := by decide +kernel
theorem dX4_fewestHats_50 : decode cX4_fewestHats 50 = .ok (.aload_n 0, 1) := by decide +kernel
theorem dX4_fewestHats_51 : decode cX4_fewestHats 51 = .ok (.aload_n 1, 1) := by decide +kernel
theorem dX4_fewestHats_52 : decode cX4_fewestHats 52 = .ok (.iload_n 3, 1) := by decide +kernel
theorem dX4_fewestHats_53 : decode cX4_fewestHats 53 = .ok (.invokevirtual 98, 3) := by decide +kernel
theorem dX4_fewestHats_56 : decode cX4_fewestHats 56 = .ok (.ireturn, 1) := by decide +kernel
theorem dX4_leastHat_0 : decode cX4_leastHat 0 = .ok (.aload_n 0, 1) := by decide +kernel
theorem dX4_leastHat_1 : decode cX4_leastHat 1 = .ok (.invokevirtual 67, 3) := by decide +kernel
theorem dX4_leastHat_4 : decode cX4_leastHat 4 = .ok (.iconst 0, 1) := by decide +kernel
theorem dX4_leastHat_5 : decode cX4_leastHat 5 = .ok (.istore_n 3, 1) := by decide +kernel
theorem dX4_leastHat_6 : decode cX4_leastHat 6 = .ok (.iload_n 3, 1) := by decide +kernel
theorem dX4_leastHat_7 : decode cX4_leastHat 7 = .ok (.iload_n 2, 1) := by decide +kernel
theorem dX4_leastHat_8 : decode cX4_leastHat 8 = .ok (.if_icmp .ge 77, 3) := by decide +kernel
theorem dX4_leastHat_11 : decode cX4_leastHat 11 = .ok (.aload_n 0, 1) := by decide +kernel
theorem dX4_leastHat_12 : decode cX4_leastHat 12 = .ok (.aload_n 0, 1) := by decide +kernel
theorem dX4_leastHat_13 : decode cX4_leastHat 13 = .ok (.getfield 49, 3) := by decide +kernel
theorem dX4_leastHat_16 : decode cX4_leastHat 16 = .ok (.aload_n 1, 1) := by decide +kernel
theorem dX4_leastHat_17 : decode cX4_leastHat 17 = .ok (.getfield 79, 3) := by decide +kernel
theorem dX4_leastHat_20 : decode cX4_leastHat 20 = .ok (.iload_n 3, 1) := by decide +kernel
theorem dX4_leastHat_21 : decode cX4_leastHat 21 = .ok (.iaload, 1) := by decide +kernel
theorem dX4_leastHat_22 : decode cX4_leastHat 22 = .ok (.aload_n 0, 1) := by decide +kernel
theorem dX4_leastHat_23 : decode cX4_leastHat 23 = .ok (.getfield 53, 3) := by decide +kernel
theorem dX4_leastHat_26 : decode cX4_leastHat 26 = .ok (.invokevirtual 101, 3) := by decide +kernel
theorem dX4_leastHat_29 : decode cX4_leastHat 29 = .ok (.aload_n 0, 1) := by decide +kernel
theorem dX4_leastHat_30 : decode cX4_leastHat 30 = .ok (.getfield 53, 3) := by decide +kernel
theorem dX4_leastHat_33 : decode cX4_leastHat 33 = .ok (.aload_n 0, 1) := by decide +kernel
theorem dX4_leastHat_34 : decode cX4_leastHat 34 = .ok (.getfield 56, 3) := by decide +kernel
theorem dX4_leastHat_37 : decode cX4_leastHat 37 = .ok (.iload_n 3, 1) := by decide +kernel
theorem dX4_leastHat_38 : decode cX4_leastHat 38 = .ok (.iconst 1, 1) := by decide +kernel
theorem dX4_leastHat_39 : decode cX4_leastHat 39 = .ok (.iadd, 1) := by decide +kernel
theorem dX4_leastHat_40 : decode cX4_leastHat 40 = .ok (.aaload, 1) := by decide +kernel
theorem dX4_leastHat_41 : decode cX4_leastHat 41 = .ok (.getfield 105, 3) := by decide +kernel
theorem dX4_leastHat_44 : decode cX4_leastHat 44 = .ok (.aload_n 0, 1) := by decide +kernel
theorem dX4_leastHat_45 : decode cX4_leastHat 45 = .ok (.getfield 56, 3) := by decide +kernel
theorem dX4_leastHat_48 : decode cX4_leastHat 48 = .ok (.iload_n 3, 1) := by decide +kernel
theorem dX4_leastHat_49 : decode cX4_leastHat 49 = .ok (.iconst 1, 1) := by decide +kernel
theorem dX4_leastHat_50 : decode cX4_leastHat 50 = .ok (.iadd, 1) := by decide +kernel
theorem dX4_leastHat_51 : decode cX4_leastHat 51 = .ok (.aaload, 1) := by decide +kernel
theorem dX4_leastHat_52 : decode cX4_leastHat 52 = .ok (.getfield 109, 3) := by decide +kernel
theorem dX4_leastHat_55 : decode cX4_leastHat 55 = .ok (.invokevirtual 112, 3) := by decide +kernel
theorem dX4_leastHat_58 : decode cX4_leastHat 58 = .ok (.ifCond .eq 7, 3) := by decide +kernel
theorem dX4_leastHat_61 : decode cX4_leastHat 61 = .ok (.iconst 1, 1) := by decide +kernel
theorem dX4_leastHat_62 : decode cX4_leastHat 62 = .ok (.iload_n 3, 1) := by decide +kernel
theorem dX4_leastHat_63 : decode cX4_leastHat 63 = .ok (.ishl, 1) := by decide +kernel
theorem dX4_leastHat_64 : decode cX4_leastHat 64 = .ok (.ireturn, 1) := by decide +kernel
theorem dX4_leastHat_65 : decode cX4_leastHat 65 = .ok (.aload_n 0, 1) := by decide +kernel
theorem dX4_leastHat_66 : decode cX4_leastHat 66 = .ok (.aload_n 0, 1) := by decide +kernel
theorem dX4_leastHat_67 : decode cX4_leastHat 67 = .ok (.getfield 49, 3) := by decide +kernel
theorem dX4_leastHat_70 : decode cX4_leastHat 70 = .ok (.aload_n 1, 1) := by decide +kernel
theorem dX4_leastHat_71 : decode cX4_leastHat 71 = .ok (.getfield 79, 3) := by decide +kernel
theorem dX4_leastHat_74 : decode cX4_leastHat 74 = .ok (.iload_n 3, 1) := by decide +kernel
theorem dX4_leastHat_75 : decode cX4_leastHat 75 = .ok (.iaload, 1) := by decide +kernel
theorem dX4_leastHat_76 : decode cX4_leastHat 76 = .ok (.invokevirtual 82, 3) := by decide +kernel
theorem dX4_leastHat_79 : decode cX4_leastHat 79 = .ok (.iinc 3 1, 3) := by decide +kernel
theorem dX4_leastHat_82 : decode cX4_leastHat 82 = .ok (.goto (-76), 3) := by decide +kernel
theorem dX4_leastHat_85 : decode cX4_leastHat 85 = .ok (.bipush (-9), 2) := by decide +kernel
theorem dX4_leastHat_87 : decode cX4_leastHat 87 = .ok (.ireturn, 1) := by decide +kernel
theorem dX4_leastTwoHats_0 : decode cX4_leastTwoHats 0 = .ok (.aload_n 0, 1) := by decide +kernel
theorem dX4_leastTwoHats_1 : decode cX4_leastTwoHats 1 = .ok (.invokevirtual 67, 3) := by decide +kernel
theorem dX4_leastTwoHats_4 : decode cX4_leastTwoHats 4 = .ok (.iconst 0, 1) := by decide +kernel
theorem dX4_leastTwoHats_5 : decode cX4_leastTwoHats 5 = .ok (.istore_n 3, 1) := by decide +kernel
theorem dX4_leastTwoHats_6 : decode cX4_leastTwoHats 6 = .ok (.iload_n 3, 1) := by decide +kernel
theorem dX4_leastTwoHats_7 : decode cX4_leastTwoHats 7 = .ok (.iload_n 2, 1) := by decide +kernel
theorem dX4_leastTwoHats_8 : decode cX4_leastTwoHats 8 = .ok (.if_icmp .ge 129, 3) := by decide +kernel
theorem dX4_leastTwoHats_11 : decode cX4_leastTwoHats 11 = .ok (.aload_n 1, 1) := by decide +kernel
theorem dX4_leastTwoHats_12 : decode cX4_leastTwoHats 12 = .ok (.getfield 79, 3) := by decide +kernel
theorem dX4_leastTwoHats_15 : decode cX4_leastTwoHats 15 = .ok (.iload_n 3, 1) := by decide +kernel
theorem dX4_leastTwoHats_16 : decode cX4_leastTwoHats 16 = .ok (.iaload, 1) := by decide +kernel
theorem dX4_leastTwoHats_17 : decode cX4_leastTwoHats 17 = .ok (.istore 4, 2) := by decide +kernel
theorem dX4_leastTwoHats_19 : decode cX4_leastTwoHats 19 = .ok (.iconst 0, 1) := by decide +kernel
theorem dX4_leastTwoHats_20 : decode cX4_leastTwoHats 20 = .ok (.istore 5, 2) := by decide +kernel
theorem dX4_leastTwoHats_22 : decode cX4_leastTwoHats 22 = .ok (.iload 5, 2) := by decide +kernel
theorem dX4_leastTwoHats_24 : decode cX4_leastTwoHats 24 = .ok (.iload_n 3, 1) := by decide +kernel
theorem dX4_leastTwoHats_25 : decode cX4_leastTwoHats 25 = .ok (.if_icmp .ge 80, 3) := by decide +kernel
theorem dX4_leastTwoHats_28 : decode cX4_leastTwoHats 28 = .ok (.aload_n 0, 1) := by decide +kernel
theorem dX4_leastTwoHats_29 : decode cX4_leastTwoHats 29 = .ok (.aload_n 0, 1) := by decide +kernel
theorem dX4_leastTwoHats_30 : decode cX4_leastTwoHats 30 = .ok (.getfield 60, 3) := by decide +kernel
theorem dX4_leastTwoHats_33 : decode cX4_leastTwoHats 33 = .ok (.iload 5, 2) := by decide +kernel
theorem dX4_leastTwoHats_35 : decode cX4_leastTwoHats 35 = .ok (.aaload, 1) := by decide +kernel
theorem dX4_leastTwoHats_36 : decode cX4_leastTwoHats 36 = .ok (.iload 4, 2) := by decide +kernel
theorem dX4_leastTwoHats_38 : decode cX4_leastTwoHats 38 = .ok (.aload_n 0, 1) := by decide +kernel
theorem dX4_leastTwoHats_39 : decode cX4_leastTwoHats 39 = .ok (.getfield 53, 3) := by decide +kernel
theorem dX4_leastTwoHats_42 : decode cX4_leastTwoHats 42 = .ok (.invokevirtual 101, 3) := by decide +kernel
theorem dX4_leastTwoHats_45 : decode cX4_leastTwoHats 45 = .ok (.aload_n 0, 1) := by decide +kernel
theorem dX4_leastTwoHats_46 : decode cX4_leastTwoHats 46 = .ok (.getfield 53, 3) := by decide +kernel
theorem dX4_leastTwoHats_49 : decode cX4_leastTwoHats 49 = .ok (.aload_n 0, 1) := by decide +kernel
theorem dX4_leastTwoHats_50 : decode cX4_leastTwoHats 50 = .ok (.getfield 56, 3) := by decide +kernel
theorem dX4_leastTwoHats_53 : decode cX4_leastTwoHats 53 = .ok (.iload_n 3, 1) := by decide +kernel
theorem dX4_leastTwoHats_54 : decode cX4_leastTwoHats 54 = .ok (.iconst 1, 1) := by decide +kernel
theorem dX4_leastTwoHats_55 : decode cX4_leastTwoHats 55 = .ok (.iadd, 1) := by decide +kernel
theorem dX4_leastTwoHats_56 : decode cX4_leastTwoHats 56 = .ok (.aaload, 1) := by decide +kernel
theorem dX4_leastTwoHats_57 : decode cX4_leastTwoHats 57 = .ok (.getfield 105, 3) := by decide +kernel
theorem dX4_leastTwoHats_60 : decode cX4_leastTwoHats 60 = .ok (.aload_n 0, 1) := by decide +kernel
theorem dX4_leastTwoHats_61 : decode cX4_leastTwoHats 61 = .ok (.getfield 56, 3) := by decide +kernel
theorem dX4_leastTwoHats_64 : decode cX4_leastTwoHats 64 = .ok (.iload_n 3, 1) := by decide +kernel
theorem dX4_leastTwoHats_65 : decode cX4_leastTwoHats 65 = .ok (.iconst 1, 1) := by decide +kernel
theorem dX4_leastTwoHats_66 : decode cX4_leastTwoHats 66 = .ok (.iadd, 1) := by decide +kernel
theorem dX4_leastTwoHats_67 : decode cX4_leastTwoHats 67 = .ok (.aaload, 1) := by decide +kernel
theorem dX4_leastTwoHats_68 : decode cX4_leastTwoHats 68 = .ok (.getfield 109, 3) := by decide +kernel
theorem dX4_leastTwoHats_71 : decode cX4_leastTwoHats 71 = .ok (.invokevirtual 112, 3) := by decide +kernel
theorem dX4_leastTwoHats_74 : decode cX4_leastTwoHats 74 = .ok (.ifCond .eq 12, 3) := by decide +kernel
theorem dX4_leastTwoHats_77 : decode cX4_leastTwoHats 77 = .ok (.iconst 1, 1) := by decide +kernel
theorem dX4_leastTwoHats_78 : decode cX4_leastTwoHats 78 = .ok (.iload_n 3, 1) := by decide +kernel
theorem dX4_leastTwoHats_79 : decode cX4_leastTwoHats 79 = .ok (.ishl, 1) := by decide +kernel
theorem dX4_leastTwoHats_80 : decode cX4_leastTwoHats 80 = .ok (.iconst 1, 1) := by decide +kernel
theorem dX4_leastTwoHats_81 : decode cX4_leastTwoHats 81 = .ok (.iload 5, 2) := by decide +kernel
theorem dX4_leastTwoHats_83 : decode cX4_leastTwoHats 83 = .ok (.ishl, 1) := by decide +kernel
theorem dX4_leastTwoHats_84 : decode cX4_leastTwoHats 84 = .ok (.ior, 1) := by decide +kernel
theorem dX4_leastTwoHats_85 : decode cX4_leastTwoHats 85 = .ok (.ireturn, 1) := by decide +kernel
theorem dX4_leastTwoHats_86 : decode cX4_leastTwoHats 86 = .ok (.aload_n 0, 1) := by decide +kernel
theorem dX4_leastTwoHats_87 : decode cX4_leastTwoHats 87 = .ok (.aload_n 0, 1) := by decide +kernel
theorem dX4_leastTwoHats_88 : decode cX4_leastTwoHats 88 = .ok (.getfield 60, 3) := by decide +kernel
theorem dX4_leastTwoHats_91 : decode cX4_leastTwoHats 91 = .ok (.iload 5, 2) := by decide +kernel
theorem dX4_leastTwoHats_93 : decode cX4_leastTwoHats 93 = .ok (.aaload, 1) := by decide +kernel
theorem dX4_leastTwoHats_94 : decode cX4_leastTwoHats 94 = .ok (.iload 4, 2) := by decide +kernel
theorem dX4_leastTwoHats_96 : decode cX4_leastTwoHats 96 = .ok (.invokevirtual 82, 3) := by decide +kernel
theorem dX4_leastTwoHats_99 : decode cX4_leastTwoHats 99 = .ok (.iinc 5 1, 3) := by decide +kernel
theorem dX4_leastTwoHats_102 : decode cX4_leastTwoHats 102 = .ok (.goto (-80), 3) := by decide +kernel
theorem dX4_leastTwoHats_105 : decode cX4_leastTwoHats 105 = .ok (.aload_n 0, 1) := by decide +kernel
theorem dX4_leastTwoHats_106 : decode cX4_leastTwoHats 106 = .ok (.aload_n 0, 1) := by decide +kernel
theorem dX4_leastTwoHats_107 : decode cX4_leastTwoHats 107 = .ok (.getfield 49, 3) := by decide +kernel
theorem dX4_leastTwoHats_110 : decode cX4_leastTwoHats 110 = .ok (.iload 4, 2) := by decide +kernel
theorem dX4_leastTwoHats_112 : decode cX4_leastTwoHats 112 = .ok (.aload_n 0, 1) := by decide +kernel
theorem dX4_leastTwoHats_113 : decode cX4_leastTwoHats 113 = .ok (.getfield 60, 3) := by decide +kernel
theorem dX4_leastTwoHats_116 : decode cX4_leastTwoHats 116 = .ok (.iload_n 3, 1) := by decide +kernel
theorem dX4_leastTwoHats_117 : decode cX4_leastTwoHats 117 = .ok (.aaload, 1) := by decide +kernel
theorem dX4_leastTwoHats_118 : decode cX4_leastTwoHats 118 = .ok (.invokevirtual 101, 3) := by decide +kernel
theorem dX4_leastTwoHats_121 : decode cX4_leastTwoHats 121 = .ok (.aload_n 0, 1) := by decide +kernel
theorem dX4_leastTwoHats_122 : decode cX4_leastTwoHats 122 = .ok (.aload_n 0, 1) := by decide +kernel
theorem dX4_leastTwoHats_123 : decode cX4_leastTwoHats 123 = .ok (.getfield 49, 3) := by decide +kernel
theorem dX4_leastTwoHats_126 : decode cX4_leastTwoHats 126 = .ok (.iload 4, 2) := by decide +kernel
theorem dX4_leastTwoHats_128 : decode cX4_leastTwoHats 128 = .ok (.invokevirtual 82, 3) := by decide +kernel
theorem dX4_leastTwoHats_131 : decode cX4_leastTwoHats 131 = .ok (.iinc 3 1, 3) := by decide +kernel
theorem dX4_leastTwoHats_134 : decode cX4_leastTwoHats 134 = .ok (.goto (-128), 3) := by decide +kernel
theorem dX4_leastTwoHats_137 : decode cX4_leastTwoHats 137 = .ok (.bipush (-9), 2) := by decide +kernel
theorem dX4_leastTwoHats_139 : decode cX4_leastTwoHats 139 = .ok (.ireturn, 1) := by decide +kernel
theorem dX4_startNow_0 : decode cX4_startNow 0 = .ok (.aload_n 0, 1) := by decide +kernel
theorem dX4_startNow_1 : decode cX4_startNow 1 = .ok (.getfield 49, 3) := by decide +kernel
theorem dX4_startNow_4 : decode cX4_startNow 4 = .ok (.invokevirtual 116, 3) := by decide +kernel
theorem dX4_startNow_7 : decode cX4_startNow 7 = .ok (.aload_n 0, 1) := by decide +kernel
theorem dX4_startNow_8 : decode cX4_startNow 8 = .ok (.getfield 49, 3) := by decide +kernel
theorem dX4_startNow_11 : decode cX4_startNow 11 = .ok (.aload_n 0, 1) := by decide +kernel
theorem dX4_startNow_12 : decode cX4_startNow 12 = .ok (.getfield 19, 3) := by decide +kernel
theorem dX4_startNow_15 : decode cX4_startNow 15 = .ok (.invokevirtual 119, 3) := by decide +kernel
theorem dX4_startNow_18 : decode cX4_startNow 18 = .ok (.return_, 1) := by decide +kernel
theorem dX4_isOverInSome_0 : decode cX4_isOverInSome 0 = .ok (.iconst 0, 1) := by decide +kernel
theorem dX4_isOverInSome_1 : decode cX4_isOverInSome 1 = .ok (.istore_n 3, 1) := by decide +kernel
theorem dX4_isOverInSome_2 : decode cX4_isOverInSome 2 = .ok (.iload_n 3, 1) := by decide +kernel
theorem dX4_isOverInSome_3 : decode cX4_isOverInSome 3 = .ok (.aload_n 0, 1) := by decide +kernel
theorem dX4_isOverInSome_4 : decode cX4_isOverInSome 4 = .ok (.getfield 15, 3) := by decide +kernel
theorem dX4_isOverInSome_7 : decode cX4_isOverInSome 7 = .ok (.if_icmp .ge 31, 3) := by decide +kernel
theorem dX4_isOverInSome_10 : decode cX4_isOverInSome 10 = .ok (.aload_n 0, 1) := by decide +kernel
theorem dX4_isOverInSome_11 : decode cX4_isOverInSome 11 = .ok (.getfield 29, 3) := by decide +kernel
theorem dX4_isOverInSome_14 : decode cX4_isOverInSome 14 = .ok (.iload_n 3, 1) := by decide +kernel
theorem dX4_isOverInSome_15 : decode cX4_isOverInSome 15 = .ok (.iaload, 1) := by decide +kernel
theorem dX4_isOverInSome_16 : decode cX4_isOverInSome 16 = .ok (.iload_n 2, 1) := by decide +kernel
theorem dX4_isOverInSome_17 : decode cX4_isOverInSome 17 = .ok (.iand, 1) := by decide +kernel
theorem dX4_isOverInSome_18 : decode cX4_isOverInSome 18 = .ok (.iload_n 2, 1) := by decide +kernel
theorem dX4_isOverInSome_19 : decode cX4_isOverInSome 19 = .ok (.if_icmp .ne 13, 3) := by decide +kernel
theorem dX4_isOverInSome_22 : decode cX4_isOverInSome 22 = .ok (.aload_n 1, 1) := by decide +kernel
theorem dX4_isOverInSome_23 : decode cX4_isOverInSome 23 = .ok (.iload_n 3, 1) := by decide +kernel
theorem dX4_isOverInSome_24 : decode cX4_isOverInSome 24 = .ok (.invokevirtual 90, 3) := by decide +kernel
theorem dX4_isOverInSome_27 : decode cX4_isOverInSome 27 = .ok (.ifCond .eq 5, 3) := by decide +kernel
theorem dX4_isOverInSome_30 : decode cX4_isOverInSome 30 = .ok (.iconst 1, 1) := by decide +kernel
theorem dX4_isOverInSome_31 : decode cX4_isOverInSome 31 = .ok (.ireturn, 1) := by decide +kernel
theorem dX4_isOverInSome_32 : decode cX4_isOverInSome 32 = .ok (.iinc 3 1, 3) := by decide +kernel
theorem dX4_isOverInSome_35 : decode cX4_isOverInSome 35 = .ok (.goto (-33), 3) := by decide +kernel
theorem dX4_isOverInSome_38 : decode cX4_isOverInSome 38 = .ok (.iconst 0, 1) := by decide +kernel
theorem dX4_isOverInSome_39 : decode cX4_isOverInSome 39 = .ok (.ireturn, 1) := by decide +kernel
theorem dX4_fillGood_0 : decode cX4_fillGood 0 = .ok (.aload_n 0, 1) := by decide +kernel
theorem dX4_fillGood_1 : decode cX4_fillGood 1 = .ok (.getfield 56, 3) := by decide +kernel
theorem dX4_fillGood_4 : decode cX4_fillGood 4 = .ok (.iload_n 3, 1) := by decide +kernel
theorem dX4_fillGood_5 : decode cX4_fillGood 5 = .ok (.aaload, 1) := by decide +kernel
theorem dX4_fillGood_6 : decode cX4_fillGood 6 = .ok (.invokevirtual 116, 3) := by decide +kernel
theorem dX4_fillGood_9 : decode cX4_fillGood 9 = .ok (.iconst 0, 1) := by decide +kernel
theorem dX4_fillGood_10 : decode cX4_fillGood 10 = .ok (.istore 4, 2) := by decide +kernel
theorem dX4_fillGood_12 : decode cX4_fillGood 12 = .ok (.iload 4, 2) := by decide +kernel
theorem dX4_fillGood_14 : decode cX4_fillGood 14 = .ok (.aload_n 0, 1) := by decide +kernel
theorem dX4_fillGood_15 : decode cX4_fillGood 15 = .ok (.getfield 15, 3) := by decide +kernel
theorem dX4_fillGood_18 : decode cX4_fillGood 18 = .ok (.if_icmp .ge 33, 3) := by decide +kernel
theorem dX4_fillGood_21 : decode cX4_fillGood 21 = .ok (.aload_n 0, 1) := by decide +kernel
theorem dX4_fillGood_22 : decode cX4_fillGood 22 = .ok (.getfield 29, 3) := by decide +kernel
theorem dX4_fillGood_25 : decode cX4_fillGood 25 = .ok (.iload 4, 2) := by decide +kernel
theorem dX4_fillGood_27 : decode cX4_fillGood 27 = .ok (.iaload, 1) := by decide +kernel
theorem dX4_fillGood_28 : decode cX4_fillGood 28 = .ok (.iload_n 2, 1) := by decide +kernel
theorem dX4_fillGood_29 : decode cX4_fillGood 29 = .ok (.iand, 1) := by decide +kernel
theorem dX4_fillGood_30 : decode cX4_fillGood 30 = .ok (.iload_n 2, 1) := by decide +kernel
theorem dX4_fillGood_31 : decode cX4_fillGood 31 = .ok (.if_icmp .ne 14, 3) := by decide +kernel
theorem dX4_fillGood_34 : decode cX4_fillGood 34 = .ok (.aload_n 0, 1) := by decide +kernel
theorem dX4_fillGood_35 : decode cX4_fillGood 35 = .ok (.getfield 56, 3) := by decide +kernel
theorem dX4_fillGood_38 : decode cX4_fillGood 38 = .ok (.iload_n 3, 1) := by decide +kernel
theorem dX4_fillGood_39 : decode cX4_fillGood 39 = .ok (.aaload, 1) := by decide +kernel
theorem dX4_fillGood_40 : decode cX4_fillGood 40 = .ok (.iload 4, 2) := by decide +kernel
theorem dX4_fillGood_42 : decode cX4_fillGood 42 = .ok (.invokevirtual 119, 3) := by decide +kernel
theorem dX4_fillGood_45 : decode cX4_fillGood 45 = .ok (.iinc 4 1, 3) := by decide +kernel
theorem dX4_fillGood_48 : decode cX4_fillGood 48 = .ok (.goto (-36), 3) := by decide +kernel
theorem dX4_fillGood_51 : decode cX4_fillGood 51 = .ok (.iload_n 3, 1) := by decide +kernel
theorem dX4_fillGood_52 : decode cX4_fillGood 52 = .ok (.iconst 1, 1) := by decide +kernel
theorem dX4_fillGood_53 : decode cX4_fillGood 53 = .ok (.isub, 1) := by decide +kernel
theorem dX4_fillGood_54 : decode cX4_fillGood 54 = .ok (.istore 4, 2) := by decide +kernel
theorem dX4_fillGood_56 : decode cX4_fillGood 56 = .ok (.iload 4, 2) := by decide +kernel
theorem dX4_fillGood_58 : decode cX4_fillGood 58 = .ok (.ifCond .lt 36, 3) := by decide +kernel
theorem dX4_fillGood_61 : decode cX4_fillGood 61 = .ok (.aload_n 0, 1) := by decide +kernel
theorem dX4_fillGood_62 : decode cX4_fillGood 62 = .ok (.aload_n 0, 1) := by decide +kernel
theorem dX4_fillGood_63 : decode cX4_fillGood 63 = .ok (.getfield 56, 3) := by decide +kernel
theorem dX4_fillGood_66 : decode cX4_fillGood 66 = .ok (.iload 4, 2) := by decide +kernel
theorem dX4_fillGood_68 : decode cX4_fillGood 68 = .ok (.aaload, 1) := by decide +kernel
theorem dX4_fillGood_69 : decode cX4_fillGood 69 = .ok (.aload_n 1, 1) := by decide +kernel
theorem dX4_fillGood_70 : decode cX4_fillGood 70 = .ok (.getfield 79, 3) := by decide +kernel
theorem dX4_fillGood_73 : decode cX4_fillGood 73 = .ok (.iload 4, 2) := by decide +kernel
theorem dX4_fillGood_75 : decode cX4_fillGood 75 = .ok (.iaload, 1) := by decide +kernel
theorem dX4_fillGood_76 : decode cX4_fillGood 76 = .ok (.aload_n 0, 1) := by decide +kernel
theorem dX4_fillGood_77 : decode cX4_fillGood 77 = .ok (.getfield 56, 3) := by decide +kernel
theorem dX4_fillGood_80 : decode cX4_fillGood 80 = .ok (.iload 4, 2) := by decide +kernel
theorem dX4_fillGood_82 : decode cX4_fillGood 82 = .ok (.iconst 1, 1) := by decide +kernel
theorem dX4_fillGood_83 : decode cX4_fillGood 83 = .ok (.iadd, 1) := by decide +kernel
theorem dX4_fillGood_84 : decode cX4_fillGood 84 = .ok (.aaload, 1) := by decide +kernel
theorem dX4_fillGood_85 : decode cX4_fillGood 85 = .ok (.invokevirtual 123, 3) := by decide +kernel
theorem dX4_fillGood_88 : decode cX4_fillGood 88 = .ok (.iinc 4 (-1), 3) := by decide +kernel
theorem dX4_fillGood_91 : decode cX4_fillGood 91 = .ok (.goto (-35), 3) := by decide +kernel
theorem dX4_fillGood_94 : decode cX4_fillGood 94 = .ok (.return_, 1) := by decide +kernel
theorem dX4_fillGoodAhead_0 : decode cX4_fillGoodAhead 0 = .ok (.iload_n 2, 1) := by decide +kernel
theorem dX4_fillGoodAhead_1 : decode cX4_fillGoodAhead 1 = .ok (.ifCond .ne 9, 3) := by decide +kernel
theorem dX4_fillGoodAhead_4 : decode cX4_fillGoodAhead 4 = .ok (.aload_n 1, 1) := by decide +kernel
theorem dX4_fillGoodAhead_5 : decode cX4_fillGoodAhead 5 = .ok (.aload_n 3, 1) := by decide +kernel
theorem dX4_fillGoodAhead_6 : decode cX4_fillGoodAhead 6 = .ok (.invokevirtual 126, 3) := by decide +kernel
theorem dX4_fillGoodAhead_9 : decode cX4_fillGoodAhead 9 = .ok (.return_, 1) := by decide +kernel
theorem dX4_fillGoodAhead_10 : decode cX4_fillGoodAhead 10 = .ok (.aload_n 1, 1) := by decide +kernel
theorem dX4_fillGoodAhead_11 : decode cX4_fillGoodAhead 11 = .ok (.invokevirtual 116, 3) := by decide +kernel
theorem dX4_fillGoodAhead_14 : decode cX4_fillGoodAhead 14 = .ok (.iload_n 2, 1) := by decide +kernel
theorem dX4_fillGoodAhead_15 : decode cX4_fillGoodAhead 15 = .ok (.invokestatic 130, 3) := by decide +kernel
theorem dX4_fillGoodAhead_18 : decode cX4_fillGoodAhead 18 = .ok (.istore 4, 2) := by decide +kernel
theorem dX4_fillGoodAhead_20 : decode cX4_fillGoodAhead 20 = .ok (.iconst 0, 1) := by decide +kernel
theorem dX4_fillGoodAhead_21 : decode cX4_fillGoodAhead 21 = .ok (.istore 5, 2) := by decide +kernel
theorem dX4_fillGoodAhead_23 : decode cX4_fillGoodAhead 23 = .ok (.iload 5, 2) := by decide +kernel
theorem dX4_fillGoodAhead_25 : decode cX4_fillGoodAhead 25 = .ok (.aload_n 0, 1) := by decide +kernel
theorem dX4_fillGoodAhead_26 : decode cX4_fillGoodAhead 26 = .ok (.getfield 15, 3) := by decide +kernel
theorem dX4_fillGoodAhead_29 : decode cX4_fillGoodAhead 29 = .ok (.if_icmp .ge 42, 3) := by decide +kernel
theorem dX4_fillGoodAhead_32 : decode cX4_fillGoodAhead 32 = .ok (.aload_n 3, 1) := by decide +kernel
theorem dX4_fillGoodAhead_33 : decode cX4_fillGoodAhead 33 = .ok (.aload_n 0, 1) := by decide +kernel
theorem dX4_fillGoodAhead_34 : decode cX4_fillGoodAhead 34 = .ok (.getfield 22, 3) := by decide +kernel
theorem dX4_fillGoodAhead_37 : decode cX4_fillGoodAhead 37 = .ok (.iload 4, 2) := by decide +kernel
theorem dX4_fillGoodAhead_39 : decode cX4_fillGoodAhead 39 = .ok (.iload 5, 2) := by decide +kernel
theorem dX4_fillGoodAhead_41 : decode cX4_fillGoodAhead 41 = .ok (.iadd, 1) := by decide +kernel
theorem dX4_fillGoodAhead_42 : decode cX4_fillGoodAhead 42 = .ok (.laload, 1) := by decide +kernel
theorem dX4_fillGoodAhead_43 : decode cX4_fillGoodAhead 43 = .ok (.aload_n 0, 1) := by decide +kernel
theorem dX4_fillGoodAhead_44 : decode cX4_fillGoodAhead 44 = .ok (.getfield 26, 3) := by decide +kernel
theorem dX4_fillGoodAhead_47 : decode cX4_fillGoodAhead 47 = .ok (.iload 4, 2) := by decide +kernel
theorem dX4_fillGoodAhead_49 : decode cX4_fillGoodAhead 49 = .ok (.iload 5, 2) := by decide +kernel
theorem dX4_fillGoodAhead_51 : decode cX4_fillGoodAhead 51 = .ok (.iadd, 1) := by decide +kernel
theorem dX4_fillGoodAhead_52 : decode cX4_fillGoodAhead 52 = .ok (.laload, 1) := by decide +kernel
theorem dX4_fillGoodAhead_53 : decode cX4_fillGoodAhead 53 = .ok (.invokevirtual 112, 3) := by decide +kernel
theorem dX4_fillGoodAhead_56 : decode cX4_fillGoodAhead 56 = .ok (.ifCond .eq 9, 3) := by decide +kernel
theorem dX4_fillGoodAhead_59 : decode cX4_fillGoodAhead 59 = .ok (.aload_n 1, 1) := by decide +kernel
theorem dX4_fillGoodAhead_60 : decode cX4_fillGoodAhead 60 = .ok (.iload 5, 2) := by decide +kernel
theorem dX4_fillGoodAhead_62 : decode cX4_fillGoodAhead 62 = .ok (.invokevirtual 119, 3) := by decide +kernel
theorem dX4_fillGoodAhead_65 : decode cX4_fillGoodAhead 65 = .ok (.iinc 5 1, 3) := by decide +kernel
theorem dX4_fillGoodAhead_68 : decode cX4_fillGoodAhead 68 = .ok (.goto (-45), 3) := by decide +kernel
theorem dX4_fillGoodAhead_71 : decode cX4_fillGoodAhead 71 = .ok (.return_, 1) := by decide +kernel
theorem dX4_advance_0 : decode cX4_advance 0 = .ok (.aload_n 0, 1) := by decide +kernel
theorem dX4_advance_1 : decode cX4_advance 1 = .ok (.getfield 53, 3) := by decide +kernel
theorem dX4_advance_4 : decode cX4_advance 4 = .ok (.invokevirtual 116, 3) := by decide +kernel
theorem dX4_advance_7 : decode cX4_advance 7 = .ok (.aload_n 0, 1) := by decide +kernel
theorem dX4_advance_8 : decode cX4_advance 8 = .ok (.aload_n 1, 1) := by decide +kernel
theorem dX4_advance_9 : decode cX4_advance 9 = .ok (.iload_n 2, 1) := by decide +kernel
theorem dX4_advance_10 : decode cX4_advance 10 = .ok (.aload_n 0, 1) := by decide +kernel
theorem dX4_advance_11 : decode cX4_advance 11 = .ok (.getfield 53, 3) := by decide +kernel
theorem dX4_advance_14 : decode cX4_advance 14 = .ok (.invokevirtual 134, 3) := by decide +kernel
theorem dX4_advance_17 : decode cX4_advance 17 = .ok (.aload_n 1, 1) := by decide +kernel
theorem dX4_advance_18 : decode cX4_advance 18 = .ok (.aload_n 0, 1) := by decide +kernel
theorem dX4_advance_19 : decode cX4_advance 19 = .ok (.getfield 53, 3) := by decide +kernel
theorem dX4_advance_22 : decode cX4_advance 22 = .ok (.invokevirtual 126, 3) := by decide +kernel
theorem dX4_advance_25 : decode cX4_advance 25 = .ok (.return_, 1) := by decide +kernel
theorem dX4_throwHat_0 : decode cX4_throwHat 0 = .ok (.aload_n 3, 1) := by decide +kernel
theorem dX4_throwHat_1 : decode cX4_throwHat 1 = .ok (.invokevirtual 116, 3) := by decide +kernel
theorem dX4_throwHat_4 : decode cX4_throwHat 4 = .ok (.iconst 0, 1) := by decide +kernel
theorem dX4_throwHat_5 : decode cX4_throwHat 5 = .ok (.istore 4, 2) := by decide +kernel
theorem dX4_throwHat_7 : decode cX4_throwHat 7 = .ok (.iload 4, 2) := by decide +kernel
theorem dX4_throwHat_9 : decode cX4_throwHat 9 = .ok (.iconst 3, 1) := by decide +kernel
theorem dX4_throwHat_10 : decode cX4_throwHat 10 = .ok (.if_icmp .ge 23, 3) := by decide +kernel
theorem dX4_throwHat_13 : decode cX4_throwHat 13 = .ok (.iload 4, 2) := by decide +kernel
theorem dX4_throwHat_15 : decode cX4_throwHat 15 = .ok (.iload_n 2, 1) := by decide +kernel
theorem dX4_throwHat_16 : decode cX4_throwHat 16 = .ok (.if_icmp .eq 11, 3) := by decide +kernel
theorem dX4_throwHat_19 : decode cX4_throwHat 19 = .ok (.aload_n 0, 1) := by decide +kernel
theorem dX4_throwHat_20 : decode cX4_throwHat 20 = .ok (.aload_n 1, 1) := by decide +kernel
theorem dX4_throwHat_21 : decode cX4_throwHat 21 = .ok (.iload 4, 2) := by decide +kernel
theorem dX4_throwHat_23 : decode cX4_throwHat 23 = .ok (.aload_n 3, 1) := by decide +kernel
theorem dX4_throwHat_24 : decode cX4_throwHat 24 = .ok (.invokevirtual 134, 3) := by decide +kernel
theorem dX4_throwHat_27 : decode cX4_throwHat 27 = .ok (.iinc 4 1, 3) := by decide +kernel
theorem dX4_throwHat_30 : decode cX4_throwHat 30 = .ok (.goto (-23), 3) := by decide +kernel
theorem dX4_throwHat_33 : decode cX4_throwHat 33 = .ok (.return_, 1) := by decide +kernel
theorem dX4_addAfter_0 : decode cX4_addAfter 0 = .ok (.iload_n 2, 1) := by decide +kernel
theorem dX4_addAfter_1 : decode cX4_addAfter 1 = .ok (.ifCond .ne 16, 3) := by decide +kernel
theorem dX4_addAfter_4 : decode cX4_addAfter 4 = .ok (.aload_n 3, 1) := by decide +kernel
theorem dX4_addAfter_5 : decode cX4_addAfter 5 = .ok (.aload_n 1, 1) := by decide +kernel
theorem dX4_addAfter_6 : decode cX4_addAfter 6 = .ok (.getfield 105, 3) := by decide +kernel
theorem dX4_addAfter_9 : decode cX4_addAfter 9 = .ok (.aload_n 1, 1) := by decide +kernel
theorem dX4_addAfter_10 : decode cX4_addAfter 10 = .ok (.getfield 109, 3) := by decide +kernel
theorem dX4_addAfter_13 : decode cX4_addAfter 13 = .ok (.invokevirtual 137, 3) := by decide +kernel
theorem dX4_addAfter_16 : decode cX4_addAfter 16 = .ok (.return_, 1) := by decide +kernel
theorem dX4_addAfter_17 : decode cX4_addAfter 17 = .ok (.iload_n 2, 1) := by decide +kernel
theorem dX4_addAfter_18 : decode cX4_addAfter 18 = .ok (.invokestatic 130, 3) := by decide +kernel
theorem dX4_addAfter_21 : decode cX4_addAfter 21 = .ok (.istore 4, 2) := by decide +kernel
theorem dX4_addAfter_23 : decode cX4_addAfter 23 = .ok (.iconst 0, 1) := by decide +kernel
theorem dX4_addAfter_24 : decode cX4_addAfter 24 = .ok (.istore 5, 2) := by decide +kernel
theorem dX4_addAfter_26 : decode cX4_addAfter 26 = .ok (.iload 5, 2) := by decide +kernel
theorem dX4_addAfter_28 : decode cX4_addAfter 28 = .ok (.aload_n 0, 1) := by decide +kernel
theorem dX4_addAfter_29 : decode cX4_addAfter 29 = .ok (.getfield 15, 3) := by decide +kernel
theorem dX4_addAfter_32 : decode cX4_addAfter 32 = .ok (.if_icmp .ge 42, 3) := by decide +kernel
theorem dX4_addAfter_35 : decode cX4_addAfter 35 = .ok (.aload_n 1, 1) := by decide +kernel
theorem dX4_addAfter_36 : decode cX4_addAfter 36 = .ok (.iload 5, 2) := by decide +kernel
theorem dX4_addAfter_38 : decode cX4_addAfter 38 = .ok (.invokevirtual 90, 3) := by decide +kernel
theorem dX4_addAfter_41 : decode cX4_addAfter 41 = .ok (.ifCond .eq 27, 3) := by decide +kernel
theorem dX4_addAfter_44 : decode cX4_addAfter 44 = .ok (.aload_n 3, 1) := by decide +kernel
theorem dX4_addAfter_45 : decode cX4_addAfter 45 = .ok (.aload_n 0, 1) := by decide +kernel
theorem dX4_addAfter_46 : decode cX4_addAfter 46 = .ok (.getfield 22, 3) := by decide +kernel
theorem dX4_addAfter_49 : decode cX4_addAfter 49 = .ok (.iload 4, 2) := by decide +kernel
theorem dX4_addAfter_51 : decode cX4_addAfter 51 = .ok (.iload 5, 2) := by decide +kernel
theorem dX4_addAfter_53 : decode cX4_addAfter 53 = .ok (.iadd, 1) := by decide +kernel
theorem dX4_addAfter_54 : decode cX4_addAfter 54 = .ok (.laload, 1) := by decide +kernel
theorem dX4_addAfter_55 : decode cX4_addAfter 55 = .ok (.aload_n 0, 1) := by decide +kernel
theorem dX4_addAfter_56 : decode cX4_addAfter 56 = .ok (.getfield 26, 3) := by decide +kernel
theorem dX4_addAfter_59 : decode cX4_addAfter 59 = .ok (.iload 4, 2) := by decide +kernel
theorem dX4_addAfter_61 : decode cX4_addAfter 61 = .ok (.iload 5, 2) := by decide +kernel
theorem dX4_addAfter_63 : decode cX4_addAfter 63 = .ok (.iadd, 1) := by decide +kernel
theorem dX4_addAfter_64 : decode cX4_addAfter 64 = .ok (.laload, 1) := by decide +kernel
theorem dX4_addAfter_65 : decode cX4_addAfter 65 = .ok (.invokevirtual 137, 3) := by decide +kernel
theorem dX4_addAfter_68 : decode cX4_addAfter 68 = .ok (.iinc 5 1, 3) := by decide +kernel
theorem dX4_addAfter_71 : decode cX4_addAfter 71 = .ok (.goto (-45), 3) := by decide +kernel
theorem dX4_addAfter_74 : decode cX4_addAfter 74 = .ok (.return_, 1) := by decide +kernel
theorem dX4_rowOf_0 : decode cX4_rowOf 0 = .ok (.iload_n 0, 1) := by decide +kernel
theorem dX4_rowOf_1 : decode cX4_rowOf 1 = .ok (.iconst 2, 1) := by decide +kernel
theorem dX4_rowOf_2 : decode cX4_rowOf 2 = .ok (.if_icmp .ne 8, 3) := by decide +kernel
theorem dX4_rowOf_5 : decode cX4_rowOf 5 = .ok (.bipush 125, 2) := by decide +kernel
theorem dX4_rowOf_7 : decode cX4_rowOf 7 = .ok (.goto 4, 3) := by decide +kernel
theorem dX4_rowOf_10 : decode cX4_rowOf 10 = .ok (.iconst 0, 1) := by decide +kernel
theorem dX4_rowOf_11 : decode cX4_rowOf 11 = .ok (.ireturn, 1) := by decide +kernel
theorem dX4_prepare_0 : decode cX4_prepare 0 = .ok (.aload_n 0, 1) := by decide +kernel
theorem dX4_prepare_1 : decode cX4_prepare 1 = .ok (.getfield 9, 3) := by decide +kernel
theorem dX4_prepare_4 : decode cX4_prepare 4 = .ok (.ifCond .ne 4, 3) := by decide +kernel
theorem dX4_prepare_7 : decode cX4_prepare 7 = .ok (.return_, 1) := by decide +kernel
theorem dX4_prepare_8 : decode cX4_prepare 8 = .ok (.aload_n 0, 1) := by decide +kernel
theorem dX4_prepare_9 : decode cX4_prepare 9 = .ok (.iconst 0, 1) := by decide +kernel
theorem dX4_prepare_10 : decode cX4_prepare 10 = .ok (.putfield 9, 3) := by decide +kernel
theorem dX4_prepare_13 : decode cX4_prepare 13 = .ok (.aload_n 0, 1) := by decide +kernel
theorem dX4_prepare_14 : decode cX4_prepare 14 = .ok (.aload_n 1, 1) := by decide +kernel
theorem dX4_prepare_15 : decode cX4_prepare 15 = .ok (.invokevirtual 141, 3) := by decide +kernel
theorem dX4_prepare_18 : decode cX4_prepare 18 = .ok (.putfield 15, 3) := by decide +kernel
theorem dX4_prepare_21 : decode cX4_prepare 21 = .ok (.aload_n 0, 1) := by decide +kernel
theorem dX4_prepare_22 : decode cX4_prepare 22 = .ok (.getfield 42, 3) := by decide +kernel
theorem dX4_prepare_25 : decode cX4_prepare 25 = .ok (.aload_n 1, 1) := by decide +kernel
theorem dX4_prepare_26 : decode cX4_prepare 26 = .ok (.invokevirtual 144, 3) := by decide +kernel
theorem dX4_prepare_29 : decode cX4_prepare 29 = .ok (.aload_n 0, 1) := by decide +kernel
theorem dX4_prepare_30 : decode cX4_prepare 30 = .ok (.aload_n 0, 1) := by decide +kernel
theorem dX4_prepare_31 : decode cX4_prepare 31 = .ok (.getfield 42, 3) := by decide +kernel
theorem dX4_prepare_34 : decode cX4_prepare 34 = .ok (.aload_n 1, 1) := by decide +kernel
theorem dX4_prepare_35 : decode cX4_prepare 35 = .ok (.invokevirtual 147, 3) := by decide +kernel
theorem dX4_prepare_38 : decode cX4_prepare 38 = .ok (.putfield 19, 3) := by decide +kernel
theorem dX4_prepare_41 : decode cX4_prepare 41 = .ok (.iconst 0, 1) := by decide +kernel
theorem dX4_prepare_42 : decode cX4_prepare 42 = .ok (.istore_n 2, 1) := by decide +kernel
theorem dX4_prepare_43 : decode cX4_prepare 43 = .ok (.iload_n 2, 1) := by decide +kernel
theorem dX4_prepare_44 : decode cX4_prepare 44 = .ok (.aload_n 0, 1) := by decide +kernel
theorem dX4_prepare_45 : decode cX4_prepare 45 = .ok (.getfield 15, 3) := by decide +kernel
theorem dX4_prepare_48 : decode cX4_prepare 48 = .ok (.if_icmp .ge 46, 3) := by decide +kernel
theorem dX4_prepare_51 : decode cX4_prepare 51 = .ok (.aload_n 0, 1) := by decide +kernel
theorem dX4_prepare_52 : decode cX4_prepare 52 = .ok (.getfield 42, 3) := by decide +kernel
theorem dX4_prepare_55 : decode cX4_prepare 55 = .ok (.aload_n 1, 1) := by decide +kernel
theorem dX4_prepare_56 : decode cX4_prepare 56 = .ok (.iload_n 2, 1) := by decide +kernel
theorem dX4_prepare_57 : decode cX4_prepare 57 = .ok (.invokevirtual 151, 3) := by decide +kernel
theorem dX4_prepare_60 : decode cX4_prepare 60 = .ok (.aload_n 0, 1) := by decide +kernel
theorem dX4_prepare_61 : decode cX4_prepare 61 = .ok (.getfield 29, 3) := by decide +kernel
theorem dX4_prepare_64 : decode cX4_prepare 64 = .ok (.iload_n 2, 1) := by decide +kernel
theorem dX4_prepare_65 : decode cX4_prepare 65 = .ok (.aload_n 0, 1) := by decide +kernel
theorem dX4_prepare_66 : decode cX4_prepare 66 = .ok (.getfield 42, 3) := by decide +kernel
theorem dX4_prepare_69 : decode cX4_prepare 69 = .ok (.aload_n 1, 1) := by decide +kernel
theorem dX4_prepare_70 : decode cX4_prepare 70 = .ok (.invokevirtual 155, 3) := by decide +kernel
theorem dX4_prepare_73 : decode cX4_prepare 73 = .ok (.iastore, 1) := by decide +kernel
theorem dX4_prepare_74 : decode cX4_prepare 74 = .ok (.aload_n 0, 1) := by decide +kernel
theorem dX4_prepare_75 : decode cX4_prepare 75 = .ok (.aload_n 1, 1) := by decide +kernel
theorem dX4_prepare_76 : decode cX4_prepare 76 = .ok (.iload_n 2, 1) := by decide +kernel
theorem dX4_prepare_77 : decode cX4_prepare 77 = .ok (.iconst 1, 1) := by decide +kernel
theorem dX4_prepare_78 : decode cX4_prepare 78 = .ok (.invokevirtual 158, 3) := by decide +kernel
theorem dX4_prepare_81 : decode cX4_prepare 81 = .ok (.aload_n 0, 1) := by decide +kernel
theorem dX4_prepare_82 : decode cX4_prepare 82 = .ok (.aload_n 1, 1) := by decide +kernel
theorem dX4_prepare_83 : decode cX4_prepare 83 = .ok (.iload_n 2, 1) := by decide +kernel
theorem dX4_prepare_84 : decode cX4_prepare 84 = .ok (.iconst 2, 1) := by decide +kernel
theorem dX4_prepare_85 : decode cX4_prepare 85 = .ok (.invokevirtual 158, 3) := by decide +kernel
theorem dX4_prepare_88 : decode cX4_prepare 88 = .ok (.iinc 2 1, 3) := by decide +kernel
theorem dX4_prepare_91 : decode cX4_prepare 91 = .ok (.goto (-48), 3) := by decide +kernel
theorem dX4_prepare_94 : decode cX4_prepare 94 = .ok (.return_, 1) := by decide +kernel
theorem dX4_fillAfter_0 : decode cX4_fillAfter 0 = .ok (.aload_n 0, 1) := by decide +kernel
theorem dX4_fillAfter_1 : decode cX4_fillAfter 1 = .ok (.aload_n 1, 1) := by decide +kernel
theorem dX4_fillAfter_2 : decode cX4_fillAfter 2 = .ok (.iload_n 3, 1) := by decide +kernel
theorem dX4_fillAfter_3 : decode cX4_fillAfter 3 = .ok (.invokevirtual 161, 3) := by decide +kernel
theorem dX4_fillAfter_6 : decode cX4_fillAfter 6 = .ok (.istore 4, 2) := by decide +kernel
theorem dX4_fillAfter_8 : decode cX4_fillAfter 8 = .ok (.aload_n 0, 1) := by decide +kernel
theorem dX4_fillAfter_9 : decode cX4_fillAfter 9 = .ok (.getfield 53, 3) := by decide +kernel
theorem dX4_fillAfter_12 : decode cX4_fillAfter 12 = .ok (.invokevirtual 116, 3) := by decide +kernel
theorem dX4_fillAfter_15 : decode cX4_fillAfter 15 = .ok (.iconst 0, 1) := by decide +kernel
theorem dX4_fillAfter_16 : decode cX4_fillAfter 16 = .ok (.istore 5, 2) := by decide +kernel
theorem dX4_fillAfter_18 : decode cX4_fillAfter 18 = .ok (.iload 5, 2) := by decide +kernel
theorem dX4_fillAfter_20 : decode cX4_fillAfter 20 = .ok (.iload 4, 2) := by decide +kernel
theorem dX4_fillAfter_22 : decode cX4_fillAfter 22 = .ok (.if_icmp .ge 23, 3) := by decide +kernel
theorem dX4_fillAfter_25 : decode cX4_fillAfter 25 = .ok (.aload_n 0, 1) := by decide +kernel
theorem dX4_fillAfter_26 : decode cX4_fillAfter 26 = .ok (.getfield 53, 3) := by decide +kernel
theorem dX4_fillAfter_29 : decode cX4_fillAfter 29 = .ok (.aload_n 0, 1) := by decide +kernel
theorem dX4_fillAfter_30 : decode cX4_fillAfter 30 = .ok (.getfield 33, 3) := by decide +kernel
theorem dX4_fillAfter_33 : decode cX4_fillAfter 33 = .ok (.iload 5, 2) := by decide +kernel
theorem dX4_fillAfter_35 : decode cX4_fillAfter 35 = .ok (.iaload, 1) := by decide +kernel
theorem dX4_fillAfter_36 : decode cX4_fillAfter 36 = .ok (.invokevirtual 119, 3) := by decide +kernel
theorem dX4_fillAfter_39 : decode cX4_fillAfter 39 = .ok (.iinc 5 1, 3) := by decide +kernel
theorem dX4_fillAfter_42 : decode cX4_fillAfter 42 = .ok (.goto (-24), 3) := by decide +kernel
theorem dX4_fillAfter_45 : decode cX4_fillAfter 45 = .ok (.aload_n 0, 1) := by decide +kernel
theorem dX4_fillAfter_46 : decode cX4_fillAfter 46 = .ok (.getfield 22, 3) := by decide +kernel
theorem dX4_fillAfter_49 : decode cX4_fillAfter 49 = .ok (.iload_n 3, 1) := by decide +kernel
theorem dX4_fillAfter_50 : decode cX4_fillAfter 50 = .ok (.invokestatic 130, 3) := by decide +kernel
theorem dX4_fillAfter_53 : decode cX4_fillAfter 53 = .ok (.iload_n 2, 1) := by decide +kernel
theorem dX4_fillAfter_54 : decode cX4_fillAfter 54 = .ok (.iadd, 1) := by decide +kernel
theorem dX4_fillAfter_55 : decode cX4_fillAfter 55 = .ok (.aload_n 0, 1) := by decide +kernel
theorem dX4_fillAfter_56 : decode cX4_fillAfter 56 = .ok (.getfield 53, 3) := by decide +kernel
theorem dX4_fillAfter_59 : decode cX4_fillAfter 59 = .ok (.getfield 105, 3) := by decide +kernel
theorem dX4_fillAfter_62 : decode cX4_fillAfter 62 = .ok (.lastore, 1) := by decide +kernel
theorem dX4_fillAfter_63 : decode cX4_fillAfter 63 = .ok (.aload_n 0, 1) := by decide +kernel
theorem dX4_fillAfter_64 : decode cX4_fillAfter 64 = .ok (.getfield 26, 3) := by decide +kernel
theorem dX4_fillAfter_67 : decode cX4_fillAfter 67 = .ok (.iload_n 3, 1) := by decide +kernel
theorem dX4_fillAfter_68 : decode cX4_fillAfter 68 = .ok (.invokestatic 130, 3) := by decide +kernel
theorem dX4_fillAfter_71 : decode cX4_fillAfter 71 = .ok (.iload_n 2, 1) := by decide +kernel
theorem dX4_fillAfter_72 : decode cX4_fillAfter 72 = .ok (.iadd, 1) := by decide +kernel
theorem dX4_fillAfter_73 : decode cX4_fillAfter 73 = .ok (.aload_n 0, 1) := by decide +kernel
theorem dX4_fillAfter_74 : decode cX4_fillAfter 74 = .ok (.getfield 53, 3) := by decide +kernel
theorem dX4_fillAfter_77 : decode cX4_fillAfter 77 = .ok (.getfield 109, 3) := by decide +kernel
theorem dX4_fillAfter_80 : decode cX4_fillAfter 80 = .ok (.lastore, 1) := by decide +kernel
theorem dX4_fillAfter_81 : decode cX4_fillAfter 81 = .ok (.return_, 1) := by decide +kernel
theorem dX4_findEnds_0 : decode cX4_findEnds 0 = .ok (.aload_n 0, 1) := by decide +kernel
theorem dX4_findEnds_1 : decode cX4_findEnds 1 = .ok (.getfield 33, 3) := by decide +kernel
theorem dX4_findEnds_4 : decode cX4_findEnds 4 = .ok (.iconst 0, 1) := by decide +kernel
theorem dX4_findEnds_5 : decode cX4_findEnds 5 = .ok (.iconst 0, 1) := by decide +kernel
theorem dX4_findEnds_6 : decode cX4_findEnds 6 = .ok (.iastore, 1) := by decide +kernel
theorem dX4_findEnds_7 : decode cX4_findEnds 7 = .ok (.aload_n 0, 1) := by decide +kernel
theorem dX4_findEnds_8 : decode cX4_findEnds 8 = .ok (.getfield 36, 3) := by decide +kernel
theorem dX4_findEnds_11 : decode cX4_findEnds 11 = .ok (.iconst 0, 1) := by decide +kernel
theorem dX4_findEnds_12 : decode cX4_findEnds 12 = .ok (.iconst 0, 1) := by decide +kernel
theorem dX4_findEnds_13 : decode cX4_findEnds 13 = .ok (.iastore, 1) := by decide +kernel
theorem dX4_findEnds_14 : decode cX4_findEnds 14 = .ok (.iconst 1, 1) := by decide +kernel
theorem dX4_findEnds_15 : decode cX4_findEnds 15 = .ok (.istore_n 3, 1) := by decide +kernel
theorem dX4_findEnds_16 : decode cX4_findEnds 16 = .ok (.iconst 1, 1) := by decide +kernel
theorem dX4_findEnds_17 : decode cX4_findEnds 17 = .ok (.istore 4, 2) := by decide +kernel
theorem dX4_findEnds_19 : decode cX4_findEnds 19 = .ok (.iconst 0, 1) := by decide +kernel
theorem dX4_findEnds_20 : decode cX4_findEnds 20 = .ok (.istore 5, 2) := by decide +kernel
theorem dX4_findEnds_22 : decode cX4_findEnds 22 = .ok (.iload 5, 2) := by decide +kernel
theorem dX4_findEnds_24 : decode cX4_findEnds 24 = .ok (.aload_n 1, 1) := by decide +kernel
theorem dX4_findEnds_25 : decode cX4_findEnds 25 = .ok (.getfield 164, 3) := by decide +kernel
theorem dX4_findEnds_28 : decode cX4_findEnds 28 = .ok (.if_icmp .ge 191, 3) := by decide +kernel
theorem dX4_findEnds_31 : decode cX4_findEnds 31 = .ok (.aload_n 1, 1) := by decide +kernel
theorem dX4_findEnds_32 : decode cX4_findEnds 32 = .ok (.getfield 167, 3) := by decide +kernel
theorem dX4_findEnds_35 : decode cX4_findEnds 35 = .ok (.iload 5, 2) := by decide +kernel
theorem dX4_findEnds_37 : decode cX4_findEnds 37 = .ok (.aaload, 1) := by decide +kernel
theorem dX4_findEnds_38 : decode cX4_findEnds 38 = .ok (.astore 6, 2) := by decide +kernel
theorem dX4_findEnds_40 : decode cX4_findEnds 40 = .ok (.aload_n 0, 1) := by decide +kernel
theorem dX4_findEnds_41 : decode cX4_findEnds 41 = .ok (.getfield 42, 3) := by decide +kernel
theorem dX4_findEnds_44 : decode cX4_findEnds 44 = .ok (.getfield 171, 3) := by decide +kernel
theorem dX4_findEnds_47 : decode cX4_findEnds 47 = .ok (.iload 5, 2) := by decide +kernel
theorem dX4_findEnds_49 : decode cX4_findEnds 49 = .ok (.iaload, 1) := by decide +kernel
theorem dX4_findEnds_50 : decode cX4_findEnds 50 = .ok (.istore 7, 2) := by decide +kernel
theorem dX4_findEnds_52 : decode cX4_findEnds 52 = .ok (.iload 7, 2) := by decide +kernel
theorem dX4_findEnds_54 : decode cX4_findEnds 54 = .ok (.aload_n 1, 1) := by decide +kernel
theorem dX4_findEnds_55 : decode cX4_findEnds 55 = .ok (.aload 6, 2) := by decide +kernel
theorem dX4_findEnds_57 : decode cX4_findEnds 57 = .ok (.invokevirtual 174, 3) := by decide +kernel
theorem dX4_findEnds_60 : decode cX4_findEnds 60 = .ok (.if_icmp .eq 7, 3) := by decide +kernel
theorem dX4_findEnds_63 : decode cX4_findEnds 63 = .ok (.iconst 1, 1) := by decide +kernel
theorem dX4_findEnds_64 : decode cX4_findEnds 64 = .ok (.goto 4, 3) := by decide +kernel
theorem dX4_findEnds_67 : decode cX4_findEnds 67 = .ok (.iconst 0, 1) := by decide +kernel
theorem dX4_findEnds_68 : decode cX4_findEnds 68 = .ok (.istore 8, 2) := by decide +kernel
theorem dX4_findEnds_70 : decode cX4_findEnds 70 = .ok (.aload_n 1, 1) := by decide +kernel
theorem dX4_findEnds_71 : decode cX4_findEnds 71 = .ok (.aload 6, 2) := by decide +kernel
theorem dX4_findEnds_73 : decode cX4_findEnds 73 = .ok (.iload_n 2, 1) := by decide +kernel
theorem dX4_findEnds_74 : decode cX4_findEnds 74 = .ok (.invokevirtual 178, 3) := by decide +kernel
theorem dX4_findEnds_77 : decode cX4_findEnds 77 = .ok (.ifCond .eq 7, 3) := by decide +kernel
theorem dX4_findEnds_80 : decode cX4_findEnds 80 = .ok (.iconst 1, 1) := by decide +kernel
theorem dX4_findEnds_81 : decode cX4_findEnds 81 = .ok (.goto 4, 3) := by decide +kernel
theorem dX4_findEnds_84 : decode cX4_findEnds 84 = .ok (.iconst 0, 1) := by decide +kernel
theorem dX4_findEnds_85 : decode cX4_findEnds 85 = .ok (.istore 9, 2) := by decide +kernel
theorem dX4_findEnds_87 : decode cX4_findEnds 87 = .ok (.iload 4, 2) := by decide +kernel
theorem dX4_findEnds_89 : decode cX4_findEnds 89 = .ok (.aload_n 1, 1) := by decide +kernel
theorem dX4_findEnds_90 : decode cX4_findEnds 90 = .ok (.aload 6, 2) := by decide +kernel
theorem dX4_findEnds_92 : decode cX4_findEnds 92 = .ok (.iload 7, 2) := by decide +kernel
theorem dX4_findEnds_94 : decode cX4_findEnds 94 = .ok (.iload_n 2, 1) := by decide +kernel
theorem dX4_findEnds_95 : decode cX4_findEnds 95 = .ok (.iconst 0, 1) := by decide +kernel
theorem dX4_findEnds_96 : decode cX4_findEnds 96 = .ok (.invokevirtual 182, 3) := by decide +kernel
theorem dX4_findEnds_99 : decode cX4_findEnds 99 = .ok (.imul, 1) := by decide +kernel
theorem dX4_findEnds_100 : decode cX4_findEnds 100 = .ok (.istore 10, 2) := by decide +kernel
theorem dX4_findEnds_102 : decode cX4_findEnds 102 = .ok (.iload 4, 2) := by decide +kernel
theorem dX4_findEnds_104 : decode cX4_findEnds 104 = .ok (.aload_n 1, 1) := by decide +kernel
theorem dX4_findEnds_105 : decode cX4_findEnds 105 = .ok (.aload 6, 2) := by decide +kernel
theorem dX4_findEnds_107 : decode cX4_findEnds 107 = .ok (.iload 7, 2) := by decide +kernel
theorem dX4_findEnds_109 : decode cX4_findEnds 109 = .ok (.iload_n 2, 1) := by decide +kernel
theorem dX4_findEnds_110 : decode cX4_findEnds 110 = .ok (.iconst 1, 1) := by decide +kernel
theorem dX4_findEnds_111 : decode cX4_findEnds 111 = .ok (.invokevirtual 182, 3) := by decide +kernel
theorem dX4_findEnds_114 : decode cX4_findEnds 114 = .ok (.imul, 1) := by decide +kernel
theorem dX4_findEnds_115 : decode cX4_findEnds 115 = .ok (.istore 11, 2) := by decide +kernel
theorem dX4_findEnds_117 : decode cX4_findEnds 117 = .ok (.iload_n 3, 1) := by decide +kernel
theorem dX4_findEnds_118 : decode cX4_findEnds 118 = .ok (.istore 12, 2) := by decide +kernel
theorem dX4_findEnds_120 : decode cX4_findEnds 120 = .ok (.iconst 0, 1) := by decide +kernel
theorem dX4_findEnds_121 : decode cX4_findEnds 121 = .ok (.istore 13, 2) := by decide +kernel
theorem dX4_findEnds_123 : decode cX4_findEnds 123 = .ok (.iload 13, 2) := by decide +kernel
theorem dX4_findEnds_125 : decode cX4_findEnds 125 = .ok (.iload 12, 2) := by decide +kernel
theorem dX4_findEnds_127 : decode cX4_findEnds 127 = .ok (.if_icmp .ge 75, 3) := by decide +kernel
theorem dX4_findEnds_130 : decode cX4_findEnds 130 = .ok (.iload 8, 2) := by decide +kernel
theorem dX4_findEnds_132 : decode cX4_findEnds 132 = .ok (.ifCond .eq 52, 3) := by decide +kernel
theorem dX4_findEnds_135 : decode cX4_findEnds 135 = .ok (.aload_n 0, 1) := by decide +kernel
theorem dX4_findEnds_136 : decode cX4_findEnds 136 = .ok (.getfield 36, 3) := by decide +kernel
theorem dX4_findEnds_139 : decode cX4_findEnds 139 = .ok (.iload 13, 2) := by decide +kernel
theorem dX4_findEnds_141 : decode cX4_findEnds 141 = .ok (.iaload, 1) := by decide +kernel
theorem dX4_findEnds_142 : decode cX4_findEnds 142 = .ok (.iload 9, 2) := by decide +kernel
theorem dX4_findEnds_144 : decode cX4_findEnds 144 = .ok (.iadd, 1) := by decide +kernel
theorem dX4_findEnds_145 : decode cX4_findEnds 145 = .ok (.iconst 1, 1) := by decide +kernel
theorem dX4_findEnds_146 : decode cX4_findEnds 146 = .ok (.if_icmp .gt 38, 3) := by decide +kernel
theorem dX4_findEnds_149 : decode cX4_findEnds 149 = .ok (.aload_n 0, 1) := by decide +kernel
theorem dX4_findEnds_150 : decode cX4_findEnds 150 = .ok (.getfield 33, 3) := by decide +kernel
theorem dX4_findEnds_153 : decode cX4_findEnds 153 = .ok (.iload_n 3, 1) := by decide +kernel
theorem dX4_findEnds_154 : decode cX4_findEnds 154 = .ok (.aload_n 0, 1) := by decide +kernel
theorem dX4_findEnds_155 : decode cX4_findEnds 155 = .ok (.getfield 33, 3) := by decide +kernel
theorem dX4_findEnds_158 : decode cX4_findEnds 158 = .ok (.iload 13, 2) := by decide +kernel
theorem dX4_findEnds_160 : decode cX4_findEnds 160 = .ok (.iaload, 1) := by decide +kernel
theorem dX4_findEnds_161 : decode cX4_findEnds 161 = .ok (.iload 11, 2) := by decide +kernel
theorem dX4_findEnds_163 : decode cX4_findEnds 163 = .ok (.iadd, 1) := by decide +kernel
theorem dX4_findEnds_164 : decode cX4_findEnds 164 = .ok (.iastore, 1) := by decide +kernel
theorem dX4_findEnds_165 : decode cX4_findEnds 165 = .ok (.aload_n 0, 1) := by decide +kernel
theorem dX4_findEnds_166 : decode cX4_findEnds 166 = .ok (.getfield 36, 3) := by decide +kernel
theorem dX4_findEnds_169 : decode cX4_findEnds 169 = .ok (.iload_n 3, 1) := by decide +kernel
theorem dX4_findEnds_170 : decode cX4_findEnds 170 = .ok (.aload_n 0, 1) := by decide +kernel
theorem dX4_findEnds_171 : decode cX4_findEnds 171 = .ok (.getfield 36, 3) := by decide +kernel
theorem dX4_findEnds_174 : decode cX4_findEnds 174 = .ok (.iload 13, 2) := by decide +kernel
theorem dX4_findEnds_176 : decode cX4_findEnds 176 = .ok (.iaload, 1) := by decide +kernel
theorem dX4_findEnds_177 : decode cX4_findEnds 177 = .ok (.iload 9, 2) := by decide +kernel
theorem dX4_findEnds_179 : decode cX4_findEnds 179 = .ok (.iadd, 1) := by decide +kernel
theorem dX4_findEnds_180 : decode cX4_findEnds 180 = .ok (.iastore, 1) := by decide +kernel
theorem dX4_findEnds_181 : decode cX4_findEnds 181 = .ok (.iinc 3 1, 3) := by decide +kernel
theorem dX4_findEnds_184 : decode cX4_findEnds 184 = .ok (.aload_n 0, 1) := by decide +kernel
theorem dX4_findEnds_185 : decode cX4_findEnds 185 = .ok (.getfield 33, 3) := by decide +kernel
theorem dX4_findEnds_188 : decode cX4_findEnds 188 = .ok (.iload 13, 2) := by decide +kernel
theorem dX4_findEnds_190 : decode cX4_findEnds 190 = .ok (.dup2, 1) := by decide +kernel
theorem dX4_findEnds_191 : decode cX4_findEnds 191 = .ok (.iaload, 1) := by decide +kernel
theorem dX4_findEnds_192 : decode cX4_findEnds 192 = .ok (.iload 10, 2) := by decide +kernel
theorem dX4_findEnds_194 : decode cX4_findEnds 194 = .ok (.iadd, 1) := by decide +kernel
theorem dX4_findEnds_195 : decode cX4_findEnds 195 = .ok (.iastore, 1) := by decide +kernel
theorem dX4_findEnds_196 : decode cX4_findEnds 196 = .ok (.iinc 13 1, 3) := by decide +kernel
theorem dX4_findEnds_199 : decode cX4_findEnds 199 = .ok (.goto (-76), 3) := by decide +kernel
theorem dX4_findEnds_202 : decode cX4_findEnds 202 = .ok (.iload 4, 2) := by decide +kernel
theorem dX4_findEnds_204 : decode cX4_findEnds 204 = .ok (.aload_n 1, 1) := by decide +kernel
theorem dX4_findEnds_205 : decode cX4_findEnds 205 = .ok (.getfield 186, 3) := by decide +kernel
theorem dX4_findEnds_208 : decode cX4_findEnds 208 = .ok (.iconst 1, 1) := by decide +kernel
theorem dX4_findEnds_209 : decode cX4_findEnds 209 = .ok (.iadd, 1) := by decide +kernel
theorem dX4_findEnds_210 : decode cX4_findEnds 210 = .ok (.imul, 1) := by decide +kernel
theorem dX4_findEnds_211 : decode cX4_findEnds 211 = .ok (.istore 4, 2) := by decide +kernel
theorem dX4_findEnds_213 : decode cX4_findEnds 213 = .ok (.iinc 5 1, 3) := by decide +kernel
theorem dX4_findEnds_216 : decode cX4_findEnds 216 = .ok (.goto (-194), 3) := by decide +kernel
theorem dX4_findEnds_219 : decode cX4_findEnds 219 = .ok (.iload_n 3, 1) := by decide +kernel
theorem dX4_findEnds_220 : decode cX4_findEnds 220 = .ok (.ireturn, 1) := by decide +kernel
theorem dX5_init_0 : decode cX5_init 0 = .ok (.aload_n 0, 1) := by decide +kernel
theorem dX5_init_1 : decode cX5_init 1 = .ok (.invokespecial 3, 3) := by decide +kernel
theorem dX5_init_4 : decode cX5_init 4 = .ok (.aload_n 0, 1) := by decide +kernel
theorem dX5_init_5 : decode cX5_init 5 = .ok (.iconst (-1), 1) := by decide +kernel
theorem dX5_init_6 : decode cX5_init 6 = .ok (.putfield 11, 3) := by decide +kernel
theorem dX5_init_9 : decode cX5_init 9 = .ok (.aload_n 0, 1) := by decide +kernel
theorem dX5_init_10 : decode cX5_init 10 = .ok (.iconst 0, 1) := by decide +kernel
theorem dX5_init_11 : decode cX5_init 11 = .ok (.putfield 15, 3) := by decide +kernel
theorem dX5_init_14 : decode cX5_init 14 = .ok (.aload_n 0, 1) := by decide +kernel
theorem dX5_init_15 : decode cX5_init 15 = .ok (.bipush 60, 2) := by decide +kernel
theorem dX5_init_17 : decode cX5_init 17 = .ok (.newarray .int, 2) := by decide +kernel
theorem dX5_init_19 : decode cX5_init 19 = .ok (.putfield 18, 3) := by decide +kernel
theorem dX5_init_22 : decode cX5_init 22 = .ok (.return_, 1) := by decide +kernel
theorem dX5_hasRow_0 : decode cX5_hasRow 0 = .ok (.aload_n 0, 1) := by decide +kernel
theorem dX5_hasRow_1 : decode cX5_hasRow 1 = .ok (.getfield 11, 3) := by decide +kernel
theorem dX5_hasRow_4 : decode cX5_hasRow 4 = .ok (.iconst (-1), 1) := by decide +kernel
theorem dX5_hasRow_5 : decode cX5_hasRow 5 = .ok (.if_icmp .eq 7, 3) := by decide +kernel
theorem dX5_hasRow_8 : decode cX5_hasRow 8 = .ok (.iconst 1, 1) := by decide +kernel
theorem dX5_hasRow_9 : decode cX5_hasRow 9 = .ok (.goto 4, 3) := by decide +kernel
theorem dX5_hasRow_12 : decode cX5_hasRow 12 = .ok (.iconst 0, 1) := by decide +kernel
theorem dX5_hasRow_13 : decode cX5_hasRow 13 = .ok (.ireturn, 1) := by decide +kernel
theorem dX5_renew_0 : decode cX5_renew 0 = .ok (.aload_n 0, 1) := by decide +kernel
theorem dX5_renew_1 : decode cX5_renew 1 = .ok (.iload_n 1, 1) := by decide +kernel
theorem dX5_renew_2 : decode cX5_renew 2 = .ok (.putfield 11, 3) := by decide +kernel
theorem dX5_renew_5 : decode cX5_renew 5 = .ok (.aload_n 0, 1) := by decide +kernel
theorem dX5_renew_6 : decode cX5_renew 6 = .ok (.iload_n 2, 1) := by decide +kernel
theorem dX5_renew_7 : decode cX5_renew 7 = .ok (.putfield 15, 3) := by decide +kernel
theorem dX5_renew_10 : decode cX5_renew 10 = .ok (.aload_n 0, 1) := by decide +kernel
theorem dX5_renew_11 : decode cX5_renew 11 = .ok (.getfield 18, 3) := by decide +kernel
theorem dX5_renew_14 : decode cX5_renew 14 = .ok (.iconst 0, 1) := by decide +kernel
theorem dX5_renew_15 : decode cX5_renew 15 = .ok (.invokestatic 22, 3) := by decide +kernel
theorem dX5_renew_18 : decode cX5_renew 18 = .ok (.return_, 1) := by decide +kernel
theorem dX5_faultAs_0 : decode cX5_faultAs 0 = .ok (.aload_n 0, 1) := by decide +kernel
theorem dX5_faultAs_1 : decode cX5_faultAs 1 = .ok (.invokevirtual 28, 3) := by decide +kernel
theorem dX5_faultAs_4 : decode cX5_faultAs 4 = .ok (.ifCond .ne 5, 3) := by decide +kernel
theorem dX5_faultAs_7 : decode cX5_faultAs 7 = .ok (.iconst 1, 1) := by decide +kernel
theorem dX5_faultAs_8 : decode cX5_faultAs 8 = .ok (.ireturn, 1) := by decide +kernel
theorem dX5_faultAs_9 : decode cX5_faultAs 9 = .ok (.aload_n 0, 1) := by decide +kernel
theorem dX5_faultAs_10 : decode cX5_faultAs 10 = .ok (.getfield 11, 3) := by decide +kernel
theorem dX5_faultAs_13 : decode cX5_faultAs 13 = .ok (.iload_n 1, 1) := by decide +kernel
theorem dX5_faultAs_14 : decode cX5_faultAs 14 = .ok (.if_icmp .ne 7, 3) := by decide +kernel
theorem dX5_faultAs_17 : decode cX5_faultAs 17 = .ok (.iconst 0, 1) := by decide +kernel
theorem dX5_faultAs_18 : decode cX5_faultAs 18 = .ok (.goto 4, 3) := by decide +kernel
theorem dX5_faultAs_21 : decode cX5_faultAs 21 = .ok (.iconst 2, 1) := by decide +kernel
theorem dX5_faultAs_22 : decode cX5_faultAs 22 = .ok (.ireturn, 1) := by decide +kernel
theorem dX5_holds_0 : decode cX5_holds 0 = .ok (.iload_n 2, 1) := by decide +kernel
theorem dX5_holds_1 : decode cX5_holds 1 = .ok (.ifCond .lt 29, 3) := by decide +kernel
theorem dX5_holds_4 : decode cX5_holds 4 = .ok (.iload_n 1, 1) := by decide +kernel
theorem dX5_holds_5 : decode cX5_holds 5 = .ok (.ifCond .lt 25, 3) := by decide +kernel
theorem dX5_holds_8 : decode cX5_holds 8 = .ok (.iload_n 1, 1) := by decide +kernel
theorem dX5_holds_9 : decode cX5_holds 9 = .ok (.aload_n 0, 1) := by decide +kernel
theorem dX5_holds_10 : decode cX5_holds 10 = .ok (.getfield 15, 3) := by decide +kernel
theorem dX5_holds_13 : decode cX5_holds 13 = .ok (.if_icmp .gt 17, 3) := by decide +kernel
theorem dX5_holds_16 : decode cX5_holds 16 = .ok (.iload_n 2, 1) := by decide +kernel
theorem dX5_holds_17 : decode cX5_holds 17 = .ok (.aload_n 0, 1) := by decide +kernel
theorem dX5_holds_18 : decode cX5_holds 18 = .ok (.getfield 15, 3) := by decide +kernel
theorem dX5_holds_21 : decode cX5_holds 21 = .ok (.iload_n 1, 1) := by decide +kernel
theorem dX5_holds_22 : decode cX5_holds 22 = .ok (.isub, 1) := by decide +kernel
theorem dX5_holds_23 : decode cX5_holds 23 = .ok (.if_icmp .gt 7, 3) := by decide +kernel
theorem dX5_holds_26 : decode cX5_holds 26 = .ok (.iconst 1, 1) := by decide +kernel
theorem dX5_holds_27 : decode cX5_holds 27 = .ok (.goto 4, 3) := by decide +kernel
theorem dX5_holds_30 : decode cX5_holds 30 = .ok (.iconst 0, 1) := by decide +kernel
theorem dX5_holds_31 : decode cX5_holds 31 = .ok (.ireturn, 1) := by decide +kernel
theorem dX5_cut_0 : decode cX5_cut 0 = .ok (.aload_n 0, 1) := by decide +kernel
theorem dX5_cut_1 : decode cX5_cut 1 = .ok (.getfield 11, 3) := by decide +kernel
theorem dX5_cut_4 : decode cX5_cut 4 = .ok (.lookupswitch 34 #[(0, 28), (1, 31)], 28) := by decide +kernel
theorem dX5_cut_32 : decode cX5_cut 32 = .ok (.iload_n 1, 1) := by decide +kernel
theorem dX5_cut_33 : decode cX5_cut 33 = .ok (.i2b, 1) := by decide +kernel
theorem dX5_cut_34 : decode cX5_cut 34 = .ok (.ireturn, 1) := by decide +kernel
theorem dX5_cut_35 : decode cX5_cut 35 = .ok (.iload_n 1, 1) := by decide +kernel
theorem dX5_cut_36 : decode cX5_cut 36 = .ok (.i2s, 1) := by decide +kernel
theorem dX5_cut_37 : decode cX5_cut 37 = .ok (.ireturn, 1) := by decide +kernel
theorem dX5_cut_38 : decode cX5_cut 38 = .ok (.iload_n 1, 1) := by decide +kernel
theorem dX5_cut_39 : decode cX5_cut 39 = .ok (.ireturn, 1) := by decide +kernel
theorem dX6_init_0 : decode cX6_init 0 = .ok (.aload_n 0, 1) := by decide +kernel
theorem dX6_init_1 : decode cX6_init 1 = .ok (.invokespecial 1, 3) := by decide +kernel
theorem dX6_init_4 : decode cX6_init 4 = .ok (.aload_n 0, 1) := by decide +kernel
theorem dX6_init_5 : decode cX6_init 5 = .ok (.lconst 0, 1) := by decide +kernel
theorem dX6_init_6 : decode cX6_init 6 = .ok (.putfield 7, 3) := by decide +kernel
theorem dX6_init_9 : decode cX6_init 9 = .ok (.aload_n 0, 1) := by decide +kernel
theorem dX6_init_10 : decode cX6_init 10 = .ok (.lconst 0, 1) := by decide +kernel
theorem dX6_init_11 : decode cX6_init 11 = .ok (.putfield 13, 3) := by decide +kernel
theorem dX6_init_14 : decode cX6_init 14 = .ok (.return_, 1) := by decide +kernel
theorem dX6_clear_0 : decode cX6_clear 0 = .ok (.aload_n 0, 1) := by decide +kernel
theorem dX6_clear_1 : decode cX6_clear 1 = .ok (.lconst 0, 1) := by decide +kernel
theorem dX6_clear_2 : decode cX6_clear 2 = .ok (.putfield 7, 3) := by decide +kernel
theorem dX6_clear_5 : decode cX6_clear 5 = .ok (.aload_n 0, 1) := by decide +kernel
theorem dX6_clear_6 : decode cX6_clear 6 = .ok (.lconst 0, 1) := by decide +kernel
theorem dX6_clear_7 : decode cX6_clear 7 = .ok (.putfield 13, 3) := by decide +kernel
theorem dX6_clear_10 : decode cX6_clear 10 = .ok (.return_, 1) := by decide +kernel
theorem dX6_become_0 : decode cX6_become 0 = .ok (.aload_n 0, 1) := by decide +kernel
theorem dX6_become_1 : decode cX6_become 1 = .ok (.aload_n 1, 1) := by decide +kernel
theorem dX6_become_2 : decode cX6_become 2 = .ok (.getfield 7, 3) := by decide +kernel
theorem dX6_become_5 : decode cX6_become 5 = .ok (.putfield 7, 3) := by decide +kernel
theorem dX6_become_8 : decode cX6_become 8 = .ok (.aload_n 0, 1) := by decide +kernel
theorem dX6_become_9 : decode cX6_become 9 = .ok (.aload_n 1, 1) := by decide +kernel
theorem dX6_become_10 : decode cX6_become 10 = .ok (.getfield 13, 3) := by decide +kernel
theorem dX6_become_13 : decode cX6_become 13 = .ok (.putfield 13, 3) := by decide +kernel
theorem dX6_become_16 : decode cX6_become 16 = .ok (.return_, 1) := by decide +kernel
theorem dX6_add_0 : decode cX6_add 0 = .ok (.iload_n 1, 1) := by decide +kernel
theorem dX6_add_1 : decode cX6_add 1 = .ok (.bipush 64, 2) := by decide +kernel
theorem dX6_add_3 : decode cX6_add 3 = .ok (.if_icmp .ge 18, 3) := by decide +kernel
theorem dX6_add_6 : decode cX6_add 6 = .ok (.aload_n 0, 1) := by decide +kernel
theorem dX6_add_7 : decode cX6_add 7 = .ok (.dup, 1) := by decide +kernel
theorem dX6_add_8 : decode cX6_add 8 = .ok (.getfield 7, 3) := by decide +kernel
theorem dX6_add_11 : decode cX6_add 11 = .ok (.lconst 1, 1) := by decide +kernel
theorem dX6_add_12 : decode cX6_add 12 = .ok (.iload_n 1, 1) := by decide +kernel
theorem dX6_add_13 : decode cX6_add 13 = .ok (.lshl, 1) := by decide +kernel
theorem dX6_add_14 : decode cX6_add 14 = .ok (.lor, 1) := by decide +kernel
theorem dX6_add_15 : decode cX6_add 15 = .ok (.putfield 7, 3) := by decide +kernel
theorem dX6_add_18 : decode cX6_add 18 = .ok (.goto 18, 3) := by decide +kernel
theorem dX6_add_21 : decode cX6_add 21 = .ok (.aload_n 0, 1) := by decide +kernel
theorem dX6_add_22 : decode cX6_add 22 = .ok (.dup, 1) := by decide +kernel
theorem dX6_add_23 : decode cX6_add 23 = .ok (.getfield 13, 3) := by decide +kernel
theorem dX6_add_26 : decode cX6_add 26 = .ok (.lconst 1, 1) := by decide +kernel
theorem dX6_add_27 : decode cX6_add 27 = .ok (.iload_n 1, 1) := by decide +kernel
theorem dX6_add_28 : decode cX6_add 28 = .ok (.bipush 64, 2) := by decide +kernel
theorem dX6_add_30 : decode cX6_add 30 = .ok (.isub, 1) := by decide +kernel
theorem dX6_add_31 : decode cX6_add 31 = .ok (.lshl, 1) := by decide +kernel
theorem dX6_add_32 : decode cX6_add 32 = .ok (.lor, 1) := by decide +kernel
theorem dX6_add_33 : decode cX6_add 33 = .ok (.putfield 13, 3) := by decide +kernel
theorem dX6_add_36 : decode cX6_add 36 = .ok (.return_, 1) := by decide +kernel
theorem dX6_addAll_0 : decode cX6_addAll 0 = .ok (.aload_n 0, 1) := by decide +kernel
theorem dX6_addAll_1 : decode cX6_addAll 1 = .ok (.dup, 1) := by decide +kernel
theorem dX6_addAll_2 : decode cX6_addAll 2 = .ok (.getfield 7, 3) := by decide +kernel
theorem dX6_addAll_5 : decode cX6_addAll 5 = .ok (.lload_n 1, 1) := by decide +kernel
theorem dX6_addAll_6 : decode cX6_addAll 6 = .ok (.lor, 1) := by decide +kernel
theorem dX6_addAll_7 : decode cX6_addAll 7 = .ok (.putfield 7, 3) := by decide +kernel
theorem dX6_addAll_10 : decode cX6_addAll 10 = .ok (.aload_n 0, 1) := by decide +kernel
theorem dX6_addAll_11 : decode cX6_addAll 11 = .ok (.dup, 1) := by decide +kernel
theorem dX6_addAll_12 : decode cX6_addAll 12 = .ok (.getfield 13, 3) := by decide +kernel
theorem dX6_addAll_15 : decode cX6_addAll 15 = .ok (.lload_n 3, 1) := by decide +kernel
theorem dX6_addAll_16 : decode cX6_addAll 16 = .ok (.lor, 1) := by decide +kernel
theorem dX6_addAll_17 : decode cX6_addAll 17 = .ok (.putfield 13, 3) := by decide +kernel
theorem dX6_addAll_20 : decode cX6_addAll 20 = .ok (.return_, 1) := by decide +kernel
theorem dX6_has_0 : decode cX6_has 0 = .ok (.iload_n 1, 1) := by decide +kernel
theorem dX6_has_1 : decode cX6_has 1 = .ok (.bipush 64, 2) := by decide +kernel
theorem dX6_has_3 : decode cX6_has 3 = .ok (.if_icmp .ge 12, 3) := by decide +kernel
theorem dX6_has_6 : decode cX6_has 6 = .ok (.aload_n 0, 1) := by decide +kernel
theorem dX6_has_7 : decode cX6_has 7 = .ok (.getfield 7, 3) := by decide +kernel
theorem dX6_has_10 : decode cX6_has 10 = .ok (.iload_n 1, 1) := by decide +kernel
theorem dX6_has_11 : decode cX6_has 11 = .ok (.lushr, 1) := by decide +kernel
theorem dX6_has_12 : decode cX6_has 12 = .ok (.goto 12, 3) := by decide +kernel
theorem dX6_has_15 : decode cX6_has 15 = .ok (.aload_n 0, 1) := by decide +kernel
theorem dX6_has_16 : decode cX6_has 16 = .ok (.getfield 13, 3) := by decide +kernel
theorem dX6_has_19 : decode cX6_has 19 = .ok (.iload_n 1, 1) := by decide +kernel
theorem dX6_has_20 : decode cX6_has 20 = .ok (.bipush 64, 2) := by decide +kernel
theorem dX6_has_22 : decode cX6_has 22 = .ok (.isub, 1) := by decide +kernel
theorem dX6_has_23 : decode cX6_has 23 = .ok (.lushr, 1) := by decide +kernel
theorem dX6_has_24 : decode cX6_has 24 = .ok (.lconst 1, 1) := by decide +kernel
theorem dX6_has_25 : decode cX6_has 25 = .ok (.land, 1) := by decide +kernel
theorem dX6_has_26 : decode cX6_has 26 = .ok (.lconst 1, 1) := by decide +kernel
theorem dX6_has_27 : decode cX6_has 27 = .ok (.lcmp, 1) := by decide +kernel
theorem dX6_has_28 : decode cX6_has 28 = .ok (.ifCond .ne 7, 3) := by decide +kernel
theorem dX6_has_31 : decode cX6_has 31 = .ok (.iconst 1, 1) := by decide +kernel
theorem dX6_has_32 : decode cX6_has 32 = .ok (.goto 4, 3) := by decide +kernel
theorem dX6_has_35 : decode cX6_has 35 = .ok (.iconst 0, 1) := by decide +kernel
theorem dX6_has_36 : decode cX6_has 36 = .ok (.ireturn, 1) := by decide +kernel
theorem dX6_meets_0 : decode cX6_meets 0 = .ok (.aload_n 0, 1) := by decide +kernel
theorem dX6_meets_1 : decode cX6_meets 1 = .ok (.getfield 7, 3) := by decide +kernel
theorem dX6_meets_4 : decode cX6_meets 4 = .ok (.lload_n 1, 1) := by decide +kernel
theorem dX6_meets_5 : decode cX6_meets 5 = .ok (.land, 1) := by decide +kernel
theorem dX6_meets_6 : decode cX6_meets 6 = .ok (.aload_n 0, 1) := by decide +kernel
theorem dX6_meets_7 : decode cX6_meets 7 = .ok (.getfield 13, 3) := by decide +kernel
theorem dX6_meets_10 : decode cX6_meets 10 = .ok (.lload_n 3, 1) := by decide +kernel
theorem dX6_meets_11 : decode cX6_meets 11 = .ok (.land, 1) := by decide +kernel
theorem dX6_meets_12 : decode cX6_meets 12 = .ok (.lor, 1) := by decide +kernel
theorem dX6_meets_13 : decode cX6_meets 13 = .ok (.lconst 0, 1) := by decide +kernel
theorem dX6_meets_14 : decode cX6_meets 14 = .ok (.lcmp, 1) := by decide +kernel
theorem dX6_meets_15 : decode cX6_meets 15 = .ok (.ifCond .eq 7, 3) := by decide +kernel
theorem dX6_meets_18 : decode cX6_meets 18 = .ok (.iconst 1, 1) := by decide +kernel
theorem dX6_meets_19 : decode cX6_meets 19 = .ok (.goto 4, 3) := by decide +kernel
theorem dX6_meets_22 : decode cX6_meets 22 = .ok (.iconst 0, 1) := by decide +kernel
theorem dX6_meets_23 : decode cX6_meets 23 = .ok (.ireturn, 1) := by decide +kernel
theorem dX7_init_0 : decode cX7_init 0 = .ok (.aload_n 0, 1) := by decide +kernel
theorem dX7_init_1 : decode cX7_init 1 = .ok (.invokespecial 3, 3) := by decide +kernel
theorem dX7_init_4 : decode cX7_init 4 = .ok (.aload_n 0, 1) := by decide +kernel
theorem dX7_init_5 : decode cX7_init 5 = .ok (.iconst 0, 1) := by decide +kernel
theorem dX7_init_6 : decode cX7_init 6 = .ok (.putfield 9, 3) := by decide +kernel
theorem dX7_init_9 : decode cX7_init 9 = .ok (.aload_n 0, 1) := by decide +kernel
theorem dX7_init_10 : decode cX7_init 10 = .ok (.iconst 0, 1) := by decide +kernel
theorem dX7_init_11 : decode cX7_init 11 = .ok (.newarray .int, 2) := by decide +kernel
theorem dX7_init_13 : decode cX7_init 13 = .ok (.putfield 15, 3) := by decide +kernel
theorem dX7_init_16 : decode cX7_init 16 = .ok (.aload_n 0, 1) := by decide +kernel
theorem dX7_init_17 : decode cX7_init 17 = .ok (.iconst 0, 1) := by decide +kernel
theorem dX7_init_18 : decode cX7_init 18 = .ok (.putfield 19, 3) := by decide +kernel
theorem dX7_init_21 : decode cX7_init 21 = .ok (.aload_n 0, 1) := by decide +kernel
theorem dX7_init_22 : decode cX7_init 22 = .ok (.iconst 0, 1) := by decide +kernel
theorem dX7_init_23 : decode cX7_init 23 = .ok (.putfield 22, 3) := by decide +kernel
theorem dX7_init_26 : decode cX7_init 26 = .ok (.return_, 1) := by decide +kernel
theorem dX7_begin_0 : decode cX7_begin 0 = .ok (.aload_n 0, 1) := by decide +kernel
theorem dX7_begin_1 : decode cX7_begin 1 = .ok (.aload_n 1, 1) := by decide +kernel
theorem dX7_begin_2 : decode cX7_begin 2 = .ok (.putfield 15, 3) := by decide +kernel
theorem dX7_begin_5 : decode cX7_begin 5 = .ok (.aload_n 0, 1) := by decide +kernel
theorem dX7_begin_6 : decode cX7_begin 6 = .ok (.iload_n 2, 1) := by decide +kernel
theorem dX7_begin_7 : decode cX7_begin 7 = .ok (.putfield 19, 3) := by decide +kernel
theorem dX7_begin_10 : decode cX7_begin 10 = .ok (.aload_n 0, 1) := by decide +kernel
theorem dX7_begin_11 : decode cX7_begin 11 = .ok (.iconst 0, 1) := by decide +kernel
theorem dX7_begin_12 : decode cX7_begin 12 = .ok (.putfield 9, 3) := by decide +kernel
theorem dX7_begin_15 : decode cX7_begin 15 = .ok (.aload_n 0, 1) := by decide +kernel
theorem dX7_begin_16 : decode cX7_begin 16 = .ok (.iload_n 3, 1) := by decide +kernel
theorem dX7_begin_17 : decode cX7_begin 17 = .ok (.putfield 22, 3) := by decide +kernel
theorem dX7_begin_20 : decode cX7_begin 20 = .ok (.return_, 1) := by decide +kernel
theorem dX7_readWater_0 : decode cX7_readWater 0 = .ok (.aload_n 0, 1) := by decide +kernel
theorem dX7_readWater_1 : decode cX7_readWater 1 = .ok (.bipush 119, 2) := by decide +kernel
theorem dX7_readWater_3 : decode cX7_readWater 3 = .ok (.invokevirtual 25, 3) := by decide +kernel
theorem dX7_readWater_6 : decode cX7_readWater 6 = .ok (.ifCond .ne 5, 3) := by decide +kernel
theorem dX7_readWater_9 : decode cX7_readWater 9 = .ok (.iconst 0, 1) := by decide +kernel
theorem dX7_readWater_10 : decode cX7_readWater 10 = .ok (.ireturn, 1) := by decide +kernel
theorem dX7_readWater_11 : decode cX7_readWater 11 = .ok (.aload_n 0, 1) := by decide +kernel
theorem dX7_readWater_12 : decode cX7_readWater 12 = .ok (.iconst 2, 1) := by decide +kernel
theorem dX7_readWater_13 : decode cX7_readWater 13 = .ok (.iconst 4, 1) := by decide +kernel
theorem dX7_readWater_14 : decode cX7_readWater 14 = .ok (.invokevirtual 29, 3) := by decide +kernel
theorem dX7_readWater_17 : decode cX7_readWater 17 = .ok (.istore_n 2, 1) := by decide +kernel
theorem dX7_readWater_18 : decode cX7_readWater 18 = .ok (.iload_n 2, 1) := by decide +kernel
theorem dX7_readWater_19 : decode cX7_readWater 19 = .ok (.ifCond .ge 5, 3) := by decide +kernel
theorem dX7_readWater_22 : decode cX7_readWater 22 = .ok (.iconst 0, 1) := by decide +kernel
theorem dX7_readWater_23 : decode cX7_readWater 23 = .ok (.ireturn, 1) := by decide +kernel
theorem dX7_readWater_24 : decode cX7_readWater 24 = .ok (.aload_n 1, 1) := by decide +kernel
theorem dX7_readWater_25 : decode cX7_readWater 25 = .ok (.iload_n 2, 1) := by decide +kernel
theorem dX7_readWater_26 : decode cX7_readWater 26 = .ok (.putfield 33, 3) := by decide +kernel
theorem dX7_readWater_29 : decode cX7_readWater 29 = .ok (.iconst 1, 1) := by decide +kernel
theorem dX7_readWater_30 : decode cX7_readWater 30 = .ok (.istore_n 3, 1) := by decide +kernel
theorem dX7_readWater_31 : decode cX7_readWater 31 = .ok (.iload_n 3, 1) := by decide +kernel
theorem dX7_readWater_32 : decode cX7_readWater 32 = .ok (.iload_n 2, 1) := by decide +kernel
theorem dX7_readWater_33 : decode cX7_readWater 33 = .ok (.if_icmp .ge 37, 3) := by decide +kernel
theorem dX7_readWater_36 : decode cX7_readWater 36 = .ok (.aload_n 0, 1) := by decide +kernel
theorem dX7_readWater_37 : decode cX7_readWater 37 = .ok (.iconst 0, 1) := by decide +kernel
theorem dX7_readWater_38 : decode cX7_readWater 38 = .ok (.iconst 1, 1) := by decide +kernel
theorem dX7_readWater_39 : decode cX7_readWater 39 = .ok (.invokevirtual 29, 3) := by decide +kernel
theorem dX7_readWater_42 : decode cX7_readWater 42 = .ok (.istore 4, 2) := by decide +kernel
theorem dX7_readWater_44 : decode cX7_readWater 44 = .ok (.iload 4, 2) := by decide +kernel
theorem dX7_readWater_46 : decode cX7_readWater 46 = .ok (.ifCond .ge 5, 3) := by decide +kernel
theorem dX7_readWater_49 : decode cX7_readWater 49 = .ok (.iconst 0, 1) := by decide +kernel
theorem dX7_readWater_50 : decode cX7_readWater 50 = .ok (.ireturn, 1) := by decide +kernel
theorem dX7_readWater_51 : decode cX7_readWater 51 = .ok (.aload_n 1, 1) := by decide +kernel
theorem dX7_readWater_52 : decode cX7_readWater 52 = .ok (.dup, 1) := by decide +kernel
theorem dX7_readWater_53 : decode cX7_readWater 53 = .ok (.getfield 38, 3) := by decide +kernel
theorem dX7_readWater_56 : decode cX7_readWater 56 = .ok (.iload 4, 2) := by decide +kernel
theorem dX7_readWater_58 : decode cX7_readWater 58 = .ok (.iload_n 3, 1) := by decide +kernel
theorem dX7_readWater_59 : decode cX7_readWater 59 = .ok (.ishl, 1) := by decide +kernel
theorem dX7_readWater_60 : decode cX7_readWater 60 = .ok (.ior, 1) := by decide +kernel
theorem dX7_readWater_61 : decode cX7_readWater 61 = .ok (.putfield 38, 3) := by decide +kernel
theorem dX7_readWater_64 : decode cX7_readWater 64 = .ok (.iinc 3 1, 3) := by decide +kernel
theorem dX7_readWater_67 : decode cX7_readWater 67 = .ok (.goto (-36), 3) := by decide +kernel
theorem dX7_readWater_70 : decode cX7_readWater 70 = .ok (.aload_n 0, 1) := by decide +kernel
theorem dX7_readWater_71 : decode cX7_readWater 71 = .ok (.bipush 59, 2) := by decide +kernel
theorem dX7_readWater_73 : decode cX7_readWater 73 = .ok (.invokevirtual 25, 3) := by decide +kernel
theorem dX7_readWater_76 : decode cX7_readWater 76 = .ok (.ireturn, 1) := by decide +kernel
theorem dX7_readWinds_0 : decode cX7_readWinds 0 = .ok (.iconst 0, 1) := by decide +kernel
theorem dX7_readWinds_1 : decode cX7_readWinds 1 = .ok (.istore_n 2, 1) := by decide +kernel
theorem dX7_readWinds_2 : decode cX7_readWinds 2 = .ok (.iload_n 2, 1) := by decide +kernel
theorem dX7_readWinds_3 : decode cX7_readWinds 3 = .ok (.bipush 10, 2) := by decide +kernel
theorem dX7_readWinds_5 : decode cX7_readWinds 5 = .ok (.if_icmp .ge 42, 3) := by decide +kernel
theorem dX7_readWinds_8 : decode cX7_readWinds 8 = .ok (.aload_n 0, 1) := by decide +kernel
theorem dX7_readWinds_9 : decode cX7_readWinds 9 = .ok (.invokevirtual 41, 3) := by decide +kernel
theorem dX7_readWinds_12 : decode cX7_readWinds 12 = .ok (.istore_n 3, 1) := by decide +kernel
theorem dX7_readWinds_13 : decode cX7_readWinds 13 = .ok (.iload_n 3, 1) := by decide +kernel
theorem dX7_readWinds_14 : decode cX7_readWinds 14 = .ok (.ifCond .ge 13, 3) := by decide +kernel
theorem dX7_readWinds_17 : decode cX7_readWinds 17 = .ok (.iload_n 2, 1) := by decide +kernel
theorem dX7_readWinds_18 : decode cX7_readWinds 18 = .ok (.ifCond .le 7, 3) := by decide +kernel
theorem dX7_readWinds_21 : decode cX7_readWinds 21 = .ok (.iconst 1, 1) := by decide +kernel
theorem dX7_readWinds_22 : decode cX7_readWinds 22 = .ok (.goto 4, 3) := by decide +kernel
theorem dX7_readWinds_25 : decode cX7_readWinds 25 = .ok (.iconst 0, 1) := by decide +kernel
theorem dX7_readWinds_26 : decode cX7_readWinds 26 = .ok (.ireturn, 1) := by decide +kernel
theorem dX7_readWinds_27 : decode cX7_readWinds 27 = .ok (.aload_n 1, 1) := by decide +kernel
theorem dX7_readWinds_28 : decode cX7_readWinds 28 = .ok (.getfield 45, 3) := by decide +kernel
theorem dX7_readWinds_31 : decode cX7_readWinds 31 = .ok (.iload_n 2, 1) := by decide +kernel
theorem dX7_readWinds_32 : decode cX7_readWinds 32 = .ok (.iload_n 3, 1) := by decide +kernel
theorem dX7_readWinds_33 : decode cX7_readWinds 33 = .ok (.iastore, 1) := by decide +kernel
theorem dX7_readWinds_34 : decode cX7_readWinds 34 = .ok (.aload_n 1, 1) := by decide +kernel
theorem dX7_readWinds_35 : decode cX7_readWinds 35 = .ok (.iload_n 2, 1) := by decide +kernel
theorem dX7_readWinds_36 : decode cX7_readWinds 36 = .ok (.iconst 1, 1) := by decide +kernel
theorem dX7_readWinds_37 : decode cX7_readWinds 37 = .ok (.iadd, 1) := by decide +kernel
theorem dX7_readWinds_38 : decode cX7_readWinds 38 = .ok (.putfield 48, 3) := by decide +kernel
theorem dX7_readWinds_41 : decode cX7_readWinds 41 = .ok (.iinc 2 1, 3) := by decide +kernel
theorem dX7_readWinds_44 : decode cX7_readWinds 44 = .ok (.goto (-42), 3) := by decide +kernel
theorem dX7_readWinds_47 : decode cX7_readWinds 47 = .ok (.iconst 1, 1) := by decide +kernel
theorem dX7_readWinds_48 : decode cX7_readWinds 48 = .ok (.ireturn, 1) := by decide +kernel
theorem dX7_readBoats_0 : decode cX7_readBoats 0 = .ok (.iconst 0, 1) := by decide +kernel
theorem dX7_readBoats_1 : decode cX7_readBoats 1 = .ok (.istore_n 2, 1) := by decide +kernel
theorem dX7_readBoats_2 : decode cX7_readBoats 2 = .ok (.iload_n 2, 1) := by decide +kernel
theorem dX7_readBoats_3 : decode cX7_readBoats 3 = .ok (.iconst 3, 1) := by decide +kernel
theorem dX7_readBoats_4 : decode cX7_readBoats 4 = .ok (.if_icmp .ge 44, 3) := by decide +kernel
theorem dX7_readBoats_7 : decode cX7_readBoats 7 = .ok (.iload_n 2, 1) := by decide +kernel
theorem dX7_readBoats_8 : decode cX7_readBoats 8 = .ok (.ifCond .le 16, 3) := by decide +kernel
theorem dX7_readBoats_11 : decode cX7_readBoats 11 = .ok (.aload_n 0, 1) := by decide +kernel
theorem dX7_readBoats_12 : decode cX7_readBoats 12 = .ok (.getfield 9, 3) := by decide +kernel
theorem dX7_readBoats_15 : decode cX7_readBoats 15 = .ok (.aload_n 0, 1) := by decide +kernel
theorem dX7_readBoats_16 : decode cX7_readBoats 16 = .ok (.getfield 22, 3) := by decide +kernel
theorem dX7_readBoats_19 : decode cX7_readBoats 19 = .ok (.if_icmp .ne 5, 3) := by decide +kernel
theorem dX7_readBoats_22 : decode cX7_readBoats 22 = .ok (.iconst 1, 1) := by decide +kernel
theorem dX7_readBoats_23 : decode cX7_readBoats 23 = .ok (.ireturn, 1) := by decide +kernel
theorem dX7_readBoats_24 : decode cX7_readBoats 24 = .ok (.aload_n 0, 1) := by decide +kernel
theorem dX7_readBoats_25 : decode cX7_readBoats 25 = .ok (.aload_n 1, 1) := by decide +kernel
theorem dX7_readBoats_26 : decode cX7_readBoats 26 = .ok (.iload_n 2, 1) := by decide +kernel
theorem dX7_readBoats_27 : decode cX7_readBoats 27 = .ok (.invokevirtual 51, 3) := by decide +kernel
theorem dX7_readBoats_30 : decode cX7_readBoats 30 = .ok (.ifCond .ne 5, 3) := by decide +kernel
theorem dX7_readBoats_33 : decode cX7_readBoats 33 = .ok (.iconst 0, 1) := by decide +kernel
theorem dX7_readBoats_34 : decode cX7_readBoats 34 = .ok (.ireturn, 1) := by decide +kernel
theorem dX7_readBoats_35 : decode cX7_readBoats 35 = .ok (.aload_n 1, 1) := by decide +kernel
theorem dX7_readBoats_36 : decode cX7_readBoats 36 = .ok (.iload_n 2, 1) := by decide +kernel
theorem dX7_readBoats_37 : decode cX7_readBoats 37 = .ok (.iconst 1, 1) := by decide +kernel
theorem dX7_readBoats_38 : decode cX7_readBoats 38 = .ok (.iadd, 1) := by decide +kernel
theorem dX7_readBoats_39 : decode cX7_readBoats 39 = .ok (.putfield 55, 3) := by decide +kernel
theorem dX7_readBoats_42 : decode cX7_readBoats 42 = .ok (.iinc 2 1, 3) := by decide +kernel
theorem dX7_readBoats_45 : decode cX7_readBoats 45 = .ok (.goto (-43), 3) := by decide +kernel
theorem dX7_readBoats_48 : decode cX7_readBoats 48 = .ok (.aload_n 0, 1) := by decide +kernel
theorem dX7_readBoats_49 : decode cX7_readBoats 49 = .ok (.getfield 9, 3) := by decide +kernel
theorem dX7_readBoats_52 : decode cX7_readBoats 52 = .ok (.aload_n 0, 1) := by decide +kernel
theorem dX7_readBoats_53 : decode cX7_readBoats 53 = .ok (.getfield 22, 3) := by decide +kernel
theorem dX7_readBoats_56 : decode cX7_readBoats 56 = .ok (.if_icmp .ne 7, 3) := by decide +kernel
theorem dX7_readBoats_59 : decode cX7_readBoats 59 = .ok (.iconst 1, 1) := by decide +kernel
theorem dX7_readBoats_60 : decode cX7_readBoats 60 = .ok (.goto 4, 3) := by decide +kernel
theorem dX7_readBoats_63 : decode cX7_readBoats 63 = .ok (.iconst 0, 1) := by decide +kernel
theorem dX7_readBoats_64 : decode cX7_readBoats 64 = .ok (.ireturn, 1) := by decide +kernel
theorem dX7_readBoat_0 : decode cX7_readBoat 0 = .ok (.aload_n 0, 1) := by decide +kernel
theorem dX7_readBoat_1 : decode cX7_readBoat 1 = .ok (.bipush 44, 2) := by decide +kernel
theorem dX7_readBoat_3 : decode cX7_readBoat 3 = .ok (.invokevirtual 25, 3) := by decide +kernel
theorem dX7_readBoat_6 : decode cX7_readBoat 6 = .ok (.ifCond .ne 5, 3) := by decide +kernel
theorem dX7_readBoat_9 : decode cX7_readBoat 9 = .ok (.iconst 0, 1) := by decide +kernel
theorem dX7_readBoat_10 : decode cX7_readBoat 10 = .ok (.ireturn, 1) := by decide +kernel
theorem dX7_readBoat_11 : decode cX7_readBoat 11 = .ok (.aload_n 0, 1) := by decide +kernel
theorem dX7_readBoat_12 : decode cX7_readBoat 12 = .ok (.invokevirtual 58, 3) := by decide +kernel
theorem dX7_readBoat_15 : decode cX7_readBoat 15 = .ok (.istore_n 3, 1) := by decide +kernel
theorem dX7_readBoat_16 : decode cX7_readBoat 16 = .ok (.iload_n 3, 1) := by decide +kernel
theorem dX7_readBoat_17 : decode cX7_readBoat 17 = .ok (.ifCond .ge 5, 3) := by decide +kernel
theorem dX7_readBoat_20 : decode cX7_readBoat 20 = .ok (.iconst 0, 1) := by decide +kernel
theorem dX7_readBoat_21 : decode cX7_readBoat 21 = .ok (.ireturn, 1) := by decide +kernel
theorem dX7_readBoat_22 : decode cX7_readBoat 22 = .ok (.aload_n 0, 1) := by decide +kernel
theorem dX7_readBoat_23 : decode cX7_readBoat 23 = .ok (.iconst 0, 1) := by decide +kernel
theorem dX7_readBoat_24 : decode cX7_readBoat 24 = .ok (.iconst 1, 1) := by decide +kernel
theorem dX7_readBoat_25 : decode cX7_readBoat 25 = .ok (.invokevirtual 29, 3) := by decide +kernel
theorem dX7_readBoat_28 : decode cX7_readBoat 28 = .ok (.istore 4, 2) := by decide +kernel
theorem dX7_readBoat_30 : decode cX7_readBoat 30 = .ok (.iload 4, 2) := by decide +kernel
theorem dX7_readBoat_32 : decode cX7_readBoat 32 = .ok (.ifCond .ge 5, 3) := by decide +kernel
theorem dX7_readBoat_35 : decode cX7_readBoat 35 = .ok (.iconst 0, 1) := by decide +kernel
theorem dX7_readBoat_36 : decode cX7_readBoat 36 = .ok (.ireturn, 1) := by decide +kernel
theorem dX7_readBoat_37 : decode cX7_readBoat 37 = .ok (.aload_n 0, 1) := by decide +kernel
theorem dX7_readBoat_38 : decode cX7_readBoat 38 = .ok (.iconst 1, 1) := by decide +kernel
theorem dX7_readBoat_39 : decode cX7_readBoat 39 = .ok (.iconst 3, 1) := by decide +kernel
theorem dX7_readBoat_40 : decode cX7_readBoat 40 = .ok (.invokevirtual 29, 3) := by decide +kernel
theorem dX7_readBoat_43 : decode cX7_readBoat 43 = .ok (.istore 5, 2) := by decide +kernel
theorem dX7_readBoat_45 : decode cX7_readBoat 45 = .ok (.iload 5, 2) := by decide +kernel
theorem dX7_readBoat_47 : decode cX7_readBoat 47 = .ok (.ifCond .ge 5, 3) := by decide +kernel
theorem dX7_readBoat_50 : decode cX7_readBoat 50 = .ok (.iconst 0, 1) := by decide +kernel
theorem dX7_readBoat_51 : decode cX7_readBoat 51 = .ok (.ireturn, 1) := by decide +kernel
theorem dX7_readBoat_52 : decode cX7_readBoat 52 = .ok (.aload_n 1, 1) := by decide +kernel
theorem dX7_readBoat_53 : decode cX7_readBoat 53 = .ok (.getfield 61, 3) := by decide +kernel
theorem dX7_readBoat_56 : decode cX7_readBoat 56 = .ok (.iload_n 2, 1) := by decide +kernel
theorem dX7_readBoat_57 : decode cX7_readBoat 57 = .ok (.iload_n 3, 1) := by decide +kernel
theorem dX7_readBoat_58 : decode cX7_readBoat 58 = .ok (.iload_n 2, 1) := by decide +kernel
theorem dX7_readBoat_59 : decode cX7_readBoat 59 = .ok (.iload 4, 2) := by decide +kernel
theorem dX7_readBoat_61 : decode cX7_readBoat 61 = .ok (.iload 5, 2) := by decide +kernel
theorem dX7_readBoat_63 : decode cX7_readBoat 63 = .ok (.invokestatic 65, 3) := by decide +kernel
theorem dX7_readBoat_66 : decode cX7_readBoat 66 = .ok (.aastore, 1) := by decide +kernel
theorem dX7_readBoat_67 : decode cX7_readBoat 67 = .ok (.iconst 1, 1) := by decide +kernel
theorem dX7_readBoat_68 : decode cX7_readBoat 68 = .ok (.ireturn, 1) := by decide +kernel
theorem dX7_isNext_0 : decode cX7_isNext 0 = .ok (.aload_n 0, 1) := by decide +kernel
theorem dX7_isNext_1 : decode cX7_isNext 1 = .ok (.getfield 9, 3) := by decide +kernel
theorem dX7_isNext_4 : decode cX7_isNext 4 = .ok (.aload_n 0, 1) := by decide +kernel
theorem dX7_isNext_5 : decode cX7_isNext 5 = .ok (.getfield 22, 3) := by decide +kernel
theorem dX7_isNext_8 : decode cX7_isNext 8 = .ok (.if_icmp .ge 25, 3) := by decide +kernel
theorem dX7_isNext_11 : decode cX7_isNext 11 = .ok (.aload_n 0, 1) := by decide +kernel
theorem dX7_isNext_12 : decode cX7_isNext 12 = .ok (.getfield 15, 3) := by decide +kernel
theorem dX7_isNext_15 : decode cX7_isNext 15 = .ok (.aload_n 0, 1) := by decide +kernel
theorem dX7_isNext_16 : decode cX7_isNext 16 = .ok (.getfield 19, 3) := by decide +kernel
theorem dX7_isNext_19 : decode cX7_isNext 19 = .ok (.aload_n 0, 1) := by decide +kernel
theorem dX7_isNext_20 : decode cX7_isNext 20 = .ok (.getfield 9, 3) := by decide +kernel
theorem dX7_isNext_23 : decode cX7_isNext 23 = .ok (.iadd, 1) := by decide +kernel
theorem dX7_isNext_24 : decode cX7_isNext 24 = .ok (.iaload, 1) := by decide +kernel
theorem dX7_isNext_25 : decode cX7_isNext 25 = .ok (.iload_n 1, 1) := by decide +kernel
theorem dX7_isNext_26 : decode cX7_isNext 26 = .ok (.if_icmp .ne 7, 3) := by decide +kernel
theorem dX7_isNext_29 : decode cX7_isNext 29 = .ok (.iconst 1, 1) := by decide +kernel
theorem dX7_isNext_30 : decode cX7_isNext 30 = .ok (.goto 4, 3) := by decide +kernel
theorem dX7_isNext_33 : decode cX7_isNext 33 = .ok (.iconst 0, 1) := by decide +kernel
theorem dX7_isNext_34 : decode cX7_isNext 34 = .ok (.ireturn, 1) := by decide +kernel
theorem dX7_skip_0 : decode cX7_skip 0 = .ok (.aload_n 0, 1) := by decide +kernel
theorem dX7_skip_1 : decode cX7_skip 1 = .ok (.iload_n 1, 1) := by decide +kernel
theorem dX7_skip_2 : decode cX7_skip 2 = .ok (.invokevirtual 69, 3) := by decide +kernel
theorem dX7_skip_5 : decode cX7_skip 5 = .ok (.ifCond .ne 5, 3) := by decide +kernel
theorem dX7_skip_8 : decode cX7_skip 8 = .ok (.iconst 0, 1) := by decide +kernel
theorem dX7_skip_9 : decode cX7_skip 9 = .ok (.ireturn, 1) := by decide +kernel
theorem dX7_skip_10 : decode cX7_skip 10 = .ok (.aload_n 0, 1) := by decide +kernel
theorem dX7_skip_11 : decode cX7_skip 11 = .ok (.dup, 1) := by decide +kernel
theorem dX7_skip_12 : decode cX7_skip 12 = .ok (.getfield 9, 3) := by decide +kernel
theorem dX7_skip_15 : decode cX7_skip 15 = .ok (.iconst 1, 1) := by decide +kernel
theorem dX7_skip_16 : decode cX7_skip 16 = .ok (.iadd, 1) := by decide +kernel
theorem dX7_skip_17 : decode cX7_skip 17 = .ok (.putfield 9, 3) := by decide +kernel
theorem dX7_skip_20 : decode cX7_skip 20 = .ok (.iconst 1, 1) := by decide +kernel
theorem dX7_skip_21 : decode cX7_skip 21 = .ok (.ireturn, 1) := by decide +kernel
theorem dX7_digit_0 : decode cX7_digit 0 = .ok (.iload_n 1, 1) := by decide +kernel
theorem dX7_digit_1 : decode cX7_digit 1 = .ok (.istore_n 3, 1) := by decide +kernel
theorem dX7_digit_2 : decode cX7_digit 2 = .ok (.iload_n 3, 1) := by decide +kernel
theorem dX7_digit_3 : decode cX7_digit 3 = .ok (.iload_n 2, 1) := by decide +kernel
theorem dX7_digit_4 : decode cX7_digit 4 = .ok (.if_icmp .gt 22, 3) := by decide +kernel
theorem dX7_digit_7 : decode cX7_digit 7 = .ok (.aload_n 0, 1) := by decide +kernel
theorem dX7_digit_8 : decode cX7_digit 8 = .ok (.bipush 48, 2) := by decide +kernel
theorem dX7_digit_10 : decode cX7_digit 10 = .ok (.iload_n 3, 1) := by decide +kernel
theorem dX7_digit_11 : decode cX7_digit 11 = .ok (.iadd, 1) := by decide +kernel
theorem dX7_digit_12 : decode cX7_digit 12 = .ok (.invokevirtual 25, 3) := by decide +kernel
theorem dX7_digit_15 : decode cX7_digit 15 = .ok (.ifCond .eq 5, 3) := by decide +kernel
theorem dX7_digit_18 : decode cX7_digit 18 = .ok (.iload_n 3, 1) := by decide +kernel
theorem dX7_digit_19 : decode cX7_digit 19 = .ok (.ireturn, 1) := by decide +kernel
theorem dX7_digit_20 : decode cX7_digit 20 = .ok (.iinc 3 1, 3) := by decide +kernel
theorem dX7_digit_23 : decode cX7_digit 23 = .ok (.goto (-21), 3) := by decide +kernel
theorem dX7_digit_26 : decode cX7_digit 26 = .ok (.iconst (-1), 1) := by decide +kernel
theorem dX7_digit_27 : decode cX7_digit 27 = .ok (.ireturn, 1) := by decide +kernel
theorem dX7_windSign_0 : decode cX7_windSign 0 = .ok (.aload_n 0, 1) := by decide +kernel
theorem dX7_windSign_1 : decode cX7_windSign 1 = .ok (.bipush 62, 2) := by decide +kernel
theorem dX7_windSign_3 : decode cX7_windSign 3 = .ok (.invokevirtual 25, 3) := by decide +kernel
theorem dX7_windSign_6 : decode cX7_windSign 6 = .ok (.ifCond .eq 5, 3) := by decide +kernel
theorem dX7_windSign_9 : decode cX7_windSign 9 = .ok (.iconst 1, 1) := by decide +kernel
theorem dX7_windSign_10 : decode cX7_windSign 10 = .ok (.ireturn, 1) := by decide +kernel
theorem dX7_windSign_11 : decode cX7_windSign 11 = .ok (.aload_n 0, 1) := by decide +kernel
theorem dX7_windSign_12 : decode cX7_windSign 12 = .ok (.bipush 60, 2) := by decide +kernel
theorem dX7_windSign_14 : decode cX7_windSign 14 = .ok (.invokevirtual 25, 3) := by decide +kernel
theorem dX7_windSign_17 : decode cX7_windSign 17 = .ok (.ifCond .eq 5, 3) := by decide +kernel
theorem dX7_windSign_20 : decode cX7_windSign 20 = .ok (.iconst 2, 1) := by decide +kernel
theorem dX7_windSign_21 : decode cX7_windSign 21 = .ok (.ireturn, 1) := by decide +kernel
theorem dX7_windSign_22 : decode cX7_windSign 22 = .ok (.aload_n 0, 1) := by decide +kernel
theorem dX7_windSign_23 : decode cX7_windSign 23 = .ok (.bipush 46, 2) := by decide +kernel
theorem dX7_windSign_25 : decode cX7_windSign 25 = .ok (.invokevirtual 25, 3) := by decide +kernel
theorem dX7_windSign_28 : decode cX7_windSign 28 = .ok (.ifCond .eq 7, 3) := by decide +kernel
theorem dX7_windSign_31 : decode cX7_windSign 31 = .ok (.iconst 0, 1) := by decide +kernel
theorem dX7_windSign_32 : decode cX7_windSign 32 = .ok (.goto 4, 3) := by decide +kernel
theorem dX7_windSign_35 : decode cX7_windSign 35 = .ok (.iconst (-1), 1) := by decide +kernel
theorem dX7_windSign_36 : decode cX7_windSign 36 = .ok (.ireturn, 1) := by decide +kernel
theorem dX7_kindLetter_0 : decode cX7_kindLetter 0 = .ok (.aload_n 0, 1) := by decide +kernel
theorem dX7_kindLetter_1 : decode cX7_kindLetter 1 = .ok (.bipush 98, 2) := by decide +kernel
theorem dX7_kindLetter_3 : decode cX7_kindLetter 3 = .ok (.invokevirtual 25, 3) := by decide +kernel
theorem dX7_kindLetter_6 : decode cX7_kindLetter 6 = .ok (.ifCond .eq 5, 3) := by decide +kernel
theorem dX7_kindLetter_9 : decode cX7_kindLetter 9 = .ok (.iconst 0, 1) := by decide +kernel
theorem dX7_kindLetter_10 : decode cX7_kindLetter 10 = .ok (.ireturn, 1) := by decide +kernel
theorem dX7_kindLetter_11 : decode cX7_kindLetter 11 = .ok (.aload_n 0, 1) := by decide +kernel
theorem dX7_kindLetter_12 : decode cX7_kindLetter 12 = .ok (.bipush 111, 2) := by decide +kernel
theorem dX7_kindLetter_14 : decode cX7_kindLetter 14 = .ok (.invokevirtual 25, 3) := by decide +kernel
theorem dX7_kindLetter_17 : decode cX7_kindLetter 17 = .ok (.ifCond .eq 5, 3) := by decide +kernel
theorem dX7_kindLetter_20 : decode cX7_kindLetter 20 = .ok (.iconst 1, 1) := by decide +kernel
theorem dX7_kindLetter_21 : decode cX7_kindLetter 21 = .ok (.ireturn, 1) := by decide +kernel
theorem dX7_kindLetter_22 : decode cX7_kindLetter 22 = .ok (.aload_n 0, 1) := by decide +kernel
theorem dX7_kindLetter_23 : decode cX7_kindLetter 23 = .ok (.bipush 116, 2) := by decide +kernel
theorem dX7_kindLetter_25 : decode cX7_kindLetter 25 = .ok (.invokevirtual 25, 3) := by decide +kernel
theorem dX7_kindLetter_28 : decode cX7_kindLetter 28 = .ok (.ifCond .eq 7, 3) := by decide +kernel
theorem dX7_kindLetter_31 : decode cX7_kindLetter 31 = .ok (.iconst 2, 1) := by decide +kernel
theorem dX7_kindLetter_32 : decode cX7_kindLetter 32 = .ok (.goto 4, 3) := by decide +kernel
theorem dX7_kindLetter_35 : decode cX7_kindLetter 35 = .ok (.iconst (-1), 1) := by decide +kernel
theorem dX7_kindLetter_36 : decode cX7_kindLetter 36 = .ok (.ireturn, 1) := by decide +kernel
theorem dX8_init_0 : decode cX8_init 0 = .ok (.aload_n 0, 1) := by decide +kernel
theorem dX8_init_1 : decode cX8_init 1 = .ok (.iload_n 1, 1) := by decide +kernel
theorem dX8_init_2 : decode cX8_init 2 = .ok (.iload_n 2, 1) := by decide +kernel
theorem dX8_init_3 : decode cX8_init 3 = .ok (.iload_n 3, 1) := by decide +kernel
theorem dX8_init_4 : decode cX8_init 4 = .ok (.invokespecial 1, 3) := by decide +kernel
theorem dX8_init_7 : decode cX8_init 7 = .ok (.return_, 1) := by decide +kernel
theorem dX8_kindNumber_0 : decode cX8_kindNumber 0 = .ok (.iconst 2, 1) := by decide +kernel
theorem dX8_kindNumber_1 : decode cX8_kindNumber 1 = .ok (.ireturn, 1) := by decide +kernel
theorem dX8_goesAgainst_0 : decode cX8_goesAgainst 0 = .ok (.aload_n 0, 1) := by decide +kernel
theorem dX8_goesAgainst_1 : decode cX8_goesAgainst 1 = .ok (.getfield 7, 3) := by decide +kernel
theorem dX8_goesAgainst_4 : decode cX8_goesAgainst 4 = .ok (.ireturn, 1) := by decide +kernel
theorem dX8_counts_0 : decode cX8_counts 0 = .ok (.iconst 0, 1) := by decide +kernel
theorem dX8_counts_1 : decode cX8_counts 1 = .ok (.ireturn, 1) := by decide +kernel
theorem dX8_telling_0 : decode cX8_telling 0 = .ok (.aload_n 1, 1) := by decide +kernel
theorem dX8_telling_1 : decode cX8_telling 1 = .ok (.iconst 3, 1) := by decide +kernel
theorem dX8_telling_2 : decode cX8_telling 2 = .ok (.invokevirtual 13, 3) := by decide +kernel
theorem dX8_telling_5 : decode cX8_telling 5 = .ok (.aload_n 0, 1) := by decide +kernel
theorem dX8_telling_6 : decode cX8_telling 6 = .ok (.aload_n 1, 1) := by decide +kernel
theorem dX8_telling_7 : decode cX8_telling 7 = .ok (.invokespecial 19, 3) := by decide +kernel
theorem dX8_telling_10 : decode cX8_telling 10 = .ok (.istore_n 2, 1) := by decide +kernel
theorem dX8_telling_11 : decode cX8_telling 11 = .ok (.iload_n 2, 1) := by decide +kernel
theorem dX8_telling_12 : decode cX8_telling 12 = .ok (.aload_n 0, 1) := by decide +kernel
theorem dX8_telling_13 : decode cX8_telling 13 = .ok (.aload_n 1, 1) := by decide +kernel
theorem dX8_telling_14 : decode cX8_telling 14 = .ok (.invokevirtual 23, 3) := by decide +kernel
theorem dX8_telling_17 : decode cX8_telling 17 = .ok (.iadd, 1) := by decide +kernel
theorem dX8_telling_18 : decode cX8_telling 18 = .ok (.ireturn, 1) := by decide +kernel
theorem dX8_hailing_0 : decode cX8_hailing 0 = .ok (.aload_n 1, 1) := by decide +kernel
theorem dX8_hailing_1 : decode cX8_hailing 1 = .ok (.iconst 5, 1) := by decide +kernel
theorem dX8_hailing_2 : decode cX8_hailing 2 = .ok (.invokevirtual 13, 3) := by decide +kernel
theorem dX8_hailing_5 : decode cX8_hailing 5 = .ok (.bipush 70, 2) := by decide +kernel
theorem dX8_hailing_7 : decode cX8_hailing 7 = .ok (.ireturn, 1) := by decide +kernel
theorem dX9_init_0 : decode cX9_init 0 = .ok (.aload_n 0, 1) := by decide +kernel
theorem dX9_init_1 : decode cX9_init 1 = .ok (.invokespecial 1, 3) := by decide +kernel
theorem dX9_init_4 : decode cX9_init 4 = .ok (.aload_n 0, 1) := by decide +kernel
theorem dX9_init_5 : decode cX9_init 5 = .ok (.iconst 0, 1) := by decide +kernel
theorem dX9_init_6 : decode cX9_init 6 = .ok (.putfield 7, 3) := by decide +kernel
theorem dX9_init_9 : decode cX9_init 9 = .ok (.return_, 1) := by decide +kernel
theorem dX9_leave_0 : decode cX9_leave 0 = .ok (.aload_n 0, 1) := by decide +kernel
theorem dX9_leave_1 : decode cX9_leave 1 = .ok (.bipush 31, 2) := by decide +kernel
theorem dX9_leave_3 : decode cX9_leave 3 = .ok (.aload_n 0, 1) := by decide +kernel
theorem dX9_leave_4 : decode cX9_leave 4 = .ok (.getfield 7, 3) := by decide +kernel
theorem dX9_leave_7 : decode cX9_leave 7 = .ok (.imul, 1) := by decide +kernel
theorem dX9_leave_8 : decode cX9_leave 8 = .ok (.iload_n 1, 1) := by decide +kernel
theorem dX9_leave_9 : decode cX9_leave 9 = .ok (.iadd, 1) := by decide +kernel
theorem dX9_leave_10 : decode cX9_leave 10 = .ok (.putfield 7, 3) := by decide +kernel
theorem dX9_leave_13 : decode cX9_leave 13 = .ok (.return_, 1) := by decide +kernel
theorem dX10_init_0 : decode cX10_init 0 = .ok (.aload_n 0, 1) := by decide +kernel
theorem dX10_init_1 : decode cX10_init 1 = .ok (.invokespecial 3, 3) := by decide +kernel
theorem dX10_init_4 : decode cX10_init 4 = .ok (.aload_n 0, 1) := by decide +kernel
theorem dX10_init_5 : decode cX10_init 5 = .ok (.iconst 3, 1) := by decide +kernel
theorem dX10_init_6 : decode cX10_init 6 = .ok (.newarray .int, 2) := by decide +kernel
theorem dX10_init_8 : decode cX10_init 8 = .ok (.putfield 9, 3) := by decide +kernel
theorem dX10_init_11 : decode cX10_init 11 = .ok (.aload_n 0, 1) := by decide +kernel
theorem dX10_init_12 : decode cX10_init 12 = .ok (.iconst 0, 1) := by decide +kernel
theorem dX10_init_13 : decode cX10_init 13 = .ok (.putfield 15, 3) := by decide +kernel
theorem dX10_init_16 : decode cX10_init 16 = .ok (.aload_n 0, 1) := by decide +kernel
theorem dX10_init_17 : decode cX10_init 17 = .ok (.bipush (-9), 2) := by decide +kernel
theorem dX10_init_19 : decode cX10_init 19 = .ok (.putfield 19, 3) := by decide +kernel
theorem dX10_init_22 : decode cX10_init 22 = .ok (.aload_n 0, 1) := by decide +kernel
theorem dX10_init_23 : decode cX10_init 23 = .ok (.bipush (-9), 2) := by decide +kernel
theorem dX10_init_25 : decode cX10_init 25 = .ok (.putfield 22, 3) := by decide +kernel
theorem dX10_init_28 : decode cX10_init 28 = .ok (.return_, 1) := by decide +kernel
theorem dX10_begin_0 : decode cX10_begin 0 = .ok (.iconst 0, 1) := by decide +kernel
theorem dX10_begin_1 : decode cX10_begin 1 = .ok (.istore_n 2, 1) := by decide +kernel
theorem dX10_begin_2 : decode cX10_begin 2 = .ok (.iload_n 2, 1) := by decide +kernel
theorem dX10_begin_3 : decode cX10_begin 3 = .ok (.aload_n 1, 1) := by decide +kernel
theorem dX10_begin_4 : decode cX10_begin 4 = .ok (.getfield 25, 3) := by decide +kernel
theorem dX10_begin_7 : decode cX10_begin 7 = .ok (.if_icmp .ge 25, 3) := by decide +kernel
theorem dX10_begin_10 : decode cX10_begin 10 = .ok (.aload_n 0, 1) := by decide +kernel
theorem dX10_begin_11 : decode cX10_begin 11 = .ok (.getfield 9, 3) := by decide +kernel
theorem dX10_begin_14 : decode cX10_begin 14 = .ok (.iload_n 2, 1) := by decide +kernel
theorem dX10_begin_15 : decode cX10_begin 15 = .ok (.aload_n 1, 1) := by decide +kernel
theorem dX10_begin_16 : decode cX10_begin 16 = .ok (.aload_n 1, 1) := by decide +kernel
theorem dX10_begin_17 : decode cX10_begin 17 = .ok (.getfield 30, 3) := by decide +kernel
theorem dX10_begin_20 : decode cX10_begin 20 = .ok (.iload_n 2, 1) := by decide +kernel
theorem dX10_begin_21 : decode cX10_begin 21 = .ok (.aaload, 1) := by decide +kernel
theorem dX10_begin_22 : decode cX10_begin 22 = .ok (.invokevirtual 34, 3) := by decide +kernel
theorem dX10_begin_25 : decode cX10_begin 25 = .ok (.iastore, 1) := by decide +kernel
theorem dX10_begin_26 : decode cX10_begin 26 = .ok (.iinc 2 1, 3) := by decide +kernel
theorem dX10_begin_29 : decode cX10_begin 29 = .ok (.goto (-27), 3) := by decide +kernel
theorem dX10_begin_32 : decode cX10_begin 32 = .ok (.return_, 1) := by decide +kernel
theorem dX10_sail_0 : decode cX10_sail 0 = .ok (.iconst 0, 1) := by decide +kernel
theorem dX10_sail_1 : decode cX10_sail 1 = .ok (.istore 4, 2) := by decide +kernel
theorem dX10_sail_3 : decode cX10_sail 3 = .ok (.iconst 0, 1) := by decide +kernel
theorem dX10_sail_4 : decode cX10_sail 4 = .ok (.istore 5, 2) := by decide +kernel
theorem dX10_sail_6 : decode cX10_sail 6 = .ok (.iload 5, 2) := by decide +kernel
theorem dX10_sail_8 : decode cX10_sail 8 = .ok (.aload_n 1, 1) := by decide +kernel
theorem dX10_sail_9 : decode cX10_sail 9 = .ok (.getfield 25, 3) := by decide +kernel
theorem dX10_sail_12 : decode cX10_sail 12 = .ok (.if_icmp .ge 92, 3) := by decide +kernel
theorem dX10_sail_15 : decode cX10_sail 15 = .ok (.aload_n 1, 1) := by decide +kernel
theorem dX10_sail_16 : decode cX10_sail 16 = .ok (.getfield 30, 3) := by decide +kernel
theorem dX10_sail_19 : decode cX10_sail 19 = .ok (.iload 5, 2) := by decide +kernel
theorem dX10_sail_21 : decode cX10_sail 21 = .ok (.aaload, 1) := by decide +kernel
theorem dX10_sail_22 : decode cX10_sail 22 = .ok (.astore 6, 2) := by decide +kernel
theorem dX10_sail_24 : decode cX10_sail 24 = .ok (.iload_n 2, 1) := by decide +kernel
theorem dX10_sail_25 : decode cX10_sail 25 = .ok (.iload 5, 2) := by decide +kernel
theorem dX10_sail_27 : decode cX10_sail 27 = .ok (.ishr, 1) := by decide +kernel
theorem dX10_sail_28 : decode cX10_sail 28 = .ok (.iconst 1, 1) := by decide +kernel
theorem dX10_sail_29 : decode cX10_sail 29 = .ok (.iand, 1) := by decide +kernel
theorem dX10_sail_30 : decode cX10_sail 30 = .ok (.iconst 1, 1) := by decide +kernel
theorem dX10_sail_31 : decode cX10_sail 31 = .ok (.if_icmp .ne 23, 3) := by decide +kernel
theorem dX10_sail_34 : decode cX10_sail 34 = .ok (.aload_n 0, 1) := by decide +kernel
theorem dX10_sail_35 : decode cX10_sail 35 = .ok (.getfield 9, 3) := by decide +kernel
theorem dX10_sail_38 : decode cX10_sail 38 = .ok (.iload 5, 2) := by decide +kernel
theorem dX10_sail_40 : decode cX10_sail 40 = .ok (.iaload, 1) := by decide +kernel
theorem dX10_sail_41 : decode cX10_sail 41 = .ok (.aload_n 1, 1) := by decide +kernel
theorem dX10_sail_42 : decode cX10_sail 42 = .ok (.aload 6, 2) := by decide +kernel
theorem dX10_sail_44 : decode cX10_sail 44 = .ok (.invokevirtual 38, 3) := by decide +kernel
theorem dX10_sail_47 : decode cX10_sail 47 = .ok (.if_icmp .eq 7, 3) := by decide +kernel
theorem dX10_sail_50 : decode cX10_sail 50 = .ok (.iconst 1, 1) := by decide +kernel
theorem dX10_sail_51 : decode cX10_sail 51 = .ok (.goto 4, 3) := by decide +kernel
theorem dX10_sail_54 : decode cX10_sail 54 = .ok (.iconst 0, 1) := by decide +kernel
theorem dX10_sail_55 : decode cX10_sail 55 = .ok (.istore 7, 2) := by decide +kernel
theorem dX10_sail_57 : decode cX10_sail 57 = .ok (.iload 7, 2) := by decide +kernel
theorem dX10_sail_59 : decode cX10_sail 59 = .ok (.ifCond .eq 16, 3) := by decide +kernel
theorem dX10_sail_62 : decode cX10_sail 62 = .ok (.aload_n 1, 1) := by decide +kernel
theorem dX10_sail_63 : decode cX10_sail 63 = .ok (.aload 6, 2) := by decide +kernel
theorem dX10_sail_65 : decode cX10_sail 65 = .ok (.iload_n 3, 1) := by decide +kernel
theorem dX10_sail_66 : decode cX10_sail 66 = .ok (.invokevirtual 41, 3) := by decide +kernel
theorem dX10_sail_69 : decode cX10_sail 69 = .ok (.ifCond .eq 6, 3) := by decide +kernel
theorem dX10_sail_72 : decode cX10_sail 72 = .ok (.iinc 4 1, 3) := by decide +kernel
theorem dX10_sail_75 : decode cX10_sail 75 = .ok (.aload_n 0, 1) := by decide +kernel
theorem dX10_sail_76 : decode cX10_sail 76 = .ok (.getfield 9, 3) := by decide +kernel
theorem dX10_sail_79 : decode cX10_sail 79 = .ok (.iload 5, 2) := by decide +kernel
theorem dX10_sail_81 : decode cX10_sail 81 = .ok (.aload_n 1, 1) := by decide +kernel
theorem dX10_sail_82 : decode cX10_sail 82 = .ok (.aload 6, 2) := by decide +kernel
theorem dX10_sail_84 : decode cX10_sail 84 = .ok (.aload_n 0, 1) := by decide +kernel
theorem dX10_sail_85 : decode cX10_sail 85 = .ok (.getfield 9, 3) := by decide +kernel
theorem dX10_sail_88 : decode cX10_sail 88 = .ok (.iload 5, 2) := by decide +kernel
theorem dX10_sail_90 : decode cX10_sail 90 = .ok (.iaload, 1) := by decide +kernel
theorem dX10_sail_91 : decode cX10_sail 91 = .ok (.iload_n 3, 1) := by decide +kernel
theorem dX10_sail_92 : decode cX10_sail 92 = .ok (.iload 7, 2) := by decide +kernel
theorem dX10_sail_94 : decode cX10_sail 94 = .ok (.invokevirtual 45, 3) := by decide +kernel
theorem dX10_sail_97 : decode cX10_sail 97 = .ok (.iastore, 1) := by decide +kernel
theorem dX10_sail_98 : decode cX10_sail 98 = .ok (.iinc 5 1, 3) := by decide +kernel
theorem dX10_sail_101 : decode cX10_sail 101 = .ok (.goto (-95), 3) := by decide +kernel
theorem dX10_sail_104 : decode cX10_sail 104 = .ok (.iload 4, 2) := by decide +kernel
