theorem dX10_sail_106 : decode cX10_sail 106 = .ok (.iconst 1, 1) := by decide +kernel
theorem dX10_sail_107 : decode cX10_sail 107 = .ok (.if_icmp .le 8, 3) := by decide +kernel
theorem dX10_sail_110 : decode cX10_sail 110 = .ok (.iload 4, 2) := by decide +kernel
theorem dX10_sail_112 : decode cX10_sail 112 = .ok (.goto 4, 3) := by decide +kernel
theorem dX10_sail_115 : decode cX10_sail 115 = .ok (.iconst 0, 1) := by decide +kernel
theorem dX10_sail_116 : decode cX10_sail 116 = .ok (.ireturn, 1) := by decide +kernel
theorem dX10_sailAll_0 : decode cX10_sailAll 0 = .ok (.aload_n 0, 1) := by decide +kernel
theorem dX10_sailAll_1 : decode cX10_sailAll 1 = .ok (.iconst 0, 1) := by decide +kernel
theorem dX10_sailAll_2 : decode cX10_sailAll 2 = .ok (.putfield 15, 3) := by decide +kernel
theorem dX10_sailAll_5 : decode cX10_sailAll 5 = .ok (.aload_n 0, 1) := by decide +kernel
theorem dX10_sailAll_6 : decode cX10_sailAll 6 = .ok (.bipush (-9), 2) := by decide +kernel
theorem dX10_sailAll_8 : decode cX10_sailAll 8 = .ok (.putfield 19, 3) := by decide +kernel
theorem dX10_sailAll_11 : decode cX10_sailAll 11 = .ok (.aload_n 0, 1) := by decide +kernel
theorem dX10_sailAll_12 : decode cX10_sailAll 12 = .ok (.bipush (-9), 2) := by decide +kernel
theorem dX10_sailAll_14 : decode cX10_sailAll 14 = .ok (.putfield 22, 3) := by decide +kernel
theorem dX10_sailAll_17 : decode cX10_sailAll 17 = .ok (.aload_n 0, 1) := by decide +kernel
theorem dX10_sailAll_18 : decode cX10_sailAll 18 = .ok (.aload_n 1, 1) := by decide +kernel
theorem dX10_sailAll_19 : decode cX10_sailAll 19 = .ok (.invokevirtual 49, 3) := by decide +kernel
theorem dX10_sailAll_22 : decode cX10_sailAll 22 = .ok (.iconst 0, 1) := by decide +kernel
theorem dX10_sailAll_23 : decode cX10_sailAll 23 = .ok (.istore 4, 2) := by decide +kernel
theorem dX10_sailAll_25 : decode cX10_sailAll 25 = .ok (.iload 4, 2) := by decide +kernel
theorem dX10_sailAll_27 : decode cX10_sailAll 27 = .ok (.iload_n 3, 1) := by decide +kernel
theorem dX10_sailAll_28 : decode cX10_sailAll 28 = .ok (.if_icmp .ge 85, 3) := by decide +kernel
theorem dX10_sailAll_31 : decode cX10_sailAll 31 = .ok (.aload_n 0, 1) := by decide +kernel
theorem dX10_sailAll_32 : decode cX10_sailAll 32 = .ok (.aload_n 1, 1) := by decide +kernel
theorem dX10_sailAll_33 : decode cX10_sailAll 33 = .ok (.aload_n 2, 1) := by decide +kernel
theorem dX10_sailAll_34 : decode cX10_sailAll 34 = .ok (.iload 4, 2) := by decide +kernel
theorem dX10_sailAll_36 : decode cX10_sailAll 36 = .ok (.iaload, 1) := by decide +kernel
theorem dX10_sailAll_37 : decode cX10_sailAll 37 = .ok (.aload_n 1, 1) := by decide +kernel
theorem dX10_sailAll_38 : decode cX10_sailAll 38 = .ok (.getfield 53, 3) := by decide +kernel
theorem dX10_sailAll_41 : decode cX10_sailAll 41 = .ok (.iload 4, 2) := by decide +kernel
theorem dX10_sailAll_43 : decode cX10_sailAll 43 = .ok (.iaload, 1) := by decide +kernel
theorem dX10_sailAll_44 : decode cX10_sailAll 44 = .ok (.invokevirtual 56, 3) := by decide +kernel
theorem dX10_sailAll_47 : decode cX10_sailAll 47 = .ok (.istore 5, 2) := by decide +kernel
theorem dX10_sailAll_49 : decode cX10_sailAll 49 = .ok (.aload_n 0, 1) := by decide +kernel
theorem dX10_sailAll_50 : decode cX10_sailAll 50 = .ok (.dup, 1) := by decide +kernel
theorem dX10_sailAll_51 : decode cX10_sailAll 51 = .ok (.getfield 15, 3) := by decide +kernel
theorem dX10_sailAll_54 : decode cX10_sailAll 54 = .ok (.iload 5, 2) := by decide +kernel
theorem dX10_sailAll_56 : decode cX10_sailAll 56 = .ok (.iadd, 1) := by decide +kernel
theorem dX10_sailAll_57 : decode cX10_sailAll 57 = .ok (.putfield 15, 3) := by decide +kernel
theorem dX10_sailAll_60 : decode cX10_sailAll 60 = .ok (.iload 5, 2) := by decide +kernel
theorem dX10_sailAll_62 : decode cX10_sailAll 62 = .ok (.ifCond .le 18, 3) := by decide +kernel
theorem dX10_sailAll_65 : decode cX10_sailAll 65 = .ok (.aload_n 0, 1) := by decide +kernel
theorem dX10_sailAll_66 : decode cX10_sailAll 66 = .ok (.getfield 19, 3) := by decide +kernel
theorem dX10_sailAll_69 : decode cX10_sailAll 69 = .ok (.bipush (-9), 2) := by decide +kernel
theorem dX10_sailAll_71 : decode cX10_sailAll 71 = .ok (.if_icmp .ne 9, 3) := by decide +kernel
theorem dX10_sailAll_74 : decode cX10_sailAll 74 = .ok (.aload_n 0, 1) := by decide +kernel
theorem dX10_sailAll_75 : decode cX10_sailAll 75 = .ok (.iload 4, 2) := by decide +kernel
theorem dX10_sailAll_77 : decode cX10_sailAll 77 = .ok (.putfield 19, 3) := by decide +kernel
theorem dX10_sailAll_80 : decode cX10_sailAll 80 = .ok (.aload_n 0, 1) := by decide +kernel
theorem dX10_sailAll_81 : decode cX10_sailAll 81 = .ok (.getfield 22, 3) := by decide +kernel
theorem dX10_sailAll_84 : decode cX10_sailAll 84 = .ok (.bipush (-9), 2) := by decide +kernel
theorem dX10_sailAll_86 : decode cX10_sailAll 86 = .ok (.if_icmp .ne 21, 3) := by decide +kernel
theorem dX10_sailAll_89 : decode cX10_sailAll 89 = .ok (.aload_n 0, 1) := by decide +kernel
theorem dX10_sailAll_90 : decode cX10_sailAll 90 = .ok (.aload_n 1, 1) := by decide +kernel
theorem dX10_sailAll_91 : decode cX10_sailAll 91 = .ok (.invokevirtual 60, 3) := by decide +kernel
theorem dX10_sailAll_94 : decode cX10_sailAll 94 = .ok (.aload_n 1, 1) := by decide +kernel
theorem dX10_sailAll_95 : decode cX10_sailAll 95 = .ok (.invokevirtual 64, 3) := by decide +kernel
theorem dX10_sailAll_98 : decode cX10_sailAll 98 = .ok (.if_icmp .ne 9, 3) := by decide +kernel
theorem dX10_sailAll_101 : decode cX10_sailAll 101 = .ok (.aload_n 0, 1) := by decide +kernel
theorem dX10_sailAll_102 : decode cX10_sailAll 102 = .ok (.iload 4, 2) := by decide +kernel
theorem dX10_sailAll_104 : decode cX10_sailAll 104 = .ok (.putfield 22, 3) := by decide +kernel
theorem dX10_sailAll_107 : decode cX10_sailAll 107 = .ok (.iinc 4 1, 3) := by decide +kernel
theorem dX10_sailAll_110 : decode cX10_sailAll 110 = .ok (.goto (-85), 3) := by decide +kernel
theorem dX10_sailAll_113 : decode cX10_sailAll 113 = .ok (.return_, 1) := by decide +kernel
theorem dX10_overSet_0 : decode cX10_overSet 0 = .ok (.iconst 0, 1) := by decide +kernel
theorem dX10_overSet_1 : decode cX10_overSet 1 = .ok (.istore_n 2, 1) := by decide +kernel
theorem dX10_overSet_2 : decode cX10_overSet 2 = .ok (.iconst 0, 1) := by decide +kernel
theorem dX10_overSet_3 : decode cX10_overSet 3 = .ok (.istore_n 3, 1) := by decide +kernel
theorem dX10_overSet_4 : decode cX10_overSet 4 = .ok (.iload_n 3, 1) := by decide +kernel
theorem dX10_overSet_5 : decode cX10_overSet 5 = .ok (.aload_n 1, 1) := by decide +kernel
theorem dX10_overSet_6 : decode cX10_overSet 6 = .ok (.getfield 25, 3) := by decide +kernel
theorem dX10_overSet_9 : decode cX10_overSet 9 = .ok (.if_icmp .ge 34, 3) := by decide +kernel
theorem dX10_overSet_12 : decode cX10_overSet 12 = .ok (.aload_n 0, 1) := by decide +kernel
theorem dX10_overSet_13 : decode cX10_overSet 13 = .ok (.getfield 9, 3) := by decide +kernel
theorem dX10_overSet_16 : decode cX10_overSet 16 = .ok (.iload_n 3, 1) := by decide +kernel
theorem dX10_overSet_17 : decode cX10_overSet 17 = .ok (.iaload, 1) := by decide +kernel
theorem dX10_overSet_18 : decode cX10_overSet 18 = .ok (.aload_n 1, 1) := by decide +kernel
theorem dX10_overSet_19 : decode cX10_overSet 19 = .ok (.aload_n 1, 1) := by decide +kernel
theorem dX10_overSet_20 : decode cX10_overSet 20 = .ok (.getfield 30, 3) := by decide +kernel
theorem dX10_overSet_23 : decode cX10_overSet 23 = .ok (.iload_n 3, 1) := by decide +kernel
theorem dX10_overSet_24 : decode cX10_overSet 24 = .ok (.aaload, 1) := by decide +kernel
theorem dX10_overSet_25 : decode cX10_overSet 25 = .ok (.invokevirtual 38, 3) := by decide +kernel
theorem dX10_overSet_28 : decode cX10_overSet 28 = .ok (.if_icmp .ne 9, 3) := by decide +kernel
theorem dX10_overSet_31 : decode cX10_overSet 31 = .ok (.iload_n 2, 1) := by decide +kernel
theorem dX10_overSet_32 : decode cX10_overSet 32 = .ok (.iconst 1, 1) := by decide +kernel
theorem dX10_overSet_33 : decode cX10_overSet 33 = .ok (.iload_n 3, 1) := by decide +kernel
theorem dX10_overSet_34 : decode cX10_overSet 34 = .ok (.ishl, 1) := by decide +kernel
theorem dX10_overSet_35 : decode cX10_overSet 35 = .ok (.ior, 1) := by decide +kernel
theorem dX10_overSet_36 : decode cX10_overSet 36 = .ok (.istore_n 2, 1) := by decide +kernel
theorem dX10_overSet_37 : decode cX10_overSet 37 = .ok (.iinc 3 1, 3) := by decide +kernel
theorem dX10_overSet_40 : decode cX10_overSet 40 = .ok (.goto (-36), 3) := by decide +kernel
theorem dX10_overSet_43 : decode cX10_overSet 43 = .ok (.iload_n 2, 1) := by decide +kernel
theorem dX10_overSet_44 : decode cX10_overSet 44 = .ok (.ireturn, 1) := by decide +kernel
theorem dX10_stateNumber_0 : decode cX10_stateNumber 0 = .ok (.iconst 0, 1) := by decide +kernel
theorem dX10_stateNumber_1 : decode cX10_stateNumber 1 = .ok (.istore_n 2, 1) := by decide +kernel
theorem dX10_stateNumber_2 : decode cX10_stateNumber 2 = .ok (.aload_n 1, 1) := by decide +kernel
theorem dX10_stateNumber_3 : decode cX10_stateNumber 3 = .ok (.getfield 25, 3) := by decide +kernel
theorem dX10_stateNumber_6 : decode cX10_stateNumber 6 = .ok (.iconst 1, 1) := by decide +kernel
theorem dX10_stateNumber_7 : decode cX10_stateNumber 7 = .ok (.isub, 1) := by decide +kernel
theorem dX10_stateNumber_8 : decode cX10_stateNumber 8 = .ok (.istore_n 3, 1) := by decide +kernel
theorem dX10_stateNumber_9 : decode cX10_stateNumber 9 = .ok (.iload_n 3, 1) := by decide +kernel
theorem dX10_stateNumber_10 : decode cX10_stateNumber 10 = .ok (.ifCond .lt 25, 3) := by decide +kernel
theorem dX10_stateNumber_13 : decode cX10_stateNumber 13 = .ok (.iload_n 2, 1) := by decide +kernel
theorem dX10_stateNumber_14 : decode cX10_stateNumber 14 = .ok (.aload_n 1, 1) := by decide +kernel
theorem dX10_stateNumber_15 : decode cX10_stateNumber 15 = .ok (.getfield 68, 3) := by decide +kernel
theorem dX10_stateNumber_18 : decode cX10_stateNumber 18 = .ok (.iconst 1, 1) := by decide +kernel
theorem dX10_stateNumber_19 : decode cX10_stateNumber 19 = .ok (.iadd, 1) := by decide +kernel
theorem dX10_stateNumber_20 : decode cX10_stateNumber 20 = .ok (.imul, 1) := by decide +kernel
theorem dX10_stateNumber_21 : decode cX10_stateNumber 21 = .ok (.aload_n 0, 1) := by decide +kernel
theorem dX10_stateNumber_22 : decode cX10_stateNumber 22 = .ok (.getfield 9, 3) := by decide +kernel
theorem dX10_stateNumber_25 : decode cX10_stateNumber 25 = .ok (.iload_n 3, 1) := by decide +kernel
theorem dX10_stateNumber_26 : decode cX10_stateNumber 26 = .ok (.iaload, 1) := by decide +kernel
theorem dX10_stateNumber_27 : decode cX10_stateNumber 27 = .ok (.iadd, 1) := by decide +kernel
theorem dX10_stateNumber_28 : decode cX10_stateNumber 28 = .ok (.istore_n 2, 1) := by decide +kernel
theorem dX10_stateNumber_29 : decode cX10_stateNumber 29 = .ok (.iinc 3 (-1), 3) := by decide +kernel
theorem dX10_stateNumber_32 : decode cX10_stateNumber 32 = .ok (.goto (-23), 3) := by decide +kernel
theorem dX10_stateNumber_35 : decode cX10_stateNumber 35 = .ok (.iload_n 2, 1) := by decide +kernel
theorem dX10_stateNumber_36 : decode cX10_stateNumber 36 = .ok (.ireturn, 1) := by decide +kernel
theorem dX10_place_0 : decode cX10_place 0 = .ok (.iload_n 2, 1) := by decide +kernel
theorem dX10_place_1 : decode cX10_place 1 = .ok (.istore_n 3, 1) := by decide +kernel
theorem dX10_place_2 : decode cX10_place 2 = .ok (.iconst 0, 1) := by decide +kernel
theorem dX10_place_3 : decode cX10_place 3 = .ok (.istore 4, 2) := by decide +kernel
theorem dX10_place_5 : decode cX10_place 5 = .ok (.iload 4, 2) := by decide +kernel
theorem dX10_place_7 : decode cX10_place 7 = .ok (.aload_n 1, 1) := by decide +kernel
theorem dX10_place_8 : decode cX10_place 8 = .ok (.getfield 25, 3) := by decide +kernel
theorem dX10_place_11 : decode cX10_place 11 = .ok (.if_icmp .ge 33, 3) := by decide +kernel
theorem dX10_place_14 : decode cX10_place 14 = .ok (.aload_n 0, 1) := by decide +kernel
theorem dX10_place_15 : decode cX10_place 15 = .ok (.getfield 9, 3) := by decide +kernel
theorem dX10_place_18 : decode cX10_place 18 = .ok (.iload 4, 2) := by decide +kernel
theorem dX10_place_20 : decode cX10_place 20 = .ok (.iload_n 3, 1) := by decide +kernel
theorem dX10_place_21 : decode cX10_place 21 = .ok (.aload_n 1, 1) := by decide +kernel
theorem dX10_place_22 : decode cX10_place 22 = .ok (.getfield 68, 3) := by decide +kernel
theorem dX10_place_25 : decode cX10_place 25 = .ok (.iconst 1, 1) := by decide +kernel
theorem dX10_place_26 : decode cX10_place 26 = .ok (.iadd, 1) := by decide +kernel
theorem dX10_place_27 : decode cX10_place 27 = .ok (.irem, 1) := by decide +kernel
theorem dX10_place_28 : decode cX10_place 28 = .ok (.iastore, 1) := by decide +kernel
theorem dX10_place_29 : decode cX10_place 29 = .ok (.iload_n 3, 1) := by decide +kernel
theorem dX10_place_30 : decode cX10_place 30 = .ok (.aload_n 1, 1) := by decide +kernel
theorem dX10_place_31 : decode cX10_place 31 = .ok (.getfield 68, 3) := by decide +kernel
theorem dX10_place_34 : decode cX10_place 34 = .ok (.iconst 1, 1) := by decide +kernel
theorem dX10_place_35 : decode cX10_place 35 = .ok (.iadd, 1) := by decide +kernel
theorem dX10_place_36 : decode cX10_place 36 = .ok (.idiv, 1) := by decide +kernel
theorem dX10_place_37 : decode cX10_place 37 = .ok (.istore_n 3, 1) := by decide +kernel
theorem dX10_place_38 : decode cX10_place 38 = .ok (.iinc 4 1, 3) := by decide +kernel
theorem dX10_place_41 : decode cX10_place 41 = .ok (.goto (-36), 3) := by decide +kernel
theorem dX10_place_44 : decode cX10_place 44 = .ok (.return_, 1) := by decide +kernel
theorem dX11_init_0 : decode cX11_init 0 = .ok (.aload_n 0, 1) := by decide +kernel
theorem dX11_init_1 : decode cX11_init 1 = .ok (.invokespecial 3, 3) := by decide +kernel
theorem dX11_init_4 : decode cX11_init 4 = .ok (.aload_n 0, 1) := by decide +kernel
theorem dX11_init_5 : decode cX11_init 5 = .ok (.iconst 4, 1) := by decide +kernel
theorem dX11_init_6 : decode cX11_init 6 = .ok (.anewarray 11, 3) := by decide +kernel
theorem dX11_init_9 : decode cX11_init 9 = .ok (.putfield 13, 3) := by decide +kernel
theorem dX11_init_12 : decode cX11_init 12 = .ok (.aload_n 0, 1) := by decide +kernel
theorem dX11_init_13 : decode cX11_init 13 = .ok (.new 17, 3) := by decide +kernel
theorem dX11_init_16 : decode cX11_init 16 = .ok (.dup, 1) := by decide +kernel
theorem dX11_init_17 : decode cX11_init 17 = .ok (.invokespecial 19, 3) := by decide +kernel
theorem dX11_init_20 : decode cX11_init 20 = .ok (.putfield 20, 3) := by decide +kernel
theorem dX11_init_23 : decode cX11_init 23 = .ok (.aload_n 0, 1) := by decide +kernel
theorem dX11_init_24 : decode cX11_init 24 = .ok (.new 24, 3) := by decide +kernel
theorem dX11_init_27 : decode cX11_init 27 = .ok (.dup, 1) := by decide +kernel
theorem dX11_init_28 : decode cX11_init 28 = .ok (.invokespecial 26, 3) := by decide +kernel
theorem dX11_init_31 : decode cX11_init 31 = .ok (.putfield 27, 3) := by decide +kernel
theorem dX11_init_34 : decode cX11_init 34 = .ok (.aload_n 0, 1) := by decide +kernel
theorem dX11_init_35 : decode cX11_init 35 = .ok (.new 31, 3) := by decide +kernel
theorem dX11_init_38 : decode cX11_init 38 = .ok (.dup, 1) := by decide +kernel
theorem dX11_init_39 : decode cX11_init 39 = .ok (.invokespecial 33, 3) := by decide +kernel
theorem dX11_init_42 : decode cX11_init 42 = .ok (.putfield 34, 3) := by decide +kernel
theorem dX11_init_45 : decode cX11_init 45 = .ok (.aload_n 0, 1) := by decide +kernel
theorem dX11_init_46 : decode cX11_init 46 = .ok (.new 38, 3) := by decide +kernel
theorem dX11_init_49 : decode cX11_init 49 = .ok (.dup, 1) := by decide +kernel
theorem dX11_init_50 : decode cX11_init 50 = .ok (.invokespecial 40, 3) := by decide +kernel
theorem dX11_init_53 : decode cX11_init 53 = .ok (.putfield 41, 3) := by decide +kernel
theorem dX11_init_56 : decode cX11_init 56 = .ok (.aload_n 0, 1) := by decide +kernel
theorem dX11_init_57 : decode cX11_init 57 = .ok (.new 45, 3) := by decide +kernel
theorem dX11_init_60 : decode cX11_init 60 = .ok (.dup, 1) := by decide +kernel
theorem dX11_init_61 : decode cX11_init 61 = .ok (.invokespecial 47, 3) := by decide +kernel
theorem dX11_init_64 : decode cX11_init 64 = .ok (.putfield 48, 3) := by decide +kernel
theorem dX11_init_67 : decode cX11_init 67 = .ok (.aload_n 0, 1) := by decide +kernel
theorem dX11_init_68 : decode cX11_init 68 = .ok (.bipush 10, 2) := by decide +kernel
theorem dX11_init_70 : decode cX11_init 70 = .ok (.newarray .int, 2) := by decide +kernel
theorem dX11_init_72 : decode cX11_init 72 = .ok (.putfield 52, 3) := by decide +kernel
theorem dX11_init_75 : decode cX11_init 75 = .ok (.aload_n 0, 1) := by decide +kernel
theorem dX11_init_76 : decode cX11_init 76 = .ok (.bipush 125, 2) := by decide +kernel
theorem dX11_init_78 : decode cX11_init 78 = .ok (.newarray .int, 2) := by decide +kernel
theorem dX11_init_80 : decode cX11_init 80 = .ok (.putfield 56, 3) := by decide +kernel
theorem dX11_init_83 : decode cX11_init 83 = .ok (.aload_n 0, 1) := by decide +kernel
theorem dX11_init_84 : decode cX11_init 84 = .ok (.bipush 125, 2) := by decide +kernel
theorem dX11_init_86 : decode cX11_init 86 = .ok (.newarray .int, 2) := by decide +kernel
theorem dX11_init_88 : decode cX11_init 88 = .ok (.putfield 59, 3) := by decide +kernel
theorem dX11_init_91 : decode cX11_init 91 = .ok (.aload_n 0, 1) := by decide +kernel
theorem dX11_init_92 : decode cX11_init 92 = .ok (.new 62, 3) := by decide +kernel
theorem dX11_init_95 : decode cX11_init 95 = .ok (.dup, 1) := by decide +kernel
theorem dX11_init_96 : decode cX11_init 96 = .ok (.invokespecial 64, 3) := by decide +kernel
theorem dX11_init_99 : decode cX11_init 99 = .ok (.putfield 65, 3) := by decide +kernel
theorem dX11_init_102 : decode cX11_init 102 = .ok (.aload_n 0, 1) := by decide +kernel
theorem dX11_init_103 : decode cX11_init 103 = .ok (.new 62, 3) := by decide +kernel
theorem dX11_init_106 : decode cX11_init 106 = .ok (.dup, 1) := by decide +kernel
theorem dX11_init_107 : decode cX11_init 107 = .ok (.invokespecial 64, 3) := by decide +kernel
theorem dX11_init_110 : decode cX11_init 110 = .ok (.putfield 69, 3) := by decide +kernel
theorem dX11_init_113 : decode cX11_init 113 = .ok (.aload_n 0, 1) := by decide +kernel
theorem dX11_init_114 : decode cX11_init 114 = .ok (.iconst 0, 1) := by decide +kernel
theorem dX11_init_115 : decode cX11_init 115 = .ok (.putfield 72, 3) := by decide +kernel
theorem dX11_init_118 : decode cX11_init 118 = .ok (.iconst 0, 1) := by decide +kernel
theorem dX11_init_119 : decode cX11_init 119 = .ok (.istore_n 1, 1) := by decide +kernel
theorem dX11_init_120 : decode cX11_init 120 = .ok (.iload_n 1, 1) := by decide +kernel
theorem dX11_init_121 : decode cX11_init 121 = .ok (.iconst 4, 1) := by decide +kernel
theorem dX11_init_122 : decode cX11_init 122 = .ok (.if_icmp .ge 22, 3) := by decide +kernel
theorem dX11_init_125 : decode cX11_init 125 = .ok (.aload_n 0, 1) := by decide +kernel
theorem dX11_init_126 : decode cX11_init 126 = .ok (.getfield 13, 3) := by decide +kernel
theorem dX11_init_129 : decode cX11_init 129 = .ok (.iload_n 1, 1) := by decide +kernel
theorem dX11_init_130 : decode cX11_init 130 = .ok (.new 11, 3) := by decide +kernel
theorem dX11_init_133 : decode cX11_init 133 = .ok (.dup, 1) := by decide +kernel
theorem dX11_init_134 : decode cX11_init 134 = .ok (.invokespecial 76, 3) := by decide +kernel
theorem dX11_init_137 : decode cX11_init 137 = .ok (.aastore, 1) := by decide +kernel
theorem dX11_init_138 : decode cX11_init 138 = .ok (.iinc 1 1, 3) := by decide +kernel
theorem dX11_init_141 : decode cX11_init 141 = .ok (.goto (-21), 3) := by decide +kernel
theorem dX11_init_144 : decode cX11_init 144 = .ok (.return_, 1) := by decide +kernel
theorem dX11_lake_0 : decode cX11_lake 0 = .ok (.aload_n 0, 1) := by decide +kernel
theorem dX11_lake_1 : decode cX11_lake 1 = .ok (.iconst 0, 1) := by decide +kernel
theorem dX11_lake_2 : decode cX11_lake 2 = .ok (.putfield 72, 3) := by decide +kernel
theorem dX11_lake_5 : decode cX11_lake 5 = .ok (.iload_n 1, 1) := by decide +kernel
theorem dX11_lake_6 : decode cX11_lake 6 = .ok (.invokestatic 77, 3) := by decide +kernel
theorem dX11_lake_9 : decode cX11_lake 9 = .ok (.ifCond .ne 5, 3) := by decide +kernel
theorem dX11_lake_12 : decode cX11_lake 12 = .ok (.iconst (-1), 1) := by decide +kernel
theorem dX11_lake_13 : decode cX11_lake 13 = .ok (.ireturn, 1) := by decide +kernel
theorem dX11_lake_14 : decode cX11_lake 14 = .ok (.iload_n 2, 1) := by decide +kernel
theorem dX11_lake_15 : decode cX11_lake 15 = .ok (.invokestatic 81, 3) := by decide +kernel
theorem dX11_lake_18 : decode cX11_lake 18 = .ok (.ifCond .ne 6, 3) := by decide +kernel
theorem dX11_lake_21 : decode cX11_lake 21 = .ok (.bipush (-2), 2) := by decide +kernel
theorem dX11_lake_23 : decode cX11_lake 23 = .ok (.ireturn, 1) := by decide +kernel
theorem dX11_lake_24 : decode cX11_lake 24 = .ok (.aload_n 0, 1) := by decide +kernel
theorem dX11_lake_25 : decode cX11_lake 25 = .ok (.getfield 13, 3) := by decide +kernel
theorem dX11_lake_28 : decode cX11_lake 28 = .ok (.iload_n 1, 1) := by decide +kernel
theorem dX11_lake_29 : decode cX11_lake 29 = .ok (.aaload, 1) := by decide +kernel
theorem dX11_lake_30 : decode cX11_lake 30 = .ok (.astore 5, 2) := by decide +kernel
theorem dX11_lake_32 : decode cX11_lake 32 = .ok (.aload 5, 2) := by decide +kernel
theorem dX11_lake_34 : decode cX11_lake 34 = .ok (.iload_n 2, 1) := by decide +kernel
theorem dX11_lake_35 : decode cX11_lake 35 = .ok (.iload_n 3, 1) := by decide +kernel
theorem dX11_lake_36 : decode cX11_lake 36 = .ok (.iload 4, 2) := by decide +kernel
theorem dX11_lake_38 : decode cX11_lake 38 = .ok (.invokestatic 84, 3) := by decide +kernel
theorem dX11_lake_41 : decode cX11_lake 41 = .ok (.istore 6, 2) := by decide +kernel
theorem dX11_lake_43 : decode cX11_lake 43 = .ok (.iload 6, 2) := by decide +kernel
theorem dX11_lake_45 : decode cX11_lake 45 = .ok (.ifCond .eq 10, 3) := by decide +kernel
theorem dX11_lake_48 : decode cX11_lake 48 = .ok (.aload_n 0, 1) := by decide +kernel
theorem dX11_lake_49 : decode cX11_lake 49 = .ok (.iload 6, 2) := by decide +kernel
theorem dX11_lake_51 : decode cX11_lake 51 = .ok (.invokevirtual 88, 3) := by decide +kernel
theorem dX11_lake_54 : decode cX11_lake 54 = .ok (.ireturn, 1) := by decide +kernel
theorem dX11_lake_55 : decode cX11_lake 55 = .ok (.aload_n 0, 1) := by decide +kernel
theorem dX11_lake_56 : decode cX11_lake 56 = .ok (.getfield 20, 3) := by decide +kernel
theorem dX11_lake_59 : decode cX11_lake 59 = .ok (.aload 5, 2) := by decide +kernel
theorem dX11_lake_61 : decode cX11_lake 61 = .ok (.getfield 92, 3) := by decide +kernel
theorem dX11_lake_64 : decode cX11_lake 64 = .ok (.iload_n 3, 1) := by decide +kernel
theorem dX11_lake_65 : decode cX11_lake 65 = .ok (.iload 4, 2) := by decide +kernel
theorem dX11_lake_67 : decode cX11_lake 67 = .ok (.invokevirtual 95, 3) := by decide +kernel
theorem dX11_lake_70 : decode cX11_lake 70 = .ok (.aload_n 0, 1) := by decide +kernel
theorem dX11_lake_71 : decode cX11_lake 71 = .ok (.getfield 69, 3) := by decide +kernel
theorem dX11_lake_74 : decode cX11_lake 74 = .ok (.invokevirtual 99, 3) := by decide +kernel
theorem dX11_lake_77 : decode cX11_lake 77 = .ok (.aload_n 0, 1) := by decide +kernel
theorem dX11_lake_78 : decode cX11_lake 78 = .ok (.getfield 20, 3) := by decide +kernel
theorem dX11_lake_81 : decode cX11_lake 81 = .ok (.aload_n 0, 1) := by decide +kernel
theorem dX11_lake_82 : decode cX11_lake 82 = .ok (.getfield 69, 3) := by decide +kernel
theorem dX11_lake_85 : decode cX11_lake 85 = .ok (.invokevirtual 102, 3) := by decide +kernel
theorem dX11_lake_88 : decode cX11_lake 88 = .ok (.ifCond .eq 31, 3) := by decide +kernel
theorem dX11_lake_91 : decode cX11_lake 91 = .ok (.aload_n 0, 1) := by decide +kernel
theorem dX11_lake_92 : decode cX11_lake 92 = .ok (.getfield 20, 3) := by decide +kernel
theorem dX11_lake_95 : decode cX11_lake 95 = .ok (.aload_n 0, 1) := by decide +kernel
theorem dX11_lake_96 : decode cX11_lake 96 = .ok (.getfield 69, 3) := by decide +kernel
theorem dX11_lake_99 : decode cX11_lake 99 = .ok (.invokevirtual 106, 3) := by decide +kernel
theorem dX11_lake_102 : decode cX11_lake 102 = .ok (.ifCond .eq 17, 3) := by decide +kernel
theorem dX11_lake_105 : decode cX11_lake 105 = .ok (.aload_n 0, 1) := by decide +kernel
theorem dX11_lake_106 : decode cX11_lake 106 = .ok (.getfield 20, 3) := by decide +kernel
theorem dX11_lake_109 : decode cX11_lake 109 = .ok (.aload_n 0, 1) := by decide +kernel
theorem dX11_lake_110 : decode cX11_lake 110 = .ok (.getfield 69, 3) := by decide +kernel
theorem dX11_lake_113 : decode cX11_lake 113 = .ok (.invokevirtual 109, 3) := by decide +kernel
theorem dX11_lake_116 : decode cX11_lake 116 = .ok (.ifCond .ne 14, 3) := by decide +kernel
theorem dX11_lake_119 : decode cX11_lake 119 = .ok (.bipush (-100), 2) := by decide +kernel
theorem dX11_lake_121 : decode cX11_lake 121 = .ok (.aload_n 0, 1) := by decide +kernel
theorem dX11_lake_122 : decode cX11_lake 122 = .ok (.getfield 20, 3) := by decide +kernel
theorem dX11_lake_125 : decode cX11_lake 125 = .ok (.getfield 112, 3) := by decide +kernel
theorem dX11_lake_128 : decode cX11_lake 128 = .ok (.isub, 1) := by decide +kernel
theorem dX11_lake_129 : decode cX11_lake 129 = .ok (.ireturn, 1) := by decide +kernel
theorem dX11_lake_130 : decode cX11_lake 130 = .ok (.aload_n 0, 1) := by decide +kernel
theorem dX11_lake_131 : decode cX11_lake 131 = .ok (.invokevirtual 115, 3) := by decide +kernel
theorem dX11_lake_134 : decode cX11_lake 134 = .ok (.aload_n 0, 1) := by decide +kernel
theorem dX11_lake_135 : decode cX11_lake 135 = .ok (.getfield 65, 3) := by decide +kernel
theorem dX11_lake_138 : decode cX11_lake 138 = .ok (.getfield 118, 3) := by decide +kernel
theorem dX11_lake_141 : decode cX11_lake 141 = .ok (.ireturn, 1) := by decide +kernel
theorem dX11_faultOfText_0 : decode cX11_faultOfText 0 = .ok (.aload_n 0, 1) := by decide +kernel
theorem dX11_faultOfText_1 : decode cX11_faultOfText 1 = .ok (.iload_n 1, 1) := by decide +kernel
theorem dX11_faultOfText_2 : decode cX11_faultOfText 2 = .ok (.invokevirtual 121, 3) := by decide +kernel
theorem dX11_faultOfText_5 : decode cX11_faultOfText 5 = .ok (.istore 4, 2) := by decide +kernel
theorem dX11_faultOfText_7 : decode cX11_faultOfText 7 = .ok (.iload 4, 2) := by decide +kernel
theorem dX11_faultOfText_9 : decode cX11_faultOfText 9 = .ok (.ifCond .eq 6, 3) := by decide +kernel
theorem dX11_faultOfText_12 : decode cX11_faultOfText 12 = .ok (.iload 4, 2) := by decide +kernel
theorem dX11_faultOfText_14 : decode cX11_faultOfText 14 = .ok (.ireturn, 1) := by decide +kernel
theorem dX11_faultOfText_15 : decode cX11_faultOfText 15 = .ok (.iload_n 3, 1) := by decide +kernel
theorem dX11_faultOfText_16 : decode cX11_faultOfText 16 = .ok (.ifCond .ge 5, 3) := by decide +kernel
theorem dX11_faultOfText_19 : decode cX11_faultOfText 19 = .ok (.iconst 4, 1) := by decide +kernel
theorem dX11_faultOfText_20 : decode cX11_faultOfText 20 = .ok (.ireturn, 1) := by decide +kernel
theorem dX11_faultOfText_21 : decode cX11_faultOfText 21 = .ok (.aload_n 0, 1) := by decide +kernel
theorem dX11_faultOfText_22 : decode cX11_faultOfText 22 = .ok (.iload_n 2, 1) := by decide +kernel
theorem dX11_faultOfText_23 : decode cX11_faultOfText 23 = .ok (.iload_n 3, 1) := by decide +kernel
theorem dX11_faultOfText_24 : decode cX11_faultOfText 24 = .ok (.invokevirtual 124, 3) := by decide +kernel
theorem dX11_faultOfText_27 : decode cX11_faultOfText 27 = .ok (.ifCond .eq 7, 3) := by decide +kernel
theorem dX11_faultOfText_30 : decode cX11_faultOfText 30 = .ok (.iconst 0, 1) := by decide +kernel
theorem dX11_faultOfText_31 : decode cX11_faultOfText 31 = .ok (.goto 4, 3) := by decide +kernel
theorem dX11_faultOfText_34 : decode cX11_faultOfText 34 = .ok (.iconst 3, 1) := by decide +kernel
theorem dX11_faultOfText_35 : decode cX11_faultOfText 35 = .ok (.ireturn, 1) := by decide +kernel
theorem dX11_takeSpareWater_0 : decode cX11_takeSpareWater 0 = .ok (.aload_n 0, 1) := by decide +kernel
theorem dX11_takeSpareWater_1 : decode cX11_takeSpareWater 1 = .ok (.getfield 65, 3) := by decide +kernel
theorem dX11_takeSpareWater_4 : decode cX11_takeSpareWater 4 = .ok (.astore_n 1, 1) := by decide +kernel
theorem dX11_takeSpareWater_5 : decode cX11_takeSpareWater 5 = .ok (.aload_n 0, 1) := by decide +kernel
theorem dX11_takeSpareWater_6 : decode cX11_takeSpareWater 6 = .ok (.aload_n 0, 1) := by decide +kernel
theorem dX11_takeSpareWater_7 : decode cX11_takeSpareWater 7 = .ok (.getfield 69, 3) := by decide +kernel
theorem dX11_takeSpareWater_10 : decode cX11_takeSpareWater 10 = .ok (.putfield 65, 3) := by decide +kernel
theorem dX11_takeSpareWater_13 : decode cX11_takeSpareWater 13 = .ok (.aload_n 0, 1) := by decide +kernel
theorem dX11_takeSpareWater_14 : decode cX11_takeSpareWater 14 = .ok (.aload_n 1, 1) := by decide +kernel
theorem dX11_takeSpareWater_15 : decode cX11_takeSpareWater 15 = .ok (.putfield 69, 3) := by decide +kernel
theorem dX11_takeSpareWater_18 : decode cX11_takeSpareWater 18 = .ok (.aload_n 0, 1) := by decide +kernel
theorem dX11_takeSpareWater_19 : decode cX11_takeSpareWater 19 = .ok (.getfield 27, 3) := by decide +kernel
theorem dX11_takeSpareWater_22 : decode cX11_takeSpareWater 22 = .ok (.iconst 0, 1) := by decide +kernel
theorem dX11_takeSpareWater_23 : decode cX11_takeSpareWater 23 = .ok (.putfield 128, 3) := by decide +kernel
theorem dX11_takeSpareWater_26 : decode cX11_takeSpareWater 26 = .ok (.aload_n 0, 1) := by decide +kernel
theorem dX11_takeSpareWater_27 : decode cX11_takeSpareWater 27 = .ok (.getfield 41, 3) := by decide +kernel
theorem dX11_takeSpareWater_30 : decode cX11_takeSpareWater 30 = .ok (.iconst 1, 1) := by decide +kernel
theorem dX11_takeSpareWater_31 : decode cX11_takeSpareWater 31 = .ok (.putfield 131, 3) := by decide +kernel
theorem dX11_takeSpareWater_34 : decode cX11_takeSpareWater 34 = .ok (.return_, 1) := by decide +kernel
theorem dX11_ofBoat_0 : decode cX11_ofBoat 0 = .ok (.aload_n 0, 1) := by decide +kernel
theorem dX11_ofBoat_1 : decode cX11_ofBoat 1 = .ok (.iload_n 1, 1) := by decide +kernel
theorem dX11_ofBoat_2 : decode cX11_ofBoat 2 = .ok (.invokevirtual 135, 3) := by decide +kernel
theorem dX11_ofBoat_5 : decode cX11_ofBoat 5 = .ok (.ifCond .ne 5, 3) := by decide +kernel
theorem dX11_ofBoat_8 : decode cX11_ofBoat 8 = .ok (.iconst (-1), 1) := by decide +kernel
theorem dX11_ofBoat_9 : decode cX11_ofBoat 9 = .ok (.ireturn, 1) := by decide +kernel
theorem dX11_ofBoat_10 : decode cX11_ofBoat 10 = .ok (.aload_n 0, 1) := by decide +kernel
theorem dX11_ofBoat_11 : decode cX11_ofBoat 11 = .ok (.getfield 65, 3) := by decide +kernel
theorem dX11_ofBoat_14 : decode cX11_ofBoat 14 = .ok (.getfield 138, 3) := by decide +kernel
theorem dX11_ofBoat_17 : decode cX11_ofBoat 17 = .ok (.iload_n 1, 1) := by decide +kernel
theorem dX11_ofBoat_18 : decode cX11_ofBoat 18 = .ok (.aaload, 1) := by decide +kernel
theorem dX11_ofBoat_19 : decode cX11_ofBoat 19 = .ok (.astore_n 3, 1) := by decide +kernel
theorem dX11_ofBoat_20 : decode cX11_ofBoat 20 = .ok (.iload_n 2, 1) := by decide +kernel
theorem dX11_ofBoat_21 : decode cX11_ofBoat 21 = .ok (.tableswitch 51 0 3 #[31, 36, 41, 46], 31) := by decide +kernel
theorem dX11_ofBoat_52 : decode cX11_ofBoat 52 = .ok (.aload_n 3, 1) := by decide +kernel
theorem dX11_ofBoat_53 : decode cX11_ofBoat 53 = .ok (.invokevirtual 142, 3) := by decide +kernel
theorem dX11_ofBoat_56 : decode cX11_ofBoat 56 = .ok (.ireturn, 1) := by decide +kernel
theorem dX11_ofBoat_57 : decode cX11_ofBoat 57 = .ok (.aload_n 3, 1) := by decide +kernel
theorem dX11_ofBoat_58 : decode cX11_ofBoat 58 = .ok (.getfield 148, 3) := by decide +kernel
theorem dX11_ofBoat_61 : decode cX11_ofBoat 61 = .ok (.ireturn, 1) := by decide +kernel
theorem dX11_ofBoat_62 : decode cX11_ofBoat 62 = .ok (.aload_n 3, 1) := by decide +kernel
theorem dX11_ofBoat_63 : decode cX11_ofBoat 63 = .ok (.getfield 151, 3) := by decide +kernel
theorem dX11_ofBoat_66 : decode cX11_ofBoat 66 = .ok (.ireturn, 1) := by decide +kernel
theorem dX11_ofBoat_67 : decode cX11_ofBoat 67 = .ok (.aload_n 3, 1) := by decide +kernel
theorem dX11_ofBoat_68 : decode cX11_ofBoat 68 = .ok (.invokevirtual 154, 3) := by decide +kernel
theorem dX11_ofBoat_71 : decode cX11_ofBoat 71 = .ok (.ireturn, 1) := by decide +kernel
theorem dX11_ofBoat_72 : decode cX11_ofBoat 72 = .ok (.bipush (-2), 2) := by decide +kernel
theorem dX11_ofBoat_74 : decode cX11_ofBoat 74 = .ok (.ireturn, 1) := by decide +kernel
theorem dX11_wind_0 : decode cX11_wind 0 = .ok (.aload_n 0, 1) := by decide +kernel
theorem dX11_wind_1 : decode cX11_wind 1 = .ok (.getfield 65, 3) := by decide +kernel
theorem dX11_wind_4 : decode cX11_wind 4 = .ok (.invokevirtual 157, 3) := by decide +kernel
theorem dX11_wind_7 : decode cX11_wind 7 = .ok (.ifCond .ne 6, 3) := by decide +kernel
theorem dX11_wind_10 : decode cX11_wind 10 = .ok (.bipush (-3), 2) := by decide +kernel
theorem dX11_wind_12 : decode cX11_wind 12 = .ok (.ireturn, 1) := by decide +kernel
theorem dX11_wind_13 : decode cX11_wind 13 = .ok (.aload_n 0, 1) := by decide +kernel
theorem dX11_wind_14 : decode cX11_wind 14 = .ok (.iload_n 1, 1) := by decide +kernel
theorem dX11_wind_15 : decode cX11_wind 15 = .ok (.invokevirtual 161, 3) := by decide +kernel
theorem dX11_wind_18 : decode cX11_wind 18 = .ok (.ifCond .eq 12, 3) := by decide +kernel
theorem dX11_wind_21 : decode cX11_wind 21 = .ok (.iload_n 2, 1) := by decide +kernel
theorem dX11_wind_22 : decode cX11_wind 22 = .ok (.ifCond .lt 8, 3) := by decide +kernel
theorem dX11_wind_25 : decode cX11_wind 25 = .ok (.iload_n 2, 1) := by decide +kernel
theorem dX11_wind_26 : decode cX11_wind 26 = .ok (.iconst 3, 1) := by decide +kernel
theorem dX11_wind_27 : decode cX11_wind 27 = .ok (.if_icmp .lt 6, 3) := by decide +kernel
theorem dX11_wind_30 : decode cX11_wind 30 = .ok (.bipush (-2), 2) := by decide +kernel
theorem dX11_wind_32 : decode cX11_wind 32 = .ok (.ireturn, 1) := by decide +kernel
theorem dX11_wind_33 : decode cX11_wind 33 = .ok (.aload_n 0, 1) := by decide +kernel
theorem dX11_wind_34 : decode cX11_wind 34 = .ok (.getfield 65, 3) := by decide +kernel
theorem dX11_wind_37 : decode cX11_wind 37 = .ok (.getfield 164, 3) := by decide +kernel
theorem dX11_wind_40 : decode cX11_wind 40 = .ok (.iload_n 1, 1) := by decide +kernel
theorem dX11_wind_41 : decode cX11_wind 41 = .ok (.iaload, 1) := by decide +kernel
theorem dX11_wind_42 : decode cX11_wind 42 = .ok (.istore_n 3, 1) := by decide +kernel
theorem dX11_wind_43 : decode cX11_wind 43 = .ok (.aload_n 0, 1) := by decide +kernel
theorem dX11_wind_44 : decode cX11_wind 44 = .ok (.getfield 65, 3) := by decide +kernel
theorem dX11_wind_47 : decode cX11_wind 47 = .ok (.getfield 164, 3) := by decide +kernel
theorem dX11_wind_50 : decode cX11_wind 50 = .ok (.iload_n 1, 1) := by decide +kernel
theorem dX11_wind_51 : decode cX11_wind 51 = .ok (.iload_n 2, 1) := by decide +kernel
theorem dX11_wind_52 : decode cX11_wind 52 = .ok (.iastore, 1) := by decide +kernel
theorem dX11_wind_53 : decode cX11_wind 53 = .ok (.iload_n 3, 1) := by decide +kernel
theorem dX11_wind_54 : decode cX11_wind 54 = .ok (.ireturn, 1) := by decide +kernel
theorem dX11_isle_0 : decode cX11_isle 0 = .ok (.aload_n 0, 1) := by decide +kernel
theorem dX11_isle_1 : decode cX11_isle 1 = .ok (.getfield 65, 3) := by decide +kernel
theorem dX11_isle_4 : decode cX11_isle 4 = .ok (.invokevirtual 157, 3) := by decide +kernel
theorem dX11_isle_7 : decode cX11_isle 7 = .ok (.ifCond .ne 6, 3) := by decide +kernel
theorem dX11_isle_10 : decode cX11_isle 10 = .ok (.bipush (-3), 2) := by decide +kernel
theorem dX11_isle_12 : decode cX11_isle 12 = .ok (.ireturn, 1) := by decide +kernel
theorem dX11_isle_13 : decode cX11_isle 13 = .ok (.iload_n 1, 1) := by decide +kernel
theorem dX11_isle_14 : decode cX11_isle 14 = .ok (.ifCond .le 14, 3) := by decide +kernel
theorem dX11_isle_17 : decode cX11_isle 17 = .ok (.iload_n 1, 1) := by decide +kernel
theorem dX11_isle_18 : decode cX11_isle 18 = .ok (.aload_n 0, 1) := by decide +kernel
theorem dX11_isle_19 : decode cX11_isle 19 = .ok (.getfield 65, 3) := by decide +kernel
theorem dX11_isle_22 : decode cX11_isle 22 = .ok (.getfield 167, 3) := by decide +kernel
theorem dX11_isle_25 : decode cX11_isle 25 = .ok (.if_icmp .lt 6, 3) := by decide +kernel
theorem dX11_isle_28 : decode cX11_isle 28 = .ok (.bipush (-2), 2) := by decide +kernel
theorem dX11_isle_30 : decode cX11_isle 30 = .ok (.ireturn, 1) := by decide +kernel
theorem dX11_isle_31 : decode cX11_isle 31 = .ok (.aload_n 0, 1) := by decide +kernel
theorem dX11_isle_32 : decode cX11_isle 32 = .ok (.getfield 65, 3) := by decide +kernel
theorem dX11_isle_35 : decode cX11_isle 35 = .ok (.iload_n 1, 1) := by decide +kernel
theorem dX11_isle_36 : decode cX11_isle 36 = .ok (.invokevirtual 170, 3) := by decide +kernel
theorem dX11_isle_39 : decode cX11_isle 39 = .ok (.iload_n 2, 1) := by decide +kernel
theorem dX11_isle_40 : decode cX11_isle 40 = .ok (.if_icmp .ne 5, 3) := by decide +kernel
theorem dX11_isle_43 : decode cX11_isle 43 = .ok (.iconst 0, 1) := by decide +kernel
theorem dX11_isle_44 : decode cX11_isle 44 = .ok (.ireturn, 1) := by decide +kernel
theorem dX11_isle_45 : decode cX11_isle 45 = .ok (.aload_n 0, 1) := by decide +kernel
theorem dX11_isle_46 : decode cX11_isle 46 = .ok (.getfield 65, 3) := by decide +kernel
theorem dX11_isle_49 : decode cX11_isle 49 = .ok (.dup, 1) := by decide +kernel
theorem dX11_isle_50 : decode cX11_isle 50 = .ok (.getfield 173, 3) := by decide +kernel
theorem dX11_isle_53 : decode cX11_isle 53 = .ok (.iconst 1, 1) := by decide +kernel
theorem dX11_isle_54 : decode cX11_isle 54 = .ok (.iload_n 1, 1) := by decide +kernel
theorem dX11_isle_55 : decode cX11_isle 55 = .ok (.ishl, 1) := by decide +kernel
theorem dX11_isle_56 : decode cX11_isle 56 = .ok (.ixor, 1) := by decide +kernel
theorem dX11_isle_57 : decode cX11_isle 57 = .ok (.putfield 173, 3) := by decide +kernel
theorem dX11_isle_60 : decode cX11_isle 60 = .ok (.aload_n 0, 1) := by decide +kernel
theorem dX11_isle_61 : decode cX11_isle 61 = .ok (.getfield 41, 3) := by decide +kernel
theorem dX11_isle_64 : decode cX11_isle 64 = .ok (.iconst 1, 1) := by decide +kernel
theorem dX11_isle_65 : decode cX11_isle 65 = .ok (.putfield 131, 3) := by decide +kernel
theorem dX11_isle_68 : decode cX11_isle 68 = .ok (.iconst 1, 1) := by decide +kernel
theorem dX11_isle_69 : decode cX11_isle 69 = .ok (.ireturn, 1) := by decide +kernel
theorem dX11_plan_0 : decode cX11_plan 0 = .ok (.aload_n 0, 1) := by decide +kernel
theorem dX11_plan_1 : decode cX11_plan 1 = .ok (.iconst 0, 1) := by decide +kernel
theorem dX11_plan_2 : decode cX11_plan 2 = .ok (.putfield 72, 3) := by decide +kernel
theorem dX11_plan_5 : decode cX11_plan 5 = .ok (.aload_n 0, 1) := by decide +kernel
theorem dX11_plan_6 : decode cX11_plan 6 = .ok (.iload_n 1, 1) := by decide +kernel
theorem dX11_plan_7 : decode cX11_plan 7 = .ok (.iload_n 2, 1) := by decide +kernel
theorem dX11_plan_8 : decode cX11_plan 8 = .ok (.iload 4, 2) := by decide +kernel
theorem dX11_plan_10 : decode cX11_plan 10 = .ok (.invokevirtual 176, 3) := by decide +kernel
theorem dX11_plan_13 : decode cX11_plan 13 = .ok (.istore 6, 2) := by decide +kernel
theorem dX11_plan_15 : decode cX11_plan 15 = .ok (.iload 6, 2) := by decide +kernel
theorem dX11_plan_17 : decode cX11_plan 17 = .ok (.ifCond .eq 6, 3) := by decide +kernel
theorem dX11_plan_20 : decode cX11_plan 20 = .ok (.iload 6, 2) := by decide +kernel
theorem dX11_plan_22 : decode cX11_plan 22 = .ok (.ireturn, 1) := by decide +kernel
theorem dX11_plan_23 : decode cX11_plan 23 = .ok (.iload 5, 2) := by decide +kernel
theorem dX11_plan_25 : decode cX11_plan 25 = .ok (.invokestatic 180, 3) := by decide +kernel
theorem dX11_plan_28 : decode cX11_plan 28 = .ok (.ifCond .ne 6, 3) := by decide +kernel
theorem dX11_plan_31 : decode cX11_plan 31 = .ok (.bipush (-2), 2) := by decide +kernel
theorem dX11_plan_33 : decode cX11_plan 33 = .ok (.ireturn, 1) := by decide +kernel
theorem dX11_plan_34 : decode cX11_plan 34 = .ok (.aload_n 0, 1) := by decide +kernel
theorem dX11_plan_35 : decode cX11_plan 35 = .ok (.iload_n 1, 1) := by decide +kernel
theorem dX11_plan_36 : decode cX11_plan 36 = .ok (.iload_n 2, 1) := by decide +kernel
theorem dX11_plan_37 : decode cX11_plan 37 = .ok (.iload_n 3, 1) := by decide +kernel
theorem dX11_plan_38 : decode cX11_plan 38 = .ok (.iload 4, 2) := by decide +kernel
theorem dX11_plan_40 : decode cX11_plan 40 = .ok (.invokevirtual 183, 3) := by decide +kernel
theorem dX11_plan_43 : decode cX11_plan 43 = .ok (.istore 6, 2) := by decide +kernel
theorem dX11_plan_45 : decode cX11_plan 45 = .ok (.iload 6, 2) := by decide +kernel
theorem dX11_plan_47 : decode cX11_plan 47 = .ok (.ifCond .eq 6, 3) := by decide +kernel
theorem dX11_plan_50 : decode cX11_plan 50 = .ok (.iload 6, 2) := by decide +kernel
theorem dX11_plan_52 : decode cX11_plan 52 = .ok (.ireturn, 1) := by decide +kernel
theorem dX11_plan_53 : decode cX11_plan 53 = .ok (.aload_n 0, 1) := by decide +kernel
theorem dX11_plan_54 : decode cX11_plan 54 = .ok (.getfield 34, 3) := by decide +kernel
theorem dX11_plan_57 : decode cX11_plan 57 = .ok (.aload_n 0, 1) := by decide +kernel
theorem dX11_plan_58 : decode cX11_plan 58 = .ok (.getfield 65, 3) := by decide +kernel
theorem dX11_plan_61 : decode cX11_plan 61 = .ok (.aload_n 0, 1) := by decide +kernel
theorem dX11_plan_62 : decode cX11_plan 62 = .ok (.getfield 52, 3) := by decide +kernel
theorem dX11_plan_65 : decode cX11_plan 65 = .ok (.iload 4, 2) := by decide +kernel
theorem dX11_plan_67 : decode cX11_plan 67 = .ok (.invokevirtual 187, 3) := by decide +kernel
theorem dX11_plan_70 : decode cX11_plan 70 = .ok (.aload_n 0, 1) := by decide +kernel
theorem dX11_plan_71 : decode cX11_plan 71 = .ok (.iload 5, 2) := by decide +kernel
theorem dX11_plan_73 : decode cX11_plan 73 = .ok (.invokevirtual 191, 3) := by decide +kernel
theorem dX11_plan_76 : decode cX11_plan 76 = .ok (.ireturn, 1) := by decide +kernel
theorem dX11_isQuestion_0 : decode cX11_isQuestion 0 = .ok (.iload_n 0, 1) := by decide +kernel
theorem dX11_isQuestion_1 : decode cX11_isQuestion 1 = .ok (.ifCond .lt 8, 3) := by decide +kernel
theorem dX11_isQuestion_4 : decode cX11_isQuestion 4 = .ok (.iload_n 0, 1) := by decide +kernel
theorem dX11_isQuestion_5 : decode cX11_isQuestion 5 = .ok (.iconst 3, 1) := by decide +kernel
theorem dX11_isQuestion_6 : decode cX11_isQuestion 6 = .ok (.if_icmp .le 15, 3) := by decide +kernel
theorem dX11_isQuestion_9 : decode cX11_isQuestion 9 = .ok (.iload_n 0, 1) := by decide +kernel
theorem dX11_isQuestion_10 : decode cX11_isQuestion 10 = .ok (.bipush 10, 2) := by decide +kernel
theorem dX11_isQuestion_12 : decode cX11_isQuestion 12 = .ok (.if_icmp .lt 13, 3) := by decide +kernel
theorem dX11_isQuestion_15 : decode cX11_isQuestion 15 = .ok (.iload_n 0, 1) := by decide +kernel
theorem dX11_isQuestion_16 : decode cX11_isQuestion 16 = .ok (.bipush 13, 2) := by decide +kernel
theorem dX11_isQuestion_18 : decode cX11_isQuestion 18 = .ok (.if_icmp .ge 7, 3) := by decide +kernel
theorem dX11_isQuestion_21 : decode cX11_isQuestion 21 = .ok (.iconst 1, 1) := by decide +kernel
theorem dX11_isQuestion_22 : decode cX11_isQuestion 22 = .ok (.goto 4, 3) := by decide +kernel
theorem dX11_isQuestion_25 : decode cX11_isQuestion 25 = .ok (.iconst 0, 1) := by decide +kernel
theorem dX11_isQuestion_26 : decode cX11_isQuestion 26 = .ok (.ireturn, 1) := by decide +kernel
theorem dX11_answerOfVoyage_0 : decode cX11_answerOfVoyage 0 = .ok (.iload_n 1, 1) := by decide +kernel
theorem dX11_answerOfVoyage_1 : decode cX11_answerOfVoyage 1 = .ok (.tableswitch 67 0 3 #[31, 43, 51, 59], 31) := by decide +kernel
theorem dX11_answerOfVoyage_32 : decode cX11_answerOfVoyage 32 = .ok (.aload_n 0, 1) := by decide +kernel
theorem dX11_answerOfVoyage_33 : decode cX11_answerOfVoyage 33 = .ok (.getfield 34, 3) := by decide +kernel
theorem dX11_answerOfVoyage_36 : decode cX11_answerOfVoyage 36 = .ok (.aload_n 0, 1) := by decide +kernel
theorem dX11_answerOfVoyage_37 : decode cX11_answerOfVoyage 37 = .ok (.getfield 65, 3) := by decide +kernel
theorem dX11_answerOfVoyage_40 : decode cX11_answerOfVoyage 40 = .ok (.invokevirtual 194, 3) := by decide +kernel
theorem dX11_answerOfVoyage_43 : decode cX11_answerOfVoyage 43 = .ok (.ireturn, 1) := by decide +kernel
theorem dX11_answerOfVoyage_44 : decode cX11_answerOfVoyage 44 = .ok (.aload_n 0, 1) := by decide +kernel
theorem dX11_answerOfVoyage_45 : decode cX11_answerOfVoyage 45 = .ok (.getfield 34, 3) := by decide +kernel
theorem dX11_answerOfVoyage_48 : decode cX11_answerOfVoyage 48 = .ok (.getfield 198, 3) := by decide +kernel
theorem dX11_answerOfVoyage_51 : decode cX11_answerOfVoyage 51 = .ok (.ireturn, 1) := by decide +kernel
theorem dX11_answerOfVoyage_52 : decode cX11_answerOfVoyage 52 = .ok (.aload_n 0, 1) := by decide +kernel
theorem dX11_answerOfVoyage_53 : decode cX11_answerOfVoyage 53 = .ok (.getfield 34, 3) := by decide +kernel
theorem dX11_answerOfVoyage_56 : decode cX11_answerOfVoyage 56 = .ok (.getfield 201, 3) := by decide +kernel
theorem dX11_answerOfVoyage_59 : decode cX11_answerOfVoyage 59 = .ok (.ireturn, 1) := by decide +kernel
theorem dX11_answerOfVoyage_60 : decode cX11_answerOfVoyage 60 = .ok (.aload_n 0, 1) := by decide +kernel
theorem dX11_answerOfVoyage_61 : decode cX11_answerOfVoyage 61 = .ok (.getfield 34, 3) := by decide +kernel
theorem dX11_answerOfVoyage_64 : decode cX11_answerOfVoyage 64 = .ok (.getfield 204, 3) := by decide +kernel
theorem dX11_answerOfVoyage_67 : decode cX11_answerOfVoyage 67 = .ok (.ireturn, 1) := by decide +kernel
theorem dX11_answerOfVoyage_68 : decode cX11_answerOfVoyage 68 = .ok (.aload_n 0, 1) := by decide +kernel
theorem dX11_answerOfVoyage_69 : decode cX11_answerOfVoyage 69 = .ok (.iload_n 1, 1) := by decide +kernel
theorem dX11_answerOfVoyage_70 : decode cX11_answerOfVoyage 70 = .ok (.bipush 10, 2) := by decide +kernel
theorem dX11_answerOfVoyage_72 : decode cX11_answerOfVoyage 72 = .ok (.isub, 1) := by decide +kernel
theorem dX11_answerOfVoyage_73 : decode cX11_answerOfVoyage 73 = .ok (.invokevirtual 135, 3) := by decide +kernel
theorem dX11_answerOfVoyage_76 : decode cX11_answerOfVoyage 76 = .ok (.ifCond .eq 18, 3) := by decide +kernel
theorem dX11_answerOfVoyage_79 : decode cX11_answerOfVoyage 79 = .ok (.aload_n 0, 1) := by decide +kernel
theorem dX11_answerOfVoyage_80 : decode cX11_answerOfVoyage 80 = .ok (.getfield 34, 3) := by decide +kernel
theorem dX11_answerOfVoyage_83 : decode cX11_answerOfVoyage 83 = .ok (.getfield 207, 3) := by decide +kernel
theorem dX11_answerOfVoyage_86 : decode cX11_answerOfVoyage 86 = .ok (.iload_n 1, 1) := by decide +kernel
theorem dX11_answerOfVoyage_87 : decode cX11_answerOfVoyage 87 = .ok (.bipush 10, 2) := by decide +kernel
theorem dX11_answerOfVoyage_89 : decode cX11_answerOfVoyage 89 = .ok (.isub, 1) := by decide +kernel
theorem dX11_answerOfVoyage_90 : decode cX11_answerOfVoyage 90 = .ok (.iaload, 1) := by decide +kernel
theorem dX11_answerOfVoyage_91 : decode cX11_answerOfVoyage 91 = .ok (.goto 5, 3) := by decide +kernel
theorem dX11_answerOfVoyage_94 : decode cX11_answerOfVoyage 94 = .ok (.bipush (-9), 2) := by decide +kernel
theorem dX11_answerOfVoyage_96 : decode cX11_answerOfVoyage 96 = .ok (.ireturn, 1) := by decide +kernel
theorem dX11_refusalOfRow_0 : decode cX11_refusalOfRow 0 = .ok (.iload_n 1, 1) := by decide +kernel
theorem dX11_refusalOfRow_1 : decode cX11_refusalOfRow 1 = .ok (.invokestatic 77, 3) := by decide +kernel
theorem dX11_refusalOfRow_4 : decode cX11_refusalOfRow 4 = .ok (.ifCond .ne 5, 3) := by decide +kernel
theorem dX11_refusalOfRow_7 : decode cX11_refusalOfRow 7 = .ok (.iconst (-1), 1) := by decide +kernel
theorem dX11_refusalOfRow_8 : decode cX11_refusalOfRow 8 = .ok (.ireturn, 1) := by decide +kernel
theorem dX11_refusalOfRow_9 : decode cX11_refusalOfRow 9 = .ok (.iload_n 2, 1) := by decide +kernel
theorem dX11_refusalOfRow_10 : decode cX11_refusalOfRow 10 = .ok (.invokestatic 81, 3) := by decide +kernel
theorem dX11_refusalOfRow_13 : decode cX11_refusalOfRow 13 = .ok (.ifCond .eq 17, 3) := by decide +kernel
theorem dX11_refusalOfRow_16 : decode cX11_refusalOfRow 16 = .ok (.iload_n 3, 1) := by decide +kernel
theorem dX11_refusalOfRow_17 : decode cX11_refusalOfRow 17 = .ok (.ifCond .lt 13, 3) := by decide +kernel
theorem dX11_refusalOfRow_20 : decode cX11_refusalOfRow 20 = .ok (.iload_n 3, 1) := by decide +kernel
theorem dX11_refusalOfRow_21 : decode cX11_refusalOfRow 21 = .ok (.bipush 10, 2) := by decide +kernel
theorem dX11_refusalOfRow_23 : decode cX11_refusalOfRow 23 = .ok (.if_icmp .gt 7, 3) := by decide +kernel
theorem dX11_refusalOfRow_26 : decode cX11_refusalOfRow 26 = .ok (.iconst 0, 1) := by decide +kernel
theorem dX11_refusalOfRow_27 : decode cX11_refusalOfRow 27 = .ok (.goto 5, 3) := by decide +kernel
theorem dX11_refusalOfRow_30 : decode cX11_refusalOfRow 30 = .ok (.bipush (-2), 2) := by decide +kernel
theorem dX11_refusalOfRow_32 : decode cX11_refusalOfRow 32 = .ok (.ireturn, 1) := by decide +kernel
theorem dX11_takeOrders_0 : decode cX11_takeOrders 0 = .ok (.aload_n 0, 1) := by decide +kernel
theorem dX11_takeOrders_1 : decode cX11_takeOrders 1 = .ok (.getfield 13, 3) := by decide +kernel
theorem dX11_takeOrders_4 : decode cX11_takeOrders 4 = .ok (.iload_n 1, 1) := by decide +kernel
theorem dX11_takeOrders_5 : decode cX11_takeOrders 5 = .ok (.aaload, 1) := by decide +kernel
theorem dX11_takeOrders_6 : decode cX11_takeOrders 6 = .ok (.astore 5, 2) := by decide +kernel
theorem dX11_takeOrders_8 : decode cX11_takeOrders 8 = .ok (.aload 5, 2) := by decide +kernel
theorem dX11_takeOrders_10 : decode cX11_takeOrders 10 = .ok (.iload_n 2, 1) := by decide +kernel
theorem dX11_takeOrders_11 : decode cX11_takeOrders 11 = .ok (.invokevirtual 121, 3) := by decide +kernel
theorem dX11_takeOrders_14 : decode cX11_takeOrders 14 = .ok (.istore 6, 2) := by decide +kernel
theorem dX11_takeOrders_16 : decode cX11_takeOrders 16 = .ok (.iload 6, 2) := by decide +kernel
theorem dX11_takeOrders_18 : decode cX11_takeOrders 18 = .ok (.ifCond .ne 17, 3) := by decide +kernel
theorem dX11_takeOrders_21 : decode cX11_takeOrders 21 = .ok (.aload 5, 2) := by decide +kernel
theorem dX11_takeOrders_23 : decode cX11_takeOrders 23 = .ok (.iload_n 3, 1) := by decide +kernel
theorem dX11_takeOrders_24 : decode cX11_takeOrders 24 = .ok (.iload 4, 2) := by decide +kernel
theorem dX11_takeOrders_26 : decode cX11_takeOrders 26 = .ok (.invokevirtual 124, 3) := by decide +kernel
theorem dX11_takeOrders_29 : decode cX11_takeOrders 29 = .ok (.ifCond .ne 6, 3) := by decide +kernel
theorem dX11_takeOrders_32 : decode cX11_takeOrders 32 = .ok (.iconst 3, 1) := by decide +kernel
theorem dX11_takeOrders_33 : decode cX11_takeOrders 33 = .ok (.istore 6, 2) := by decide +kernel
theorem dX11_takeOrders_35 : decode cX11_takeOrders 35 = .ok (.iload 6, 2) := by decide +kernel
theorem dX11_takeOrders_37 : decode cX11_takeOrders 37 = .ok (.ifCond .eq 10, 3) := by decide +kernel
theorem dX11_takeOrders_40 : decode cX11_takeOrders 40 = .ok (.aload_n 0, 1) := by decide +kernel
theorem dX11_takeOrders_41 : decode cX11_takeOrders 41 = .ok (.iload 6, 2) := by decide +kernel
theorem dX11_takeOrders_43 : decode cX11_takeOrders 43 = .ok (.invokevirtual 88, 3) := by decide +kernel
theorem dX11_takeOrders_46 : decode cX11_takeOrders 46 = .ok (.ireturn, 1) := by decide +kernel
theorem dX11_takeOrders_47 : decode cX11_takeOrders 47 = .ok (.aload_n 0, 1) := by decide +kernel
theorem dX11_takeOrders_48 : decode cX11_takeOrders 48 = .ok (.getfield 65, 3) := by decide +kernel
theorem dX11_takeOrders_51 : decode cX11_takeOrders 51 = .ok (.invokevirtual 157, 3) := by decide +kernel
theorem dX11_takeOrders_54 : decode cX11_takeOrders 54 = .ok (.ifCond .ne 6, 3) := by decide +kernel
theorem dX11_takeOrders_57 : decode cX11_takeOrders 57 = .ok (.bipush (-3), 2) := by decide +kernel
theorem dX11_takeOrders_59 : decode cX11_takeOrders 59 = .ok (.ireturn, 1) := by decide +kernel
theorem dX11_takeOrders_60 : decode cX11_takeOrders 60 = .ok (.iload 4, 2) := by decide +kernel
theorem dX11_takeOrders_62 : decode cX11_takeOrders 62 = .ok (.aload_n 0, 1) := by decide +kernel
theorem dX11_takeOrders_63 : decode cX11_takeOrders 63 = .ok (.getfield 65, 3) := by decide +kernel
theorem dX11_takeOrders_66 : decode cX11_takeOrders 66 = .ok (.getfield 208, 3) := by decide +kernel
theorem dX11_takeOrders_69 : decode cX11_takeOrders 69 = .ok (.if_icmp .le 6, 3) := by decide +kernel
theorem dX11_takeOrders_72 : decode cX11_takeOrders 72 = .ok (.bipush (-2), 2) := by decide +kernel
theorem dX11_takeOrders_74 : decode cX11_takeOrders 74 = .ok (.ireturn, 1) := by decide +kernel
theorem dX11_takeOrders_75 : decode cX11_takeOrders 75 = .ok (.iconst 0, 1) := by decide +kernel
theorem dX11_takeOrders_76 : decode cX11_takeOrders 76 = .ok (.istore 7, 2) := by decide +kernel
theorem dX11_takeOrders_78 : decode cX11_takeOrders 78 = .ok (.iload 7, 2) := by decide +kernel
theorem dX11_takeOrders_80 : decode cX11_takeOrders 80 = .ok (.iload 4, 2) := by decide +kernel
theorem dX11_takeOrders_82 : decode cX11_takeOrders 82 = .ok (.if_icmp .ge 46, 3) := by decide +kernel
theorem dX11_takeOrders_85 : decode cX11_takeOrders 85 = .ok (.aload_n 0, 1) := by decide +kernel
theorem dX11_takeOrders_86 : decode cX11_takeOrders 86 = .ok (.aload 5, 2) := by decide +kernel
theorem dX11_takeOrders_88 : decode cX11_takeOrders 88 = .ok (.getfield 92, 3) := by decide +kernel
theorem dX11_takeOrders_91 : decode cX11_takeOrders 91 = .ok (.iload_n 3, 1) := by decide +kernel
theorem dX11_takeOrders_92 : decode cX11_takeOrders 92 = .ok (.iload 7, 2) := by decide +kernel
theorem dX11_takeOrders_94 : decode cX11_takeOrders 94 = .ok (.iadd, 1) := by decide +kernel
theorem dX11_takeOrders_95 : decode cX11_takeOrders 95 = .ok (.iaload, 1) := by decide +kernel
theorem dX11_takeOrders_96 : decode cX11_takeOrders 96 = .ok (.invokevirtual 211, 3) := by decide +kernel
theorem dX11_takeOrders_99 : decode cX11_takeOrders 99 = .ok (.ifCond .ne 6, 3) := by decide +kernel
theorem dX11_takeOrders_102 : decode cX11_takeOrders 102 = .ok (.bipush (-2), 2) := by decide +kernel
theorem dX11_takeOrders_104 : decode cX11_takeOrders 104 = .ok (.ireturn, 1) := by decide +kernel
theorem dX11_takeOrders_105 : decode cX11_takeOrders 105 = .ok (.aload_n 0, 1) := by decide +kernel
theorem dX11_takeOrders_106 : decode cX11_takeOrders 106 = .ok (.getfield 52, 3) := by decide +kernel
theorem dX11_takeOrders_109 : decode cX11_takeOrders 109 = .ok (.iload 7, 2) := by decide +kernel
theorem dX11_takeOrders_111 : decode cX11_takeOrders 111 = .ok (.aload 5, 2) := by decide +kernel
theorem dX11_takeOrders_113 : decode cX11_takeOrders 113 = .ok (.getfield 92, 3) := by decide +kernel
theorem dX11_takeOrders_116 : decode cX11_takeOrders 116 = .ok (.iload_n 3, 1) := by decide +kernel
theorem dX11_takeOrders_117 : decode cX11_takeOrders 117 = .ok (.iload 7, 2) := by decide +kernel
theorem dX11_takeOrders_119 : decode cX11_takeOrders 119 = .ok (.iadd, 1) := by decide +kernel
theorem dX11_takeOrders_120 : decode cX11_takeOrders 120 = .ok (.iaload, 1) := by decide +kernel
theorem dX11_takeOrders_121 : decode cX11_takeOrders 121 = .ok (.iastore, 1) := by decide +kernel
theorem dX11_takeOrders_122 : decode cX11_takeOrders 122 = .ok (.iinc 7 1, 3) := by decide +kernel
theorem dX11_takeOrders_125 : decode cX11_takeOrders 125 = .ok (.goto (-47), 3) := by decide +kernel
theorem dX11_takeOrders_128 : decode cX11_takeOrders 128 = .ok (.iconst 0, 1) := by decide +kernel
theorem dX11_takeOrders_129 : decode cX11_takeOrders 129 = .ok (.ireturn, 1) := by decide +kernel
theorem dX11_soonest_0 : decode cX11_soonest 0 = .ok (.aload_n 0, 1) := by decide +kernel
theorem dX11_soonest_1 : decode cX11_soonest 1 = .ok (.getfield 65, 3) := by decide +kernel
theorem dX11_soonest_4 : decode cX11_soonest 4 = .ok (.invokevirtual 157, 3) := by decide +kernel
theorem dX11_soonest_7 : decode cX11_soonest 7 = .ok (.ifCond .ne 6, 3) := by decide +kernel
theorem dX11_soonest_10 : decode cX11_soonest 10 = .ok (.bipush (-3), 2) := by decide +kernel
theorem dX11_soonest_12 : decode cX11_soonest 12 = .ok (.ireturn, 1) := by decide +kernel
theorem dX11_soonest_13 : decode cX11_soonest 13 = .ok (.aload_n 0, 1) := by decide +kernel
theorem dX11_soonest_14 : decode cX11_soonest 14 = .ok (.iload_n 1, 1) := by decide +kernel
theorem dX11_soonest_15 : decode cX11_soonest 15 = .ok (.invokevirtual 211, 3) := by decide +kernel
theorem dX11_soonest_18 : decode cX11_soonest 18 = .ok (.ifCond .eq 18, 3) := by decide +kernel
theorem dX11_soonest_21 : decode cX11_soonest 21 = .ok (.aload_n 0, 1) := by decide +kernel
theorem dX11_soonest_22 : decode cX11_soonest 22 = .ok (.getfield 41, 3) := by decide +kernel
theorem dX11_soonest_25 : decode cX11_soonest 25 = .ok (.aload_n 0, 1) := by decide +kernel
theorem dX11_soonest_26 : decode cX11_soonest 26 = .ok (.getfield 65, 3) := by decide +kernel
theorem dX11_soonest_29 : decode cX11_soonest 29 = .ok (.iload_n 1, 1) := by decide +kernel
theorem dX11_soonest_30 : decode cX11_soonest 30 = .ok (.invokevirtual 214, 3) := by decide +kernel
theorem dX11_soonest_33 : decode cX11_soonest 33 = .ok (.goto 5, 3) := by decide +kernel
theorem dX11_soonest_36 : decode cX11_soonest 36 = .ok (.bipush (-2), 2) := by decide +kernel
theorem dX11_soonest_38 : decode cX11_soonest 38 = .ok (.ireturn, 1) := by decide +kernel
theorem dX11_hats_0 : decode cX11_hats 0 = .ok (.aload_n 0, 1) := by decide +kernel
theorem dX11_hats_1 : decode cX11_hats 1 = .ok (.getfield 65, 3) := by decide +kernel
theorem dX11_hats_4 : decode cX11_hats 4 = .ok (.invokevirtual 157, 3) := by decide +kernel
theorem dX11_hats_7 : decode cX11_hats 7 = .ok (.ifCond .ne 6, 3) := by decide +kernel
theorem dX11_hats_10 : decode cX11_hats 10 = .ok (.bipush (-3), 2) := by decide +kernel
theorem dX11_hats_12 : decode cX11_hats 12 = .ok (.ireturn, 1) := by decide +kernel
theorem dX11_hats_13 : decode cX11_hats 13 = .ok (.aload_n 0, 1) := by decide +kernel
theorem dX11_hats_14 : decode cX11_hats 14 = .ok (.iload_n 1, 1) := by decide +kernel
theorem dX11_hats_15 : decode cX11_hats 15 = .ok (.invokevirtual 211, 3) := by decide +kernel
theorem dX11_hats_18 : decode cX11_hats 18 = .ok (.ifCond .eq 13, 3) := by decide +kernel
theorem dX11_hats_21 : decode cX11_hats 21 = .ok (.iload_n 2, 1) := by decide +kernel
theorem dX11_hats_22 : decode cX11_hats 22 = .ok (.ifCond .lt 9, 3) := by decide +kernel
theorem dX11_hats_25 : decode cX11_hats 25 = .ok (.iload_n 2, 1) := by decide +kernel
theorem dX11_hats_26 : decode cX11_hats 26 = .ok (.bipush 10, 2) := by decide +kernel
theorem dX11_hats_28 : decode cX11_hats 28 = .ok (.if_icmp .le 6, 3) := by decide +kernel
theorem dX11_hats_31 : decode cX11_hats 31 = .ok (.bipush (-2), 2) := by decide +kernel
theorem dX11_hats_33 : decode cX11_hats 33 = .ok (.ireturn, 1) := by decide +kernel
theorem dX11_hats_34 : decode cX11_hats 34 = .ok (.aload_n 0, 1) := by decide +kernel
theorem dX11_hats_35 : decode cX11_hats 35 = .ok (.getfield 41, 3) := by decide +kernel
theorem dX11_hats_38 : decode cX11_hats 38 = .ok (.aload_n 0, 1) := by decide +kernel
theorem dX11_hats_39 : decode cX11_hats 39 = .ok (.getfield 65, 3) := by decide +kernel
theorem dX11_hats_42 : decode cX11_hats 42 = .ok (.iload_n 1, 1) := by decide +kernel
theorem dX11_hats_43 : decode cX11_hats 43 = .ok (.iload_n 2, 1) := by decide +kernel
theorem dX11_hats_44 : decode cX11_hats 44 = .ok (.aload_n 0, 1) := by decide +kernel
theorem dX11_hats_45 : decode cX11_hats 45 = .ok (.getfield 65, 3) := by decide +kernel
theorem dX11_hats_48 : decode cX11_hats 48 = .ok (.getfield 208, 3) := by decide +kernel
theorem dX11_hats_51 : decode cX11_hats 51 = .ok (.invokestatic 218, 3) := by decide +kernel
theorem dX11_hats_54 : decode cX11_hats 54 = .ok (.invokevirtual 224, 3) := by decide +kernel
theorem dX11_hats_57 : decode cX11_hats 57 = .ok (.ireturn, 1) := by decide +kernel
theorem dX11_rid_0 : decode cX11_rid 0 = .ok (.aload_n 0, 1) := by decide +kernel
theorem dX11_rid_1 : decode cX11_rid 1 = .ok (.iload_n 1, 1) := by decide +kernel
theorem dX11_rid_2 : decode cX11_rid 2 = .ok (.invokevirtual 135, 3) := by decide +kernel
theorem dX11_rid_5 : decode cX11_rid 5 = .ok (.ifCond .ne 5, 3) := by decide +kernel
theorem dX11_rid_8 : decode cX11_rid 8 = .ok (.iconst (-1), 1) := by decide +kernel
theorem dX11_rid_9 : decode cX11_rid 9 = .ok (.ireturn, 1) := by decide +kernel
theorem dX11_rid_10 : decode cX11_rid 10 = .ok (.aload_n 0, 1) := by decide +kernel
theorem dX11_rid_11 : decode cX11_rid 11 = .ok (.getfield 41, 3) := by decide +kernel
theorem dX11_rid_14 : decode cX11_rid 14 = .ok (.aload_n 0, 1) := by decide +kernel
theorem dX11_rid_15 : decode cX11_rid 15 = .ok (.getfield 65, 3) := by decide +kernel
theorem dX11_rid_18 : decode cX11_rid 18 = .ok (.aload_n 0, 1) := by decide +kernel
theorem dX11_rid_19 : decode cX11_rid 19 = .ok (.getfield 65, 3) := by decide +kernel
theorem dX11_rid_22 : decode cX11_rid 22 = .ok (.invokevirtual 228, 3) := by decide +kernel
theorem dX11_rid_25 : decode cX11_rid 25 = .ok (.invokevirtual 214, 3) := by decide +kernel
theorem dX11_rid_28 : decode cX11_rid 28 = .ok (.istore_n 2, 1) := by decide +kernel
theorem dX11_rid_29 : decode cX11_rid 29 = .ok (.iload_n 2, 1) := by decide +kernel
theorem dX11_rid_30 : decode cX11_rid 30 = .ok (.bipush (-9), 2) := by decide +kernel
theorem dX11_rid_32 : decode cX11_rid 32 = .ok (.if_icmp .ne 6, 3) := by decide +kernel
theorem dX11_rid_35 : decode cX11_rid 35 = .ok (.bipush (-9), 2) := by decide +kernel
theorem dX11_rid_37 : decode cX11_rid 37 = .ok (.ireturn, 1) := by decide +kernel
theorem dX11_rid_38 : decode cX11_rid 38 = .ok (.iload_n 2, 1) := by decide +kernel
theorem dX11_rid_39 : decode cX11_rid 39 = .ok (.aload_n 0, 1) := by decide +kernel
theorem dX11_rid_40 : decode cX11_rid 40 = .ok (.getfield 41, 3) := by decide +kernel
theorem dX11_rid_43 : decode cX11_rid 43 = .ok (.aload_n 0, 1) := by decide +kernel
theorem dX11_rid_44 : decode cX11_rid 44 = .ok (.getfield 65, 3) := by decide +kernel
theorem dX11_rid_47 : decode cX11_rid 47 = .ok (.aload_n 0, 1) := by decide +kernel
theorem dX11_rid_48 : decode cX11_rid 48 = .ok (.getfield 65, 3) := by decide +kernel
theorem dX11_rid_51 : decode cX11_rid 51 = .ok (.invokevirtual 228, 3) := by decide +kernel
theorem dX11_rid_54 : decode cX11_rid 54 = .ok (.iconst 1, 1) := by decide +kernel
theorem dX11_rid_55 : decode cX11_rid 55 = .ok (.iload_n 1, 1) := by decide +kernel
theorem dX11_rid_56 : decode cX11_rid 56 = .ok (.ishl, 1) := by decide +kernel
theorem dX11_rid_57 : decode cX11_rid 57 = .ok (.iconst (-1), 1) := by decide +kernel
theorem dX11_rid_58 : decode cX11_rid 58 = .ok (.ixor, 1) := by decide +kernel
theorem dX11_rid_59 : decode cX11_rid 59 = .ok (.iand, 1) := by decide +kernel
theorem dX11_rid_60 : decode cX11_rid 60 = .ok (.invokevirtual 214, 3) := by decide +kernel
theorem dX11_rid_63 : decode cX11_rid 63 = .ok (.isub, 1) := by decide +kernel
theorem dX11_rid_64 : decode cX11_rid 64 = .ok (.ireturn, 1) := by decide +kernel
theorem dX11_reading_0 : decode cX11_reading 0 = .ok (.aload_n 0, 1) := by decide +kernel
theorem dX11_reading_1 : decode cX11_reading 1 = .ok (.iload_n 1, 1) := by decide +kernel
theorem dX11_reading_2 : decode cX11_reading 2 = .ok (.invokevirtual 135, 3) := by decide +kernel
theorem dX11_reading_5 : decode cX11_reading 5 = .ok (.ifCond .ne 5, 3) := by decide +kernel
theorem dX11_reading_8 : decode cX11_reading 8 = .ok (.iconst (-1), 1) := by decide +kernel
theorem dX11_reading_9 : decode cX11_reading 9 = .ok (.ireturn, 1) := by decide +kernel
theorem dX11_reading_10 : decode cX11_reading 10 = .ok (.iload_n 2, 1) := by decide +kernel
theorem dX11_reading_11 : decode cX11_reading 11 = .ok (.ifCond .lt 24, 3) := by decide +kernel
theorem dX11_reading_14 : decode cX11_reading 14 = .ok (.iload_n 2, 1) := by decide +kernel
theorem dX11_reading_15 : decode cX11_reading 15 = .ok (.bipush 10, 2) := by decide +kernel
theorem dX11_reading_17 : decode cX11_reading 17 = .ok (.if_icmp .ge 18, 3) := by decide +kernel
theorem dX11_reading_20 : decode cX11_reading 20 = .ok (.iload_n 3, 1) := by decide +kernel
theorem dX11_reading_21 : decode cX11_reading 21 = .ok (.ifCond .lt 14, 3) := by decide +kernel
theorem dX11_reading_24 : decode cX11_reading 24 = .ok (.iload_n 3, 1) := by decide +kernel
theorem dX11_reading_25 : decode cX11_reading 25 = .ok (.aload_n 0, 1) := by decide +kernel
theorem dX11_reading_26 : decode cX11_reading 26 = .ok (.getfield 65, 3) := by decide +kernel
theorem dX11_reading_29 : decode cX11_reading 29 = .ok (.getfield 167, 3) := by decide +kernel
theorem dX11_reading_32 : decode cX11_reading 32 = .ok (.if_icmp .le 6, 3) := by decide +kernel
theorem dX11_reading_35 : decode cX11_reading 35 = .ok (.bipush (-2), 2) := by decide +kernel
theorem dX11_reading_37 : decode cX11_reading 37 = .ok (.ireturn, 1) := by decide +kernel
theorem dX11_reading_38 : decode cX11_reading 38 = .ok (.aload_n 0, 1) := by decide +kernel
theorem dX11_reading_39 : decode cX11_reading 39 = .ok (.getfield 27, 3) := by decide +kernel
theorem dX11_reading_42 : decode cX11_reading 42 = .ok (.iload_n 1, 1) := by decide +kernel
theorem dX11_reading_43 : decode cX11_reading 43 = .ok (.iload_n 2, 1) := by decide +kernel
theorem dX11_reading_44 : decode cX11_reading 44 = .ok (.iload_n 3, 1) := by decide +kernel
theorem dX11_reading_45 : decode cX11_reading 45 = .ok (.invokevirtual 231, 3) := by decide +kernel
theorem dX11_reading_48 : decode cX11_reading 48 = .ok (.ireturn, 1) := by decide +kernel
theorem dX11_back_0 : decode cX11_back 0 = .ok (.iload_n 1, 1) := by decide +kernel
theorem dX11_back_1 : decode cX11_back 1 = .ok (.ifCond .lt 14, 3) := by decide +kernel
theorem dX11_back_4 : decode cX11_back 4 = .ok (.iload_n 1, 1) := by decide +kernel
theorem dX11_back_5 : decode cX11_back 5 = .ok (.aload_n 0, 1) := by decide +kernel
theorem dX11_back_6 : decode cX11_back 6 = .ok (.getfield 27, 3) := by decide +kernel
theorem dX11_back_9 : decode cX11_back 9 = .ok (.getfield 128, 3) := by decide +kernel
theorem dX11_back_12 : decode cX11_back 12 = .ok (.if_icmp .le 6, 3) := by decide +kernel
theorem dX11_back_15 : decode cX11_back 15 = .ok (.bipush (-2), 2) := by decide +kernel
theorem dX11_back_17 : decode cX11_back 17 = .ok (.ireturn, 1) := by decide +kernel
theorem dX11_back_18 : decode cX11_back 18 = .ok (.aload_n 0, 1) := by decide +kernel
theorem dX11_back_19 : decode cX11_back 19 = .ok (.getfield 27, 3) := by decide +kernel
theorem dX11_back_22 : decode cX11_back 22 = .ok (.dup, 1) := by decide +kernel
theorem dX11_back_23 : decode cX11_back 23 = .ok (.getfield 128, 3) := by decide +kernel
theorem dX11_back_26 : decode cX11_back 26 = .ok (.iload_n 1, 1) := by decide +kernel
theorem dX11_back_27 : decode cX11_back 27 = .ok (.isub, 1) := by decide +kernel
theorem dX11_back_28 : decode cX11_back 28 = .ok (.putfield 128, 3) := by decide +kernel
theorem dX11_back_31 : decode cX11_back 31 = .ok (.aload_n 0, 1) := by decide +kernel
theorem dX11_back_32 : decode cX11_back 32 = .ok (.getfield 27, 3) := by decide +kernel
theorem dX11_back_35 : decode cX11_back 35 = .ok (.getfield 128, 3) := by decide +kernel
theorem dX11_back_38 : decode cX11_back 38 = .ok (.ireturn, 1) := by decide +kernel
theorem dX11_winds_0 : decode cX11_winds 0 = .ok (.aload_n 0, 1) := by decide +kernel
theorem dX11_winds_1 : decode cX11_winds 1 = .ok (.iconst 0, 1) := by decide +kernel
theorem dX11_winds_2 : decode cX11_winds 2 = .ok (.putfield 72, 3) := by decide +kernel
theorem dX11_winds_5 : decode cX11_winds 5 = .ok (.aload_n 0, 1) := by decide +kernel
theorem dX11_winds_6 : decode cX11_winds 6 = .ok (.iload_n 1, 1) := by decide +kernel
theorem dX11_winds_7 : decode cX11_winds 7 = .ok (.invokevirtual 161, 3) := by decide +kernel
theorem dX11_winds_10 : decode cX11_winds 10 = .ok (.ifCond .ne 6, 3) := by decide +kernel
theorem dX11_winds_13 : decode cX11_winds 13 = .ok (.bipush (-2), 2) := by decide +kernel
theorem dX11_winds_15 : decode cX11_winds 15 = .ok (.ireturn, 1) := by decide +kernel
theorem dX11_winds_16 : decode cX11_winds 16 = .ok (.aload_n 0, 1) := by decide +kernel
theorem dX11_winds_17 : decode cX11_winds 17 = .ok (.iload_n 2, 1) := by decide +kernel
theorem dX11_winds_18 : decode cX11_winds 18 = .ok (.iload_n 3, 1) := by decide +kernel
theorem dX11_winds_19 : decode cX11_winds 19 = .ok (.iload 5, 2) := by decide +kernel
theorem dX11_winds_21 : decode cX11_winds 21 = .ok (.invokevirtual 176, 3) := by decide +kernel
theorem dX11_winds_24 : decode cX11_winds 24 = .ok (.istore 6, 2) := by decide +kernel
theorem dX11_winds_26 : decode cX11_winds 26 = .ok (.iload 6, 2) := by decide +kernel
theorem dX11_winds_28 : decode cX11_winds 28 = .ok (.ifCond .ne 15, 3) := by decide +kernel
theorem dX11_winds_31 : decode cX11_winds 31 = .ok (.aload_n 0, 1) := by decide +kernel
theorem dX11_winds_32 : decode cX11_winds 32 = .ok (.iload_n 2, 1) := by decide +kernel
theorem dX11_winds_33 : decode cX11_winds 33 = .ok (.iload_n 3, 1) := by decide +kernel
theorem dX11_winds_34 : decode cX11_winds 34 = .ok (.iload 4, 2) := by decide +kernel
theorem dX11_winds_36 : decode cX11_winds 36 = .ok (.iload 5, 2) := by decide +kernel
theorem dX11_winds_38 : decode cX11_winds 38 = .ok (.invokevirtual 183, 3) := by decide +kernel
theorem dX11_winds_41 : decode cX11_winds 41 = .ok (.istore 6, 2) := by decide +kernel
theorem dX11_winds_43 : decode cX11_winds 43 = .ok (.iload 6, 2) := by decide +kernel
theorem dX11_winds_45 : decode cX11_winds 45 = .ok (.ifCond .eq 6, 3) := by decide +kernel
theorem dX11_winds_48 : decode cX11_winds 48 = .ok (.iload 6, 2) := by decide +kernel
theorem dX11_winds_50 : decode cX11_winds 50 = .ok (.ireturn, 1) := by decide +kernel
theorem dX11_winds_51 : decode cX11_winds 51 = .ok (.aload_n 0, 1) := by decide +kernel
theorem dX11_winds_52 : decode cX11_winds 52 = .ok (.getfield 65, 3) := by decide +kernel
theorem dX11_winds_55 : decode cX11_winds 55 = .ok (.getfield 164, 3) := by decide +kernel
theorem dX11_winds_58 : decode cX11_winds 58 = .ok (.iload_n 1, 1) := by decide +kernel
theorem dX11_winds_59 : decode cX11_winds 59 = .ok (.iaload, 1) := by decide +kernel
theorem dX11_winds_60 : decode cX11_winds 60 = .ok (.istore 7, 2) := by decide +kernel
theorem dX11_winds_62 : decode cX11_winds 62 = .ok (.iconst 0, 1) := by decide +kernel
theorem dX11_winds_63 : decode cX11_winds 63 = .ok (.istore 8, 2) := by decide +kernel
theorem dX11_winds_65 : decode cX11_winds 65 = .ok (.iconst 0, 1) := by decide +kernel
theorem dX11_winds_66 : decode cX11_winds 66 = .ok (.istore 9, 2) := by decide +kernel
theorem dX11_winds_68 : decode cX11_winds 68 = .ok (.iload 9, 2) := by decide +kernel
theorem dX11_winds_70 : decode cX11_winds 70 = .ok (.iconst 3, 1) := by decide +kernel
theorem dX11_winds_71 : decode cX11_winds 71 = .ok (.if_icmp .ge 33, 3) := by decide +kernel
theorem dX11_winds_74 : decode cX11_winds 74 = .ok (.aload_n 0, 1) := by decide +kernel
theorem dX11_winds_75 : decode cX11_winds 75 = .ok (.getfield 65, 3) := by decide +kernel
theorem dX11_winds_78 : decode cX11_winds 78 = .ok (.getfield 164, 3) := by decide +kernel
theorem dX11_winds_81 : decode cX11_winds 81 = .ok (.iload_n 1, 1) := by decide +kernel
theorem dX11_winds_82 : decode cX11_winds 82 = .ok (.iload 9, 2) := by decide +kernel
theorem dX11_winds_84 : decode cX11_winds 84 = .ok (.iastore, 1) := by decide +kernel
theorem dX11_winds_85 : decode cX11_winds 85 = .ok (.iload 8, 2) := by decide +kernel
theorem dX11_winds_87 : decode cX11_winds 87 = .ok (.aload_n 0, 1) := by decide +kernel
theorem dX11_winds_88 : decode cX11_winds 88 = .ok (.iload 9, 2) := by decide +kernel
theorem dX11_winds_90 : decode cX11_winds 90 = .ok (.iload 5, 2) := by decide +kernel
theorem dX11_winds_92 : decode cX11_winds 92 = .ok (.invokevirtual 234, 3) := by decide +kernel
theorem dX11_winds_95 : decode cX11_winds 95 = .ok (.ior, 1) := by decide +kernel
theorem dX11_winds_96 : decode cX11_winds 96 = .ok (.istore 8, 2) := by decide +kernel
theorem dX11_winds_98 : decode cX11_winds 98 = .ok (.iinc 9 1, 3) := by decide +kernel
theorem dX11_winds_101 : decode cX11_winds 101 = .ok (.goto (-33), 3) := by decide +kernel
theorem dX11_winds_104 : decode cX11_winds 104 = .ok (.aload_n 0, 1) := by decide +kernel
theorem dX11_winds_105 : decode cX11_winds 105 = .ok (.getfield 65, 3) := by decide +kernel
theorem dX11_winds_108 : decode cX11_winds 108 = .ok (.getfield 164, 3) := by decide +kernel
theorem dX11_winds_111 : decode cX11_winds 111 = .ok (.iload_n 1, 1) := by decide +kernel
theorem dX11_winds_112 : decode cX11_winds 112 = .ok (.iload 7, 2) := by decide +kernel
theorem dX11_winds_114 : decode cX11_winds 114 = .ok (.iastore, 1) := by decide +kernel
theorem dX11_winds_115 : decode cX11_winds 115 = .ok (.iload 8, 2) := by decide +kernel
theorem dX11_winds_117 : decode cX11_winds 117 = .ok (.ireturn, 1) := by decide +kernel
theorem dX11_kinds_0 : decode cX11_kinds 0 = .ok (.aload_n 0, 1) := by decide +kernel
theorem dX11_kinds_1 : decode cX11_kinds 1 = .ok (.iload_n 1, 1) := by decide +kernel
theorem dX11_kinds_2 : decode cX11_kinds 2 = .ok (.iload_n 2, 1) := by decide +kernel
theorem dX11_kinds_3 : decode cX11_kinds 3 = .ok (.iload_n 3, 1) := by decide +kernel
theorem dX11_kinds_4 : decode cX11_kinds 4 = .ok (.iload 4, 2) := by decide +kernel
theorem dX11_kinds_6 : decode cX11_kinds 6 = .ok (.iload 5, 2) := by decide +kernel
theorem dX11_kinds_8 : decode cX11_kinds 8 = .ok (.invokevirtual 237, 3) := by decide +kernel
theorem dX11_kinds_11 : decode cX11_kinds 11 = .ok (.istore 6, 2) := by decide +kernel
theorem dX11_kinds_13 : decode cX11_kinds 13 = .ok (.iload 6, 2) := by decide +kernel
theorem dX11_kinds_15 : decode cX11_kinds 15 = .ok (.ifCond .eq 6, 3) := by decide +kernel
theorem dX11_kinds_18 : decode cX11_kinds 18 = .ok (.iload 6, 2) := by decide +kernel
theorem dX11_kinds_20 : decode cX11_kinds 20 = .ok (.ireturn, 1) := by decide +kernel
theorem dX11_kinds_21 : decode cX11_kinds 21 = .ok (.aload_n 0, 1) := by decide +kernel
theorem dX11_kinds_22 : decode cX11_kinds 22 = .ok (.getfield 65, 3) := by decide +kernel
theorem dX11_kinds_25 : decode cX11_kinds 25 = .ok (.getfield 138, 3) := by decide +kernel
theorem dX11_kinds_28 : decode cX11_kinds 28 = .ok (.iload_n 1, 1) := by decide +kernel
theorem dX11_kinds_29 : decode cX11_kinds 29 = .ok (.aaload, 1) := by decide +kernel
theorem dX11_kinds_30 : decode cX11_kinds 30 = .ok (.astore 7, 2) := by decide +kernel
theorem dX11_kinds_32 : decode cX11_kinds 32 = .ok (.iconst 0, 1) := by decide +kernel
theorem dX11_kinds_33 : decode cX11_kinds 33 = .ok (.istore 8, 2) := by decide +kernel
theorem dX11_kinds_35 : decode cX11_kinds 35 = .ok (.iconst 0, 1) := by decide +kernel
theorem dX11_kinds_36 : decode cX11_kinds 36 = .ok (.istore 9, 2) := by decide +kernel
theorem dX11_kinds_38 : decode cX11_kinds 38 = .ok (.iload 9, 2) := by decide +kernel
theorem dX11_kinds_40 : decode cX11_kinds 40 = .ok (.iconst 3, 1) := by decide +kernel
theorem dX11_kinds_41 : decode cX11_kinds 41 = .ok (.if_icmp .ge 47, 3) := by decide +kernel
theorem dX11_kinds_44 : decode cX11_kinds 44 = .ok (.aload_n 0, 1) := by decide +kernel
theorem dX11_kinds_45 : decode cX11_kinds 45 = .ok (.getfield 65, 3) := by decide +kernel
theorem dX11_kinds_48 : decode cX11_kinds 48 = .ok (.getfield 138, 3) := by decide +kernel
theorem dX11_kinds_51 : decode cX11_kinds 51 = .ok (.iload_n 1, 1) := by decide +kernel
theorem dX11_kinds_52 : decode cX11_kinds 52 = .ok (.iload 9, 2) := by decide +kernel
theorem dX11_kinds_54 : decode cX11_kinds 54 = .ok (.iload_n 1, 1) := by decide +kernel
theorem dX11_kinds_55 : decode cX11_kinds 55 = .ok (.aload 7, 2) := by decide +kernel
theorem dX11_kinds_57 : decode cX11_kinds 57 = .ok (.getfield 148, 3) := by decide +kernel
theorem dX11_kinds_60 : decode cX11_kinds 60 = .ok (.aload 7, 2) := by decide +kernel
theorem dX11_kinds_62 : decode cX11_kinds 62 = .ok (.getfield 151, 3) := by decide +kernel
theorem dX11_kinds_65 : decode cX11_kinds 65 = .ok (.invokestatic 241, 3) := by decide +kernel
theorem dX11_kinds_68 : decode cX11_kinds 68 = .ok (.aastore, 1) := by decide +kernel
theorem dX11_kinds_69 : decode cX11_kinds 69 = .ok (.iload 8, 2) := by decide +kernel
theorem dX11_kinds_71 : decode cX11_kinds 71 = .ok (.aload_n 0, 1) := by decide +kernel
theorem dX11_kinds_72 : decode cX11_kinds 72 = .ok (.iload 9, 2) := by decide +kernel
theorem dX11_kinds_74 : decode cX11_kinds 74 = .ok (.iload 5, 2) := by decide +kernel
theorem dX11_kinds_76 : decode cX11_kinds 76 = .ok (.invokevirtual 234, 3) := by decide +kernel
theorem dX11_kinds_79 : decode cX11_kinds 79 = .ok (.ior, 1) := by decide +kernel
theorem dX11_kinds_80 : decode cX11_kinds 80 = .ok (.istore 8, 2) := by decide +kernel
theorem dX11_kinds_82 : decode cX11_kinds 82 = .ok (.iinc 9 1, 3) := by decide +kernel
theorem dX11_kinds_85 : decode cX11_kinds 85 = .ok (.goto (-47), 3) := by decide +kernel
theorem dX11_kinds_88 : decode cX11_kinds 88 = .ok (.aload_n 0, 1) := by decide +kernel
theorem dX11_kinds_89 : decode cX11_kinds 89 = .ok (.getfield 65, 3) := by decide +kernel
theorem dX11_kinds_92 : decode cX11_kinds 92 = .ok (.getfield 138, 3) := by decide +kernel
theorem dX11_kinds_95 : decode cX11_kinds 95 = .ok (.iload_n 1, 1) := by decide +kernel
theorem dX11_kinds_96 : decode cX11_kinds 96 = .ok (.aload 7, 2) := by decide +kernel
theorem dX11_kinds_98 : decode cX11_kinds 98 = .ok (.aastore, 1) := by decide +kernel
theorem dX11_kinds_99 : decode cX11_kinds 99 = .ok (.iload 8, 2) := by decide +kernel
theorem dX11_kinds_101 : decode cX11_kinds 101 = .ok (.ireturn, 1) := by decide +kernel
theorem dX11_speeds_0 : decode cX11_speeds 0 = .ok (.aload_n 0, 1) := by decide +kernel
theorem dX11_speeds_1 : decode cX11_speeds 1 = .ok (.iload_n 1, 1) := by decide +kernel
theorem dX11_speeds_2 : decode cX11_speeds 2 = .ok (.iload_n 2, 1) := by decide +kernel
theorem dX11_speeds_3 : decode cX11_speeds 3 = .ok (.iload_n 3, 1) := by decide +kernel
theorem dX11_speeds_4 : decode cX11_speeds 4 = .ok (.iload 4, 2) := by decide +kernel
theorem dX11_speeds_6 : decode cX11_speeds 6 = .ok (.iload 5, 2) := by decide +kernel
theorem dX11_speeds_8 : decode cX11_speeds 8 = .ok (.invokevirtual 237, 3) := by decide +kernel
theorem dX11_speeds_11 : decode cX11_speeds 11 = .ok (.istore 6, 2) := by decide +kernel
theorem dX11_speeds_13 : decode cX11_speeds 13 = .ok (.iload 6, 2) := by decide +kernel
theorem dX11_speeds_15 : decode cX11_speeds 15 = .ok (.ifCond .eq 6, 3) := by decide +kernel
theorem dX11_speeds_18 : decode cX11_speeds 18 = .ok (.iload 6, 2) := by decide +kernel
theorem dX11_speeds_20 : decode cX11_speeds 20 = .ok (.ireturn, 1) := by decide +kernel
theorem dX11_speeds_21 : decode cX11_speeds 21 = .ok (.aload_n 0, 1) := by decide +kernel
theorem dX11_speeds_22 : decode cX11_speeds 22 = .ok (.getfield 65, 3) := by decide +kernel
theorem dX11_speeds_25 : decode cX11_speeds 25 = .ok (.getfield 138, 3) := by decide +kernel
theorem dX11_speeds_28 : decode cX11_speeds 28 = .ok (.iload_n 1, 1) := by decide +kernel
theorem dX11_speeds_29 : decode cX11_speeds 29 = .ok (.aaload, 1) := by decide +kernel
theorem dX11_speeds_30 : decode cX11_speeds 30 = .ok (.astore 7, 2) := by decide +kernel
theorem dX11_speeds_32 : decode cX11_speeds 32 = .ok (.iconst 0, 1) := by decide +kernel
theorem dX11_speeds_33 : decode cX11_speeds 33 = .ok (.istore 8, 2) := by decide +kernel
theorem dX11_speeds_35 : decode cX11_speeds 35 = .ok (.iconst 1, 1) := by decide +kernel
theorem dX11_speeds_36 : decode cX11_speeds 36 = .ok (.istore 9, 2) := by decide +kernel
theorem dX11_speeds_38 : decode cX11_speeds 38 = .ok (.iload 9, 2) := by decide +kernel
theorem dX11_speeds_40 : decode cX11_speeds 40 = .ok (.iconst 3, 1) := by decide +kernel
theorem dX11_speeds_41 : decode cX11_speeds 41 = .ok (.if_icmp .gt 47, 3) := by decide +kernel
theorem dX11_speeds_44 : decode cX11_speeds 44 = .ok (.aload_n 0, 1) := by decide +kernel
theorem dX11_speeds_45 : decode cX11_speeds 45 = .ok (.getfield 65, 3) := by decide +kernel
theorem dX11_speeds_48 : decode cX11_speeds 48 = .ok (.getfield 138, 3) := by decide +kernel
theorem dX11_speeds_51 : decode cX11_speeds 51 = .ok (.iload_n 1, 1) := by decide +kernel
theorem dX11_speeds_52 : decode cX11_speeds 52 = .ok (.aload 7, 2) := by decide +kernel
theorem dX11_speeds_54 : decode cX11_speeds 54 = .ok (.invokevirtual 142, 3) := by decide +kernel
theorem dX11_speeds_57 : decode cX11_speeds 57 = .ok (.iload_n 1, 1) := by decide +kernel
theorem dX11_speeds_58 : decode cX11_speeds 58 = .ok (.aload 7, 2) := by decide +kernel
theorem dX11_speeds_60 : decode cX11_speeds 60 = .ok (.getfield 148, 3) := by decide +kernel
theorem dX11_speeds_63 : decode cX11_speeds 63 = .ok (.iload 9, 2) := by decide +kernel
theorem dX11_speeds_65 : decode cX11_speeds 65 = .ok (.invokestatic 241, 3) := by decide +kernel
theorem dX11_speeds_68 : decode cX11_speeds 68 = .ok (.aastore, 1) := by decide +kernel
theorem dX11_speeds_69 : decode cX11_speeds 69 = .ok (.iload 8, 2) := by decide +kernel
theorem dX11_speeds_71 : decode cX11_speeds 71 = .ok (.aload_n 0, 1) := by decide +kernel
theorem dX11_speeds_72 : decode cX11_speeds 72 = .ok (.iload 9, 2) := by decide +kernel
theorem dX11_speeds_74 : decode cX11_speeds 74 = .ok (.iload 5, 2) := by decide +kernel
theorem dX11_speeds_76 : decode cX11_speeds 76 = .ok (.invokevirtual 234, 3) := by decide +kernel
theorem dX11_speeds_79 : decode cX11_speeds 79 = .ok (.ior, 1) := by decide +kernel
theorem dX11_speeds_80 : decode cX11_speeds 80 = .ok (.istore 8, 2) := by decide +kernel
theorem dX11_speeds_82 : decode cX11_speeds 82 = .ok (.iinc 9 1, 3) := by decide +kernel
theorem dX11_speeds_85 : decode cX11_speeds 85 = .ok (.goto (-47), 3) := by decide +kernel
theorem dX11_speeds_88 : decode cX11_speeds 88 = .ok (.aload_n 0, 1) := by decide +kernel
theorem dX11_speeds_89 : decode cX11_speeds 89 = .ok (.getfield 65, 3) := by decide +kernel
theorem dX11_speeds_92 : decode cX11_speeds 92 = .ok (.getfield 138, 3) := by decide +kernel
theorem dX11_speeds_95 : decode cX11_speeds 95 = .ok (.iload_n 1, 1) := by decide +kernel
theorem dX11_speeds_96 : decode cX11_speeds 96 = .ok (.aload 7, 2) := by decide +kernel
theorem dX11_speeds_98 : decode cX11_speeds 98 = .ok (.aastore, 1) := by decide +kernel
theorem dX11_speeds_99 : decode cX11_speeds 99 = .ok (.iload 8, 2) := by decide +kernel
theorem dX11_speeds_101 : decode cX11_speeds 101 = .ok (.ireturn, 1) := by decide +kernel
theorem dX11_refusalOfBoatPlan_0 : decode cX11_refusalOfBoatPlan 0 = .ok (.aload_n 0, 1) := by decide +kernel
theorem dX11_refusalOfBoatPlan_1 : decode cX11_refusalOfBoatPlan 1 = .ok (.iconst 0, 1) := by decide +kernel
theorem dX11_refusalOfBoatPlan_2 : decode cX11_refusalOfBoatPlan 2 = .ok (.putfield 72, 3) := by decide +kernel
theorem dX11_refusalOfBoatPlan_5 : decode cX11_refusalOfBoatPlan 5 = .ok (.aload_n 0, 1) := by decide +kernel
theorem dX11_refusalOfBoatPlan_6 : decode cX11_refusalOfBoatPlan 6 = .ok (.iload_n 1, 1) := by decide +kernel
theorem dX11_refusalOfBoatPlan_7 : decode cX11_refusalOfBoatPlan 7 = .ok (.invokevirtual 135, 3) := by decide +kernel
theorem dX11_refusalOfBoatPlan_10 : decode cX11_refusalOfBoatPlan 10 = .ok (.ifCond .ne 5, 3) := by decide +kernel
theorem dX11_refusalOfBoatPlan_13 : decode cX11_refusalOfBoatPlan 13 = .ok (.iconst (-1), 1) := by decide +kernel
theorem dX11_refusalOfBoatPlan_14 : decode cX11_refusalOfBoatPlan 14 = .ok (.ireturn, 1) := by decide +kernel
theorem dX11_refusalOfBoatPlan_15 : decode cX11_refusalOfBoatPlan 15 = .ok (.aload_n 0, 1) := by decide +kernel
theorem dX11_refusalOfBoatPlan_16 : decode cX11_refusalOfBoatPlan 16 = .ok (.iload_n 2, 1) := by decide +kernel
theorem dX11_refusalOfBoatPlan_17 : decode cX11_refusalOfBoatPlan 17 = .ok (.iload_n 3, 1) := by decide +kernel
theorem dX11_refusalOfBoatPlan_18 : decode cX11_refusalOfBoatPlan 18 = .ok (.iload 5, 2) := by decide +kernel
theorem dX11_refusalOfBoatPlan_20 : decode cX11_refusalOfBoatPlan 20 = .ok (.invokevirtual 176, 3) := by decide +kernel
theorem dX11_refusalOfBoatPlan_23 : decode cX11_refusalOfBoatPlan 23 = .ok (.istore 6, 2) := by decide +kernel
theorem dX11_refusalOfBoatPlan_25 : decode cX11_refusalOfBoatPlan 25 = .ok (.iload 6, 2) := by decide +kernel
theorem dX11_refusalOfBoatPlan_27 : decode cX11_refusalOfBoatPlan 27 = .ok (.ifCond .eq 8, 3) := by decide +kernel
theorem dX11_refusalOfBoatPlan_30 : decode cX11_refusalOfBoatPlan 30 = .ok (.iload 6, 2) := by decide +kernel
theorem dX11_refusalOfBoatPlan_32 : decode cX11_refusalOfBoatPlan 32 = .ok (.goto 13, 3) := by decide +kernel
theorem dX11_refusalOfBoatPlan_35 : decode cX11_refusalOfBoatPlan 35 = .ok (.aload_n 0, 1) := by decide +kernel
theorem dX11_refusalOfBoatPlan_36 : decode cX11_refusalOfBoatPlan 36 = .ok (.iload_n 2, 1) := by decide +kernel
theorem dX11_refusalOfBoatPlan_37 : decode cX11_refusalOfBoatPlan 37 = .ok (.iload_n 3, 1) := by decide +kernel
theorem dX11_refusalOfBoatPlan_38 : decode cX11_refusalOfBoatPlan 38 = .ok (.iload 4, 2) := by decide +kernel
theorem dX11_refusalOfBoatPlan_40 : decode cX11_refusalOfBoatPlan 40 = .ok (.iload 5, 2) := by decide +kernel
theorem dX11_refusalOfBoatPlan_42 : decode cX11_refusalOfBoatPlan 42 = .ok (.invokevirtual 183, 3) := by decide +kernel
theorem dX11_refusalOfBoatPlan_45 : decode cX11_refusalOfBoatPlan 45 = .ok (.ireturn, 1) := by decide +kernel
theorem dX11_bitIfAsRead_0 : decode cX11_bitIfAsRead 0 = .ok (.aload_n 0, 1) := by decide +kernel
theorem dX11_bitIfAsRead_1 : decode cX11_bitIfAsRead 1 = .ok (.getfield 27, 3) := by decide +kernel
theorem dX11_bitIfAsRead_4 : decode cX11_bitIfAsRead 4 = .ok (.iload_n 2, 1) := by decide +kernel
theorem dX11_bitIfAsRead_5 : decode cX11_bitIfAsRead 5 = .ok (.invokevirtual 245, 3) := by decide +kernel
theorem dX11_bitIfAsRead_8 : decode cX11_bitIfAsRead 8 = .ok (.ifCond .ne 5, 3) := by decide +kernel
theorem dX11_bitIfAsRead_11 : decode cX11_bitIfAsRead 11 = .ok (.iconst 0, 1) := by decide +kernel
theorem dX11_bitIfAsRead_12 : decode cX11_bitIfAsRead 12 = .ok (.ireturn, 1) := by decide +kernel
theorem dX11_bitIfAsRead_13 : decode cX11_bitIfAsRead 13 = .ok (.aload_n 0, 1) := by decide +kernel
theorem dX11_bitIfAsRead_14 : decode cX11_bitIfAsRead 14 = .ok (.getfield 34, 3) := by decide +kernel
theorem dX11_bitIfAsRead_17 : decode cX11_bitIfAsRead 17 = .ok (.aload_n 0, 1) := by decide +kernel
theorem dX11_bitIfAsRead_18 : decode cX11_bitIfAsRead 18 = .ok (.getfield 65, 3) := by decide +kernel
theorem dX11_bitIfAsRead_21 : decode cX11_bitIfAsRead 21 = .ok (.invokevirtual 248, 3) := by decide +kernel
theorem dX11_bitIfAsRead_24 : decode cX11_bitIfAsRead 24 = .ok (.iconst 0, 1) := by decide +kernel
theorem dX11_bitIfAsRead_25 : decode cX11_bitIfAsRead 25 = .ok (.istore_n 3, 1) := by decide +kernel
theorem dX11_bitIfAsRead_26 : decode cX11_bitIfAsRead 26 = .ok (.iload_n 3, 1) := by decide +kernel
theorem dX11_bitIfAsRead_27 : decode cX11_bitIfAsRead 27 = .ok (.iload_n 2, 1) := by decide +kernel
theorem dX11_bitIfAsRead_28 : decode cX11_bitIfAsRead 28 = .ok (.if_icmp .ge 56, 3) := by decide +kernel
theorem dX11_bitIfAsRead_31 : decode cX11_bitIfAsRead 31 = .ok (.aload_n 0, 1) := by decide +kernel
theorem dX11_bitIfAsRead_32 : decode cX11_bitIfAsRead 32 = .ok (.getfield 34, 3) := by decide +kernel
theorem dX11_bitIfAsRead_35 : decode cX11_bitIfAsRead 35 = .ok (.aload_n 0, 1) := by decide +kernel
theorem dX11_bitIfAsRead_36 : decode cX11_bitIfAsRead 36 = .ok (.getfield 65, 3) := by decide +kernel
theorem dX11_bitIfAsRead_39 : decode cX11_bitIfAsRead 39 = .ok (.aload_n 0, 1) := by decide +kernel
theorem dX11_bitIfAsRead_40 : decode cX11_bitIfAsRead 40 = .ok (.getfield 52, 3) := by decide +kernel
theorem dX11_bitIfAsRead_43 : decode cX11_bitIfAsRead 43 = .ok (.iload_n 3, 1) := by decide +kernel
theorem dX11_bitIfAsRead_44 : decode cX11_bitIfAsRead 44 = .ok (.iaload, 1) := by decide +kernel
theorem dX11_bitIfAsRead_45 : decode cX11_bitIfAsRead 45 = .ok (.aload_n 0, 1) := by decide +kernel
theorem dX11_bitIfAsRead_46 : decode cX11_bitIfAsRead 46 = .ok (.getfield 65, 3) := by decide +kernel
theorem dX11_bitIfAsRead_49 : decode cX11_bitIfAsRead 49 = .ok (.getfield 164, 3) := by decide +kernel
theorem dX11_bitIfAsRead_52 : decode cX11_bitIfAsRead 52 = .ok (.iload_n 3, 1) := by decide +kernel
theorem dX11_bitIfAsRead_53 : decode cX11_bitIfAsRead 53 = .ok (.iaload, 1) := by decide +kernel
theorem dX11_bitIfAsRead_54 : decode cX11_bitIfAsRead 54 = .ok (.invokevirtual 251, 3) := by decide +kernel
theorem dX11_bitIfAsRead_57 : decode cX11_bitIfAsRead 57 = .ok (.pop, 1) := by decide +kernel
theorem dX11_bitIfAsRead_58 : decode cX11_bitIfAsRead 58 = .ok (.aload_n 0, 1) := by decide +kernel
theorem dX11_bitIfAsRead_59 : decode cX11_bitIfAsRead 59 = .ok (.getfield 27, 3) := by decide +kernel
theorem dX11_bitIfAsRead_62 : decode cX11_bitIfAsRead 62 = .ok (.iload_n 3, 1) := by decide +kernel
theorem dX11_bitIfAsRead_63 : decode cX11_bitIfAsRead 63 = .ok (.aload_n 0, 1) := by decide +kernel
theorem dX11_bitIfAsRead_64 : decode cX11_bitIfAsRead 64 = .ok (.getfield 34, 3) := by decide +kernel
theorem dX11_bitIfAsRead_67 : decode cX11_bitIfAsRead 67 = .ok (.getfield 207, 3) := by decide +kernel
theorem dX11_bitIfAsRead_70 : decode cX11_bitIfAsRead 70 = .ok (.invokevirtual 254, 3) := by decide +kernel
theorem dX11_bitIfAsRead_73 : decode cX11_bitIfAsRead 73 = .ok (.ifCond .ne 5, 3) := by decide +kernel
theorem dX11_bitIfAsRead_76 : decode cX11_bitIfAsRead 76 = .ok (.iconst 0, 1) := by decide +kernel
theorem dX11_bitIfAsRead_77 : decode cX11_bitIfAsRead 77 = .ok (.ireturn, 1) := by decide +kernel
theorem dX11_bitIfAsRead_78 : decode cX11_bitIfAsRead 78 = .ok (.iinc 3 1, 3) := by decide +kernel
theorem dX11_bitIfAsRead_81 : decode cX11_bitIfAsRead 81 = .ok (.goto (-55), 3) := by decide +kernel
theorem dX11_bitIfAsRead_84 : decode cX11_bitIfAsRead 84 = .ok (.iconst 1, 1) := by decide +kernel
theorem dX11_bitIfAsRead_85 : decode cX11_bitIfAsRead 85 = .ok (.iload_n 1, 1) := by decide +kernel
theorem dX11_bitIfAsRead_86 : decode cX11_bitIfAsRead 86 = .ok (.ishl, 1) := by decide +kernel
theorem dX11_bitIfAsRead_87 : decode cX11_bitIfAsRead 87 = .ok (.ireturn, 1) := by decide +kernel
theorem dX11_odds_0 : decode cX11_odds 0 = .ok (.aload_n 0, 1) := by decide +kernel
theorem dX11_odds_1 : decode cX11_odds 1 = .ok (.iconst 0, 1) := by decide +kernel
theorem dX11_odds_2 : decode cX11_odds 2 = .ok (.putfield 72, 3) := by decide +kernel
theorem dX11_odds_5 : decode cX11_odds 5 = .ok (.aload_n 0, 1) := by decide +kernel
theorem dX11_odds_6 : decode cX11_odds 6 = .ok (.iload_n 1, 1) := by decide +kernel
theorem dX11_odds_7 : decode cX11_odds 7 = .ok (.iload_n 2, 1) := by decide +kernel
theorem dX11_odds_8 : decode cX11_odds 8 = .ok (.iload 4, 2) := by decide +kernel
theorem dX11_odds_10 : decode cX11_odds 10 = .ok (.invokevirtual 176, 3) := by decide +kernel
theorem dX11_odds_13 : decode cX11_odds 13 = .ok (.ifCond .ne 14, 3) := by decide +kernel
theorem dX11_odds_16 : decode cX11_odds 16 = .ok (.iload 5, 2) := by decide +kernel
theorem dX11_odds_18 : decode cX11_odds 18 = .ok (.ifCond .lt 9, 3) := by decide +kernel
theorem dX11_odds_21 : decode cX11_odds 21 = .ok (.iload 5, 2) := by decide +kernel
theorem dX11_odds_23 : decode cX11_odds 23 = .ok (.iconst 1, 1) := by decide +kernel
theorem dX11_odds_24 : decode cX11_odds 24 = .ok (.if_icmp .le 7, 3) := by decide +kernel
theorem dX11_odds_27 : decode cX11_odds 27 = .ok (.ldc2_w 258, 3) := by decide +kernel
theorem dX11_odds_30 : decode cX11_odds 30 = .ok (.lreturn, 1) := by decide +kernel
theorem dX11_odds_31 : decode cX11_odds 31 = .ok (.aload_n 0, 1) := by decide +kernel
theorem dX11_odds_32 : decode cX11_odds 32 = .ok (.iload_n 1, 1) := by decide +kernel
theorem dX11_odds_33 : decode cX11_odds 33 = .ok (.iload_n 2, 1) := by decide +kernel
theorem dX11_odds_34 : decode cX11_odds 34 = .ok (.iload_n 3, 1) := by decide +kernel
theorem dX11_odds_35 : decode cX11_odds 35 = .ok (.iload 4, 2) := by decide +kernel
theorem dX11_odds_37 : decode cX11_odds 37 = .ok (.invokevirtual 183, 3) := by decide +kernel
theorem dX11_odds_40 : decode cX11_odds 40 = .ok (.ifCond .eq 7, 3) := by decide +kernel
theorem dX11_odds_43 : decode cX11_odds 43 = .ok (.ldc2_w 258, 3) := by decide +kernel
theorem dX11_odds_46 : decode cX11_odds 46 = .ok (.lreturn, 1) := by decide +kernel
theorem dX11_odds_47 : decode cX11_odds 47 = .ok (.aload_n 0, 1) := by decide +kernel
theorem dX11_odds_48 : decode cX11_odds 48 = .ok (.iload 4, 2) := by decide +kernel
theorem dX11_odds_50 : decode cX11_odds 50 = .ok (.invokevirtual 260, 3) := by decide +kernel
theorem dX11_odds_53 : decode cX11_odds 53 = .ok (.istore 6, 2) := by decide +kernel
theorem dX11_odds_55 : decode cX11_odds 55 = .ok (.iconst 1, 1) := by decide +kernel
theorem dX11_odds_56 : decode cX11_odds 56 = .ok (.iload 4, 2) := by decide +kernel
theorem dX11_odds_58 : decode cX11_odds 58 = .ok (.ishl, 1) := by decide +kernel
theorem dX11_odds_59 : decode cX11_odds 59 = .ok (.istore 7, 2) := by decide +kernel
theorem dX11_odds_61 : decode cX11_odds 61 = .ok (.iconst 0, 1) := by decide +kernel
theorem dX11_odds_62 : decode cX11_odds 62 = .ok (.istore 8, 2) := by decide +kernel
theorem dX11_odds_64 : decode cX11_odds 64 = .ok (.iload 8, 2) := by decide +kernel
theorem dX11_odds_66 : decode cX11_odds 66 = .ok (.iload 4, 2) := by decide +kernel
theorem dX11_odds_68 : decode cX11_odds 68 = .ok (.if_icmp .ge 28, 3) := by decide +kernel
theorem dX11_odds_71 : decode cX11_odds 71 = .ok (.iload 6, 2) := by decide +kernel
theorem dX11_odds_73 : decode cX11_odds 73 = .ok (.iconst 2, 1) := by decide +kernel
theorem dX11_odds_74 : decode cX11_odds 74 = .ok (.irem, 1) := by decide +kernel
theorem dX11_odds_75 : decode cX11_odds 75 = .ok (.ifCond .ne 15, 3) := by decide +kernel
theorem dX11_odds_78 : decode cX11_odds 78 = .ok (.iload 6, 2) := by decide +kernel
theorem dX11_odds_80 : decode cX11_odds 80 = .ok (.iconst 2, 1) := by decide +kernel
theorem dX11_odds_81 : decode cX11_odds 81 = .ok (.idiv, 1) := by decide +kernel
theorem dX11_odds_82 : decode cX11_odds 82 = .ok (.istore 6, 2) := by decide +kernel
theorem dX11_odds_84 : decode cX11_odds 84 = .ok (.iload 7, 2) := by decide +kernel
theorem dX11_odds_86 : decode cX11_odds 86 = .ok (.iconst 2, 1) := by decide +kernel
theorem dX11_odds_87 : decode cX11_odds 87 = .ok (.idiv, 1) := by decide +kernel
theorem dX11_odds_88 : decode cX11_odds 88 = .ok (.istore 7, 2) := by decide +kernel
theorem dX11_odds_90 : decode cX11_odds 90 = .ok (.iinc 8 1, 3) := by decide +kernel
theorem dX11_odds_93 : decode cX11_odds 93 = .ok (.goto (-29), 3) := by decide +kernel
theorem dX11_odds_96 : decode cX11_odds 96 = .ok (.iload 5, 2) := by decide +kernel
theorem dX11_odds_98 : decode cX11_odds 98 = .ok (.ifCond .ne 9, 3) := by decide +kernel
theorem dX11_odds_101 : decode cX11_odds 101 = .ok (.iload 6, 2) := by decide +kernel
theorem dX11_odds_103 : decode cX11_odds 103 = .ok (.i2l, 1) := by decide +kernel
theorem dX11_odds_104 : decode cX11_odds 104 = .ok (.goto 6, 3) := by decide +kernel
theorem dX11_odds_107 : decode cX11_odds 107 = .ok (.iload 7, 2) := by decide +kernel
theorem dX11_odds_109 : decode cX11_odds 109 = .ok (.i2l, 1) := by decide +kernel
theorem dX11_odds_110 : decode cX11_odds 110 = .ok (.lreturn, 1) := by decide +kernel
theorem dX11_waysWithoutFine_0 : decode cX11_waysWithoutFine 0 = .ok (.aload_n 0, 1) := by decide +kernel
theorem dX11_waysWithoutFine_1 : decode cX11_waysWithoutFine 1 = .ok (.getfield 65, 3) := by decide +kernel
theorem dX11_waysWithoutFine_4 : decode cX11_waysWithoutFine 4 = .ok (.invokevirtual 263, 3) := by decide +kernel
theorem dX11_waysWithoutFine_7 : decode cX11_waysWithoutFine 7 = .ok (.istore_n 2, 1) := by decide +kernel
theorem dX11_waysWithoutFine_8 : decode cX11_waysWithoutFine 8 = .ok (.aload_n 0, 1) := by decide +kernel
theorem dX11_waysWithoutFine_9 : decode cX11_waysWithoutFine 9 = .ok (.getfield 56, 3) := by decide +kernel
theorem dX11_waysWithoutFine_12 : decode cX11_waysWithoutFine 12 = .ok (.iconst 0, 1) := by decide +kernel
theorem dX11_waysWithoutFine_13 : decode cX11_waysWithoutFine 13 = .ok (.invokestatic 266, 3) := by decide +kernel
theorem dX11_waysWithoutFine_16 : decode cX11_waysWithoutFine 16 = .ok (.aload_n 0, 1) := by decide +kernel
theorem dX11_waysWithoutFine_17 : decode cX11_waysWithoutFine 17 = .ok (.getfield 34, 3) := by decide +kernel
theorem dX11_waysWithoutFine_20 : decode cX11_waysWithoutFine 20 = .ok (.aload_n 0, 1) := by decide +kernel
theorem dX11_waysWithoutFine_21 : decode cX11_waysWithoutFine 21 = .ok (.getfield 65, 3) := by decide +kernel
theorem dX11_waysWithoutFine_24 : decode cX11_waysWithoutFine 24 = .ok (.invokevirtual 248, 3) := by decide +kernel
theorem dX11_waysWithoutFine_27 : decode cX11_waysWithoutFine 27 = .ok (.aload_n 0, 1) := by decide +kernel
theorem dX11_waysWithoutFine_28 : decode cX11_waysWithoutFine 28 = .ok (.getfield 56, 3) := by decide +kernel
theorem dX11_waysWithoutFine_31 : decode cX11_waysWithoutFine 31 = .ok (.aload_n 0, 1) := by decide +kernel
theorem dX11_waysWithoutFine_32 : decode cX11_waysWithoutFine 32 = .ok (.getfield 34, 3) := by decide +kernel
theorem dX11_waysWithoutFine_35 : decode cX11_waysWithoutFine 35 = .ok (.aload_n 0, 1) := by decide +kernel
theorem dX11_waysWithoutFine_36 : decode cX11_waysWithoutFine 36 = .ok (.getfield 65, 3) := by decide +kernel
theorem dX11_waysWithoutFine_39 : decode cX11_waysWithoutFine 39 = .ok (.invokevirtual 272, 3) := by decide +kernel
theorem dX11_waysWithoutFine_42 : decode cX11_waysWithoutFine 42 = .ok (.iconst 1, 1) := by decide +kernel
theorem dX11_waysWithoutFine_43 : decode cX11_waysWithoutFine 43 = .ok (.iastore, 1) := by decide +kernel
theorem dX11_waysWithoutFine_44 : decode cX11_waysWithoutFine 44 = .ok (.iconst 0, 1) := by decide +kernel
theorem dX11_waysWithoutFine_45 : decode cX11_waysWithoutFine 45 = .ok (.istore_n 3, 1) := by decide +kernel
theorem dX11_waysWithoutFine_46 : decode cX11_waysWithoutFine 46 = .ok (.iload_n 3, 1) := by decide +kernel
theorem dX11_waysWithoutFine_47 : decode cX11_waysWithoutFine 47 = .ok (.iload_n 1, 1) := by decide +kernel
theorem dX11_waysWithoutFine_48 : decode cX11_waysWithoutFine 48 = .ok (.if_icmp .ge 74, 3) := by decide +kernel
theorem dX11_waysWithoutFine_51 : decode cX11_waysWithoutFine 51 = .ok (.aload_n 0, 1) := by decide +kernel
theorem dX11_waysWithoutFine_52 : decode cX11_waysWithoutFine 52 = .ok (.getfield 59, 3) := by decide +kernel
theorem dX11_waysWithoutFine_55 : decode cX11_waysWithoutFine 55 = .ok (.iconst 0, 1) := by decide +kernel
theorem dX11_waysWithoutFine_56 : decode cX11_waysWithoutFine 56 = .ok (.invokestatic 266, 3) := by decide +kernel
theorem dX11_waysWithoutFine_59 : decode cX11_waysWithoutFine 59 = .ok (.iconst 0, 1) := by decide +kernel
theorem dX11_waysWithoutFine_60 : decode cX11_waysWithoutFine 60 = .ok (.istore 4, 2) := by decide +kernel
theorem dX11_waysWithoutFine_62 : decode cX11_waysWithoutFine 62 = .ok (.iload 4, 2) := by decide +kernel
theorem dX11_waysWithoutFine_64 : decode cX11_waysWithoutFine 64 = .ok (.iload_n 2, 1) := by decide +kernel
theorem dX11_waysWithoutFine_65 : decode cX11_waysWithoutFine 65 = .ok (.if_icmp .ge 31, 3) := by decide +kernel
theorem dX11_waysWithoutFine_68 : decode cX11_waysWithoutFine 68 = .ok (.aload_n 0, 1) := by decide +kernel
theorem dX11_waysWithoutFine_69 : decode cX11_waysWithoutFine 69 = .ok (.getfield 56, 3) := by decide +kernel
theorem dX11_waysWithoutFine_72 : decode cX11_waysWithoutFine 72 = .ok (.iload 4, 2) := by decide +kernel
theorem dX11_waysWithoutFine_74 : decode cX11_waysWithoutFine 74 = .ok (.iaload, 1) := by decide +kernel
theorem dX11_waysWithoutFine_75 : decode cX11_waysWithoutFine 75 = .ok (.ifCond .le 15, 3) := by decide +kernel
theorem dX11_waysWithoutFine_78 : decode cX11_waysWithoutFine 78 = .ok (.aload_n 0, 1) := by decide +kernel
theorem dX11_waysWithoutFine_79 : decode cX11_waysWithoutFine 79 = .ok (.iload 4, 2) := by decide +kernel
theorem dX11_waysWithoutFine_81 : decode cX11_waysWithoutFine 81 = .ok (.aload_n 0, 1) := by decide +kernel
theorem dX11_waysWithoutFine_82 : decode cX11_waysWithoutFine 82 = .ok (.getfield 52, 3) := by decide +kernel
theorem dX11_waysWithoutFine_85 : decode cX11_waysWithoutFine 85 = .ok (.iload_n 3, 1) := by decide +kernel
theorem dX11_waysWithoutFine_86 : decode cX11_waysWithoutFine 86 = .ok (.iaload, 1) := by decide +kernel
theorem dX11_waysWithoutFine_87 : decode cX11_waysWithoutFine 87 = .ok (.invokevirtual 275, 3) := by decide +kernel
theorem dX11_waysWithoutFine_90 : decode cX11_waysWithoutFine 90 = .ok (.iinc 4 1, 3) := by decide +kernel
theorem dX11_waysWithoutFine_93 : decode cX11_waysWithoutFine 93 = .ok (.goto (-31), 3) := by decide +kernel
theorem dX11_waysWithoutFine_96 : decode cX11_waysWithoutFine 96 = .ok (.aload_n 0, 1) := by decide +kernel
theorem dX11_waysWithoutFine_97 : decode cX11_waysWithoutFine 97 = .ok (.getfield 56, 3) := by decide +kernel
theorem dX11_waysWithoutFine_100 : decode cX11_waysWithoutFine 100 = .ok (.astore 4, 2) := by decide +kernel
theorem dX11_waysWithoutFine_102 : decode cX11_waysWithoutFine 102 = .ok (.aload_n 0, 1) := by decide +kernel
theorem dX11_waysWithoutFine_103 : decode cX11_waysWithoutFine 103 = .ok (.aload_n 0, 1) := by decide +kernel
theorem dX11_waysWithoutFine_104 : decode cX11_waysWithoutFine 104 = .ok (.getfield 59, 3) := by decide +kernel
theorem dX11_waysWithoutFine_107 : decode cX11_waysWithoutFine 107 = .ok (.putfield 56, 3) := by decide +kernel
theorem dX11_waysWithoutFine_110 : decode cX11_waysWithoutFine 110 = .ok (.aload_n 0, 1) := by decide +kernel
theorem dX11_waysWithoutFine_111 : decode cX11_waysWithoutFine 111 = .ok (.aload 4, 2) := by decide +kernel
theorem dX11_waysWithoutFine_113 : decode cX11_waysWithoutFine 113 = .ok (.putfield 59, 3) := by decide +kernel
theorem dX11_waysWithoutFine_116 : decode cX11_waysWithoutFine 116 = .ok (.iinc 3 1, 3) := by decide +kernel
theorem dX11_waysWithoutFine_119 : decode cX11_waysWithoutFine 119 = .ok (.goto (-73), 3) := by decide +kernel
theorem dX11_waysWithoutFine_122 : decode cX11_waysWithoutFine 122 = .ok (.iconst 0, 1) := by decide +kernel
theorem dX11_waysWithoutFine_123 : decode cX11_waysWithoutFine 123 = .ok (.istore_n 3, 1) := by decide +kernel
theorem dX11_waysWithoutFine_124 : decode cX11_waysWithoutFine 124 = .ok (.iconst 0, 1) := by decide +kernel
theorem dX11_waysWithoutFine_125 : decode cX11_waysWithoutFine 125 = .ok (.istore 4, 2) := by decide +kernel
theorem dX11_waysWithoutFine_127 : decode cX11_waysWithoutFine 127 = .ok (.iload 4, 2) := by decide +kernel
theorem dX11_waysWithoutFine_129 : decode cX11_waysWithoutFine 129 = .ok (.iload_n 2, 1) := by decide +kernel
theorem dX11_waysWithoutFine_130 : decode cX11_waysWithoutFine 130 = .ok (.if_icmp .ge 19, 3) := by decide +kernel
theorem dX11_waysWithoutFine_133 : decode cX11_waysWithoutFine 133 = .ok (.iload_n 3, 1) := by decide +kernel
theorem dX11_waysWithoutFine_134 : decode cX11_waysWithoutFine 134 = .ok (.aload_n 0, 1) := by decide +kernel
theorem dX11_waysWithoutFine_135 : decode cX11_waysWithoutFine 135 = .ok (.getfield 56, 3) := by decide +kernel
theorem dX11_waysWithoutFine_138 : decode cX11_waysWithoutFine 138 = .ok (.iload 4, 2) := by decide +kernel
theorem dX11_waysWithoutFine_140 : decode cX11_waysWithoutFine 140 = .ok (.iaload, 1) := by decide +kernel
theorem dX11_waysWithoutFine_141 : decode cX11_waysWithoutFine 141 = .ok (.iadd, 1) := by decide +kernel
theorem dX11_waysWithoutFine_142 : decode cX11_waysWithoutFine 142 = .ok (.istore_n 3, 1) := by decide +kernel
theorem dX11_waysWithoutFine_143 : decode cX11_waysWithoutFine 143 = .ok (.iinc 4 1, 3) := by decide +kernel
theorem dX11_waysWithoutFine_146 : decode cX11_waysWithoutFine 146 = .ok (.goto (-19), 3) := by decide +kernel
theorem dX11_waysWithoutFine_149 : decode cX11_waysWithoutFine 149 = .ok (.iload_n 3, 1) := by decide +kernel
theorem dX11_waysWithoutFine_150 : decode cX11_waysWithoutFine 150 = .ok (.ireturn, 1) := by decide +kernel
theorem dX11_sailByChance_0 : decode cX11_sailByChance 0 = .ok (.iconst 1, 1) := by decide +kernel
theorem dX11_sailByChance_1 : decode cX11_sailByChance 1 = .ok (.istore_n 3, 1) := by decide +kernel
theorem dX11_sailByChance_2 : decode cX11_sailByChance 2 = .ok (.iload_n 3, 1) := by decide +kernel
theorem dX11_sailByChance_3 : decode cX11_sailByChance 3 = .ok (.iconst 2, 1) := by decide +kernel
theorem dX11_sailByChance_4 : decode cX11_sailByChance 4 = .ok (.if_icmp .gt 62, 3) := by decide +kernel
theorem dX11_sailByChance_7 : decode cX11_sailByChance 7 = .ok (.aload_n 0, 1) := by decide +kernel
theorem dX11_sailByChance_8 : decode cX11_sailByChance 8 = .ok (.getfield 34, 3) := by decide +kernel
theorem dX11_sailByChance_11 : decode cX11_sailByChance 11 = .ok (.aload_n 0, 1) := by decide +kernel
theorem dX11_sailByChance_12 : decode cX11_sailByChance 12 = .ok (.getfield 65, 3) := by decide +kernel
theorem dX11_sailByChance_15 : decode cX11_sailByChance 15 = .ok (.iload_n 1, 1) := by decide +kernel
theorem dX11_sailByChance_16 : decode cX11_sailByChance 16 = .ok (.invokevirtual 279, 3) := by decide +kernel
theorem dX11_sailByChance_19 : decode cX11_sailByChance 19 = .ok (.aload_n 0, 1) := by decide +kernel
theorem dX11_sailByChance_20 : decode cX11_sailByChance 20 = .ok (.getfield 34, 3) := by decide +kernel
theorem dX11_sailByChance_23 : decode cX11_sailByChance 23 = .ok (.aload_n 0, 1) := by decide +kernel
theorem dX11_sailByChance_24 : decode cX11_sailByChance 24 = .ok (.getfield 65, 3) := by decide +kernel
theorem dX11_sailByChance_27 : decode cX11_sailByChance 27 = .ok (.iload_n 2, 1) := by decide +kernel
theorem dX11_sailByChance_28 : decode cX11_sailByChance 28 = .ok (.iload_n 3, 1) := by decide +kernel
theorem dX11_sailByChance_29 : decode cX11_sailByChance 29 = .ok (.invokevirtual 251, 3) := by decide +kernel
theorem dX11_sailByChance_32 : decode cX11_sailByChance 32 = .ok (.ifCond .ne 28, 3) := by decide +kernel
theorem dX11_sailByChance_35 : decode cX11_sailByChance 35 = .ok (.aload_n 0, 1) := by decide +kernel
theorem dX11_sailByChance_36 : decode cX11_sailByChance 36 = .ok (.getfield 59, 3) := by decide +kernel
theorem dX11_sailByChance_39 : decode cX11_sailByChance 39 = .ok (.aload_n 0, 1) := by decide +kernel
theorem dX11_sailByChance_40 : decode cX11_sailByChance 40 = .ok (.getfield 34, 3) := by decide +kernel
theorem dX11_sailByChance_43 : decode cX11_sailByChance 43 = .ok (.aload_n 0, 1) := by decide +kernel
theorem dX11_sailByChance_44 : decode cX11_sailByChance 44 = .ok (.getfield 65, 3) := by decide +kernel
theorem dX11_sailByChance_47 : decode cX11_sailByChance 47 = .ok (.invokevirtual 272, 3) := by decide +kernel
theorem dX11_sailByChance_50 : decode cX11_sailByChance 50 = .ok (.dup2, 1) := by decide +kernel
theorem dX11_sailByChance_51 : decode cX11_sailByChance 51 = .ok (.iaload, 1) := by decide +kernel
theorem dX11_sailByChance_52 : decode cX11_sailByChance 52 = .ok (.aload_n 0, 1) := by decide +kernel
theorem dX11_sailByChance_53 : decode cX11_sailByChance 53 = .ok (.getfield 56, 3) := by decide +kernel
theorem dX11_sailByChance_56 : decode cX11_sailByChance 56 = .ok (.iload_n 1, 1) := by decide +kernel
theorem dX11_sailByChance_57 : decode cX11_sailByChance 57 = .ok (.iaload, 1) := by decide +kernel
theorem dX11_sailByChance_58 : decode cX11_sailByChance 58 = .ok (.iadd, 1) := by decide +kernel
theorem dX11_sailByChance_59 : decode cX11_sailByChance 59 = .ok (.iastore, 1) := by decide +kernel
theorem dX11_sailByChance_60 : decode cX11_sailByChance 60 = .ok (.iinc 3 1, 3) := by decide +kernel
theorem dX11_sailByChance_63 : decode cX11_sailByChance 63 = .ok (.goto (-61), 3) := by decide +kernel
theorem dX11_sailByChance_66 : decode cX11_sailByChance 66 = .ok (.return_, 1) := by decide +kernel
theorem dX11_sheet_0 : decode cX11_sheet 0 = .ok (.aload_n 0, 1) := by decide +kernel
theorem dX11_sheet_1 : decode cX11_sheet 1 = .ok (.iconst 0, 1) := by decide +kernel
theorem dX11_sheet_2 : decode cX11_sheet 2 = .ok (.putfield 72, 3) := by decide +kernel
theorem dX11_sheet_5 : decode cX11_sheet 5 = .ok (.iload_n 1, 1) := by decide +kernel
theorem dX11_sheet_6 : decode cX11_sheet 6 = .ok (.invokestatic 77, 3) := by decide +kernel
theorem dX11_sheet_9 : decode cX11_sheet 9 = .ok (.ifCond .ne 5, 3) := by decide +kernel
theorem dX11_sheet_12 : decode cX11_sheet 12 = .ok (.iconst (-1), 1) := by decide +kernel
theorem dX11_sheet_13 : decode cX11_sheet 13 = .ok (.ireturn, 1) := by decide +kernel
theorem dX11_sheet_14 : decode cX11_sheet 14 = .ok (.iload_n 2, 1) := by decide +kernel
theorem dX11_sheet_15 : decode cX11_sheet 15 = .ok (.invokestatic 81, 3) := by decide +kernel
theorem dX11_sheet_18 : decode cX11_sheet 18 = .ok (.ifCond .eq 9, 3) := by decide +kernel
theorem dX11_sheet_21 : decode cX11_sheet 21 = .ok (.iload_n 3, 1) := by decide +kernel
theorem dX11_sheet_22 : decode cX11_sheet 22 = .ok (.bipush 60, 2) := by decide +kernel
theorem dX11_sheet_24 : decode cX11_sheet 24 = .ok (.if_icmp .le 6, 3) := by decide +kernel
theorem dX11_sheet_27 : decode cX11_sheet 27 = .ok (.bipush (-2), 2) := by decide +kernel
theorem dX11_sheet_29 : decode cX11_sheet 29 = .ok (.ireturn, 1) := by decide +kernel
theorem dX11_sheet_30 : decode cX11_sheet 30 = .ok (.iload_n 3, 1) := by decide +kernel
theorem dX11_sheet_31 : decode cX11_sheet 31 = .ok (.ifCond .ge 9, 3) := by decide +kernel
theorem dX11_sheet_34 : decode cX11_sheet 34 = .ok (.aload_n 0, 1) := by decide +kernel
theorem dX11_sheet_35 : decode cX11_sheet 35 = .ok (.iconst 4, 1) := by decide +kernel
theorem dX11_sheet_36 : decode cX11_sheet 36 = .ok (.invokevirtual 88, 3) := by decide +kernel
theorem dX11_sheet_39 : decode cX11_sheet 39 = .ok (.ireturn, 1) := by decide +kernel
theorem dX11_sheet_40 : decode cX11_sheet 40 = .ok (.aload_n 0, 1) := by decide +kernel
theorem dX11_sheet_41 : decode cX11_sheet 41 = .ok (.getfield 13, 3) := by decide +kernel
theorem dX11_sheet_44 : decode cX11_sheet 44 = .ok (.iload_n 1, 1) := by decide +kernel
theorem dX11_sheet_45 : decode cX11_sheet 45 = .ok (.aaload, 1) := by decide +kernel
theorem dX11_sheet_46 : decode cX11_sheet 46 = .ok (.iload_n 2, 1) := by decide +kernel
theorem dX11_sheet_47 : decode cX11_sheet 47 = .ok (.iload_n 3, 1) := by decide +kernel
theorem dX11_sheet_48 : decode cX11_sheet 48 = .ok (.invokevirtual 283, 3) := by decide +kernel
theorem dX11_sheet_51 : decode cX11_sheet 51 = .ok (.iconst 1, 1) := by decide +kernel
theorem dX11_sheet_52 : decode cX11_sheet 52 = .ok (.ireturn, 1) := by decide +kernel
theorem dX11_lose_0 : decode cX11_lose 0 = .ok (.iload_n 1, 1) := by decide +kernel
theorem dX11_lose_1 : decode cX11_lose 1 = .ok (.invokestatic 77, 3) := by decide +kernel
theorem dX11_lose_4 : decode cX11_lose 4 = .ok (.ifCond .ne 5, 3) := by decide +kernel
theorem dX11_lose_7 : decode cX11_lose 7 = .ok (.iconst (-1), 1) := by decide +kernel
theorem dX11_lose_8 : decode cX11_lose 8 = .ok (.ireturn, 1) := by decide +kernel
theorem dX11_lose_9 : decode cX11_lose 9 = .ok (.aload_n 0, 1) := by decide +kernel
theorem dX11_lose_10 : decode cX11_lose 10 = .ok (.getfield 13, 3) := by decide +kernel
theorem dX11_lose_13 : decode cX11_lose 13 = .ok (.iload_n 1, 1) := by decide +kernel
theorem dX11_lose_14 : decode cX11_lose 14 = .ok (.aaload, 1) := by decide +kernel
theorem dX11_lose_15 : decode cX11_lose 15 = .ok (.invokevirtual 286, 3) := by decide +kernel
theorem dX11_lose_18 : decode cX11_lose 18 = .ok (.ifCond .ne 5, 3) := by decide +kernel
theorem dX11_lose_21 : decode cX11_lose 21 = .ok (.iconst 0, 1) := by decide +kernel
theorem dX11_lose_22 : decode cX11_lose 22 = .ok (.ireturn, 1) := by decide +kernel
theorem dX11_lose_23 : decode cX11_lose 23 = .ok (.aload_n 0, 1) := by decide +kernel
theorem dX11_lose_24 : decode cX11_lose 24 = .ok (.getfield 13, 3) := by decide +kernel
theorem dX11_lose_27 : decode cX11_lose 27 = .ok (.iload_n 1, 1) := by decide +kernel
theorem dX11_lose_28 : decode cX11_lose 28 = .ok (.aaload, 1) := by decide +kernel
theorem dX11_lose_29 : decode cX11_lose 29 = .ok (.iconst (-1), 1) := by decide +kernel
theorem dX11_lose_30 : decode cX11_lose 30 = .ok (.putfield 289, 3) := by decide +kernel
theorem dX11_lose_33 : decode cX11_lose 33 = .ok (.iconst 1, 1) := by decide +kernel
theorem dX11_lose_34 : decode cX11_lose 34 = .ok (.ireturn, 1) := by decide +kernel
theorem dX11_put_0 : decode cX11_put 0 = .ok (.aload_n 0, 1) := by decide +kernel
theorem dX11_put_1 : decode cX11_put 1 = .ok (.iconst 0, 1) := by decide +kernel
theorem dX11_put_2 : decode cX11_put 2 = .ok (.putfield 72, 3) := by decide +kernel
theorem dX11_put_5 : decode cX11_put 5 = .ok (.iload_n 1, 1) := by decide +kernel
theorem dX11_put_6 : decode cX11_put 6 = .ok (.invokestatic 77, 3) := by decide +kernel
theorem dX11_put_9 : decode cX11_put 9 = .ok (.ifCond .ne 5, 3) := by decide +kernel
theorem dX11_put_12 : decode cX11_put 12 = .ok (.iconst (-1), 1) := by decide +kernel
theorem dX11_put_13 : decode cX11_put 13 = .ok (.ireturn, 1) := by decide +kernel
theorem dX11_put_14 : decode cX11_put 14 = .ok (.aload_n 0, 1) := by decide +kernel
theorem dX11_put_15 : decode cX11_put 15 = .ok (.getfield 13, 3) := by decide +kernel
theorem dX11_put_18 : decode cX11_put 18 = .ok (.iload_n 1, 1) := by decide +kernel
theorem dX11_put_19 : decode cX11_put 19 = .ok (.aaload, 1) := by decide +kernel
theorem dX11_put_20 : decode cX11_put 20 = .ok (.astore 4, 2) := by decide +kernel
theorem dX11_put_22 : decode cX11_put 22 = .ok (.aload 4, 2) := by decide +kernel
theorem dX11_put_24 : decode cX11_put 24 = .ok (.invokevirtual 286, 3) := by decide +kernel
theorem dX11_put_27 : decode cX11_put 27 = .ok (.ifCond .ne 9, 3) := by decide +kernel
theorem dX11_put_30 : decode cX11_put 30 = .ok (.aload_n 0, 1) := by decide +kernel
theorem dX11_put_31 : decode cX11_put 31 = .ok (.iconst 1, 1) := by decide +kernel
theorem dX11_put_32 : decode cX11_put 32 = .ok (.invokevirtual 88, 3) := by decide +kernel
theorem dX11_put_35 : decode cX11_put 35 = .ok (.ireturn, 1) := by decide +kernel
theorem dX11_put_36 : decode cX11_put 36 = .ok (.aload 4, 2) := by decide +kernel
theorem dX11_put_38 : decode cX11_put 38 = .ok (.iload_n 2, 1) := by decide +kernel
theorem dX11_put_39 : decode cX11_put 39 = .ok (.iconst 1, 1) := by decide +kernel
theorem dX11_put_40 : decode cX11_put 40 = .ok (.invokevirtual 124, 3) := by decide +kernel
theorem dX11_put_43 : decode cX11_put 43 = .ok (.ifCond .ne 9, 3) := by decide +kernel
theorem dX11_put_46 : decode cX11_put 46 = .ok (.aload_n 0, 1) := by decide +kernel
theorem dX11_put_47 : decode cX11_put 47 = .ok (.iconst 3, 1) := by decide +kernel
theorem dX11_put_48 : decode cX11_put 48 = .ok (.invokevirtual 88, 3) := by decide +kernel
theorem dX11_put_51 : decode cX11_put 51 = .ok (.ireturn, 1) := by decide +kernel
theorem dX11_put_52 : decode cX11_put 52 = .ok (.aload 4, 2) := by decide +kernel
theorem dX11_put_54 : decode cX11_put 54 = .ok (.getfield 92, 3) := by decide +kernel
theorem dX11_put_57 : decode cX11_put 57 = .ok (.iload_n 2, 1) := by decide +kernel
theorem dX11_put_58 : decode cX11_put 58 = .ok (.aload 4, 2) := by decide +kernel
theorem dX11_put_60 : decode cX11_put 60 = .ok (.iload_n 3, 1) := by decide +kernel
theorem dX11_put_61 : decode cX11_put 61 = .ok (.invokevirtual 292, 3) := by decide +kernel
theorem dX11_put_64 : decode cX11_put 64 = .ok (.iastore, 1) := by decide +kernel
theorem dX11_put_65 : decode cX11_put 65 = .ok (.iconst 1, 1) := by decide +kernel
theorem dX11_put_66 : decode cX11_put 66 = .ok (.ireturn, 1) := by decide +kernel
theorem dX11_cell_0 : decode cX11_cell 0 = .ok (.aload_n 0, 1) := by decide +kernel
theorem dX11_cell_1 : decode cX11_cell 1 = .ok (.iconst 0, 1) := by decide +kernel
theorem dX11_cell_2 : decode cX11_cell 2 = .ok (.putfield 72, 3) := by decide +kernel
theorem dX11_cell_5 : decode cX11_cell 5 = .ok (.iload_n 1, 1) := by decide +kernel
theorem dX11_cell_6 : decode cX11_cell 6 = .ok (.invokestatic 77, 3) := by decide +kernel
theorem dX11_cell_9 : decode cX11_cell 9 = .ok (.ifCond .eq 10, 3) := by decide +kernel
theorem dX11_cell_12 : decode cX11_cell 12 = .ok (.iload_n 3, 1) := by decide +kernel
theorem dX11_cell_13 : decode cX11_cell 13 = .ok (.invokestatic 81, 3) := by decide +kernel
theorem dX11_cell_16 : decode cX11_cell 16 = .ok (.ifCond .ne 7, 3) := by decide +kernel
theorem dX11_cell_19 : decode cX11_cell 19 = .ok (.ldc2_w 258, 3) := by decide +kernel
theorem dX11_cell_22 : decode cX11_cell 22 = .ok (.lreturn, 1) := by decide +kernel
theorem dX11_cell_23 : decode cX11_cell 23 = .ok (.aload_n 0, 1) := by decide +kernel
theorem dX11_cell_24 : decode cX11_cell 24 = .ok (.getfield 13, 3) := by decide +kernel
theorem dX11_cell_27 : decode cX11_cell 27 = .ok (.iload_n 1, 1) := by decide +kernel
theorem dX11_cell_28 : decode cX11_cell 28 = .ok (.aaload, 1) := by decide +kernel
theorem dX11_cell_29 : decode cX11_cell 29 = .ok (.astore 4, 2) := by decide +kernel
theorem dX11_cell_31 : decode cX11_cell 31 = .ok (.aload 4, 2) := by decide +kernel
theorem dX11_cell_33 : decode cX11_cell 33 = .ok (.iload_n 3, 1) := by decide +kernel
theorem dX11_cell_34 : decode cX11_cell 34 = .ok (.invokevirtual 121, 3) := by decide +kernel
theorem dX11_cell_37 : decode cX11_cell 37 = .ok (.istore 5, 2) := by decide +kernel
theorem dX11_cell_39 : decode cX11_cell 39 = .ok (.iload 5, 2) := by decide +kernel
theorem dX11_cell_41 : decode cX11_cell 41 = .ok (.ifCond .ne 16, 3) := by decide +kernel
theorem dX11_cell_44 : decode cX11_cell 44 = .ok (.aload 4, 2) := by decide +kernel
theorem dX11_cell_46 : decode cX11_cell 46 = .ok (.iload_n 2, 1) := by decide +kernel
theorem dX11_cell_47 : decode cX11_cell 47 = .ok (.iconst 1, 1) := by decide +kernel
theorem dX11_cell_48 : decode cX11_cell 48 = .ok (.invokevirtual 124, 3) := by decide +kernel
theorem dX11_cell_51 : decode cX11_cell 51 = .ok (.ifCond .ne 6, 3) := by decide +kernel
theorem dX11_cell_54 : decode cX11_cell 54 = .ok (.iconst 3, 1) := by decide +kernel
theorem dX11_cell_55 : decode cX11_cell 55 = .ok (.istore 5, 2) := by decide +kernel
theorem dX11_cell_57 : decode cX11_cell 57 = .ok (.iload 5, 2) := by decide +kernel
theorem dX11_cell_59 : decode cX11_cell 59 = .ok (.ifCond .eq 13, 3) := by decide +kernel
theorem dX11_cell_62 : decode cX11_cell 62 = .ok (.aload_n 0, 1) := by decide +kernel
theorem dX11_cell_63 : decode cX11_cell 63 = .ok (.iload 5, 2) := by decide +kernel
theorem dX11_cell_65 : decode cX11_cell 65 = .ok (.putfield 72, 3) := by decide +kernel
theorem dX11_cell_68 : decode cX11_cell 68 = .ok (.ldc2_w 258, 3) := by decide +kernel
theorem dX11_cell_71 : decode cX11_cell 71 = .ok (.lreturn, 1) := by decide +kernel
theorem dX11_cell_72 : decode cX11_cell 72 = .ok (.aload 4, 2) := by decide +kernel
theorem dX11_cell_74 : decode cX11_cell 74 = .ok (.getfield 92, 3) := by decide +kernel
theorem dX11_cell_77 : decode cX11_cell 77 = .ok (.iload_n 2, 1) := by decide +kernel
theorem dX11_cell_78 : decode cX11_cell 78 = .ok (.iaload, 1) := by decide +kernel
theorem dX11_cell_79 : decode cX11_cell 79 = .ok (.i2l, 1) := by decide +kernel
theorem dX11_cell_80 : decode cX11_cell 80 = .ok (.lreturn, 1) := by decide +kernel
theorem dX11_copy_0 : decode cX11_copy 0 = .ok (.aload_n 0, 1) := by decide +kernel
theorem dX11_copy_1 : decode cX11_copy 1 = .ok (.iconst 0, 1) := by decide +kernel
theorem dX11_copy_2 : decode cX11_copy 2 = .ok (.putfield 72, 3) := by decide +kernel
theorem dX11_copy_5 : decode cX11_copy 5 = .ok (.iload_n 1, 1) := by decide +kernel
theorem dX11_copy_6 : decode cX11_copy 6 = .ok (.invokestatic 77, 3) := by decide +kernel
theorem dX11_copy_9 : decode cX11_copy 9 = .ok (.ifCond .eq 10, 3) := by decide +kernel
theorem dX11_copy_12 : decode cX11_copy 12 = .ok (.iload_n 3, 1) := by decide +kernel
theorem dX11_copy_13 : decode cX11_copy 13 = .ok (.invokestatic 77, 3) := by decide +kernel
theorem dX11_copy_16 : decode cX11_copy 16 = .ok (.ifCond .ne 5, 3) := by decide +kernel
theorem dX11_copy_19 : decode cX11_copy 19 = .ok (.iconst (-1), 1) := by decide +kernel
theorem dX11_copy_20 : decode cX11_copy 20 = .ok (.ireturn, 1) := by decide +kernel
theorem dX11_copy_21 : decode cX11_copy 21 = .ok (.aload_n 0, 1) := by decide +kernel
theorem dX11_copy_22 : decode cX11_copy 22 = .ok (.getfield 13, 3) := by decide +kernel
theorem dX11_copy_25 : decode cX11_copy 25 = .ok (.iload_n 1, 1) := by decide +kernel
theorem dX11_copy_26 : decode cX11_copy 26 = .ok (.aaload, 1) := by decide +kernel
theorem dX11_copy_27 : decode cX11_copy 27 = .ok (.astore 6, 2) := by decide +kernel
theorem dX11_copy_29 : decode cX11_copy 29 = .ok (.aload_n 0, 1) := by decide +kernel
theorem dX11_copy_30 : decode cX11_copy 30 = .ok (.getfield 13, 3) := by decide +kernel
theorem dX11_copy_33 : decode cX11_copy 33 = .ok (.iload_n 3, 1) := by decide +kernel
theorem dX11_copy_34 : decode cX11_copy 34 = .ok (.aaload, 1) := by decide +kernel
theorem dX11_copy_35 : decode cX11_copy 35 = .ok (.astore 7, 2) := by decide +kernel
theorem dX11_copy_37 : decode cX11_copy 37 = .ok (.aload 6, 2) := by decide +kernel
theorem dX11_copy_39 : decode cX11_copy 39 = .ok (.invokevirtual 286, 3) := by decide +kernel
theorem dX11_copy_42 : decode cX11_copy 42 = .ok (.ifCond .eq 11, 3) := by decide +kernel
theorem dX11_copy_45 : decode cX11_copy 45 = .ok (.aload 7, 2) := by decide +kernel
theorem dX11_copy_47 : decode cX11_copy 47 = .ok (.invokevirtual 286, 3) := by decide +kernel
theorem dX11_copy_50 : decode cX11_copy 50 = .ok (.ifCond .ne 9, 3) := by decide +kernel
theorem dX11_copy_53 : decode cX11_copy 53 = .ok (.aload_n 0, 1) := by decide +kernel
theorem dX11_copy_54 : decode cX11_copy 54 = .ok (.iconst 1, 1) := by decide +kernel
theorem dX11_copy_55 : decode cX11_copy 55 = .ok (.invokevirtual 88, 3) := by decide +kernel
theorem dX11_copy_58 : decode cX11_copy 58 = .ok (.ireturn, 1) := by decide +kernel
theorem dX11_copy_59 : decode cX11_copy 59 = .ok (.aload 6, 2) := by decide +kernel
theorem dX11_copy_61 : decode cX11_copy 61 = .ok (.getfield 289, 3) := by decide +kernel
theorem dX11_copy_64 : decode cX11_copy 64 = .ok (.aload 7, 2) := by decide +kernel
theorem dX11_copy_66 : decode cX11_copy 66 = .ok (.getfield 289, 3) := by decide +kernel
theorem dX11_copy_69 : decode cX11_copy 69 = .ok (.if_icmp .eq 9, 3) := by decide +kernel
theorem dX11_copy_72 : decode cX11_copy 72 = .ok (.aload_n 0, 1) := by decide +kernel
theorem dX11_copy_73 : decode cX11_copy 73 = .ok (.iconst 2, 1) := by decide +kernel
theorem dX11_copy_74 : decode cX11_copy 74 = .ok (.invokevirtual 88, 3) := by decide +kernel
theorem dX11_copy_77 : decode cX11_copy 77 = .ok (.ireturn, 1) := by decide +kernel
theorem dX11_copy_78 : decode cX11_copy 78 = .ok (.aload 6, 2) := by decide +kernel
theorem dX11_copy_80 : decode cX11_copy 80 = .ok (.iload_n 2, 1) := by decide +kernel
theorem dX11_copy_81 : decode cX11_copy 81 = .ok (.iload 5, 2) := by decide +kernel
theorem dX11_copy_83 : decode cX11_copy 83 = .ok (.invokevirtual 124, 3) := by decide +kernel
theorem dX11_copy_86 : decode cX11_copy 86 = .ok (.ifCond .eq 15, 3) := by decide +kernel
theorem dX11_copy_89 : decode cX11_copy 89 = .ok (.aload 7, 2) := by decide +kernel
theorem dX11_copy_91 : decode cX11_copy 91 = .ok (.iload 4, 2) := by decide +kernel
theorem dX11_copy_93 : decode cX11_copy 93 = .ok (.iload 5, 2) := by decide +kernel
theorem dX11_copy_95 : decode cX11_copy 95 = .ok (.invokevirtual 124, 3) := by decide +kernel
theorem dX11_copy_98 : decode cX11_copy 98 = .ok (.ifCond .ne 9, 3) := by decide +kernel
theorem dX11_copy_101 : decode cX11_copy 101 = .ok (.aload_n 0, 1) := by decide +kernel
theorem dX11_copy_102 : decode cX11_copy 102 = .ok (.iconst 3, 1) := by decide +kernel
theorem dX11_copy_103 : decode cX11_copy 103 = .ok (.invokevirtual 88, 3) := by decide +kernel
theorem dX11_copy_106 : decode cX11_copy 106 = .ok (.ireturn, 1) := by decide +kernel
theorem dX11_copy_107 : decode cX11_copy 107 = .ok (.aload 6, 2) := by decide +kernel
theorem dX11_copy_109 : decode cX11_copy 109 = .ok (.getfield 92, 3) := by decide +kernel
theorem dX11_copy_112 : decode cX11_copy 112 = .ok (.iload_n 2, 1) := by decide +kernel
theorem dX11_copy_113 : decode cX11_copy 113 = .ok (.aload 7, 2) := by decide +kernel
theorem dX11_copy_115 : decode cX11_copy 115 = .ok (.getfield 92, 3) := by decide +kernel
theorem dX11_copy_118 : decode cX11_copy 118 = .ok (.iload 4, 2) := by decide +kernel
theorem dX11_copy_120 : decode cX11_copy 120 = .ok (.iload 5, 2) := by decide +kernel
theorem dX11_copy_122 : decode cX11_copy 122 = .ok (.invokestatic 295, 3) := by decide +kernel
theorem dX11_copy_125 : decode cX11_copy 125 = .ok (.iload 5, 2) := by decide +kernel
theorem dX11_copy_127 : decode cX11_copy 127 = .ok (.ireturn, 1) := by decide +kernel
theorem dX11_tell_0 : decode cX11_tell 0 = .ok (.aload_n 0, 1) := by decide +kernel
theorem dX11_tell_1 : decode cX11_tell 1 = .ok (.iload_n 1, 1) := by decide +kernel
theorem dX11_tell_2 : decode cX11_tell 2 = .ok (.invokevirtual 135, 3) := by decide +kernel
theorem dX11_tell_5 : decode cX11_tell 5 = .ok (.ifCond .eq 22, 3) := by decide +kernel
theorem dX11_tell_8 : decode cX11_tell 8 = .ok (.aload_n 0, 1) := by decide +kernel
theorem dX11_tell_9 : decode cX11_tell 9 = .ok (.getfield 65, 3) := by decide +kernel
theorem dX11_tell_12 : decode cX11_tell 12 = .ok (.getfield 138, 3) := by decide +kernel
theorem dX11_tell_15 : decode cX11_tell 15 = .ok (.iload_n 1, 1) := by decide +kernel
theorem dX11_tell_16 : decode cX11_tell 16 = .ok (.aaload, 1) := by decide +kernel
theorem dX11_tell_17 : decode cX11_tell 17 = .ok (.aload_n 0, 1) := by decide +kernel
theorem dX11_tell_18 : decode cX11_tell 18 = .ok (.getfield 48, 3) := by decide +kernel
theorem dX11_tell_21 : decode cX11_tell 21 = .ok (.invokevirtual 301, 3) := by decide +kernel
theorem dX11_tell_24 : decode cX11_tell 24 = .ok (.goto 4, 3) := by decide +kernel
theorem dX11_tell_27 : decode cX11_tell 27 = .ok (.iconst (-1), 1) := by decide +kernel
theorem dX11_tell_28 : decode cX11_tell 28 = .ok (.ireturn, 1) := by decide +kernel
theorem dX11_hail_0 : decode cX11_hail 0 = .ok (.aload_n 0, 1) := by decide +kernel
theorem dX11_hail_1 : decode cX11_hail 1 = .ok (.iload_n 1, 1) := by decide +kernel
theorem dX11_hail_2 : decode cX11_hail 2 = .ok (.invokevirtual 135, 3) := by decide +kernel
theorem dX11_hail_5 : decode cX11_hail 5 = .ok (.ifCond .eq 22, 3) := by decide +kernel
theorem dX11_hail_8 : decode cX11_hail 8 = .ok (.aload_n 0, 1) := by decide +kernel
theorem dX11_hail_9 : decode cX11_hail 9 = .ok (.getfield 65, 3) := by decide +kernel
theorem dX11_hail_12 : decode cX11_hail 12 = .ok (.getfield 138, 3) := by decide +kernel
theorem dX11_hail_15 : decode cX11_hail 15 = .ok (.iload_n 1, 1) := by decide +kernel
theorem dX11_hail_16 : decode cX11_hail 16 = .ok (.aaload, 1) := by decide +kernel
theorem dX11_hail_17 : decode cX11_hail 17 = .ok (.aload_n 0, 1) := by decide +kernel
theorem dX11_hail_18 : decode cX11_hail 18 = .ok (.getfield 48, 3) := by decide +kernel
theorem dX11_hail_21 : decode cX11_hail 21 = .ok (.invokevirtual 305, 3) := by decide +kernel
theorem dX11_hail_24 : decode cX11_hail 24 = .ok (.goto 4, 3) := by decide +kernel
theorem dX11_hail_27 : decode cX11_hail 27 = .ok (.iconst (-1), 1) := by decide +kernel
theorem dX11_hail_28 : decode cX11_hail 28 = .ok (.ireturn, 1) := by decide +kernel
theorem dX11_as_0 : decode cX11_as 0 = .ok (.aload_n 0, 1) := by decide +kernel
theorem dX11_as_1 : decode cX11_as 1 = .ok (.iconst 0, 1) := by decide +kernel
theorem dX11_as_2 : decode cX11_as 2 = .ok (.putfield 72, 3) := by decide +kernel
theorem dX11_as_5 : decode cX11_as 5 = .ok (.aload_n 0, 1) := by decide +kernel
theorem dX11_as_6 : decode cX11_as 6 = .ok (.iload_n 1, 1) := by decide +kernel
theorem dX11_as_7 : decode cX11_as 7 = .ok (.invokevirtual 135, 3) := by decide +kernel
theorem dX11_as_10 : decode cX11_as 10 = .ok (.ifCond .ne 5, 3) := by decide +kernel
theorem dX11_as_13 : decode cX11_as 13 = .ok (.iconst (-1), 1) := by decide +kernel
theorem dX11_as_14 : decode cX11_as 14 = .ok (.ireturn, 1) := by decide +kernel
theorem dX11_as_15 : decode cX11_as 15 = .ok (.iload_n 2, 1) := by decide +kernel
theorem dX11_as_16 : decode cX11_as 16 = .ok (.ifCond .lt 8, 3) := by decide +kernel
theorem dX11_as_19 : decode cX11_as 19 = .ok (.iload_n 2, 1) := by decide +kernel
theorem dX11_as_20 : decode cX11_as 20 = .ok (.iconst 3, 1) := by decide +kernel
theorem dX11_as_21 : decode cX11_as 21 = .ok (.if_icmp .lt 6, 3) := by decide +kernel
theorem dX11_as_24 : decode cX11_as 24 = .ok (.bipush (-2), 2) := by decide +kernel
theorem dX11_as_26 : decode cX11_as 26 = .ok (.ireturn, 1) := by decide +kernel
theorem dX11_as_27 : decode cX11_as 27 = .ok (.aload_n 0, 1) := by decide +kernel
theorem dX11_as_28 : decode cX11_as 28 = .ok (.getfield 65, 3) := by decide +kernel
theorem dX11_as_31 : decode cX11_as 31 = .ok (.getfield 138, 3) := by decide +kernel
theorem dX11_as_34 : decode cX11_as 34 = .ok (.iload_n 1, 1) := by decide +kernel
theorem dX11_as_35 : decode cX11_as 35 = .ok (.aaload, 1) := by decide +kernel
theorem dX11_as_36 : decode cX11_as 36 = .ok (.iload_n 2, 1) := by decide +kernel
theorem dX11_as_37 : decode cX11_as 37 = .ok (.invokestatic 308, 3) := by decide +kernel
theorem dX11_as_40 : decode cX11_as 40 = .ok (.ifCond .eq 7, 3) := by decide +kernel
theorem dX11_as_43 : decode cX11_as 43 = .ok (.iconst 1, 1) := by decide +kernel
theorem dX11_as_44 : decode cX11_as 44 = .ok (.goto 8, 3) := by decide +kernel
theorem dX11_as_47 : decode cX11_as 47 = .ok (.aload_n 0, 1) := by decide +kernel
theorem dX11_as_48 : decode cX11_as 48 = .ok (.iconst 2, 1) := by decide +kernel
theorem dX11_as_49 : decode cX11_as 49 = .ok (.invokevirtual 88, 3) := by decide +kernel
theorem dX11_as_52 : decode cX11_as 52 = .ok (.ireturn, 1) := by decide +kernel
theorem dX11_isOfKind_0 : decode cX11_isOfKind 0 = .ok (.iload_n 1, 1) := by decide +kernel
theorem dX11_isOfKind_1 : decode cX11_isOfKind 1 = .ok (.lookupswitch 37 #[(1, 27), (2, 32)], 27) := by decide +kernel
theorem dX11_isOfKind_28 : decode cX11_isOfKind 28 = .ok (.aload_n 0, 1) := by decide +kernel
theorem dX11_isOfKind_29 : decode cX11_isOfKind 29 = .ok (.instanceof 312, 3) := by decide +kernel
theorem dX11_isOfKind_32 : decode cX11_isOfKind 32 = .ok (.ireturn, 1) := by decide +kernel
theorem dX11_isOfKind_33 : decode cX11_isOfKind 33 = .ok (.aload_n 0, 1) := by decide +kernel
theorem dX11_isOfKind_34 : decode cX11_isOfKind 34 = .ok (.instanceof 314, 3) := by decide +kernel
theorem dX11_isOfKind_37 : decode cX11_isOfKind 37 = .ok (.ireturn, 1) := by decide +kernel
theorem dX11_isOfKind_38 : decode cX11_isOfKind 38 = .ok (.iconst 1, 1) := by decide +kernel
theorem dX11_isOfKind_39 : decode cX11_isOfKind 39 = .ok (.ireturn, 1) := by decide +kernel
theorem dX11_trace_0 : decode cX11_trace 0 = .ok (.aload_n 0, 1) := by decide +kernel
theorem dX11_trace_1 : decode cX11_trace 1 = .ok (.getfield 48, 3) := by decide +kernel
theorem dX11_trace_4 : decode cX11_trace 4 = .ok (.getfield 316, 3) := by decide +kernel
theorem dX11_trace_7 : decode cX11_trace 7 = .ok (.ireturn, 1) := by decide +kernel
theorem dX11_fault_0 : decode cX11_fault 0 = .ok (.aload_n 0, 1) := by decide +kernel
theorem dX11_fault_1 : decode cX11_fault 1 = .ok (.getfield 72, 3) := by decide +kernel
theorem dX11_fault_4 : decode cX11_fault 4 = .ok (.ireturn, 1) := by decide +kernel
theorem dX11_many_0 : decode cX11_many 0 = .ok (.iload_n 1, 1) := by decide +kernel
theorem dX11_many_1 : decode cX11_many 1 = .ok (.tableswitch 63 0 3 #[31, 39, 47, 55], 31) := by decide +kernel
theorem dX11_many_32 : decode cX11_many 32 = .ok (.aload_n 0, 1) := by decide +kernel
theorem dX11_many_33 : decode cX11_many 33 = .ok (.getfield 65, 3) := by decide +kernel
theorem dX11_many_36 : decode cX11_many 36 = .ok (.getfield 118, 3) := by decide +kernel
theorem dX11_many_39 : decode cX11_many 39 = .ok (.ireturn, 1) := by decide +kernel
theorem dX11_many_40 : decode cX11_many 40 = .ok (.aload_n 0, 1) := by decide +kernel
theorem dX11_many_41 : decode cX11_many 41 = .ok (.getfield 65, 3) := by decide +kernel
theorem dX11_many_44 : decode cX11_many 44 = .ok (.getfield 167, 3) := by decide +kernel
theorem dX11_many_47 : decode cX11_many 47 = .ok (.ireturn, 1) := by decide +kernel
theorem dX11_many_48 : decode cX11_many 48 = .ok (.aload_n 0, 1) := by decide +kernel
theorem dX11_many_49 : decode cX11_many 49 = .ok (.getfield 65, 3) := by decide +kernel
theorem dX11_many_52 : decode cX11_many 52 = .ok (.getfield 208, 3) := by decide +kernel
theorem dX11_many_55 : decode cX11_many 55 = .ok (.ireturn, 1) := by decide +kernel
theorem dX11_many_56 : decode cX11_many 56 = .ok (.aload_n 0, 1) := by decide +kernel
theorem dX11_many_57 : decode cX11_many 57 = .ok (.getfield 27, 3) := by decide +kernel
theorem dX11_many_60 : decode cX11_many 60 = .ok (.getfield 128, 3) := by decide +kernel
theorem dX11_many_63 : decode cX11_many 63 = .ok (.ireturn, 1) := by decide +kernel
theorem dX11_many_64 : decode cX11_many 64 = .ok (.bipush (-2), 2) := by decide +kernel
theorem dX11_many_66 : decode cX11_many 66 = .ok (.ireturn, 1) := by decide +kernel
theorem dX11_faulted_0 : decode cX11_faulted 0 = .ok (.aload_n 0, 1) := by decide +kernel
theorem dX11_faulted_1 : decode cX11_faulted 1 = .ok (.iload_n 1, 1) := by decide +kernel
theorem dX11_faulted_2 : decode cX11_faulted 2 = .ok (.putfield 72, 3) := by decide +kernel
theorem dX11_faulted_5 : decode cX11_faulted 5 = .ok (.bipush (-10), 2) := by decide +kernel
theorem dX11_faulted_7 : decode cX11_faulted 7 = .ok (.iload_n 1, 1) := by decide +kernel
theorem dX11_faulted_8 : decode cX11_faulted 8 = .ok (.isub, 1) := by decide +kernel
theorem dX11_faulted_9 : decode cX11_faulted 9 = .ok (.ireturn, 1) := by decide +kernel
theorem dX11_isSheet_0 : decode cX11_isSheet 0 = .ok (.iload_n 0, 1) := by decide +kernel
theorem dX11_isSheet_1 : decode cX11_isSheet 1 = .ok (.ifCond .lt 12, 3) := by decide +kernel
theorem dX11_isSheet_4 : decode cX11_isSheet 4 = .ok (.iload_n 0, 1) := by decide +kernel
theorem dX11_isSheet_5 : decode cX11_isSheet 5 = .ok (.iconst 4, 1) := by decide +kernel
theorem dX11_isSheet_6 : decode cX11_isSheet 6 = .ok (.if_icmp .ge 7, 3) := by decide +kernel
theorem dX11_isSheet_9 : decode cX11_isSheet 9 = .ok (.iconst 1, 1) := by decide +kernel
theorem dX11_isSheet_10 : decode cX11_isSheet 10 = .ok (.goto 4, 3) := by decide +kernel
theorem dX11_isSheet_13 : decode cX11_isSheet 13 = .ok (.iconst 0, 1) := by decide +kernel
theorem dX11_isSheet_14 : decode cX11_isSheet 14 = .ok (.ireturn, 1) := by decide +kernel
theorem dX11_isLane_0 : decode cX11_isLane 0 = .ok (.iload_n 0, 1) := by decide +kernel
theorem dX11_isLane_1 : decode cX11_isLane 1 = .ok (.ifCond .lt 12, 3) := by decide +kernel
theorem dX11_isLane_4 : decode cX11_isLane 4 = .ok (.iload_n 0, 1) := by decide +kernel
theorem dX11_isLane_5 : decode cX11_isLane 5 = .ok (.iconst 3, 1) := by decide +kernel
theorem dX11_isLane_6 : decode cX11_isLane 6 = .ok (.if_icmp .ge 7, 3) := by decide +kernel
theorem dX11_isLane_9 : decode cX11_isLane 9 = .ok (.iconst 1, 1) := by decide +kernel
theorem dX11_isLane_10 : decode cX11_isLane 10 = .ok (.goto 4, 3) := by decide +kernel
theorem dX11_isLane_13 : decode cX11_isLane 13 = .ok (.iconst 0, 1) := by decide +kernel
theorem dX11_isLane_14 : decode cX11_isLane 14 = .ok (.ireturn, 1) := by decide +kernel
theorem dX11_isBoat_0 : decode cX11_isBoat 0 = .ok (.iload_n 1, 1) := by decide +kernel
theorem dX11_isBoat_1 : decode cX11_isBoat 1 = .ok (.ifCond .lt 18, 3) := by decide +kernel
theorem dX11_isBoat_4 : decode cX11_isBoat 4 = .ok (.iload_n 1, 1) := by decide +kernel
theorem dX11_isBoat_5 : decode cX11_isBoat 5 = .ok (.aload_n 0, 1) := by decide +kernel
theorem dX11_isBoat_6 : decode cX11_isBoat 6 = .ok (.getfield 65, 3) := by decide +kernel
theorem dX11_isBoat_9 : decode cX11_isBoat 9 = .ok (.getfield 118, 3) := by decide +kernel
theorem dX11_isBoat_12 : decode cX11_isBoat 12 = .ok (.if_icmp .ge 7, 3) := by decide +kernel
theorem dX11_isBoat_15 : decode cX11_isBoat 15 = .ok (.iconst 1, 1) := by decide +kernel
theorem dX11_isBoat_16 : decode cX11_isBoat 16 = .ok (.goto 4, 3) := by decide +kernel
theorem dX11_isBoat_19 : decode cX11_isBoat 19 = .ok (.iconst 0, 1) := by decide +kernel
theorem dX11_isBoat_20 : decode cX11_isBoat 20 = .ok (.ireturn, 1) := by decide +kernel
theorem dX11_isHour_0 : decode cX11_isHour 0 = .ok (.iload_n 1, 1) := by decide +kernel
theorem dX11_isHour_1 : decode cX11_isHour 1 = .ok (.ifCond .lt 18, 3) := by decide +kernel
theorem dX11_isHour_4 : decode cX11_isHour 4 = .ok (.iload_n 1, 1) := by decide +kernel
theorem dX11_isHour_5 : decode cX11_isHour 5 = .ok (.aload_n 0, 1) := by decide +kernel
theorem dX11_isHour_6 : decode cX11_isHour 6 = .ok (.getfield 65, 3) := by decide +kernel
theorem dX11_isHour_9 : decode cX11_isHour 9 = .ok (.getfield 208, 3) := by decide +kernel
theorem dX11_isHour_12 : decode cX11_isHour 12 = .ok (.if_icmp .ge 7, 3) := by decide +kernel
theorem dX11_isHour_15 : decode cX11_isHour 15 = .ok (.iconst 1, 1) := by decide +kernel
theorem dX11_isHour_16 : decode cX11_isHour 16 = .ok (.goto 4, 3) := by decide +kernel
theorem dX11_isHour_19 : decode cX11_isHour 19 = .ok (.iconst 0, 1) := by decide +kernel
theorem dX11_isHour_20 : decode cX11_isHour 20 = .ok (.ireturn, 1) := by decide +kernel
theorem dX11_isSet_0 : decode cX11_isSet 0 = .ok (.iload_n 1, 1) := by decide +kernel
theorem dX11_isSet_1 : decode cX11_isSet 1 = .ok (.ifCond .lt 18, 3) := by decide +kernel
theorem dX11_isSet_4 : decode cX11_isSet 4 = .ok (.iload_n 1, 1) := by decide +kernel
theorem dX11_isSet_5 : decode cX11_isSet 5 = .ok (.aload_n 0, 1) := by decide +kernel
theorem dX11_isSet_6 : decode cX11_isSet 6 = .ok (.getfield 65, 3) := by decide +kernel
theorem dX11_isSet_9 : decode cX11_isSet 9 = .ok (.invokevirtual 228, 3) := by decide +kernel
theorem dX11_isSet_12 : decode cX11_isSet 12 = .ok (.if_icmp .gt 7, 3) := by decide +kernel
theorem dX11_isSet_15 : decode cX11_isSet 15 = .ok (.iconst 1, 1) := by decide +kernel
theorem dX11_isSet_16 : decode cX11_isSet 16 = .ok (.goto 4, 3) := by decide +kernel
theorem dX11_isSet_19 : decode cX11_isSet 19 = .ok (.iconst 0, 1) := by decide +kernel
theorem dX11_isSet_20 : decode cX11_isSet 20 = .ok (.ireturn, 1) := by decide +kernel
theorem dX11_newBoat_0 : decode cX11_newBoat 0 = .ok (.iload_n 0, 1) := by decide +kernel
theorem dX11_newBoat_1 : decode cX11_newBoat 1 = .ok (.lookupswitch 49 #[(1, 27), (2, 38)], 27) := by decide +kernel
theorem dX11_newBoat_28 : decode cX11_newBoat 28 = .ok (.new 312, 3) := by decide +kernel
theorem dX11_newBoat_31 : decode cX11_newBoat 31 = .ok (.dup, 1) := by decide +kernel
theorem dX11_newBoat_32 : decode cX11_newBoat 32 = .ok (.iload_n 1, 1) := by decide +kernel
theorem dX11_newBoat_33 : decode cX11_newBoat 33 = .ok (.iload_n 2, 1) := by decide +kernel
theorem dX11_newBoat_34 : decode cX11_newBoat 34 = .ok (.iload_n 3, 1) := by decide +kernel
theorem dX11_newBoat_35 : decode cX11_newBoat 35 = .ok (.invokespecial 319, 3) := by decide +kernel
theorem dX11_newBoat_38 : decode cX11_newBoat 38 = .ok (.areturn, 1) := by decide +kernel
theorem dX11_newBoat_39 : decode cX11_newBoat 39 = .ok (.new 314, 3) := by decide +kernel
theorem dX11_newBoat_42 : decode cX11_newBoat 42 = .ok (.dup, 1) := by decide +kernel
theorem dX11_newBoat_43 : decode cX11_newBoat 43 = .ok (.iload_n 1, 1) := by decide +kernel
theorem dX11_newBoat_44 : decode cX11_newBoat 44 = .ok (.iload_n 2, 1) := by decide +kernel
theorem dX11_newBoat_45 : decode cX11_newBoat 45 = .ok (.iload_n 3, 1) := by decide +kernel
theorem dX11_newBoat_46 : decode cX11_newBoat 46 = .ok (.invokespecial 322, 3) := by decide +kernel
theorem dX11_newBoat_49 : decode cX11_newBoat 49 = .ok (.areturn, 1) := by decide +kernel
theorem dX11_newBoat_50 : decode cX11_newBoat 50 = .ok (.new 143, 3) := by decide +kernel
theorem dX11_newBoat_53 : decode cX11_newBoat 53 = .ok (.dup, 1) := by decide +kernel
theorem dX11_newBoat_54 : decode cX11_newBoat 54 = .ok (.iload_n 1, 1) := by decide +kernel
theorem dX11_newBoat_55 : decode cX11_newBoat 55 = .ok (.iload_n 2, 1) := by decide +kernel
theorem dX11_newBoat_56 : decode cX11_newBoat 56 = .ok (.iload_n 3, 1) := by decide +kernel
theorem dX11_newBoat_57 : decode cX11_newBoat 57 = .ok (.invokespecial 323, 3) := by decide +kernel
theorem dX11_newBoat_60 : decode cX11_newBoat 60 = .ok (.areturn, 1) := by decide +kernel
theorem dX12_init_0 : decode cX12_init 0 = .ok (.aload_n 0, 1) := by decide +kernel
theorem dX12_init_1 : decode cX12_init 1 = .ok (.invokespecial 1, 3) := by decide +kernel
theorem dX12_init_4 : decode cX12_init 4 = .ok (.aload_n 0, 1) := by decide +kernel
theorem dX12_init_5 : decode cX12_init 5 = .ok (.iconst 4, 1) := by decide +kernel
theorem dX12_init_6 : decode cX12_init 6 = .ok (.newarray .int, 2) := by decide +kernel
theorem dX12_init_8 : decode cX12_init 8 = .ok (.dup, 1) := by decide +kernel
theorem dX12_init_9 : decode cX12_init 9 = .ok (.iconst 0, 1) := by decide +kernel
theorem dX12_init_10 : decode cX12_init 10 = .ok (.bipush (-9), 2) := by decide +kernel
theorem dX12_init_12 : decode cX12_init 12 = .ok (.iastore, 1) := by decide +kernel
theorem dX12_init_13 : decode cX12_init 13 = .ok (.dup, 1) := by decide +kernel
theorem dX12_init_14 : decode cX12_init 14 = .ok (.iconst 1, 1) := by decide +kernel
theorem dX12_init_15 : decode cX12_init 15 = .ok (.bipush (-9), 2) := by decide +kernel
theorem dX12_init_17 : decode cX12_init 17 = .ok (.iastore, 1) := by decide +kernel
theorem dX12_init_18 : decode cX12_init 18 = .ok (.dup, 1) := by decide +kernel
theorem dX12_init_19 : decode cX12_init 19 = .ok (.iconst 2, 1) := by decide +kernel
theorem dX12_init_20 : decode cX12_init 20 = .ok (.bipush (-9), 2) := by decide +kernel
theorem dX12_init_22 : decode cX12_init 22 = .ok (.iastore, 1) := by decide +kernel
theorem dX12_init_23 : decode cX12_init 23 = .ok (.dup, 1) := by decide +kernel
theorem dX12_init_24 : decode cX12_init 24 = .ok (.iconst 3, 1) := by decide +kernel
theorem dX12_init_25 : decode cX12_init 25 = .ok (.bipush (-9), 2) := by decide +kernel
theorem dX12_init_27 : decode cX12_init 27 = .ok (.iastore, 1) := by decide +kernel
theorem dX12_init_28 : decode cX12_init 28 = .ok (.putfield 9, 3) := by decide +kernel
theorem dX12_init_31 : decode cX12_init 31 = .ok (.aload_n 0, 1) := by decide +kernel
theorem dX12_init_32 : decode cX12_init 32 = .ok (.iconst 4, 1) := by decide +kernel
theorem dX12_init_33 : decode cX12_init 33 = .ok (.newarray .int, 2) := by decide +kernel
theorem dX12_init_35 : decode cX12_init 35 = .ok (.putfield 13, 3) := by decide +kernel
theorem dX12_init_38 : decode cX12_init 38 = .ok (.aload_n 0, 1) := by decide +kernel
theorem dX12_init_39 : decode cX12_init 39 = .ok (.sipush 240, 3) := by decide +kernel
theorem dX12_init_42 : decode cX12_init 42 = .ok (.newarray .int, 2) := by decide +kernel
theorem dX12_init_44 : decode cX12_init 44 = .ok (.putfield 16, 3) := by decide +kernel
theorem dX12_init_47 : decode cX12_init 47 = .ok (.aload_n 0, 1) := by decide +kernel
theorem dX12_init_48 : decode cX12_init 48 = .ok (.iconst 5, 1) := by decide +kernel
theorem dX12_init_49 : decode cX12_init 49 = .ok (.newarray .boolean, 2) := by decide +kernel
theorem dX12_init_51 : decode cX12_init 51 = .ok (.putfield 19, 3) := by decide +kernel
theorem dX12_init_54 : decode cX12_init 54 = .ok (.aload_n 0, 1) := by decide +kernel
theorem dX12_init_55 : decode cX12_init 55 = .ok (.bipush 10, 2) := by decide +kernel
theorem dX12_init_57 : decode cX12_init 57 = .ok (.newarray .int, 2) := by decide +kernel
theorem dX12_init_59 : decode cX12_init 59 = .ok (.putfield 23, 3) := by decide +kernel
theorem dX12_init_62 : decode cX12_init 62 = .ok (.aload_n 0, 1) := by decide +kernel
theorem dX12_init_63 : decode cX12_init 63 = .ok (.iconst 3, 1) := by decide +kernel
theorem dX12_init_64 : decode cX12_init 64 = .ok (.newarray .int, 2) := by decide +kernel
theorem dX12_init_66 : decode cX12_init 66 = .ok (.putfield 26, 3) := by decide +kernel
theorem dX12_init_69 : decode cX12_init 69 = .ok (.aload_n 0, 1) := by decide +kernel
theorem dX12_init_70 : decode cX12_init 70 = .ok (.iconst 3, 1) := by decide +kernel
theorem dX12_init_71 : decode cX12_init 71 = .ok (.newarray .int, 2) := by decide +kernel
theorem dX12_init_73 : decode cX12_init 73 = .ok (.putfield 29, 3) := by decide +kernel
theorem dX12_init_76 : decode cX12_init 76 = .ok (.aload_n 0, 1) := by decide +kernel
theorem dX12_init_77 : decode cX12_init 77 = .ok (.iconst 3, 1) := by decide +kernel
theorem dX12_init_78 : decode cX12_init 78 = .ok (.newarray .int, 2) := by decide +kernel
theorem dX12_init_80 : decode cX12_init 80 = .ok (.putfield 32, 3) := by decide +kernel
theorem dX12_init_83 : decode cX12_init 83 = .ok (.aload_n 0, 1) := by decide +kernel
theorem dX12_init_84 : decode cX12_init 84 = .ok (.iconst 5, 1) := by decide +kernel
theorem dX12_init_85 : decode cX12_init 85 = .ok (.newarray .int, 2) := by decide +kernel
theorem dX12_init_87 : decode cX12_init 87 = .ok (.putfield 35, 3) := by decide +kernel
theorem dX12_init_90 : decode cX12_init 90 = .ok (.aload_n 0, 1) := by decide +kernel
theorem dX12_init_91 : decode cX12_init 91 = .ok (.bipush 10, 2) := by decide +kernel
theorem dX12_init_93 : decode cX12_init 93 = .ok (.newarray .int, 2) := by decide +kernel
theorem dX12_init_95 : decode cX12_init 95 = .ok (.putfield 38, 3) := by decide +kernel
theorem dX12_init_98 : decode cX12_init 98 = .ok (.aload_n 0, 1) := by decide +kernel
theorem dX12_init_99 : decode cX12_init 99 = .ok (.bipush 9, 2) := by decide +kernel
theorem dX12_init_101 : decode cX12_init 101 = .ok (.newarray .int, 2) := by decide +kernel
theorem dX12_init_103 : decode cX12_init 103 = .ok (.putfield 41, 3) := by decide +kernel
theorem dX12_init_106 : decode cX12_init 106 = .ok (.aload_n 0, 1) := by decide +kernel
theorem dX12_init_107 : decode cX12_init 107 = .ok (.iconst 3, 1) := by decide +kernel
theorem dX12_init_108 : decode cX12_init 108 = .ok (.newarray .int, 2) := by decide +kernel
theorem dX12_init_110 : decode cX12_init 110 = .ok (.putfield 44, 3) := by decide +kernel
theorem dX12_init_113 : decode cX12_init 113 = .ok (.aload_n 0, 1) := by decide +kernel
theorem dX12_init_114 : decode cX12_init 114 = .ok (.bipush 10, 2) := by decide +kernel
theorem dX12_init_116 : decode cX12_init 116 = .ok (.newarray .int, 2) := by decide +kernel
theorem dX12_init_118 : decode cX12_init 118 = .ok (.putfield 47, 3) := by decide +kernel
theorem dX12_init_121 : decode cX12_init 121 = .ok (.aload_n 0, 1) := by decide +kernel
theorem dX12_init_122 : decode cX12_init 122 = .ok (.bipush 125, 2) := by decide +kernel
theorem dX12_init_124 : decode cX12_init 124 = .ok (.newarray .boolean, 2) := by decide +kernel
theorem dX12_init_126 : decode cX12_init 126 = .ok (.putfield 50, 3) := by decide +kernel
theorem dX12_init_129 : decode cX12_init 129 = .ok (.aload_n 0, 1) := by decide +kernel
theorem dX12_init_130 : decode cX12_init 130 = .ok (.bipush 125, 2) := by decide +kernel
theorem dX12_init_132 : decode cX12_init 132 = .ok (.newarray .boolean, 2) := by decide +kernel
theorem dX12_init_134 : decode cX12_init 134 = .ok (.putfield 53, 3) := by decide +kernel
theorem dX12_init_137 : decode cX12_init 137 = .ok (.aload_n 0, 1) := by decide +kernel
theorem dX12_init_138 : decode cX12_init 138 = .ok (.bipush 8, 2) := by decide +kernel
theorem dX12_init_140 : decode cX12_init 140 = .ok (.newarray .int, 2) := by decide +kernel
theorem dX12_init_142 : decode cX12_init 142 = .ok (.putfield 56, 3) := by decide +kernel
theorem dX12_init_145 : decode cX12_init 145 = .ok (.aload_n 0, 1) := by decide +kernel
theorem dX12_init_146 : decode cX12_init 146 = .ok (.bipush 8, 2) := by decide +kernel
theorem dX12_init_148 : decode cX12_init 148 = .ok (.newarray .int, 2) := by decide +kernel
theorem dX12_init_150 : decode cX12_init 150 = .ok (.putfield 59, 3) := by decide +kernel
theorem dX12_init_153 : decode cX12_init 153 = .ok (.aload_n 0, 1) := by decide +kernel
theorem dX12_init_154 : decode cX12_init 154 = .ok (.bipush 8, 2) := by decide +kernel
theorem dX12_init_156 : decode cX12_init 156 = .ok (.newarray .int, 2) := by decide +kernel
theorem dX12_init_158 : decode cX12_init 158 = .ok (.putfield 62, 3) := by decide +kernel
theorem dX12_init_161 : decode cX12_init 161 = .ok (.return_, 1) := by decide +kernel
theorem dX12_fails_0 : decode cX12_fails 0 = .ok (.aload_n 0, 1) := by decide +kernel
theorem dX12_fails_1 : decode cX12_fails 1 = .ok (.iload_n 1, 1) := by decide +kernel
theorem dX12_fails_2 : decode cX12_fails 2 = .ok (.putfield 65, 3) := by decide +kernel
theorem dX12_fails_5 : decode cX12_fails 5 = .ok (.bipush (-10), 2) := by decide +kernel
theorem dX12_fails_7 : decode cX12_fails 7 = .ok (.iload_n 1, 1) := by decide +kernel
theorem dX12_fails_8 : decode cX12_fails 8 = .ok (.isub, 1) := by decide +kernel
theorem dX12_fails_9 : decode cX12_fails 9 = .ok (.ireturn, 1) := by decide +kernel
theorem dX12_lost_0 : decode cX12_lost 0 = .ok (.aload_n 0, 1) := by decide +kernel
theorem dX12_lost_1 : decode cX12_lost 1 = .ok (.iload_n 1, 1) := by decide +kernel
theorem dX12_lost_2 : decode cX12_lost 2 = .ok (.putfield 65, 3) := by decide +kernel
theorem dX12_lost_5 : decode cX12_lost 5 = .ok (.ldc2_w 69, 3) := by decide +kernel
theorem dX12_lost_8 : decode cX12_lost 8 = .ok (.lreturn, 1) := by decide +kernel
theorem dX12_within_0 : decode cX12_within 0 = .ok (.iload_n 0, 1) := by decide +kernel
theorem dX12_within_1 : decode cX12_within 1 = .ok (.iload_n 1, 1) := by decide +kernel
theorem dX12_within_2 : decode cX12_within 2 = .ok (.if_icmp .lt 12, 3) := by decide +kernel
theorem dX12_within_5 : decode cX12_within 5 = .ok (.iload_n 0, 1) := by decide +kernel
theorem dX12_within_6 : decode cX12_within 6 = .ok (.iload_n 2, 1) := by decide +kernel
theorem dX12_within_7 : decode cX12_within 7 = .ok (.if_icmp .gt 7, 3) := by decide +kernel
theorem dX12_within_10 : decode cX12_within 10 = .ok (.iconst 1, 1) := by decide +kernel
theorem dX12_within_11 : decode cX12_within 11 = .ok (.goto 4, 3) := by decide +kernel
theorem dX12_within_14 : decode cX12_within 14 = .ok (.iconst 0, 1) := by decide +kernel
theorem dX12_within_15 : decode cX12_within 15 = .ok (.ireturn, 1) := by decide +kernel
theorem dX12_isSheet_0 : decode cX12_isSheet 0 = .ok (.iload_n 0, 1) := by decide +kernel
theorem dX12_isSheet_1 : decode cX12_isSheet 1 = .ok (.iconst 0, 1) := by decide +kernel
theorem dX12_isSheet_2 : decode cX12_isSheet 2 = .ok (.iconst 3, 1) := by decide +kernel
theorem dX12_isSheet_3 : decode cX12_isSheet 3 = .ok (.invokestatic 71, 3) := by decide +kernel
theorem dX12_isSheet_6 : decode cX12_isSheet 6 = .ok (.ireturn, 1) := by decide +kernel
theorem dX12_isSort_0 : decode cX12_isSort 0 = .ok (.iload_n 0, 1) := by decide +kernel
theorem dX12_isSort_1 : decode cX12_isSort 1 = .ok (.iconst 0, 1) := by decide +kernel
