theorem dX12_isSort_2 : decode cX12_isSort 2 = .ok (.iconst 2, 1) := by decide +kernel
theorem dX12_isSort_3 : decode cX12_isSort 3 = .ok (.invokestatic 71, 3) := by decide +kernel
theorem dX12_isSort_6 : decode cX12_isSort 6 = .ok (.ireturn, 1) := by decide +kernel
theorem dX12_against_0 : decode cX12_against 0 = .ok (.aload_n 0, 1) := by decide +kernel
theorem dX12_against_1 : decode cX12_against 1 = .ok (.getfield 9, 3) := by decide +kernel
theorem dX12_against_4 : decode cX12_against 4 = .ok (.iload_n 1, 1) := by decide +kernel
theorem dX12_against_5 : decode cX12_against 5 = .ok (.iaload, 1) := by decide +kernel
theorem dX12_against_6 : decode cX12_against 6 = .ok (.bipush (-9), 2) := by decide +kernel
theorem dX12_against_8 : decode cX12_against 8 = .ok (.if_icmp .eq 15, 3) := by decide +kernel
theorem dX12_against_11 : decode cX12_against 11 = .ok (.aload_n 0, 1) := by decide +kernel
theorem dX12_against_12 : decode cX12_against 12 = .ok (.getfield 9, 3) := by decide +kernel
theorem dX12_against_15 : decode cX12_against 15 = .ok (.iload_n 1, 1) := by decide +kernel
theorem dX12_against_16 : decode cX12_against 16 = .ok (.iaload, 1) := by decide +kernel
theorem dX12_against_17 : decode cX12_against 17 = .ok (.iload_n 2, 1) := by decide +kernel
theorem dX12_against_18 : decode cX12_against 18 = .ok (.if_icmp .eq 5, 3) := by decide +kernel
theorem dX12_against_21 : decode cX12_against 21 = .ok (.iconst 2, 1) := by decide +kernel
theorem dX12_against_22 : decode cX12_against 22 = .ok (.ireturn, 1) := by decide +kernel
theorem dX12_against_23 : decode cX12_against 23 = .ok (.aload_n 0, 1) := by decide +kernel
theorem dX12_against_24 : decode cX12_against 24 = .ok (.getfield 9, 3) := by decide +kernel
theorem dX12_against_27 : decode cX12_against 27 = .ok (.iload_n 1, 1) := by decide +kernel
theorem dX12_against_28 : decode cX12_against 28 = .ok (.iaload, 1) := by decide +kernel
theorem dX12_against_29 : decode cX12_against 29 = .ok (.bipush (-9), 2) := by decide +kernel
theorem dX12_against_31 : decode cX12_against 31 = .ok (.if_icmp .ne 5, 3) := by decide +kernel
theorem dX12_against_34 : decode cX12_against 34 = .ok (.iconst 1, 1) := by decide +kernel
theorem dX12_against_35 : decode cX12_against 35 = .ok (.ireturn, 1) := by decide +kernel
theorem dX12_against_36 : decode cX12_against 36 = .ok (.iload 4, 2) := by decide +kernel
theorem dX12_against_38 : decode cX12_against 38 = .ok (.ifCond .ge 5, 3) := by decide +kernel
theorem dX12_against_41 : decode cX12_against 41 = .ok (.iconst 4, 1) := by decide +kernel
theorem dX12_against_42 : decode cX12_against 42 = .ok (.ireturn, 1) := by decide +kernel
theorem dX12_against_43 : decode cX12_against 43 = .ok (.iload_n 3, 1) := by decide +kernel
theorem dX12_against_44 : decode cX12_against 44 = .ok (.ifCond .lt 26, 3) := by decide +kernel
theorem dX12_against_47 : decode cX12_against 47 = .ok (.iload_n 3, 1) := by decide +kernel
theorem dX12_against_48 : decode cX12_against 48 = .ok (.aload_n 0, 1) := by decide +kernel
theorem dX12_against_49 : decode cX12_against 49 = .ok (.getfield 13, 3) := by decide +kernel
theorem dX12_against_52 : decode cX12_against 52 = .ok (.iload_n 1, 1) := by decide +kernel
theorem dX12_against_53 : decode cX12_against 53 = .ok (.iaload, 1) := by decide +kernel
theorem dX12_against_54 : decode cX12_against 54 = .ok (.if_icmp .gt 16, 3) := by decide +kernel
theorem dX12_against_57 : decode cX12_against 57 = .ok (.iload 4, 2) := by decide +kernel
theorem dX12_against_59 : decode cX12_against 59 = .ok (.aload_n 0, 1) := by decide +kernel
theorem dX12_against_60 : decode cX12_against 60 = .ok (.getfield 13, 3) := by decide +kernel
theorem dX12_against_63 : decode cX12_against 63 = .ok (.iload_n 1, 1) := by decide +kernel
theorem dX12_against_64 : decode cX12_against 64 = .ok (.iaload, 1) := by decide +kernel
theorem dX12_against_65 : decode cX12_against 65 = .ok (.iload_n 3, 1) := by decide +kernel
theorem dX12_against_66 : decode cX12_against 66 = .ok (.isub, 1) := by decide +kernel
theorem dX12_against_67 : decode cX12_against 67 = .ok (.if_icmp .le 7, 3) := by decide +kernel
theorem dX12_against_70 : decode cX12_against 70 = .ok (.iconst 3, 1) := by decide +kernel
theorem dX12_against_71 : decode cX12_against 71 = .ok (.goto 4, 3) := by decide +kernel
theorem dX12_against_74 : decode cX12_against 74 = .ok (.iconst 0, 1) := by decide +kernel
theorem dX12_against_75 : decode cX12_against 75 = .ok (.ireturn, 1) := by decide +kernel
theorem dX12_isBoat_0 : decode cX12_isBoat 0 = .ok (.iload_n 1, 1) := by decide +kernel
theorem dX12_isBoat_1 : decode cX12_isBoat 1 = .ok (.ifCond .lt 15, 3) := by decide +kernel
theorem dX12_isBoat_4 : decode cX12_isBoat 4 = .ok (.iload_n 1, 1) := by decide +kernel
theorem dX12_isBoat_5 : decode cX12_isBoat 5 = .ok (.aload_n 0, 1) := by decide +kernel
theorem dX12_isBoat_6 : decode cX12_isBoat 6 = .ok (.getfield 75, 3) := by decide +kernel
theorem dX12_isBoat_9 : decode cX12_isBoat 9 = .ok (.if_icmp .ge 7, 3) := by decide +kernel
theorem dX12_isBoat_12 : decode cX12_isBoat 12 = .ok (.iconst 1, 1) := by decide +kernel
theorem dX12_isBoat_13 : decode cX12_isBoat 13 = .ok (.goto 4, 3) := by decide +kernel
theorem dX12_isBoat_16 : decode cX12_isBoat 16 = .ok (.iconst 0, 1) := by decide +kernel
theorem dX12_isBoat_17 : decode cX12_isBoat 17 = .ok (.ireturn, 1) := by decide +kernel
theorem dX12_isHour_0 : decode cX12_isHour 0 = .ok (.iload_n 1, 1) := by decide +kernel
theorem dX12_isHour_1 : decode cX12_isHour 1 = .ok (.ifCond .lt 15, 3) := by decide +kernel
theorem dX12_isHour_4 : decode cX12_isHour 4 = .ok (.iload_n 1, 1) := by decide +kernel
theorem dX12_isHour_5 : decode cX12_isHour 5 = .ok (.aload_n 0, 1) := by decide +kernel
theorem dX12_isHour_6 : decode cX12_isHour 6 = .ok (.getfield 78, 3) := by decide +kernel
theorem dX12_isHour_9 : decode cX12_isHour 9 = .ok (.if_icmp .ge 7, 3) := by decide +kernel
theorem dX12_isHour_12 : decode cX12_isHour 12 = .ok (.iconst 1, 1) := by decide +kernel
theorem dX12_isHour_13 : decode cX12_isHour 13 = .ok (.goto 4, 3) := by decide +kernel
theorem dX12_isHour_16 : decode cX12_isHour 16 = .ok (.iconst 0, 1) := by decide +kernel
theorem dX12_isHour_17 : decode cX12_isHour 17 = .ok (.ireturn, 1) := by decide +kernel
theorem dX12_all_0 : decode cX12_all 0 = .ok (.iconst 1, 1) := by decide +kernel
theorem dX12_all_1 : decode cX12_all 1 = .ok (.aload_n 0, 1) := by decide +kernel
theorem dX12_all_2 : decode cX12_all 2 = .ok (.getfield 75, 3) := by decide +kernel
theorem dX12_all_5 : decode cX12_all 5 = .ok (.ishl, 1) := by decide +kernel
theorem dX12_all_6 : decode cX12_all 6 = .ok (.iconst 1, 1) := by decide +kernel
theorem dX12_all_7 : decode cX12_all 7 = .ok (.isub, 1) := by decide +kernel
theorem dX12_all_8 : decode cX12_all 8 = .ok (.ireturn, 1) := by decide +kernel
theorem dX12_digit_0 : decode cX12_digit 0 = .ok (.aload_n 0, 1) := by decide +kernel
theorem dX12_digit_1 : decode cX12_digit 1 = .ok (.getfield 81, 3) := by decide +kernel
theorem dX12_digit_4 : decode cX12_digit 4 = .ok (.iload_n 1, 1) := by decide +kernel
theorem dX12_digit_5 : decode cX12_digit 5 = .ok (.if_icmp .ge 26, 3) := by decide +kernel
theorem dX12_digit_8 : decode cX12_digit 8 = .ok (.aload_n 0, 1) := by decide +kernel
theorem dX12_digit_9 : decode cX12_digit 9 = .ok (.getfield 16, 3) := by decide +kernel
theorem dX12_digit_12 : decode cX12_digit 12 = .ok (.aload_n 0, 1) := by decide +kernel
theorem dX12_digit_13 : decode cX12_digit 13 = .ok (.getfield 81, 3) := by decide +kernel
theorem dX12_digit_16 : decode cX12_digit 16 = .ok (.iaload, 1) := by decide +kernel
theorem dX12_digit_17 : decode cX12_digit 17 = .ok (.bipush 48, 2) := by decide +kernel
theorem dX12_digit_19 : decode cX12_digit 19 = .ok (.iload_n 2, 1) := by decide +kernel
theorem dX12_digit_20 : decode cX12_digit 20 = .ok (.iadd, 1) := by decide +kernel
theorem dX12_digit_21 : decode cX12_digit 21 = .ok (.bipush 48, 2) := by decide +kernel
theorem dX12_digit_23 : decode cX12_digit 23 = .ok (.iload_n 3, 1) := by decide +kernel
theorem dX12_digit_24 : decode cX12_digit 24 = .ok (.iadd, 1) := by decide +kernel
theorem dX12_digit_25 : decode cX12_digit 25 = .ok (.invokestatic 71, 3) := by decide +kernel
theorem dX12_digit_28 : decode cX12_digit 28 = .ok (.ifCond .ne 6, 3) := by decide +kernel
theorem dX12_digit_31 : decode cX12_digit 31 = .ok (.bipush (-9), 2) := by decide +kernel
theorem dX12_digit_33 : decode cX12_digit 33 = .ok (.ireturn, 1) := by decide +kernel
theorem dX12_digit_34 : decode cX12_digit 34 = .ok (.aload_n 0, 1) := by decide +kernel
theorem dX12_digit_35 : decode cX12_digit 35 = .ok (.dup, 1) := by decide +kernel
theorem dX12_digit_36 : decode cX12_digit 36 = .ok (.getfield 81, 3) := by decide +kernel
theorem dX12_digit_39 : decode cX12_digit 39 = .ok (.iconst 1, 1) := by decide +kernel
theorem dX12_digit_40 : decode cX12_digit 40 = .ok (.iadd, 1) := by decide +kernel
theorem dX12_digit_41 : decode cX12_digit 41 = .ok (.putfield 81, 3) := by decide +kernel
theorem dX12_digit_44 : decode cX12_digit 44 = .ok (.aload_n 0, 1) := by decide +kernel
theorem dX12_digit_45 : decode cX12_digit 45 = .ok (.getfield 16, 3) := by decide +kernel
theorem dX12_digit_48 : decode cX12_digit 48 = .ok (.aload_n 0, 1) := by decide +kernel
theorem dX12_digit_49 : decode cX12_digit 49 = .ok (.getfield 81, 3) := by decide +kernel
theorem dX12_digit_52 : decode cX12_digit 52 = .ok (.iconst 1, 1) := by decide +kernel
theorem dX12_digit_53 : decode cX12_digit 53 = .ok (.isub, 1) := by decide +kernel
theorem dX12_digit_54 : decode cX12_digit 54 = .ok (.iaload, 1) := by decide +kernel
theorem dX12_digit_55 : decode cX12_digit 55 = .ok (.bipush 48, 2) := by decide +kernel
theorem dX12_digit_57 : decode cX12_digit 57 = .ok (.isub, 1) := by decide +kernel
theorem dX12_digit_58 : decode cX12_digit 58 = .ok (.ireturn, 1) := by decide +kernel
theorem dX12_isSign_0 : decode cX12_isSign 0 = .ok (.aload_n 0, 1) := by decide +kernel
theorem dX12_isSign_1 : decode cX12_isSign 1 = .ok (.getfield 81, 3) := by decide +kernel
theorem dX12_isSign_4 : decode cX12_isSign 4 = .ok (.iload_n 1, 1) := by decide +kernel
theorem dX12_isSign_5 : decode cX12_isSign 5 = .ok (.if_icmp .ge 16, 3) := by decide +kernel
theorem dX12_isSign_8 : decode cX12_isSign 8 = .ok (.aload_n 0, 1) := by decide +kernel
theorem dX12_isSign_9 : decode cX12_isSign 9 = .ok (.getfield 16, 3) := by decide +kernel
theorem dX12_isSign_12 : decode cX12_isSign 12 = .ok (.aload_n 0, 1) := by decide +kernel
theorem dX12_isSign_13 : decode cX12_isSign 13 = .ok (.getfield 81, 3) := by decide +kernel
theorem dX12_isSign_16 : decode cX12_isSign 16 = .ok (.iaload, 1) := by decide +kernel
theorem dX12_isSign_17 : decode cX12_isSign 17 = .ok (.iload_n 2, 1) := by decide +kernel
theorem dX12_isSign_18 : decode cX12_isSign 18 = .ok (.if_icmp .eq 5, 3) := by decide +kernel
theorem dX12_isSign_21 : decode cX12_isSign 21 = .ok (.iconst 0, 1) := by decide +kernel
theorem dX12_isSign_22 : decode cX12_isSign 22 = .ok (.ireturn, 1) := by decide +kernel
theorem dX12_isSign_23 : decode cX12_isSign 23 = .ok (.aload_n 0, 1) := by decide +kernel
theorem dX12_isSign_24 : decode cX12_isSign 24 = .ok (.dup, 1) := by decide +kernel
theorem dX12_isSign_25 : decode cX12_isSign 25 = .ok (.getfield 81, 3) := by decide +kernel
theorem dX12_isSign_28 : decode cX12_isSign 28 = .ok (.iconst 1, 1) := by decide +kernel
theorem dX12_isSign_29 : decode cX12_isSign 29 = .ok (.iadd, 1) := by decide +kernel
theorem dX12_isSign_30 : decode cX12_isSign 30 = .ok (.putfield 81, 3) := by decide +kernel
theorem dX12_isSign_33 : decode cX12_isSign 33 = .ok (.iconst 1, 1) := by decide +kernel
theorem dX12_isSign_34 : decode cX12_isSign 34 = .ok (.ireturn, 1) := by decide +kernel
theorem dX12_lake_0 : decode cX12_lake 0 = .ok (.aload_n 0, 1) := by decide +kernel
theorem dX12_lake_1 : decode cX12_lake 1 = .ok (.iconst 0, 1) := by decide +kernel
theorem dX12_lake_2 : decode cX12_lake 2 = .ok (.putfield 65, 3) := by decide +kernel
theorem dX12_lake_5 : decode cX12_lake 5 = .ok (.iload_n 1, 1) := by decide +kernel
theorem dX12_lake_6 : decode cX12_lake 6 = .ok (.invokestatic 84, 3) := by decide +kernel
theorem dX12_lake_9 : decode cX12_lake 9 = .ok (.ifCond .ne 5, 3) := by decide +kernel
theorem dX12_lake_12 : decode cX12_lake 12 = .ok (.iconst (-1), 1) := by decide +kernel
theorem dX12_lake_13 : decode cX12_lake 13 = .ok (.ireturn, 1) := by decide +kernel
theorem dX12_lake_14 : decode cX12_lake 14 = .ok (.iload_n 2, 1) := by decide +kernel
theorem dX12_lake_15 : decode cX12_lake 15 = .ok (.invokestatic 88, 3) := by decide +kernel
theorem dX12_lake_18 : decode cX12_lake 18 = .ok (.ifCond .ne 6, 3) := by decide +kernel
theorem dX12_lake_21 : decode cX12_lake 21 = .ok (.bipush (-2), 2) := by decide +kernel
theorem dX12_lake_23 : decode cX12_lake 23 = .ok (.ireturn, 1) := by decide +kernel
theorem dX12_lake_24 : decode cX12_lake 24 = .ok (.aload_n 0, 1) := by decide +kernel
theorem dX12_lake_25 : decode cX12_lake 25 = .ok (.iload_n 1, 1) := by decide +kernel
theorem dX12_lake_26 : decode cX12_lake 26 = .ok (.iload_n 2, 1) := by decide +kernel
theorem dX12_lake_27 : decode cX12_lake 27 = .ok (.iload_n 3, 1) := by decide +kernel
theorem dX12_lake_28 : decode cX12_lake 28 = .ok (.iload 4, 2) := by decide +kernel
theorem dX12_lake_30 : decode cX12_lake 30 = .ok (.invokevirtual 91, 3) := by decide +kernel
theorem dX12_lake_33 : decode cX12_lake 33 = .ok (.istore 5, 2) := by decide +kernel
theorem dX12_lake_35 : decode cX12_lake 35 = .ok (.iload 5, 2) := by decide +kernel
theorem dX12_lake_37 : decode cX12_lake 37 = .ok (.ifCond .eq 10, 3) := by decide +kernel
theorem dX12_lake_40 : decode cX12_lake 40 = .ok (.aload_n 0, 1) := by decide +kernel
theorem dX12_lake_41 : decode cX12_lake 41 = .ok (.iload 5, 2) := by decide +kernel
theorem dX12_lake_43 : decode cX12_lake 43 = .ok (.invokevirtual 95, 3) := by decide +kernel
theorem dX12_lake_46 : decode cX12_lake 46 = .ok (.ireturn, 1) := by decide +kernel
theorem dX12_lake_47 : decode cX12_lake 47 = .ok (.bipush 60, 2) := by decide +kernel
theorem dX12_lake_49 : decode cX12_lake 49 = .ok (.iload_n 1, 1) := by decide +kernel
theorem dX12_lake_50 : decode cX12_lake 50 = .ok (.imul, 1) := by decide +kernel
theorem dX12_lake_51 : decode cX12_lake 51 = .ok (.iload_n 3, 1) := by decide +kernel
theorem dX12_lake_52 : decode cX12_lake 52 = .ok (.iadd, 1) := by decide +kernel
theorem dX12_lake_53 : decode cX12_lake 53 = .ok (.istore 6, 2) := by decide +kernel
theorem dX12_lake_55 : decode cX12_lake 55 = .ok (.aload_n 0, 1) := by decide +kernel
theorem dX12_lake_56 : decode cX12_lake 56 = .ok (.iload 6, 2) := by decide +kernel
theorem dX12_lake_58 : decode cX12_lake 58 = .ok (.putfield 81, 3) := by decide +kernel
theorem dX12_lake_61 : decode cX12_lake 61 = .ok (.aload_n 0, 1) := by decide +kernel
theorem dX12_lake_62 : decode cX12_lake 62 = .ok (.iload 6, 2) := by decide +kernel
theorem dX12_lake_64 : decode cX12_lake 64 = .ok (.iload 4, 2) := by decide +kernel
theorem dX12_lake_66 : decode cX12_lake 66 = .ok (.iadd, 1) := by decide +kernel
theorem dX12_lake_67 : decode cX12_lake 67 = .ok (.invokevirtual 99, 3) := by decide +kernel
theorem dX12_lake_70 : decode cX12_lake 70 = .ok (.ifCond .ne 14, 3) := by decide +kernel
theorem dX12_lake_73 : decode cX12_lake 73 = .ok (.bipush (-100), 2) := by decide +kernel
theorem dX12_lake_75 : decode cX12_lake 75 = .ok (.aload_n 0, 1) := by decide +kernel
theorem dX12_lake_76 : decode cX12_lake 76 = .ok (.getfield 81, 3) := by decide +kernel
theorem dX12_lake_79 : decode cX12_lake 79 = .ok (.iload 6, 2) := by decide +kernel
theorem dX12_lake_81 : decode cX12_lake 81 = .ok (.isub, 1) := by decide +kernel
theorem dX12_lake_82 : decode cX12_lake 82 = .ok (.isub, 1) := by decide +kernel
theorem dX12_lake_83 : decode cX12_lake 83 = .ok (.ireturn, 1) := by decide +kernel
theorem dX12_lake_84 : decode cX12_lake 84 = .ok (.aload_n 0, 1) := by decide +kernel
theorem dX12_lake_85 : decode cX12_lake 85 = .ok (.invokevirtual 102, 3) := by decide +kernel
theorem dX12_lake_88 : decode cX12_lake 88 = .ok (.aload_n 0, 1) := by decide +kernel
theorem dX12_lake_89 : decode cX12_lake 89 = .ok (.getfield 75, 3) := by decide +kernel
theorem dX12_lake_92 : decode cX12_lake 92 = .ok (.ireturn, 1) := by decide +kernel
theorem dX12_takeLake_0 : decode cX12_takeLake 0 = .ok (.aload_n 0, 1) := by decide +kernel
theorem dX12_takeLake_1 : decode cX12_takeLake 1 = .ok (.aload_n 0, 1) := by decide +kernel
theorem dX12_takeLake_2 : decode cX12_takeLake 2 = .ok (.getfield 105, 3) := by decide +kernel
theorem dX12_takeLake_5 : decode cX12_takeLake 5 = .ok (.putfield 108, 3) := by decide +kernel
theorem dX12_takeLake_8 : decode cX12_takeLake 8 = .ok (.iconst 0, 1) := by decide +kernel
theorem dX12_takeLake_9 : decode cX12_takeLake 9 = .ok (.istore_n 1, 1) := by decide +kernel
theorem dX12_takeLake_10 : decode cX12_takeLake 10 = .ok (.iload_n 1, 1) := by decide +kernel
theorem dX12_takeLake_11 : decode cX12_takeLake 11 = .ok (.iconst 4, 1) := by decide +kernel
theorem dX12_takeLake_12 : decode cX12_takeLake 12 = .ok (.if_icmp .gt 42, 3) := by decide +kernel
theorem dX12_takeLake_15 : decode cX12_takeLake 15 = .ok (.aload_n 0, 1) := by decide +kernel
theorem dX12_takeLake_16 : decode cX12_takeLake 16 = .ok (.getfield 19, 3) := by decide +kernel
theorem dX12_takeLake_19 : decode cX12_takeLake 19 = .ok (.iload_n 1, 1) := by decide +kernel
theorem dX12_takeLake_20 : decode cX12_takeLake 20 = .ok (.iload_n 1, 1) := by decide +kernel
theorem dX12_takeLake_21 : decode cX12_takeLake 21 = .ok (.ifCond .le 25, 3) := by decide +kernel
theorem dX12_takeLake_24 : decode cX12_takeLake 24 = .ok (.iload_n 1, 1) := by decide +kernel
theorem dX12_takeLake_25 : decode cX12_takeLake 25 = .ok (.aload_n 0, 1) := by decide +kernel
theorem dX12_takeLake_26 : decode cX12_takeLake 26 = .ok (.getfield 108, 3) := by decide +kernel
theorem dX12_takeLake_29 : decode cX12_takeLake 29 = .ok (.if_icmp .ge 17, 3) := by decide +kernel
theorem dX12_takeLake_32 : decode cX12_takeLake 32 = .ok (.aload_n 0, 1) := by decide +kernel
theorem dX12_takeLake_33 : decode cX12_takeLake 33 = .ok (.getfield 35, 3) := by decide +kernel
theorem dX12_takeLake_36 : decode cX12_takeLake 36 = .ok (.iload_n 1, 1) := by decide +kernel
theorem dX12_takeLake_37 : decode cX12_takeLake 37 = .ok (.iaload, 1) := by decide +kernel
theorem dX12_takeLake_38 : decode cX12_takeLake 38 = .ok (.iconst 1, 1) := by decide +kernel
theorem dX12_takeLake_39 : decode cX12_takeLake 39 = .ok (.if_icmp .ne 7, 3) := by decide +kernel
theorem dX12_takeLake_42 : decode cX12_takeLake 42 = .ok (.iconst 1, 1) := by decide +kernel
theorem dX12_takeLake_43 : decode cX12_takeLake 43 = .ok (.goto 4, 3) := by decide +kernel
theorem dX12_takeLake_46 : decode cX12_takeLake 46 = .ok (.iconst 0, 1) := by decide +kernel
theorem dX12_takeLake_47 : decode cX12_takeLake 47 = .ok (.bastore, 1) := by decide +kernel
theorem dX12_takeLake_48 : decode cX12_takeLake 48 = .ok (.iinc 1 1, 3) := by decide +kernel
theorem dX12_takeLake_51 : decode cX12_takeLake 51 = .ok (.goto (-41), 3) := by decide +kernel
theorem dX12_takeLake_54 : decode cX12_takeLake 54 = .ok (.aload_n 0, 1) := by decide +kernel
theorem dX12_takeLake_55 : decode cX12_takeLake 55 = .ok (.aload_n 0, 1) := by decide +kernel
theorem dX12_takeLake_56 : decode cX12_takeLake 56 = .ok (.getfield 111, 3) := by decide +kernel
theorem dX12_takeLake_59 : decode cX12_takeLake 59 = .ok (.putfield 78, 3) := by decide +kernel
theorem dX12_takeLake_62 : decode cX12_takeLake 62 = .ok (.iconst 0, 1) := by decide +kernel
theorem dX12_takeLake_63 : decode cX12_takeLake 63 = .ok (.istore_n 1, 1) := by decide +kernel
theorem dX12_takeLake_64 : decode cX12_takeLake 64 = .ok (.iload_n 1, 1) := by decide +kernel
theorem dX12_takeLake_65 : decode cX12_takeLake 65 = .ok (.aload_n 0, 1) := by decide +kernel
theorem dX12_takeLake_66 : decode cX12_takeLake 66 = .ok (.getfield 78, 3) := by decide +kernel
theorem dX12_takeLake_69 : decode cX12_takeLake 69 = .ok (.if_icmp .ge 21, 3) := by decide +kernel
theorem dX12_takeLake_72 : decode cX12_takeLake 72 = .ok (.aload_n 0, 1) := by decide +kernel
theorem dX12_takeLake_73 : decode cX12_takeLake 73 = .ok (.getfield 23, 3) := by decide +kernel
theorem dX12_takeLake_76 : decode cX12_takeLake 76 = .ok (.iload_n 1, 1) := by decide +kernel
theorem dX12_takeLake_77 : decode cX12_takeLake 77 = .ok (.aload_n 0, 1) := by decide +kernel
theorem dX12_takeLake_78 : decode cX12_takeLake 78 = .ok (.getfield 38, 3) := by decide +kernel
theorem dX12_takeLake_81 : decode cX12_takeLake 81 = .ok (.iload_n 1, 1) := by decide +kernel
theorem dX12_takeLake_82 : decode cX12_takeLake 82 = .ok (.iaload, 1) := by decide +kernel
theorem dX12_takeLake_83 : decode cX12_takeLake 83 = .ok (.iastore, 1) := by decide +kernel
theorem dX12_takeLake_84 : decode cX12_takeLake 84 = .ok (.iinc 1 1, 3) := by decide +kernel
theorem dX12_takeLake_87 : decode cX12_takeLake 87 = .ok (.goto (-23), 3) := by decide +kernel
theorem dX12_takeLake_90 : decode cX12_takeLake 90 = .ok (.aload_n 0, 1) := by decide +kernel
theorem dX12_takeLake_91 : decode cX12_takeLake 91 = .ok (.aload_n 0, 1) := by decide +kernel
theorem dX12_takeLake_92 : decode cX12_takeLake 92 = .ok (.getfield 114, 3) := by decide +kernel
theorem dX12_takeLake_95 : decode cX12_takeLake 95 = .ok (.putfield 75, 3) := by decide +kernel
theorem dX12_takeLake_98 : decode cX12_takeLake 98 = .ok (.iconst 0, 1) := by decide +kernel
theorem dX12_takeLake_99 : decode cX12_takeLake 99 = .ok (.istore_n 1, 1) := by decide +kernel
theorem dX12_takeLake_100 : decode cX12_takeLake 100 = .ok (.iload_n 1, 1) := by decide +kernel
theorem dX12_takeLake_101 : decode cX12_takeLake 101 = .ok (.aload_n 0, 1) := by decide +kernel
theorem dX12_takeLake_102 : decode cX12_takeLake 102 = .ok (.getfield 75, 3) := by decide +kernel
theorem dX12_takeLake_105 : decode cX12_takeLake 105 = .ok (.if_icmp .ge 55, 3) := by decide +kernel
theorem dX12_takeLake_108 : decode cX12_takeLake 108 = .ok (.aload_n 0, 1) := by decide +kernel
theorem dX12_takeLake_109 : decode cX12_takeLake 109 = .ok (.getfield 26, 3) := by decide +kernel
theorem dX12_takeLake_112 : decode cX12_takeLake 112 = .ok (.iload_n 1, 1) := by decide +kernel
theorem dX12_takeLake_113 : decode cX12_takeLake 113 = .ok (.aload_n 0, 1) := by decide +kernel
theorem dX12_takeLake_114 : decode cX12_takeLake 114 = .ok (.getfield 41, 3) := by decide +kernel
theorem dX12_takeLake_117 : decode cX12_takeLake 117 = .ok (.iconst 3, 1) := by decide +kernel
theorem dX12_takeLake_118 : decode cX12_takeLake 118 = .ok (.iload_n 1, 1) := by decide +kernel
theorem dX12_takeLake_119 : decode cX12_takeLake 119 = .ok (.imul, 1) := by decide +kernel
theorem dX12_takeLake_120 : decode cX12_takeLake 120 = .ok (.iaload, 1) := by decide +kernel
theorem dX12_takeLake_121 : decode cX12_takeLake 121 = .ok (.iastore, 1) := by decide +kernel
theorem dX12_takeLake_122 : decode cX12_takeLake 122 = .ok (.aload_n 0, 1) := by decide +kernel
theorem dX12_takeLake_123 : decode cX12_takeLake 123 = .ok (.getfield 29, 3) := by decide +kernel
theorem dX12_takeLake_126 : decode cX12_takeLake 126 = .ok (.iload_n 1, 1) := by decide +kernel
theorem dX12_takeLake_127 : decode cX12_takeLake 127 = .ok (.aload_n 0, 1) := by decide +kernel
theorem dX12_takeLake_128 : decode cX12_takeLake 128 = .ok (.getfield 41, 3) := by decide +kernel
theorem dX12_takeLake_131 : decode cX12_takeLake 131 = .ok (.iconst 3, 1) := by decide +kernel
theorem dX12_takeLake_132 : decode cX12_takeLake 132 = .ok (.iload_n 1, 1) := by decide +kernel
theorem dX12_takeLake_133 : decode cX12_takeLake 133 = .ok (.imul, 1) := by decide +kernel
theorem dX12_takeLake_134 : decode cX12_takeLake 134 = .ok (.iconst 1, 1) := by decide +kernel
theorem dX12_takeLake_135 : decode cX12_takeLake 135 = .ok (.iadd, 1) := by decide +kernel
theorem dX12_takeLake_136 : decode cX12_takeLake 136 = .ok (.iaload, 1) := by decide +kernel
theorem dX12_takeLake_137 : decode cX12_takeLake 137 = .ok (.iastore, 1) := by decide +kernel
theorem dX12_takeLake_138 : decode cX12_takeLake 138 = .ok (.aload_n 0, 1) := by decide +kernel
theorem dX12_takeLake_139 : decode cX12_takeLake 139 = .ok (.getfield 32, 3) := by decide +kernel
theorem dX12_takeLake_142 : decode cX12_takeLake 142 = .ok (.iload_n 1, 1) := by decide +kernel
theorem dX12_takeLake_143 : decode cX12_takeLake 143 = .ok (.aload_n 0, 1) := by decide +kernel
theorem dX12_takeLake_144 : decode cX12_takeLake 144 = .ok (.getfield 41, 3) := by decide +kernel
theorem dX12_takeLake_147 : decode cX12_takeLake 147 = .ok (.iconst 3, 1) := by decide +kernel
theorem dX12_takeLake_148 : decode cX12_takeLake 148 = .ok (.iload_n 1, 1) := by decide +kernel
theorem dX12_takeLake_149 : decode cX12_takeLake 149 = .ok (.imul, 1) := by decide +kernel
theorem dX12_takeLake_150 : decode cX12_takeLake 150 = .ok (.iconst 2, 1) := by decide +kernel
theorem dX12_takeLake_151 : decode cX12_takeLake 151 = .ok (.iadd, 1) := by decide +kernel
theorem dX12_takeLake_152 : decode cX12_takeLake 152 = .ok (.iaload, 1) := by decide +kernel
theorem dX12_takeLake_153 : decode cX12_takeLake 153 = .ok (.iastore, 1) := by decide +kernel
theorem dX12_takeLake_154 : decode cX12_takeLake 154 = .ok (.iinc 1 1, 3) := by decide +kernel
theorem dX12_takeLake_157 : decode cX12_takeLake 157 = .ok (.goto (-57), 3) := by decide +kernel
theorem dX12_takeLake_160 : decode cX12_takeLake 160 = .ok (.aload_n 0, 1) := by decide +kernel
theorem dX12_takeLake_161 : decode cX12_takeLake 161 = .ok (.iconst 0, 1) := by decide +kernel
theorem dX12_takeLake_162 : decode cX12_takeLake 162 = .ok (.putfield 117, 3) := by decide +kernel
theorem dX12_takeLake_165 : decode cX12_takeLake 165 = .ok (.return_, 1) := by decide +kernel
theorem dX12_windBy_0 : decode cX12_windBy 0 = .ok (.iload_n 0, 1) := by decide +kernel
theorem dX12_windBy_1 : decode cX12_windBy 1 = .ok (.bipush 46, 2) := by decide +kernel
theorem dX12_windBy_3 : decode cX12_windBy 3 = .ok (.if_icmp .ne 7, 3) := by decide +kernel
theorem dX12_windBy_6 : decode cX12_windBy 6 = .ok (.iconst 0, 1) := by decide +kernel
theorem dX12_windBy_7 : decode cX12_windBy 7 = .ok (.goto 25, 3) := by decide +kernel
theorem dX12_windBy_10 : decode cX12_windBy 10 = .ok (.iload_n 0, 1) := by decide +kernel
theorem dX12_windBy_11 : decode cX12_windBy 11 = .ok (.bipush 62, 2) := by decide +kernel
theorem dX12_windBy_13 : decode cX12_windBy 13 = .ok (.if_icmp .ne 7, 3) := by decide +kernel
theorem dX12_windBy_16 : decode cX12_windBy 16 = .ok (.iconst 1, 1) := by decide +kernel
theorem dX12_windBy_17 : decode cX12_windBy 17 = .ok (.goto 15, 3) := by decide +kernel
theorem dX12_windBy_20 : decode cX12_windBy 20 = .ok (.iload_n 0, 1) := by decide +kernel
theorem dX12_windBy_21 : decode cX12_windBy 21 = .ok (.bipush 60, 2) := by decide +kernel
theorem dX12_windBy_23 : decode cX12_windBy 23 = .ok (.if_icmp .ne 7, 3) := by decide +kernel
theorem dX12_windBy_26 : decode cX12_windBy 26 = .ok (.iconst 2, 1) := by decide +kernel
theorem dX12_windBy_27 : decode cX12_windBy 27 = .ok (.goto 5, 3) := by decide +kernel
theorem dX12_windBy_30 : decode cX12_windBy 30 = .ok (.bipush (-9), 2) := by decide +kernel
theorem dX12_windBy_32 : decode cX12_windBy 32 = .ok (.ireturn, 1) := by decide +kernel
theorem dX12_readLake_0 : decode cX12_readLake 0 = .ok (.aload_n 0, 1) := by decide +kernel
theorem dX12_readLake_1 : decode cX12_readLake 1 = .ok (.iconst 0, 1) := by decide +kernel
theorem dX12_readLake_2 : decode cX12_readLake 2 = .ok (.putfield 111, 3) := by decide +kernel
theorem dX12_readLake_5 : decode cX12_readLake 5 = .ok (.aload_n 0, 1) := by decide +kernel
theorem dX12_readLake_6 : decode cX12_readLake 6 = .ok (.iconst 0, 1) := by decide +kernel
theorem dX12_readLake_7 : decode cX12_readLake 7 = .ok (.putfield 114, 3) := by decide +kernel
theorem dX12_readLake_10 : decode cX12_readLake 10 = .ok (.aload_n 0, 1) := by decide +kernel
theorem dX12_readLake_11 : decode cX12_readLake 11 = .ok (.iload_n 1, 1) := by decide +kernel
theorem dX12_readLake_12 : decode cX12_readLake 12 = .ok (.bipush 119, 2) := by decide +kernel
theorem dX12_readLake_14 : decode cX12_readLake 14 = .ok (.invokevirtual 120, 3) := by decide +kernel
theorem dX12_readLake_17 : decode cX12_readLake 17 = .ok (.ifCond .ne 5, 3) := by decide +kernel
theorem dX12_readLake_20 : decode cX12_readLake 20 = .ok (.iconst 0, 1) := by decide +kernel
theorem dX12_readLake_21 : decode cX12_readLake 21 = .ok (.ireturn, 1) := by decide +kernel
theorem dX12_readLake_22 : decode cX12_readLake 22 = .ok (.aload_n 0, 1) := by decide +kernel
theorem dX12_readLake_23 : decode cX12_readLake 23 = .ok (.aload_n 0, 1) := by decide +kernel
theorem dX12_readLake_24 : decode cX12_readLake 24 = .ok (.iload_n 1, 1) := by decide +kernel
theorem dX12_readLake_25 : decode cX12_readLake 25 = .ok (.iconst 2, 1) := by decide +kernel
theorem dX12_readLake_26 : decode cX12_readLake 26 = .ok (.iconst 4, 1) := by decide +kernel
theorem dX12_readLake_27 : decode cX12_readLake 27 = .ok (.invokevirtual 124, 3) := by decide +kernel
theorem dX12_readLake_30 : decode cX12_readLake 30 = .ok (.putfield 105, 3) := by decide +kernel
theorem dX12_readLake_33 : decode cX12_readLake 33 = .ok (.aload_n 0, 1) := by decide +kernel
theorem dX12_readLake_34 : decode cX12_readLake 34 = .ok (.getfield 105, 3) := by decide +kernel
theorem dX12_readLake_37 : decode cX12_readLake 37 = .ok (.bipush (-9), 2) := by decide +kernel
theorem dX12_readLake_39 : decode cX12_readLake 39 = .ok (.if_icmp .ne 5, 3) := by decide +kernel
theorem dX12_readLake_42 : decode cX12_readLake 42 = .ok (.iconst 0, 1) := by decide +kernel
theorem dX12_readLake_43 : decode cX12_readLake 43 = .ok (.ireturn, 1) := by decide +kernel
theorem dX12_readLake_44 : decode cX12_readLake 44 = .ok (.iconst 1, 1) := by decide +kernel
theorem dX12_readLake_45 : decode cX12_readLake 45 = .ok (.istore_n 2, 1) := by decide +kernel
theorem dX12_readLake_46 : decode cX12_readLake 46 = .ok (.iload_n 2, 1) := by decide +kernel
theorem dX12_readLake_47 : decode cX12_readLake 47 = .ok (.aload_n 0, 1) := by decide +kernel
theorem dX12_readLake_48 : decode cX12_readLake 48 = .ok (.getfield 105, 3) := by decide +kernel
theorem dX12_readLake_51 : decode cX12_readLake 51 = .ok (.if_icmp .ge 35, 3) := by decide +kernel
theorem dX12_readLake_54 : decode cX12_readLake 54 = .ok (.aload_n 0, 1) := by decide +kernel
theorem dX12_readLake_55 : decode cX12_readLake 55 = .ok (.getfield 35, 3) := by decide +kernel
theorem dX12_readLake_58 : decode cX12_readLake 58 = .ok (.iload_n 2, 1) := by decide +kernel
theorem dX12_readLake_59 : decode cX12_readLake 59 = .ok (.aload_n 0, 1) := by decide +kernel
theorem dX12_readLake_60 : decode cX12_readLake 60 = .ok (.iload_n 1, 1) := by decide +kernel
theorem dX12_readLake_61 : decode cX12_readLake 61 = .ok (.iconst 0, 1) := by decide +kernel
theorem dX12_readLake_62 : decode cX12_readLake 62 = .ok (.iconst 1, 1) := by decide +kernel
theorem dX12_readLake_63 : decode cX12_readLake 63 = .ok (.invokevirtual 124, 3) := by decide +kernel
theorem dX12_readLake_66 : decode cX12_readLake 66 = .ok (.iastore, 1) := by decide +kernel
theorem dX12_readLake_67 : decode cX12_readLake 67 = .ok (.aload_n 0, 1) := by decide +kernel
theorem dX12_readLake_68 : decode cX12_readLake 68 = .ok (.getfield 35, 3) := by decide +kernel
theorem dX12_readLake_71 : decode cX12_readLake 71 = .ok (.iload_n 2, 1) := by decide +kernel
theorem dX12_readLake_72 : decode cX12_readLake 72 = .ok (.iaload, 1) := by decide +kernel
theorem dX12_readLake_73 : decode cX12_readLake 73 = .ok (.bipush (-9), 2) := by decide +kernel
theorem dX12_readLake_75 : decode cX12_readLake 75 = .ok (.if_icmp .ne 5, 3) := by decide +kernel
theorem dX12_readLake_78 : decode cX12_readLake 78 = .ok (.iconst 0, 1) := by decide +kernel
theorem dX12_readLake_79 : decode cX12_readLake 79 = .ok (.ireturn, 1) := by decide +kernel
theorem dX12_readLake_80 : decode cX12_readLake 80 = .ok (.iinc 2 1, 3) := by decide +kernel
theorem dX12_readLake_83 : decode cX12_readLake 83 = .ok (.goto (-37), 3) := by decide +kernel
theorem dX12_readLake_86 : decode cX12_readLake 86 = .ok (.aload_n 0, 1) := by decide +kernel
theorem dX12_readLake_87 : decode cX12_readLake 87 = .ok (.iload_n 1, 1) := by decide +kernel
theorem dX12_readLake_88 : decode cX12_readLake 88 = .ok (.bipush 59, 2) := by decide +kernel
theorem dX12_readLake_90 : decode cX12_readLake 90 = .ok (.invokevirtual 120, 3) := by decide +kernel
theorem dX12_readLake_93 : decode cX12_readLake 93 = .ok (.ifCond .ne 5, 3) := by decide +kernel
theorem dX12_readLake_96 : decode cX12_readLake 96 = .ok (.iconst 0, 1) := by decide +kernel
theorem dX12_readLake_97 : decode cX12_readLake 97 = .ok (.ireturn, 1) := by decide +kernel
theorem dX12_readLake_98 : decode cX12_readLake 98 = .ok (.aload_n 0, 1) := by decide +kernel
theorem dX12_readLake_99 : decode cX12_readLake 99 = .ok (.getfield 111, 3) := by decide +kernel
theorem dX12_readLake_102 : decode cX12_readLake 102 = .ok (.bipush 10, 2) := by decide +kernel
theorem dX12_readLake_104 : decode cX12_readLake 104 = .ok (.if_icmp .ge 72, 3) := by decide +kernel
theorem dX12_readLake_107 : decode cX12_readLake 107 = .ok (.aload_n 0, 1) := by decide +kernel
theorem dX12_readLake_108 : decode cX12_readLake 108 = .ok (.getfield 81, 3) := by decide +kernel
theorem dX12_readLake_111 : decode cX12_readLake 111 = .ok (.iload_n 1, 1) := by decide +kernel
theorem dX12_readLake_112 : decode cX12_readLake 112 = .ok (.if_icmp .ge 64, 3) := by decide +kernel
theorem dX12_readLake_115 : decode cX12_readLake 115 = .ok (.aload_n 0, 1) := by decide +kernel
theorem dX12_readLake_116 : decode cX12_readLake 116 = .ok (.getfield 16, 3) := by decide +kernel
theorem dX12_readLake_119 : decode cX12_readLake 119 = .ok (.aload_n 0, 1) := by decide +kernel
theorem dX12_readLake_120 : decode cX12_readLake 120 = .ok (.getfield 81, 3) := by decide +kernel
theorem dX12_readLake_123 : decode cX12_readLake 123 = .ok (.iaload, 1) := by decide +kernel
theorem dX12_readLake_124 : decode cX12_readLake 124 = .ok (.invokestatic 128, 3) := by decide +kernel
theorem dX12_readLake_127 : decode cX12_readLake 127 = .ok (.bipush (-9), 2) := by decide +kernel
theorem dX12_readLake_129 : decode cX12_readLake 129 = .ok (.if_icmp .eq 47, 3) := by decide +kernel
theorem dX12_readLake_132 : decode cX12_readLake 132 = .ok (.aload_n 0, 1) := by decide +kernel
theorem dX12_readLake_133 : decode cX12_readLake 133 = .ok (.getfield 38, 3) := by decide +kernel
theorem dX12_readLake_136 : decode cX12_readLake 136 = .ok (.aload_n 0, 1) := by decide +kernel
theorem dX12_readLake_137 : decode cX12_readLake 137 = .ok (.getfield 111, 3) := by decide +kernel
theorem dX12_readLake_140 : decode cX12_readLake 140 = .ok (.aload_n 0, 1) := by decide +kernel
theorem dX12_readLake_141 : decode cX12_readLake 141 = .ok (.getfield 16, 3) := by decide +kernel
theorem dX12_readLake_144 : decode cX12_readLake 144 = .ok (.aload_n 0, 1) := by decide +kernel
theorem dX12_readLake_145 : decode cX12_readLake 145 = .ok (.getfield 81, 3) := by decide +kernel
theorem dX12_readLake_148 : decode cX12_readLake 148 = .ok (.iaload, 1) := by decide +kernel
theorem dX12_readLake_149 : decode cX12_readLake 149 = .ok (.invokestatic 128, 3) := by decide +kernel
theorem dX12_readLake_152 : decode cX12_readLake 152 = .ok (.iastore, 1) := by decide +kernel
theorem dX12_readLake_153 : decode cX12_readLake 153 = .ok (.aload_n 0, 1) := by decide +kernel
theorem dX12_readLake_154 : decode cX12_readLake 154 = .ok (.dup, 1) := by decide +kernel
theorem dX12_readLake_155 : decode cX12_readLake 155 = .ok (.getfield 111, 3) := by decide +kernel
theorem dX12_readLake_158 : decode cX12_readLake 158 = .ok (.iconst 1, 1) := by decide +kernel
theorem dX12_readLake_159 : decode cX12_readLake 159 = .ok (.iadd, 1) := by decide +kernel
theorem dX12_readLake_160 : decode cX12_readLake 160 = .ok (.putfield 111, 3) := by decide +kernel
theorem dX12_readLake_163 : decode cX12_readLake 163 = .ok (.aload_n 0, 1) := by decide +kernel
theorem dX12_readLake_164 : decode cX12_readLake 164 = .ok (.dup, 1) := by decide +kernel
theorem dX12_readLake_165 : decode cX12_readLake 165 = .ok (.getfield 81, 3) := by decide +kernel
theorem dX12_readLake_168 : decode cX12_readLake 168 = .ok (.iconst 1, 1) := by decide +kernel
theorem dX12_readLake_169 : decode cX12_readLake 169 = .ok (.iadd, 1) := by decide +kernel
theorem dX12_readLake_170 : decode cX12_readLake 170 = .ok (.putfield 81, 3) := by decide +kernel
theorem dX12_readLake_173 : decode cX12_readLake 173 = .ok (.goto (-75), 3) := by decide +kernel
theorem dX12_readLake_176 : decode cX12_readLake 176 = .ok (.aload_n 0, 1) := by decide +kernel
theorem dX12_readLake_177 : decode cX12_readLake 177 = .ok (.getfield 111, 3) := by decide +kernel
theorem dX12_readLake_180 : decode cX12_readLake 180 = .ok (.ifCond .ne 5, 3) := by decide +kernel
theorem dX12_readLake_183 : decode cX12_readLake 183 = .ok (.iconst 0, 1) := by decide +kernel
theorem dX12_readLake_184 : decode cX12_readLake 184 = .ok (.ireturn, 1) := by decide +kernel
theorem dX12_readLake_185 : decode cX12_readLake 185 = .ok (.aload_n 0, 1) := by decide +kernel
theorem dX12_readLake_186 : decode cX12_readLake 186 = .ok (.getfield 114, 3) := by decide +kernel
theorem dX12_readLake_189 : decode cX12_readLake 189 = .ok (.ifCond .eq 19, 3) := by decide +kernel
theorem dX12_readLake_192 : decode cX12_readLake 192 = .ok (.aload_n 0, 1) := by decide +kernel
theorem dX12_readLake_193 : decode cX12_readLake 193 = .ok (.getfield 114, 3) := by decide +kernel
theorem dX12_readLake_196 : decode cX12_readLake 196 = .ok (.iconst 3, 1) := by decide +kernel
theorem dX12_readLake_197 : decode cX12_readLake 197 = .ok (.if_icmp .ge 31, 3) := by decide +kernel
theorem dX12_readLake_200 : decode cX12_readLake 200 = .ok (.aload_n 0, 1) := by decide +kernel
theorem dX12_readLake_201 : decode cX12_readLake 201 = .ok (.getfield 81, 3) := by decide +kernel
theorem dX12_readLake_204 : decode cX12_readLake 204 = .ok (.iload_n 1, 1) := by decide +kernel
theorem dX12_readLake_205 : decode cX12_readLake 205 = .ok (.if_icmp .ge 23, 3) := by decide +kernel
theorem dX12_readLake_208 : decode cX12_readLake 208 = .ok (.aload_n 0, 1) := by decide +kernel
theorem dX12_readLake_209 : decode cX12_readLake 209 = .ok (.iload_n 1, 1) := by decide +kernel
theorem dX12_readLake_210 : decode cX12_readLake 210 = .ok (.bipush 44, 2) := by decide +kernel
theorem dX12_readLake_212 : decode cX12_readLake 212 = .ok (.invokevirtual 120, 3) := by decide +kernel
theorem dX12_readLake_215 : decode cX12_readLake 215 = .ok (.ifCond .eq 11, 3) := by decide +kernel
theorem dX12_readLake_218 : decode cX12_readLake 218 = .ok (.aload_n 0, 1) := by decide +kernel
theorem dX12_readLake_219 : decode cX12_readLake 219 = .ok (.iload_n 1, 1) := by decide +kernel
theorem dX12_readLake_220 : decode cX12_readLake 220 = .ok (.invokevirtual 131, 3) := by decide +kernel
theorem dX12_readLake_223 : decode cX12_readLake 223 = .ok (.ifCond .ne (-38), 3) := by decide +kernel
theorem dX12_readLake_226 : decode cX12_readLake 226 = .ok (.iconst 0, 1) := by decide +kernel
theorem dX12_readLake_227 : decode cX12_readLake 227 = .ok (.ireturn, 1) := by decide +kernel
theorem dX12_readLake_228 : decode cX12_readLake 228 = .ok (.aload_n 0, 1) := by decide +kernel
theorem dX12_readLake_229 : decode cX12_readLake 229 = .ok (.getfield 81, 3) := by decide +kernel
theorem dX12_readLake_232 : decode cX12_readLake 232 = .ok (.iload_n 1, 1) := by decide +kernel
theorem dX12_readLake_233 : decode cX12_readLake 233 = .ok (.if_icmp .ne 7, 3) := by decide +kernel
theorem dX12_readLake_236 : decode cX12_readLake 236 = .ok (.iconst 1, 1) := by decide +kernel
theorem dX12_readLake_237 : decode cX12_readLake 237 = .ok (.goto 4, 3) := by decide +kernel
theorem dX12_readLake_240 : decode cX12_readLake 240 = .ok (.iconst 0, 1) := by decide +kernel
theorem dX12_readLake_241 : decode cX12_readLake 241 = .ok (.ireturn, 1) := by decide +kernel
theorem dX12_readBoat_0 : decode cX12_readBoat 0 = .ok (.iconst 3, 1) := by decide +kernel
theorem dX12_readBoat_1 : decode cX12_readBoat 1 = .ok (.aload_n 0, 1) := by decide +kernel
theorem dX12_readBoat_2 : decode cX12_readBoat 2 = .ok (.getfield 114, 3) := by decide +kernel
theorem dX12_readBoat_5 : decode cX12_readBoat 5 = .ok (.imul, 1) := by decide +kernel
theorem dX12_readBoat_6 : decode cX12_readBoat 6 = .ok (.istore_n 2, 1) := by decide +kernel
theorem dX12_readBoat_7 : decode cX12_readBoat 7 = .ok (.aload_n 0, 1) := by decide +kernel
theorem dX12_readBoat_8 : decode cX12_readBoat 8 = .ok (.getfield 81, 3) := by decide +kernel
theorem dX12_readBoat_11 : decode cX12_readBoat 11 = .ok (.iload_n 1, 1) := by decide +kernel
theorem dX12_readBoat_12 : decode cX12_readBoat 12 = .ok (.if_icmp .ge 15, 3) := by decide +kernel
theorem dX12_readBoat_15 : decode cX12_readBoat 15 = .ok (.aload_n 0, 1) := by decide +kernel
theorem dX12_readBoat_16 : decode cX12_readBoat 16 = .ok (.getfield 16, 3) := by decide +kernel
theorem dX12_readBoat_19 : decode cX12_readBoat 19 = .ok (.aload_n 0, 1) := by decide +kernel
theorem dX12_readBoat_20 : decode cX12_readBoat 20 = .ok (.getfield 81, 3) := by decide +kernel
theorem dX12_readBoat_23 : decode cX12_readBoat 23 = .ok (.iaload, 1) := by decide +kernel
theorem dX12_readBoat_24 : decode cX12_readBoat 24 = .ok (.goto 4, 3) := by decide +kernel
theorem dX12_readBoat_27 : decode cX12_readBoat 27 = .ok (.iconst 0, 1) := by decide +kernel
theorem dX12_readBoat_28 : decode cX12_readBoat 28 = .ok (.istore_n 3, 1) := by decide +kernel
theorem dX12_readBoat_29 : decode cX12_readBoat 29 = .ok (.aload_n 0, 1) := by decide +kernel
theorem dX12_readBoat_30 : decode cX12_readBoat 30 = .ok (.getfield 41, 3) := by decide +kernel
theorem dX12_readBoat_33 : decode cX12_readBoat 33 = .ok (.iload_n 2, 1) := by decide +kernel
theorem dX12_readBoat_34 : decode cX12_readBoat 34 = .ok (.iload_n 3, 1) := by decide +kernel
theorem dX12_readBoat_35 : decode cX12_readBoat 35 = .ok (.bipush 98, 2) := by decide +kernel
theorem dX12_readBoat_37 : decode cX12_readBoat 37 = .ok (.if_icmp .ne 7, 3) := by decide +kernel
theorem dX12_readBoat_40 : decode cX12_readBoat 40 = .ok (.iconst 0, 1) := by decide +kernel
theorem dX12_readBoat_41 : decode cX12_readBoat 41 = .ok (.goto 25, 3) := by decide +kernel
theorem dX12_readBoat_44 : decode cX12_readBoat 44 = .ok (.iload_n 3, 1) := by decide +kernel
theorem dX12_readBoat_45 : decode cX12_readBoat 45 = .ok (.bipush 111, 2) := by decide +kernel
theorem dX12_readBoat_47 : decode cX12_readBoat 47 = .ok (.if_icmp .ne 7, 3) := by decide +kernel
theorem dX12_readBoat_50 : decode cX12_readBoat 50 = .ok (.iconst 1, 1) := by decide +kernel
theorem dX12_readBoat_51 : decode cX12_readBoat 51 = .ok (.goto 15, 3) := by decide +kernel
theorem dX12_readBoat_54 : decode cX12_readBoat 54 = .ok (.iload_n 3, 1) := by decide +kernel
theorem dX12_readBoat_55 : decode cX12_readBoat 55 = .ok (.bipush 116, 2) := by decide +kernel
theorem dX12_readBoat_57 : decode cX12_readBoat 57 = .ok (.if_icmp .ne 7, 3) := by decide +kernel
theorem dX12_readBoat_60 : decode cX12_readBoat 60 = .ok (.iconst 2, 1) := by decide +kernel
theorem dX12_readBoat_61 : decode cX12_readBoat 61 = .ok (.goto 5, 3) := by decide +kernel
theorem dX12_readBoat_64 : decode cX12_readBoat 64 = .ok (.bipush (-9), 2) := by decide +kernel
theorem dX12_readBoat_66 : decode cX12_readBoat 66 = .ok (.iastore, 1) := by decide +kernel
theorem dX12_readBoat_67 : decode cX12_readBoat 67 = .ok (.aload_n 0, 1) := by decide +kernel
theorem dX12_readBoat_68 : decode cX12_readBoat 68 = .ok (.getfield 41, 3) := by decide +kernel
theorem dX12_readBoat_71 : decode cX12_readBoat 71 = .ok (.iload_n 2, 1) := by decide +kernel
theorem dX12_readBoat_72 : decode cX12_readBoat 72 = .ok (.iaload, 1) := by decide +kernel
theorem dX12_readBoat_73 : decode cX12_readBoat 73 = .ok (.bipush (-9), 2) := by decide +kernel
theorem dX12_readBoat_75 : decode cX12_readBoat 75 = .ok (.if_icmp .ne 5, 3) := by decide +kernel
theorem dX12_readBoat_78 : decode cX12_readBoat 78 = .ok (.iconst 0, 1) := by decide +kernel
theorem dX12_readBoat_79 : decode cX12_readBoat 79 = .ok (.ireturn, 1) := by decide +kernel
theorem dX12_readBoat_80 : decode cX12_readBoat 80 = .ok (.aload_n 0, 1) := by decide +kernel
theorem dX12_readBoat_81 : decode cX12_readBoat 81 = .ok (.dup, 1) := by decide +kernel
theorem dX12_readBoat_82 : decode cX12_readBoat 82 = .ok (.getfield 81, 3) := by decide +kernel
theorem dX12_readBoat_85 : decode cX12_readBoat 85 = .ok (.iconst 1, 1) := by decide +kernel
theorem dX12_readBoat_86 : decode cX12_readBoat 86 = .ok (.iadd, 1) := by decide +kernel
theorem dX12_readBoat_87 : decode cX12_readBoat 87 = .ok (.putfield 81, 3) := by decide +kernel
theorem dX12_readBoat_90 : decode cX12_readBoat 90 = .ok (.aload_n 0, 1) := by decide +kernel
theorem dX12_readBoat_91 : decode cX12_readBoat 91 = .ok (.getfield 41, 3) := by decide +kernel
theorem dX12_readBoat_94 : decode cX12_readBoat 94 = .ok (.iload_n 2, 1) := by decide +kernel
theorem dX12_readBoat_95 : decode cX12_readBoat 95 = .ok (.iconst 1, 1) := by decide +kernel
theorem dX12_readBoat_96 : decode cX12_readBoat 96 = .ok (.iadd, 1) := by decide +kernel
theorem dX12_readBoat_97 : decode cX12_readBoat 97 = .ok (.aload_n 0, 1) := by decide +kernel
theorem dX12_readBoat_98 : decode cX12_readBoat 98 = .ok (.iload_n 1, 1) := by decide +kernel
theorem dX12_readBoat_99 : decode cX12_readBoat 99 = .ok (.iconst 0, 1) := by decide +kernel
theorem dX12_readBoat_100 : decode cX12_readBoat 100 = .ok (.iconst 1, 1) := by decide +kernel
theorem dX12_readBoat_101 : decode cX12_readBoat 101 = .ok (.invokevirtual 124, 3) := by decide +kernel
theorem dX12_readBoat_104 : decode cX12_readBoat 104 = .ok (.iastore, 1) := by decide +kernel
theorem dX12_readBoat_105 : decode cX12_readBoat 105 = .ok (.aload_n 0, 1) := by decide +kernel
theorem dX12_readBoat_106 : decode cX12_readBoat 106 = .ok (.getfield 41, 3) := by decide +kernel
theorem dX12_readBoat_109 : decode cX12_readBoat 109 = .ok (.iload_n 2, 1) := by decide +kernel
theorem dX12_readBoat_110 : decode cX12_readBoat 110 = .ok (.iconst 1, 1) := by decide +kernel
theorem dX12_readBoat_111 : decode cX12_readBoat 111 = .ok (.iadd, 1) := by decide +kernel
theorem dX12_readBoat_112 : decode cX12_readBoat 112 = .ok (.iaload, 1) := by decide +kernel
theorem dX12_readBoat_113 : decode cX12_readBoat 113 = .ok (.bipush (-9), 2) := by decide +kernel
theorem dX12_readBoat_115 : decode cX12_readBoat 115 = .ok (.if_icmp .ne 5, 3) := by decide +kernel
theorem dX12_readBoat_118 : decode cX12_readBoat 118 = .ok (.iconst 0, 1) := by decide +kernel
theorem dX12_readBoat_119 : decode cX12_readBoat 119 = .ok (.ireturn, 1) := by decide +kernel
theorem dX12_readBoat_120 : decode cX12_readBoat 120 = .ok (.aload_n 0, 1) := by decide +kernel
theorem dX12_readBoat_121 : decode cX12_readBoat 121 = .ok (.getfield 41, 3) := by decide +kernel
theorem dX12_readBoat_124 : decode cX12_readBoat 124 = .ok (.iload_n 2, 1) := by decide +kernel
theorem dX12_readBoat_125 : decode cX12_readBoat 125 = .ok (.iconst 2, 1) := by decide +kernel
theorem dX12_readBoat_126 : decode cX12_readBoat 126 = .ok (.iadd, 1) := by decide +kernel
theorem dX12_readBoat_127 : decode cX12_readBoat 127 = .ok (.aload_n 0, 1) := by decide +kernel
theorem dX12_readBoat_128 : decode cX12_readBoat 128 = .ok (.iload_n 1, 1) := by decide +kernel
theorem dX12_readBoat_129 : decode cX12_readBoat 129 = .ok (.iconst 1, 1) := by decide +kernel
theorem dX12_readBoat_130 : decode cX12_readBoat 130 = .ok (.iconst 3, 1) := by decide +kernel
theorem dX12_readBoat_131 : decode cX12_readBoat 131 = .ok (.invokevirtual 124, 3) := by decide +kernel
theorem dX12_readBoat_134 : decode cX12_readBoat 134 = .ok (.iastore, 1) := by decide +kernel
theorem dX12_readBoat_135 : decode cX12_readBoat 135 = .ok (.aload_n 0, 1) := by decide +kernel
theorem dX12_readBoat_136 : decode cX12_readBoat 136 = .ok (.dup, 1) := by decide +kernel
theorem dX12_readBoat_137 : decode cX12_readBoat 137 = .ok (.getfield 114, 3) := by decide +kernel
theorem dX12_readBoat_140 : decode cX12_readBoat 140 = .ok (.iconst 1, 1) := by decide +kernel
theorem dX12_readBoat_141 : decode cX12_readBoat 141 = .ok (.iadd, 1) := by decide +kernel
theorem dX12_readBoat_142 : decode cX12_readBoat 142 = .ok (.putfield 114, 3) := by decide +kernel
theorem dX12_readBoat_145 : decode cX12_readBoat 145 = .ok (.aload_n 0, 1) := by decide +kernel
theorem dX12_readBoat_146 : decode cX12_readBoat 146 = .ok (.getfield 41, 3) := by decide +kernel
theorem dX12_readBoat_149 : decode cX12_readBoat 149 = .ok (.iload_n 2, 1) := by decide +kernel
theorem dX12_readBoat_150 : decode cX12_readBoat 150 = .ok (.iconst 2, 1) := by decide +kernel
theorem dX12_readBoat_151 : decode cX12_readBoat 151 = .ok (.iadd, 1) := by decide +kernel
theorem dX12_readBoat_152 : decode cX12_readBoat 152 = .ok (.iaload, 1) := by decide +kernel
theorem dX12_readBoat_153 : decode cX12_readBoat 153 = .ok (.bipush (-9), 2) := by decide +kernel
theorem dX12_readBoat_155 : decode cX12_readBoat 155 = .ok (.if_icmp .eq 7, 3) := by decide +kernel
theorem dX12_readBoat_158 : decode cX12_readBoat 158 = .ok (.iconst 1, 1) := by decide +kernel
theorem dX12_readBoat_159 : decode cX12_readBoat 159 = .ok (.goto 4, 3) := by decide +kernel
theorem dX12_readBoat_162 : decode cX12_readBoat 162 = .ok (.iconst 0, 1) := by decide +kernel
theorem dX12_readBoat_163 : decode cX12_readBoat 163 = .ok (.ireturn, 1) := by decide +kernel
theorem dX12_ofBoat_0 : decode cX12_ofBoat 0 = .ok (.aload_n 0, 1) := by decide +kernel
theorem dX12_ofBoat_1 : decode cX12_ofBoat 1 = .ok (.iload_n 1, 1) := by decide +kernel
theorem dX12_ofBoat_2 : decode cX12_ofBoat 2 = .ok (.invokevirtual 134, 3) := by decide +kernel
theorem dX12_ofBoat_5 : decode cX12_ofBoat 5 = .ok (.ifCond .ne 5, 3) := by decide +kernel
theorem dX12_ofBoat_8 : decode cX12_ofBoat 8 = .ok (.iconst (-1), 1) := by decide +kernel
theorem dX12_ofBoat_9 : decode cX12_ofBoat 9 = .ok (.ireturn, 1) := by decide +kernel
theorem dX12_ofBoat_10 : decode cX12_ofBoat 10 = .ok (.iload_n 2, 1) := by decide +kernel
theorem dX12_ofBoat_11 : decode cX12_ofBoat 11 = .ok (.tableswitch 78 0 3 #[29, 36, 43, 50], 29) := by decide +kernel
theorem dX12_ofBoat_40 : decode cX12_ofBoat 40 = .ok (.aload_n 0, 1) := by decide +kernel
theorem dX12_ofBoat_41 : decode cX12_ofBoat 41 = .ok (.getfield 26, 3) := by decide +kernel
theorem dX12_ofBoat_44 : decode cX12_ofBoat 44 = .ok (.iload_n 1, 1) := by decide +kernel
theorem dX12_ofBoat_45 : decode cX12_ofBoat 45 = .ok (.iaload, 1) := by decide +kernel
theorem dX12_ofBoat_46 : decode cX12_ofBoat 46 = .ok (.ireturn, 1) := by decide +kernel
theorem dX12_ofBoat_47 : decode cX12_ofBoat 47 = .ok (.aload_n 0, 1) := by decide +kernel
theorem dX12_ofBoat_48 : decode cX12_ofBoat 48 = .ok (.getfield 29, 3) := by decide +kernel
theorem dX12_ofBoat_51 : decode cX12_ofBoat 51 = .ok (.iload_n 1, 1) := by decide +kernel
theorem dX12_ofBoat_52 : decode cX12_ofBoat 52 = .ok (.iaload, 1) := by decide +kernel
theorem dX12_ofBoat_53 : decode cX12_ofBoat 53 = .ok (.ireturn, 1) := by decide +kernel
theorem dX12_ofBoat_54 : decode cX12_ofBoat 54 = .ok (.aload_n 0, 1) := by decide +kernel
theorem dX12_ofBoat_55 : decode cX12_ofBoat 55 = .ok (.getfield 32, 3) := by decide +kernel
theorem dX12_ofBoat_58 : decode cX12_ofBoat 58 = .ok (.iload_n 1, 1) := by decide +kernel
theorem dX12_ofBoat_59 : decode cX12_ofBoat 59 = .ok (.iaload, 1) := by decide +kernel
theorem dX12_ofBoat_60 : decode cX12_ofBoat 60 = .ok (.ireturn, 1) := by decide +kernel
theorem dX12_ofBoat_61 : decode cX12_ofBoat 61 = .ok (.aload_n 0, 1) := by decide +kernel
theorem dX12_ofBoat_62 : decode cX12_ofBoat 62 = .ok (.getfield 26, 3) := by decide +kernel
theorem dX12_ofBoat_65 : decode cX12_ofBoat 65 = .ok (.iload_n 1, 1) := by decide +kernel
theorem dX12_ofBoat_66 : decode cX12_ofBoat 66 = .ok (.iaload, 1) := by decide +kernel
theorem dX12_ofBoat_67 : decode cX12_ofBoat 67 = .ok (.iconst 1, 1) := by decide +kernel
theorem dX12_ofBoat_68 : decode cX12_ofBoat 68 = .ok (.if_icmp .ne 14, 3) := by decide +kernel
theorem dX12_ofBoat_71 : decode cX12_ofBoat 71 = .ok (.aload_n 0, 1) := by decide +kernel
theorem dX12_ofBoat_72 : decode cX12_ofBoat 72 = .ok (.getfield 32, 3) := by decide +kernel
theorem dX12_ofBoat_75 : decode cX12_ofBoat 75 = .ok (.iload_n 1, 1) := by decide +kernel
theorem dX12_ofBoat_76 : decode cX12_ofBoat 76 = .ok (.iaload, 1) := by decide +kernel
theorem dX12_ofBoat_77 : decode cX12_ofBoat 77 = .ok (.iconst 1, 1) := by decide +kernel
theorem dX12_ofBoat_78 : decode cX12_ofBoat 78 = .ok (.iadd, 1) := by decide +kernel
theorem dX12_ofBoat_79 : decode cX12_ofBoat 79 = .ok (.goto 9, 3) := by decide +kernel
theorem dX12_ofBoat_82 : decode cX12_ofBoat 82 = .ok (.aload_n 0, 1) := by decide +kernel
theorem dX12_ofBoat_83 : decode cX12_ofBoat 83 = .ok (.getfield 32, 3) := by decide +kernel
theorem dX12_ofBoat_86 : decode cX12_ofBoat 86 = .ok (.iload_n 1, 1) := by decide +kernel
theorem dX12_ofBoat_87 : decode cX12_ofBoat 87 = .ok (.iaload, 1) := by decide +kernel
theorem dX12_ofBoat_88 : decode cX12_ofBoat 88 = .ok (.ireturn, 1) := by decide +kernel
theorem dX12_ofBoat_89 : decode cX12_ofBoat 89 = .ok (.bipush (-2), 2) := by decide +kernel
theorem dX12_ofBoat_91 : decode cX12_ofBoat 91 = .ok (.ireturn, 1) := by decide +kernel
theorem dX12_wind_0 : decode cX12_wind 0 = .ok (.aload_n 0, 1) := by decide +kernel
theorem dX12_wind_1 : decode cX12_wind 1 = .ok (.getfield 75, 3) := by decide +kernel
theorem dX12_wind_4 : decode cX12_wind 4 = .ok (.ifCond .ne 6, 3) := by decide +kernel
theorem dX12_wind_7 : decode cX12_wind 7 = .ok (.bipush (-3), 2) := by decide +kernel
theorem dX12_wind_9 : decode cX12_wind 9 = .ok (.ireturn, 1) := by decide +kernel
theorem dX12_wind_10 : decode cX12_wind 10 = .ok (.aload_n 0, 1) := by decide +kernel
theorem dX12_wind_11 : decode cX12_wind 11 = .ok (.iload_n 1, 1) := by decide +kernel
theorem dX12_wind_12 : decode cX12_wind 12 = .ok (.invokevirtual 137, 3) := by decide +kernel
theorem dX12_wind_15 : decode cX12_wind 15 = .ok (.ifCond .eq 12, 3) := by decide +kernel
theorem dX12_wind_18 : decode cX12_wind 18 = .ok (.iload_n 2, 1) := by decide +kernel
theorem dX12_wind_19 : decode cX12_wind 19 = .ok (.iconst 0, 1) := by decide +kernel
theorem dX12_wind_20 : decode cX12_wind 20 = .ok (.iconst 2, 1) := by decide +kernel
theorem dX12_wind_21 : decode cX12_wind 21 = .ok (.invokestatic 71, 3) := by decide +kernel
theorem dX12_wind_24 : decode cX12_wind 24 = .ok (.ifCond .ne 6, 3) := by decide +kernel
theorem dX12_wind_27 : decode cX12_wind 27 = .ok (.bipush (-2), 2) := by decide +kernel
theorem dX12_wind_29 : decode cX12_wind 29 = .ok (.ireturn, 1) := by decide +kernel
theorem dX12_wind_30 : decode cX12_wind 30 = .ok (.aload_n 0, 1) := by decide +kernel
theorem dX12_wind_31 : decode cX12_wind 31 = .ok (.getfield 23, 3) := by decide +kernel
theorem dX12_wind_34 : decode cX12_wind 34 = .ok (.iload_n 1, 1) := by decide +kernel
theorem dX12_wind_35 : decode cX12_wind 35 = .ok (.iaload, 1) := by decide +kernel
theorem dX12_wind_36 : decode cX12_wind 36 = .ok (.istore_n 3, 1) := by decide +kernel
theorem dX12_wind_37 : decode cX12_wind 37 = .ok (.aload_n 0, 1) := by decide +kernel
theorem dX12_wind_38 : decode cX12_wind 38 = .ok (.getfield 23, 3) := by decide +kernel
theorem dX12_wind_41 : decode cX12_wind 41 = .ok (.iload_n 1, 1) := by decide +kernel
theorem dX12_wind_42 : decode cX12_wind 42 = .ok (.iload_n 2, 1) := by decide +kernel
theorem dX12_wind_43 : decode cX12_wind 43 = .ok (.iastore, 1) := by decide +kernel
theorem dX12_wind_44 : decode cX12_wind 44 = .ok (.iload_n 3, 1) := by decide +kernel
theorem dX12_wind_45 : decode cX12_wind 45 = .ok (.ireturn, 1) := by decide +kernel
theorem dX12_isle_0 : decode cX12_isle 0 = .ok (.aload_n 0, 1) := by decide +kernel
theorem dX12_isle_1 : decode cX12_isle 1 = .ok (.getfield 75, 3) := by decide +kernel
theorem dX12_isle_4 : decode cX12_isle 4 = .ok (.ifCond .ne 6, 3) := by decide +kernel
theorem dX12_isle_7 : decode cX12_isle 7 = .ok (.bipush (-3), 2) := by decide +kernel
theorem dX12_isle_9 : decode cX12_isle 9 = .ok (.ireturn, 1) := by decide +kernel
theorem dX12_isle_10 : decode cX12_isle 10 = .ok (.iload_n 1, 1) := by decide +kernel
theorem dX12_isle_11 : decode cX12_isle 11 = .ok (.iconst 1, 1) := by decide +kernel
theorem dX12_isle_12 : decode cX12_isle 12 = .ok (.aload_n 0, 1) := by decide +kernel
theorem dX12_isle_13 : decode cX12_isle 13 = .ok (.getfield 108, 3) := by decide +kernel
theorem dX12_isle_16 : decode cX12_isle 16 = .ok (.iconst 1, 1) := by decide +kernel
theorem dX12_isle_17 : decode cX12_isle 17 = .ok (.isub, 1) := by decide +kernel
theorem dX12_isle_18 : decode cX12_isle 18 = .ok (.invokestatic 71, 3) := by decide +kernel
theorem dX12_isle_21 : decode cX12_isle 21 = .ok (.ifCond .ne 6, 3) := by decide +kernel
theorem dX12_isle_24 : decode cX12_isle 24 = .ok (.bipush (-2), 2) := by decide +kernel
theorem dX12_isle_26 : decode cX12_isle 26 = .ok (.ireturn, 1) := by decide +kernel
theorem dX12_isle_27 : decode cX12_isle 27 = .ok (.aload_n 0, 1) := by decide +kernel
theorem dX12_isle_28 : decode cX12_isle 28 = .ok (.getfield 19, 3) := by decide +kernel
theorem dX12_isle_31 : decode cX12_isle 31 = .ok (.iload_n 1, 1) := by decide +kernel
theorem dX12_isle_32 : decode cX12_isle 32 = .ok (.baload, 1) := by decide +kernel
theorem dX12_isle_33 : decode cX12_isle 33 = .ok (.istore_n 3, 1) := by decide +kernel
theorem dX12_isle_34 : decode cX12_isle 34 = .ok (.aload_n 0, 1) := by decide +kernel
theorem dX12_isle_35 : decode cX12_isle 35 = .ok (.getfield 19, 3) := by decide +kernel
theorem dX12_isle_38 : decode cX12_isle 38 = .ok (.iload_n 1, 1) := by decide +kernel
theorem dX12_isle_39 : decode cX12_isle 39 = .ok (.iload_n 2, 1) := by decide +kernel
theorem dX12_isle_40 : decode cX12_isle 40 = .ok (.bastore, 1) := by decide +kernel
theorem dX12_isle_41 : decode cX12_isle 41 = .ok (.iload_n 3, 1) := by decide +kernel
theorem dX12_isle_42 : decode cX12_isle 42 = .ok (.iload_n 2, 1) := by decide +kernel
theorem dX12_isle_43 : decode cX12_isle 43 = .ok (.if_icmp .ne 7, 3) := by decide +kernel
theorem dX12_isle_46 : decode cX12_isle 46 = .ok (.iconst 0, 1) := by decide +kernel
theorem dX12_isle_47 : decode cX12_isle 47 = .ok (.goto 4, 3) := by decide +kernel
theorem dX12_isle_50 : decode cX12_isle 50 = .ok (.iconst 1, 1) := by decide +kernel
theorem dX12_isle_51 : decode cX12_isle 51 = .ok (.ireturn, 1) := by decide +kernel
theorem dX12_asNumber_0 : decode cX12_asNumber 0 = .ok (.iconst 0, 1) := by decide +kernel
theorem dX12_asNumber_1 : decode cX12_asNumber 1 = .ok (.istore_n 1, 1) := by decide +kernel
theorem dX12_asNumber_2 : decode cX12_asNumber 2 = .ok (.aload_n 0, 1) := by decide +kernel
theorem dX12_asNumber_3 : decode cX12_asNumber 3 = .ok (.getfield 75, 3) := by decide +kernel
theorem dX12_asNumber_6 : decode cX12_asNumber 6 = .ok (.iconst 1, 1) := by decide +kernel
theorem dX12_asNumber_7 : decode cX12_asNumber 7 = .ok (.isub, 1) := by decide +kernel
theorem dX12_asNumber_8 : decode cX12_asNumber 8 = .ok (.istore_n 2, 1) := by decide +kernel
theorem dX12_asNumber_9 : decode cX12_asNumber 9 = .ok (.iload_n 2, 1) := by decide +kernel
theorem dX12_asNumber_10 : decode cX12_asNumber 10 = .ok (.ifCond .lt 20, 3) := by decide +kernel
theorem dX12_asNumber_13 : decode cX12_asNumber 13 = .ok (.iconst 5, 1) := by decide +kernel
theorem dX12_asNumber_14 : decode cX12_asNumber 14 = .ok (.iload_n 1, 1) := by decide +kernel
theorem dX12_asNumber_15 : decode cX12_asNumber 15 = .ok (.imul, 1) := by decide +kernel
theorem dX12_asNumber_16 : decode cX12_asNumber 16 = .ok (.aload_n 0, 1) := by decide +kernel
theorem dX12_asNumber_17 : decode cX12_asNumber 17 = .ok (.getfield 44, 3) := by decide +kernel
theorem dX12_asNumber_20 : decode cX12_asNumber 20 = .ok (.iload_n 2, 1) := by decide +kernel
theorem dX12_asNumber_21 : decode cX12_asNumber 21 = .ok (.iaload, 1) := by decide +kernel
theorem dX12_asNumber_22 : decode cX12_asNumber 22 = .ok (.iadd, 1) := by decide +kernel
theorem dX12_asNumber_23 : decode cX12_asNumber 23 = .ok (.istore_n 1, 1) := by decide +kernel
theorem dX12_asNumber_24 : decode cX12_asNumber 24 = .ok (.iinc 2 (-1), 3) := by decide +kernel
theorem dX12_asNumber_27 : decode cX12_asNumber 27 = .ok (.goto (-18), 3) := by decide +kernel
theorem dX12_asNumber_30 : decode cX12_asNumber 30 = .ok (.iload_n 1, 1) := by decide +kernel
theorem dX12_asNumber_31 : decode cX12_asNumber 31 = .ok (.ireturn, 1) := by decide +kernel
theorem dX12_asPlaces_0 : decode cX12_asPlaces 0 = .ok (.iload_n 1, 1) := by decide +kernel
theorem dX12_asPlaces_1 : decode cX12_asPlaces 1 = .ok (.istore_n 2, 1) := by decide +kernel
theorem dX12_asPlaces_2 : decode cX12_asPlaces 2 = .ok (.iconst 0, 1) := by decide +kernel
theorem dX12_asPlaces_3 : decode cX12_asPlaces 3 = .ok (.istore_n 3, 1) := by decide +kernel
theorem dX12_asPlaces_4 : decode cX12_asPlaces 4 = .ok (.iload_n 3, 1) := by decide +kernel
theorem dX12_asPlaces_5 : decode cX12_asPlaces 5 = .ok (.aload_n 0, 1) := by decide +kernel
theorem dX12_asPlaces_6 : decode cX12_asPlaces 6 = .ok (.getfield 75, 3) := by decide +kernel
theorem dX12_asPlaces_9 : decode cX12_asPlaces 9 = .ok (.if_icmp .ge 22, 3) := by decide +kernel
theorem dX12_asPlaces_12 : decode cX12_asPlaces 12 = .ok (.aload_n 0, 1) := by decide +kernel
theorem dX12_asPlaces_13 : decode cX12_asPlaces 13 = .ok (.getfield 44, 3) := by decide +kernel
theorem dX12_asPlaces_16 : decode cX12_asPlaces 16 = .ok (.iload_n 3, 1) := by decide +kernel
theorem dX12_asPlaces_17 : decode cX12_asPlaces 17 = .ok (.iload_n 2, 1) := by decide +kernel
theorem dX12_asPlaces_18 : decode cX12_asPlaces 18 = .ok (.iconst 5, 1) := by decide +kernel
theorem dX12_asPlaces_19 : decode cX12_asPlaces 19 = .ok (.irem, 1) := by decide +kernel
theorem dX12_asPlaces_20 : decode cX12_asPlaces 20 = .ok (.iastore, 1) := by decide +kernel
theorem dX12_asPlaces_21 : decode cX12_asPlaces 21 = .ok (.iload_n 2, 1) := by decide +kernel
theorem dX12_asPlaces_22 : decode cX12_asPlaces 22 = .ok (.iconst 5, 1) := by decide +kernel
theorem dX12_asPlaces_23 : decode cX12_asPlaces 23 = .ok (.idiv, 1) := by decide +kernel
theorem dX12_asPlaces_24 : decode cX12_asPlaces 24 = .ok (.istore_n 2, 1) := by decide +kernel
theorem dX12_asPlaces_25 : decode cX12_asPlaces 25 = .ok (.iinc 3 1, 3) := by decide +kernel
theorem dX12_asPlaces_28 : decode cX12_asPlaces 28 = .ok (.goto (-24), 3) := by decide +kernel
theorem dX12_asPlaces_31 : decode cX12_asPlaces 31 = .ok (.return_, 1) := by decide +kernel
theorem dX12_begins_0 : decode cX12_begins 0 = .ok (.iconst 0, 1) := by decide +kernel
theorem dX12_begins_1 : decode cX12_begins 1 = .ok (.istore_n 2, 1) := by decide +kernel
theorem dX12_begins_2 : decode cX12_begins 2 = .ok (.iload_n 2, 1) := by decide +kernel
theorem dX12_begins_3 : decode cX12_begins 3 = .ok (.aload_n 0, 1) := by decide +kernel
theorem dX12_begins_4 : decode cX12_begins 4 = .ok (.getfield 75, 3) := by decide +kernel
theorem dX12_begins_7 : decode cX12_begins 7 = .ok (.if_icmp .ge 32, 3) := by decide +kernel
theorem dX12_begins_10 : decode cX12_begins 10 = .ok (.aload_n 0, 1) := by decide +kernel
theorem dX12_begins_11 : decode cX12_begins 11 = .ok (.getfield 44, 3) := by decide +kernel
theorem dX12_begins_14 : decode cX12_begins 14 = .ok (.iload_n 2, 1) := by decide +kernel
theorem dX12_begins_15 : decode cX12_begins 15 = .ok (.aload_n 0, 1) := by decide +kernel
theorem dX12_begins_16 : decode cX12_begins 16 = .ok (.getfield 29, 3) := by decide +kernel
theorem dX12_begins_19 : decode cX12_begins 19 = .ok (.iload_n 2, 1) := by decide +kernel
theorem dX12_begins_20 : decode cX12_begins 20 = .ok (.iaload, 1) := by decide +kernel
theorem dX12_begins_21 : decode cX12_begins 21 = .ok (.ifCond .ne 7, 3) := by decide +kernel
theorem dX12_begins_24 : decode cX12_begins 24 = .ok (.iconst 0, 1) := by decide +kernel
theorem dX12_begins_25 : decode cX12_begins 25 = .ok (.goto 7, 3) := by decide +kernel
theorem dX12_begins_28 : decode cX12_begins 28 = .ok (.aload_n 0, 1) := by decide +kernel
theorem dX12_begins_29 : decode cX12_begins 29 = .ok (.getfield 108, 3) := by decide +kernel
theorem dX12_begins_32 : decode cX12_begins 32 = .ok (.iastore, 1) := by decide +kernel
theorem dX12_begins_33 : decode cX12_begins 33 = .ok (.iinc 2 1, 3) := by decide +kernel
theorem dX12_begins_36 : decode cX12_begins 36 = .ok (.goto (-34), 3) := by decide +kernel
theorem dX12_begins_39 : decode cX12_begins 39 = .ok (.iload_n 1, 1) := by decide +kernel
theorem dX12_begins_40 : decode cX12_begins 40 = .ok (.ifCond .eq 10, 3) := by decide +kernel
theorem dX12_begins_43 : decode cX12_begins 43 = .ok (.aload_n 0, 1) := by decide +kernel
theorem dX12_begins_44 : decode cX12_begins 44 = .ok (.invokevirtual 140, 3) := by decide +kernel
theorem dX12_begins_47 : decode cX12_begins 47 = .ok (.goto 4, 3) := by decide +kernel
theorem dX12_begins_50 : decode cX12_begins 50 = .ok (.iconst 0, 1) := by decide +kernel
theorem dX12_begins_51 : decode cX12_begins 51 = .ok (.ireturn, 1) := by decide +kernel
theorem dX12_isOver_0 : decode cX12_isOver 0 = .ok (.aload_n 0, 1) := by decide +kernel
theorem dX12_isOver_1 : decode cX12_isOver 1 = .ok (.getfield 44, 3) := by decide +kernel
theorem dX12_isOver_4 : decode cX12_isOver 4 = .ok (.iload_n 1, 1) := by decide +kernel
theorem dX12_isOver_5 : decode cX12_isOver 5 = .ok (.iaload, 1) := by decide +kernel
theorem dX12_isOver_6 : decode cX12_isOver 6 = .ok (.aload_n 0, 1) := by decide +kernel
theorem dX12_isOver_7 : decode cX12_isOver 7 = .ok (.getfield 29, 3) := by decide +kernel
theorem dX12_isOver_10 : decode cX12_isOver 10 = .ok (.iload_n 1, 1) := by decide +kernel
theorem dX12_isOver_11 : decode cX12_isOver 11 = .ok (.iaload, 1) := by decide +kernel
theorem dX12_isOver_12 : decode cX12_isOver 12 = .ok (.ifCond .ne 10, 3) := by decide +kernel
theorem dX12_isOver_15 : decode cX12_isOver 15 = .ok (.aload_n 0, 1) := by decide +kernel
theorem dX12_isOver_16 : decode cX12_isOver 16 = .ok (.getfield 108, 3) := by decide +kernel
theorem dX12_isOver_19 : decode cX12_isOver 19 = .ok (.goto 4, 3) := by decide +kernel
theorem dX12_isOver_22 : decode cX12_isOver 22 = .ok (.iconst 0, 1) := by decide +kernel
theorem dX12_isOver_23 : decode cX12_isOver 23 = .ok (.if_icmp .ne 7, 3) := by decide +kernel
theorem dX12_isOver_26 : decode cX12_isOver 26 = .ok (.iconst 1, 1) := by decide +kernel
theorem dX12_isOver_27 : decode cX12_isOver 27 = .ok (.goto 4, 3) := by decide +kernel
theorem dX12_isOver_30 : decode cX12_isOver 30 = .ok (.iconst 0, 1) := by decide +kernel
theorem dX12_isOver_31 : decode cX12_isOver 31 = .ok (.ireturn, 1) := by decide +kernel
theorem dX12_over_0 : decode cX12_over 0 = .ok (.iconst 0, 1) := by decide +kernel
theorem dX12_over_1 : decode cX12_over 1 = .ok (.istore_n 1, 1) := by decide +kernel
theorem dX12_over_2 : decode cX12_over 2 = .ok (.iconst 0, 1) := by decide +kernel
theorem dX12_over_3 : decode cX12_over 3 = .ok (.istore_n 2, 1) := by decide +kernel
theorem dX12_over_4 : decode cX12_over 4 = .ok (.iload_n 2, 1) := by decide +kernel
theorem dX12_over_5 : decode cX12_over 5 = .ok (.aload_n 0, 1) := by decide +kernel
theorem dX12_over_6 : decode cX12_over 6 = .ok (.getfield 75, 3) := by decide +kernel
theorem dX12_over_9 : decode cX12_over 9 = .ok (.if_icmp .ge 27, 3) := by decide +kernel
theorem dX12_over_12 : decode cX12_over 12 = .ok (.iload_n 1, 1) := by decide +kernel
theorem dX12_over_13 : decode cX12_over 13 = .ok (.aload_n 0, 1) := by decide +kernel
theorem dX12_over_14 : decode cX12_over 14 = .ok (.iload_n 2, 1) := by decide +kernel
theorem dX12_over_15 : decode cX12_over 15 = .ok (.invokevirtual 144, 3) := by decide +kernel
theorem dX12_over_18 : decode cX12_over 18 = .ok (.ifCond .eq 9, 3) := by decide +kernel
theorem dX12_over_21 : decode cX12_over 21 = .ok (.iconst 1, 1) := by decide +kernel
theorem dX12_over_22 : decode cX12_over 22 = .ok (.iload_n 2, 1) := by decide +kernel
theorem dX12_over_23 : decode cX12_over 23 = .ok (.ishl, 1) := by decide +kernel
theorem dX12_over_24 : decode cX12_over 24 = .ok (.goto 4, 3) := by decide +kernel
theorem dX12_over_27 : decode cX12_over 27 = .ok (.iconst 0, 1) := by decide +kernel
theorem dX12_over_28 : decode cX12_over 28 = .ok (.ior, 1) := by decide +kernel
theorem dX12_over_29 : decode cX12_over 29 = .ok (.istore_n 1, 1) := by decide +kernel
theorem dX12_over_30 : decode cX12_over 30 = .ok (.iinc 2 1, 3) := by decide +kernel
theorem dX12_over_33 : decode cX12_over 33 = .ok (.goto (-29), 3) := by decide +kernel
theorem dX12_over_36 : decode cX12_over 36 = .ok (.iload_n 1, 1) := by decide +kernel
theorem dX12_over_37 : decode cX12_over 37 = .ok (.ireturn, 1) := by decide +kernel
theorem dX12_isWith_0 : decode cX12_isWith 0 = .ok (.iload_n 2, 1) := by decide +kernel
theorem dX12_isWith_1 : decode cX12_isWith 1 = .ok (.aload_n 0, 1) := by decide +kernel
theorem dX12_isWith_2 : decode cX12_isWith 2 = .ok (.getfield 29, 3) := by decide +kernel
theorem dX12_isWith_5 : decode cX12_isWith 5 = .ok (.iload_n 1, 1) := by decide +kernel
theorem dX12_isWith_6 : decode cX12_isWith 6 = .ok (.iaload, 1) := by decide +kernel
theorem dX12_isWith_7 : decode cX12_isWith 7 = .ok (.iconst 1, 1) := by decide +kernel
theorem dX12_isWith_8 : decode cX12_isWith 8 = .ok (.iadd, 1) := by decide +kernel
theorem dX12_isWith_9 : decode cX12_isWith 9 = .ok (.if_icmp .ne 7, 3) := by decide +kernel
theorem dX12_isWith_12 : decode cX12_isWith 12 = .ok (.iconst 1, 1) := by decide +kernel
theorem dX12_isWith_13 : decode cX12_isWith 13 = .ok (.goto 4, 3) := by decide +kernel
theorem dX12_isWith_16 : decode cX12_isWith 16 = .ok (.iconst 0, 1) := by decide +kernel
theorem dX12_isWith_17 : decode cX12_isWith 17 = .ok (.ireturn, 1) := by decide +kernel
theorem dX12_finedBy_0 : decode cX12_finedBy 0 = .ok (.iconst 0, 1) := by decide +kernel
theorem dX12_finedBy_1 : decode cX12_finedBy 1 = .ok (.istore_n 3, 1) := by decide +kernel
theorem dX12_finedBy_2 : decode cX12_finedBy 2 = .ok (.iconst 0, 1) := by decide +kernel
theorem dX12_finedBy_3 : decode cX12_finedBy 3 = .ok (.istore 4, 2) := by decide +kernel
theorem dX12_finedBy_5 : decode cX12_finedBy 5 = .ok (.iload 4, 2) := by decide +kernel
theorem dX12_finedBy_7 : decode cX12_finedBy 7 = .ok (.aload_n 0, 1) := by decide +kernel
theorem dX12_finedBy_8 : decode cX12_finedBy 8 = .ok (.getfield 75, 3) := by decide +kernel
theorem dX12_finedBy_11 : decode cX12_finedBy 11 = .ok (.if_icmp .ge 57, 3) := by decide +kernel
theorem dX12_finedBy_14 : decode cX12_finedBy 14 = .ok (.iload_n 3, 1) := by decide +kernel
theorem dX12_finedBy_15 : decode cX12_finedBy 15 = .ok (.iload_n 1, 1) := by decide +kernel
theorem dX12_finedBy_16 : decode cX12_finedBy 16 = .ok (.iload 4, 2) := by decide +kernel
theorem dX12_finedBy_18 : decode cX12_finedBy 18 = .ok (.ishr, 1) := by decide +kernel
theorem dX12_finedBy_19 : decode cX12_finedBy 19 = .ok (.iconst 1, 1) := by decide +kernel
theorem dX12_finedBy_20 : decode cX12_finedBy 20 = .ok (.iand, 1) := by decide +kernel
theorem dX12_finedBy_21 : decode cX12_finedBy 21 = .ok (.iconst 1, 1) := by decide +kernel
theorem dX12_finedBy_22 : decode cX12_finedBy 22 = .ok (.if_icmp .ne 37, 3) := by decide +kernel
theorem dX12_finedBy_25 : decode cX12_finedBy 25 = .ok (.aload_n 0, 1) := by decide +kernel
theorem dX12_finedBy_26 : decode cX12_finedBy 26 = .ok (.iload 4, 2) := by decide +kernel
theorem dX12_finedBy_28 : decode cX12_finedBy 28 = .ok (.invokevirtual 144, 3) := by decide +kernel
theorem dX12_finedBy_31 : decode cX12_finedBy 31 = .ok (.ifCond .ne 28, 3) := by decide +kernel
theorem dX12_finedBy_34 : decode cX12_finedBy 34 = .ok (.aload_n 0, 1) := by decide +kernel
theorem dX12_finedBy_35 : decode cX12_finedBy 35 = .ok (.iload 4, 2) := by decide +kernel
theorem dX12_finedBy_37 : decode cX12_finedBy 37 = .ok (.iload_n 2, 1) := by decide +kernel
theorem dX12_finedBy_38 : decode cX12_finedBy 38 = .ok (.invokevirtual 147, 3) := by decide +kernel
theorem dX12_finedBy_41 : decode cX12_finedBy 41 = .ok (.ifCond .eq 18, 3) := by decide +kernel
theorem dX12_finedBy_44 : decode cX12_finedBy 44 = .ok (.aload_n 0, 1) := by decide +kernel
theorem dX12_finedBy_45 : decode cX12_finedBy 45 = .ok (.getfield 26, 3) := by decide +kernel
theorem dX12_finedBy_48 : decode cX12_finedBy 48 = .ok (.iload 4, 2) := by decide +kernel
theorem dX12_finedBy_50 : decode cX12_finedBy 50 = .ok (.iaload, 1) := by decide +kernel
theorem dX12_finedBy_51 : decode cX12_finedBy 51 = .ok (.iconst 2, 1) := by decide +kernel
theorem dX12_finedBy_52 : decode cX12_finedBy 52 = .ok (.if_icmp .eq 7, 3) := by decide +kernel
theorem dX12_finedBy_55 : decode cX12_finedBy 55 = .ok (.iconst 1, 1) := by decide +kernel
theorem dX12_finedBy_56 : decode cX12_finedBy 56 = .ok (.goto 4, 3) := by decide +kernel
theorem dX12_finedBy_59 : decode cX12_finedBy 59 = .ok (.iconst 0, 1) := by decide +kernel
theorem dX12_finedBy_60 : decode cX12_finedBy 60 = .ok (.iadd, 1) := by decide +kernel
theorem dX12_finedBy_61 : decode cX12_finedBy 61 = .ok (.istore_n 3, 1) := by decide +kernel
theorem dX12_finedBy_62 : decode cX12_finedBy 62 = .ok (.iinc 4 1, 3) := by decide +kernel
theorem dX12_finedBy_65 : decode cX12_finedBy 65 = .ok (.goto (-60), 3) := by decide +kernel
theorem dX12_finedBy_68 : decode cX12_finedBy 68 = .ok (.iload_n 3, 1) := by decide +kernel
theorem dX12_finedBy_69 : decode cX12_finedBy 69 = .ok (.iconst 2, 1) := by decide +kernel
theorem dX12_finedBy_70 : decode cX12_finedBy 70 = .ok (.if_icmp .ge 7, 3) := by decide +kernel
theorem dX12_finedBy_73 : decode cX12_finedBy 73 = .ok (.iconst 0, 1) := by decide +kernel
theorem dX12_finedBy_74 : decode cX12_finedBy 74 = .ok (.goto 4, 3) := by decide +kernel
theorem dX12_finedBy_77 : decode cX12_finedBy 77 = .ok (.iload_n 3, 1) := by decide +kernel
theorem dX12_finedBy_78 : decode cX12_finedBy 78 = .ok (.ireturn, 1) := by decide +kernel
theorem dX12_bounded_0 : decode cX12_bounded 0 = .ok (.iload_n 1, 1) := by decide +kernel
theorem dX12_bounded_1 : decode cX12_bounded 1 = .ok (.ifCond .ge 7, 3) := by decide +kernel
theorem dX12_bounded_4 : decode cX12_bounded 4 = .ok (.iconst 0, 1) := by decide +kernel
theorem dX12_bounded_5 : decode cX12_bounded 5 = .ok (.goto 19, 3) := by decide +kernel
theorem dX12_bounded_8 : decode cX12_bounded 8 = .ok (.iload_n 1, 1) := by decide +kernel
theorem dX12_bounded_9 : decode cX12_bounded 9 = .ok (.aload_n 0, 1) := by decide +kernel
theorem dX12_bounded_10 : decode cX12_bounded 10 = .ok (.getfield 108, 3) := by decide +kernel
theorem dX12_bounded_13 : decode cX12_bounded 13 = .ok (.if_icmp .le 10, 3) := by decide +kernel
theorem dX12_bounded_16 : decode cX12_bounded 16 = .ok (.aload_n 0, 1) := by decide +kernel
theorem dX12_bounded_17 : decode cX12_bounded 17 = .ok (.getfield 108, 3) := by decide +kernel
theorem dX12_bounded_20 : decode cX12_bounded 20 = .ok (.goto 4, 3) := by decide +kernel
theorem dX12_bounded_23 : decode cX12_bounded 23 = .ok (.iload_n 1, 1) := by decide +kernel
theorem dX12_bounded_24 : decode cX12_bounded 24 = .ok (.ireturn, 1) := by decide +kernel
theorem dX12_goHour_0 : decode cX12_goHour 0 = .ok (.iconst 0, 1) := by decide +kernel
theorem dX12_goHour_1 : decode cX12_goHour 1 = .ok (.istore_n 3, 1) := by decide +kernel
theorem dX12_goHour_2 : decode cX12_goHour 2 = .ok (.iload_n 3, 1) := by decide +kernel
theorem dX12_goHour_3 : decode cX12_goHour 3 = .ok (.aload_n 0, 1) := by decide +kernel
theorem dX12_goHour_4 : decode cX12_goHour 4 = .ok (.getfield 75, 3) := by decide +kernel
theorem dX12_goHour_7 : decode cX12_goHour 7 = .ok (.if_icmp .ge 164, 3) := by decide +kernel
theorem dX12_goHour_10 : decode cX12_goHour 10 = .ok (.iload_n 2, 1) := by decide +kernel
theorem dX12_goHour_11 : decode cX12_goHour 11 = .ok (.ifCond .eq 160, 3) := by decide +kernel
theorem dX12_goHour_14 : decode cX12_goHour 14 = .ok (.aload_n 0, 1) := by decide +kernel
theorem dX12_goHour_15 : decode cX12_goHour 15 = .ok (.iload_n 3, 1) := by decide +kernel
theorem dX12_goHour_16 : decode cX12_goHour 16 = .ok (.invokevirtual 144, 3) := by decide +kernel
theorem dX12_goHour_19 : decode cX12_goHour 19 = .ok (.ifCond .ne 146, 3) := by decide +kernel
theorem dX12_goHour_22 : decode cX12_goHour 22 = .ok (.aload_n 0, 1) := by decide +kernel
theorem dX12_goHour_23 : decode cX12_goHour 23 = .ok (.getfield 29, 3) := by decide +kernel
theorem dX12_goHour_26 : decode cX12_goHour 26 = .ok (.iload_n 3, 1) := by decide +kernel
theorem dX12_goHour_27 : decode cX12_goHour 27 = .ok (.iaload, 1) := by decide +kernel
theorem dX12_goHour_28 : decode cX12_goHour 28 = .ok (.ifCond .ne 7, 3) := by decide +kernel
theorem dX12_goHour_31 : decode cX12_goHour 31 = .ok (.iconst 1, 1) := by decide +kernel
theorem dX12_goHour_32 : decode cX12_goHour 32 = .ok (.goto 4, 3) := by decide +kernel
theorem dX12_goHour_35 : decode cX12_goHour 35 = .ok (.iconst (-1), 1) := by decide +kernel
theorem dX12_goHour_36 : decode cX12_goHour 36 = .ok (.istore 4, 2) := by decide +kernel
theorem dX12_goHour_38 : decode cX12_goHour 38 = .ok (.iload_n 1, 1) := by decide +kernel
theorem dX12_goHour_39 : decode cX12_goHour 39 = .ok (.iload_n 3, 1) := by decide +kernel
theorem dX12_goHour_40 : decode cX12_goHour 40 = .ok (.ishr, 1) := by decide +kernel
theorem dX12_goHour_41 : decode cX12_goHour 41 = .ok (.iconst 1, 1) := by decide +kernel
theorem dX12_goHour_42 : decode cX12_goHour 42 = .ok (.iand, 1) := by decide +kernel
theorem dX12_goHour_43 : decode cX12_goHour 43 = .ok (.iconst 1, 1) := by decide +kernel
theorem dX12_goHour_44 : decode cX12_goHour 44 = .ok (.if_icmp .ne 66, 3) := by decide +kernel
theorem dX12_goHour_47 : decode cX12_goHour 47 = .ok (.aload_n 0, 1) := by decide +kernel
theorem dX12_goHour_48 : decode cX12_goHour 48 = .ok (.getfield 26, 3) := by decide +kernel
theorem dX12_goHour_51 : decode cX12_goHour 51 = .ok (.iload_n 3, 1) := by decide +kernel
theorem dX12_goHour_52 : decode cX12_goHour 52 = .ok (.iaload, 1) := by decide +kernel
theorem dX12_goHour_53 : decode cX12_goHour 53 = .ok (.iconst 1, 1) := by decide +kernel
theorem dX12_goHour_54 : decode cX12_goHour 54 = .ok (.if_icmp .ne 23, 3) := by decide +kernel
theorem dX12_goHour_57 : decode cX12_goHour 57 = .ok (.aload_n 0, 1) := by decide +kernel
theorem dX12_goHour_58 : decode cX12_goHour 58 = .ok (.iload_n 3, 1) := by decide +kernel
theorem dX12_goHour_59 : decode cX12_goHour 59 = .ok (.iload_n 2, 1) := by decide +kernel
theorem dX12_goHour_60 : decode cX12_goHour 60 = .ok (.invokevirtual 147, 3) := by decide +kernel
theorem dX12_goHour_63 : decode cX12_goHour 63 = .ok (.ifCond .ne 14, 3) := by decide +kernel
theorem dX12_goHour_66 : decode cX12_goHour 66 = .ok (.aload_n 0, 1) := by decide +kernel
theorem dX12_goHour_67 : decode cX12_goHour 67 = .ok (.getfield 32, 3) := by decide +kernel
theorem dX12_goHour_70 : decode cX12_goHour 70 = .ok (.iload_n 3, 1) := by decide +kernel
theorem dX12_goHour_71 : decode cX12_goHour 71 = .ok (.iaload, 1) := by decide +kernel
theorem dX12_goHour_72 : decode cX12_goHour 72 = .ok (.iconst 1, 1) := by decide +kernel
theorem dX12_goHour_73 : decode cX12_goHour 73 = .ok (.iadd, 1) := by decide +kernel
theorem dX12_goHour_74 : decode cX12_goHour 74 = .ok (.goto 9, 3) := by decide +kernel
theorem dX12_goHour_77 : decode cX12_goHour 77 = .ok (.aload_n 0, 1) := by decide +kernel
theorem dX12_goHour_78 : decode cX12_goHour 78 = .ok (.getfield 32, 3) := by decide +kernel
theorem dX12_goHour_81 : decode cX12_goHour 81 = .ok (.iload_n 3, 1) := by decide +kernel
theorem dX12_goHour_82 : decode cX12_goHour 82 = .ok (.iaload, 1) := by decide +kernel
theorem dX12_goHour_83 : decode cX12_goHour 83 = .ok (.istore 5, 2) := by decide +kernel
theorem dX12_goHour_85 : decode cX12_goHour 85 = .ok (.aload_n 0, 1) := by decide +kernel
theorem dX12_goHour_86 : decode cX12_goHour 86 = .ok (.getfield 44, 3) := by decide +kernel
theorem dX12_goHour_89 : decode cX12_goHour 89 = .ok (.iload_n 3, 1) := by decide +kernel
theorem dX12_goHour_90 : decode cX12_goHour 90 = .ok (.aload_n 0, 1) := by decide +kernel
theorem dX12_goHour_91 : decode cX12_goHour 91 = .ok (.aload_n 0, 1) := by decide +kernel
theorem dX12_goHour_92 : decode cX12_goHour 92 = .ok (.getfield 44, 3) := by decide +kernel
theorem dX12_goHour_95 : decode cX12_goHour 95 = .ok (.iload_n 3, 1) := by decide +kernel
theorem dX12_goHour_96 : decode cX12_goHour 96 = .ok (.iaload, 1) := by decide +kernel
theorem dX12_goHour_97 : decode cX12_goHour 97 = .ok (.iload 4, 2) := by decide +kernel
theorem dX12_goHour_99 : decode cX12_goHour 99 = .ok (.iload 5, 2) := by decide +kernel
theorem dX12_goHour_101 : decode cX12_goHour 101 = .ok (.imul, 1) := by decide +kernel
theorem dX12_goHour_102 : decode cX12_goHour 102 = .ok (.iadd, 1) := by decide +kernel
theorem dX12_goHour_103 : decode cX12_goHour 103 = .ok (.invokevirtual 150, 3) := by decide +kernel
theorem dX12_goHour_106 : decode cX12_goHour 106 = .ok (.iastore, 1) := by decide +kernel
theorem dX12_goHour_107 : decode cX12_goHour 107 = .ok (.goto 58, 3) := by decide +kernel
theorem dX12_goHour_110 : decode cX12_goHour 110 = .ok (.aload_n 0, 1) := by decide +kernel
theorem dX12_goHour_111 : decode cX12_goHour 111 = .ok (.getfield 44, 3) := by decide +kernel
theorem dX12_goHour_114 : decode cX12_goHour 114 = .ok (.iload_n 3, 1) := by decide +kernel
theorem dX12_goHour_115 : decode cX12_goHour 115 = .ok (.iaload, 1) := by decide +kernel
theorem dX12_goHour_116 : decode cX12_goHour 116 = .ok (.ifCond .le 49, 3) := by decide +kernel
theorem dX12_goHour_119 : decode cX12_goHour 119 = .ok (.aload_n 0, 1) := by decide +kernel
theorem dX12_goHour_120 : decode cX12_goHour 120 = .ok (.getfield 44, 3) := by decide +kernel
theorem dX12_goHour_123 : decode cX12_goHour 123 = .ok (.iload_n 3, 1) := by decide +kernel
theorem dX12_goHour_124 : decode cX12_goHour 124 = .ok (.iaload, 1) := by decide +kernel
theorem dX12_goHour_125 : decode cX12_goHour 125 = .ok (.aload_n 0, 1) := by decide +kernel
theorem dX12_goHour_126 : decode cX12_goHour 126 = .ok (.getfield 108, 3) := by decide +kernel
theorem dX12_goHour_129 : decode cX12_goHour 129 = .ok (.if_icmp .ge 36, 3) := by decide +kernel
theorem dX12_goHour_132 : decode cX12_goHour 132 = .ok (.aload_n 0, 1) := by decide +kernel
theorem dX12_goHour_133 : decode cX12_goHour 133 = .ok (.getfield 19, 3) := by decide +kernel
theorem dX12_goHour_136 : decode cX12_goHour 136 = .ok (.aload_n 0, 1) := by decide +kernel
theorem dX12_goHour_137 : decode cX12_goHour 137 = .ok (.getfield 44, 3) := by decide +kernel
theorem dX12_goHour_140 : decode cX12_goHour 140 = .ok (.iload_n 3, 1) := by decide +kernel
theorem dX12_goHour_141 : decode cX12_goHour 141 = .ok (.iaload, 1) := by decide +kernel
theorem dX12_goHour_142 : decode cX12_goHour 142 = .ok (.baload, 1) := by decide +kernel
theorem dX12_goHour_143 : decode cX12_goHour 143 = .ok (.ifCond .ne 22, 3) := by decide +kernel
theorem dX12_goHour_146 : decode cX12_goHour 146 = .ok (.aload_n 0, 1) := by decide +kernel
theorem dX12_goHour_147 : decode cX12_goHour 147 = .ok (.getfield 44, 3) := by decide +kernel
theorem dX12_goHour_150 : decode cX12_goHour 150 = .ok (.iload_n 3, 1) := by decide +kernel
theorem dX12_goHour_151 : decode cX12_goHour 151 = .ok (.dup2, 1) := by decide +kernel
theorem dX12_goHour_152 : decode cX12_goHour 152 = .ok (.iaload, 1) := by decide +kernel
theorem dX12_goHour_153 : decode cX12_goHour 153 = .ok (.iload_n 2, 1) := by decide +kernel
theorem dX12_goHour_154 : decode cX12_goHour 154 = .ok (.iconst 1, 1) := by decide +kernel
theorem dX12_goHour_155 : decode cX12_goHour 155 = .ok (.if_icmp .ne 7, 3) := by decide +kernel
theorem dX12_goHour_158 : decode cX12_goHour 158 = .ok (.iconst 1, 1) := by decide +kernel
theorem dX12_goHour_159 : decode cX12_goHour 159 = .ok (.goto 4, 3) := by decide +kernel
theorem dX12_goHour_162 : decode cX12_goHour 162 = .ok (.iconst (-1), 1) := by decide +kernel
theorem dX12_goHour_163 : decode cX12_goHour 163 = .ok (.iadd, 1) := by decide +kernel
theorem dX12_goHour_164 : decode cX12_goHour 164 = .ok (.iastore, 1) := by decide +kernel
theorem dX12_goHour_165 : decode cX12_goHour 165 = .ok (.iinc 3 1, 3) := by decide +kernel
theorem dX12_goHour_168 : decode cX12_goHour 168 = .ok (.goto (-166), 3) := by decide +kernel
theorem dX12_goHour_171 : decode cX12_goHour 171 = .ok (.return_, 1) := by decide +kernel
theorem dX12_layPlan_0 : decode cX12_layPlan 0 = .ok (.aload_n 0, 1) := by decide +kernel
theorem dX12_layPlan_1 : decode cX12_layPlan 1 = .ok (.iload_n 1, 1) := by decide +kernel
theorem dX12_layPlan_2 : decode cX12_layPlan 2 = .ok (.iload_n 2, 1) := by decide +kernel
theorem dX12_layPlan_3 : decode cX12_layPlan 3 = .ok (.iload_n 3, 1) := by decide +kernel
theorem dX12_layPlan_4 : decode cX12_layPlan 4 = .ok (.iload 4, 2) := by decide +kernel
theorem dX12_layPlan_6 : decode cX12_layPlan 6 = .ok (.invokevirtual 91, 3) := by decide +kernel
theorem dX12_layPlan_9 : decode cX12_layPlan 9 = .ok (.istore 5, 2) := by decide +kernel
theorem dX12_layPlan_11 : decode cX12_layPlan 11 = .ok (.iload 5, 2) := by decide +kernel
theorem dX12_layPlan_13 : decode cX12_layPlan 13 = .ok (.ifCond .eq 10, 3) := by decide +kernel
theorem dX12_layPlan_16 : decode cX12_layPlan 16 = .ok (.aload_n 0, 1) := by decide +kernel
theorem dX12_layPlan_17 : decode cX12_layPlan 17 = .ok (.iload 5, 2) := by decide +kernel
theorem dX12_layPlan_19 : decode cX12_layPlan 19 = .ok (.invokevirtual 95, 3) := by decide +kernel
theorem dX12_layPlan_22 : decode cX12_layPlan 22 = .ok (.ireturn, 1) := by decide +kernel
theorem dX12_layPlan_23 : decode cX12_layPlan 23 = .ok (.aload_n 0, 1) := by decide +kernel
theorem dX12_layPlan_24 : decode cX12_layPlan 24 = .ok (.getfield 75, 3) := by decide +kernel
theorem dX12_layPlan_27 : decode cX12_layPlan 27 = .ok (.ifCond .ne 6, 3) := by decide +kernel
theorem dX12_layPlan_30 : decode cX12_layPlan 30 = .ok (.bipush (-3), 2) := by decide +kernel
theorem dX12_layPlan_32 : decode cX12_layPlan 32 = .ok (.ireturn, 1) := by decide +kernel
theorem dX12_layPlan_33 : decode cX12_layPlan 33 = .ok (.iload 4, 2) := by decide +kernel
theorem dX12_layPlan_35 : decode cX12_layPlan 35 = .ok (.aload_n 0, 1) := by decide +kernel
theorem dX12_layPlan_36 : decode cX12_layPlan 36 = .ok (.getfield 78, 3) := by decide +kernel
theorem dX12_layPlan_39 : decode cX12_layPlan 39 = .ok (.if_icmp .le 6, 3) := by decide +kernel
theorem dX12_layPlan_42 : decode cX12_layPlan 42 = .ok (.bipush (-2), 2) := by decide +kernel
theorem dX12_layPlan_44 : decode cX12_layPlan 44 = .ok (.ireturn, 1) := by decide +kernel
theorem dX12_layPlan_45 : decode cX12_layPlan 45 = .ok (.iconst 0, 1) := by decide +kernel
theorem dX12_layPlan_46 : decode cX12_layPlan 46 = .ok (.istore 6, 2) := by decide +kernel
theorem dX12_layPlan_48 : decode cX12_layPlan 48 = .ok (.iload 6, 2) := by decide +kernel
theorem dX12_layPlan_50 : decode cX12_layPlan 50 = .ok (.iload 4, 2) := by decide +kernel
theorem dX12_layPlan_52 : decode cX12_layPlan 52 = .ok (.if_icmp .ge 51, 3) := by decide +kernel
theorem dX12_layPlan_55 : decode cX12_layPlan 55 = .ok (.aload_n 0, 1) := by decide +kernel
theorem dX12_layPlan_56 : decode cX12_layPlan 56 = .ok (.getfield 47, 3) := by decide +kernel
theorem dX12_layPlan_59 : decode cX12_layPlan 59 = .ok (.iload 6, 2) := by decide +kernel
theorem dX12_layPlan_61 : decode cX12_layPlan 61 = .ok (.aload_n 0, 1) := by decide +kernel
theorem dX12_layPlan_62 : decode cX12_layPlan 62 = .ok (.getfield 16, 3) := by decide +kernel
theorem dX12_layPlan_65 : decode cX12_layPlan 65 = .ok (.bipush 60, 2) := by decide +kernel
theorem dX12_layPlan_67 : decode cX12_layPlan 67 = .ok (.iload_n 1, 1) := by decide +kernel
theorem dX12_layPlan_68 : decode cX12_layPlan 68 = .ok (.imul, 1) := by decide +kernel
theorem dX12_layPlan_69 : decode cX12_layPlan 69 = .ok (.iload_n 3, 1) := by decide +kernel
theorem dX12_layPlan_70 : decode cX12_layPlan 70 = .ok (.iadd, 1) := by decide +kernel
theorem dX12_layPlan_71 : decode cX12_layPlan 71 = .ok (.iload 6, 2) := by decide +kernel
theorem dX12_layPlan_73 : decode cX12_layPlan 73 = .ok (.iadd, 1) := by decide +kernel
theorem dX12_layPlan_74 : decode cX12_layPlan 74 = .ok (.iaload, 1) := by decide +kernel
theorem dX12_layPlan_75 : decode cX12_layPlan 75 = .ok (.iastore, 1) := by decide +kernel
theorem dX12_layPlan_76 : decode cX12_layPlan 76 = .ok (.aload_n 0, 1) := by decide +kernel
theorem dX12_layPlan_77 : decode cX12_layPlan 77 = .ok (.getfield 47, 3) := by decide +kernel
theorem dX12_layPlan_80 : decode cX12_layPlan 80 = .ok (.iload 6, 2) := by decide +kernel
theorem dX12_layPlan_82 : decode cX12_layPlan 82 = .ok (.iaload, 1) := by decide +kernel
theorem dX12_layPlan_83 : decode cX12_layPlan 83 = .ok (.iconst 0, 1) := by decide +kernel
theorem dX12_layPlan_84 : decode cX12_layPlan 84 = .ok (.aload_n 0, 1) := by decide +kernel
theorem dX12_layPlan_85 : decode cX12_layPlan 85 = .ok (.invokevirtual 153, 3) := by decide +kernel
theorem dX12_layPlan_88 : decode cX12_layPlan 88 = .ok (.invokestatic 71, 3) := by decide +kernel
theorem dX12_layPlan_91 : decode cX12_layPlan 91 = .ok (.ifCond .ne 6, 3) := by decide +kernel
theorem dX12_layPlan_94 : decode cX12_layPlan 94 = .ok (.bipush (-2), 2) := by decide +kernel
theorem dX12_layPlan_96 : decode cX12_layPlan 96 = .ok (.ireturn, 1) := by decide +kernel
theorem dX12_layPlan_97 : decode cX12_layPlan 97 = .ok (.iinc 6 1, 3) := by decide +kernel
theorem dX12_layPlan_100 : decode cX12_layPlan 100 = .ok (.goto (-52), 3) := by decide +kernel
theorem dX12_layPlan_103 : decode cX12_layPlan 103 = .ok (.aload_n 0, 1) := by decide +kernel
theorem dX12_layPlan_104 : decode cX12_layPlan 104 = .ok (.iload 4, 2) := by decide +kernel
theorem dX12_layPlan_106 : decode cX12_layPlan 106 = .ok (.putfield 156, 3) := by decide +kernel
theorem dX12_layPlan_109 : decode cX12_layPlan 109 = .ok (.iconst 0, 1) := by decide +kernel
theorem dX12_layPlan_110 : decode cX12_layPlan 110 = .ok (.ireturn, 1) := by decide +kernel
theorem dX12_isRow_0 : decode cX12_isRow 0 = .ok (.iload_n 0, 1) := by decide +kernel
theorem dX12_isRow_1 : decode cX12_isRow 1 = .ok (.invokestatic 88, 3) := by decide +kernel
theorem dX12_isRow_4 : decode cX12_isRow 4 = .ok (.ifCond .eq 17, 3) := by decide +kernel
theorem dX12_isRow_7 : decode cX12_isRow 7 = .ok (.iload_n 1, 1) := by decide +kernel
theorem dX12_isRow_8 : decode cX12_isRow 8 = .ok (.iconst 0, 1) := by decide +kernel
theorem dX12_isRow_9 : decode cX12_isRow 9 = .ok (.bipush 10, 2) := by decide +kernel
theorem dX12_isRow_11 : decode cX12_isRow 11 = .ok (.invokestatic 71, 3) := by decide +kernel
theorem dX12_isRow_14 : decode cX12_isRow 14 = .ok (.ifCond .eq 7, 3) := by decide +kernel
theorem dX12_isRow_17 : decode cX12_isRow 17 = .ok (.iconst 1, 1) := by decide +kernel
theorem dX12_isRow_18 : decode cX12_isRow 18 = .ok (.goto 4, 3) := by decide +kernel
theorem dX12_isRow_21 : decode cX12_isRow 21 = .ok (.iconst 0, 1) := by decide +kernel
theorem dX12_isRow_22 : decode cX12_isRow 22 = .ok (.ireturn, 1) := by decide +kernel
theorem dX12_goPlan_0 : decode cX12_goPlan 0 = .ok (.aload_n 0, 1) := by decide +kernel
theorem dX12_goPlan_1 : decode cX12_goPlan 1 = .ok (.iconst 0, 1) := by decide +kernel
theorem dX12_goPlan_2 : decode cX12_goPlan 2 = .ok (.invokevirtual 159, 3) := by decide +kernel
theorem dX12_goPlan_5 : decode cX12_goPlan 5 = .ok (.pop, 1) := by decide +kernel
theorem dX12_goPlan_6 : decode cX12_goPlan 6 = .ok (.aload_n 0, 1) := by decide +kernel
theorem dX12_goPlan_7 : decode cX12_goPlan 7 = .ok (.iconst 0, 1) := by decide +kernel
theorem dX12_goPlan_8 : decode cX12_goPlan 8 = .ok (.putfield 163, 3) := by decide +kernel
theorem dX12_goPlan_11 : decode cX12_goPlan 11 = .ok (.aload_n 0, 1) := by decide +kernel
theorem dX12_goPlan_12 : decode cX12_goPlan 12 = .ok (.bipush (-9), 2) := by decide +kernel
theorem dX12_goPlan_14 : decode cX12_goPlan 14 = .ok (.putfield 166, 3) := by decide +kernel
theorem dX12_goPlan_17 : decode cX12_goPlan 17 = .ok (.aload_n 0, 1) := by decide +kernel
theorem dX12_goPlan_18 : decode cX12_goPlan 18 = .ok (.bipush (-9), 2) := by decide +kernel
theorem dX12_goPlan_20 : decode cX12_goPlan 20 = .ok (.putfield 169, 3) := by decide +kernel
theorem dX12_goPlan_23 : decode cX12_goPlan 23 = .ok (.iconst 0, 1) := by decide +kernel
theorem dX12_goPlan_24 : decode cX12_goPlan 24 = .ok (.istore_n 1, 1) := by decide +kernel
theorem dX12_goPlan_25 : decode cX12_goPlan 25 = .ok (.iload_n 1, 1) := by decide +kernel
theorem dX12_goPlan_26 : decode cX12_goPlan 26 = .ok (.aload_n 0, 1) := by decide +kernel
theorem dX12_goPlan_27 : decode cX12_goPlan 27 = .ok (.getfield 156, 3) := by decide +kernel
theorem dX12_goPlan_30 : decode cX12_goPlan 30 = .ok (.if_icmp .ge 109, 3) := by decide +kernel
theorem dX12_goPlan_33 : decode cX12_goPlan 33 = .ok (.aload_n 0, 1) := by decide +kernel
theorem dX12_goPlan_34 : decode cX12_goPlan 34 = .ok (.aload_n 0, 1) := by decide +kernel
theorem dX12_goPlan_35 : decode cX12_goPlan 35 = .ok (.getfield 47, 3) := by decide +kernel
theorem dX12_goPlan_38 : decode cX12_goPlan 38 = .ok (.iload_n 1, 1) := by decide +kernel
theorem dX12_goPlan_39 : decode cX12_goPlan 39 = .ok (.iaload, 1) := by decide +kernel
theorem dX12_goPlan_40 : decode cX12_goPlan 40 = .ok (.aload_n 0, 1) := by decide +kernel
theorem dX12_goPlan_41 : decode cX12_goPlan 41 = .ok (.getfield 23, 3) := by decide +kernel
theorem dX12_goPlan_44 : decode cX12_goPlan 44 = .ok (.iload_n 1, 1) := by decide +kernel
theorem dX12_goPlan_45 : decode cX12_goPlan 45 = .ok (.iaload, 1) := by decide +kernel
theorem dX12_goPlan_46 : decode cX12_goPlan 46 = .ok (.invokevirtual 172, 3) := by decide +kernel
theorem dX12_goPlan_49 : decode cX12_goPlan 49 = .ok (.istore_n 2, 1) := by decide +kernel
theorem dX12_goPlan_50 : decode cX12_goPlan 50 = .ok (.aload_n 0, 1) := by decide +kernel
theorem dX12_goPlan_51 : decode cX12_goPlan 51 = .ok (.dup, 1) := by decide +kernel
theorem dX12_goPlan_52 : decode cX12_goPlan 52 = .ok (.getfield 163, 3) := by decide +kernel
theorem dX12_goPlan_55 : decode cX12_goPlan 55 = .ok (.iload_n 2, 1) := by decide +kernel
theorem dX12_goPlan_56 : decode cX12_goPlan 56 = .ok (.iadd, 1) := by decide +kernel
theorem dX12_goPlan_57 : decode cX12_goPlan 57 = .ok (.putfield 163, 3) := by decide +kernel
theorem dX12_goPlan_60 : decode cX12_goPlan 60 = .ok (.aload_n 0, 1) := by decide +kernel
theorem dX12_goPlan_61 : decode cX12_goPlan 61 = .ok (.aload_n 0, 1) := by decide +kernel
theorem dX12_goPlan_62 : decode cX12_goPlan 62 = .ok (.getfield 166, 3) := by decide +kernel
theorem dX12_goPlan_65 : decode cX12_goPlan 65 = .ok (.bipush (-9), 2) := by decide +kernel
theorem dX12_goPlan_67 : decode cX12_goPlan 67 = .ok (.if_icmp .ne 11, 3) := by decide +kernel
theorem dX12_goPlan_70 : decode cX12_goPlan 70 = .ok (.iload_n 2, 1) := by decide +kernel
theorem dX12_goPlan_71 : decode cX12_goPlan 71 = .ok (.ifCond .le 7, 3) := by decide +kernel
theorem dX12_goPlan_74 : decode cX12_goPlan 74 = .ok (.iload_n 1, 1) := by decide +kernel
theorem dX12_goPlan_75 : decode cX12_goPlan 75 = .ok (.goto 7, 3) := by decide +kernel
theorem dX12_goPlan_78 : decode cX12_goPlan 78 = .ok (.aload_n 0, 1) := by decide +kernel
theorem dX12_goPlan_79 : decode cX12_goPlan 79 = .ok (.getfield 166, 3) := by decide +kernel
theorem dX12_goPlan_82 : decode cX12_goPlan 82 = .ok (.putfield 166, 3) := by decide +kernel
theorem dX12_goPlan_85 : decode cX12_goPlan 85 = .ok (.aload_n 0, 1) := by decide +kernel
theorem dX12_goPlan_86 : decode cX12_goPlan 86 = .ok (.aload_n 0, 1) := by decide +kernel
theorem dX12_goPlan_87 : decode cX12_goPlan 87 = .ok (.getfield 47, 3) := by decide +kernel
theorem dX12_goPlan_90 : decode cX12_goPlan 90 = .ok (.iload_n 1, 1) := by decide +kernel
theorem dX12_goPlan_91 : decode cX12_goPlan 91 = .ok (.iaload, 1) := by decide +kernel
theorem dX12_goPlan_92 : decode cX12_goPlan 92 = .ok (.aload_n 0, 1) := by decide +kernel
theorem dX12_goPlan_93 : decode cX12_goPlan 93 = .ok (.getfield 23, 3) := by decide +kernel
theorem dX12_goPlan_96 : decode cX12_goPlan 96 = .ok (.iload_n 1, 1) := by decide +kernel
theorem dX12_goPlan_97 : decode cX12_goPlan 97 = .ok (.iaload, 1) := by decide +kernel
theorem dX12_goPlan_98 : decode cX12_goPlan 98 = .ok (.invokevirtual 176, 3) := by decide +kernel
theorem dX12_goPlan_101 : decode cX12_goPlan 101 = .ok (.aload_n 0, 1) := by decide +kernel
theorem dX12_goPlan_102 : decode cX12_goPlan 102 = .ok (.aload_n 0, 1) := by decide +kernel
theorem dX12_goPlan_103 : decode cX12_goPlan 103 = .ok (.getfield 169, 3) := by decide +kernel
theorem dX12_goPlan_106 : decode cX12_goPlan 106 = .ok (.bipush (-9), 2) := by decide +kernel
theorem dX12_goPlan_108 : decode cX12_goPlan 108 = .ok (.if_icmp .ne 18, 3) := by decide +kernel
theorem dX12_goPlan_111 : decode cX12_goPlan 111 = .ok (.aload_n 0, 1) := by decide +kernel
theorem dX12_goPlan_112 : decode cX12_goPlan 112 = .ok (.invokevirtual 180, 3) := by decide +kernel
theorem dX12_goPlan_115 : decode cX12_goPlan 115 = .ok (.aload_n 0, 1) := by decide +kernel
theorem dX12_goPlan_116 : decode cX12_goPlan 116 = .ok (.invokevirtual 153, 3) := by decide +kernel
theorem dX12_goPlan_119 : decode cX12_goPlan 119 = .ok (.if_icmp .ne 7, 3) := by decide +kernel
theorem dX12_goPlan_122 : decode cX12_goPlan 122 = .ok (.iload_n 1, 1) := by decide +kernel
theorem dX12_goPlan_123 : decode cX12_goPlan 123 = .ok (.goto 7, 3) := by decide +kernel
theorem dX12_goPlan_126 : decode cX12_goPlan 126 = .ok (.aload_n 0, 1) := by decide +kernel
theorem dX12_goPlan_127 : decode cX12_goPlan 127 = .ok (.getfield 169, 3) := by decide +kernel
theorem dX12_goPlan_130 : decode cX12_goPlan 130 = .ok (.putfield 169, 3) := by decide +kernel
theorem dX12_goPlan_133 : decode cX12_goPlan 133 = .ok (.iinc 1 1, 3) := by decide +kernel
theorem dX12_goPlan_136 : decode cX12_goPlan 136 = .ok (.goto (-111), 3) := by decide +kernel
theorem dX12_goPlan_139 : decode cX12_goPlan 139 = .ok (.return_, 1) := by decide +kernel
theorem dX12_plan_0 : decode cX12_plan 0 = .ok (.aload_n 0, 1) := by decide +kernel
theorem dX12_plan_1 : decode cX12_plan 1 = .ok (.iconst 0, 1) := by decide +kernel
theorem dX12_plan_2 : decode cX12_plan 2 = .ok (.putfield 65, 3) := by decide +kernel
theorem dX12_plan_5 : decode cX12_plan 5 = .ok (.iload_n 1, 1) := by decide +kernel
theorem dX12_plan_6 : decode cX12_plan 6 = .ok (.invokestatic 84, 3) := by decide +kernel
theorem dX12_plan_9 : decode cX12_plan 9 = .ok (.ifCond .ne 5, 3) := by decide +kernel
theorem dX12_plan_12 : decode cX12_plan 12 = .ok (.iconst (-1), 1) := by decide +kernel
theorem dX12_plan_13 : decode cX12_plan 13 = .ok (.ireturn, 1) := by decide +kernel
theorem dX12_plan_14 : decode cX12_plan 14 = .ok (.iload_n 2, 1) := by decide +kernel
theorem dX12_plan_15 : decode cX12_plan 15 = .ok (.iload 4, 2) := by decide +kernel
theorem dX12_plan_17 : decode cX12_plan 17 = .ok (.invokestatic 183, 3) := by decide +kernel
theorem dX12_plan_20 : decode cX12_plan 20 = .ok (.ifCond .eq 25, 3) := by decide +kernel
theorem dX12_plan_23 : decode cX12_plan 23 = .ok (.iload 5, 2) := by decide +kernel
theorem dX12_plan_25 : decode cX12_plan 25 = .ok (.iconst 0, 1) := by decide +kernel
theorem dX12_plan_26 : decode cX12_plan 26 = .ok (.iconst 3, 1) := by decide +kernel
theorem dX12_plan_27 : decode cX12_plan 27 = .ok (.invokestatic 71, 3) := by decide +kernel
theorem dX12_plan_30 : decode cX12_plan 30 = .ok (.ifCond .ne 18, 3) := by decide +kernel
theorem dX12_plan_33 : decode cX12_plan 33 = .ok (.iload 5, 2) := by decide +kernel
theorem dX12_plan_35 : decode cX12_plan 35 = .ok (.bipush 10, 2) := by decide +kernel
theorem dX12_plan_37 : decode cX12_plan 37 = .ok (.bipush 12, 2) := by decide +kernel
theorem dX12_plan_39 : decode cX12_plan 39 = .ok (.invokestatic 71, 3) := by decide +kernel
theorem dX12_plan_42 : decode cX12_plan 42 = .ok (.ifCond .ne 6, 3) := by decide +kernel
theorem dX12_plan_45 : decode cX12_plan 45 = .ok (.bipush (-2), 2) := by decide +kernel
theorem dX12_plan_47 : decode cX12_plan 47 = .ok (.ireturn, 1) := by decide +kernel
theorem dX12_plan_48 : decode cX12_plan 48 = .ok (.aload_n 0, 1) := by decide +kernel
theorem dX12_plan_49 : decode cX12_plan 49 = .ok (.iload_n 1, 1) := by decide +kernel
theorem dX12_plan_50 : decode cX12_plan 50 = .ok (.iload_n 2, 1) := by decide +kernel
theorem dX12_plan_51 : decode cX12_plan 51 = .ok (.iload_n 3, 1) := by decide +kernel
theorem dX12_plan_52 : decode cX12_plan 52 = .ok (.iload 4, 2) := by decide +kernel
theorem dX12_plan_54 : decode cX12_plan 54 = .ok (.invokevirtual 186, 3) := by decide +kernel
theorem dX12_plan_57 : decode cX12_plan 57 = .ok (.istore 6, 2) := by decide +kernel
theorem dX12_plan_59 : decode cX12_plan 59 = .ok (.iload 6, 2) := by decide +kernel
theorem dX12_plan_61 : decode cX12_plan 61 = .ok (.ifCond .eq 6, 3) := by decide +kernel
theorem dX12_plan_64 : decode cX12_plan 64 = .ok (.iload 6, 2) := by decide +kernel
theorem dX12_plan_66 : decode cX12_plan 66 = .ok (.ireturn, 1) := by decide +kernel
theorem dX12_plan_67 : decode cX12_plan 67 = .ok (.aload_n 0, 1) := by decide +kernel
theorem dX12_plan_68 : decode cX12_plan 68 = .ok (.invokevirtual 189, 3) := by decide +kernel
theorem dX12_plan_71 : decode cX12_plan 71 = .ok (.iload 5, 2) := by decide +kernel
theorem dX12_plan_73 : decode cX12_plan 73 = .ok (.tableswitch 51 0 3 #[31, 36, 41, 46], 31) := by decide +kernel
theorem dX12_plan_104 : decode cX12_plan 104 = .ok (.aload_n 0, 1) := by decide +kernel
theorem dX12_plan_105 : decode cX12_plan 105 = .ok (.invokevirtual 180, 3) := by decide +kernel
theorem dX12_plan_108 : decode cX12_plan 108 = .ok (.ireturn, 1) := by decide +kernel
theorem dX12_plan_109 : decode cX12_plan 109 = .ok (.aload_n 0, 1) := by decide +kernel
theorem dX12_plan_110 : decode cX12_plan 110 = .ok (.getfield 163, 3) := by decide +kernel
theorem dX12_plan_113 : decode cX12_plan 113 = .ok (.ireturn, 1) := by decide +kernel
theorem dX12_plan_114 : decode cX12_plan 114 = .ok (.aload_n 0, 1) := by decide +kernel
theorem dX12_plan_115 : decode cX12_plan 115 = .ok (.getfield 166, 3) := by decide +kernel
theorem dX12_plan_118 : decode cX12_plan 118 = .ok (.ireturn, 1) := by decide +kernel
theorem dX12_plan_119 : decode cX12_plan 119 = .ok (.aload_n 0, 1) := by decide +kernel
theorem dX12_plan_120 : decode cX12_plan 120 = .ok (.getfield 169, 3) := by decide +kernel
theorem dX12_plan_123 : decode cX12_plan 123 = .ok (.ireturn, 1) := by decide +kernel
theorem dX12_plan_124 : decode cX12_plan 124 = .ok (.aload_n 0, 1) := by decide +kernel
theorem dX12_plan_125 : decode cX12_plan 125 = .ok (.iload 5, 2) := by decide +kernel
theorem dX12_plan_127 : decode cX12_plan 127 = .ok (.bipush 10, 2) := by decide +kernel
theorem dX12_plan_129 : decode cX12_plan 129 = .ok (.isub, 1) := by decide +kernel
theorem dX12_plan_130 : decode cX12_plan 130 = .ok (.invokevirtual 134, 3) := by decide +kernel
theorem dX12_plan_133 : decode cX12_plan 133 = .ok (.ifCond .eq 16, 3) := by decide +kernel
theorem dX12_plan_136 : decode cX12_plan 136 = .ok (.aload_n 0, 1) := by decide +kernel
theorem dX12_plan_137 : decode cX12_plan 137 = .ok (.getfield 44, 3) := by decide +kernel
theorem dX12_plan_140 : decode cX12_plan 140 = .ok (.iload 5, 2) := by decide +kernel
theorem dX12_plan_142 : decode cX12_plan 142 = .ok (.bipush 10, 2) := by decide +kernel
theorem dX12_plan_144 : decode cX12_plan 144 = .ok (.isub, 1) := by decide +kernel
theorem dX12_plan_145 : decode cX12_plan 145 = .ok (.iaload, 1) := by decide +kernel
theorem dX12_plan_146 : decode cX12_plan 146 = .ok (.goto 5, 3) := by decide +kernel
theorem dX12_plan_149 : decode cX12_plan 149 = .ok (.bipush (-9), 2) := by decide +kernel
theorem dX12_plan_151 : decode cX12_plan 151 = .ok (.ireturn, 1) := by decide +kernel
theorem dX12_isThere_0 : decode cX12_isThere 0 = .ok (.iconst 0, 1) := by decide +kernel
theorem dX12_isThere_1 : decode cX12_isThere 1 = .ok (.istore_n 2, 1) := by decide +kernel
theorem dX12_isThere_2 : decode cX12_isThere 2 = .ok (.iload_n 2, 1) := by decide +kernel
theorem dX12_isThere_3 : decode cX12_isThere 3 = .ok (.bipush 125, 2) := by decide +kernel
theorem dX12_isThere_5 : decode cX12_isThere 5 = .ok (.if_icmp .ge 35, 3) := by decide +kernel
theorem dX12_isThere_8 : decode cX12_isThere 8 = .ok (.aload_n 0, 1) := by decide +kernel
theorem dX12_isThere_9 : decode cX12_isThere 9 = .ok (.getfield 50, 3) := by decide +kernel
theorem dX12_isThere_12 : decode cX12_isThere 12 = .ok (.iload_n 2, 1) := by decide +kernel
theorem dX12_isThere_13 : decode cX12_isThere 13 = .ok (.baload, 1) := by decide +kernel
theorem dX12_isThere_14 : decode cX12_isThere 14 = .ok (.ifCond .eq 20, 3) := by decide +kernel
theorem dX12_isThere_17 : decode cX12_isThere 17 = .ok (.aload_n 0, 1) := by decide +kernel
theorem dX12_isThere_18 : decode cX12_isThere 18 = .ok (.iload_n 2, 1) := by decide +kernel
theorem dX12_isThere_19 : decode cX12_isThere 19 = .ok (.invokevirtual 192, 3) := by decide +kernel
theorem dX12_isThere_22 : decode cX12_isThere 22 = .ok (.aload_n 0, 1) := by decide +kernel
theorem dX12_isThere_23 : decode cX12_isThere 23 = .ok (.invokevirtual 180, 3) := by decide +kernel
theorem dX12_isThere_26 : decode cX12_isThere 26 = .ok (.iload_n 1, 1) := by decide +kernel
theorem dX12_isThere_27 : decode cX12_isThere 27 = .ok (.iand, 1) := by decide +kernel
theorem dX12_isThere_28 : decode cX12_isThere 28 = .ok (.iload_n 1, 1) := by decide +kernel
theorem dX12_isThere_29 : decode cX12_isThere 29 = .ok (.if_icmp .ne 5, 3) := by decide +kernel
theorem dX12_isThere_32 : decode cX12_isThere 32 = .ok (.iconst 1, 1) := by decide +kernel
theorem dX12_isThere_33 : decode cX12_isThere 33 = .ok (.ireturn, 1) := by decide +kernel
theorem dX12_isThere_34 : decode cX12_isThere 34 = .ok (.iinc 2 1, 3) := by decide +kernel
theorem dX12_isThere_37 : decode cX12_isThere 37 = .ok (.goto (-35), 3) := by decide +kernel
theorem dX12_isThere_40 : decode cX12_isThere 40 = .ok (.iconst 0, 1) := by decide +kernel
theorem dX12_isThere_41 : decode cX12_isThere 41 = .ok (.ireturn, 1) := by decide +kernel
theorem dX12_goAll_0 : decode cX12_goAll 0 = .ok (.iconst 0, 1) := by decide +kernel
theorem dX12_goAll_1 : decode cX12_goAll 1 = .ok (.istore_n 2, 1) := by decide +kernel
theorem dX12_goAll_2 : decode cX12_goAll 2 = .ok (.iload_n 2, 1) := by decide +kernel
theorem dX12_goAll_3 : decode cX12_goAll 3 = .ok (.bipush 125, 2) := by decide +kernel
theorem dX12_goAll_5 : decode cX12_goAll 5 = .ok (.if_icmp .ge 16, 3) := by decide +kernel
theorem dX12_goAll_8 : decode cX12_goAll 8 = .ok (.aload_n 0, 1) := by decide +kernel
theorem dX12_goAll_9 : decode cX12_goAll 9 = .ok (.getfield 53, 3) := by decide +kernel
theorem dX12_goAll_12 : decode cX12_goAll 12 = .ok (.iload_n 2, 1) := by decide +kernel
theorem dX12_goAll_13 : decode cX12_goAll 13 = .ok (.iconst 0, 1) := by decide +kernel
theorem dX12_goAll_14 : decode cX12_goAll 14 = .ok (.bastore, 1) := by decide +kernel
theorem dX12_goAll_15 : decode cX12_goAll 15 = .ok (.iinc 2 1, 3) := by decide +kernel
theorem dX12_goAll_18 : decode cX12_goAll 18 = .ok (.goto (-16), 3) := by decide +kernel
theorem dX12_goAll_21 : decode cX12_goAll 21 = .ok (.iconst 0, 1) := by decide +kernel
theorem dX12_goAll_22 : decode cX12_goAll 22 = .ok (.istore_n 2, 1) := by decide +kernel
theorem dX12_goAll_23 : decode cX12_goAll 23 = .ok (.iload_n 2, 1) := by decide +kernel
theorem dX12_goAll_24 : decode cX12_goAll 24 = .ok (.bipush 125, 2) := by decide +kernel
theorem dX12_goAll_26 : decode cX12_goAll 26 = .ok (.if_icmp .ge 64, 3) := by decide +kernel
theorem dX12_goAll_29 : decode cX12_goAll 29 = .ok (.iconst 0, 1) := by decide +kernel
theorem dX12_goAll_30 : decode cX12_goAll 30 = .ok (.istore_n 3, 1) := by decide +kernel
theorem dX12_goAll_31 : decode cX12_goAll 31 = .ok (.iload_n 3, 1) := by decide +kernel
theorem dX12_goAll_32 : decode cX12_goAll 32 = .ok (.aload_n 0, 1) := by decide +kernel
theorem dX12_goAll_33 : decode cX12_goAll 33 = .ok (.invokevirtual 153, 3) := by decide +kernel
theorem dX12_goAll_36 : decode cX12_goAll 36 = .ok (.if_icmp .gt 48, 3) := by decide +kernel
theorem dX12_goAll_39 : decode cX12_goAll 39 = .ok (.aload_n 0, 1) := by decide +kernel
theorem dX12_goAll_40 : decode cX12_goAll 40 = .ok (.getfield 50, 3) := by decide +kernel
theorem dX12_goAll_43 : decode cX12_goAll 43 = .ok (.iload_n 2, 1) := by decide +kernel
theorem dX12_goAll_44 : decode cX12_goAll 44 = .ok (.baload, 1) := by decide +kernel
theorem dX12_goAll_45 : decode cX12_goAll 45 = .ok (.ifCond .eq 39, 3) := by decide +kernel
theorem dX12_goAll_48 : decode cX12_goAll 48 = .ok (.aload_n 0, 1) := by decide +kernel
theorem dX12_goAll_49 : decode cX12_goAll 49 = .ok (.iload_n 2, 1) := by decide +kernel
theorem dX12_goAll_50 : decode cX12_goAll 50 = .ok (.invokevirtual 192, 3) := by decide +kernel
theorem dX12_goAll_53 : decode cX12_goAll 53 = .ok (.aload_n 0, 1) := by decide +kernel
theorem dX12_goAll_54 : decode cX12_goAll 54 = .ok (.iload_n 3, 1) := by decide +kernel
theorem dX12_goAll_55 : decode cX12_goAll 55 = .ok (.iload_n 1, 1) := by decide +kernel
theorem dX12_goAll_56 : decode cX12_goAll 56 = .ok (.invokevirtual 172, 3) := by decide +kernel
theorem dX12_goAll_59 : decode cX12_goAll 59 = .ok (.ifCond .ne 19, 3) := by decide +kernel
theorem dX12_goAll_62 : decode cX12_goAll 62 = .ok (.aload_n 0, 1) := by decide +kernel
theorem dX12_goAll_63 : decode cX12_goAll 63 = .ok (.iload_n 3, 1) := by decide +kernel
theorem dX12_goAll_64 : decode cX12_goAll 64 = .ok (.iload_n 1, 1) := by decide +kernel
theorem dX12_goAll_65 : decode cX12_goAll 65 = .ok (.invokevirtual 176, 3) := by decide +kernel
theorem dX12_goAll_68 : decode cX12_goAll 68 = .ok (.aload_n 0, 1) := by decide +kernel
theorem dX12_goAll_69 : decode cX12_goAll 69 = .ok (.getfield 53, 3) := by decide +kernel
theorem dX12_goAll_72 : decode cX12_goAll 72 = .ok (.aload_n 0, 1) := by decide +kernel
theorem dX12_goAll_73 : decode cX12_goAll 73 = .ok (.invokevirtual 140, 3) := by decide +kernel
theorem dX12_goAll_76 : decode cX12_goAll 76 = .ok (.iconst 1, 1) := by decide +kernel
theorem dX12_goAll_77 : decode cX12_goAll 77 = .ok (.bastore, 1) := by decide +kernel
theorem dX12_goAll_78 : decode cX12_goAll 78 = .ok (.iinc 3 1, 3) := by decide +kernel
theorem dX12_goAll_81 : decode cX12_goAll 81 = .ok (.goto (-50), 3) := by decide +kernel
theorem dX12_goAll_84 : decode cX12_goAll 84 = .ok (.iinc 2 1, 3) := by decide +kernel
theorem dX12_goAll_87 : decode cX12_goAll 87 = .ok (.goto (-64), 3) := by decide +kernel
theorem dX12_goAll_90 : decode cX12_goAll 90 = .ok (.iconst 0, 1) := by decide +kernel
theorem dX12_goAll_91 : decode cX12_goAll 91 = .ok (.istore_n 2, 1) := by decide +kernel
theorem dX12_goAll_92 : decode cX12_goAll 92 = .ok (.iload_n 2, 1) := by decide +kernel
theorem dX12_goAll_93 : decode cX12_goAll 93 = .ok (.bipush 125, 2) := by decide +kernel
theorem dX12_goAll_95 : decode cX12_goAll 95 = .ok (.if_icmp .ge 21, 3) := by decide +kernel
theorem dX12_goAll_98 : decode cX12_goAll 98 = .ok (.aload_n 0, 1) := by decide +kernel
theorem dX12_goAll_99 : decode cX12_goAll 99 = .ok (.getfield 50, 3) := by decide +kernel
theorem dX12_goAll_102 : decode cX12_goAll 102 = .ok (.iload_n 2, 1) := by decide +kernel
theorem dX12_goAll_103 : decode cX12_goAll 103 = .ok (.aload_n 0, 1) := by decide +kernel
theorem dX12_goAll_104 : decode cX12_goAll 104 = .ok (.getfield 53, 3) := by decide +kernel
theorem dX12_goAll_107 : decode cX12_goAll 107 = .ok (.iload_n 2, 1) := by decide +kernel
theorem dX12_goAll_108 : decode cX12_goAll 108 = .ok (.baload, 1) := by decide +kernel
theorem dX12_goAll_109 : decode cX12_goAll 109 = .ok (.bastore, 1) := by decide +kernel
theorem dX12_goAll_110 : decode cX12_goAll 110 = .ok (.iinc 2 1, 3) := by decide +kernel
theorem dX12_goAll_113 : decode cX12_goAll 113 = .ok (.goto (-21), 3) := by decide +kernel
theorem dX12_goAll_116 : decode cX12_goAll 116 = .ok (.return_, 1) := by decide +kernel
theorem dX12_soonestOf_0 : decode cX12_soonestOf 0 = .ok (.aload_n 0, 1) := by decide +kernel
theorem dX12_soonestOf_1 : decode cX12_soonestOf 1 = .ok (.iconst 1, 1) := by decide +kernel
theorem dX12_soonestOf_2 : decode cX12_soonestOf 2 = .ok (.invokevirtual 159, 3) := by decide +kernel
theorem dX12_soonestOf_5 : decode cX12_soonestOf 5 = .ok (.istore_n 2, 1) := by decide +kernel
theorem dX12_soonestOf_6 : decode cX12_soonestOf 6 = .ok (.iconst 0, 1) := by decide +kernel
theorem dX12_soonestOf_7 : decode cX12_soonestOf 7 = .ok (.istore_n 3, 1) := by decide +kernel
theorem dX12_soonestOf_8 : decode cX12_soonestOf 8 = .ok (.iload_n 3, 1) := by decide +kernel
theorem dX12_soonestOf_9 : decode cX12_soonestOf 9 = .ok (.bipush 125, 2) := by decide +kernel
theorem dX12_soonestOf_11 : decode cX12_soonestOf 11 = .ok (.if_icmp .ge 25, 3) := by decide +kernel
theorem dX12_soonestOf_14 : decode cX12_soonestOf 14 = .ok (.aload_n 0, 1) := by decide +kernel
theorem dX12_soonestOf_15 : decode cX12_soonestOf 15 = .ok (.getfield 50, 3) := by decide +kernel
theorem dX12_soonestOf_18 : decode cX12_soonestOf 18 = .ok (.iload_n 3, 1) := by decide +kernel
theorem dX12_soonestOf_19 : decode cX12_soonestOf 19 = .ok (.iload_n 3, 1) := by decide +kernel
theorem dX12_soonestOf_20 : decode cX12_soonestOf 20 = .ok (.iload_n 2, 1) := by decide +kernel
theorem dX12_soonestOf_21 : decode cX12_soonestOf 21 = .ok (.if_icmp .ne 7, 3) := by decide +kernel
theorem dX12_soonestOf_24 : decode cX12_soonestOf 24 = .ok (.iconst 1, 1) := by decide +kernel
theorem dX12_soonestOf_25 : decode cX12_soonestOf 25 = .ok (.goto 4, 3) := by decide +kernel
theorem dX12_soonestOf_28 : decode cX12_soonestOf 28 = .ok (.iconst 0, 1) := by decide +kernel
theorem dX12_soonestOf_29 : decode cX12_soonestOf 29 = .ok (.bastore, 1) := by decide +kernel
theorem dX12_soonestOf_30 : decode cX12_soonestOf 30 = .ok (.iinc 3 1, 3) := by decide +kernel
theorem dX12_soonestOf_33 : decode cX12_soonestOf 33 = .ok (.goto (-25), 3) := by decide +kernel
theorem dX12_soonestOf_36 : decode cX12_soonestOf 36 = .ok (.iconst 0, 1) := by decide +kernel
theorem dX12_soonestOf_37 : decode cX12_soonestOf 37 = .ok (.istore_n 3, 1) := by decide +kernel
theorem dX12_soonestOf_38 : decode cX12_soonestOf 38 = .ok (.iload_n 3, 1) := by decide +kernel
theorem dX12_soonestOf_39 : decode cX12_soonestOf 39 = .ok (.aload_n 0, 1) := by decide +kernel
theorem dX12_soonestOf_40 : decode cX12_soonestOf 40 = .ok (.getfield 78, 3) := by decide +kernel
theorem dX12_soonestOf_43 : decode cX12_soonestOf 43 = .ok (.if_icmp .gt 37, 3) := by decide +kernel
theorem dX12_soonestOf_46 : decode cX12_soonestOf 46 = .ok (.aload_n 0, 1) := by decide +kernel
theorem dX12_soonestOf_47 : decode cX12_soonestOf 47 = .ok (.iload_n 1, 1) := by decide +kernel
theorem dX12_soonestOf_48 : decode cX12_soonestOf 48 = .ok (.invokevirtual 196, 3) := by decide +kernel
theorem dX12_soonestOf_51 : decode cX12_soonestOf 51 = .ok (.ifCond .eq 5, 3) := by decide +kernel
theorem dX12_soonestOf_54 : decode cX12_soonestOf 54 = .ok (.iload_n 3, 1) := by decide +kernel
theorem dX12_soonestOf_55 : decode cX12_soonestOf 55 = .ok (.ireturn, 1) := by decide +kernel
theorem dX12_soonestOf_56 : decode cX12_soonestOf 56 = .ok (.iload_n 3, 1) := by decide +kernel
theorem dX12_soonestOf_57 : decode cX12_soonestOf 57 = .ok (.aload_n 0, 1) := by decide +kernel
theorem dX12_soonestOf_58 : decode cX12_soonestOf 58 = .ok (.getfield 78, 3) := by decide +kernel
theorem dX12_soonestOf_61 : decode cX12_soonestOf 61 = .ok (.if_icmp .ge 13, 3) := by decide +kernel
theorem dX12_soonestOf_64 : decode cX12_soonestOf 64 = .ok (.aload_n 0, 1) := by decide +kernel
theorem dX12_soonestOf_65 : decode cX12_soonestOf 65 = .ok (.aload_n 0, 1) := by decide +kernel
theorem dX12_soonestOf_66 : decode cX12_soonestOf 66 = .ok (.getfield 23, 3) := by decide +kernel
theorem dX12_soonestOf_69 : decode cX12_soonestOf 69 = .ok (.iload_n 3, 1) := by decide +kernel
theorem dX12_soonestOf_70 : decode cX12_soonestOf 70 = .ok (.iaload, 1) := by decide +kernel
theorem dX12_soonestOf_71 : decode cX12_soonestOf 71 = .ok (.invokevirtual 199, 3) := by decide +kernel
theorem dX12_soonestOf_74 : decode cX12_soonestOf 74 = .ok (.iinc 3 1, 3) := by decide +kernel
theorem dX12_soonestOf_77 : decode cX12_soonestOf 77 = .ok (.goto (-39), 3) := by decide +kernel
theorem dX12_soonestOf_80 : decode cX12_soonestOf 80 = .ok (.bipush (-9), 2) := by decide +kernel
theorem dX12_soonestOf_82 : decode cX12_soonestOf 82 = .ok (.ireturn, 1) := by decide +kernel
theorem dX12_soonest_0 : decode cX12_soonest 0 = .ok (.aload_n 0, 1) := by decide +kernel
theorem dX12_soonest_1 : decode cX12_soonest 1 = .ok (.getfield 75, 3) := by decide +kernel
theorem dX12_soonest_4 : decode cX12_soonest 4 = .ok (.ifCond .ne 6, 3) := by decide +kernel
theorem dX12_soonest_7 : decode cX12_soonest 7 = .ok (.bipush (-3), 2) := by decide +kernel
theorem dX12_soonest_9 : decode cX12_soonest 9 = .ok (.ireturn, 1) := by decide +kernel
theorem dX12_soonest_10 : decode cX12_soonest 10 = .ok (.iload_n 1, 1) := by decide +kernel
theorem dX12_soonest_11 : decode cX12_soonest 11 = .ok (.iconst 0, 1) := by decide +kernel
theorem dX12_soonest_12 : decode cX12_soonest 12 = .ok (.aload_n 0, 1) := by decide +kernel
theorem dX12_soonest_13 : decode cX12_soonest 13 = .ok (.invokevirtual 153, 3) := by decide +kernel
theorem dX12_soonest_16 : decode cX12_soonest 16 = .ok (.invokestatic 71, 3) := by decide +kernel
theorem dX12_soonest_19 : decode cX12_soonest 19 = .ok (.ifCond .eq 11, 3) := by decide +kernel
theorem dX12_soonest_22 : decode cX12_soonest 22 = .ok (.aload_n 0, 1) := by decide +kernel
theorem dX12_soonest_23 : decode cX12_soonest 23 = .ok (.iload_n 1, 1) := by decide +kernel
theorem dX12_soonest_24 : decode cX12_soonest 24 = .ok (.invokevirtual 202, 3) := by decide +kernel
theorem dX12_soonest_27 : decode cX12_soonest 27 = .ok (.goto 5, 3) := by decide +kernel
theorem dX12_soonest_30 : decode cX12_soonest 30 = .ok (.bipush (-2), 2) := by decide +kernel
theorem dX12_soonest_32 : decode cX12_soonest 32 = .ok (.ireturn, 1) := by decide +kernel
theorem dX12_isInTime_0 : decode cX12_isInTime 0 = .ok (.aload_n 0, 1) := by decide +kernel
theorem dX12_isInTime_1 : decode cX12_isInTime 1 = .ok (.iload_n 1, 1) := by decide +kernel
theorem dX12_isInTime_2 : decode cX12_isInTime 2 = .ok (.invokevirtual 202, 3) := by decide +kernel
theorem dX12_isInTime_5 : decode cX12_isInTime 5 = .ok (.istore_n 3, 1) := by decide +kernel
theorem dX12_isInTime_6 : decode cX12_isInTime 6 = .ok (.iload_n 3, 1) := by decide +kernel
theorem dX12_isInTime_7 : decode cX12_isInTime 7 = .ok (.bipush (-9), 2) := by decide +kernel
theorem dX12_isInTime_9 : decode cX12_isInTime 9 = .ok (.if_icmp .eq 12, 3) := by decide +kernel
theorem dX12_isInTime_12 : decode cX12_isInTime 12 = .ok (.iload_n 3, 1) := by decide +kernel
theorem dX12_isInTime_13 : decode cX12_isInTime 13 = .ok (.iload_n 2, 1) := by decide +kernel
theorem dX12_isInTime_14 : decode cX12_isInTime 14 = .ok (.if_icmp .gt 7, 3) := by decide +kernel
theorem dX12_isInTime_17 : decode cX12_isInTime 17 = .ok (.iconst 1, 1) := by decide +kernel
theorem dX12_isInTime_18 : decode cX12_isInTime 18 = .ok (.goto 4, 3) := by decide +kernel
theorem dX12_isInTime_21 : decode cX12_isInTime 21 = .ok (.iconst 0, 1) := by decide +kernel
theorem dX12_isInTime_22 : decode cX12_isInTime 22 = .ok (.ireturn, 1) := by decide +kernel
theorem dX12_isByTwo_0 : decode cX12_isByTwo 0 = .ok (.aload_n 0, 1) := by decide +kernel
theorem dX12_isByTwo_1 : decode cX12_isByTwo 1 = .ok (.getfield 23, 3) := by decide +kernel
theorem dX12_isByTwo_4 : decode cX12_isByTwo 4 = .ok (.iload_n 1, 1) := by decide +kernel
theorem dX12_isByTwo_5 : decode cX12_isByTwo 5 = .ok (.iaload, 1) := by decide +kernel
theorem dX12_isByTwo_6 : decode cX12_isByTwo 6 = .ok (.istore 5, 2) := by decide +kernel
theorem dX12_isByTwo_8 : decode cX12_isByTwo 8 = .ok (.aload_n 0, 1) := by decide +kernel
theorem dX12_isByTwo_9 : decode cX12_isByTwo 9 = .ok (.getfield 23, 3) := by decide +kernel
theorem dX12_isByTwo_12 : decode cX12_isByTwo 12 = .ok (.iload_n 2, 1) := by decide +kernel
theorem dX12_isByTwo_13 : decode cX12_isByTwo 13 = .ok (.iaload, 1) := by decide +kernel
theorem dX12_isByTwo_14 : decode cX12_isByTwo 14 = .ok (.istore 6, 2) := by decide +kernel
theorem dX12_isByTwo_16 : decode cX12_isByTwo 16 = .ok (.iconst 0, 1) := by decide +kernel
theorem dX12_isByTwo_17 : decode cX12_isByTwo 17 = .ok (.istore 7, 2) := by decide +kernel
theorem dX12_isByTwo_19 : decode cX12_isByTwo 19 = .ok (.iconst 0, 1) := by decide +kernel
theorem dX12_isByTwo_20 : decode cX12_isByTwo 20 = .ok (.istore 8, 2) := by decide +kernel
theorem dX12_isByTwo_22 : decode cX12_isByTwo 22 = .ok (.iload 8, 2) := by decide +kernel
theorem dX12_isByTwo_24 : decode cX12_isByTwo 24 = .ok (.bipush 9, 2) := by decide +kernel
theorem dX12_isByTwo_26 : decode cX12_isByTwo 26 = .ok (.if_icmp .ge 43, 3) := by decide +kernel
theorem dX12_isByTwo_29 : decode cX12_isByTwo 29 = .ok (.iload 7, 2) := by decide +kernel
theorem dX12_isByTwo_31 : decode cX12_isByTwo 31 = .ok (.ifCond .ne 38, 3) := by decide +kernel
theorem dX12_isByTwo_34 : decode cX12_isByTwo 34 = .ok (.aload_n 0, 1) := by decide +kernel
theorem dX12_isByTwo_35 : decode cX12_isByTwo 35 = .ok (.getfield 23, 3) := by decide +kernel
theorem dX12_isByTwo_38 : decode cX12_isByTwo 38 = .ok (.iload_n 1, 1) := by decide +kernel
theorem dX12_isByTwo_39 : decode cX12_isByTwo 39 = .ok (.iload 8, 2) := by decide +kernel
theorem dX12_isByTwo_41 : decode cX12_isByTwo 41 = .ok (.iconst 3, 1) := by decide +kernel
theorem dX12_isByTwo_42 : decode cX12_isByTwo 42 = .ok (.idiv, 1) := by decide +kernel
theorem dX12_isByTwo_43 : decode cX12_isByTwo 43 = .ok (.iastore, 1) := by decide +kernel
theorem dX12_isByTwo_44 : decode cX12_isByTwo 44 = .ok (.aload_n 0, 1) := by decide +kernel
theorem dX12_isByTwo_45 : decode cX12_isByTwo 45 = .ok (.getfield 23, 3) := by decide +kernel
theorem dX12_isByTwo_48 : decode cX12_isByTwo 48 = .ok (.iload_n 2, 1) := by decide +kernel
theorem dX12_isByTwo_49 : decode cX12_isByTwo 49 = .ok (.iload 8, 2) := by decide +kernel
theorem dX12_isByTwo_51 : decode cX12_isByTwo 51 = .ok (.iconst 3, 1) := by decide +kernel
theorem dX12_isByTwo_52 : decode cX12_isByTwo 52 = .ok (.irem, 1) := by decide +kernel
theorem dX12_isByTwo_53 : decode cX12_isByTwo 53 = .ok (.iastore, 1) := by decide +kernel
theorem dX12_isByTwo_54 : decode cX12_isByTwo 54 = .ok (.aload_n 0, 1) := by decide +kernel
theorem dX12_isByTwo_55 : decode cX12_isByTwo 55 = .ok (.iload_n 3, 1) := by decide +kernel
theorem dX12_isByTwo_56 : decode cX12_isByTwo 56 = .ok (.iload 4, 2) := by decide +kernel
theorem dX12_isByTwo_58 : decode cX12_isByTwo 58 = .ok (.invokevirtual 205, 3) := by decide +kernel
theorem dX12_isByTwo_61 : decode cX12_isByTwo 61 = .ok (.istore 7, 2) := by decide +kernel
theorem dX12_isByTwo_63 : decode cX12_isByTwo 63 = .ok (.iinc 8 1, 3) := by decide +kernel
theorem dX12_isByTwo_66 : decode cX12_isByTwo 66 = .ok (.goto (-44), 3) := by decide +kernel
theorem dX12_isByTwo_69 : decode cX12_isByTwo 69 = .ok (.aload_n 0, 1) := by decide +kernel
theorem dX12_isByTwo_70 : decode cX12_isByTwo 70 = .ok (.getfield 23, 3) := by decide +kernel
theorem dX12_isByTwo_73 : decode cX12_isByTwo 73 = .ok (.iload_n 1, 1) := by decide +kernel
theorem dX12_isByTwo_74 : decode cX12_isByTwo 74 = .ok (.iload 5, 2) := by decide +kernel
theorem dX12_isByTwo_76 : decode cX12_isByTwo 76 = .ok (.iastore, 1) := by decide +kernel
theorem dX12_isByTwo_77 : decode cX12_isByTwo 77 = .ok (.aload_n 0, 1) := by decide +kernel
theorem dX12_isByTwo_78 : decode cX12_isByTwo 78 = .ok (.getfield 23, 3) := by decide +kernel
theorem dX12_isByTwo_81 : decode cX12_isByTwo 81 = .ok (.iload_n 2, 1) := by decide +kernel
theorem dX12_isByTwo_82 : decode cX12_isByTwo 82 = .ok (.iload 6, 2) := by decide +kernel
theorem dX12_isByTwo_84 : decode cX12_isByTwo 84 = .ok (.iastore, 1) := by decide +kernel
theorem dX12_isByTwo_85 : decode cX12_isByTwo 85 = .ok (.iload 7, 2) := by decide +kernel
theorem dX12_isByTwo_87 : decode cX12_isByTwo 87 = .ok (.ireturn, 1) := by decide +kernel
theorem dX12_isByOne_0 : decode cX12_isByOne 0 = .ok (.aload_n 0, 1) := by decide +kernel
theorem dX12_isByOne_1 : decode cX12_isByOne 1 = .ok (.getfield 23, 3) := by decide +kernel
theorem dX12_isByOne_4 : decode cX12_isByOne 4 = .ok (.iload_n 1, 1) := by decide +kernel
theorem dX12_isByOne_5 : decode cX12_isByOne 5 = .ok (.iaload, 1) := by decide +kernel
theorem dX12_isByOne_6 : decode cX12_isByOne 6 = .ok (.istore 4, 2) := by decide +kernel
theorem dX12_isByOne_8 : decode cX12_isByOne 8 = .ok (.iconst 0, 1) := by decide +kernel
theorem dX12_isByOne_9 : decode cX12_isByOne 9 = .ok (.istore 5, 2) := by decide +kernel
theorem dX12_isByOne_11 : decode cX12_isByOne 11 = .ok (.iconst 0, 1) := by decide +kernel
theorem dX12_isByOne_12 : decode cX12_isByOne 12 = .ok (.istore 6, 2) := by decide +kernel
theorem dX12_isByOne_14 : decode cX12_isByOne 14 = .ok (.iload 6, 2) := by decide +kernel
theorem dX12_isByOne_16 : decode cX12_isByOne 16 = .ok (.iconst 3, 1) := by decide +kernel
theorem dX12_isByOne_17 : decode cX12_isByOne 17 = .ok (.if_icmp .ge 30, 3) := by decide +kernel
theorem dX12_isByOne_20 : decode cX12_isByOne 20 = .ok (.iload 5, 2) := by decide +kernel
theorem dX12_isByOne_22 : decode cX12_isByOne 22 = .ok (.ifCond .ne 25, 3) := by decide +kernel
theorem dX12_isByOne_25 : decode cX12_isByOne 25 = .ok (.aload_n 0, 1) := by decide +kernel
theorem dX12_isByOne_26 : decode cX12_isByOne 26 = .ok (.getfield 23, 3) := by decide +kernel
theorem dX12_isByOne_29 : decode cX12_isByOne 29 = .ok (.iload_n 1, 1) := by decide +kernel
theorem dX12_isByOne_30 : decode cX12_isByOne 30 = .ok (.iload 6, 2) := by decide +kernel
theorem dX12_isByOne_32 : decode cX12_isByOne 32 = .ok (.iastore, 1) := by decide +kernel
theorem dX12_isByOne_33 : decode cX12_isByOne 33 = .ok (.aload_n 0, 1) := by decide +kernel
theorem dX12_isByOne_34 : decode cX12_isByOne 34 = .ok (.iload_n 2, 1) := by decide +kernel
theorem dX12_isByOne_35 : decode cX12_isByOne 35 = .ok (.iload_n 3, 1) := by decide +kernel
theorem dX12_isByOne_36 : decode cX12_isByOne 36 = .ok (.invokevirtual 205, 3) := by decide +kernel
theorem dX12_isByOne_39 : decode cX12_isByOne 39 = .ok (.istore 5, 2) := by decide +kernel
theorem dX12_isByOne_41 : decode cX12_isByOne 41 = .ok (.iinc 6 1, 3) := by decide +kernel
theorem dX12_isByOne_44 : decode cX12_isByOne 44 = .ok (.goto (-30), 3) := by decide +kernel
theorem dX12_isByOne_47 : decode cX12_isByOne 47 = .ok (.aload_n 0, 1) := by decide +kernel
theorem dX12_isByOne_48 : decode cX12_isByOne 48 = .ok (.getfield 23, 3) := by decide +kernel
theorem dX12_isByOne_51 : decode cX12_isByOne 51 = .ok (.iload_n 1, 1) := by decide +kernel
theorem dX12_isByOne_52 : decode cX12_isByOne 52 = .ok (.iload 4, 2) := by decide +kernel
theorem dX12_isByOne_54 : decode cX12_isByOne 54 = .ok (.iastore, 1) := by decide +kernel
theorem dX12_isByOne_55 : decode cX12_isByOne 55 = .ok (.iload 5, 2) := by decide +kernel
theorem dX12_isByOne_57 : decode cX12_isByOne 57 = .ok (.ireturn, 1) := by decide +kernel
theorem dX12_hats_0 : decode cX12_hats 0 = .ok (.aload_n 0, 1) := by decide +kernel
theorem dX12_hats_1 : decode cX12_hats 1 = .ok (.getfield 75, 3) := by decide +kernel
theorem dX12_hats_4 : decode cX12_hats 4 = .ok (.ifCond .ne 6, 3) := by decide +kernel
theorem dX12_hats_7 : decode cX12_hats 7 = .ok (.bipush (-3), 2) := by decide +kernel
theorem dX12_hats_9 : decode cX12_hats 9 = .ok (.ireturn, 1) := by decide +kernel
theorem dX12_hats_10 : decode cX12_hats 10 = .ok (.iload_n 1, 1) := by decide +kernel
theorem dX12_hats_11 : decode cX12_hats 11 = .ok (.iconst 0, 1) := by decide +kernel
theorem dX12_hats_12 : decode cX12_hats 12 = .ok (.aload_n 0, 1) := by decide +kernel
theorem dX12_hats_13 : decode cX12_hats 13 = .ok (.invokevirtual 153, 3) := by decide +kernel
theorem dX12_hats_16 : decode cX12_hats 16 = .ok (.invokestatic 71, 3) := by decide +kernel
theorem dX12_hats_19 : decode cX12_hats 19 = .ok (.ifCond .eq 13, 3) := by decide +kernel
theorem dX12_hats_22 : decode cX12_hats 22 = .ok (.iload_n 2, 1) := by decide +kernel
theorem dX12_hats_23 : decode cX12_hats 23 = .ok (.iconst 0, 1) := by decide +kernel
theorem dX12_hats_24 : decode cX12_hats 24 = .ok (.bipush 10, 2) := by decide +kernel
theorem dX12_hats_26 : decode cX12_hats 26 = .ok (.invokestatic 71, 3) := by decide +kernel
theorem dX12_hats_29 : decode cX12_hats 29 = .ok (.ifCond .ne 6, 3) := by decide +kernel
theorem dX12_hats_32 : decode cX12_hats 32 = .ok (.bipush (-2), 2) := by decide +kernel
theorem dX12_hats_34 : decode cX12_hats 34 = .ok (.ireturn, 1) := by decide +kernel
theorem dX12_hats_35 : decode cX12_hats 35 = .ok (.aload_n 0, 1) := by decide +kernel
theorem dX12_hats_36 : decode cX12_hats 36 = .ok (.iload_n 1, 1) := by decide +kernel
theorem dX12_hats_37 : decode cX12_hats 37 = .ok (.iload_n 2, 1) := by decide +kernel
theorem dX12_hats_38 : decode cX12_hats 38 = .ok (.invokevirtual 205, 3) := by decide +kernel
theorem dX12_hats_41 : decode cX12_hats 41 = .ok (.ifCond .eq 5, 3) := by decide +kernel
theorem dX12_hats_44 : decode cX12_hats 44 = .ok (.iconst 0, 1) := by decide +kernel
theorem dX12_hats_45 : decode cX12_hats 45 = .ok (.ireturn, 1) := by decide +kernel
theorem dX12_hats_46 : decode cX12_hats 46 = .ok (.iconst 0, 1) := by decide +kernel
theorem dX12_hats_47 : decode cX12_hats 47 = .ok (.istore_n 3, 1) := by decide +kernel
theorem dX12_hats_48 : decode cX12_hats 48 = .ok (.iload_n 3, 1) := by decide +kernel
theorem dX12_hats_49 : decode cX12_hats 49 = .ok (.aload_n 0, 1) := by decide +kernel
theorem dX12_hats_50 : decode cX12_hats 50 = .ok (.getfield 78, 3) := by decide +kernel
theorem dX12_hats_53 : decode cX12_hats 53 = .ok (.if_icmp .ge 23, 3) := by decide +kernel
theorem dX12_hats_56 : decode cX12_hats 56 = .ok (.aload_n 0, 1) := by decide +kernel
theorem dX12_hats_57 : decode cX12_hats 57 = .ok (.iload_n 3, 1) := by decide +kernel
theorem dX12_hats_58 : decode cX12_hats 58 = .ok (.iload_n 1, 1) := by decide +kernel
theorem dX12_hats_59 : decode cX12_hats 59 = .ok (.iload_n 2, 1) := by decide +kernel
theorem dX12_hats_60 : decode cX12_hats 60 = .ok (.invokevirtual 208, 3) := by decide +kernel
theorem dX12_hats_63 : decode cX12_hats 63 = .ok (.ifCond .eq 7, 3) := by decide +kernel
theorem dX12_hats_66 : decode cX12_hats 66 = .ok (.iconst 1, 1) := by decide +kernel
theorem dX12_hats_67 : decode cX12_hats 67 = .ok (.iload_n 3, 1) := by decide +kernel
theorem dX12_hats_68 : decode cX12_hats 68 = .ok (.ishl, 1) := by decide +kernel
theorem dX12_hats_69 : decode cX12_hats 69 = .ok (.ireturn, 1) := by decide +kernel
theorem dX12_hats_70 : decode cX12_hats 70 = .ok (.iinc 3 1, 3) := by decide +kernel
theorem dX12_hats_73 : decode cX12_hats 73 = .ok (.goto (-25), 3) := by decide +kernel
theorem dX12_hats_76 : decode cX12_hats 76 = .ok (.bipush (-9), 2) := by decide +kernel
theorem dX12_hats_78 : decode cX12_hats 78 = .ok (.istore_n 3, 1) := by decide +kernel
theorem dX12_hats_79 : decode cX12_hats 79 = .ok (.iconst 0, 1) := by decide +kernel
theorem dX12_hats_80 : decode cX12_hats 80 = .ok (.istore 4, 2) := by decide +kernel
theorem dX12_hats_82 : decode cX12_hats 82 = .ok (.iload 4, 2) := by decide +kernel
theorem dX12_hats_84 : decode cX12_hats 84 = .ok (.aload_n 0, 1) := by decide +kernel
theorem dX12_hats_85 : decode cX12_hats 85 = .ok (.getfield 78, 3) := by decide +kernel
theorem dX12_hats_88 : decode cX12_hats 88 = .ok (.if_icmp .ge 69, 3) := by decide +kernel
theorem dX12_hats_91 : decode cX12_hats 91 = .ok (.iload 4, 2) := by decide +kernel
theorem dX12_hats_93 : decode cX12_hats 93 = .ok (.iconst 1, 1) := by decide +kernel
theorem dX12_hats_94 : decode cX12_hats 94 = .ok (.iadd, 1) := by decide +kernel
theorem dX12_hats_95 : decode cX12_hats 95 = .ok (.istore 5, 2) := by decide +kernel
theorem dX12_hats_97 : decode cX12_hats 97 = .ok (.iload 5, 2) := by decide +kernel
theorem dX12_hats_99 : decode cX12_hats 99 = .ok (.aload_n 0, 1) := by decide +kernel
theorem dX12_hats_100 : decode cX12_hats 100 = .ok (.getfield 78, 3) := by decide +kernel
theorem dX12_hats_103 : decode cX12_hats 103 = .ok (.if_icmp .ge 48, 3) := by decide +kernel
theorem dX12_hats_106 : decode cX12_hats 106 = .ok (.iconst 1, 1) := by decide +kernel
theorem dX12_hats_107 : decode cX12_hats 107 = .ok (.iload 4, 2) := by decide +kernel
theorem dX12_hats_109 : decode cX12_hats 109 = .ok (.ishl, 1) := by decide +kernel
theorem dX12_hats_110 : decode cX12_hats 110 = .ok (.iconst 1, 1) := by decide +kernel
theorem dX12_hats_111 : decode cX12_hats 111 = .ok (.iload 5, 2) := by decide +kernel
theorem dX12_hats_113 : decode cX12_hats 113 = .ok (.ishl, 1) := by decide +kernel
theorem dX12_hats_114 : decode cX12_hats 114 = .ok (.ior, 1) := by decide +kernel
theorem dX12_hats_115 : decode cX12_hats 115 = .ok (.istore 6, 2) := by decide +kernel
theorem dX12_hats_117 : decode cX12_hats 117 = .ok (.iload_n 3, 1) := by decide +kernel
theorem dX12_hats_118 : decode cX12_hats 118 = .ok (.bipush (-9), 2) := by decide +kernel
theorem dX12_hats_120 : decode cX12_hats 120 = .ok (.if_icmp .eq 9, 3) := by decide +kernel
theorem dX12_hats_123 : decode cX12_hats 123 = .ok (.iload 6, 2) := by decide +kernel
theorem dX12_hats_125 : decode cX12_hats 125 = .ok (.iload_n 3, 1) := by decide +kernel
theorem dX12_hats_126 : decode cX12_hats 126 = .ok (.if_icmp .ge 19, 3) := by decide +kernel
theorem dX12_hats_129 : decode cX12_hats 129 = .ok (.aload_n 0, 1) := by decide +kernel
theorem dX12_hats_130 : decode cX12_hats 130 = .ok (.iload 4, 2) := by decide +kernel
theorem dX12_hats_132 : decode cX12_hats 132 = .ok (.iload 5, 2) := by decide +kernel
theorem dX12_hats_134 : decode cX12_hats 134 = .ok (.iload_n 1, 1) := by decide +kernel
theorem dX12_hats_135 : decode cX12_hats 135 = .ok (.iload_n 2, 1) := by decide +kernel
theorem dX12_hats_136 : decode cX12_hats 136 = .ok (.invokevirtual 211, 3) := by decide +kernel
theorem dX12_hats_139 : decode cX12_hats 139 = .ok (.ifCond .eq 6, 3) := by decide +kernel
theorem dX12_hats_142 : decode cX12_hats 142 = .ok (.iload 6, 2) := by decide +kernel
theorem dX12_hats_144 : decode cX12_hats 144 = .ok (.istore_n 3, 1) := by decide +kernel
theorem dX12_hats_145 : decode cX12_hats 145 = .ok (.iinc 5 1, 3) := by decide +kernel
theorem dX12_hats_148 : decode cX12_hats 148 = .ok (.goto (-51), 3) := by decide +kernel
theorem dX12_hats_151 : decode cX12_hats 151 = .ok (.iinc 4 1, 3) := by decide +kernel
theorem dX12_hats_154 : decode cX12_hats 154 = .ok (.goto (-72), 3) := by decide +kernel
theorem dX12_hats_157 : decode cX12_hats 157 = .ok (.iload_n 3, 1) := by decide +kernel
theorem dX12_hats_158 : decode cX12_hats 158 = .ok (.ireturn, 1) := by decide +kernel
theorem dX12_rid_0 : decode cX12_rid 0 = .ok (.aload_n 0, 1) := by decide +kernel
theorem dX12_rid_1 : decode cX12_rid 1 = .ok (.iload_n 1, 1) := by decide +kernel
theorem dX12_rid_2 : decode cX12_rid 2 = .ok (.invokevirtual 134, 3) := by decide +kernel
theorem dX12_rid_5 : decode cX12_rid 5 = .ok (.ifCond .ne 5, 3) := by decide +kernel
theorem dX12_rid_8 : decode cX12_rid 8 = .ok (.iconst (-1), 1) := by decide +kernel
theorem dX12_rid_9 : decode cX12_rid 9 = .ok (.ireturn, 1) := by decide +kernel
theorem dX12_rid_10 : decode cX12_rid 10 = .ok (.aload_n 0, 1) := by decide +kernel
theorem dX12_rid_11 : decode cX12_rid 11 = .ok (.aload_n 0, 1) := by decide +kernel
theorem dX12_rid_12 : decode cX12_rid 12 = .ok (.invokevirtual 153, 3) := by decide +kernel
theorem dX12_rid_15 : decode cX12_rid 15 = .ok (.invokevirtual 202, 3) := by decide +kernel
theorem dX12_rid_18 : decode cX12_rid 18 = .ok (.istore_n 2, 1) := by decide +kernel
theorem dX12_rid_19 : decode cX12_rid 19 = .ok (.iload_n 2, 1) := by decide +kernel
theorem dX12_rid_20 : decode cX12_rid 20 = .ok (.bipush (-9), 2) := by decide +kernel
theorem dX12_rid_22 : decode cX12_rid 22 = .ok (.if_icmp .ne 8, 3) := by decide +kernel
theorem dX12_rid_25 : decode cX12_rid 25 = .ok (.bipush (-9), 2) := by decide +kernel
theorem dX12_rid_27 : decode cX12_rid 27 = .ok (.goto 19, 3) := by decide +kernel
theorem dX12_rid_30 : decode cX12_rid 30 = .ok (.iload_n 2, 1) := by decide +kernel
theorem dX12_rid_31 : decode cX12_rid 31 = .ok (.aload_n 0, 1) := by decide +kernel
theorem dX12_rid_32 : decode cX12_rid 32 = .ok (.aload_n 0, 1) := by decide +kernel
theorem dX12_rid_33 : decode cX12_rid 33 = .ok (.invokevirtual 153, 3) := by decide +kernel
theorem dX12_rid_36 : decode cX12_rid 36 = .ok (.iconst 1, 1) := by decide +kernel
theorem dX12_rid_37 : decode cX12_rid 37 = .ok (.iload_n 1, 1) := by decide +kernel
theorem dX12_rid_38 : decode cX12_rid 38 = .ok (.ishl, 1) := by decide +kernel
theorem dX12_rid_39 : decode cX12_rid 39 = .ok (.iconst (-1), 1) := by decide +kernel
theorem dX12_rid_40 : decode cX12_rid 40 = .ok (.ixor, 1) := by decide +kernel
theorem dX12_rid_41 : decode cX12_rid 41 = .ok (.iand, 1) := by decide +kernel
theorem dX12_rid_42 : decode cX12_rid 42 = .ok (.invokevirtual 202, 3) := by decide +kernel
theorem dX12_rid_45 : decode cX12_rid 45 = .ok (.isub, 1) := by decide +kernel
theorem dX12_rid_46 : decode cX12_rid 46 = .ok (.ireturn, 1) := by decide +kernel
theorem dX12_reading_0 : decode cX12_reading 0 = .ok (.aload_n 0, 1) := by decide +kernel
theorem dX12_reading_1 : decode cX12_reading 1 = .ok (.iload_n 1, 1) := by decide +kernel
theorem dX12_reading_2 : decode cX12_reading 2 = .ok (.invokevirtual 134, 3) := by decide +kernel
theorem dX12_reading_5 : decode cX12_reading 5 = .ok (.ifCond .ne 5, 3) := by decide +kernel
theorem dX12_reading_8 : decode cX12_reading 8 = .ok (.iconst (-1), 1) := by decide +kernel
theorem dX12_reading_9 : decode cX12_reading 9 = .ok (.ireturn, 1) := by decide +kernel
theorem dX12_reading_10 : decode cX12_reading 10 = .ok (.iload_n 2, 1) := by decide +kernel
theorem dX12_reading_11 : decode cX12_reading 11 = .ok (.iconst 0, 1) := by decide +kernel
theorem dX12_reading_12 : decode cX12_reading 12 = .ok (.bipush 9, 2) := by decide +kernel
theorem dX12_reading_14 : decode cX12_reading 14 = .ok (.invokestatic 71, 3) := by decide +kernel
theorem dX12_reading_17 : decode cX12_reading 17 = .ok (.ifCond .eq 15, 3) := by decide +kernel
theorem dX12_reading_20 : decode cX12_reading 20 = .ok (.iload_n 3, 1) := by decide +kernel
theorem dX12_reading_21 : decode cX12_reading 21 = .ok (.iconst 0, 1) := by decide +kernel
theorem dX12_reading_22 : decode cX12_reading 22 = .ok (.aload_n 0, 1) := by decide +kernel
theorem dX12_reading_23 : decode cX12_reading 23 = .ok (.getfield 108, 3) := by decide +kernel
theorem dX12_reading_26 : decode cX12_reading 26 = .ok (.invokestatic 71, 3) := by decide +kernel
theorem dX12_reading_29 : decode cX12_reading 29 = .ok (.ifCond .ne 6, 3) := by decide +kernel
theorem dX12_reading_32 : decode cX12_reading 32 = .ok (.bipush (-2), 2) := by decide +kernel
theorem dX12_reading_34 : decode cX12_reading 34 = .ok (.ireturn, 1) := by decide +kernel
theorem dX12_reading_35 : decode cX12_reading 35 = .ok (.aload_n 0, 1) := by decide +kernel
theorem dX12_reading_36 : decode cX12_reading 36 = .ok (.getfield 117, 3) := by decide +kernel
theorem dX12_reading_39 : decode cX12_reading 39 = .ok (.bipush 8, 2) := by decide +kernel
theorem dX12_reading_41 : decode cX12_reading 41 = .ok (.if_icmp .ne 6, 3) := by decide +kernel
theorem dX12_reading_44 : decode cX12_reading 44 = .ok (.bipush (-4), 2) := by decide +kernel
theorem dX12_reading_46 : decode cX12_reading 46 = .ok (.ireturn, 1) := by decide +kernel
theorem dX12_reading_47 : decode cX12_reading 47 = .ok (.aload_n 0, 1) := by decide +kernel
theorem dX12_reading_48 : decode cX12_reading 48 = .ok (.getfield 56, 3) := by decide +kernel
theorem dX12_reading_51 : decode cX12_reading 51 = .ok (.aload_n 0, 1) := by decide +kernel
theorem dX12_reading_52 : decode cX12_reading 52 = .ok (.getfield 117, 3) := by decide +kernel
theorem dX12_reading_55 : decode cX12_reading 55 = .ok (.iload_n 1, 1) := by decide +kernel
theorem dX12_reading_56 : decode cX12_reading 56 = .ok (.iastore, 1) := by decide +kernel
theorem dX12_reading_57 : decode cX12_reading 57 = .ok (.aload_n 0, 1) := by decide +kernel
theorem dX12_reading_58 : decode cX12_reading 58 = .ok (.getfield 59, 3) := by decide +kernel
theorem dX12_reading_61 : decode cX12_reading 61 = .ok (.aload_n 0, 1) := by decide +kernel
theorem dX12_reading_62 : decode cX12_reading 62 = .ok (.getfield 117, 3) := by decide +kernel
theorem dX12_reading_65 : decode cX12_reading 65 = .ok (.iload_n 2, 1) := by decide +kernel
theorem dX12_reading_66 : decode cX12_reading 66 = .ok (.iastore, 1) := by decide +kernel
theorem dX12_reading_67 : decode cX12_reading 67 = .ok (.aload_n 0, 1) := by decide +kernel
theorem dX12_reading_68 : decode cX12_reading 68 = .ok (.getfield 62, 3) := by decide +kernel
theorem dX12_reading_71 : decode cX12_reading 71 = .ok (.aload_n 0, 1) := by decide +kernel
theorem dX12_reading_72 : decode cX12_reading 72 = .ok (.getfield 117, 3) := by decide +kernel
theorem dX12_reading_75 : decode cX12_reading 75 = .ok (.iload_n 3, 1) := by decide +kernel
theorem dX12_reading_76 : decode cX12_reading 76 = .ok (.iastore, 1) := by decide +kernel
theorem dX12_reading_77 : decode cX12_reading 77 = .ok (.aload_n 0, 1) := by decide +kernel
theorem dX12_reading_78 : decode cX12_reading 78 = .ok (.dup, 1) := by decide +kernel
theorem dX12_reading_79 : decode cX12_reading 79 = .ok (.getfield 117, 3) := by decide +kernel
theorem dX12_reading_82 : decode cX12_reading 82 = .ok (.iconst 1, 1) := by decide +kernel
theorem dX12_reading_83 : decode cX12_reading 83 = .ok (.iadd, 1) := by decide +kernel
theorem dX12_reading_84 : decode cX12_reading 84 = .ok (.putfield 117, 3) := by decide +kernel
theorem dX12_reading_87 : decode cX12_reading 87 = .ok (.aload_n 0, 1) := by decide +kernel
theorem dX12_reading_88 : decode cX12_reading 88 = .ok (.getfield 117, 3) := by decide +kernel
theorem dX12_reading_91 : decode cX12_reading 91 = .ok (.iconst 1, 1) := by decide +kernel
theorem dX12_reading_92 : decode cX12_reading 92 = .ok (.isub, 1) := by decide +kernel
theorem dX12_reading_93 : decode cX12_reading 93 = .ok (.ireturn, 1) := by decide +kernel
theorem dX12_back_0 : decode cX12_back 0 = .ok (.iload_n 1, 1) := by decide +kernel
theorem dX12_back_1 : decode cX12_back 1 = .ok (.iconst 0, 1) := by decide +kernel
theorem dX12_back_2 : decode cX12_back 2 = .ok (.aload_n 0, 1) := by decide +kernel
theorem dX12_back_3 : decode cX12_back 3 = .ok (.getfield 117, 3) := by decide +kernel
theorem dX12_back_6 : decode cX12_back 6 = .ok (.invokestatic 71, 3) := by decide +kernel
theorem dX12_back_9 : decode cX12_back 9 = .ok (.ifCond .ne 6, 3) := by decide +kernel
theorem dX12_back_12 : decode cX12_back 12 = .ok (.bipush (-2), 2) := by decide +kernel
theorem dX12_back_14 : decode cX12_back 14 = .ok (.ireturn, 1) := by decide +kernel
theorem dX12_back_15 : decode cX12_back 15 = .ok (.aload_n 0, 1) := by decide +kernel
theorem dX12_back_16 : decode cX12_back 16 = .ok (.dup, 1) := by decide +kernel
theorem dX12_back_17 : decode cX12_back 17 = .ok (.getfield 117, 3) := by decide +kernel
theorem dX12_back_20 : decode cX12_back 20 = .ok (.iload_n 1, 1) := by decide +kernel
theorem dX12_back_21 : decode cX12_back 21 = .ok (.isub, 1) := by decide +kernel
theorem dX12_back_22 : decode cX12_back 22 = .ok (.putfield 117, 3) := by decide +kernel
theorem dX12_back_25 : decode cX12_back 25 = .ok (.aload_n 0, 1) := by decide +kernel
theorem dX12_back_26 : decode cX12_back 26 = .ok (.getfield 117, 3) := by decide +kernel
theorem dX12_back_29 : decode cX12_back 29 = .ok (.ireturn, 1) := by decide +kernel
theorem dX12_areSo_0 : decode cX12_areSo 0 = .ok (.iconst 0, 1) := by decide +kernel
theorem dX12_areSo_1 : decode cX12_areSo 1 = .ok (.istore_n 1, 1) := by decide +kernel
theorem dX12_areSo_2 : decode cX12_areSo 2 = .ok (.aload_n 0, 1) := by decide +kernel
theorem dX12_areSo_3 : decode cX12_areSo 3 = .ok (.iconst 0, 1) := by decide +kernel
theorem dX12_areSo_4 : decode cX12_areSo 4 = .ok (.invokevirtual 159, 3) := by decide +kernel
theorem dX12_areSo_7 : decode cX12_areSo 7 = .ok (.pop, 1) := by decide +kernel
theorem dX12_areSo_8 : decode cX12_areSo 8 = .ok (.iconst 0, 1) := by decide +kernel
theorem dX12_areSo_9 : decode cX12_areSo 9 = .ok (.istore_n 2, 1) := by decide +kernel
theorem dX12_areSo_10 : decode cX12_areSo 10 = .ok (.iload_n 2, 1) := by decide +kernel
theorem dX12_areSo_11 : decode cX12_areSo 11 = .ok (.aload_n 0, 1) := by decide +kernel
theorem dX12_areSo_12 : decode cX12_areSo 12 = .ok (.getfield 156, 3) := by decide +kernel
theorem dX12_areSo_15 : decode cX12_areSo 15 = .ok (.if_icmp .ge 76, 3) := by decide +kernel
theorem dX12_areSo_18 : decode cX12_areSo 18 = .ok (.aload_n 0, 1) := by decide +kernel
theorem dX12_areSo_19 : decode cX12_areSo 19 = .ok (.aload_n 0, 1) := by decide +kernel
theorem dX12_areSo_20 : decode cX12_areSo 20 = .ok (.getfield 47, 3) := by decide +kernel
theorem dX12_areSo_23 : decode cX12_areSo 23 = .ok (.iload_n 2, 1) := by decide +kernel
theorem dX12_areSo_24 : decode cX12_areSo 24 = .ok (.iaload, 1) := by decide +kernel
theorem dX12_areSo_25 : decode cX12_areSo 25 = .ok (.aload_n 0, 1) := by decide +kernel
theorem dX12_areSo_26 : decode cX12_areSo 26 = .ok (.getfield 23, 3) := by decide +kernel
theorem dX12_areSo_29 : decode cX12_areSo 29 = .ok (.iload_n 2, 1) := by decide +kernel
theorem dX12_areSo_30 : decode cX12_areSo 30 = .ok (.iaload, 1) := by decide +kernel
theorem dX12_areSo_31 : decode cX12_areSo 31 = .ok (.invokevirtual 176, 3) := by decide +kernel
theorem dX12_areSo_34 : decode cX12_areSo 34 = .ok (.iconst 0, 1) := by decide +kernel
theorem dX12_areSo_35 : decode cX12_areSo 35 = .ok (.istore_n 3, 1) := by decide +kernel
theorem dX12_areSo_36 : decode cX12_areSo 36 = .ok (.iload_n 3, 1) := by decide +kernel
theorem dX12_areSo_37 : decode cX12_areSo 37 = .ok (.aload_n 0, 1) := by decide +kernel
theorem dX12_areSo_38 : decode cX12_areSo 38 = .ok (.getfield 117, 3) := by decide +kernel
theorem dX12_areSo_41 : decode cX12_areSo 41 = .ok (.if_icmp .ge 44, 3) := by decide +kernel
theorem dX12_areSo_44 : decode cX12_areSo 44 = .ok (.aload_n 0, 1) := by decide +kernel
theorem dX12_areSo_45 : decode cX12_areSo 45 = .ok (.getfield 59, 3) := by decide +kernel
theorem dX12_areSo_48 : decode cX12_areSo 48 = .ok (.iload_n 3, 1) := by decide +kernel
theorem dX12_areSo_49 : decode cX12_areSo 49 = .ok (.iaload, 1) := by decide +kernel
theorem dX12_areSo_50 : decode cX12_areSo 50 = .ok (.iload_n 2, 1) := by decide +kernel
theorem dX12_areSo_51 : decode cX12_areSo 51 = .ok (.if_icmp .ne 28, 3) := by decide +kernel
theorem dX12_areSo_54 : decode cX12_areSo 54 = .ok (.iinc 1 1, 3) := by decide +kernel
theorem dX12_areSo_57 : decode cX12_areSo 57 = .ok (.aload_n 0, 1) := by decide +kernel
theorem dX12_areSo_58 : decode cX12_areSo 58 = .ok (.getfield 44, 3) := by decide +kernel
theorem dX12_areSo_61 : decode cX12_areSo 61 = .ok (.aload_n 0, 1) := by decide +kernel
theorem dX12_areSo_62 : decode cX12_areSo 62 = .ok (.getfield 56, 3) := by decide +kernel
theorem dX12_areSo_65 : decode cX12_areSo 65 = .ok (.iload_n 3, 1) := by decide +kernel
theorem dX12_areSo_66 : decode cX12_areSo 66 = .ok (.iaload, 1) := by decide +kernel
theorem dX12_areSo_67 : decode cX12_areSo 67 = .ok (.iaload, 1) := by decide +kernel
theorem dX12_areSo_68 : decode cX12_areSo 68 = .ok (.aload_n 0, 1) := by decide +kernel
theorem dX12_areSo_69 : decode cX12_areSo 69 = .ok (.getfield 62, 3) := by decide +kernel
theorem dX12_areSo_72 : decode cX12_areSo 72 = .ok (.iload_n 3, 1) := by decide +kernel
theorem dX12_areSo_73 : decode cX12_areSo 73 = .ok (.iaload, 1) := by decide +kernel
theorem dX12_areSo_74 : decode cX12_areSo 74 = .ok (.if_icmp .eq 5, 3) := by decide +kernel
theorem dX12_areSo_77 : decode cX12_areSo 77 = .ok (.iconst 0, 1) := by decide +kernel
theorem dX12_areSo_78 : decode cX12_areSo 78 = .ok (.ireturn, 1) := by decide +kernel
theorem dX12_areSo_79 : decode cX12_areSo 79 = .ok (.iinc 3 1, 3) := by decide +kernel
theorem dX12_areSo_82 : decode cX12_areSo 82 = .ok (.goto (-46), 3) := by decide +kernel
theorem dX12_areSo_85 : decode cX12_areSo 85 = .ok (.iinc 2 1, 3) := by decide +kernel
theorem dX12_areSo_88 : decode cX12_areSo 88 = .ok (.goto (-78), 3) := by decide +kernel
theorem dX12_areSo_91 : decode cX12_areSo 91 = .ok (.iload_n 1, 1) := by decide +kernel
theorem dX12_areSo_92 : decode cX12_areSo 92 = .ok (.aload_n 0, 1) := by decide +kernel
theorem dX12_areSo_93 : decode cX12_areSo 93 = .ok (.getfield 117, 3) := by decide +kernel
theorem dX12_areSo_96 : decode cX12_areSo 96 = .ok (.if_icmp .ne 7, 3) := by decide +kernel
theorem dX12_areSo_99 : decode cX12_areSo 99 = .ok (.iconst 1, 1) := by decide +kernel
theorem dX12_areSo_100 : decode cX12_areSo 100 = .ok (.goto 4, 3) := by decide +kernel
theorem dX12_areSo_103 : decode cX12_areSo 103 = .ok (.iconst 0, 1) := by decide +kernel
theorem dX12_areSo_104 : decode cX12_areSo 104 = .ok (.ireturn, 1) := by decide +kernel
theorem dX12_lay_0 : decode cX12_lay 0 = .ok (.aload_n 0, 1) := by decide +kernel
theorem dX12_lay_1 : decode cX12_lay 1 = .ok (.iconst 0, 1) := by decide +kernel
theorem dX12_lay_2 : decode cX12_lay 2 = .ok (.putfield 65, 3) := by decide +kernel
theorem dX12_lay_5 : decode cX12_lay 5 = .ok (.iload_n 1, 1) := by decide +kernel
theorem dX12_lay_6 : decode cX12_lay 6 = .ok (.ifCond .eq 5, 3) := by decide +kernel
theorem dX12_lay_9 : decode cX12_lay 9 = .ok (.iload_n 1, 1) := by decide +kernel
theorem dX12_lay_10 : decode cX12_lay 10 = .ok (.ireturn, 1) := by decide +kernel
