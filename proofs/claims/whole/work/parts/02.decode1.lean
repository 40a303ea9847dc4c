theorem dX0_init_0 : decode cX0_init 0 = .ok (.aload_n 0, 1) := by decide +kernel
theorem dX0_init_1 : decode cX0_init 1 = .ok (.invokespecial 1, 3) := by decide +kernel
theorem dX0_init_4 : decode cX0_init 4 = .ok (.return_, 1) := by decide +kernel
theorem dX0_highIn_0 : decode cX0_highIn 0 = .ok (.iload_n 2, 1) := by decide +kernel
theorem dX0_highIn_1 : decode cX0_highIn 1 = .ok (.bipush 20, 2) := by decide +kernel
theorem dX0_highIn_3 : decode cX0_highIn 3 = .ok (.if_icmp .ge 12, 3) := by decide +kernel
theorem dX0_highIn_6 : decode cX0_highIn 6 = .ok (.aload_n 0, 1) := by decide +kernel
theorem dX0_highIn_7 : decode cX0_highIn 7 = .ok (.iload_n 1, 1) := by decide +kernel
theorem dX0_highIn_8 : decode cX0_highIn 8 = .ok (.iload_n 2, 1) := by decide +kernel
theorem dX0_highIn_9 : decode cX0_highIn 9 = .ok (.invokespecial 7, 3) := by decide +kernel
theorem dX0_highIn_12 : decode cX0_highIn 12 = .ok (.goto 4, 3) := by decide +kernel
theorem dX0_highIn_15 : decode cX0_highIn 15 = .ok (.iconst 0, 1) := by decide +kernel
theorem dX0_highIn_16 : decode cX0_highIn 16 = .ok (.ireturn, 1) := by decide +kernel
theorem dX1_init_0 : decode cX1_init 0 = .ok (.aload_n 0, 1) := by decide +kernel
theorem dX1_init_1 : decode cX1_init 1 = .ok (.invokespecial 3, 3) := by decide +kernel
theorem dX1_init_4 : decode cX1_init 4 = .ok (.aload_n 0, 1) := by decide +kernel
theorem dX1_init_5 : decode cX1_init 5 = .ok (.new 9, 3) := by decide +kernel
theorem dX1_init_8 : decode cX1_init 8 = .ok (.dup, 1) := by decide +kernel
theorem dX1_init_9 : decode cX1_init 9 = .ok (.invokespecial 11, 3) := by decide +kernel
theorem dX1_init_12 : decode cX1_init 12 = .ok (.putfield 12, 3) := by decide +kernel
theorem dX1_init_15 : decode cX1_init 15 = .ok (.aload_n 0, 1) := by decide +kernel
theorem dX1_init_16 : decode cX1_init 16 = .ok (.bipush 6, 2) := by decide +kernel
theorem dX1_init_18 : decode cX1_init 18 = .ok (.newarray .int, 2) := by decide +kernel
theorem dX1_init_20 : decode cX1_init 20 = .ok (.putfield 18, 3) := by decide +kernel
theorem dX1_init_23 : decode cX1_init 23 = .ok (.return_, 1) := by decide +kernel
theorem dX1_cellOfDrive_0 : decode cX1_cellOfDrive 0 = .ok (.iconst 0, 1) := by decide +kernel
theorem dX1_cellOfDrive_1 : decode cX1_cellOfDrive 1 = .ok (.istore 4, 2) := by decide +kernel
theorem dX1_cellOfDrive_3 : decode cX1_cellOfDrive 3 = .ok (.iload_n 2, 1) := by decide +kernel
theorem dX1_cellOfDrive_4 : decode cX1_cellOfDrive 4 = .ok (.istore 5, 2) := by decide +kernel
theorem dX1_cellOfDrive_6 : decode cX1_cellOfDrive 6 = .ok (.iload 5, 2) := by decide +kernel
theorem dX1_cellOfDrive_8 : decode cX1_cellOfDrive 8 = .ok (.iload_n 3, 1) := by decide +kernel
theorem dX1_cellOfDrive_9 : decode cX1_cellOfDrive 9 = .ok (.if_icmp .ge 43, 3) := by decide +kernel
theorem dX1_cellOfDrive_12 : decode cX1_cellOfDrive 12 = .ok (.aload_n 0, 1) := by decide +kernel
theorem dX1_cellOfDrive_13 : decode cX1_cellOfDrive 13 = .ok (.getfield 12, 3) := by decide +kernel
theorem dX1_cellOfDrive_16 : decode cX1_cellOfDrive 16 = .ok (.aload_n 1, 1) := by decide +kernel
theorem dX1_cellOfDrive_17 : decode cX1_cellOfDrive 17 = .ok (.iload 5, 2) := by decide +kernel
theorem dX1_cellOfDrive_19 : decode cX1_cellOfDrive 19 = .ok (.invokevirtual 22, 3) := by decide +kernel
theorem dX1_cellOfDrive_22 : decode cX1_cellOfDrive 22 = .ok (.bipush 47, 2) := by decide +kernel
theorem dX1_cellOfDrive_24 : decode cX1_cellOfDrive 24 = .ok (.iload 4, 2) := by decide +kernel
theorem dX1_cellOfDrive_26 : decode cX1_cellOfDrive 26 = .ok (.aload_n 0, 1) := by decide +kernel
theorem dX1_cellOfDrive_27 : decode cX1_cellOfDrive 27 = .ok (.getfield 12, 3) := by decide +kernel
theorem dX1_cellOfDrive_30 : decode cX1_cellOfDrive 30 = .ok (.aload_n 1, 1) := by decide +kernel
theorem dX1_cellOfDrive_31 : decode cX1_cellOfDrive 31 = .ok (.aload_n 1, 1) := by decide +kernel
theorem dX1_cellOfDrive_32 : decode cX1_cellOfDrive 32 = .ok (.invokevirtual 26, 3) := by decide +kernel
theorem dX1_cellOfDrive_35 : decode cX1_cellOfDrive 35 = .ok (.iload 4, 2) := by decide +kernel
theorem dX1_cellOfDrive_37 : decode cX1_cellOfDrive 37 = .ok (.invokevirtual 32, 3) := by decide +kernel
theorem dX1_cellOfDrive_40 : decode cX1_cellOfDrive 40 = .ok (.iadd, 1) := by decide +kernel
theorem dX1_cellOfDrive_41 : decode cX1_cellOfDrive 41 = .ok (.invokestatic 36, 3) := by decide +kernel
theorem dX1_cellOfDrive_44 : decode cX1_cellOfDrive 44 = .ok (.istore 4, 2) := by decide +kernel
theorem dX1_cellOfDrive_46 : decode cX1_cellOfDrive 46 = .ok (.iinc 5 1, 3) := by decide +kernel
theorem dX1_cellOfDrive_49 : decode cX1_cellOfDrive 49 = .ok (.goto (-43), 3) := by decide +kernel
theorem dX1_cellOfDrive_52 : decode cX1_cellOfDrive 52 = .ok (.iload 4, 2) := by decide +kernel
theorem dX1_cellOfDrive_54 : decode cX1_cellOfDrive 54 = .ok (.ireturn, 1) := by decide +kernel
theorem dX1_endOfDrive_0 : decode cX1_endOfDrive 0 = .ok (.iconst 0, 1) := by decide +kernel
theorem dX1_endOfDrive_1 : decode cX1_endOfDrive 1 = .ok (.istore 4, 2) := by decide +kernel
theorem dX1_endOfDrive_3 : decode cX1_endOfDrive 3 = .ok (.iload_n 3, 1) := by decide +kernel
theorem dX1_endOfDrive_4 : decode cX1_endOfDrive 4 = .ok (.istore 5, 2) := by decide +kernel
theorem dX1_endOfDrive_6 : decode cX1_endOfDrive 6 = .ok (.iload 5, 2) := by decide +kernel
theorem dX1_endOfDrive_8 : decode cX1_endOfDrive 8 = .ok (.bipush 60, 2) := by decide +kernel
theorem dX1_endOfDrive_10 : decode cX1_endOfDrive 10 = .ok (.if_icmp .ge 47, 3) := by decide +kernel
theorem dX1_endOfDrive_13 : decode cX1_endOfDrive 13 = .ok (.aload_n 0, 1) := by decide +kernel
theorem dX1_endOfDrive_14 : decode cX1_endOfDrive 14 = .ok (.getfield 12, 3) := by decide +kernel
theorem dX1_endOfDrive_17 : decode cX1_endOfDrive 17 = .ok (.aload_n 1, 1) := by decide +kernel
theorem dX1_endOfDrive_18 : decode cX1_endOfDrive 18 = .ok (.iload 5, 2) := by decide +kernel
theorem dX1_endOfDrive_20 : decode cX1_endOfDrive 20 = .ok (.invokevirtual 22, 3) := by decide +kernel
theorem dX1_endOfDrive_23 : decode cX1_endOfDrive 23 = .ok (.iload 4, 2) := by decide +kernel
theorem dX1_endOfDrive_25 : decode cX1_endOfDrive 25 = .ok (.aload_n 0, 1) := by decide +kernel
theorem dX1_endOfDrive_26 : decode cX1_endOfDrive 26 = .ok (.getfield 12, 3) := by decide +kernel
theorem dX1_endOfDrive_29 : decode cX1_endOfDrive 29 = .ok (.aload_n 1, 1) := by decide +kernel
theorem dX1_endOfDrive_30 : decode cX1_endOfDrive 30 = .ok (.iload_n 2, 1) := by decide +kernel
theorem dX1_endOfDrive_31 : decode cX1_endOfDrive 31 = .ok (.iload 4, 2) := by decide +kernel
theorem dX1_endOfDrive_33 : decode cX1_endOfDrive 33 = .ok (.invokevirtual 32, 3) := by decide +kernel
theorem dX1_endOfDrive_36 : decode cX1_endOfDrive 36 = .ok (.iadd, 1) := by decide +kernel
theorem dX1_endOfDrive_37 : decode cX1_endOfDrive 37 = .ok (.istore 4, 2) := by decide +kernel
theorem dX1_endOfDrive_39 : decode cX1_endOfDrive 39 = .ok (.iload 4, 2) := by decide +kernel
theorem dX1_endOfDrive_41 : decode cX1_endOfDrive 41 = .ok (.bipush 47, 2) := by decide +kernel
theorem dX1_endOfDrive_43 : decode cX1_endOfDrive 43 = .ok (.if_icmp .lt 8, 3) := by decide +kernel
theorem dX1_endOfDrive_46 : decode cX1_endOfDrive 46 = .ok (.iload 5, 2) := by decide +kernel
theorem dX1_endOfDrive_48 : decode cX1_endOfDrive 48 = .ok (.iconst 1, 1) := by decide +kernel
theorem dX1_endOfDrive_49 : decode cX1_endOfDrive 49 = .ok (.iadd, 1) := by decide +kernel
theorem dX1_endOfDrive_50 : decode cX1_endOfDrive 50 = .ok (.ireturn, 1) := by decide +kernel
theorem dX1_endOfDrive_51 : decode cX1_endOfDrive 51 = .ok (.iinc 5 1, 3) := by decide +kernel
theorem dX1_endOfDrive_54 : decode cX1_endOfDrive 54 = .ok (.goto (-48), 3) := by decide +kernel
theorem dX1_endOfDrive_57 : decode cX1_endOfDrive 57 = .ok (.bipush 61, 2) := by decide +kernel
theorem dX1_endOfDrive_59 : decode cX1_endOfDrive 59 = .ok (.ireturn, 1) := by decide +kernel
theorem dX1_soonestEnd_0 : decode cX1_soonestEnd 0 = .ok (.iconst 0, 1) := by decide +kernel
theorem dX1_soonestEnd_1 : decode cX1_soonestEnd 1 = .ok (.istore 4, 2) := by decide +kernel
theorem dX1_soonestEnd_3 : decode cX1_soonestEnd 3 = .ok (.iload_n 3, 1) := by decide +kernel
theorem dX1_soonestEnd_4 : decode cX1_soonestEnd 4 = .ok (.istore 5, 2) := by decide +kernel
theorem dX1_soonestEnd_6 : decode cX1_soonestEnd 6 = .ok (.iload 5, 2) := by decide +kernel
theorem dX1_soonestEnd_8 : decode cX1_soonestEnd 8 = .ok (.bipush 60, 2) := by decide +kernel
theorem dX1_soonestEnd_10 : decode cX1_soonestEnd 10 = .ok (.if_icmp .ge 84, 3) := by decide +kernel
theorem dX1_soonestEnd_13 : decode cX1_soonestEnd 13 = .ok (.aload_n 0, 1) := by decide +kernel
theorem dX1_soonestEnd_14 : decode cX1_soonestEnd 14 = .ok (.getfield 12, 3) := by decide +kernel
theorem dX1_soonestEnd_17 : decode cX1_soonestEnd 17 = .ok (.aload_n 1, 1) := by decide +kernel
theorem dX1_soonestEnd_18 : decode cX1_soonestEnd 18 = .ok (.iload 5, 2) := by decide +kernel
theorem dX1_soonestEnd_20 : decode cX1_soonestEnd 20 = .ok (.invokevirtual 22, 3) := by decide +kernel
theorem dX1_soonestEnd_23 : decode cX1_soonestEnd 23 = .ok (.iload 4, 2) := by decide +kernel
theorem dX1_soonestEnd_25 : decode cX1_soonestEnd 25 = .ok (.istore 6, 2) := by decide +kernel
theorem dX1_soonestEnd_27 : decode cX1_soonestEnd 27 = .ok (.iconst 0, 1) := by decide +kernel
theorem dX1_soonestEnd_28 : decode cX1_soonestEnd 28 = .ok (.iload 4, 2) := by decide +kernel
theorem dX1_soonestEnd_30 : decode cX1_soonestEnd 30 = .ok (.bipush 9, 2) := by decide +kernel
theorem dX1_soonestEnd_32 : decode cX1_soonestEnd 32 = .ok (.isub, 1) := by decide +kernel
theorem dX1_soonestEnd_33 : decode cX1_soonestEnd 33 = .ok (.invokestatic 42, 3) := by decide +kernel
theorem dX1_soonestEnd_36 : decode cX1_soonestEnd 36 = .ok (.istore 7, 2) := by decide +kernel
theorem dX1_soonestEnd_38 : decode cX1_soonestEnd 38 = .ok (.iload 7, 2) := by decide +kernel
theorem dX1_soonestEnd_40 : decode cX1_soonestEnd 40 = .ok (.iload 4, 2) := by decide +kernel
theorem dX1_soonestEnd_42 : decode cX1_soonestEnd 42 = .ok (.if_icmp .gt 30, 3) := by decide +kernel
theorem dX1_soonestEnd_45 : decode cX1_soonestEnd 45 = .ok (.iload 6, 2) := by decide +kernel
theorem dX1_soonestEnd_47 : decode cX1_soonestEnd 47 = .ok (.iload 7, 2) := by decide +kernel
theorem dX1_soonestEnd_49 : decode cX1_soonestEnd 49 = .ok (.aload_n 0, 1) := by decide +kernel
theorem dX1_soonestEnd_50 : decode cX1_soonestEnd 50 = .ok (.getfield 12, 3) := by decide +kernel
theorem dX1_soonestEnd_53 : decode cX1_soonestEnd 53 = .ok (.aload_n 1, 1) := by decide +kernel
theorem dX1_soonestEnd_54 : decode cX1_soonestEnd 54 = .ok (.iload_n 2, 1) := by decide +kernel
theorem dX1_soonestEnd_55 : decode cX1_soonestEnd 55 = .ok (.iload 7, 2) := by decide +kernel
theorem dX1_soonestEnd_57 : decode cX1_soonestEnd 57 = .ok (.invokevirtual 32, 3) := by decide +kernel
theorem dX1_soonestEnd_60 : decode cX1_soonestEnd 60 = .ok (.iadd, 1) := by decide +kernel
theorem dX1_soonestEnd_61 : decode cX1_soonestEnd 61 = .ok (.invokestatic 42, 3) := by decide +kernel
theorem dX1_soonestEnd_64 : decode cX1_soonestEnd 64 = .ok (.istore 6, 2) := by decide +kernel
theorem dX1_soonestEnd_66 : decode cX1_soonestEnd 66 = .ok (.iinc 7 1, 3) := by decide +kernel
theorem dX1_soonestEnd_69 : decode cX1_soonestEnd 69 = .ok (.goto (-31), 3) := by decide +kernel
theorem dX1_soonestEnd_72 : decode cX1_soonestEnd 72 = .ok (.iload 6, 2) := by decide +kernel
theorem dX1_soonestEnd_74 : decode cX1_soonestEnd 74 = .ok (.bipush 47, 2) := by decide +kernel
theorem dX1_soonestEnd_76 : decode cX1_soonestEnd 76 = .ok (.if_icmp .lt 8, 3) := by decide +kernel
theorem dX1_soonestEnd_79 : decode cX1_soonestEnd 79 = .ok (.iload 5, 2) := by decide +kernel
theorem dX1_soonestEnd_81 : decode cX1_soonestEnd 81 = .ok (.iconst 1, 1) := by decide +kernel
theorem dX1_soonestEnd_82 : decode cX1_soonestEnd 82 = .ok (.iadd, 1) := by decide +kernel
theorem dX1_soonestEnd_83 : decode cX1_soonestEnd 83 = .ok (.ireturn, 1) := by decide +kernel
theorem dX1_soonestEnd_84 : decode cX1_soonestEnd 84 = .ok (.iload 6, 2) := by decide +kernel
theorem dX1_soonestEnd_86 : decode cX1_soonestEnd 86 = .ok (.istore 4, 2) := by decide +kernel
theorem dX1_soonestEnd_88 : decode cX1_soonestEnd 88 = .ok (.iinc 5 1, 3) := by decide +kernel
theorem dX1_soonestEnd_91 : decode cX1_soonestEnd 91 = .ok (.goto (-85), 3) := by decide +kernel
theorem dX1_soonestEnd_94 : decode cX1_soonestEnd 94 = .ok (.bipush 61, 2) := by decide +kernel
theorem dX1_soonestEnd_96 : decode cX1_soonestEnd 96 = .ok (.ireturn, 1) := by decide +kernel
theorem dX1_bestStart_0 : decode cX1_bestStart 0 = .ok (.iconst (-1), 1) := by decide +kernel
theorem dX1_bestStart_1 : decode cX1_bestStart 1 = .ok (.istore_n 3, 1) := by decide +kernel
theorem dX1_bestStart_2 : decode cX1_bestStart 2 = .ok (.bipush 60, 2) := by decide +kernel
theorem dX1_bestStart_4 : decode cX1_bestStart 4 = .ok (.istore 4, 2) := by decide +kernel
theorem dX1_bestStart_6 : decode cX1_bestStart 6 = .ok (.iload_n 2, 1) := by decide +kernel
theorem dX1_bestStart_7 : decode cX1_bestStart 7 = .ok (.istore 5, 2) := by decide +kernel
theorem dX1_bestStart_9 : decode cX1_bestStart 9 = .ok (.iload 5, 2) := by decide +kernel
theorem dX1_bestStart_11 : decode cX1_bestStart 11 = .ok (.bipush 60, 2) := by decide +kernel
theorem dX1_bestStart_13 : decode cX1_bestStart 13 = .ok (.if_icmp .ge 36, 3) := by decide +kernel
theorem dX1_bestStart_16 : decode cX1_bestStart 16 = .ok (.aload_n 0, 1) := by decide +kernel
theorem dX1_bestStart_17 : decode cX1_bestStart 17 = .ok (.aload_n 1, 1) := by decide +kernel
theorem dX1_bestStart_18 : decode cX1_bestStart 18 = .ok (.aload_n 1, 1) := by decide +kernel
theorem dX1_bestStart_19 : decode cX1_bestStart 19 = .ok (.invokevirtual 26, 3) := by decide +kernel
theorem dX1_bestStart_22 : decode cX1_bestStart 22 = .ok (.iload 5, 2) := by decide +kernel
theorem dX1_bestStart_24 : decode cX1_bestStart 24 = .ok (.invokevirtual 45, 3) := by decide +kernel
theorem dX1_bestStart_27 : decode cX1_bestStart 27 = .ok (.istore 6, 2) := by decide +kernel
theorem dX1_bestStart_29 : decode cX1_bestStart 29 = .ok (.iload 6, 2) := by decide +kernel
theorem dX1_bestStart_31 : decode cX1_bestStart 31 = .ok (.iload 4, 2) := by decide +kernel
theorem dX1_bestStart_33 : decode cX1_bestStart 33 = .ok (.if_icmp .gt 10, 3) := by decide +kernel
theorem dX1_bestStart_36 : decode cX1_bestStart 36 = .ok (.iload 5, 2) := by decide +kernel
theorem dX1_bestStart_38 : decode cX1_bestStart 38 = .ok (.istore_n 3, 1) := by decide +kernel
theorem dX1_bestStart_39 : decode cX1_bestStart 39 = .ok (.iload 6, 2) := by decide +kernel
theorem dX1_bestStart_41 : decode cX1_bestStart 41 = .ok (.istore 4, 2) := by decide +kernel
theorem dX1_bestStart_43 : decode cX1_bestStart 43 = .ok (.iinc 5 1, 3) := by decide +kernel
theorem dX1_bestStart_46 : decode cX1_bestStart 46 = .ok (.goto (-37), 3) := by decide +kernel
theorem dX1_bestStart_49 : decode cX1_bestStart 49 = .ok (.iload_n 3, 1) := by decide +kernel
theorem dX1_bestStart_50 : decode cX1_bestStart 50 = .ok (.ireturn, 1) := by decide +kernel
theorem dX1_driveBySpeeds_0 : decode cX1_driveBySpeeds 0 = .ok (.iconst (-1), 1) := by decide +kernel
theorem dX1_driveBySpeeds_1 : decode cX1_driveBySpeeds 1 = .ok (.istore 4, 2) := by decide +kernel
theorem dX1_driveBySpeeds_3 : decode cX1_driveBySpeeds 3 = .ok (.iconst 0, 1) := by decide +kernel
theorem dX1_driveBySpeeds_4 : decode cX1_driveBySpeeds 4 = .ok (.istore 5, 2) := by decide +kernel
theorem dX1_driveBySpeeds_6 : decode cX1_driveBySpeeds 6 = .ok (.iconst 0, 1) := by decide +kernel
theorem dX1_driveBySpeeds_7 : decode cX1_driveBySpeeds 7 = .ok (.istore 6, 2) := by decide +kernel
theorem dX1_driveBySpeeds_9 : decode cX1_driveBySpeeds 9 = .ok (.iconst 0, 1) := by decide +kernel
theorem dX1_driveBySpeeds_10 : decode cX1_driveBySpeeds 10 = .ok (.istore 7, 2) := by decide +kernel
theorem dX1_driveBySpeeds_12 : decode cX1_driveBySpeeds 12 = .ok (.iconst 0, 1) := by decide +kernel
theorem dX1_driveBySpeeds_13 : decode cX1_driveBySpeeds 13 = .ok (.istore 8, 2) := by decide +kernel
theorem dX1_driveBySpeeds_15 : decode cX1_driveBySpeeds 15 = .ok (.iload 8, 2) := by decide +kernel
theorem dX1_driveBySpeeds_17 : decode cX1_driveBySpeeds 17 = .ok (.aload_n 1, 1) := by decide +kernel
theorem dX1_driveBySpeeds_18 : decode cX1_driveBySpeeds 18 = .ok (.getfield 48, 3) := by decide +kernel
theorem dX1_driveBySpeeds_21 : decode cX1_driveBySpeeds 21 = .ok (.if_icmp .ge 126, 3) := by decide +kernel
theorem dX1_driveBySpeeds_24 : decode cX1_driveBySpeeds 24 = .ok (.iload_n 2, 1) := by decide +kernel
theorem dX1_driveBySpeeds_25 : decode cX1_driveBySpeeds 25 = .ok (.iload 8, 2) := by decide +kernel
theorem dX1_driveBySpeeds_27 : decode cX1_driveBySpeeds 27 = .ok (.iadd, 1) := by decide +kernel
theorem dX1_driveBySpeeds_28 : decode cX1_driveBySpeeds 28 = .ok (.bipush 60, 2) := by decide +kernel
theorem dX1_driveBySpeeds_30 : decode cX1_driveBySpeeds 30 = .ok (.if_icmp .ge 117, 3) := by decide +kernel
theorem dX1_driveBySpeeds_33 : decode cX1_driveBySpeeds 33 = .ok (.aload_n 0, 1) := by decide +kernel
theorem dX1_driveBySpeeds_34 : decode cX1_driveBySpeeds 34 = .ok (.getfield 12, 3) := by decide +kernel
theorem dX1_driveBySpeeds_37 : decode cX1_driveBySpeeds 37 = .ok (.aload_n 1, 1) := by decide +kernel
theorem dX1_driveBySpeeds_38 : decode cX1_driveBySpeeds 38 = .ok (.iload_n 2, 1) := by decide +kernel
theorem dX1_driveBySpeeds_39 : decode cX1_driveBySpeeds 39 = .ok (.iload 8, 2) := by decide +kernel
theorem dX1_driveBySpeeds_41 : decode cX1_driveBySpeeds 41 = .ok (.iadd, 1) := by decide +kernel
theorem dX1_driveBySpeeds_42 : decode cX1_driveBySpeeds 42 = .ok (.invokevirtual 22, 3) := by decide +kernel
theorem dX1_driveBySpeeds_45 : decode cX1_driveBySpeeds 45 = .ok (.aload_n 1, 1) := by decide +kernel
theorem dX1_driveBySpeeds_46 : decode cX1_driveBySpeeds 46 = .ok (.getfield 52, 3) := by decide +kernel
theorem dX1_driveBySpeeds_49 : decode cX1_driveBySpeeds 49 = .ok (.iload 8, 2) := by decide +kernel
theorem dX1_driveBySpeeds_51 : decode cX1_driveBySpeeds 51 = .ok (.iaload, 1) := by decide +kernel
theorem dX1_driveBySpeeds_52 : decode cX1_driveBySpeeds 52 = .ok (.aload_n 0, 1) := by decide +kernel
theorem dX1_driveBySpeeds_53 : decode cX1_driveBySpeeds 53 = .ok (.getfield 12, 3) := by decide +kernel
theorem dX1_driveBySpeeds_56 : decode cX1_driveBySpeeds 56 = .ok (.aload_n 1, 1) := by decide +kernel
theorem dX1_driveBySpeeds_57 : decode cX1_driveBySpeeds 57 = .ok (.aload_n 1, 1) := by decide +kernel
theorem dX1_driveBySpeeds_58 : decode cX1_driveBySpeeds 58 = .ok (.invokevirtual 26, 3) := by decide +kernel
theorem dX1_driveBySpeeds_61 : decode cX1_driveBySpeeds 61 = .ok (.iload 7, 2) := by decide +kernel
theorem dX1_driveBySpeeds_63 : decode cX1_driveBySpeeds 63 = .ok (.invokevirtual 32, 3) := by decide +kernel
theorem dX1_driveBySpeeds_66 : decode cX1_driveBySpeeds 66 = .ok (.isub, 1) := by decide +kernel
theorem dX1_driveBySpeeds_67 : decode cX1_driveBySpeeds 67 = .ok (.istore 9, 2) := by decide +kernel
theorem dX1_driveBySpeeds_69 : decode cX1_driveBySpeeds 69 = .ok (.iload 9, 2) := by decide +kernel
theorem dX1_driveBySpeeds_71 : decode cX1_driveBySpeeds 71 = .ok (.ifCond .le 25, 3) := by decide +kernel
theorem dX1_driveBySpeeds_74 : decode cX1_driveBySpeeds 74 = .ok (.iload 5, 2) := by decide +kernel
theorem dX1_driveBySpeeds_76 : decode cX1_driveBySpeeds 76 = .ok (.iload 9, 2) := by decide +kernel
theorem dX1_driveBySpeeds_78 : decode cX1_driveBySpeeds 78 = .ok (.iadd, 1) := by decide +kernel
theorem dX1_driveBySpeeds_79 : decode cX1_driveBySpeeds 79 = .ok (.istore 5, 2) := by decide +kernel
theorem dX1_driveBySpeeds_81 : decode cX1_driveBySpeeds 81 = .ok (.iload 4, 2) := by decide +kernel
theorem dX1_driveBySpeeds_83 : decode cX1_driveBySpeeds 83 = .ok (.iconst (-1), 1) := by decide +kernel
theorem dX1_driveBySpeeds_84 : decode cX1_driveBySpeeds 84 = .ok (.if_icmp .ne 8, 3) := by decide +kernel
theorem dX1_driveBySpeeds_87 : decode cX1_driveBySpeeds 87 = .ok (.iload 8, 2) := by decide +kernel
theorem dX1_driveBySpeeds_89 : decode cX1_driveBySpeeds 89 = .ok (.goto 5, 3) := by decide +kernel
theorem dX1_driveBySpeeds_92 : decode cX1_driveBySpeeds 92 = .ok (.iload 4, 2) := by decide +kernel
theorem dX1_driveBySpeeds_94 : decode cX1_driveBySpeeds 94 = .ok (.istore 4, 2) := by decide +kernel
theorem dX1_driveBySpeeds_96 : decode cX1_driveBySpeeds 96 = .ok (.bipush 47, 2) := by decide +kernel
theorem dX1_driveBySpeeds_98 : decode cX1_driveBySpeeds 98 = .ok (.iload 7, 2) := by decide +kernel
theorem dX1_driveBySpeeds_100 : decode cX1_driveBySpeeds 100 = .ok (.aload_n 1, 1) := by decide +kernel
theorem dX1_driveBySpeeds_101 : decode cX1_driveBySpeeds 101 = .ok (.getfield 52, 3) := by decide +kernel
theorem dX1_driveBySpeeds_104 : decode cX1_driveBySpeeds 104 = .ok (.iload 8, 2) := by decide +kernel
theorem dX1_driveBySpeeds_106 : decode cX1_driveBySpeeds 106 = .ok (.iaload, 1) := by decide +kernel
theorem dX1_driveBySpeeds_107 : decode cX1_driveBySpeeds 107 = .ok (.iadd, 1) := by decide +kernel
theorem dX1_driveBySpeeds_108 : decode cX1_driveBySpeeds 108 = .ok (.invokestatic 36, 3) := by decide +kernel
theorem dX1_driveBySpeeds_111 : decode cX1_driveBySpeeds 111 = .ok (.istore 10, 2) := by decide +kernel
theorem dX1_driveBySpeeds_113 : decode cX1_driveBySpeeds 113 = .ok (.iload 10, 2) := by decide +kernel
theorem dX1_driveBySpeeds_115 : decode cX1_driveBySpeeds 115 = .ok (.iload 7, 2) := by decide +kernel
theorem dX1_driveBySpeeds_117 : decode cX1_driveBySpeeds 117 = .ok (.if_icmp .le 20, 3) := by decide +kernel
theorem dX1_driveBySpeeds_120 : decode cX1_driveBySpeeds 120 = .ok (.iload 6, 2) := by decide +kernel
theorem dX1_driveBySpeeds_122 : decode cX1_driveBySpeeds 122 = .ok (.aload_n 0, 1) := by decide +kernel
theorem dX1_driveBySpeeds_123 : decode cX1_driveBySpeeds 123 = .ok (.getfield 12, 3) := by decide +kernel
theorem dX1_driveBySpeeds_126 : decode cX1_driveBySpeeds 126 = .ok (.aload_n 1, 1) := by decide +kernel
theorem dX1_driveBySpeeds_127 : decode cX1_driveBySpeeds 127 = .ok (.iload 7, 2) := by decide +kernel
theorem dX1_driveBySpeeds_129 : decode cX1_driveBySpeeds 129 = .ok (.iload 10, 2) := by decide +kernel
theorem dX1_driveBySpeeds_131 : decode cX1_driveBySpeeds 131 = .ok (.invokevirtual 55, 3) := by decide +kernel
theorem dX1_driveBySpeeds_134 : decode cX1_driveBySpeeds 134 = .ok (.ior, 1) := by decide +kernel
theorem dX1_driveBySpeeds_135 : decode cX1_driveBySpeeds 135 = .ok (.istore 6, 2) := by decide +kernel
theorem dX1_driveBySpeeds_137 : decode cX1_driveBySpeeds 137 = .ok (.iload 10, 2) := by decide +kernel
theorem dX1_driveBySpeeds_139 : decode cX1_driveBySpeeds 139 = .ok (.istore 7, 2) := by decide +kernel
theorem dX1_driveBySpeeds_141 : decode cX1_driveBySpeeds 141 = .ok (.iinc 8 1, 3) := by decide +kernel
theorem dX1_driveBySpeeds_144 : decode cX1_driveBySpeeds 144 = .ok (.goto (-129), 3) := by decide +kernel
theorem dX1_driveBySpeeds_147 : decode cX1_driveBySpeeds 147 = .ok (.iload_n 3, 1) := by decide +kernel
theorem dX1_driveBySpeeds_148 : decode cX1_driveBySpeeds 148 = .ok (.ifCond .ne 6, 3) := by decide +kernel
theorem dX1_driveBySpeeds_151 : decode cX1_driveBySpeeds 151 = .ok (.iload 4, 2) := by decide +kernel
theorem dX1_driveBySpeeds_153 : decode cX1_driveBySpeeds 153 = .ok (.ireturn, 1) := by decide +kernel
theorem dX1_driveBySpeeds_154 : decode cX1_driveBySpeeds 154 = .ok (.iload_n 3, 1) := by decide +kernel
theorem dX1_driveBySpeeds_155 : decode cX1_driveBySpeeds 155 = .ok (.iconst 1, 1) := by decide +kernel
theorem dX1_driveBySpeeds_156 : decode cX1_driveBySpeeds 156 = .ok (.if_icmp .ne 8, 3) := by decide +kernel
theorem dX1_driveBySpeeds_159 : decode cX1_driveBySpeeds 159 = .ok (.iload 5, 2) := by decide +kernel
theorem dX1_driveBySpeeds_161 : decode cX1_driveBySpeeds 161 = .ok (.goto 5, 3) := by decide +kernel
theorem dX1_driveBySpeeds_164 : decode cX1_driveBySpeeds 164 = .ok (.iload 6, 2) := by decide +kernel
theorem dX1_driveBySpeeds_166 : decode cX1_driveBySpeeds 166 = .ok (.ireturn, 1) := by decide +kernel
theorem dX1_bestToBed_0 : decode cX1_bestToBed 0 = .ok (.aload_n 1, 1) := by decide +kernel
theorem dX1_bestToBed_1 : decode cX1_bestToBed 1 = .ok (.invokevirtual 26, 3) := by decide +kernel
theorem dX1_bestToBed_4 : decode cX1_bestToBed 4 = .ok (.istore 4, 2) := by decide +kernel
theorem dX1_bestToBed_6 : decode cX1_bestToBed 6 = .ok (.iconst 0, 1) := by decide +kernel
theorem dX1_bestToBed_7 : decode cX1_bestToBed 7 = .ok (.istore 5, 2) := by decide +kernel
theorem dX1_bestToBed_9 : decode cX1_bestToBed 9 = .ok (.aload_n 0, 1) := by decide +kernel
theorem dX1_bestToBed_10 : decode cX1_bestToBed 10 = .ok (.aload_n 1, 1) := by decide +kernel
theorem dX1_bestToBed_11 : decode cX1_bestToBed 11 = .ok (.iload 4, 2) := by decide +kernel
theorem dX1_bestToBed_13 : decode cX1_bestToBed 13 = .ok (.iload_n 2, 1) := by decide +kernel
theorem dX1_bestToBed_14 : decode cX1_bestToBed 14 = .ok (.invokevirtual 58, 3) := by decide +kernel
theorem dX1_bestToBed_17 : decode cX1_bestToBed 17 = .ok (.istore 6, 2) := by decide +kernel
theorem dX1_bestToBed_19 : decode cX1_bestToBed 19 = .ok (.iconst 1, 1) := by decide +kernel
theorem dX1_bestToBed_20 : decode cX1_bestToBed 20 = .ok (.istore 7, 2) := by decide +kernel
theorem dX1_bestToBed_22 : decode cX1_bestToBed 22 = .ok (.iload 7, 2) := by decide +kernel
theorem dX1_bestToBed_24 : decode cX1_bestToBed 24 = .ok (.iload 4, 2) := by decide +kernel
theorem dX1_bestToBed_26 : decode cX1_bestToBed 26 = .ok (.if_icmp .gt 80, 3) := by decide +kernel
theorem dX1_bestToBed_29 : decode cX1_bestToBed 29 = .ok (.iload 7, 2) := by decide +kernel
theorem dX1_bestToBed_31 : decode cX1_bestToBed 31 = .ok (.invokestatic 61, 3) := by decide +kernel
theorem dX1_bestToBed_34 : decode cX1_bestToBed 34 = .ok (.iload_n 3, 1) := by decide +kernel
theorem dX1_bestToBed_35 : decode cX1_bestToBed 35 = .ok (.if_icmp .gt 65, 3) := by decide +kernel
theorem dX1_bestToBed_38 : decode cX1_bestToBed 38 = .ok (.aload_n 0, 1) := by decide +kernel
theorem dX1_bestToBed_39 : decode cX1_bestToBed 39 = .ok (.aload_n 1, 1) := by decide +kernel
theorem dX1_bestToBed_40 : decode cX1_bestToBed 40 = .ok (.iload 4, 2) := by decide +kernel
theorem dX1_bestToBed_42 : decode cX1_bestToBed 42 = .ok (.iload 7, 2) := by decide +kernel
theorem dX1_bestToBed_44 : decode cX1_bestToBed 44 = .ok (.iconst (-1), 1) := by decide +kernel
theorem dX1_bestToBed_45 : decode cX1_bestToBed 45 = .ok (.ixor, 1) := by decide +kernel
theorem dX1_bestToBed_46 : decode cX1_bestToBed 46 = .ok (.iand, 1) := by decide +kernel
theorem dX1_bestToBed_47 : decode cX1_bestToBed 47 = .ok (.iload_n 2, 1) := by decide +kernel
theorem dX1_bestToBed_48 : decode cX1_bestToBed 48 = .ok (.invokevirtual 58, 3) := by decide +kernel
theorem dX1_bestToBed_51 : decode cX1_bestToBed 51 = .ok (.istore 8, 2) := by decide +kernel
theorem dX1_bestToBed_53 : decode cX1_bestToBed 53 = .ok (.iload 7, 2) := by decide +kernel
theorem dX1_bestToBed_55 : decode cX1_bestToBed 55 = .ok (.invokestatic 61, 3) := by decide +kernel
theorem dX1_bestToBed_58 : decode cX1_bestToBed 58 = .ok (.iload 5, 2) := by decide +kernel
theorem dX1_bestToBed_60 : decode cX1_bestToBed 60 = .ok (.invokestatic 61, 3) := by decide +kernel
theorem dX1_bestToBed_63 : decode cX1_bestToBed 63 = .ok (.if_icmp .ge 7, 3) := by decide +kernel
theorem dX1_bestToBed_66 : decode cX1_bestToBed 66 = .ok (.iconst 1, 1) := by decide +kernel
theorem dX1_bestToBed_67 : decode cX1_bestToBed 67 = .ok (.goto 4, 3) := by decide +kernel
theorem dX1_bestToBed_70 : decode cX1_bestToBed 70 = .ok (.iconst 0, 1) := by decide +kernel
theorem dX1_bestToBed_71 : decode cX1_bestToBed 71 = .ok (.istore 9, 2) := by decide +kernel
theorem dX1_bestToBed_73 : decode cX1_bestToBed 73 = .ok (.iload 8, 2) := by decide +kernel
theorem dX1_bestToBed_75 : decode cX1_bestToBed 75 = .ok (.iload 6, 2) := by decide +kernel
theorem dX1_bestToBed_77 : decode cX1_bestToBed 77 = .ok (.if_icmp .lt 15, 3) := by decide +kernel
theorem dX1_bestToBed_80 : decode cX1_bestToBed 80 = .ok (.iload 8, 2) := by decide +kernel
theorem dX1_bestToBed_82 : decode cX1_bestToBed 82 = .ok (.iload 6, 2) := by decide +kernel
theorem dX1_bestToBed_84 : decode cX1_bestToBed 84 = .ok (.if_icmp .ne 16, 3) := by decide +kernel
theorem dX1_bestToBed_87 : decode cX1_bestToBed 87 = .ok (.iload 9, 2) := by decide +kernel
theorem dX1_bestToBed_89 : decode cX1_bestToBed 89 = .ok (.ifCond .eq 11, 3) := by decide +kernel
theorem dX1_bestToBed_92 : decode cX1_bestToBed 92 = .ok (.iload 7, 2) := by decide +kernel
theorem dX1_bestToBed_94 : decode cX1_bestToBed 94 = .ok (.istore 5, 2) := by decide +kernel
theorem dX1_bestToBed_96 : decode cX1_bestToBed 96 = .ok (.iload 8, 2) := by decide +kernel
theorem dX1_bestToBed_98 : decode cX1_bestToBed 98 = .ok (.istore 6, 2) := by decide +kernel
theorem dX1_bestToBed_100 : decode cX1_bestToBed 100 = .ok (.iinc 7 1, 3) := by decide +kernel
theorem dX1_bestToBed_103 : decode cX1_bestToBed 103 = .ok (.goto (-81), 3) := by decide +kernel
theorem dX1_bestToBed_106 : decode cX1_bestToBed 106 = .ok (.iload 5, 2) := by decide +kernel
theorem dX1_bestToBed_108 : decode cX1_bestToBed 108 = .ok (.ireturn, 1) := by decide +kernel
theorem dX1_bestMove_0 : decode cX1_bestMove 0 = .ok (.iconst (-1), 1) := by decide +kernel
theorem dX1_bestMove_1 : decode cX1_bestMove 1 = .ok (.istore_n 3, 1) := by decide +kernel
theorem dX1_bestMove_2 : decode cX1_bestMove 2 = .ok (.aload_n 0, 1) := by decide +kernel
theorem dX1_bestMove_3 : decode cX1_bestMove 3 = .ok (.aload_n 1, 1) := by decide +kernel
theorem dX1_bestMove_4 : decode cX1_bestMove 4 = .ok (.aload_n 1, 1) := by decide +kernel
theorem dX1_bestMove_5 : decode cX1_bestMove 5 = .ok (.invokevirtual 26, 3) := by decide +kernel
theorem dX1_bestMove_8 : decode cX1_bestMove 8 = .ok (.iload_n 2, 1) := by decide +kernel
theorem dX1_bestMove_9 : decode cX1_bestMove 9 = .ok (.invokevirtual 45, 3) := by decide +kernel
theorem dX1_bestMove_12 : decode cX1_bestMove 12 = .ok (.istore 4, 2) := by decide +kernel
theorem dX1_bestMove_14 : decode cX1_bestMove 14 = .ok (.iconst 0, 1) := by decide +kernel
theorem dX1_bestMove_15 : decode cX1_bestMove 15 = .ok (.istore 5, 2) := by decide +kernel
theorem dX1_bestMove_17 : decode cX1_bestMove 17 = .ok (.iload 5, 2) := by decide +kernel
theorem dX1_bestMove_19 : decode cX1_bestMove 19 = .ok (.aload_n 1, 1) := by decide +kernel
theorem dX1_bestMove_20 : decode cX1_bestMove 20 = .ok (.getfield 67, 3) := by decide +kernel
theorem dX1_bestMove_23 : decode cX1_bestMove 23 = .ok (.if_icmp .ge 84, 3) := by decide +kernel
theorem dX1_bestMove_26 : decode cX1_bestMove 26 = .ok (.aload_n 1, 1) := by decide +kernel
theorem dX1_bestMove_27 : decode cX1_bestMove 27 = .ok (.getfield 70, 3) := by decide +kernel
theorem dX1_bestMove_30 : decode cX1_bestMove 30 = .ok (.iload 5, 2) := by decide +kernel
theorem dX1_bestMove_32 : decode cX1_bestMove 32 = .ok (.iaload, 1) := by decide +kernel
theorem dX1_bestMove_33 : decode cX1_bestMove 33 = .ok (.istore 6, 2) := by decide +kernel
theorem dX1_bestMove_35 : decode cX1_bestMove 35 = .ok (.iconst 0, 1) := by decide +kernel
theorem dX1_bestMove_36 : decode cX1_bestMove 36 = .ok (.istore 7, 2) := by decide +kernel
theorem dX1_bestMove_38 : decode cX1_bestMove 38 = .ok (.iload 7, 2) := by decide +kernel
theorem dX1_bestMove_40 : decode cX1_bestMove 40 = .ok (.bipush 48, 2) := by decide +kernel
theorem dX1_bestMove_42 : decode cX1_bestMove 42 = .ok (.if_icmp .ge 50, 3) := by decide +kernel
theorem dX1_bestMove_45 : decode cX1_bestMove 45 = .ok (.aload_n 1, 1) := by decide +kernel
theorem dX1_bestMove_46 : decode cX1_bestMove 46 = .ok (.getfield 70, 3) := by decide +kernel
theorem dX1_bestMove_49 : decode cX1_bestMove 49 = .ok (.iload 5, 2) := by decide +kernel
theorem dX1_bestMove_51 : decode cX1_bestMove 51 = .ok (.iload 7, 2) := by decide +kernel
theorem dX1_bestMove_53 : decode cX1_bestMove 53 = .ok (.iastore, 1) := by decide +kernel
theorem dX1_bestMove_54 : decode cX1_bestMove 54 = .ok (.aload_n 0, 1) := by decide +kernel
theorem dX1_bestMove_55 : decode cX1_bestMove 55 = .ok (.aload_n 1, 1) := by decide +kernel
theorem dX1_bestMove_56 : decode cX1_bestMove 56 = .ok (.aload_n 1, 1) := by decide +kernel
theorem dX1_bestMove_57 : decode cX1_bestMove 57 = .ok (.invokevirtual 26, 3) := by decide +kernel
theorem dX1_bestMove_60 : decode cX1_bestMove 60 = .ok (.iload_n 2, 1) := by decide +kernel
theorem dX1_bestMove_61 : decode cX1_bestMove 61 = .ok (.invokevirtual 45, 3) := by decide +kernel
theorem dX1_bestMove_64 : decode cX1_bestMove 64 = .ok (.istore 8, 2) := by decide +kernel
theorem dX1_bestMove_66 : decode cX1_bestMove 66 = .ok (.iload 8, 2) := by decide +kernel
theorem dX1_bestMove_68 : decode cX1_bestMove 68 = .ok (.iload 4, 2) := by decide +kernel
theorem dX1_bestMove_70 : decode cX1_bestMove 70 = .ok (.if_icmp .ge 16, 3) := by decide +kernel
theorem dX1_bestMove_73 : decode cX1_bestMove 73 = .ok (.bipush 100, 2) := by decide +kernel
theorem dX1_bestMove_75 : decode cX1_bestMove 75 = .ok (.iload 5, 2) := by decide +kernel
theorem dX1_bestMove_77 : decode cX1_bestMove 77 = .ok (.imul, 1) := by decide +kernel
theorem dX1_bestMove_78 : decode cX1_bestMove 78 = .ok (.iload 7, 2) := by decide +kernel
theorem dX1_bestMove_80 : decode cX1_bestMove 80 = .ok (.iadd, 1) := by decide +kernel
theorem dX1_bestMove_81 : decode cX1_bestMove 81 = .ok (.istore_n 3, 1) := by decide +kernel
theorem dX1_bestMove_82 : decode cX1_bestMove 82 = .ok (.iload 8, 2) := by decide +kernel
theorem dX1_bestMove_84 : decode cX1_bestMove 84 = .ok (.istore 4, 2) := by decide +kernel
theorem dX1_bestMove_86 : decode cX1_bestMove 86 = .ok (.iinc 7 1, 3) := by decide +kernel
theorem dX1_bestMove_89 : decode cX1_bestMove 89 = .ok (.goto (-51), 3) := by decide +kernel
theorem dX1_bestMove_92 : decode cX1_bestMove 92 = .ok (.aload_n 1, 1) := by decide +kernel
theorem dX1_bestMove_93 : decode cX1_bestMove 93 = .ok (.getfield 70, 3) := by decide +kernel
theorem dX1_bestMove_96 : decode cX1_bestMove 96 = .ok (.iload 5, 2) := by decide +kernel
theorem dX1_bestMove_98 : decode cX1_bestMove 98 = .ok (.iload 6, 2) := by decide +kernel
theorem dX1_bestMove_100 : decode cX1_bestMove 100 = .ok (.iastore, 1) := by decide +kernel
theorem dX1_bestMove_101 : decode cX1_bestMove 101 = .ok (.iinc 5 1, 3) := by decide +kernel
theorem dX1_bestMove_104 : decode cX1_bestMove 104 = .ok (.goto (-87), 3) := by decide +kernel
theorem dX1_bestMove_107 : decode cX1_bestMove 107 = .ok (.iload_n 3, 1) := by decide +kernel
theorem dX1_bestMove_108 : decode cX1_bestMove 108 = .ok (.ireturn, 1) := by decide +kernel
theorem dX1_restingPairs_0 : decode cX1_restingPairs 0 = .ok (.iconst 0, 1) := by decide +kernel
theorem dX1_restingPairs_1 : decode cX1_restingPairs 1 = .ok (.istore 4, 2) := by decide +kernel
theorem dX1_restingPairs_3 : decode cX1_restingPairs 3 = .ok (.iload 4, 2) := by decide +kernel
theorem dX1_restingPairs_5 : decode cX1_restingPairs 5 = .ok (.bipush 6, 2) := by decide +kernel
theorem dX1_restingPairs_7 : decode cX1_restingPairs 7 = .ok (.if_icmp .ge 29, 3) := by decide +kernel
theorem dX1_restingPairs_10 : decode cX1_restingPairs 10 = .ok (.aload_n 0, 1) := by decide +kernel
theorem dX1_restingPairs_11 : decode cX1_restingPairs 11 = .ok (.getfield 18, 3) := by decide +kernel
theorem dX1_restingPairs_14 : decode cX1_restingPairs 14 = .ok (.iload 4, 2) := by decide +kernel
theorem dX1_restingPairs_16 : decode cX1_restingPairs 16 = .ok (.aload_n 0, 1) := by decide +kernel
theorem dX1_restingPairs_17 : decode cX1_restingPairs 17 = .ok (.aload_n 1, 1) := by decide +kernel
theorem dX1_restingPairs_18 : decode cX1_restingPairs 18 = .ok (.aload_n 1, 1) := by decide +kernel
theorem dX1_restingPairs_19 : decode cX1_restingPairs 19 = .ok (.invokevirtual 26, 3) := by decide +kernel
theorem dX1_restingPairs_22 : decode cX1_restingPairs 22 = .ok (.iload_n 2, 1) := by decide +kernel
theorem dX1_restingPairs_23 : decode cX1_restingPairs 23 = .ok (.iload 4, 2) := by decide +kernel
theorem dX1_restingPairs_25 : decode cX1_restingPairs 25 = .ok (.iadd, 1) := by decide +kernel
theorem dX1_restingPairs_26 : decode cX1_restingPairs 26 = .ok (.invokevirtual 45, 3) := by decide +kernel
theorem dX1_restingPairs_29 : decode cX1_restingPairs 29 = .ok (.iastore, 1) := by decide +kernel
theorem dX1_restingPairs_30 : decode cX1_restingPairs 30 = .ok (.iinc 4 1, 3) := by decide +kernel
theorem dX1_restingPairs_33 : decode cX1_restingPairs 33 = .ok (.goto (-30), 3) := by decide +kernel
theorem dX1_restingPairs_36 : decode cX1_restingPairs 36 = .ok (.iconst 0, 1) := by decide +kernel
theorem dX1_restingPairs_37 : decode cX1_restingPairs 37 = .ok (.istore 4, 2) := by decide +kernel
theorem dX1_restingPairs_39 : decode cX1_restingPairs 39 = .ok (.iconst (-1), 1) := by decide +kernel
theorem dX1_restingPairs_40 : decode cX1_restingPairs 40 = .ok (.istore 5, 2) := by decide +kernel
theorem dX1_restingPairs_42 : decode cX1_restingPairs 42 = .ok (.iconst 0, 1) := by decide +kernel
theorem dX1_restingPairs_43 : decode cX1_restingPairs 43 = .ok (.istore 6, 2) := by decide +kernel
theorem dX1_restingPairs_45 : decode cX1_restingPairs 45 = .ok (.iload 6, 2) := by decide +kernel
theorem dX1_restingPairs_47 : decode cX1_restingPairs 47 = .ok (.bipush 6, 2) := by decide +kernel
theorem dX1_restingPairs_49 : decode cX1_restingPairs 49 = .ok (.if_icmp .ge 70, 3) := by decide +kernel
theorem dX1_restingPairs_52 : decode cX1_restingPairs 52 = .ok (.iconst 0, 1) := by decide +kernel
theorem dX1_restingPairs_53 : decode cX1_restingPairs 53 = .ok (.istore 7, 2) := by decide +kernel
theorem dX1_restingPairs_55 : decode cX1_restingPairs 55 = .ok (.iload 7, 2) := by decide +kernel
theorem dX1_restingPairs_57 : decode cX1_restingPairs 57 = .ok (.bipush 6, 2) := by decide +kernel
theorem dX1_restingPairs_59 : decode cX1_restingPairs 59 = .ok (.if_icmp .ge 54, 3) := by decide +kernel
theorem dX1_restingPairs_62 : decode cX1_restingPairs 62 = .ok (.aload_n 0, 1) := by decide +kernel
theorem dX1_restingPairs_63 : decode cX1_restingPairs 63 = .ok (.iload 6, 2) := by decide +kernel
theorem dX1_restingPairs_65 : decode cX1_restingPairs 65 = .ok (.iload 7, 2) := by decide +kernel
theorem dX1_restingPairs_67 : decode cX1_restingPairs 67 = .ok (.invokevirtual 73, 3) := by decide +kernel
theorem dX1_restingPairs_70 : decode cX1_restingPairs 70 = .ok (.ifCond .eq 37, 3) := by decide +kernel
theorem dX1_restingPairs_73 : decode cX1_restingPairs 73 = .ok (.aload_n 0, 1) := by decide +kernel
theorem dX1_restingPairs_74 : decode cX1_restingPairs 74 = .ok (.iload 7, 2) := by decide +kernel
theorem dX1_restingPairs_76 : decode cX1_restingPairs 76 = .ok (.iload 6, 2) := by decide +kernel
theorem dX1_restingPairs_78 : decode cX1_restingPairs 78 = .ok (.invokevirtual 73, 3) := by decide +kernel
theorem dX1_restingPairs_81 : decode cX1_restingPairs 81 = .ok (.ifCond .eq 26, 3) := by decide +kernel
theorem dX1_restingPairs_84 : decode cX1_restingPairs 84 = .ok (.iload 4, 2) := by decide +kernel
theorem dX1_restingPairs_86 : decode cX1_restingPairs 86 = .ok (.ifCond .ne 14, 3) := by decide +kernel
theorem dX1_restingPairs_89 : decode cX1_restingPairs 89 = .ok (.bipush 10, 2) := by decide +kernel
theorem dX1_restingPairs_91 : decode cX1_restingPairs 91 = .ok (.iload 6, 2) := by decide +kernel
theorem dX1_restingPairs_93 : decode cX1_restingPairs 93 = .ok (.imul, 1) := by decide +kernel
theorem dX1_restingPairs_94 : decode cX1_restingPairs 94 = .ok (.iload 7, 2) := by decide +kernel
theorem dX1_restingPairs_96 : decode cX1_restingPairs 96 = .ok (.iadd, 1) := by decide +kernel
theorem dX1_restingPairs_97 : decode cX1_restingPairs 97 = .ok (.goto 5, 3) := by decide +kernel
theorem dX1_restingPairs_100 : decode cX1_restingPairs 100 = .ok (.iload 5, 2) := by decide +kernel
theorem dX1_restingPairs_102 : decode cX1_restingPairs 102 = .ok (.istore 5, 2) := by decide +kernel
theorem dX1_restingPairs_104 : decode cX1_restingPairs 104 = .ok (.iinc 4 1, 3) := by decide +kernel
theorem dX1_restingPairs_107 : decode cX1_restingPairs 107 = .ok (.iinc 7 1, 3) := by decide +kernel
theorem dX1_restingPairs_110 : decode cX1_restingPairs 110 = .ok (.goto (-55), 3) := by decide +kernel
theorem dX1_restingPairs_113 : decode cX1_restingPairs 113 = .ok (.iinc 6 1, 3) := by decide +kernel
theorem dX1_restingPairs_116 : decode cX1_restingPairs 116 = .ok (.goto (-71), 3) := by decide +kernel
theorem dX1_restingPairs_119 : decode cX1_restingPairs 119 = .ok (.iload_n 3, 1) := by decide +kernel
theorem dX1_restingPairs_120 : decode cX1_restingPairs 120 = .ok (.ifCond .ne 8, 3) := by decide +kernel
theorem dX1_restingPairs_123 : decode cX1_restingPairs 123 = .ok (.iload 4, 2) := by decide +kernel
theorem dX1_restingPairs_125 : decode cX1_restingPairs 125 = .ok (.goto 5, 3) := by decide +kernel
theorem dX1_restingPairs_128 : decode cX1_restingPairs 128 = .ok (.iload 5, 2) := by decide +kernel
theorem dX1_restingPairs_130 : decode cX1_restingPairs 130 = .ok (.ireturn, 1) := by decide +kernel
theorem dX1_isBestAgainst_0 : decode cX1_isBestAgainst 0 = .ok (.aload_n 0, 1) := by decide +kernel
theorem dX1_isBestAgainst_1 : decode cX1_isBestAgainst 1 = .ok (.iload_n 1, 1) := by decide +kernel
theorem dX1_isBestAgainst_2 : decode cX1_isBestAgainst 2 = .ok (.iload_n 2, 1) := by decide +kernel
theorem dX1_isBestAgainst_3 : decode cX1_isBestAgainst 3 = .ok (.invokevirtual 77, 3) := by decide +kernel
theorem dX1_isBestAgainst_6 : decode cX1_isBestAgainst 6 = .ok (.istore_n 3, 1) := by decide +kernel
theorem dX1_isBestAgainst_7 : decode cX1_isBestAgainst 7 = .ok (.iconst 0, 1) := by decide +kernel
theorem dX1_isBestAgainst_8 : decode cX1_isBestAgainst 8 = .ok (.istore 4, 2) := by decide +kernel
theorem dX1_isBestAgainst_10 : decode cX1_isBestAgainst 10 = .ok (.iload 4, 2) := by decide +kernel
theorem dX1_isBestAgainst_12 : decode cX1_isBestAgainst 12 = .ok (.bipush 6, 2) := by decide +kernel
theorem dX1_isBestAgainst_14 : decode cX1_isBestAgainst 14 = .ok (.if_icmp .ge 22, 3) := by decide +kernel
theorem dX1_isBestAgainst_17 : decode cX1_isBestAgainst 17 = .ok (.aload_n 0, 1) := by decide +kernel
theorem dX1_isBestAgainst_18 : decode cX1_isBestAgainst 18 = .ok (.iload 4, 2) := by decide +kernel
theorem dX1_isBestAgainst_20 : decode cX1_isBestAgainst 20 = .ok (.iload_n 2, 1) := by decide +kernel
theorem dX1_isBestAgainst_21 : decode cX1_isBestAgainst 21 = .ok (.invokevirtual 77, 3) := by decide +kernel
theorem dX1_isBestAgainst_24 : decode cX1_isBestAgainst 24 = .ok (.iload_n 3, 1) := by decide +kernel
theorem dX1_isBestAgainst_25 : decode cX1_isBestAgainst 25 = .ok (.if_icmp .le 5, 3) := by decide +kernel
theorem dX1_isBestAgainst_28 : decode cX1_isBestAgainst 28 = .ok (.iconst 0, 1) := by decide +kernel
theorem dX1_isBestAgainst_29 : decode cX1_isBestAgainst 29 = .ok (.ireturn, 1) := by decide +kernel
theorem dX1_isBestAgainst_30 : decode cX1_isBestAgainst 30 = .ok (.iinc 4 1, 3) := by decide +kernel
theorem dX1_isBestAgainst_33 : decode cX1_isBestAgainst 33 = .ok (.goto (-23), 3) := by decide +kernel
theorem dX1_isBestAgainst_36 : decode cX1_isBestAgainst 36 = .ok (.iconst 1, 1) := by decide +kernel
theorem dX1_isBestAgainst_37 : decode cX1_isBestAgainst 37 = .ok (.ireturn, 1) := by decide +kernel
theorem dX1_getsAgainst_0 : decode cX1_getsAgainst 0 = .ok (.aload_n 0, 1) := by decide +kernel
theorem dX1_getsAgainst_1 : decode cX1_getsAgainst 1 = .ok (.getfield 18, 3) := by decide +kernel
theorem dX1_getsAgainst_4 : decode cX1_getsAgainst 4 = .ok (.iload_n 1, 1) := by decide +kernel
theorem dX1_getsAgainst_5 : decode cX1_getsAgainst 5 = .ok (.iaload, 1) := by decide +kernel
theorem dX1_getsAgainst_6 : decode cX1_getsAgainst 6 = .ok (.bipush 61, 2) := by decide +kernel
theorem dX1_getsAgainst_8 : decode cX1_getsAgainst 8 = .ok (.if_icmp .ne 5, 3) := by decide +kernel
theorem dX1_getsAgainst_11 : decode cX1_getsAgainst 11 = .ok (.iconst 0, 1) := by decide +kernel
theorem dX1_getsAgainst_12 : decode cX1_getsAgainst 12 = .ok (.ireturn, 1) := by decide +kernel
theorem dX1_getsAgainst_13 : decode cX1_getsAgainst 13 = .ok (.iload_n 1, 1) := by decide +kernel
theorem dX1_getsAgainst_14 : decode cX1_getsAgainst 14 = .ok (.iload_n 2, 1) := by decide +kernel
theorem dX1_getsAgainst_15 : decode cX1_getsAgainst 15 = .ok (.if_icmp .le 14, 3) := by decide +kernel
theorem dX1_getsAgainst_18 : decode cX1_getsAgainst 18 = .ok (.iload_n 1, 1) := by decide +kernel
theorem dX1_getsAgainst_19 : decode cX1_getsAgainst 19 = .ok (.iload_n 2, 1) := by decide +kernel
theorem dX1_getsAgainst_20 : decode cX1_getsAgainst 20 = .ok (.isub, 1) := by decide +kernel
theorem dX1_getsAgainst_21 : decode cX1_getsAgainst 21 = .ok (.iconst 2, 1) := by decide +kernel
theorem dX1_getsAgainst_22 : decode cX1_getsAgainst 22 = .ok (.if_icmp .gt 7, 3) := by decide +kernel
theorem dX1_getsAgainst_25 : decode cX1_getsAgainst 25 = .ok (.iconst 1, 1) := by decide +kernel
theorem dX1_getsAgainst_26 : decode cX1_getsAgainst 26 = .ok (.goto 4, 3) := by decide +kernel
theorem dX1_getsAgainst_29 : decode cX1_getsAgainst 29 = .ok (.iconst 0, 1) := by decide +kernel
theorem dX1_getsAgainst_30 : decode cX1_getsAgainst 30 = .ok (.istore_n 3, 1) := by decide +kernel
theorem dX1_getsAgainst_31 : decode cX1_getsAgainst 31 = .ok (.bipush 100, 2) := by decide +kernel
theorem dX1_getsAgainst_33 : decode cX1_getsAgainst 33 = .ok (.aload_n 0, 1) := by decide +kernel
theorem dX1_getsAgainst_34 : decode cX1_getsAgainst 34 = .ok (.getfield 18, 3) := by decide +kernel
theorem dX1_getsAgainst_37 : decode cX1_getsAgainst 37 = .ok (.iload_n 1, 1) := by decide +kernel
theorem dX1_getsAgainst_38 : decode cX1_getsAgainst 38 = .ok (.iaload, 1) := by decide +kernel
theorem dX1_getsAgainst_39 : decode cX1_getsAgainst 39 = .ok (.isub, 1) := by decide +kernel
theorem dX1_getsAgainst_40 : decode cX1_getsAgainst 40 = .ok (.iload_n 3, 1) := by decide +kernel
theorem dX1_getsAgainst_41 : decode cX1_getsAgainst 41 = .ok (.ifCond .eq 7, 3) := by decide +kernel
theorem dX1_getsAgainst_44 : decode cX1_getsAgainst 44 = .ok (.iconst 4, 1) := by decide +kernel
theorem dX1_getsAgainst_45 : decode cX1_getsAgainst 45 = .ok (.goto 4, 3) := by decide +kernel
theorem dX1_getsAgainst_48 : decode cX1_getsAgainst 48 = .ok (.iconst 0, 1) := by decide +kernel
theorem dX1_getsAgainst_49 : decode cX1_getsAgainst 49 = .ok (.isub, 1) := by decide +kernel
theorem dX1_getsAgainst_50 : decode cX1_getsAgainst 50 = .ok (.ireturn, 1) := by decide +kernel
theorem dX1_minutesOfDays_0 : decode cX1_minutesOfDays 0 = .ok (.iload_n 2, 1) := by decide +kernel
theorem dX1_minutesOfDays_1 : decode cX1_minutesOfDays 1 = .ok (.i2l, 1) := by decide +kernel
theorem dX1_minutesOfDays_2 : decode cX1_minutesOfDays 2 = .ok (.lstore 5, 2) := by decide +kernel
theorem dX1_minutesOfDays_4 : decode cX1_minutesOfDays 4 = .ok (.iconst 0, 1) := by decide +kernel
theorem dX1_minutesOfDays_5 : decode cX1_minutesOfDays 5 = .ok (.istore 7, 2) := by decide +kernel
theorem dX1_minutesOfDays_7 : decode cX1_minutesOfDays 7 = .ok (.iconst 0, 1) := by decide +kernel
theorem dX1_minutesOfDays_8 : decode cX1_minutesOfDays 8 = .ok (.istore 8, 2) := by decide +kernel
theorem dX1_minutesOfDays_10 : decode cX1_minutesOfDays 10 = .ok (.iload 8, 2) := by decide +kernel
theorem dX1_minutesOfDays_12 : decode cX1_minutesOfDays 12 = .ok (.iload_n 3, 1) := by decide +kernel
theorem dX1_minutesOfDays_13 : decode cX1_minutesOfDays 13 = .ok (.if_icmp .ge 85, 3) := by decide +kernel
theorem dX1_minutesOfDays_16 : decode cX1_minutesOfDays 16 = .ok (.iconst 0, 1) := by decide +kernel
theorem dX1_minutesOfDays_17 : decode cX1_minutesOfDays 17 = .ok (.istore 9, 2) := by decide +kernel
theorem dX1_minutesOfDays_19 : decode cX1_minutesOfDays 19 = .ok (.iconst 0, 1) := by decide +kernel
theorem dX1_minutesOfDays_20 : decode cX1_minutesOfDays 20 = .ok (.istore 10, 2) := by decide +kernel
theorem dX1_minutesOfDays_22 : decode cX1_minutesOfDays 22 = .ok (.iload 10, 2) := by decide +kernel
theorem dX1_minutesOfDays_24 : decode cX1_minutesOfDays 24 = .ok (.aload_n 1, 1) := by decide +kernel
theorem dX1_minutesOfDays_25 : decode cX1_minutesOfDays 25 = .ok (.getfield 67, 3) := by decide +kernel
theorem dX1_minutesOfDays_28 : decode cX1_minutesOfDays 28 = .ok (.if_icmp .ge 51, 3) := by decide +kernel
theorem dX1_minutesOfDays_31 : decode cX1_minutesOfDays 31 = .ok (.lload 5, 2) := by decide +kernel
theorem dX1_minutesOfDays_33 : decode cX1_minutesOfDays 33 = .ok (.ldc2_w 80, 3) := by decide +kernel
theorem dX1_minutesOfDays_36 : decode cX1_minutesOfDays 36 = .ok (.lmul, 1) := by decide +kernel
theorem dX1_minutesOfDays_37 : decode cX1_minutesOfDays 37 = .ok (.ldc2_w 82, 3) := by decide +kernel
theorem dX1_minutesOfDays_40 : decode cX1_minutesOfDays 40 = .ok (.ladd, 1) := by decide +kernel
theorem dX1_minutesOfDays_41 : decode cX1_minutesOfDays 41 = .ok (.ldc2_w 84, 3) := by decide +kernel
theorem dX1_minutesOfDays_44 : decode cX1_minutesOfDays 44 = .ok (.lrem, 1) := by decide +kernel
theorem dX1_minutesOfDays_45 : decode cX1_minutesOfDays 45 = .ok (.lstore 5, 2) := by decide +kernel
theorem dX1_minutesOfDays_47 : decode cX1_minutesOfDays 47 = .ok (.lload 5, 2) := by decide +kernel
theorem dX1_minutesOfDays_49 : decode cX1_minutesOfDays 49 = .ok (.ldc2_w 86, 3) := by decide +kernel
theorem dX1_minutesOfDays_52 : decode cX1_minutesOfDays 52 = .ok (.ldiv, 1) := by decide +kernel
theorem dX1_minutesOfDays_53 : decode cX1_minutesOfDays 53 = .ok (.ldc2_w 88, 3) := by decide +kernel
theorem dX1_minutesOfDays_56 : decode cX1_minutesOfDays 56 = .ok (.lrem, 1) := by decide +kernel
theorem dX1_minutesOfDays_57 : decode cX1_minutesOfDays 57 = .ok (.iload 4, 2) := by decide +kernel
theorem dX1_minutesOfDays_59 : decode cX1_minutesOfDays 59 = .ok (.i2l, 1) := by decide +kernel
theorem dX1_minutesOfDays_60 : decode cX1_minutesOfDays 60 = .ok (.lcmp, 1) := by decide +kernel
theorem dX1_minutesOfDays_61 : decode cX1_minutesOfDays 61 = .ok (.ifCond .lt 12, 3) := by decide +kernel
theorem dX1_minutesOfDays_64 : decode cX1_minutesOfDays 64 = .ok (.iload 9, 2) := by decide +kernel
theorem dX1_minutesOfDays_66 : decode cX1_minutesOfDays 66 = .ok (.iconst 1, 1) := by decide +kernel
theorem dX1_minutesOfDays_67 : decode cX1_minutesOfDays 67 = .ok (.iload 10, 2) := by decide +kernel
theorem dX1_minutesOfDays_69 : decode cX1_minutesOfDays 69 = .ok (.ishl, 1) := by decide +kernel
theorem dX1_minutesOfDays_70 : decode cX1_minutesOfDays 70 = .ok (.ior, 1) := by decide +kernel
theorem dX1_minutesOfDays_71 : decode cX1_minutesOfDays 71 = .ok (.istore 9, 2) := by decide +kernel
theorem dX1_minutesOfDays_73 : decode cX1_minutesOfDays 73 = .ok (.iinc 10 1, 3) := by decide +kernel
theorem dX1_minutesOfDays_76 : decode cX1_minutesOfDays 76 = .ok (.goto (-54), 3) := by decide +kernel
theorem dX1_minutesOfDays_79 : decode cX1_minutesOfDays 79 = .ok (.iload 7, 2) := by decide +kernel
theorem dX1_minutesOfDays_81 : decode cX1_minutesOfDays 81 = .ok (.aload_n 0, 1) := by decide +kernel
theorem dX1_minutesOfDays_82 : decode cX1_minutesOfDays 82 = .ok (.aload_n 1, 1) := by decide +kernel
theorem dX1_minutesOfDays_83 : decode cX1_minutesOfDays 83 = .ok (.iload 9, 2) := by decide +kernel
theorem dX1_minutesOfDays_85 : decode cX1_minutesOfDays 85 = .ok (.iconst 0, 1) := by decide +kernel
theorem dX1_minutesOfDays_86 : decode cX1_minutesOfDays 86 = .ok (.invokevirtual 45, 3) := by decide +kernel
theorem dX1_minutesOfDays_89 : decode cX1_minutesOfDays 89 = .ok (.iadd, 1) := by decide +kernel
theorem dX1_minutesOfDays_90 : decode cX1_minutesOfDays 90 = .ok (.istore 7, 2) := by decide +kernel
theorem dX1_minutesOfDays_92 : decode cX1_minutesOfDays 92 = .ok (.iinc 8 1, 3) := by decide +kernel
theorem dX1_minutesOfDays_95 : decode cX1_minutesOfDays 95 = .ok (.goto (-85), 3) := by decide +kernel
theorem dX1_minutesOfDays_98 : decode cX1_minutesOfDays 98 = .ok (.iload 7, 2) := by decide +kernel
theorem dX1_minutesOfDays_100 : decode cX1_minutesOfDays 100 = .ok (.ireturn, 1) := by decide +kernel
theorem dX2_init_0 : decode cX2_init 0 = .ok (.aload_n 0, 1) := by decide +kernel
theorem dX2_init_1 : decode cX2_init 1 = .ok (.invokespecial 3, 3) := by decide +kernel
theorem dX2_init_4 : decode cX2_init 4 = .ok (.return_, 1) := by decide +kernel
theorem dX2_highIn_0 : decode cX2_highIn 0 = .ok (.bipush 9, 2) := by decide +kernel
theorem dX2_highIn_2 : decode cX2_highIn 2 = .ok (.aload_n 0, 1) := by decide +kernel
theorem dX2_highIn_3 : decode cX2_highIn 3 = .ok (.iload_n 1, 1) := by decide +kernel
theorem dX2_highIn_4 : decode cX2_highIn 4 = .ok (.iload_n 2, 1) := by decide +kernel
theorem dX2_highIn_5 : decode cX2_highIn 5 = .ok (.invokespecial 9, 3) := by decide +kernel
theorem dX2_highIn_8 : decode cX2_highIn 8 = .ok (.iload_n 2, 1) := by decide +kernel
theorem dX2_highIn_9 : decode cX2_highIn 9 = .ok (.bipush 15, 2) := by decide +kernel
theorem dX2_highIn_11 : decode cX2_highIn 11 = .ok (.idiv, 1) := by decide +kernel
theorem dX2_highIn_12 : decode cX2_highIn 12 = .ok (.iadd, 1) := by decide +kernel
theorem dX2_highIn_13 : decode cX2_highIn 13 = .ok (.invokestatic 13, 3) := by decide +kernel
theorem dX2_highIn_16 : decode cX2_highIn 16 = .ok (.ireturn, 1) := by decide +kernel
theorem dX3_init_0 : decode cX3_init 0 = .ok (.aload_n 0, 1) := by decide +kernel
theorem dX3_init_1 : decode cX3_init 1 = .ok (.invokespecial 3, 3) := by decide +kernel
theorem dX3_init_4 : decode cX3_init 4 = .ok (.return_, 1) := by decide +kernel
theorem dX3_highIn_0 : decode cX3_highIn 0 = .ok (.bipush 9, 2) := by decide +kernel
theorem dX3_highIn_2 : decode cX3_highIn 2 = .ok (.aload_n 0, 1) := by decide +kernel
theorem dX3_highIn_3 : decode cX3_highIn 3 = .ok (.iload_n 1, 1) := by decide +kernel
theorem dX3_highIn_4 : decode cX3_highIn 4 = .ok (.iload_n 2, 1) := by decide +kernel
theorem dX3_highIn_5 : decode cX3_highIn 5 = .ok (.invokespecial 9, 3) := by decide +kernel
theorem dX3_highIn_8 : decode cX3_highIn 8 = .ok (.iconst 2, 1) := by decide +kernel
theorem dX3_highIn_9 : decode cX3_highIn 9 = .ok (.iadd, 1) := by decide +kernel
theorem dX3_highIn_10 : decode cX3_highIn 10 = .ok (.invokestatic 13, 3) := by decide +kernel
theorem dX3_highIn_13 : decode cX3_highIn 13 = .ok (.ireturn, 1) := by decide +kernel
theorem dX4_init_0 : decode cX4_init 0 = .ok (.aload_n 0, 1) := by decide +kernel
theorem dX4_init_1 : decode cX4_init 1 = .ok (.invokespecial 3, 3) := by decide +kernel
theorem dX4_init_4 : decode cX4_init 4 = .ok (.aload_n 0, 1) := by decide +kernel
theorem dX4_init_5 : decode cX4_init 5 = .ok (.new 9, 3) := by decide +kernel
theorem dX4_init_8 : decode cX4_init 8 = .ok (.dup, 1) := by decide +kernel
theorem dX4_init_9 : decode cX4_init 9 = .ok (.invokespecial 11, 3) := by decide +kernel
theorem dX4_init_12 : decode cX4_init 12 = .ok (.putfield 12, 3) := by decide +kernel
theorem dX4_init_15 : decode cX4_init 15 = .ok (.aload_n 0, 1) := by decide +kernel
theorem dX4_init_16 : decode cX4_init 16 = .ok (.new 18, 3) := by decide +kernel
theorem dX4_init_19 : decode cX4_init 19 = .ok (.dup, 1) := by decide +kernel
theorem dX4_init_20 : decode cX4_init 20 = .ok (.invokespecial 20, 3) := by decide +kernel
theorem dX4_init_23 : decode cX4_init 23 = .ok (.putfield 21, 3) := by decide +kernel
theorem dX4_init_26 : decode cX4_init 26 = .ok (.aload_n 0, 1) := by decide +kernel
theorem dX4_init_27 : decode cX4_init 27 = .ok (.new 24, 3) := by decide +kernel
theorem dX4_init_30 : decode cX4_init 30 = .ok (.dup, 1) := by decide +kernel
theorem dX4_init_31 : decode cX4_init 31 = .ok (.invokespecial 26, 3) := by decide +kernel
theorem dX4_init_34 : decode cX4_init 34 = .ok (.putfield 27, 3) := by decide +kernel
theorem dX4_init_37 : decode cX4_init 37 = .ok (.aload_n 0, 1) := by decide +kernel
theorem dX4_init_38 : decode cX4_init 38 = .ok (.new 30, 3) := by decide +kernel
theorem dX4_init_41 : decode cX4_init 41 = .ok (.dup, 1) := by decide +kernel
theorem dX4_init_42 : decode cX4_init 42 = .ok (.invokespecial 32, 3) := by decide +kernel
theorem dX4_init_45 : decode cX4_init 45 = .ok (.putfield 33, 3) := by decide +kernel
theorem dX4_init_48 : decode cX4_init 48 = .ok (.aload_n 0, 1) := by decide +kernel
theorem dX4_init_49 : decode cX4_init 49 = .ok (.new 36, 3) := by decide +kernel
theorem dX4_init_52 : decode cX4_init 52 = .ok (.dup, 1) := by decide +kernel
theorem dX4_init_53 : decode cX4_init 53 = .ok (.invokespecial 38, 3) := by decide +kernel
theorem dX4_init_56 : decode cX4_init 56 = .ok (.putfield 39, 3) := by decide +kernel
theorem dX4_init_59 : decode cX4_init 59 = .ok (.aload_n 0, 1) := by decide +kernel
theorem dX4_init_60 : decode cX4_init 60 = .ok (.new 42, 3) := by decide +kernel
theorem dX4_init_63 : decode cX4_init 63 = .ok (.dup, 1) := by decide +kernel
theorem dX4_init_64 : decode cX4_init 64 = .ok (.invokespecial 44, 3) := by decide +kernel
theorem dX4_init_67 : decode cX4_init 67 = .ok (.putfield 45, 3) := by decide +kernel
theorem dX4_init_70 : decode cX4_init 70 = .ok (.aload_n 0, 1) := by decide +kernel
theorem dX4_init_71 : decode cX4_init 71 = .ok (.bipush 6, 2) := by decide +kernel
theorem dX4_init_73 : decode cX4_init 73 = .ok (.newarray .int, 2) := by decide +kernel
theorem dX4_init_75 : decode cX4_init 75 = .ok (.putfield 48, 3) := by decide +kernel
theorem dX4_init_78 : decode cX4_init 78 = .ok (.aload_n 0, 1) := by decide +kernel
theorem dX4_init_79 : decode cX4_init 79 = .ok (.bipush 6, 2) := by decide +kernel
theorem dX4_init_81 : decode cX4_init 81 = .ok (.newarray .int, 2) := by decide +kernel
theorem dX4_init_83 : decode cX4_init 83 = .ok (.putfield 52, 3) := by decide +kernel
theorem dX4_init_86 : decode cX4_init 86 = .ok (.return_, 1) := by decide +kernel
theorem dX4_kindOf_0 : decode cX4_kindOf 0 = .ok (.iload_n 1, 1) := by decide +kernel
theorem dX4_kindOf_1 : decode cX4_kindOf 1 = .ok (.tableswitch 60 1 5 #[35, 40, 45, 50, 55], 35) := by decide +kernel
theorem dX4_kindOf_36 : decode cX4_kindOf 36 = .ok (.aload_n 0, 1) := by decide +kernel
theorem dX4_kindOf_37 : decode cX4_kindOf 37 = .ok (.getfield 21, 3) := by decide +kernel
theorem dX4_kindOf_40 : decode cX4_kindOf 40 = .ok (.areturn, 1) := by decide +kernel
theorem dX4_kindOf_41 : decode cX4_kindOf 41 = .ok (.aload_n 0, 1) := by decide +kernel
theorem dX4_kindOf_42 : decode cX4_kindOf 42 = .ok (.getfield 27, 3) := by decide +kernel
theorem dX4_kindOf_45 : decode cX4_kindOf 45 = .ok (.areturn, 1) := by decide +kernel
theorem dX4_kindOf_46 : decode cX4_kindOf 46 = .ok (.aload_n 0, 1) := by decide +kernel
theorem dX4_kindOf_47 : decode cX4_kindOf 47 = .ok (.getfield 33, 3) := by decide +kernel
theorem dX4_kindOf_50 : decode cX4_kindOf 50 = .ok (.areturn, 1) := by decide +kernel
theorem dX4_kindOf_51 : decode cX4_kindOf 51 = .ok (.aload_n 0, 1) := by decide +kernel
theorem dX4_kindOf_52 : decode cX4_kindOf 52 = .ok (.getfield 39, 3) := by decide +kernel
theorem dX4_kindOf_55 : decode cX4_kindOf 55 = .ok (.areturn, 1) := by decide +kernel
theorem dX4_kindOf_56 : decode cX4_kindOf 56 = .ok (.aload_n 0, 1) := by decide +kernel
theorem dX4_kindOf_57 : decode cX4_kindOf 57 = .ok (.getfield 45, 3) := by decide +kernel
theorem dX4_kindOf_60 : decode cX4_kindOf 60 = .ok (.areturn, 1) := by decide +kernel
theorem dX4_kindOf_61 : decode cX4_kindOf 61 = .ok (.aload_n 0, 1) := by decide +kernel
theorem dX4_kindOf_62 : decode cX4_kindOf 62 = .ok (.getfield 12, 3) := by decide +kernel
theorem dX4_kindOf_65 : decode cX4_kindOf 65 = .ok (.areturn, 1) := by decide +kernel
theorem dX4_see_0 : decode cX4_see 0 = .ok (.iconst 0, 1) := by decide +kernel
theorem dX4_see_1 : decode cX4_see 1 = .ok (.istore_n 3, 1) := by decide +kernel
theorem dX4_see_2 : decode cX4_see 2 = .ok (.iload_n 3, 1) := by decide +kernel
theorem dX4_see_3 : decode cX4_see 3 = .ok (.aload_n 1, 1) := by decide +kernel
theorem dX4_see_4 : decode cX4_see 4 = .ok (.getfield 55, 3) := by decide +kernel
theorem dX4_see_7 : decode cX4_see 7 = .ok (.if_icmp .ge 77, 3) := by decide +kernel
theorem dX4_see_10 : decode cX4_see 10 = .ok (.aload_n 0, 1) := by decide +kernel
theorem dX4_see_11 : decode cX4_see 11 = .ok (.aload_n 1, 1) := by decide +kernel
theorem dX4_see_12 : decode cX4_see 12 = .ok (.getfield 61, 3) := by decide +kernel
theorem dX4_see_15 : decode cX4_see 15 = .ok (.iload_n 3, 1) := by decide +kernel
theorem dX4_see_16 : decode cX4_see 16 = .ok (.iaload, 1) := by decide +kernel
theorem dX4_see_17 : decode cX4_see 17 = .ok (.invokevirtual 64, 3) := by decide +kernel
theorem dX4_see_20 : decode cX4_see 20 = .ok (.astore 4, 2) := by decide +kernel
theorem dX4_see_22 : decode cX4_see 22 = .ok (.aload_n 0, 1) := by decide +kernel
theorem dX4_see_23 : decode cX4_see 23 = .ok (.getfield 48, 3) := by decide +kernel
theorem dX4_see_26 : decode cX4_see 26 = .ok (.iload_n 3, 1) := by decide +kernel
theorem dX4_see_27 : decode cX4_see 27 = .ok (.aload 4, 2) := by decide +kernel
theorem dX4_see_29 : decode cX4_see 29 = .ok (.aload_n 1, 1) := by decide +kernel
theorem dX4_see_30 : decode cX4_see 30 = .ok (.getfield 68, 3) := by decide +kernel
theorem dX4_see_33 : decode cX4_see 33 = .ok (.iload_n 3, 1) := by decide +kernel
theorem dX4_see_34 : decode cX4_see 34 = .ok (.iaload, 1) := by decide +kernel
theorem dX4_see_35 : decode cX4_see 35 = .ok (.aload_n 1, 1) := by decide +kernel
theorem dX4_see_36 : decode cX4_see 36 = .ok (.getfield 71, 3) := by decide +kernel
theorem dX4_see_39 : decode cX4_see 39 = .ok (.iload_n 3, 1) := by decide +kernel
theorem dX4_see_40 : decode cX4_see 40 = .ok (.iaload, 1) := by decide +kernel
theorem dX4_see_41 : decode cX4_see 41 = .ok (.iload_n 2, 1) := by decide +kernel
theorem dX4_see_42 : decode cX4_see 42 = .ok (.invokevirtual 74, 3) := by decide +kernel
theorem dX4_see_45 : decode cX4_see 45 = .ok (.iastore, 1) := by decide +kernel
theorem dX4_see_46 : decode cX4_see 46 = .ok (.aload_n 0, 1) := by decide +kernel
theorem dX4_see_47 : decode cX4_see 47 = .ok (.getfield 52, 3) := by decide +kernel
theorem dX4_see_50 : decode cX4_see 50 = .ok (.iload_n 3, 1) := by decide +kernel
theorem dX4_see_51 : decode cX4_see 51 = .ok (.iload_n 2, 1) := by decide +kernel
theorem dX4_see_52 : decode cX4_see 52 = .ok (.aload_n 1, 1) := by decide +kernel
theorem dX4_see_53 : decode cX4_see 53 = .ok (.getfield 78, 3) := by decide +kernel
theorem dX4_see_56 : decode cX4_see 56 = .ok (.iload_n 3, 1) := by decide +kernel
theorem dX4_see_57 : decode cX4_see 57 = .ok (.iaload, 1) := by decide +kernel
theorem dX4_see_58 : decode cX4_see 58 = .ok (.if_icmp .ge 18, 3) := by decide +kernel
theorem dX4_see_61 : decode cX4_see 61 = .ok (.aload 4, 2) := by decide +kernel
theorem dX4_see_63 : decode cX4_see 63 = .ok (.aload_n 1, 1) := by decide +kernel
theorem dX4_see_64 : decode cX4_see 64 = .ok (.getfield 81, 3) := by decide +kernel
theorem dX4_see_67 : decode cX4_see 67 = .ok (.iload_n 3, 1) := by decide +kernel
theorem dX4_see_68 : decode cX4_see 68 = .ok (.iaload, 1) := by decide +kernel
theorem dX4_see_69 : decode cX4_see 69 = .ok (.iload_n 2, 1) := by decide +kernel
theorem dX4_see_70 : decode cX4_see 70 = .ok (.invokevirtual 84, 3) := by decide +kernel
theorem dX4_see_73 : decode cX4_see 73 = .ok (.goto 4, 3) := by decide +kernel
theorem dX4_see_76 : decode cX4_see 76 = .ok (.iconst 0, 1) := by decide +kernel
theorem dX4_see_77 : decode cX4_see 77 = .ok (.iastore, 1) := by decide +kernel
theorem dX4_see_78 : decode cX4_see 78 = .ok (.iinc 3 1, 3) := by decide +kernel
theorem dX4_see_81 : decode cX4_see 81 = .ok (.goto (-79), 3) := by decide +kernel
theorem dX4_see_84 : decode cX4_see 84 = .ok (.return_, 1) := by decide +kernel
theorem dX4_limitIn_0 : decode cX4_limitIn 0 = .ok (.aload_n 1, 1) := by decide +kernel
theorem dX4_limitIn_1 : decode cX4_limitIn 1 = .ok (.getfield 88, 3) := by decide +kernel
theorem dX4_limitIn_4 : decode cX4_limitIn 4 = .ok (.iconst 1, 1) := by decide +kernel
theorem dX4_limitIn_5 : decode cX4_limitIn 5 = .ok (.if_icmp .ne 11, 3) := by decide +kernel
theorem dX4_limitIn_8 : decode cX4_limitIn 8 = .ok (.aload_n 0, 1) := by decide +kernel
theorem dX4_limitIn_9 : decode cX4_limitIn 9 = .ok (.aload_n 1, 1) := by decide +kernel
theorem dX4_limitIn_10 : decode cX4_limitIn 10 = .ok (.iload_n 2, 1) := by decide +kernel
theorem dX4_limitIn_11 : decode cX4_limitIn 11 = .ok (.iload_n 3, 1) := by decide +kernel
theorem dX4_limitIn_12 : decode cX4_limitIn 12 = .ok (.invokevirtual 91, 3) := by decide +kernel
theorem dX4_limitIn_15 : decode cX4_limitIn 15 = .ok (.ireturn, 1) := by decide +kernel
theorem dX4_limitIn_16 : decode cX4_limitIn 16 = .ok (.aload_n 0, 1) := by decide +kernel
theorem dX4_limitIn_17 : decode cX4_limitIn 17 = .ok (.aload_n 1, 1) := by decide +kernel
theorem dX4_limitIn_18 : decode cX4_limitIn 18 = .ok (.iload_n 2, 1) := by decide +kernel
theorem dX4_limitIn_19 : decode cX4_limitIn 19 = .ok (.iload_n 3, 1) := by decide +kernel
theorem dX4_limitIn_20 : decode cX4_limitIn 20 = .ok (.iconst (-1), 1) := by decide +kernel
theorem dX4_limitIn_21 : decode cX4_limitIn 21 = .ok (.invokevirtual 95, 3) := by decide +kernel
theorem dX4_limitIn_24 : decode cX4_limitIn 24 = .ok (.istore 4, 2) := by decide +kernel
theorem dX4_limitIn_26 : decode cX4_limitIn 26 = .ok (.iload 4, 2) := by decide +kernel
theorem dX4_limitIn_28 : decode cX4_limitIn 28 = .ok (.ldc 99, 2) := by decide +kernel
theorem dX4_limitIn_30 : decode cX4_limitIn 30 = .ok (.if_icmp .ne 6, 3) := by decide +kernel
theorem dX4_limitIn_33 : decode cX4_limitIn 33 = .ok (.bipush 9, 2) := by decide +kernel
theorem dX4_limitIn_35 : decode cX4_limitIn 35 = .ok (.ireturn, 1) := by decide +kernel
theorem dX4_limitIn_36 : decode cX4_limitIn 36 = .ok (.aload_n 1, 1) := by decide +kernel
theorem dX4_limitIn_37 : decode cX4_limitIn 37 = .ok (.getfield 88, 3) := by decide +kernel
theorem dX4_limitIn_40 : decode cX4_limitIn 40 = .ok (.ifCond .ne 9, 3) := by decide +kernel
theorem dX4_limitIn_43 : decode cX4_limitIn 43 = .ok (.iload 4, 2) := by decide +kernel
theorem dX4_limitIn_45 : decode cX4_limitIn 45 = .ok (.invokestatic 100, 3) := by decide +kernel
theorem dX4_limitIn_48 : decode cX4_limitIn 48 = .ok (.ireturn, 1) := by decide +kernel
theorem dX4_limitIn_49 : decode cX4_limitIn 49 = .ok (.aload_n 0, 1) := by decide +kernel
theorem dX4_limitIn_50 : decode cX4_limitIn 50 = .ok (.aload_n 1, 1) := by decide +kernel
theorem dX4_limitIn_51 : decode cX4_limitIn 51 = .ok (.iload_n 2, 1) := by decide +kernel
theorem dX4_limitIn_52 : decode cX4_limitIn 52 = .ok (.iload_n 3, 1) := by decide +kernel
theorem dX4_limitIn_53 : decode cX4_limitIn 53 = .ok (.iload 4, 2) := by decide +kernel
theorem dX4_limitIn_55 : decode cX4_limitIn 55 = .ok (.invokevirtual 95, 3) := by decide +kernel
theorem dX4_limitIn_58 : decode cX4_limitIn 58 = .ok (.istore 5, 2) := by decide +kernel
theorem dX4_limitIn_60 : decode cX4_limitIn 60 = .ok (.iload 5, 2) := by decide +kernel
theorem dX4_limitIn_62 : decode cX4_limitIn 62 = .ok (.ldc 99, 2) := by decide +kernel
theorem dX4_limitIn_64 : decode cX4_limitIn 64 = .ok (.if_icmp .ne 9, 3) := by decide +kernel
theorem dX4_limitIn_67 : decode cX4_limitIn 67 = .ok (.iload 4, 2) := by decide +kernel
theorem dX4_limitIn_69 : decode cX4_limitIn 69 = .ok (.invokestatic 100, 3) := by decide +kernel
theorem dX4_limitIn_72 : decode cX4_limitIn 72 = .ok (.ireturn, 1) := by decide +kernel
theorem dX4_limitIn_73 : decode cX4_limitIn 73 = .ok (.iload 4, 2) := by decide +kernel
theorem dX4_limitIn_75 : decode cX4_limitIn 75 = .ok (.invokestatic 100, 3) := by decide +kernel
theorem dX4_limitIn_78 : decode cX4_limitIn 78 = .ok (.iload 5, 2) := by decide +kernel
theorem dX4_limitIn_80 : decode cX4_limitIn 80 = .ok (.invokestatic 100, 3) := by decide +kernel
theorem dX4_limitIn_83 : decode cX4_limitIn 83 = .ok (.iadd, 1) := by decide +kernel
theorem dX4_limitIn_84 : decode cX4_limitIn 84 = .ok (.iconst 2, 1) := by decide +kernel
theorem dX4_limitIn_85 : decode cX4_limitIn 85 = .ok (.idiv, 1) := by decide +kernel
theorem dX4_limitIn_86 : decode cX4_limitIn 86 = .ok (.ireturn, 1) := by decide +kernel
theorem dX4_nearestChild_0 : decode cX4_nearestChild 0 = .ok (.aload_n 0, 1) := by decide +kernel
theorem dX4_nearestChild_1 : decode cX4_nearestChild 1 = .ok (.aload_n 1, 1) := by decide +kernel
theorem dX4_nearestChild_2 : decode cX4_nearestChild 2 = .ok (.aload_n 1, 1) := by decide +kernel
theorem dX4_nearestChild_3 : decode cX4_nearestChild 3 = .ok (.invokevirtual 104, 3) := by decide +kernel
theorem dX4_nearestChild_6 : decode cX4_nearestChild 6 = .ok (.iload_n 2, 1) := by decide +kernel
theorem dX4_nearestChild_7 : decode cX4_nearestChild 7 = .ok (.iconst (-1), 1) := by decide +kernel
theorem dX4_nearestChild_8 : decode cX4_nearestChild 8 = .ok (.invokevirtual 95, 3) := by decide +kernel
theorem dX4_nearestChild_11 : decode cX4_nearestChild 11 = .ok (.istore_n 3, 1) := by decide +kernel
theorem dX4_nearestChild_12 : decode cX4_nearestChild 12 = .ok (.iload_n 3, 1) := by decide +kernel
theorem dX4_nearestChild_13 : decode cX4_nearestChild 13 = .ok (.ldc 99, 2) := by decide +kernel
theorem dX4_nearestChild_15 : decode cX4_nearestChild 15 = .ok (.if_icmp .ne 7, 3) := by decide +kernel
theorem dX4_nearestChild_18 : decode cX4_nearestChild 18 = .ok (.iconst (-1), 1) := by decide +kernel
theorem dX4_nearestChild_19 : decode cX4_nearestChild 19 = .ok (.goto 7, 3) := by decide +kernel
theorem dX4_nearestChild_22 : decode cX4_nearestChild 22 = .ok (.iload_n 3, 1) := by decide +kernel
theorem dX4_nearestChild_23 : decode cX4_nearestChild 23 = .ok (.bipush 8, 2) := by decide +kernel
theorem dX4_nearestChild_25 : decode cX4_nearestChild 25 = .ok (.irem, 1) := by decide +kernel
theorem dX4_nearestChild_26 : decode cX4_nearestChild 26 = .ok (.ireturn, 1) := by decide +kernel
theorem dX4_outBetween_0 : decode cX4_outBetween 0 = .ok (.iconst 0, 1) := by decide +kernel
theorem dX4_outBetween_1 : decode cX4_outBetween 1 = .ok (.istore 4, 2) := by decide +kernel
theorem dX4_outBetween_3 : decode cX4_outBetween 3 = .ok (.iconst 0, 1) := by decide +kernel
theorem dX4_outBetween_4 : decode cX4_outBetween 4 = .ok (.istore 5, 2) := by decide +kernel
theorem dX4_outBetween_6 : decode cX4_outBetween 6 = .ok (.iload 5, 2) := by decide +kernel
theorem dX4_outBetween_8 : decode cX4_outBetween 8 = .ok (.aload_n 1, 1) := by decide +kernel
theorem dX4_outBetween_9 : decode cX4_outBetween 9 = .ok (.getfield 55, 3) := by decide +kernel
theorem dX4_outBetween_12 : decode cX4_outBetween 12 = .ok (.if_icmp .ge 50, 3) := by decide +kernel
theorem dX4_outBetween_15 : decode cX4_outBetween 15 = .ok (.aload_n 0, 1) := by decide +kernel
theorem dX4_outBetween_16 : decode cX4_outBetween 16 = .ok (.getfield 52, 3) := by decide +kernel
theorem dX4_outBetween_19 : decode cX4_outBetween 19 = .ok (.iload 5, 2) := by decide +kernel
theorem dX4_outBetween_21 : decode cX4_outBetween 21 = .ok (.iaload, 1) := by decide +kernel
theorem dX4_outBetween_22 : decode cX4_outBetween 22 = .ok (.ifCond .le 34, 3) := by decide +kernel
theorem dX4_outBetween_25 : decode cX4_outBetween 25 = .ok (.aload_n 0, 1) := by decide +kernel
theorem dX4_outBetween_26 : decode cX4_outBetween 26 = .ok (.getfield 48, 3) := by decide +kernel
theorem dX4_outBetween_29 : decode cX4_outBetween 29 = .ok (.iload 5, 2) := by decide +kernel
theorem dX4_outBetween_31 : decode cX4_outBetween 31 = .ok (.iaload, 1) := by decide +kernel
theorem dX4_outBetween_32 : decode cX4_outBetween 32 = .ok (.iload_n 2, 1) := by decide +kernel
theorem dX4_outBetween_33 : decode cX4_outBetween 33 = .ok (.if_icmp .lt 23, 3) := by decide +kernel
theorem dX4_outBetween_36 : decode cX4_outBetween 36 = .ok (.aload_n 0, 1) := by decide +kernel
theorem dX4_outBetween_37 : decode cX4_outBetween 37 = .ok (.getfield 48, 3) := by decide +kernel
theorem dX4_outBetween_40 : decode cX4_outBetween 40 = .ok (.iload 5, 2) := by decide +kernel
theorem dX4_outBetween_42 : decode cX4_outBetween 42 = .ok (.iaload, 1) := by decide +kernel
theorem dX4_outBetween_43 : decode cX4_outBetween 43 = .ok (.iload_n 3, 1) := by decide +kernel
theorem dX4_outBetween_44 : decode cX4_outBetween 44 = .ok (.if_icmp .gt 12, 3) := by decide +kernel
theorem dX4_outBetween_47 : decode cX4_outBetween 47 = .ok (.iload 4, 2) := by decide +kernel
theorem dX4_outBetween_49 : decode cX4_outBetween 49 = .ok (.iconst 1, 1) := by decide +kernel
theorem dX4_outBetween_50 : decode cX4_outBetween 50 = .ok (.iload 5, 2) := by decide +kernel
theorem dX4_outBetween_52 : decode cX4_outBetween 52 = .ok (.ishl, 1) := by decide +kernel
theorem dX4_outBetween_53 : decode cX4_outBetween 53 = .ok (.ior, 1) := by decide +kernel
theorem dX4_outBetween_54 : decode cX4_outBetween 54 = .ok (.istore 4, 2) := by decide +kernel
theorem dX4_outBetween_56 : decode cX4_outBetween 56 = .ok (.iinc 5 1, 3) := by decide +kernel
theorem dX4_outBetween_59 : decode cX4_outBetween 59 = .ok (.goto (-53), 3) := by decide +kernel
theorem dX4_outBetween_62 : decode cX4_outBetween 62 = .ok (.iload 4, 2) := by decide +kernel
theorem dX4_outBetween_64 : decode cX4_outBetween 64 = .ok (.ireturn, 1) := by decide +kernel
theorem dX4_nearestBehind_0 : decode cX4_nearestBehind 0 = .ok (.ldc 99, 2) := by decide +kernel
theorem dX4_nearestBehind_2 : decode cX4_nearestBehind 2 = .ok (.istore 5, 2) := by decide +kernel
theorem dX4_nearestBehind_4 : decode cX4_nearestBehind 4 = .ok (.iconst 0, 1) := by decide +kernel
theorem dX4_nearestBehind_5 : decode cX4_nearestBehind 5 = .ok (.istore 6, 2) := by decide +kernel
theorem dX4_nearestBehind_7 : decode cX4_nearestBehind 7 = .ok (.iload 6, 2) := by decide +kernel
theorem dX4_nearestBehind_9 : decode cX4_nearestBehind 9 = .ok (.aload_n 1, 1) := by decide +kernel
theorem dX4_nearestBehind_10 : decode cX4_nearestBehind 10 = .ok (.getfield 55, 3) := by decide +kernel
theorem dX4_nearestBehind_13 : decode cX4_nearestBehind 13 = .ok (.if_icmp .ge 70, 3) := by decide +kernel
theorem dX4_nearestBehind_16 : decode cX4_nearestBehind 16 = .ok (.aload_n 0, 1) := by decide +kernel
theorem dX4_nearestBehind_17 : decode cX4_nearestBehind 17 = .ok (.aload_n 1, 1) := by decide +kernel
theorem dX4_nearestBehind_18 : decode cX4_nearestBehind 18 = .ok (.iload_n 2, 1) := by decide +kernel
theorem dX4_nearestBehind_19 : decode cX4_nearestBehind 19 = .ok (.iload_n 3, 1) := by decide +kernel
theorem dX4_nearestBehind_20 : decode cX4_nearestBehind 20 = .ok (.iload 6, 2) := by decide +kernel
theorem dX4_nearestBehind_22 : decode cX4_nearestBehind 22 = .ok (.invokevirtual 108, 3) := by decide +kernel
theorem dX4_nearestBehind_25 : decode cX4_nearestBehind 25 = .ok (.ifCond .eq 52, 3) := by decide +kernel
theorem dX4_nearestBehind_28 : decode cX4_nearestBehind 28 = .ok (.aload_n 0, 1) := by decide +kernel
theorem dX4_nearestBehind_29 : decode cX4_nearestBehind 29 = .ok (.getfield 48, 3) := by decide +kernel
theorem dX4_nearestBehind_32 : decode cX4_nearestBehind 32 = .ok (.iload 6, 2) := by decide +kernel
theorem dX4_nearestBehind_34 : decode cX4_nearestBehind 34 = .ok (.iaload, 1) := by decide +kernel
theorem dX4_nearestBehind_35 : decode cX4_nearestBehind 35 = .ok (.iload_n 3, 1) := by decide +kernel
theorem dX4_nearestBehind_36 : decode cX4_nearestBehind 36 = .ok (.isub, 1) := by decide +kernel
theorem dX4_nearestBehind_37 : decode cX4_nearestBehind 37 = .ok (.invokestatic 112, 3) := by decide +kernel
theorem dX4_nearestBehind_40 : decode cX4_nearestBehind 40 = .ok (.bipush 16, 2) := by decide +kernel
theorem dX4_nearestBehind_42 : decode cX4_nearestBehind 42 = .ok (.imul, 1) := by decide +kernel
theorem dX4_nearestBehind_43 : decode cX4_nearestBehind 43 = .ok (.aload_n 0, 1) := by decide +kernel
theorem dX4_nearestBehind_44 : decode cX4_nearestBehind 44 = .ok (.getfield 52, 3) := by decide +kernel
theorem dX4_nearestBehind_47 : decode cX4_nearestBehind 47 = .ok (.iload 6, 2) := by decide +kernel
theorem dX4_nearestBehind_49 : decode cX4_nearestBehind 49 = .ok (.iaload, 1) := by decide +kernel
theorem dX4_nearestBehind_50 : decode cX4_nearestBehind 50 = .ok (.iadd, 1) := by decide +kernel
theorem dX4_nearestBehind_51 : decode cX4_nearestBehind 51 = .ok (.bipush 8, 2) := by decide +kernel
theorem dX4_nearestBehind_53 : decode cX4_nearestBehind 53 = .ok (.imul, 1) := by decide +kernel
theorem dX4_nearestBehind_54 : decode cX4_nearestBehind 54 = .ok (.iload 6, 2) := by decide +kernel
theorem dX4_nearestBehind_56 : decode cX4_nearestBehind 56 = .ok (.iadd, 1) := by decide +kernel
theorem dX4_nearestBehind_57 : decode cX4_nearestBehind 57 = .ok (.istore 7, 2) := by decide +kernel
theorem dX4_nearestBehind_59 : decode cX4_nearestBehind 59 = .ok (.iload 7, 2) := by decide +kernel
theorem dX4_nearestBehind_61 : decode cX4_nearestBehind 61 = .ok (.iload 4, 2) := by decide +kernel
theorem dX4_nearestBehind_63 : decode cX4_nearestBehind 63 = .ok (.if_icmp .le 14, 3) := by decide +kernel
theorem dX4_nearestBehind_66 : decode cX4_nearestBehind 66 = .ok (.iload 7, 2) := by decide +kernel
theorem dX4_nearestBehind_68 : decode cX4_nearestBehind 68 = .ok (.iload 5, 2) := by decide +kernel
theorem dX4_nearestBehind_70 : decode cX4_nearestBehind 70 = .ok (.if_icmp .ge 7, 3) := by decide +kernel
theorem dX4_nearestBehind_73 : decode cX4_nearestBehind 73 = .ok (.iload 7, 2) := by decide +kernel
theorem dX4_nearestBehind_75 : decode cX4_nearestBehind 75 = .ok (.istore 5, 2) := by decide +kernel
theorem dX4_nearestBehind_77 : decode cX4_nearestBehind 77 = .ok (.iinc 6 1, 3) := by decide +kernel
theorem dX4_nearestBehind_80 : decode cX4_nearestBehind 80 = .ok (.goto (-73), 3) := by decide +kernel
theorem dX4_nearestBehind_83 : decode cX4_nearestBehind 83 = .ok (.iload 5, 2) := by decide +kernel
theorem dX4_nearestBehind_85 : decode cX4_nearestBehind 85 = .ok (.ireturn, 1) := by decide +kernel
theorem dX4_lowestIn_0 : decode cX4_lowestIn 0 = .ok (.bipush 9, 2) := by decide +kernel
theorem dX4_lowestIn_2 : decode cX4_lowestIn 2 = .ok (.istore 4, 2) := by decide +kernel
theorem dX4_lowestIn_4 : decode cX4_lowestIn 4 = .ok (.iconst 0, 1) := by decide +kernel
theorem dX4_lowestIn_5 : decode cX4_lowestIn 5 = .ok (.istore 5, 2) := by decide +kernel
theorem dX4_lowestIn_7 : decode cX4_lowestIn 7 = .ok (.iload 5, 2) := by decide +kernel
theorem dX4_lowestIn_9 : decode cX4_lowestIn 9 = .ok (.aload_n 1, 1) := by decide +kernel
theorem dX4_lowestIn_10 : decode cX4_lowestIn 10 = .ok (.getfield 55, 3) := by decide +kernel
theorem dX4_lowestIn_13 : decode cX4_lowestIn 13 = .ok (.if_icmp .ge 35, 3) := by decide +kernel
theorem dX4_lowestIn_16 : decode cX4_lowestIn 16 = .ok (.aload_n 0, 1) := by decide +kernel
theorem dX4_lowestIn_17 : decode cX4_lowestIn 17 = .ok (.aload_n 1, 1) := by decide +kernel
theorem dX4_lowestIn_18 : decode cX4_lowestIn 18 = .ok (.iload_n 2, 1) := by decide +kernel
theorem dX4_lowestIn_19 : decode cX4_lowestIn 19 = .ok (.iload_n 3, 1) := by decide +kernel
theorem dX4_lowestIn_20 : decode cX4_lowestIn 20 = .ok (.iload 5, 2) := by decide +kernel
theorem dX4_lowestIn_22 : decode cX4_lowestIn 22 = .ok (.invokevirtual 108, 3) := by decide +kernel
theorem dX4_lowestIn_25 : decode cX4_lowestIn 25 = .ok (.ifCond .eq 17, 3) := by decide +kernel
theorem dX4_lowestIn_28 : decode cX4_lowestIn 28 = .ok (.iload 4, 2) := by decide +kernel
theorem dX4_lowestIn_30 : decode cX4_lowestIn 30 = .ok (.aload_n 0, 1) := by decide +kernel
theorem dX4_lowestIn_31 : decode cX4_lowestIn 31 = .ok (.getfield 52, 3) := by decide +kernel
theorem dX4_lowestIn_34 : decode cX4_lowestIn 34 = .ok (.iload 5, 2) := by decide +kernel
theorem dX4_lowestIn_36 : decode cX4_lowestIn 36 = .ok (.iaload, 1) := by decide +kernel
theorem dX4_lowestIn_37 : decode cX4_lowestIn 37 = .ok (.invokestatic 117, 3) := by decide +kernel
theorem dX4_lowestIn_40 : decode cX4_lowestIn 40 = .ok (.istore 4, 2) := by decide +kernel
theorem dX4_lowestIn_42 : decode cX4_lowestIn 42 = .ok (.iinc 5 1, 3) := by decide +kernel
theorem dX4_lowestIn_45 : decode cX4_lowestIn 45 = .ok (.goto (-38), 3) := by decide +kernel
theorem dX4_lowestIn_48 : decode cX4_lowestIn 48 = .ok (.iload 4, 2) := by decide +kernel
theorem dX4_lowestIn_50 : decode cX4_lowestIn 50 = .ok (.ireturn, 1) := by decide +kernel
theorem dX4_isSeen_0 : decode cX4_isSeen 0 = .ok (.iload_n 2, 1) := by decide +kernel
theorem dX4_isSeen_1 : decode cX4_isSeen 1 = .ok (.iload 4, 2) := by decide +kernel
theorem dX4_isSeen_3 : decode cX4_isSeen 3 = .ok (.ishr, 1) := by decide +kernel
theorem dX4_isSeen_4 : decode cX4_isSeen 4 = .ok (.iconst 1, 1) := by decide +kernel
theorem dX4_isSeen_5 : decode cX4_isSeen 5 = .ok (.iand, 1) := by decide +kernel
theorem dX4_isSeen_6 : decode cX4_isSeen 6 = .ok (.ifCond .eq 36, 3) := by decide +kernel
theorem dX4_isSeen_9 : decode cX4_isSeen 9 = .ok (.aload_n 0, 1) := by decide +kernel
theorem dX4_isSeen_10 : decode cX4_isSeen 10 = .ok (.getfield 52, 3) := by decide +kernel
theorem dX4_isSeen_13 : decode cX4_isSeen 13 = .ok (.iload 4, 2) := by decide +kernel
theorem dX4_isSeen_15 : decode cX4_isSeen 15 = .ok (.iaload, 1) := by decide +kernel
theorem dX4_isSeen_16 : decode cX4_isSeen 16 = .ok (.ifCond .le 26, 3) := by decide +kernel
theorem dX4_isSeen_19 : decode cX4_isSeen 19 = .ok (.aload_n 0, 1) := by decide +kernel
theorem dX4_isSeen_20 : decode cX4_isSeen 20 = .ok (.getfield 48, 3) := by decide +kernel
theorem dX4_isSeen_23 : decode cX4_isSeen 23 = .ok (.iload 4, 2) := by decide +kernel
theorem dX4_isSeen_25 : decode cX4_isSeen 25 = .ok (.iaload, 1) := by decide +kernel
theorem dX4_isSeen_26 : decode cX4_isSeen 26 = .ok (.iload_n 3, 1) := by decide +kernel
theorem dX4_isSeen_27 : decode cX4_isSeen 27 = .ok (.isub, 1) := by decide +kernel
theorem dX4_isSeen_28 : decode cX4_isSeen 28 = .ok (.invokestatic 112, 3) := by decide +kernel
theorem dX4_isSeen_31 : decode cX4_isSeen 31 = .ok (.aload_n 1, 1) := by decide +kernel
theorem dX4_isSeen_32 : decode cX4_isSeen 32 = .ok (.getfield 120, 3) := by decide +kernel
theorem dX4_isSeen_35 : decode cX4_isSeen 35 = .ok (.if_icmp .gt 7, 3) := by decide +kernel
theorem dX4_isSeen_38 : decode cX4_isSeen 38 = .ok (.iconst 1, 1) := by decide +kernel
theorem dX4_isSeen_39 : decode cX4_isSeen 39 = .ok (.goto 4, 3) := by decide +kernel
theorem dX4_isSeen_42 : decode cX4_isSeen 42 = .ok (.iconst 0, 1) := by decide +kernel
theorem dX4_isSeen_43 : decode cX4_isSeen 43 = .ok (.ireturn, 1) := by decide +kernel
theorem dX4_highByRank_0 : decode cX4_highByRank 0 = .ok (.iload_n 0, 1) := by decide +kernel
theorem dX4_highByRank_1 : decode cX4_highByRank 1 = .ok (.bipush 8, 2) := by decide +kernel
theorem dX4_highByRank_3 : decode cX4_highByRank 3 = .ok (.idiv, 1) := by decide +kernel
theorem dX4_highByRank_4 : decode cX4_highByRank 4 = .ok (.bipush 16, 2) := by decide +kernel
theorem dX4_highByRank_6 : decode cX4_highByRank 6 = .ok (.irem, 1) := by decide +kernel
theorem dX4_highByRank_7 : decode cX4_highByRank 7 = .ok (.ireturn, 1) := by decide +kernel
theorem dX5_init_0 : decode cX5_init 0 = .ok (.aload_n 0, 1) := by decide +kernel
theorem dX5_init_1 : decode cX5_init 1 = .ok (.invokespecial 3, 3) := by decide +kernel
theorem dX5_init_4 : decode cX5_init 4 = .ok (.return_, 1) := by decide +kernel
theorem dX5_cellIn_0 : decode cX5_cellIn 0 = .ok (.iload_n 3, 1) := by decide +kernel
theorem dX5_cellIn_1 : decode cX5_cellIn 1 = .ok (.iconst 2, 1) := by decide +kernel
theorem dX5_cellIn_2 : decode cX5_cellIn 2 = .ok (.irem, 1) := by decide +kernel
theorem dX5_cellIn_3 : decode cX5_cellIn 3 = .ok (.ifCond .ne 7, 3) := by decide +kernel
theorem dX5_cellIn_6 : decode cX5_cellIn 6 = .ok (.iload_n 1, 1) := by decide +kernel
theorem dX5_cellIn_7 : decode cX5_cellIn 7 = .ok (.goto 11, 3) := by decide +kernel
theorem dX5_cellIn_10 : decode cX5_cellIn 10 = .ok (.bipush 47, 2) := by decide +kernel
theorem dX5_cellIn_12 : decode cX5_cellIn 12 = .ok (.iload_n 1, 1) := by decide +kernel
theorem dX5_cellIn_13 : decode cX5_cellIn 13 = .ok (.iload_n 2, 1) := by decide +kernel
theorem dX5_cellIn_14 : decode cX5_cellIn 14 = .ok (.iadd, 1) := by decide +kernel
theorem dX5_cellIn_15 : decode cX5_cellIn 15 = .ok (.invokestatic 9, 3) := by decide +kernel
theorem dX5_cellIn_18 : decode cX5_cellIn 18 = .ok (.ireturn, 1) := by decide +kernel
theorem dX6_init_0 : decode cX6_init 0 = .ok (.aload_n 0, 1) := by decide +kernel
theorem dX6_init_1 : decode cX6_init 1 = .ok (.invokespecial 3, 3) := by decide +kernel
theorem dX6_init_4 : decode cX6_init 4 = .ok (.aload_n 0, 1) := by decide +kernel
theorem dX6_init_5 : decode cX6_init 5 = .ok (.bipush 10, 2) := by decide +kernel
theorem dX6_init_7 : decode cX6_init 7 = .ok (.putfield 9, 3) := by decide +kernel
theorem dX6_init_10 : decode cX6_init 10 = .ok (.aload_n 0, 1) := by decide +kernel
theorem dX6_init_11 : decode cX6_init 11 = .ok (.bipush 6, 2) := by decide +kernel
theorem dX6_init_13 : decode cX6_init 13 = .ok (.newarray .int, 2) := by decide +kernel
theorem dX6_init_15 : decode cX6_init 15 = .ok (.putfield 15, 3) := by decide +kernel
theorem dX6_init_18 : decode cX6_init 18 = .ok (.aload_n 0, 1) := by decide +kernel
theorem dX6_init_19 : decode cX6_init 19 = .ok (.bipush 6, 2) := by decide +kernel
theorem dX6_init_21 : decode cX6_init 21 = .ok (.newarray .int, 2) := by decide +kernel
theorem dX6_init_23 : decode cX6_init 23 = .ok (.putfield 19, 3) := by decide +kernel
theorem dX6_init_26 : decode cX6_init 26 = .ok (.aload_n 0, 1) := by decide +kernel
theorem dX6_init_27 : decode cX6_init 27 = .ok (.bipush 6, 2) := by decide +kernel
theorem dX6_init_29 : decode cX6_init 29 = .ok (.newarray .int, 2) := by decide +kernel
theorem dX6_init_31 : decode cX6_init 31 = .ok (.putfield 22, 3) := by decide +kernel
theorem dX6_init_34 : decode cX6_init 34 = .ok (.aload_n 0, 1) := by decide +kernel
theorem dX6_init_35 : decode cX6_init 35 = .ok (.bipush 6, 2) := by decide +kernel
theorem dX6_init_37 : decode cX6_init 37 = .ok (.newarray .int, 2) := by decide +kernel
theorem dX6_init_39 : decode cX6_init 39 = .ok (.putfield 25, 3) := by decide +kernel
theorem dX6_init_42 : decode cX6_init 42 = .ok (.aload_n 0, 1) := by decide +kernel
theorem dX6_init_43 : decode cX6_init 43 = .ok (.bipush 6, 2) := by decide +kernel
theorem dX6_init_45 : decode cX6_init 45 = .ok (.newarray .int, 2) := by decide +kernel
theorem dX6_init_47 : decode cX6_init 47 = .ok (.putfield 28, 3) := by decide +kernel
theorem dX6_init_50 : decode cX6_init 50 = .ok (.aload_n 0, 1) := by decide +kernel
theorem dX6_init_51 : decode cX6_init 51 = .ok (.bipush 20, 2) := by decide +kernel
theorem dX6_init_53 : decode cX6_init 53 = .ok (.newarray .int, 2) := by decide +kernel
theorem dX6_init_55 : decode cX6_init 55 = .ok (.putfield 31, 3) := by decide +kernel
theorem dX6_init_58 : decode cX6_init 58 = .ok (.aload_n 0, 1) := by decide +kernel
theorem dX6_init_59 : decode cX6_init 59 = .ok (.bipush 6, 2) := by decide +kernel
theorem dX6_init_61 : decode cX6_init 61 = .ok (.newarray .int, 2) := by decide +kernel
theorem dX6_init_63 : decode cX6_init 63 = .ok (.putfield 34, 3) := by decide +kernel
theorem dX6_init_66 : decode cX6_init 66 = .ok (.aload_n 0, 1) := by decide +kernel
theorem dX6_init_67 : decode cX6_init 67 = .ok (.bipush 6, 2) := by decide +kernel
theorem dX6_init_69 : decode cX6_init 69 = .ok (.newarray .int, 2) := by decide +kernel
theorem dX6_init_71 : decode cX6_init 71 = .ok (.putfield 37, 3) := by decide +kernel
theorem dX6_init_74 : decode cX6_init 74 = .ok (.aload_n 0, 1) := by decide +kernel
theorem dX6_init_75 : decode cX6_init 75 = .ok (.bipush 6, 2) := by decide +kernel
theorem dX6_init_77 : decode cX6_init 77 = .ok (.newarray .int, 2) := by decide +kernel
theorem dX6_init_79 : decode cX6_init 79 = .ok (.putfield 40, 3) := by decide +kernel
theorem dX6_init_82 : decode cX6_init 82 = .ok (.aload_n 0, 1) := by decide +kernel
theorem dX6_init_83 : decode cX6_init 83 = .ok (.bipush 8, 2) := by decide +kernel
theorem dX6_init_85 : decode cX6_init 85 = .ok (.newarray .int, 2) := by decide +kernel
theorem dX6_init_87 : decode cX6_init 87 = .ok (.putfield 43, 3) := by decide +kernel
theorem dX6_init_90 : decode cX6_init 90 = .ok (.aload_n 0, 1) := by decide +kernel
theorem dX6_init_91 : decode cX6_init 91 = .ok (.bipush 8, 2) := by decide +kernel
theorem dX6_init_93 : decode cX6_init 93 = .ok (.newarray .boolean, 2) := by decide +kernel
theorem dX6_init_95 : decode cX6_init 95 = .ok (.putfield 46, 3) := by decide +kernel
theorem dX6_init_98 : decode cX6_init 98 = .ok (.aload_n 0, 1) := by decide +kernel
theorem dX6_init_99 : decode cX6_init 99 = .ok (.bipush 8, 2) := by decide +kernel
theorem dX6_init_101 : decode cX6_init 101 = .ok (.newarray .int, 2) := by decide +kernel
theorem dX6_init_103 : decode cX6_init 103 = .ok (.putfield 50, 3) := by decide +kernel
theorem dX6_init_106 : decode cX6_init 106 = .ok (.return_, 1) := by decide +kernel
theorem dX6_begin_0 : decode cX6_begin 0 = .ok (.aload_n 0, 1) := by decide +kernel
theorem dX6_begin_1 : decode cX6_begin 1 = .ok (.iload_n 1, 1) := by decide +kernel
theorem dX6_begin_2 : decode cX6_begin 2 = .ok (.putfield 9, 3) := by decide +kernel
theorem dX6_begin_5 : decode cX6_begin 5 = .ok (.aload_n 0, 1) := by decide +kernel
theorem dX6_begin_6 : decode cX6_begin 6 = .ok (.iload_n 2, 1) := by decide +kernel
theorem dX6_begin_7 : decode cX6_begin 7 = .ok (.putfield 53, 3) := by decide +kernel
theorem dX6_begin_10 : decode cX6_begin 10 = .ok (.aload_n 0, 1) := by decide +kernel
theorem dX6_begin_11 : decode cX6_begin 11 = .ok (.iconst 0, 1) := by decide +kernel
theorem dX6_begin_12 : decode cX6_begin 12 = .ok (.putfield 56, 3) := by decide +kernel
theorem dX6_begin_15 : decode cX6_begin 15 = .ok (.aload_n 0, 1) := by decide +kernel
theorem dX6_begin_16 : decode cX6_begin 16 = .ok (.iconst 0, 1) := by decide +kernel
theorem dX6_begin_17 : decode cX6_begin 17 = .ok (.putfield 59, 3) := by decide +kernel
theorem dX6_begin_20 : decode cX6_begin 20 = .ok (.aload_n 0, 1) := by decide +kernel
theorem dX6_begin_21 : decode cX6_begin 21 = .ok (.iconst 0, 1) := by decide +kernel
theorem dX6_begin_22 : decode cX6_begin 22 = .ok (.putfield 62, 3) := by decide +kernel
theorem dX6_begin_25 : decode cX6_begin 25 = .ok (.aload_n 0, 1) := by decide +kernel
theorem dX6_begin_26 : decode cX6_begin 26 = .ok (.iconst 0, 1) := by decide +kernel
theorem dX6_begin_27 : decode cX6_begin 27 = .ok (.putfield 65, 3) := by decide +kernel
theorem dX6_begin_30 : decode cX6_begin 30 = .ok (.return_, 1) := by decide +kernel
theorem dX6_addChild_0 : decode cX6_addChild 0 = .ok (.aload_n 0, 1) := by decide +kernel
theorem dX6_addChild_1 : decode cX6_addChild 1 = .ok (.getfield 56, 3) := by decide +kernel
theorem dX6_addChild_4 : decode cX6_addChild 4 = .ok (.bipush 6, 2) := by decide +kernel
theorem dX6_addChild_6 : decode cX6_addChild 6 = .ok (.if_icmp .lt 4, 3) := by decide +kernel
theorem dX6_addChild_9 : decode cX6_addChild 9 = .ok (.return_, 1) := by decide +kernel
theorem dX6_addChild_10 : decode cX6_addChild 10 = .ok (.aload_n 0, 1) := by decide +kernel
theorem dX6_addChild_11 : decode cX6_addChild 11 = .ok (.getfield 15, 3) := by decide +kernel
theorem dX6_addChild_14 : decode cX6_addChild 14 = .ok (.aload_n 0, 1) := by decide +kernel
theorem dX6_addChild_15 : decode cX6_addChild 15 = .ok (.getfield 56, 3) := by decide +kernel
theorem dX6_addChild_18 : decode cX6_addChild 18 = .ok (.iload_n 1, 1) := by decide +kernel
theorem dX6_addChild_19 : decode cX6_addChild 19 = .ok (.iastore, 1) := by decide +kernel
theorem dX6_addChild_20 : decode cX6_addChild 20 = .ok (.aload_n 0, 1) := by decide +kernel
theorem dX6_addChild_21 : decode cX6_addChild 21 = .ok (.getfield 19, 3) := by decide +kernel
theorem dX6_addChild_24 : decode cX6_addChild 24 = .ok (.aload_n 0, 1) := by decide +kernel
theorem dX6_addChild_25 : decode cX6_addChild 25 = .ok (.getfield 56, 3) := by decide +kernel
theorem dX6_addChild_28 : decode cX6_addChild 28 = .ok (.iload_n 2, 1) := by decide +kernel
theorem dX6_addChild_29 : decode cX6_addChild 29 = .ok (.iastore, 1) := by decide +kernel
theorem dX6_addChild_30 : decode cX6_addChild 30 = .ok (.aload_n 0, 1) := by decide +kernel
theorem dX6_addChild_31 : decode cX6_addChild 31 = .ok (.getfield 22, 3) := by decide +kernel
theorem dX6_addChild_34 : decode cX6_addChild 34 = .ok (.aload_n 0, 1) := by decide +kernel
theorem dX6_addChild_35 : decode cX6_addChild 35 = .ok (.getfield 56, 3) := by decide +kernel
theorem dX6_addChild_38 : decode cX6_addChild 38 = .ok (.iload_n 3, 1) := by decide +kernel
theorem dX6_addChild_39 : decode cX6_addChild 39 = .ok (.iastore, 1) := by decide +kernel
theorem dX6_addChild_40 : decode cX6_addChild 40 = .ok (.aload_n 0, 1) := by decide +kernel
theorem dX6_addChild_41 : decode cX6_addChild 41 = .ok (.getfield 25, 3) := by decide +kernel
theorem dX6_addChild_44 : decode cX6_addChild 44 = .ok (.aload_n 0, 1) := by decide +kernel
theorem dX6_addChild_45 : decode cX6_addChild 45 = .ok (.getfield 56, 3) := by decide +kernel
theorem dX6_addChild_48 : decode cX6_addChild 48 = .ok (.iload 4, 2) := by decide +kernel
theorem dX6_addChild_50 : decode cX6_addChild 50 = .ok (.iastore, 1) := by decide +kernel
theorem dX6_addChild_51 : decode cX6_addChild 51 = .ok (.aload_n 0, 1) := by decide +kernel
theorem dX6_addChild_52 : decode cX6_addChild 52 = .ok (.getfield 28, 3) := by decide +kernel
theorem dX6_addChild_55 : decode cX6_addChild 55 = .ok (.aload_n 0, 1) := by decide +kernel
theorem dX6_addChild_56 : decode cX6_addChild 56 = .ok (.getfield 56, 3) := by decide +kernel
theorem dX6_addChild_59 : decode cX6_addChild 59 = .ok (.iload 5, 2) := by decide +kernel
theorem dX6_addChild_61 : decode cX6_addChild 61 = .ok (.iastore, 1) := by decide +kernel
theorem dX6_addChild_62 : decode cX6_addChild 62 = .ok (.aload_n 0, 1) := by decide +kernel
theorem dX6_addChild_63 : decode cX6_addChild 63 = .ok (.dup, 1) := by decide +kernel
theorem dX6_addChild_64 : decode cX6_addChild 64 = .ok (.getfield 56, 3) := by decide +kernel
theorem dX6_addChild_67 : decode cX6_addChild 67 = .ok (.iconst 1, 1) := by decide +kernel
theorem dX6_addChild_68 : decode cX6_addChild 68 = .ok (.iadd, 1) := by decide +kernel
theorem dX6_addChild_69 : decode cX6_addChild 69 = .ok (.putfield 56, 3) := by decide +kernel
theorem dX6_addChild_72 : decode cX6_addChild 72 = .ok (.aload_n 0, 1) := by decide +kernel
theorem dX6_addChild_73 : decode cX6_addChild 73 = .ok (.iconst 0, 1) := by decide +kernel
theorem dX6_addChild_74 : decode cX6_addChild 74 = .ok (.putfield 65, 3) := by decide +kernel
theorem dX6_addChild_77 : decode cX6_addChild 77 = .ok (.return_, 1) := by decide +kernel
theorem dX6_addSpeed_0 : decode cX6_addSpeed 0 = .ok (.aload_n 0, 1) := by decide +kernel
theorem dX6_addSpeed_1 : decode cX6_addSpeed 1 = .ok (.getfield 59, 3) := by decide +kernel
theorem dX6_addSpeed_4 : decode cX6_addSpeed 4 = .ok (.bipush 20, 2) := by decide +kernel
theorem dX6_addSpeed_6 : decode cX6_addSpeed 6 = .ok (.if_icmp .ge 23, 3) := by decide +kernel
theorem dX6_addSpeed_9 : decode cX6_addSpeed 9 = .ok (.aload_n 0, 1) := by decide +kernel
theorem dX6_addSpeed_10 : decode cX6_addSpeed 10 = .ok (.getfield 31, 3) := by decide +kernel
theorem dX6_addSpeed_13 : decode cX6_addSpeed 13 = .ok (.aload_n 0, 1) := by decide +kernel
theorem dX6_addSpeed_14 : decode cX6_addSpeed 14 = .ok (.getfield 59, 3) := by decide +kernel
theorem dX6_addSpeed_17 : decode cX6_addSpeed 17 = .ok (.iload_n 1, 1) := by decide +kernel
theorem dX6_addSpeed_18 : decode cX6_addSpeed 18 = .ok (.iastore, 1) := by decide +kernel
theorem dX6_addSpeed_19 : decode cX6_addSpeed 19 = .ok (.aload_n 0, 1) := by decide +kernel
theorem dX6_addSpeed_20 : decode cX6_addSpeed 20 = .ok (.dup, 1) := by decide +kernel
theorem dX6_addSpeed_21 : decode cX6_addSpeed 21 = .ok (.getfield 59, 3) := by decide +kernel
theorem dX6_addSpeed_24 : decode cX6_addSpeed 24 = .ok (.iconst 1, 1) := by decide +kernel
theorem dX6_addSpeed_25 : decode cX6_addSpeed 25 = .ok (.iadd, 1) := by decide +kernel
theorem dX6_addSpeed_26 : decode cX6_addSpeed 26 = .ok (.putfield 59, 3) := by decide +kernel
theorem dX6_addSpeed_29 : decode cX6_addSpeed 29 = .ok (.return_, 1) := by decide +kernel
theorem dX6_addReading_0 : decode cX6_addReading 0 = .ok (.aload_n 0, 1) := by decide +kernel
theorem dX6_addReading_1 : decode cX6_addReading 1 = .ok (.getfield 62, 3) := by decide +kernel
theorem dX6_addReading_4 : decode cX6_addReading 4 = .ok (.bipush 6, 2) := by decide +kernel
theorem dX6_addReading_6 : decode cX6_addReading 6 = .ok (.if_icmp .ge 43, 3) := by decide +kernel
theorem dX6_addReading_9 : decode cX6_addReading 9 = .ok (.aload_n 0, 1) := by decide +kernel
theorem dX6_addReading_10 : decode cX6_addReading 10 = .ok (.getfield 34, 3) := by decide +kernel
theorem dX6_addReading_13 : decode cX6_addReading 13 = .ok (.aload_n 0, 1) := by decide +kernel
theorem dX6_addReading_14 : decode cX6_addReading 14 = .ok (.getfield 62, 3) := by decide +kernel
theorem dX6_addReading_17 : decode cX6_addReading 17 = .ok (.iload_n 1, 1) := by decide +kernel
theorem dX6_addReading_18 : decode cX6_addReading 18 = .ok (.iastore, 1) := by decide +kernel
theorem dX6_addReading_19 : decode cX6_addReading 19 = .ok (.aload_n 0, 1) := by decide +kernel
theorem dX6_addReading_20 : decode cX6_addReading 20 = .ok (.getfield 37, 3) := by decide +kernel
theorem dX6_addReading_23 : decode cX6_addReading 23 = .ok (.aload_n 0, 1) := by decide +kernel
theorem dX6_addReading_24 : decode cX6_addReading 24 = .ok (.getfield 62, 3) := by decide +kernel
theorem dX6_addReading_27 : decode cX6_addReading 27 = .ok (.iload_n 2, 1) := by decide +kernel
theorem dX6_addReading_28 : decode cX6_addReading 28 = .ok (.iastore, 1) := by decide +kernel
theorem dX6_addReading_29 : decode cX6_addReading 29 = .ok (.aload_n 0, 1) := by decide +kernel
theorem dX6_addReading_30 : decode cX6_addReading 30 = .ok (.getfield 40, 3) := by decide +kernel
theorem dX6_addReading_33 : decode cX6_addReading 33 = .ok (.aload_n 0, 1) := by decide +kernel
theorem dX6_addReading_34 : decode cX6_addReading 34 = .ok (.getfield 62, 3) := by decide +kernel
theorem dX6_addReading_37 : decode cX6_addReading 37 = .ok (.iload_n 3, 1) := by decide +kernel
theorem dX6_addReading_38 : decode cX6_addReading 38 = .ok (.iastore, 1) := by decide +kernel
theorem dX6_addReading_39 : decode cX6_addReading 39 = .ok (.aload_n 0, 1) := by decide +kernel
theorem dX6_addReading_40 : decode cX6_addReading 40 = .ok (.dup, 1) := by decide +kernel
theorem dX6_addReading_41 : decode cX6_addReading 41 = .ok (.getfield 62, 3) := by decide +kernel
theorem dX6_addReading_44 : decode cX6_addReading 44 = .ok (.iconst 1, 1) := by decide +kernel
theorem dX6_addReading_45 : decode cX6_addReading 45 = .ok (.iadd, 1) := by decide +kernel
theorem dX6_addReading_46 : decode cX6_addReading 46 = .ok (.putfield 62, 3) := by decide +kernel
theorem dX6_addReading_49 : decode cX6_addReading 49 = .ok (.return_, 1) := by decide +kernel
theorem dX6_keepForUndo_0 : decode cX6_keepForUndo 0 = .ok (.aload_n 0, 1) := by decide +kernel
theorem dX6_keepForUndo_1 : decode cX6_keepForUndo 1 = .ok (.getfield 65, 3) := by decide +kernel
theorem dX6_keepForUndo_4 : decode cX6_keepForUndo 4 = .ok (.bipush 8, 2) := by decide +kernel
theorem dX6_keepForUndo_6 : decode cX6_keepForUndo 6 = .ok (.if_icmp .lt 54, 3) := by decide +kernel
theorem dX6_keepForUndo_9 : decode cX6_keepForUndo 9 = .ok (.aload_n 0, 1) := by decide +kernel
theorem dX6_keepForUndo_10 : decode cX6_keepForUndo 10 = .ok (.getfield 43, 3) := by decide +kernel
theorem dX6_keepForUndo_13 : decode cX6_keepForUndo 13 = .ok (.iconst 1, 1) := by decide +kernel
theorem dX6_keepForUndo_14 : decode cX6_keepForUndo 14 = .ok (.aload_n 0, 1) := by decide +kernel
theorem dX6_keepForUndo_15 : decode cX6_keepForUndo 15 = .ok (.getfield 43, 3) := by decide +kernel
theorem dX6_keepForUndo_18 : decode cX6_keepForUndo 18 = .ok (.iconst 0, 1) := by decide +kernel
theorem dX6_keepForUndo_19 : decode cX6_keepForUndo 19 = .ok (.bipush 7, 2) := by decide +kernel
theorem dX6_keepForUndo_21 : decode cX6_keepForUndo 21 = .ok (.invokestatic 68, 3) := by decide +kernel
theorem dX6_keepForUndo_24 : decode cX6_keepForUndo 24 = .ok (.aload_n 0, 1) := by decide +kernel
theorem dX6_keepForUndo_25 : decode cX6_keepForUndo 25 = .ok (.getfield 46, 3) := by decide +kernel
theorem dX6_keepForUndo_28 : decode cX6_keepForUndo 28 = .ok (.iconst 1, 1) := by decide +kernel
theorem dX6_keepForUndo_29 : decode cX6_keepForUndo 29 = .ok (.aload_n 0, 1) := by decide +kernel
theorem dX6_keepForUndo_30 : decode cX6_keepForUndo 30 = .ok (.getfield 46, 3) := by decide +kernel
theorem dX6_keepForUndo_33 : decode cX6_keepForUndo 33 = .ok (.iconst 0, 1) := by decide +kernel
theorem dX6_keepForUndo_34 : decode cX6_keepForUndo 34 = .ok (.bipush 7, 2) := by decide +kernel
theorem dX6_keepForUndo_36 : decode cX6_keepForUndo 36 = .ok (.invokestatic 68, 3) := by decide +kernel
theorem dX6_keepForUndo_39 : decode cX6_keepForUndo 39 = .ok (.aload_n 0, 1) := by decide +kernel
theorem dX6_keepForUndo_40 : decode cX6_keepForUndo 40 = .ok (.getfield 50, 3) := by decide +kernel
theorem dX6_keepForUndo_43 : decode cX6_keepForUndo 43 = .ok (.iconst 1, 1) := by decide +kernel
theorem dX6_keepForUndo_44 : decode cX6_keepForUndo 44 = .ok (.aload_n 0, 1) := by decide +kernel
theorem dX6_keepForUndo_45 : decode cX6_keepForUndo 45 = .ok (.getfield 50, 3) := by decide +kernel
theorem dX6_keepForUndo_48 : decode cX6_keepForUndo 48 = .ok (.iconst 0, 1) := by decide +kernel
theorem dX6_keepForUndo_49 : decode cX6_keepForUndo 49 = .ok (.bipush 7, 2) := by decide +kernel
theorem dX6_keepForUndo_51 : decode cX6_keepForUndo 51 = .ok (.invokestatic 68, 3) := by decide +kernel
theorem dX6_keepForUndo_54 : decode cX6_keepForUndo 54 = .ok (.aload_n 0, 1) := by decide +kernel
theorem dX6_keepForUndo_55 : decode cX6_keepForUndo 55 = .ok (.bipush 7, 2) := by decide +kernel
theorem dX6_keepForUndo_57 : decode cX6_keepForUndo 57 = .ok (.putfield 65, 3) := by decide +kernel
theorem dX6_keepForUndo_60 : decode cX6_keepForUndo 60 = .ok (.aload_n 0, 1) := by decide +kernel
theorem dX6_keepForUndo_61 : decode cX6_keepForUndo 61 = .ok (.getfield 43, 3) := by decide +kernel
theorem dX6_keepForUndo_64 : decode cX6_keepForUndo 64 = .ok (.aload_n 0, 1) := by decide +kernel
theorem dX6_keepForUndo_65 : decode cX6_keepForUndo 65 = .ok (.getfield 65, 3) := by decide +kernel
theorem dX6_keepForUndo_68 : decode cX6_keepForUndo 68 = .ok (.iload_n 1, 1) := by decide +kernel
theorem dX6_keepForUndo_69 : decode cX6_keepForUndo 69 = .ok (.iastore, 1) := by decide +kernel
theorem dX6_keepForUndo_70 : decode cX6_keepForUndo 70 = .ok (.aload_n 0, 1) := by decide +kernel
theorem dX6_keepForUndo_71 : decode cX6_keepForUndo 71 = .ok (.getfield 46, 3) := by decide +kernel
theorem dX6_keepForUndo_74 : decode cX6_keepForUndo 74 = .ok (.aload_n 0, 1) := by decide +kernel
theorem dX6_keepForUndo_75 : decode cX6_keepForUndo 75 = .ok (.getfield 65, 3) := by decide +kernel
theorem dX6_keepForUndo_78 : decode cX6_keepForUndo 78 = .ok (.iload_n 2, 1) := by decide +kernel
theorem dX6_keepForUndo_79 : decode cX6_keepForUndo 79 = .ok (.bastore, 1) := by decide +kernel
theorem dX6_keepForUndo_80 : decode cX6_keepForUndo 80 = .ok (.aload_n 0, 1) := by decide +kernel
theorem dX6_keepForUndo_81 : decode cX6_keepForUndo 81 = .ok (.getfield 50, 3) := by decide +kernel
theorem dX6_keepForUndo_84 : decode cX6_keepForUndo 84 = .ok (.aload_n 0, 1) := by decide +kernel
theorem dX6_keepForUndo_85 : decode cX6_keepForUndo 85 = .ok (.getfield 65, 3) := by decide +kernel
theorem dX6_keepForUndo_88 : decode cX6_keepForUndo 88 = .ok (.iload_n 3, 1) := by decide +kernel
theorem dX6_keepForUndo_89 : decode cX6_keepForUndo 89 = .ok (.iastore, 1) := by decide +kernel
theorem dX6_keepForUndo_90 : decode cX6_keepForUndo 90 = .ok (.aload_n 0, 1) := by decide +kernel
theorem dX6_keepForUndo_91 : decode cX6_keepForUndo 91 = .ok (.dup, 1) := by decide +kernel
theorem dX6_keepForUndo_92 : decode cX6_keepForUndo 92 = .ok (.getfield 65, 3) := by decide +kernel
theorem dX6_keepForUndo_95 : decode cX6_keepForUndo 95 = .ok (.iconst 1, 1) := by decide +kernel
theorem dX6_keepForUndo_96 : decode cX6_keepForUndo 96 = .ok (.iadd, 1) := by decide +kernel
theorem dX6_keepForUndo_97 : decode cX6_keepForUndo 97 = .ok (.putfield 65, 3) := by decide +kernel
theorem dX6_keepForUndo_100 : decode cX6_keepForUndo 100 = .ok (.return_, 1) := by decide +kernel
theorem dX6_undoLast_0 : decode cX6_undoLast 0 = .ok (.aload_n 0, 1) := by decide +kernel
theorem dX6_undoLast_1 : decode cX6_undoLast 1 = .ok (.getfield 65, 3) := by decide +kernel
theorem dX6_undoLast_4 : decode cX6_undoLast 4 = .ok (.ifCond .gt 4, 3) := by decide +kernel
theorem dX6_undoLast_7 : decode cX6_undoLast 7 = .ok (.return_, 1) := by decide +kernel
theorem dX6_undoLast_8 : decode cX6_undoLast 8 = .ok (.aload_n 0, 1) := by decide +kernel
theorem dX6_undoLast_9 : decode cX6_undoLast 9 = .ok (.dup, 1) := by decide +kernel
theorem dX6_undoLast_10 : decode cX6_undoLast 10 = .ok (.getfield 65, 3) := by decide +kernel
theorem dX6_undoLast_13 : decode cX6_undoLast 13 = .ok (.iconst 1, 1) := by decide +kernel
theorem dX6_undoLast_14 : decode cX6_undoLast 14 = .ok (.isub, 1) := by decide +kernel
theorem dX6_undoLast_15 : decode cX6_undoLast 15 = .ok (.putfield 65, 3) := by decide +kernel
theorem dX6_undoLast_18 : decode cX6_undoLast 18 = .ok (.aload_n 0, 1) := by decide +kernel
theorem dX6_undoLast_19 : decode cX6_undoLast 19 = .ok (.getfield 46, 3) := by decide +kernel
theorem dX6_undoLast_22 : decode cX6_undoLast 22 = .ok (.aload_n 0, 1) := by decide +kernel
theorem dX6_undoLast_23 : decode cX6_undoLast 23 = .ok (.getfield 65, 3) := by decide +kernel
theorem dX6_undoLast_26 : decode cX6_undoLast 26 = .ok (.baload, 1) := by decide +kernel
theorem dX6_undoLast_27 : decode cX6_undoLast 27 = .ok (.ifCond .eq 10, 3) := by decide +kernel
theorem dX6_undoLast_30 : decode cX6_undoLast 30 = .ok (.aload_n 0, 1) := by decide +kernel
theorem dX6_undoLast_31 : decode cX6_undoLast 31 = .ok (.getfield 28, 3) := by decide +kernel
theorem dX6_undoLast_34 : decode cX6_undoLast 34 = .ok (.goto 7, 3) := by decide +kernel
theorem dX6_undoLast_37 : decode cX6_undoLast 37 = .ok (.aload_n 0, 1) := by decide +kernel
theorem dX6_undoLast_38 : decode cX6_undoLast 38 = .ok (.getfield 22, 3) := by decide +kernel
theorem dX6_undoLast_41 : decode cX6_undoLast 41 = .ok (.astore_n 1, 1) := by decide +kernel
theorem dX6_undoLast_42 : decode cX6_undoLast 42 = .ok (.aload_n 1, 1) := by decide +kernel
theorem dX6_undoLast_43 : decode cX6_undoLast 43 = .ok (.aload_n 0, 1) := by decide +kernel
theorem dX6_undoLast_44 : decode cX6_undoLast 44 = .ok (.getfield 43, 3) := by decide +kernel
theorem dX6_undoLast_47 : decode cX6_undoLast 47 = .ok (.aload_n 0, 1) := by decide +kernel
theorem dX6_undoLast_48 : decode cX6_undoLast 48 = .ok (.getfield 65, 3) := by decide +kernel
theorem dX6_undoLast_51 : decode cX6_undoLast 51 = .ok (.iaload, 1) := by decide +kernel
theorem dX6_undoLast_52 : decode cX6_undoLast 52 = .ok (.aload_n 0, 1) := by decide +kernel
theorem dX6_undoLast_53 : decode cX6_undoLast 53 = .ok (.getfield 50, 3) := by decide +kernel
theorem dX6_undoLast_56 : decode cX6_undoLast 56 = .ok (.aload_n 0, 1) := by decide +kernel
theorem dX6_undoLast_57 : decode cX6_undoLast 57 = .ok (.getfield 65, 3) := by decide +kernel
theorem dX6_undoLast_60 : decode cX6_undoLast 60 = .ok (.iaload, 1) := by decide +kernel
theorem dX6_undoLast_61 : decode cX6_undoLast 61 = .ok (.iastore, 1) := by decide +kernel
theorem dX6_undoLast_62 : decode cX6_undoLast 62 = .ok (.return_, 1) := by decide +kernel
theorem dX6_copyFrom_0 : decode cX6_copyFrom 0 = .ok (.aload_n 0, 1) := by decide +kernel
theorem dX6_copyFrom_1 : decode cX6_copyFrom 1 = .ok (.aload_n 1, 1) := by decide +kernel
theorem dX6_copyFrom_2 : decode cX6_copyFrom 2 = .ok (.getfield 9, 3) := by decide +kernel
theorem dX6_copyFrom_5 : decode cX6_copyFrom 5 = .ok (.putfield 9, 3) := by decide +kernel
theorem dX6_copyFrom_8 : decode cX6_copyFrom 8 = .ok (.aload_n 0, 1) := by decide +kernel
theorem dX6_copyFrom_9 : decode cX6_copyFrom 9 = .ok (.aload_n 1, 1) := by decide +kernel
theorem dX6_copyFrom_10 : decode cX6_copyFrom 10 = .ok (.getfield 53, 3) := by decide +kernel
theorem dX6_copyFrom_13 : decode cX6_copyFrom 13 = .ok (.putfield 53, 3) := by decide +kernel
theorem dX6_copyFrom_16 : decode cX6_copyFrom 16 = .ok (.aload_n 0, 1) := by decide +kernel
theorem dX6_copyFrom_17 : decode cX6_copyFrom 17 = .ok (.aload_n 1, 1) := by decide +kernel
theorem dX6_copyFrom_18 : decode cX6_copyFrom 18 = .ok (.getfield 56, 3) := by decide +kernel
theorem dX6_copyFrom_21 : decode cX6_copyFrom 21 = .ok (.putfield 56, 3) := by decide +kernel
theorem dX6_copyFrom_24 : decode cX6_copyFrom 24 = .ok (.aload_n 1, 1) := by decide +kernel
theorem dX6_copyFrom_25 : decode cX6_copyFrom 25 = .ok (.getfield 15, 3) := by decide +kernel
theorem dX6_copyFrom_28 : decode cX6_copyFrom 28 = .ok (.iconst 0, 1) := by decide +kernel
theorem dX6_copyFrom_29 : decode cX6_copyFrom 29 = .ok (.aload_n 0, 1) := by decide +kernel
theorem dX6_copyFrom_30 : decode cX6_copyFrom 30 = .ok (.getfield 15, 3) := by decide +kernel
theorem dX6_copyFrom_33 : decode cX6_copyFrom 33 = .ok (.iconst 0, 1) := by decide +kernel
theorem dX6_copyFrom_34 : decode cX6_copyFrom 34 = .ok (.bipush 6, 2) := by decide +kernel
theorem dX6_copyFrom_36 : decode cX6_copyFrom 36 = .ok (.invokestatic 68, 3) := by decide +kernel
theorem dX6_copyFrom_39 : decode cX6_copyFrom 39 = .ok (.aload_n 1, 1) := by decide +kernel
theorem dX6_copyFrom_40 : decode cX6_copyFrom 40 = .ok (.getfield 19, 3) := by decide +kernel
theorem dX6_copyFrom_43 : decode cX6_copyFrom 43 = .ok (.iconst 0, 1) := by decide +kernel
theorem dX6_copyFrom_44 : decode cX6_copyFrom 44 = .ok (.aload_n 0, 1) := by decide +kernel
theorem dX6_copyFrom_45 : decode cX6_copyFrom 45 = .ok (.getfield 19, 3) := by decide +kernel
theorem dX6_copyFrom_48 : decode cX6_copyFrom 48 = .ok (.iconst 0, 1) := by decide +kernel
theorem dX6_copyFrom_49 : decode cX6_copyFrom 49 = .ok (.bipush 6, 2) := by decide +kernel
theorem dX6_copyFrom_51 : decode cX6_copyFrom 51 = .ok (.invokestatic 68, 3) := by decide +kernel
theorem dX6_copyFrom_54 : decode cX6_copyFrom 54 = .ok (.aload_n 1, 1) := by decide +kernel
theorem dX6_copyFrom_55 : decode cX6_copyFrom 55 = .ok (.getfield 22, 3) := by decide +kernel
theorem dX6_copyFrom_58 : decode cX6_copyFrom 58 = .ok (.iconst 0, 1) := by decide +kernel
theorem dX6_copyFrom_59 : decode cX6_copyFrom 59 = .ok (.aload_n 0, 1) := by decide +kernel
theorem dX6_copyFrom_60 : decode cX6_copyFrom 60 = .ok (.getfield 22, 3) := by decide +kernel
theorem dX6_copyFrom_63 : decode cX6_copyFrom 63 = .ok (.iconst 0, 1) := by decide +kernel
theorem dX6_copyFrom_64 : decode cX6_copyFrom 64 = .ok (.bipush 6, 2) := by decide +kernel
theorem dX6_copyFrom_66 : decode cX6_copyFrom 66 = .ok (.invokestatic 68, 3) := by decide +kernel
theorem dX6_copyFrom_69 : decode cX6_copyFrom 69 = .ok (.aload_n 1, 1) := by decide +kernel
theorem dX6_copyFrom_70 : decode cX6_copyFrom 70 = .ok (.getfield 25, 3) := by decide +kernel
theorem dX6_copyFrom_73 : decode cX6_copyFrom 73 = .ok (.iconst 0, 1) := by decide +kernel
theorem dX6_copyFrom_74 : decode cX6_copyFrom 74 = .ok (.aload_n 0, 1) := by decide +kernel
theorem dX6_copyFrom_75 : decode cX6_copyFrom 75 = .ok (.getfield 25, 3) := by decide +kernel
theorem dX6_copyFrom_78 : decode cX6_copyFrom 78 = .ok (.iconst 0, 1) := by decide +kernel
theorem dX6_copyFrom_79 : decode cX6_copyFrom 79 = .ok (.bipush 6, 2) := by decide +kernel
theorem dX6_copyFrom_81 : decode cX6_copyFrom 81 = .ok (.invokestatic 68, 3) := by decide +kernel
theorem dX6_copyFrom_84 : decode cX6_copyFrom 84 = .ok (.aload_n 1, 1) := by decide +kernel
theorem dX6_copyFrom_85 : decode cX6_copyFrom 85 = .ok (.getfield 28, 3) := by decide +kernel
theorem dX6_copyFrom_88 : decode cX6_copyFrom 88 = .ok (.iconst 0, 1) := by decide +kernel
theorem dX6_copyFrom_89 : decode cX6_copyFrom 89 = .ok (.aload_n 0, 1) := by decide +kernel
theorem dX6_copyFrom_90 : decode cX6_copyFrom 90 = .ok (.getfield 28, 3) := by decide +kernel
theorem dX6_copyFrom_93 : decode cX6_copyFrom 93 = .ok (.iconst 0, 1) := by decide +kernel
theorem dX6_copyFrom_94 : decode cX6_copyFrom 94 = .ok (.bipush 6, 2) := by decide +kernel
theorem dX6_copyFrom_96 : decode cX6_copyFrom 96 = .ok (.invokestatic 68, 3) := by decide +kernel
theorem dX6_copyFrom_99 : decode cX6_copyFrom 99 = .ok (.aload_n 0, 1) := by decide +kernel
theorem dX6_copyFrom_100 : decode cX6_copyFrom 100 = .ok (.aload_n 1, 1) := by decide +kernel
theorem dX6_copyFrom_101 : decode cX6_copyFrom 101 = .ok (.getfield 59, 3) := by decide +kernel
theorem dX6_copyFrom_104 : decode cX6_copyFrom 104 = .ok (.putfield 59, 3) := by decide +kernel
theorem dX6_copyFrom_107 : decode cX6_copyFrom 107 = .ok (.aload_n 1, 1) := by decide +kernel
theorem dX6_copyFrom_108 : decode cX6_copyFrom 108 = .ok (.getfield 31, 3) := by decide +kernel
theorem dX6_copyFrom_111 : decode cX6_copyFrom 111 = .ok (.iconst 0, 1) := by decide +kernel
theorem dX6_copyFrom_112 : decode cX6_copyFrom 112 = .ok (.aload_n 0, 1) := by decide +kernel
theorem dX6_copyFrom_113 : decode cX6_copyFrom 113 = .ok (.getfield 31, 3) := by decide +kernel
theorem dX6_copyFrom_116 : decode cX6_copyFrom 116 = .ok (.iconst 0, 1) := by decide +kernel
theorem dX6_copyFrom_117 : decode cX6_copyFrom 117 = .ok (.bipush 20, 2) := by decide +kernel
theorem dX6_copyFrom_119 : decode cX6_copyFrom 119 = .ok (.invokestatic 68, 3) := by decide +kernel
theorem dX6_copyFrom_122 : decode cX6_copyFrom 122 = .ok (.aload_n 0, 1) := by decide +kernel
theorem dX6_copyFrom_123 : decode cX6_copyFrom 123 = .ok (.aload_n 1, 1) := by decide +kernel
theorem dX6_copyFrom_124 : decode cX6_copyFrom 124 = .ok (.getfield 62, 3) := by decide +kernel
theorem dX6_copyFrom_127 : decode cX6_copyFrom 127 = .ok (.putfield 62, 3) := by decide +kernel
theorem dX6_copyFrom_130 : decode cX6_copyFrom 130 = .ok (.aload_n 1, 1) := by decide +kernel
theorem dX6_copyFrom_131 : decode cX6_copyFrom 131 = .ok (.getfield 34, 3) := by decide +kernel
theorem dX6_copyFrom_134 : decode cX6_copyFrom 134 = .ok (.iconst 0, 1) := by decide +kernel
theorem dX6_copyFrom_135 : decode cX6_copyFrom 135 = .ok (.aload_n 0, 1) := by decide +kernel
theorem dX6_copyFrom_136 : decode cX6_copyFrom 136 = .ok (.getfield 34, 3) := by decide +kernel
theorem dX6_copyFrom_139 : decode cX6_copyFrom 139 = .ok (.iconst 0, 1) := by decide +kernel
theorem dX6_copyFrom_140 : decode cX6_copyFrom 140 = .ok (.bipush 6, 2) := by decide +kernel
theorem dX6_copyFrom_142 : decode cX6_copyFrom 142 = .ok (.invokestatic 68, 3) := by decide +kernel
theorem dX6_copyFrom_145 : decode cX6_copyFrom 145 = .ok (.aload_n 1, 1) := by decide +kernel
theorem dX6_copyFrom_146 : decode cX6_copyFrom 146 = .ok (.getfield 37, 3) := by decide +kernel
theorem dX6_copyFrom_149 : decode cX6_copyFrom 149 = .ok (.iconst 0, 1) := by decide +kernel
theorem dX6_copyFrom_150 : decode cX6_copyFrom 150 = .ok (.aload_n 0, 1) := by decide +kernel
theorem dX6_copyFrom_151 : decode cX6_copyFrom 151 = .ok (.getfield 37, 3) := by decide +kernel
theorem dX6_copyFrom_154 : decode cX6_copyFrom 154 = .ok (.iconst 0, 1) := by decide +kernel
theorem dX6_copyFrom_155 : decode cX6_copyFrom 155 = .ok (.bipush 6, 2) := by decide +kernel
theorem dX6_copyFrom_157 : decode cX6_copyFrom 157 = .ok (.invokestatic 68, 3) := by decide +kernel
theorem dX6_copyFrom_160 : decode cX6_copyFrom 160 = .ok (.aload_n 1, 1) := by decide +kernel
theorem dX6_copyFrom_161 : decode cX6_copyFrom 161 = .ok (.getfield 40, 3) := by decide +kernel
theorem dX6_copyFrom_164 : decode cX6_copyFrom 164 = .ok (.iconst 0, 1) := by decide +kernel
theorem dX6_copyFrom_165 : decode cX6_copyFrom 165 = .ok (.aload_n 0, 1) := by decide +kernel
theorem dX6_copyFrom_166 : decode cX6_copyFrom 166 = .ok (.getfield 40, 3) := by decide +kernel
theorem dX6_copyFrom_169 : decode cX6_copyFrom 169 = .ok (.iconst 0, 1) := by decide +kernel
theorem dX6_copyFrom_170 : decode cX6_copyFrom 170 = .ok (.bipush 6, 2) := by decide +kernel
theorem dX6_copyFrom_172 : decode cX6_copyFrom 172 = .ok (.invokestatic 68, 3) := by decide +kernel
theorem dX6_copyFrom_175 : decode cX6_copyFrom 175 = .ok (.aload_n 0, 1) := by decide +kernel
theorem dX6_copyFrom_176 : decode cX6_copyFrom 176 = .ok (.aload_n 1, 1) := by decide +kernel
theorem dX6_copyFrom_177 : decode cX6_copyFrom 177 = .ok (.getfield 65, 3) := by decide +kernel
theorem dX6_copyFrom_180 : decode cX6_copyFrom 180 = .ok (.putfield 65, 3) := by decide +kernel
theorem dX6_copyFrom_183 : decode cX6_copyFrom 183 = .ok (.aload_n 1, 1) := by decide +kernel
theorem dX6_copyFrom_184 : decode cX6_copyFrom 184 = .ok (.getfield 43, 3) := by decide +kernel
theorem dX6_copyFrom_187 : decode cX6_copyFrom 187 = .ok (.iconst 0, 1) := by decide +kernel
theorem dX6_copyFrom_188 : decode cX6_copyFrom 188 = .ok (.aload_n 0, 1) := by decide +kernel
theorem dX6_copyFrom_189 : decode cX6_copyFrom 189 = .ok (.getfield 43, 3) := by decide +kernel
theorem dX6_copyFrom_192 : decode cX6_copyFrom 192 = .ok (.iconst 0, 1) := by decide +kernel
theorem dX6_copyFrom_193 : decode cX6_copyFrom 193 = .ok (.bipush 8, 2) := by decide +kernel
theorem dX6_copyFrom_195 : decode cX6_copyFrom 195 = .ok (.invokestatic 68, 3) := by decide +kernel
theorem dX6_copyFrom_198 : decode cX6_copyFrom 198 = .ok (.aload_n 1, 1) := by decide +kernel
theorem dX6_copyFrom_199 : decode cX6_copyFrom 199 = .ok (.getfield 46, 3) := by decide +kernel
theorem dX6_copyFrom_202 : decode cX6_copyFrom 202 = .ok (.iconst 0, 1) := by decide +kernel
theorem dX6_copyFrom_203 : decode cX6_copyFrom 203 = .ok (.aload_n 0, 1) := by decide +kernel
theorem dX6_copyFrom_204 : decode cX6_copyFrom 204 = .ok (.getfield 46, 3) := by decide +kernel
theorem dX6_copyFrom_207 : decode cX6_copyFrom 207 = .ok (.iconst 0, 1) := by decide +kernel
theorem dX6_copyFrom_208 : decode cX6_copyFrom 208 = .ok (.bipush 8, 2) := by decide +kernel
theorem dX6_copyFrom_210 : decode cX6_copyFrom 210 = .ok (.invokestatic 68, 3) := by decide +kernel
theorem dX6_copyFrom_213 : decode cX6_copyFrom 213 = .ok (.aload_n 1, 1) := by decide +kernel
theorem dX6_copyFrom_214 : decode cX6_copyFrom 214 = .ok (.getfield 50, 3) := by decide +kernel
theorem dX6_copyFrom_217 : decode cX6_copyFrom 217 = .ok (.iconst 0, 1) := by decide +kernel
theorem dX6_copyFrom_218 : decode cX6_copyFrom 218 = .ok (.aload_n 0, 1) := by decide +kernel
theorem dX6_copyFrom_219 : decode cX6_copyFrom 219 = .ok (.getfield 50, 3) := by decide +kernel
theorem dX6_copyFrom_222 : decode cX6_copyFrom 222 = .ok (.iconst 0, 1) := by decide +kernel
theorem dX6_copyFrom_223 : decode cX6_copyFrom 223 = .ok (.bipush 8, 2) := by decide +kernel
theorem dX6_copyFrom_225 : decode cX6_copyFrom 225 = .ok (.invokestatic 68, 3) := by decide +kernel
theorem dX6_copyFrom_228 : decode cX6_copyFrom 228 = .ok (.return_, 1) := by decide +kernel
theorem dX6_everyChild_0 : decode cX6_everyChild 0 = .ok (.iconst 1, 1) := by decide +kernel
theorem dX6_everyChild_1 : decode cX6_everyChild 1 = .ok (.aload_n 0, 1) := by decide +kernel
theorem dX6_everyChild_2 : decode cX6_everyChild 2 = .ok (.getfield 56, 3) := by decide +kernel
theorem dX6_everyChild_5 : decode cX6_everyChild 5 = .ok (.ishl, 1) := by decide +kernel
theorem dX6_everyChild_6 : decode cX6_everyChild 6 = .ok (.iconst 1, 1) := by decide +kernel
theorem dX6_everyChild_7 : decode cX6_everyChild 7 = .ok (.isub, 1) := by decide +kernel
theorem dX6_everyChild_8 : decode cX6_everyChild 8 = .ok (.ireturn, 1) := by decide +kernel
theorem dX6_digestOn_0 : decode cX6_digestOn 0 = .ok (.lload_n 1, 1) := by decide +kernel
theorem dX6_digestOn_1 : decode cX6_digestOn 1 = .ok (.lstore_n 3, 1) := by decide +kernel
theorem dX6_digestOn_2 : decode cX6_digestOn 2 = .ok (.iconst 0, 1) := by decide +kernel
theorem dX6_digestOn_3 : decode cX6_digestOn 3 = .ok (.istore 5, 2) := by decide +kernel
theorem dX6_digestOn_5 : decode cX6_digestOn 5 = .ok (.iload 5, 2) := by decide +kernel
theorem dX6_digestOn_7 : decode cX6_digestOn 7 = .ok (.aload_n 0, 1) := by decide +kernel
theorem dX6_digestOn_8 : decode cX6_digestOn 8 = .ok (.getfield 56, 3) := by decide +kernel
theorem dX6_digestOn_11 : decode cX6_digestOn 11 = .ok (.if_icmp .ge 84, 3) := by decide +kernel
theorem dX6_digestOn_14 : decode cX6_digestOn 14 = .ok (.ldc2_w 74, 3) := by decide +kernel
theorem dX6_digestOn_17 : decode cX6_digestOn 17 = .ok (.lload_n 3, 1) := by decide +kernel
theorem dX6_digestOn_18 : decode cX6_digestOn 18 = .ok (.lmul, 1) := by decide +kernel
theorem dX6_digestOn_19 : decode cX6_digestOn 19 = .ok (.aload_n 0, 1) := by decide +kernel
theorem dX6_digestOn_20 : decode cX6_digestOn 20 = .ok (.getfield 15, 3) := by decide +kernel
theorem dX6_digestOn_23 : decode cX6_digestOn 23 = .ok (.iload 5, 2) := by decide +kernel
theorem dX6_digestOn_25 : decode cX6_digestOn 25 = .ok (.iaload, 1) := by decide +kernel
theorem dX6_digestOn_26 : decode cX6_digestOn 26 = .ok (.i2l, 1) := by decide +kernel
theorem dX6_digestOn_27 : decode cX6_digestOn 27 = .ok (.ladd, 1) := by decide +kernel
theorem dX6_digestOn_28 : decode cX6_digestOn 28 = .ok (.lstore_n 3, 1) := by decide +kernel
theorem dX6_digestOn_29 : decode cX6_digestOn 29 = .ok (.ldc2_w 74, 3) := by decide +kernel
theorem dX6_digestOn_32 : decode cX6_digestOn 32 = .ok (.lload_n 3, 1) := by decide +kernel
theorem dX6_digestOn_33 : decode cX6_digestOn 33 = .ok (.lmul, 1) := by decide +kernel
theorem dX6_digestOn_34 : decode cX6_digestOn 34 = .ok (.aload_n 0, 1) := by decide +kernel
theorem dX6_digestOn_35 : decode cX6_digestOn 35 = .ok (.getfield 19, 3) := by decide +kernel
theorem dX6_digestOn_38 : decode cX6_digestOn 38 = .ok (.iload 5, 2) := by decide +kernel
theorem dX6_digestOn_40 : decode cX6_digestOn 40 = .ok (.iaload, 1) := by decide +kernel
theorem dX6_digestOn_41 : decode cX6_digestOn 41 = .ok (.i2l, 1) := by decide +kernel
theorem dX6_digestOn_42 : decode cX6_digestOn 42 = .ok (.ladd, 1) := by decide +kernel
theorem dX6_digestOn_43 : decode cX6_digestOn 43 = .ok (.lstore_n 3, 1) := by decide +kernel
theorem dX6_digestOn_44 : decode cX6_digestOn 44 = .ok (.ldc2_w 74, 3) := by decide +kernel
theorem dX6_digestOn_47 : decode cX6_digestOn 47 = .ok (.lload_n 3, 1) := by decide +kernel
theorem dX6_digestOn_48 : decode cX6_digestOn 48 = .ok (.lmul, 1) := by decide +kernel
theorem dX6_digestOn_49 : decode cX6_digestOn 49 = .ok (.aload_n 0, 1) := by decide +kernel
theorem dX6_digestOn_50 : decode cX6_digestOn 50 = .ok (.getfield 22, 3) := by decide +kernel
theorem dX6_digestOn_53 : decode cX6_digestOn 53 = .ok (.iload 5, 2) := by decide +kernel
theorem dX6_digestOn_55 : decode cX6_digestOn 55 = .ok (.iaload, 1) := by decide +kernel
theorem dX6_digestOn_56 : decode cX6_digestOn 56 = .ok (.i2l, 1) := by decide +kernel
theorem dX6_digestOn_57 : decode cX6_digestOn 57 = .ok (.ladd, 1) := by decide +kernel
theorem dX6_digestOn_58 : decode cX6_digestOn 58 = .ok (.lstore_n 3, 1) := by decide +kernel
theorem dX6_digestOn_59 : decode cX6_digestOn 59 = .ok (.ldc2_w 74, 3) := by decide +kernel
theorem dX6_digestOn_62 : decode cX6_digestOn 62 = .ok (.lload_n 3, 1) := by decide +kernel
theorem dX6_digestOn_63 : decode cX6_digestOn 63 = .ok (.lmul, 1) := by decide +kernel
theorem dX6_digestOn_64 : decode cX6_digestOn 64 = .ok (.aload_n 0, 1) := by decide +kernel
theorem dX6_digestOn_65 : decode cX6_digestOn 65 = .ok (.getfield 25, 3) := by decide +kernel
theorem dX6_digestOn_68 : decode cX6_digestOn 68 = .ok (.iload 5, 2) := by decide +kernel
theorem dX6_digestOn_70 : decode cX6_digestOn 70 = .ok (.iaload, 1) := by decide +kernel
theorem dX6_digestOn_71 : decode cX6_digestOn 71 = .ok (.i2l, 1) := by decide +kernel
theorem dX6_digestOn_72 : decode cX6_digestOn 72 = .ok (.ladd, 1) := by decide +kernel
theorem dX6_digestOn_73 : decode cX6_digestOn 73 = .ok (.lstore_n 3, 1) := by decide +kernel
theorem dX6_digestOn_74 : decode cX6_digestOn 74 = .ok (.ldc2_w 74, 3) := by decide +kernel
theorem dX6_digestOn_77 : decode cX6_digestOn 77 = .ok (.lload_n 3, 1) := by decide +kernel
theorem dX6_digestOn_78 : decode cX6_digestOn 78 = .ok (.lmul, 1) := by decide +kernel
theorem dX6_digestOn_79 : decode cX6_digestOn 79 = .ok (.aload_n 0, 1) := by decide +kernel
theorem dX6_digestOn_80 : decode cX6_digestOn 80 = .ok (.getfield 28, 3) := by decide +kernel
theorem dX6_digestOn_83 : decode cX6_digestOn 83 = .ok (.iload 5, 2) := by decide +kernel
theorem dX6_digestOn_85 : decode cX6_digestOn 85 = .ok (.iaload, 1) := by decide +kernel
theorem dX6_digestOn_86 : decode cX6_digestOn 86 = .ok (.i2l, 1) := by decide +kernel
theorem dX6_digestOn_87 : decode cX6_digestOn 87 = .ok (.ladd, 1) := by decide +kernel
theorem dX6_digestOn_88 : decode cX6_digestOn 88 = .ok (.lstore_n 3, 1) := by decide +kernel
theorem dX6_digestOn_89 : decode cX6_digestOn 89 = .ok (.iinc 5 1, 3) := by decide +kernel
theorem dX6_digestOn_92 : decode cX6_digestOn 92 = .ok (.goto (-87), 3) := by decide +kernel
theorem dX6_digestOn_95 : decode cX6_digestOn 95 = .ok (.iconst 0, 1) := by decide +kernel
theorem dX6_digestOn_96 : decode cX6_digestOn 96 = .ok (.istore 5, 2) := by decide +kernel
theorem dX6_digestOn_98 : decode cX6_digestOn 98 = .ok (.iload 5, 2) := by decide +kernel
theorem dX6_digestOn_100 : decode cX6_digestOn 100 = .ok (.aload_n 0, 1) := by decide +kernel
theorem dX6_digestOn_101 : decode cX6_digestOn 101 = .ok (.getfield 59, 3) := by decide +kernel
theorem dX6_digestOn_104 : decode cX6_digestOn 104 = .ok (.if_icmp .ge 24, 3) := by decide +kernel
theorem dX6_digestOn_107 : decode cX6_digestOn 107 = .ok (.ldc2_w 74, 3) := by decide +kernel
theorem dX6_digestOn_110 : decode cX6_digestOn 110 = .ok (.lload_n 3, 1) := by decide +kernel
theorem dX6_digestOn_111 : decode cX6_digestOn 111 = .ok (.lmul, 1) := by decide +kernel
theorem dX6_digestOn_112 : decode cX6_digestOn 112 = .ok (.aload_n 0, 1) := by decide +kernel
theorem dX6_digestOn_113 : decode cX6_digestOn 113 = .ok (.getfield 31, 3) := by decide +kernel
theorem dX6_digestOn_116 : decode cX6_digestOn 116 = .ok (.iload 5, 2) := by decide +kernel
theorem dX6_digestOn_118 : decode cX6_digestOn 118 = .ok (.iaload, 1) := by decide +kernel
theorem dX6_digestOn_119 : decode cX6_digestOn 119 = .ok (.i2l, 1) := by decide +kernel
theorem dX6_digestOn_120 : decode cX6_digestOn 120 = .ok (.ladd, 1) := by decide +kernel
theorem dX6_digestOn_121 : decode cX6_digestOn 121 = .ok (.lstore_n 3, 1) := by decide +kernel
theorem dX6_digestOn_122 : decode cX6_digestOn 122 = .ok (.iinc 5 1, 3) := by decide +kernel
theorem dX6_digestOn_125 : decode cX6_digestOn 125 = .ok (.goto (-27), 3) := by decide +kernel
theorem dX6_digestOn_128 : decode cX6_digestOn 128 = .ok (.iconst 0, 1) := by decide +kernel
theorem dX6_digestOn_129 : decode cX6_digestOn 129 = .ok (.istore 5, 2) := by decide +kernel
theorem dX6_digestOn_131 : decode cX6_digestOn 131 = .ok (.iload 5, 2) := by decide +kernel
theorem dX6_digestOn_133 : decode cX6_digestOn 133 = .ok (.aload_n 0, 1) := by decide +kernel
theorem dX6_digestOn_134 : decode cX6_digestOn 134 = .ok (.getfield 62, 3) := by decide +kernel
theorem dX6_digestOn_137 : decode cX6_digestOn 137 = .ok (.if_icmp .ge 54, 3) := by decide +kernel
theorem dX6_digestOn_140 : decode cX6_digestOn 140 = .ok (.ldc2_w 74, 3) := by decide +kernel
theorem dX6_digestOn_143 : decode cX6_digestOn 143 = .ok (.lload_n 3, 1) := by decide +kernel
theorem dX6_digestOn_144 : decode cX6_digestOn 144 = .ok (.lmul, 1) := by decide +kernel
theorem dX6_digestOn_145 : decode cX6_digestOn 145 = .ok (.aload_n 0, 1) := by decide +kernel
theorem dX6_digestOn_146 : decode cX6_digestOn 146 = .ok (.getfield 34, 3) := by decide +kernel
theorem dX6_digestOn_149 : decode cX6_digestOn 149 = .ok (.iload 5, 2) := by decide +kernel
theorem dX6_digestOn_151 : decode cX6_digestOn 151 = .ok (.iaload, 1) := by decide +kernel
theorem dX6_digestOn_152 : decode cX6_digestOn 152 = .ok (.i2l, 1) := by decide +kernel
theorem dX6_digestOn_153 : decode cX6_digestOn 153 = .ok (.ladd, 1) := by decide +kernel
theorem dX6_digestOn_154 : decode cX6_digestOn 154 = .ok (.lstore_n 3, 1) := by decide +kernel
theorem dX6_digestOn_155 : decode cX6_digestOn 155 = .ok (.ldc2_w 74, 3) := by decide +kernel
theorem dX6_digestOn_158 : decode cX6_digestOn 158 = .ok (.lload_n 3, 1) := by decide +kernel
theorem dX6_digestOn_159 : decode cX6_digestOn 159 = .ok (.lmul, 1) := by decide +kernel
theorem dX6_digestOn_160 : decode cX6_digestOn 160 = .ok (.aload_n 0, 1) := by decide +kernel
theorem dX6_digestOn_161 : decode cX6_digestOn 161 = .ok (.getfield 37, 3) := by decide +kernel
theorem dX6_digestOn_164 : decode cX6_digestOn 164 = .ok (.iload 5, 2) := by decide +kernel
theorem dX6_digestOn_166 : decode cX6_digestOn 166 = .ok (.iaload, 1) := by decide +kernel
theorem dX6_digestOn_167 : decode cX6_digestOn 167 = .ok (.i2l, 1) := by decide +kernel
theorem dX6_digestOn_168 : decode cX6_digestOn 168 = .ok (.ladd, 1) := by decide +kernel
theorem dX6_digestOn_169 : decode cX6_digestOn 169 = .ok (.lstore_n 3, 1) := by decide +kernel
theorem dX6_digestOn_170 : decode cX6_digestOn 170 = .ok (.ldc2_w 74, 3) := by decide +kernel
theorem dX6_digestOn_173 : decode cX6_digestOn 173 = .ok (.lload_n 3, 1) := by decide +kernel
theorem dX6_digestOn_174 : decode cX6_digestOn 174 = .ok (.lmul, 1) := by decide +kernel
theorem dX6_digestOn_175 : decode cX6_digestOn 175 = .ok (.aload_n 0, 1) := by decide +kernel
theorem dX6_digestOn_176 : decode cX6_digestOn 176 = .ok (.getfield 40, 3) := by decide +kernel
theorem dX6_digestOn_179 : decode cX6_digestOn 179 = .ok (.iload 5, 2) := by decide +kernel
theorem dX6_digestOn_181 : decode cX6_digestOn 181 = .ok (.iaload, 1) := by decide +kernel
theorem dX6_digestOn_182 : decode cX6_digestOn 182 = .ok (.i2l, 1) := by decide +kernel
theorem dX6_digestOn_183 : decode cX6_digestOn 183 = .ok (.ladd, 1) := by decide +kernel
theorem dX6_digestOn_184 : decode cX6_digestOn 184 = .ok (.lstore_n 3, 1) := by decide +kernel
theorem dX6_digestOn_185 : decode cX6_digestOn 185 = .ok (.iinc 5 1, 3) := by decide +kernel
theorem dX6_digestOn_188 : decode cX6_digestOn 188 = .ok (.goto (-57), 3) := by decide +kernel
theorem dX6_digestOn_191 : decode cX6_digestOn 191 = .ok (.lload_n 3, 1) := by decide +kernel
theorem dX6_digestOn_192 : decode cX6_digestOn 192 = .ok (.lreturn, 1) := by decide +kernel
theorem dX7_init_0 : decode cX7_init 0 = .ok (.aload_n 0, 1) := by decide +kernel
theorem dX7_init_1 : decode cX7_init 1 = .ok (.invokespecial 3, 3) := by decide +kernel
theorem dX7_init_4 : decode cX7_init 4 = .ok (.aload_n 0, 1) := by decide +kernel
theorem dX7_init_5 : decode cX7_init 5 = .ok (.sipush 150, 3) := by decide +kernel
theorem dX7_init_8 : decode cX7_init 8 = .ok (.newarray .int, 2) := by decide +kernel
theorem dX7_init_10 : decode cX7_init 10 = .ok (.putfield 9, 3) := by decide +kernel
theorem dX7_init_13 : decode cX7_init 13 = .ok (.return_, 1) := by decide +kernel
theorem dX7_append_0 : decode cX7_append 0 = .ok (.aload_n 0, 1) := by decide +kernel
theorem dX7_append_1 : decode cX7_append 1 = .ok (.getfield 15, 3) := by decide +kernel
theorem dX7_append_4 : decode cX7_append 4 = .ok (.sipush 150, 3) := by decide +kernel
theorem dX7_append_7 : decode cX7_append 7 = .ok (.if_icmp .ge 23, 3) := by decide +kernel
theorem dX7_append_10 : decode cX7_append 10 = .ok (.aload_n 0, 1) := by decide +kernel
theorem dX7_append_11 : decode cX7_append 11 = .ok (.getfield 9, 3) := by decide +kernel
theorem dX7_append_14 : decode cX7_append 14 = .ok (.aload_n 0, 1) := by decide +kernel
theorem dX7_append_15 : decode cX7_append 15 = .ok (.getfield 15, 3) := by decide +kernel
theorem dX7_append_18 : decode cX7_append 18 = .ok (.iload_n 1, 1) := by decide +kernel
theorem dX7_append_19 : decode cX7_append 19 = .ok (.iastore, 1) := by decide +kernel
theorem dX7_append_20 : decode cX7_append 20 = .ok (.aload_n 0, 1) := by decide +kernel
theorem dX7_append_21 : decode cX7_append 21 = .ok (.dup, 1) := by decide +kernel
theorem dX7_append_22 : decode cX7_append 22 = .ok (.getfield 15, 3) := by decide +kernel
theorem dX7_append_25 : decode cX7_append 25 = .ok (.iconst 1, 1) := by decide +kernel
theorem dX7_append_26 : decode cX7_append 26 = .ok (.iadd, 1) := by decide +kernel
theorem dX7_append_27 : decode cX7_append 27 = .ok (.putfield 15, 3) := by decide +kernel
theorem dX7_append_30 : decode cX7_append 30 = .ok (.return_, 1) := by decide +kernel
theorem dX7_readInto_0 : decode cX7_readInto 0 = .ok (.aload_n 0, 1) := by decide +kernel
theorem dX7_readInto_1 : decode cX7_readInto 1 = .ok (.iconst 0, 1) := by decide +kernel
theorem dX7_readInto_2 : decode cX7_readInto 2 = .ok (.putfield 19, 3) := by decide +kernel
theorem dX7_readInto_5 : decode cX7_readInto 5 = .ok (.iconst 0, 1) := by decide +kernel
theorem dX7_readInto_6 : decode cX7_readInto 6 = .ok (.istore_n 2, 1) := by decide +kernel
theorem dX7_readInto_7 : decode cX7_readInto 7 = .ok (.iload_n 2, 1) := by decide +kernel
theorem dX7_readInto_8 : decode cX7_readInto 8 = .ok (.bipush 6, 2) := by decide +kernel
theorem dX7_readInto_10 : decode cX7_readInto 10 = .ok (.if_icmp .gt 46, 3) := by decide +kernel
theorem dX7_readInto_13 : decode cX7_readInto 13 = .ok (.aload_n 0, 1) := by decide +kernel
theorem dX7_readInto_14 : decode cX7_readInto 14 = .ok (.invokevirtual 22, 3) := by decide +kernel
theorem dX7_readInto_17 : decode cX7_readInto 17 = .ok (.ifCond .ne 39, 3) := by decide +kernel
theorem dX7_readInto_20 : decode cX7_readInto 20 = .ok (.iload_n 2, 1) := by decide +kernel
theorem dX7_readInto_21 : decode cX7_readInto 21 = .ok (.ifCond .ne 11, 3) := by decide +kernel
theorem dX7_readInto_24 : decode cX7_readInto 24 = .ok (.aload_n 0, 1) := by decide +kernel
theorem dX7_readInto_25 : decode cX7_readInto 25 = .ok (.aload_n 1, 1) := by decide +kernel
theorem dX7_readInto_26 : decode cX7_readInto 26 = .ok (.invokevirtual 26, 3) := by decide +kernel
theorem dX7_readInto_29 : decode cX7_readInto 29 = .ok (.goto 8, 3) := by decide +kernel
theorem dX7_readInto_32 : decode cX7_readInto 32 = .ok (.aload_n 0, 1) := by decide +kernel
theorem dX7_readInto_33 : decode cX7_readInto 33 = .ok (.aload_n 1, 1) := by decide +kernel
theorem dX7_readInto_34 : decode cX7_readInto 34 = .ok (.invokevirtual 30, 3) := by decide +kernel
theorem dX7_readInto_37 : decode cX7_readInto 37 = .ok (.istore_n 3, 1) := by decide +kernel
theorem dX7_readInto_38 : decode cX7_readInto 38 = .ok (.iload_n 3, 1) := by decide +kernel
theorem dX7_readInto_39 : decode cX7_readInto 39 = .ok (.ifCond .ne 11, 3) := by decide +kernel
theorem dX7_readInto_42 : decode cX7_readInto 42 = .ok (.bipush (-10), 2) := by decide +kernel
theorem dX7_readInto_44 : decode cX7_readInto 44 = .ok (.aload_n 0, 1) := by decide +kernel
theorem dX7_readInto_45 : decode cX7_readInto 45 = .ok (.getfield 19, 3) := by decide +kernel
theorem dX7_readInto_48 : decode cX7_readInto 48 = .ok (.isub, 1) := by decide +kernel
theorem dX7_readInto_49 : decode cX7_readInto 49 = .ok (.ireturn, 1) := by decide +kernel
theorem dX7_readInto_50 : decode cX7_readInto 50 = .ok (.iinc 2 1, 3) := by decide +kernel
theorem dX7_readInto_53 : decode cX7_readInto 53 = .ok (.goto (-46), 3) := by decide +kernel
theorem dX7_readInto_56 : decode cX7_readInto 56 = .ok (.iload_n 2, 1) := by decide +kernel
theorem dX7_readInto_57 : decode cX7_readInto 57 = .ok (.ifCond .eq 10, 3) := by decide +kernel
theorem dX7_readInto_60 : decode cX7_readInto 60 = .ok (.aload_n 0, 1) := by decide +kernel
theorem dX7_readInto_61 : decode cX7_readInto 61 = .ok (.invokevirtual 22, 3) := by decide +kernel
theorem dX7_readInto_64 : decode cX7_readInto 64 = .ok (.ifCond .ne 13, 3) := by decide +kernel
theorem dX7_readInto_67 : decode cX7_readInto 67 = .ok (.bipush (-10), 2) := by decide +kernel
theorem dX7_readInto_69 : decode cX7_readInto 69 = .ok (.aload_n 0, 1) := by decide +kernel
theorem dX7_readInto_70 : decode cX7_readInto 70 = .ok (.getfield 19, 3) := by decide +kernel
theorem dX7_readInto_73 : decode cX7_readInto 73 = .ok (.isub, 1) := by decide +kernel
theorem dX7_readInto_74 : decode cX7_readInto 74 = .ok (.goto 4, 3) := by decide +kernel
theorem dX7_readInto_77 : decode cX7_readInto 77 = .ok (.iload_n 2, 1) := by decide +kernel
theorem dX7_readInto_78 : decode cX7_readInto 78 = .ok (.ireturn, 1) := by decide +kernel
theorem dX7_readRoadItem_0 : decode cX7_readRoadItem 0 = .ok (.aload_n 0, 1) := by decide +kernel
theorem dX7_readRoadItem_1 : decode cX7_readRoadItem 1 = .ok (.ldc 33, 2) := by decide +kernel
theorem dX7_readRoadItem_3 : decode cX7_readRoadItem 3 = .ok (.invokevirtual 35, 3) := by decide +kernel
theorem dX7_readRoadItem_6 : decode cX7_readRoadItem 6 = .ok (.ifCond .ne 5, 3) := by decide +kernel
theorem dX7_readRoadItem_9 : decode cX7_readRoadItem 9 = .ok (.iconst 0, 1) := by decide +kernel
theorem dX7_readRoadItem_10 : decode cX7_readRoadItem 10 = .ok (.ireturn, 1) := by decide +kernel
theorem dX7_readRoadItem_11 : decode cX7_readRoadItem 11 = .ok (.aload_n 0, 1) := by decide +kernel
theorem dX7_readRoadItem_12 : decode cX7_readRoadItem 12 = .ok (.iconst 0, 1) := by decide +kernel
theorem dX7_readRoadItem_13 : decode cX7_readRoadItem 13 = .ok (.bipush 47, 2) := by decide +kernel
theorem dX7_readRoadItem_15 : decode cX7_readRoadItem 15 = .ok (.invokevirtual 39, 3) := by decide +kernel
theorem dX7_readRoadItem_18 : decode cX7_readRoadItem 18 = .ok (.istore_n 2, 1) := by decide +kernel
theorem dX7_readRoadItem_19 : decode cX7_readRoadItem 19 = .ok (.iload_n 2, 1) := by decide +kernel
theorem dX7_readRoadItem_20 : decode cX7_readRoadItem 20 = .ok (.ifCond .ge 7, 3) := by decide +kernel
theorem dX7_readRoadItem_23 : decode cX7_readRoadItem 23 = .ok (.iconst (-1), 1) := by decide +kernel
theorem dX7_readRoadItem_24 : decode cX7_readRoadItem 24 = .ok (.goto 9, 3) := by decide +kernel
theorem dX7_readRoadItem_27 : decode cX7_readRoadItem 27 = .ok (.aload_n 0, 1) := by decide +kernel
theorem dX7_readRoadItem_28 : decode cX7_readRoadItem 28 = .ok (.iconst 0, 1) := by decide +kernel
theorem dX7_readRoadItem_29 : decode cX7_readRoadItem 29 = .ok (.iconst 2, 1) := by decide +kernel
theorem dX7_readRoadItem_30 : decode cX7_readRoadItem 30 = .ok (.invokevirtual 39, 3) := by decide +kernel
theorem dX7_readRoadItem_33 : decode cX7_readRoadItem 33 = .ok (.istore_n 3, 1) := by decide +kernel
theorem dX7_readRoadItem_34 : decode cX7_readRoadItem 34 = .ok (.iload_n 3, 1) := by decide +kernel
theorem dX7_readRoadItem_35 : decode cX7_readRoadItem 35 = .ok (.ifCond .lt 10, 3) := by decide +kernel
theorem dX7_readRoadItem_38 : decode cX7_readRoadItem 38 = .ok (.aload_n 0, 1) := by decide +kernel
theorem dX7_readRoadItem_39 : decode cX7_readRoadItem 39 = .ok (.invokevirtual 43, 3) := by decide +kernel
theorem dX7_readRoadItem_42 : decode cX7_readRoadItem 42 = .ok (.ifCond .ne 5, 3) := by decide +kernel
theorem dX7_readRoadItem_45 : decode cX7_readRoadItem 45 = .ok (.iconst 0, 1) := by decide +kernel
theorem dX7_readRoadItem_46 : decode cX7_readRoadItem 46 = .ok (.ireturn, 1) := by decide +kernel
theorem dX7_readRoadItem_47 : decode cX7_readRoadItem 47 = .ok (.aload_n 1, 1) := by decide +kernel
theorem dX7_readRoadItem_48 : decode cX7_readRoadItem 48 = .ok (.iload_n 2, 1) := by decide +kernel
theorem dX7_readRoadItem_49 : decode cX7_readRoadItem 49 = .ok (.iload_n 3, 1) := by decide +kernel
theorem dX7_readRoadItem_50 : decode cX7_readRoadItem 50 = .ok (.invokevirtual 46, 3) := by decide +kernel
theorem dX7_readRoadItem_53 : decode cX7_readRoadItem 53 = .ok (.iconst 1, 1) := by decide +kernel
theorem dX7_readRoadItem_54 : decode cX7_readRoadItem 54 = .ok (.ireturn, 1) := by decide +kernel
theorem dX7_readChildItem_0 : decode cX7_readChildItem 0 = .ok (.aload_n 0, 1) := by decide +kernel
theorem dX7_readChildItem_1 : decode cX7_readChildItem 1 = .ok (.ldc 52, 2) := by decide +kernel
theorem dX7_readChildItem_3 : decode cX7_readChildItem 3 = .ok (.invokevirtual 35, 3) := by decide +kernel
theorem dX7_readChildItem_6 : decode cX7_readChildItem 6 = .ok (.ifCond .ne 5, 3) := by decide +kernel
theorem dX7_readChildItem_9 : decode cX7_readChildItem 9 = .ok (.iconst 0, 1) := by decide +kernel
theorem dX7_readChildItem_10 : decode cX7_readChildItem 10 = .ok (.ireturn, 1) := by decide +kernel
theorem dX7_readChildItem_11 : decode cX7_readChildItem 11 = .ok (.aload_n 0, 1) := by decide +kernel
theorem dX7_readChildItem_12 : decode cX7_readChildItem 12 = .ok (.iconst 0, 1) := by decide +kernel
theorem dX7_readChildItem_13 : decode cX7_readChildItem 13 = .ok (.iconst 5, 1) := by decide +kernel
theorem dX7_readChildItem_14 : decode cX7_readChildItem 14 = .ok (.invokevirtual 39, 3) := by decide +kernel
theorem dX7_readChildItem_17 : decode cX7_readChildItem 17 = .ok (.istore_n 2, 1) := by decide +kernel
theorem dX7_readChildItem_18 : decode cX7_readChildItem 18 = .ok (.iload_n 2, 1) := by decide +kernel
theorem dX7_readChildItem_19 : decode cX7_readChildItem 19 = .ok (.ifCond .ge 7, 3) := by decide +kernel
theorem dX7_readChildItem_22 : decode cX7_readChildItem 22 = .ok (.iconst (-1), 1) := by decide +kernel
theorem dX7_readChildItem_23 : decode cX7_readChildItem 23 = .ok (.goto 10, 3) := by decide +kernel
theorem dX7_readChildItem_26 : decode cX7_readChildItem 26 = .ok (.aload_n 0, 1) := by decide +kernel
theorem dX7_readChildItem_27 : decode cX7_readChildItem 27 = .ok (.iconst 1, 1) := by decide +kernel
theorem dX7_readChildItem_28 : decode cX7_readChildItem 28 = .ok (.bipush 9, 2) := by decide +kernel
theorem dX7_readChildItem_30 : decode cX7_readChildItem 30 = .ok (.invokevirtual 39, 3) := by decide +kernel
theorem dX7_readChildItem_33 : decode cX7_readChildItem 33 = .ok (.istore_n 3, 1) := by decide +kernel
theorem dX7_readChildItem_34 : decode cX7_readChildItem 34 = .ok (.iload_n 3, 1) := by decide +kernel
theorem dX7_readChildItem_35 : decode cX7_readChildItem 35 = .ok (.ifCond .ge 7, 3) := by decide +kernel
theorem dX7_readChildItem_38 : decode cX7_readChildItem 38 = .ok (.iconst (-1), 1) := by decide +kernel
theorem dX7_readChildItem_39 : decode cX7_readChildItem 39 = .ok (.goto 10, 3) := by decide +kernel
theorem dX7_readChildItem_42 : decode cX7_readChildItem 42 = .ok (.aload_n 0, 1) := by decide +kernel
theorem dX7_readChildItem_43 : decode cX7_readChildItem 43 = .ok (.iconst 0, 1) := by decide +kernel
theorem dX7_readChildItem_44 : decode cX7_readChildItem 44 = .ok (.bipush 47, 2) := by decide +kernel
theorem dX7_readChildItem_46 : decode cX7_readChildItem 46 = .ok (.invokevirtual 39, 3) := by decide +kernel
theorem dX7_readChildItem_49 : decode cX7_readChildItem 49 = .ok (.istore 4, 2) := by decide +kernel
theorem dX7_readChildItem_51 : decode cX7_readChildItem 51 = .ok (.iload 4, 2) := by decide +kernel
theorem dX7_readChildItem_53 : decode cX7_readChildItem 53 = .ok (.ifCond .ge 7, 3) := by decide +kernel
theorem dX7_readChildItem_56 : decode cX7_readChildItem 56 = .ok (.iconst (-1), 1) := by decide +kernel
theorem dX7_readChildItem_57 : decode cX7_readChildItem 57 = .ok (.goto 9, 3) := by decide +kernel
theorem dX7_readChildItem_60 : decode cX7_readChildItem 60 = .ok (.aload_n 0, 1) := by decide +kernel
theorem dX7_readChildItem_61 : decode cX7_readChildItem 61 = .ok (.iconst 0, 1) := by decide +kernel
theorem dX7_readChildItem_62 : decode cX7_readChildItem 62 = .ok (.iconst 3, 1) := by decide +kernel
theorem dX7_readChildItem_63 : decode cX7_readChildItem 63 = .ok (.invokevirtual 39, 3) := by decide +kernel
theorem dX7_readChildItem_66 : decode cX7_readChildItem 66 = .ok (.istore 5, 2) := by decide +kernel
theorem dX7_readChildItem_68 : decode cX7_readChildItem 68 = .ok (.iload 5, 2) := by decide +kernel
theorem dX7_readChildItem_70 : decode cX7_readChildItem 70 = .ok (.ifCond .ge 7, 3) := by decide +kernel
theorem dX7_readChildItem_73 : decode cX7_readChildItem 73 = .ok (.iconst (-1), 1) := by decide +kernel
theorem dX7_readChildItem_74 : decode cX7_readChildItem 74 = .ok (.goto 10, 3) := by decide +kernel
theorem dX7_readChildItem_77 : decode cX7_readChildItem 77 = .ok (.aload_n 0, 1) := by decide +kernel
theorem dX7_readChildItem_78 : decode cX7_readChildItem 78 = .ok (.iconst 0, 1) := by decide +kernel
theorem dX7_readChildItem_79 : decode cX7_readChildItem 79 = .ok (.bipush 60, 2) := by decide +kernel
theorem dX7_readChildItem_81 : decode cX7_readChildItem 81 = .ok (.invokevirtual 39, 3) := by decide +kernel
theorem dX7_readChildItem_84 : decode cX7_readChildItem 84 = .ok (.istore 6, 2) := by decide +kernel
theorem dX7_readChildItem_86 : decode cX7_readChildItem 86 = .ok (.iload 6, 2) := by decide +kernel
theorem dX7_readChildItem_88 : decode cX7_readChildItem 88 = .ok (.ifCond .lt 10, 3) := by decide +kernel
theorem dX7_readChildItem_91 : decode cX7_readChildItem 91 = .ok (.aload_n 0, 1) := by decide +kernel
theorem dX7_readChildItem_92 : decode cX7_readChildItem 92 = .ok (.invokevirtual 43, 3) := by decide +kernel
theorem dX7_readChildItem_95 : decode cX7_readChildItem 95 = .ok (.ifCond .ne 5, 3) := by decide +kernel
theorem dX7_readChildItem_98 : decode cX7_readChildItem 98 = .ok (.iconst 0, 1) := by decide +kernel
theorem dX7_readChildItem_99 : decode cX7_readChildItem 99 = .ok (.ireturn, 1) := by decide +kernel
theorem dX7_readChildItem_100 : decode cX7_readChildItem 100 = .ok (.aload_n 1, 1) := by decide +kernel
theorem dX7_readChildItem_101 : decode cX7_readChildItem 101 = .ok (.iload_n 2, 1) := by decide +kernel
theorem dX7_readChildItem_102 : decode cX7_readChildItem 102 = .ok (.iload_n 3, 1) := by decide +kernel
theorem dX7_readChildItem_103 : decode cX7_readChildItem 103 = .ok (.iload 4, 2) := by decide +kernel
theorem dX7_readChildItem_105 : decode cX7_readChildItem 105 = .ok (.iload 5, 2) := by decide +kernel
theorem dX7_readChildItem_107 : decode cX7_readChildItem 107 = .ok (.iload 6, 2) := by decide +kernel
theorem dX7_readChildItem_109 : decode cX7_readChildItem 109 = .ok (.invokevirtual 54, 3) := by decide +kernel
theorem dX7_readChildItem_112 : decode cX7_readChildItem 112 = .ok (.iconst 1, 1) := by decide +kernel
theorem dX7_readChildItem_113 : decode cX7_readChildItem 113 = .ok (.ireturn, 1) := by decide +kernel
theorem dX7_isAtEnd_0 : decode cX7_isAtEnd 0 = .ok (.aload_n 0, 1) := by decide +kernel
theorem dX7_isAtEnd_1 : decode cX7_isAtEnd 1 = .ok (.getfield 19, 3) := by decide +kernel
theorem dX7_isAtEnd_4 : decode cX7_isAtEnd 4 = .ok (.aload_n 0, 1) := by decide +kernel
theorem dX7_isAtEnd_5 : decode cX7_isAtEnd 5 = .ok (.getfield 15, 3) := by decide +kernel
theorem dX7_isAtEnd_8 : decode cX7_isAtEnd 8 = .ok (.if_icmp .ge 30, 3) := by decide +kernel
theorem dX7_isAtEnd_11 : decode cX7_isAtEnd 11 = .ok (.aload_n 0, 1) := by decide +kernel
theorem dX7_isAtEnd_12 : decode cX7_isAtEnd 12 = .ok (.getfield 9, 3) := by decide +kernel
theorem dX7_isAtEnd_15 : decode cX7_isAtEnd 15 = .ok (.aload_n 0, 1) := by decide +kernel
theorem dX7_isAtEnd_16 : decode cX7_isAtEnd 16 = .ok (.getfield 19, 3) := by decide +kernel
theorem dX7_isAtEnd_19 : decode cX7_isAtEnd 19 = .ok (.iaload, 1) := by decide +kernel
theorem dX7_isAtEnd_20 : decode cX7_isAtEnd 20 = .ok (.bipush 32, 2) := by decide +kernel
theorem dX7_isAtEnd_22 : decode cX7_isAtEnd 22 = .ok (.if_icmp .ne 16, 3) := by decide +kernel
theorem dX7_isAtEnd_25 : decode cX7_isAtEnd 25 = .ok (.aload_n 0, 1) := by decide +kernel
theorem dX7_isAtEnd_26 : decode cX7_isAtEnd 26 = .ok (.dup, 1) := by decide +kernel
theorem dX7_isAtEnd_27 : decode cX7_isAtEnd 27 = .ok (.getfield 19, 3) := by decide +kernel
theorem dX7_isAtEnd_30 : decode cX7_isAtEnd 30 = .ok (.iconst 1, 1) := by decide +kernel
theorem dX7_isAtEnd_31 : decode cX7_isAtEnd 31 = .ok (.iadd, 1) := by decide +kernel
theorem dX7_isAtEnd_32 : decode cX7_isAtEnd 32 = .ok (.putfield 19, 3) := by decide +kernel
theorem dX7_isAtEnd_35 : decode cX7_isAtEnd 35 = .ok (.goto (-35), 3) := by decide +kernel
theorem dX7_isAtEnd_38 : decode cX7_isAtEnd 38 = .ok (.aload_n 0, 1) := by decide +kernel
theorem dX7_isAtEnd_39 : decode cX7_isAtEnd 39 = .ok (.getfield 19, 3) := by decide +kernel
theorem dX7_isAtEnd_42 : decode cX7_isAtEnd 42 = .ok (.aload_n 0, 1) := by decide +kernel
theorem dX7_isAtEnd_43 : decode cX7_isAtEnd 43 = .ok (.getfield 15, 3) := by decide +kernel
theorem dX7_isAtEnd_46 : decode cX7_isAtEnd 46 = .ok (.if_icmp .lt 7, 3) := by decide +kernel
theorem dX7_isAtEnd_49 : decode cX7_isAtEnd 49 = .ok (.iconst 1, 1) := by decide +kernel
theorem dX7_isAtEnd_50 : decode cX7_isAtEnd 50 = .ok (.goto 4, 3) := by decide +kernel
theorem dX7_isAtEnd_53 : decode cX7_isAtEnd 53 = .ok (.iconst 0, 1) := by decide +kernel
theorem dX7_isAtEnd_54 : decode cX7_isAtEnd 54 = .ok (.ireturn, 1) := by decide +kernel
theorem dX7_readWord_0 : decode cX7_readWord 0 = .ok (.aload_n 0, 1) := by decide +kernel
theorem dX7_readWord_1 : decode cX7_readWord 1 = .ok (.invokevirtual 22, 3) := by decide +kernel
theorem dX7_readWord_4 : decode cX7_readWord 4 = .ok (.ifCond .eq 5, 3) := by decide +kernel
theorem dX7_readWord_7 : decode cX7_readWord 7 = .ok (.iconst 0, 1) := by decide +kernel
theorem dX7_readWord_8 : decode cX7_readWord 8 = .ok (.ireturn, 1) := by decide +kernel
theorem dX7_readWord_9 : decode cX7_readWord 9 = .ok (.aload_n 0, 1) := by decide +kernel
theorem dX7_readWord_10 : decode cX7_readWord 10 = .ok (.bipush 97, 2) := by decide +kernel
theorem dX7_readWord_12 : decode cX7_readWord 12 = .ok (.bipush 122, 2) := by decide +kernel
theorem dX7_readWord_14 : decode cX7_readWord 14 = .ok (.invokevirtual 58, 3) := by decide +kernel
theorem dX7_readWord_17 : decode cX7_readWord 17 = .ok (.istore_n 2, 1) := by decide +kernel
theorem dX7_readWord_18 : decode cX7_readWord 18 = .ok (.iload_n 2, 1) := by decide +kernel
theorem dX7_readWord_19 : decode cX7_readWord 19 = .ok (.aload_n 0, 1) := by decide +kernel
theorem dX7_readWord_20 : decode cX7_readWord 20 = .ok (.getfield 19, 3) := by decide +kernel
theorem dX7_readWord_23 : decode cX7_readWord 23 = .ok (.isub, 1) := by decide +kernel
theorem dX7_readWord_24 : decode cX7_readWord 24 = .ok (.aload_n 1, 1) := by decide +kernel
theorem dX7_readWord_25 : decode cX7_readWord 25 = .ok (.invokevirtual 61, 3) := by decide +kernel
theorem dX7_readWord_28 : decode cX7_readWord 28 = .ok (.if_icmp .eq 5, 3) := by decide +kernel
theorem dX7_readWord_31 : decode cX7_readWord 31 = .ok (.iconst 0, 1) := by decide +kernel
theorem dX7_readWord_32 : decode cX7_readWord 32 = .ok (.ireturn, 1) := by decide +kernel
theorem dX7_readWord_33 : decode cX7_readWord 33 = .ok (.iconst 0, 1) := by decide +kernel
theorem dX7_readWord_34 : decode cX7_readWord 34 = .ok (.istore_n 3, 1) := by decide +kernel
theorem dX7_readWord_35 : decode cX7_readWord 35 = .ok (.iload_n 3, 1) := by decide +kernel
theorem dX7_readWord_36 : decode cX7_readWord 36 = .ok (.aload_n 1, 1) := by decide +kernel
theorem dX7_readWord_37 : decode cX7_readWord 37 = .ok (.invokevirtual 61, 3) := by decide +kernel
theorem dX7_readWord_40 : decode cX7_readWord 40 = .ok (.if_icmp .ge 30, 3) := by decide +kernel
theorem dX7_readWord_43 : decode cX7_readWord 43 = .ok (.aload_n 0, 1) := by decide +kernel
theorem dX7_readWord_44 : decode cX7_readWord 44 = .ok (.getfield 9, 3) := by decide +kernel
theorem dX7_readWord_47 : decode cX7_readWord 47 = .ok (.aload_n 0, 1) := by decide +kernel
theorem dX7_readWord_48 : decode cX7_readWord 48 = .ok (.getfield 19, 3) := by decide +kernel
theorem dX7_readWord_51 : decode cX7_readWord 51 = .ok (.iload_n 3, 1) := by decide +kernel
theorem dX7_readWord_52 : decode cX7_readWord 52 = .ok (.iadd, 1) := by decide +kernel
theorem dX7_readWord_53 : decode cX7_readWord 53 = .ok (.iaload, 1) := by decide +kernel
theorem dX7_readWord_54 : decode cX7_readWord 54 = .ok (.aload_n 1, 1) := by decide +kernel
theorem dX7_readWord_55 : decode cX7_readWord 55 = .ok (.iload_n 3, 1) := by decide +kernel
theorem dX7_readWord_56 : decode cX7_readWord 56 = .ok (.invokevirtual 66, 3) := by decide +kernel
theorem dX7_readWord_59 : decode cX7_readWord 59 = .ok (.if_icmp .eq 5, 3) := by decide +kernel
theorem dX7_readWord_62 : decode cX7_readWord 62 = .ok (.iconst 0, 1) := by decide +kernel
theorem dX7_readWord_63 : decode cX7_readWord 63 = .ok (.ireturn, 1) := by decide +kernel
theorem dX7_readWord_64 : decode cX7_readWord 64 = .ok (.iinc 3 1, 3) := by decide +kernel
theorem dX7_readWord_67 : decode cX7_readWord 67 = .ok (.goto (-32), 3) := by decide +kernel
theorem dX7_readWord_70 : decode cX7_readWord 70 = .ok (.aload_n 0, 1) := by decide +kernel
theorem dX7_readWord_71 : decode cX7_readWord 71 = .ok (.iload_n 2, 1) := by decide +kernel
theorem dX7_readWord_72 : decode cX7_readWord 72 = .ok (.putfield 19, 3) := by decide +kernel
theorem dX7_readWord_75 : decode cX7_readWord 75 = .ok (.iconst 1, 1) := by decide +kernel
theorem dX7_readWord_76 : decode cX7_readWord 76 = .ok (.ireturn, 1) := by decide +kernel
theorem dX7_readNumber_0 : decode cX7_readNumber 0 = .ok (.aload_n 0, 1) := by decide +kernel
theorem dX7_readNumber_1 : decode cX7_readNumber 1 = .ok (.invokevirtual 22, 3) := by decide +kernel
theorem dX7_readNumber_4 : decode cX7_readNumber 4 = .ok (.ifCond .eq 5, 3) := by decide +kernel
theorem dX7_readNumber_7 : decode cX7_readNumber 7 = .ok (.iconst (-1), 1) := by decide +kernel
theorem dX7_readNumber_8 : decode cX7_readNumber 8 = .ok (.ireturn, 1) := by decide +kernel
theorem dX7_readNumber_9 : decode cX7_readNumber 9 = .ok (.aload_n 0, 1) := by decide +kernel
theorem dX7_readNumber_10 : decode cX7_readNumber 10 = .ok (.bipush 48, 2) := by decide +kernel
theorem dX7_readNumber_12 : decode cX7_readNumber 12 = .ok (.bipush 57, 2) := by decide +kernel
theorem dX7_readNumber_14 : decode cX7_readNumber 14 = .ok (.invokevirtual 58, 3) := by decide +kernel
theorem dX7_readNumber_17 : decode cX7_readNumber 17 = .ok (.istore_n 3, 1) := by decide +kernel
theorem dX7_readNumber_18 : decode cX7_readNumber 18 = .ok (.iload_n 3, 1) := by decide +kernel
theorem dX7_readNumber_19 : decode cX7_readNumber 19 = .ok (.aload_n 0, 1) := by decide +kernel
theorem dX7_readNumber_20 : decode cX7_readNumber 20 = .ok (.getfield 19, 3) := by decide +kernel
theorem dX7_readNumber_23 : decode cX7_readNumber 23 = .ok (.if_icmp .eq 13, 3) := by decide +kernel
theorem dX7_readNumber_26 : decode cX7_readNumber 26 = .ok (.iload_n 3, 1) := by decide +kernel
theorem dX7_readNumber_27 : decode cX7_readNumber 27 = .ok (.aload_n 0, 1) := by decide +kernel
theorem dX7_readNumber_28 : decode cX7_readNumber 28 = .ok (.getfield 19, 3) := by decide +kernel
theorem dX7_readNumber_31 : decode cX7_readNumber 31 = .ok (.iconst 2, 1) := by decide +kernel
theorem dX7_readNumber_32 : decode cX7_readNumber 32 = .ok (.iadd, 1) := by decide +kernel
theorem dX7_readNumber_33 : decode cX7_readNumber 33 = .ok (.if_icmp .le 5, 3) := by decide +kernel
theorem dX7_readNumber_36 : decode cX7_readNumber 36 = .ok (.iconst (-1), 1) := by decide +kernel
theorem dX7_readNumber_37 : decode cX7_readNumber 37 = .ok (.ireturn, 1) := by decide +kernel
theorem dX7_readNumber_38 : decode cX7_readNumber 38 = .ok (.iconst 0, 1) := by decide +kernel
theorem dX7_readNumber_39 : decode cX7_readNumber 39 = .ok (.istore 4, 2) := by decide +kernel
theorem dX7_readNumber_41 : decode cX7_readNumber 41 = .ok (.aload_n 0, 1) := by decide +kernel
theorem dX7_readNumber_42 : decode cX7_readNumber 42 = .ok (.getfield 19, 3) := by decide +kernel
theorem dX7_readNumber_45 : decode cX7_readNumber 45 = .ok (.istore 5, 2) := by decide +kernel
theorem dX7_readNumber_47 : decode cX7_readNumber 47 = .ok (.iload 5, 2) := by decide +kernel
theorem dX7_readNumber_49 : decode cX7_readNumber 49 = .ok (.iload_n 3, 1) := by decide +kernel
theorem dX7_readNumber_50 : decode cX7_readNumber 50 = .ok (.if_icmp .ge 27, 3) := by decide +kernel
theorem dX7_readNumber_53 : decode cX7_readNumber 53 = .ok (.bipush 10, 2) := by decide +kernel
theorem dX7_readNumber_55 : decode cX7_readNumber 55 = .ok (.iload 4, 2) := by decide +kernel
theorem dX7_readNumber_57 : decode cX7_readNumber 57 = .ok (.imul, 1) := by decide +kernel
theorem dX7_readNumber_58 : decode cX7_readNumber 58 = .ok (.aload_n 0, 1) := by decide +kernel
theorem dX7_readNumber_59 : decode cX7_readNumber 59 = .ok (.getfield 9, 3) := by decide +kernel
theorem dX7_readNumber_62 : decode cX7_readNumber 62 = .ok (.iload 5, 2) := by decide +kernel
theorem dX7_readNumber_64 : decode cX7_readNumber 64 = .ok (.iaload, 1) := by decide +kernel
theorem dX7_readNumber_65 : decode cX7_readNumber 65 = .ok (.iadd, 1) := by decide +kernel
theorem dX7_readNumber_66 : decode cX7_readNumber 66 = .ok (.bipush 48, 2) := by decide +kernel
theorem dX7_readNumber_68 : decode cX7_readNumber 68 = .ok (.isub, 1) := by decide +kernel
theorem dX7_readNumber_69 : decode cX7_readNumber 69 = .ok (.istore 4, 2) := by decide +kernel
theorem dX7_readNumber_71 : decode cX7_readNumber 71 = .ok (.iinc 5 1, 3) := by decide +kernel
theorem dX7_readNumber_74 : decode cX7_readNumber 74 = .ok (.goto (-27), 3) := by decide +kernel
theorem dX7_readNumber_77 : decode cX7_readNumber 77 = .ok (.iload 4, 2) := by decide +kernel
theorem dX7_readNumber_79 : decode cX7_readNumber 79 = .ok (.iload_n 1, 1) := by decide +kernel
theorem dX7_readNumber_80 : decode cX7_readNumber 80 = .ok (.if_icmp .lt 9, 3) := by decide +kernel
theorem dX7_readNumber_83 : decode cX7_readNumber 83 = .ok (.iload 4, 2) := by decide +kernel
theorem dX7_readNumber_85 : decode cX7_readNumber 85 = .ok (.iload_n 2, 1) := by decide +kernel
theorem dX7_readNumber_86 : decode cX7_readNumber 86 = .ok (.if_icmp .le 5, 3) := by decide +kernel
theorem dX7_readNumber_89 : decode cX7_readNumber 89 = .ok (.iconst (-1), 1) := by decide +kernel
theorem dX7_readNumber_90 : decode cX7_readNumber 90 = .ok (.ireturn, 1) := by decide +kernel
theorem dX7_readNumber_91 : decode cX7_readNumber 91 = .ok (.aload_n 0, 1) := by decide +kernel
theorem dX7_readNumber_92 : decode cX7_readNumber 92 = .ok (.iload_n 3, 1) := by decide +kernel
theorem dX7_readNumber_93 : decode cX7_readNumber 93 = .ok (.putfield 19, 3) := by decide +kernel
theorem dX7_readNumber_96 : decode cX7_readNumber 96 = .ok (.iload 4, 2) := by decide +kernel
theorem dX7_readNumber_98 : decode cX7_readNumber 98 = .ok (.ireturn, 1) := by decide +kernel
theorem dX7_readSemicolon_0 : decode cX7_readSemicolon 0 = .ok (.aload_n 0, 1) := by decide +kernel
theorem dX7_readSemicolon_1 : decode cX7_readSemicolon 1 = .ok (.invokevirtual 22, 3) := by decide +kernel
theorem dX7_readSemicolon_4 : decode cX7_readSemicolon 4 = .ok (.ifCond .ne 17, 3) := by decide +kernel
theorem dX7_readSemicolon_7 : decode cX7_readSemicolon 7 = .ok (.aload_n 0, 1) := by decide +kernel
theorem dX7_readSemicolon_8 : decode cX7_readSemicolon 8 = .ok (.getfield 9, 3) := by decide +kernel
theorem dX7_readSemicolon_11 : decode cX7_readSemicolon 11 = .ok (.aload_n 0, 1) := by decide +kernel
theorem dX7_readSemicolon_12 : decode cX7_readSemicolon 12 = .ok (.getfield 19, 3) := by decide +kernel
theorem dX7_readSemicolon_15 : decode cX7_readSemicolon 15 = .ok (.iaload, 1) := by decide +kernel
theorem dX7_readSemicolon_16 : decode cX7_readSemicolon 16 = .ok (.bipush 59, 2) := by decide +kernel
theorem dX7_readSemicolon_18 : decode cX7_readSemicolon 18 = .ok (.if_icmp .eq 5, 3) := by decide +kernel
theorem dX7_readSemicolon_21 : decode cX7_readSemicolon 21 = .ok (.iconst 0, 1) := by decide +kernel
theorem dX7_readSemicolon_22 : decode cX7_readSemicolon 22 = .ok (.ireturn, 1) := by decide +kernel
theorem dX7_readSemicolon_23 : decode cX7_readSemicolon 23 = .ok (.aload_n 0, 1) := by decide +kernel
theorem dX7_readSemicolon_24 : decode cX7_readSemicolon 24 = .ok (.dup, 1) := by decide +kernel
theorem dX7_readSemicolon_25 : decode cX7_readSemicolon 25 = .ok (.getfield 19, 3) := by decide +kernel
theorem dX7_readSemicolon_28 : decode cX7_readSemicolon 28 = .ok (.iconst 1, 1) := by decide +kernel
theorem dX7_readSemicolon_29 : decode cX7_readSemicolon 29 = .ok (.iadd, 1) := by decide +kernel
theorem dX7_readSemicolon_30 : decode cX7_readSemicolon 30 = .ok (.putfield 19, 3) := by decide +kernel
theorem dX7_readSemicolon_33 : decode cX7_readSemicolon 33 = .ok (.iconst 1, 1) := by decide +kernel
theorem dX7_readSemicolon_34 : decode cX7_readSemicolon 34 = .ok (.ireturn, 1) := by decide +kernel
theorem dX7_endOfRun_0 : decode cX7_endOfRun 0 = .ok (.aload_n 0, 1) := by decide +kernel
theorem dX7_endOfRun_1 : decode cX7_endOfRun 1 = .ok (.getfield 19, 3) := by decide +kernel
theorem dX7_endOfRun_4 : decode cX7_endOfRun 4 = .ok (.istore_n 3, 1) := by decide +kernel
theorem dX7_endOfRun_5 : decode cX7_endOfRun 5 = .ok (.iload_n 3, 1) := by decide +kernel
theorem dX7_endOfRun_6 : decode cX7_endOfRun 6 = .ok (.aload_n 0, 1) := by decide +kernel
theorem dX7_endOfRun_7 : decode cX7_endOfRun 7 = .ok (.getfield 15, 3) := by decide +kernel
theorem dX7_endOfRun_10 : decode cX7_endOfRun 10 = .ok (.if_icmp .ge 29, 3) := by decide +kernel
theorem dX7_endOfRun_13 : decode cX7_endOfRun 13 = .ok (.aload_n 0, 1) := by decide +kernel
theorem dX7_endOfRun_14 : decode cX7_endOfRun 14 = .ok (.getfield 9, 3) := by decide +kernel
theorem dX7_endOfRun_17 : decode cX7_endOfRun 17 = .ok (.iload_n 3, 1) := by decide +kernel
theorem dX7_endOfRun_18 : decode cX7_endOfRun 18 = .ok (.iaload, 1) := by decide +kernel
theorem dX7_endOfRun_19 : decode cX7_endOfRun 19 = .ok (.iload_n 1, 1) := by decide +kernel
theorem dX7_endOfRun_20 : decode cX7_endOfRun 20 = .ok (.if_icmp .lt 19, 3) := by decide +kernel
theorem dX7_endOfRun_23 : decode cX7_endOfRun 23 = .ok (.aload_n 0, 1) := by decide +kernel
theorem dX7_endOfRun_24 : decode cX7_endOfRun 24 = .ok (.getfield 9, 3) := by decide +kernel
theorem dX7_endOfRun_27 : decode cX7_endOfRun 27 = .ok (.iload_n 3, 1) := by decide +kernel
theorem dX7_endOfRun_28 : decode cX7_endOfRun 28 = .ok (.iaload, 1) := by decide +kernel
theorem dX7_endOfRun_29 : decode cX7_endOfRun 29 = .ok (.iload_n 2, 1) := by decide +kernel
theorem dX7_endOfRun_30 : decode cX7_endOfRun 30 = .ok (.if_icmp .gt 9, 3) := by decide +kernel
theorem dX7_endOfRun_33 : decode cX7_endOfRun 33 = .ok (.iinc 3 1, 3) := by decide +kernel
theorem dX7_endOfRun_36 : decode cX7_endOfRun 36 = .ok (.goto (-31), 3) := by decide +kernel
theorem dX7_endOfRun_39 : decode cX7_endOfRun 39 = .ok (.iload_n 3, 1) := by decide +kernel
theorem dX7_endOfRun_40 : decode cX7_endOfRun 40 = .ok (.ireturn, 1) := by decide +kernel
theorem dX8_init_0 : decode cX8_init 0 = .ok (.aload_n 0, 1) := by decide +kernel
theorem dX8_init_1 : decode cX8_init 1 = .ok (.invokespecial 3, 3) := by decide +kernel
theorem dX8_init_4 : decode cX8_init 4 = .ok (.aload_n 0, 1) := by decide +kernel
theorem dX8_init_5 : decode cX8_init 5 = .ok (.new 9, 3) := by decide +kernel
theorem dX8_init_8 : decode cX8_init 8 = .ok (.dup, 1) := by decide +kernel
theorem dX8_init_9 : decode cX8_init 9 = .ok (.invokespecial 11, 3) := by decide +kernel
theorem dX8_init_12 : decode cX8_init 12 = .ok (.putfield 12, 3) := by decide +kernel
theorem dX8_init_15 : decode cX8_init 15 = .ok (.aload_n 0, 1) := by decide +kernel
theorem dX8_init_16 : decode cX8_init 16 = .ok (.bipush 10, 2) := by decide +kernel
theorem dX8_init_18 : decode cX8_init 18 = .ok (.newarray .int, 2) := by decide +kernel
theorem dX8_init_20 : decode cX8_init 20 = .ok (.putfield 18, 3) := by decide +kernel
theorem dX8_init_23 : decode cX8_init 23 = .ok (.return_, 1) := by decide +kernel
theorem dX8_isAsRead_0 : decode cX8_isAsRead 0 = .ok (.iconst 0, 1) := by decide +kernel
theorem dX8_isAsRead_1 : decode cX8_isAsRead 1 = .ok (.istore_n 3, 1) := by decide +kernel
theorem dX8_isAsRead_2 : decode cX8_isAsRead 2 = .ok (.iload_n 3, 1) := by decide +kernel
theorem dX8_isAsRead_3 : decode cX8_isAsRead 3 = .ok (.aload_n 1, 1) := by decide +kernel
theorem dX8_isAsRead_4 : decode cX8_isAsRead 4 = .ok (.getfield 22, 3) := by decide +kernel
theorem dX8_isAsRead_7 : decode cX8_isAsRead 7 = .ok (.if_icmp .ge 49, 3) := by decide +kernel
theorem dX8_isAsRead_10 : decode cX8_isAsRead 10 = .ok (.aload_n 0, 1) := by decide +kernel
theorem dX8_isAsRead_11 : decode cX8_isAsRead 11 = .ok (.getfield 12, 3) := by decide +kernel
theorem dX8_isAsRead_14 : decode cX8_isAsRead 14 = .ok (.aload_n 1, 1) := by decide +kernel
theorem dX8_isAsRead_15 : decode cX8_isAsRead 15 = .ok (.aload_n 1, 1) := by decide +kernel
theorem dX8_isAsRead_16 : decode cX8_isAsRead 16 = .ok (.getfield 28, 3) := by decide +kernel
theorem dX8_isAsRead_19 : decode cX8_isAsRead 19 = .ok (.iload_n 3, 1) := by decide +kernel
theorem dX8_isAsRead_20 : decode cX8_isAsRead 20 = .ok (.iaload, 1) := by decide +kernel
theorem dX8_isAsRead_21 : decode cX8_isAsRead 21 = .ok (.invokevirtual 31, 3) := by decide +kernel
theorem dX8_isAsRead_24 : decode cX8_isAsRead 24 = .ok (.aload_n 0, 1) := by decide +kernel
theorem dX8_isAsRead_25 : decode cX8_isAsRead 25 = .ok (.getfield 12, 3) := by decide +kernel
theorem dX8_isAsRead_28 : decode cX8_isAsRead 28 = .ok (.aload_n 1, 1) := by decide +kernel
theorem dX8_isAsRead_29 : decode cX8_isAsRead 29 = .ok (.iload_n 2, 1) := by decide +kernel
theorem dX8_isAsRead_30 : decode cX8_isAsRead 30 = .ok (.aload_n 1, 1) := by decide +kernel
theorem dX8_isAsRead_31 : decode cX8_isAsRead 31 = .ok (.getfield 35, 3) := by decide +kernel
theorem dX8_isAsRead_34 : decode cX8_isAsRead 34 = .ok (.iload_n 3, 1) := by decide +kernel
theorem dX8_isAsRead_35 : decode cX8_isAsRead 35 = .ok (.iaload, 1) := by decide +kernel
theorem dX8_isAsRead_36 : decode cX8_isAsRead 36 = .ok (.invokevirtual 38, 3) := by decide +kernel
theorem dX8_isAsRead_39 : decode cX8_isAsRead 39 = .ok (.aload_n 1, 1) := by decide +kernel
theorem dX8_isAsRead_40 : decode cX8_isAsRead 40 = .ok (.getfield 42, 3) := by decide +kernel
theorem dX8_isAsRead_43 : decode cX8_isAsRead 43 = .ok (.iload_n 3, 1) := by decide +kernel
theorem dX8_isAsRead_44 : decode cX8_isAsRead 44 = .ok (.iaload, 1) := by decide +kernel
theorem dX8_isAsRead_45 : decode cX8_isAsRead 45 = .ok (.if_icmp .eq 5, 3) := by decide +kernel
theorem dX8_isAsRead_48 : decode cX8_isAsRead 48 = .ok (.iconst 0, 1) := by decide +kernel
theorem dX8_isAsRead_49 : decode cX8_isAsRead 49 = .ok (.ireturn, 1) := by decide +kernel
theorem dX8_isAsRead_50 : decode cX8_isAsRead 50 = .ok (.iinc 3 1, 3) := by decide +kernel
theorem dX8_isAsRead_53 : decode cX8_isAsRead 53 = .ok (.goto (-51), 3) := by decide +kernel
theorem dX8_isAsRead_56 : decode cX8_isAsRead 56 = .ok (.iconst 1, 1) := by decide +kernel
theorem dX8_isAsRead_57 : decode cX8_isAsRead 57 = .ok (.ireturn, 1) := by decide +kernel
theorem dX8_fittingSets_0 : decode cX8_fittingSets 0 = .ok (.lconst 0, 1) := by decide +kernel
theorem dX8_fittingSets_1 : decode cX8_fittingSets 1 = .ok (.lstore_n 2, 1) := by decide +kernel
theorem dX8_fittingSets_2 : decode cX8_fittingSets 2 = .ok (.iconst 0, 1) := by decide +kernel
theorem dX8_fittingSets_3 : decode cX8_fittingSets 3 = .ok (.istore 4, 2) := by decide +kernel
theorem dX8_fittingSets_5 : decode cX8_fittingSets 5 = .ok (.iload 4, 2) := by decide +kernel
theorem dX8_fittingSets_7 : decode cX8_fittingSets 7 = .ok (.aload_n 1, 1) := by decide +kernel
theorem dX8_fittingSets_8 : decode cX8_fittingSets 8 = .ok (.invokevirtual 45, 3) := by decide +kernel
theorem dX8_fittingSets_11 : decode cX8_fittingSets 11 = .ok (.if_icmp .gt 26, 3) := by decide +kernel
theorem dX8_fittingSets_14 : decode cX8_fittingSets 14 = .ok (.aload_n 0, 1) := by decide +kernel
theorem dX8_fittingSets_15 : decode cX8_fittingSets 15 = .ok (.aload_n 1, 1) := by decide +kernel
theorem dX8_fittingSets_16 : decode cX8_fittingSets 16 = .ok (.iload 4, 2) := by decide +kernel
theorem dX8_fittingSets_18 : decode cX8_fittingSets 18 = .ok (.invokevirtual 49, 3) := by decide +kernel
theorem dX8_fittingSets_21 : decode cX8_fittingSets 21 = .ok (.ifCond .eq 10, 3) := by decide +kernel
theorem dX8_fittingSets_24 : decode cX8_fittingSets 24 = .ok (.lload_n 2, 1) := by decide +kernel
theorem dX8_fittingSets_25 : decode cX8_fittingSets 25 = .ok (.lconst 1, 1) := by decide +kernel
theorem dX8_fittingSets_26 : decode cX8_fittingSets 26 = .ok (.iload 4, 2) := by decide +kernel
theorem dX8_fittingSets_28 : decode cX8_fittingSets 28 = .ok (.lshl, 1) := by decide +kernel
theorem dX8_fittingSets_29 : decode cX8_fittingSets 29 = .ok (.lor, 1) := by decide +kernel
theorem dX8_fittingSets_30 : decode cX8_fittingSets 30 = .ok (.lstore_n 2, 1) := by decide +kernel
theorem dX8_fittingSets_31 : decode cX8_fittingSets 31 = .ok (.iinc 4 1, 3) := by decide +kernel
theorem dX8_fittingSets_34 : decode cX8_fittingSets 34 = .ok (.goto (-29), 3) := by decide +kernel
theorem dX8_fittingSets_37 : decode cX8_fittingSets 37 = .ok (.lload_n 2, 1) := by decide +kernel
theorem dX8_fittingSets_38 : decode cX8_fittingSets 38 = .ok (.lreturn, 1) := by decide +kernel
theorem dX8_inAllSets_0 : decode cX8_inAllSets 0 = .ok (.lload_n 2, 1) := by decide +kernel
theorem dX8_inAllSets_1 : decode cX8_inAllSets 1 = .ok (.lconst 0, 1) := by decide +kernel
theorem dX8_inAllSets_2 : decode cX8_inAllSets 2 = .ok (.lcmp, 1) := by decide +kernel
theorem dX8_inAllSets_3 : decode cX8_inAllSets 3 = .ok (.ifCond .ne 5, 3) := by decide +kernel
theorem dX8_inAllSets_6 : decode cX8_inAllSets 6 = .ok (.iconst (-1), 1) := by decide +kernel
theorem dX8_inAllSets_7 : decode cX8_inAllSets 7 = .ok (.ireturn, 1) := by decide +kernel
theorem dX8_inAllSets_8 : decode cX8_inAllSets 8 = .ok (.aload_n 1, 1) := by decide +kernel
theorem dX8_inAllSets_9 : decode cX8_inAllSets 9 = .ok (.invokevirtual 45, 3) := by decide +kernel
theorem dX8_inAllSets_12 : decode cX8_inAllSets 12 = .ok (.istore 4, 2) := by decide +kernel
theorem dX8_inAllSets_14 : decode cX8_inAllSets 14 = .ok (.iconst 0, 1) := by decide +kernel
theorem dX8_inAllSets_15 : decode cX8_inAllSets 15 = .ok (.istore 5, 2) := by decide +kernel
theorem dX8_inAllSets_17 : decode cX8_inAllSets 17 = .ok (.iload 5, 2) := by decide +kernel
theorem dX8_inAllSets_19 : decode cX8_inAllSets 19 = .ok (.aload_n 1, 1) := by decide +kernel
theorem dX8_inAllSets_20 : decode cX8_inAllSets 20 = .ok (.invokevirtual 45, 3) := by decide +kernel
theorem dX8_inAllSets_23 : decode cX8_inAllSets 23 = .ok (.if_icmp .gt 27, 3) := by decide +kernel
theorem dX8_inAllSets_26 : decode cX8_inAllSets 26 = .ok (.lload_n 2, 1) := by decide +kernel
theorem dX8_inAllSets_27 : decode cX8_inAllSets 27 = .ok (.iload 5, 2) := by decide +kernel
theorem dX8_inAllSets_29 : decode cX8_inAllSets 29 = .ok (.lshr, 1) := by decide +kernel
theorem dX8_inAllSets_30 : decode cX8_inAllSets 30 = .ok (.lconst 1, 1) := by decide +kernel
theorem dX8_inAllSets_31 : decode cX8_inAllSets 31 = .ok (.land, 1) := by decide +kernel
theorem dX8_inAllSets_32 : decode cX8_inAllSets 32 = .ok (.lconst 0, 1) := by decide +kernel
theorem dX8_inAllSets_33 : decode cX8_inAllSets 33 = .ok (.lcmp, 1) := by decide +kernel
theorem dX8_inAllSets_34 : decode cX8_inAllSets 34 = .ok (.ifCond .eq 10, 3) := by decide +kernel
theorem dX8_inAllSets_37 : decode cX8_inAllSets 37 = .ok (.iload 4, 2) := by decide +kernel
theorem dX8_inAllSets_39 : decode cX8_inAllSets 39 = .ok (.iload 5, 2) := by decide +kernel
theorem dX8_inAllSets_41 : decode cX8_inAllSets 41 = .ok (.iand, 1) := by decide +kernel
theorem dX8_inAllSets_42 : decode cX8_inAllSets 42 = .ok (.istore 4, 2) := by decide +kernel
theorem dX8_inAllSets_44 : decode cX8_inAllSets 44 = .ok (.iinc 5 1, 3) := by decide +kernel
theorem dX8_inAllSets_47 : decode cX8_inAllSets 47 = .ok (.goto (-30), 3) := by decide +kernel
theorem dX8_inAllSets_50 : decode cX8_inAllSets 50 = .ok (.iload 4, 2) := by decide +kernel
theorem dX8_inAllSets_52 : decode cX8_inAllSets 52 = .ok (.ireturn, 1) := by decide +kernel
theorem dX8_bestCell_0 : decode cX8_bestCell 0 = .ok (.lload_n 2, 1) := by decide +kernel
theorem dX8_bestCell_1 : decode cX8_bestCell 1 = .ok (.lconst 0, 1) := by decide +kernel
theorem dX8_bestCell_2 : decode cX8_bestCell 2 = .ok (.lcmp, 1) := by decide +kernel
theorem dX8_bestCell_3 : decode cX8_bestCell 3 = .ok (.ifCond .ne 5, 3) := by decide +kernel
theorem dX8_bestCell_6 : decode cX8_bestCell 6 = .ok (.iconst (-1), 1) := by decide +kernel
theorem dX8_bestCell_7 : decode cX8_bestCell 7 = .ok (.ireturn, 1) := by decide +kernel
theorem dX8_bestCell_8 : decode cX8_bestCell 8 = .ok (.aload_n 0, 1) := by decide +kernel
theorem dX8_bestCell_9 : decode cX8_bestCell 9 = .ok (.getfield 12, 3) := by decide +kernel
theorem dX8_bestCell_12 : decode cX8_bestCell 12 = .ok (.aload_n 1, 1) := by decide +kernel
theorem dX8_bestCell_13 : decode cX8_bestCell 13 = .ok (.iload 4, 2) := by decide +kernel
theorem dX8_bestCell_15 : decode cX8_bestCell 15 = .ok (.invokevirtual 31, 3) := by decide +kernel
theorem dX8_bestCell_18 : decode cX8_bestCell 18 = .ok (.iconst (-1), 1) := by decide +kernel
theorem dX8_bestCell_19 : decode cX8_bestCell 19 = .ok (.istore 5, 2) := by decide +kernel
theorem dX8_bestCell_21 : decode cX8_bestCell 21 = .ok (.lload_n 2, 1) := by decide +kernel
theorem dX8_bestCell_22 : decode cX8_bestCell 22 = .ok (.invokestatic 53, 3) := by decide +kernel
theorem dX8_bestCell_25 : decode cX8_bestCell 25 = .ok (.iconst 1, 1) := by decide +kernel
theorem dX8_bestCell_26 : decode cX8_bestCell 26 = .ok (.iadd, 1) := by decide +kernel
theorem dX8_bestCell_27 : decode cX8_bestCell 27 = .ok (.istore 6, 2) := by decide +kernel
theorem dX8_bestCell_29 : decode cX8_bestCell 29 = .ok (.iconst 0, 1) := by decide +kernel
theorem dX8_bestCell_30 : decode cX8_bestCell 30 = .ok (.istore 7, 2) := by decide +kernel
theorem dX8_bestCell_32 : decode cX8_bestCell 32 = .ok (.iload 7, 2) := by decide +kernel
theorem dX8_bestCell_34 : decode cX8_bestCell 34 = .ok (.bipush 48, 2) := by decide +kernel
theorem dX8_bestCell_36 : decode cX8_bestCell 36 = .ok (.if_icmp .ge 34, 3) := by decide +kernel
theorem dX8_bestCell_39 : decode cX8_bestCell 39 = .ok (.aload_n 0, 1) := by decide +kernel
theorem dX8_bestCell_40 : decode cX8_bestCell 40 = .ok (.aload_n 1, 1) := by decide +kernel
theorem dX8_bestCell_41 : decode cX8_bestCell 41 = .ok (.lload_n 2, 1) := by decide +kernel
theorem dX8_bestCell_42 : decode cX8_bestCell 42 = .ok (.iload 7, 2) := by decide +kernel
theorem dX8_bestCell_44 : decode cX8_bestCell 44 = .ok (.invokevirtual 59, 3) := by decide +kernel
theorem dX8_bestCell_47 : decode cX8_bestCell 47 = .ok (.istore 8, 2) := by decide +kernel
theorem dX8_bestCell_49 : decode cX8_bestCell 49 = .ok (.iload 8, 2) := by decide +kernel
theorem dX8_bestCell_51 : decode cX8_bestCell 51 = .ok (.iload 6, 2) := by decide +kernel
theorem dX8_bestCell_53 : decode cX8_bestCell 53 = .ok (.if_icmp .ge 11, 3) := by decide +kernel
theorem dX8_bestCell_56 : decode cX8_bestCell 56 = .ok (.iload 7, 2) := by decide +kernel
theorem dX8_bestCell_58 : decode cX8_bestCell 58 = .ok (.istore 5, 2) := by decide +kernel
theorem dX8_bestCell_60 : decode cX8_bestCell 60 = .ok (.iload 8, 2) := by decide +kernel
theorem dX8_bestCell_62 : decode cX8_bestCell 62 = .ok (.istore 6, 2) := by decide +kernel
theorem dX8_bestCell_64 : decode cX8_bestCell 64 = .ok (.iinc 7 1, 3) := by decide +kernel
theorem dX8_bestCell_67 : decode cX8_bestCell 67 = .ok (.goto (-35), 3) := by decide +kernel
theorem dX8_bestCell_70 : decode cX8_bestCell 70 = .ok (.iload 5, 2) := by decide +kernel
theorem dX8_bestCell_72 : decode cX8_bestCell 72 = .ok (.ireturn, 1) := by decide +kernel
theorem dX8_mostAlike_0 : decode cX8_mostAlike 0 = .ok (.iconst 0, 1) := by decide +kernel
theorem dX8_mostAlike_1 : decode cX8_mostAlike 1 = .ok (.istore 5, 2) := by decide +kernel
theorem dX8_mostAlike_3 : decode cX8_mostAlike 3 = .ok (.iload 5, 2) := by decide +kernel
theorem dX8_mostAlike_5 : decode cX8_mostAlike 5 = .ok (.bipush 9, 2) := by decide +kernel
theorem dX8_mostAlike_7 : decode cX8_mostAlike 7 = .ok (.if_icmp .gt 17, 3) := by decide +kernel
theorem dX8_mostAlike_10 : decode cX8_mostAlike 10 = .ok (.aload_n 0, 1) := by decide +kernel
theorem dX8_mostAlike_11 : decode cX8_mostAlike 11 = .ok (.getfield 18, 3) := by decide +kernel
theorem dX8_mostAlike_14 : decode cX8_mostAlike 14 = .ok (.iload 5, 2) := by decide +kernel
theorem dX8_mostAlike_16 : decode cX8_mostAlike 16 = .ok (.iconst 0, 1) := by decide +kernel
theorem dX8_mostAlike_17 : decode cX8_mostAlike 17 = .ok (.iastore, 1) := by decide +kernel
theorem dX8_mostAlike_18 : decode cX8_mostAlike 18 = .ok (.iinc 5 1, 3) := by decide +kernel
theorem dX8_mostAlike_21 : decode cX8_mostAlike 21 = .ok (.goto (-18), 3) := by decide +kernel
theorem dX8_mostAlike_24 : decode cX8_mostAlike 24 = .ok (.iconst 0, 1) := by decide +kernel
theorem dX8_mostAlike_25 : decode cX8_mostAlike 25 = .ok (.istore 5, 2) := by decide +kernel
theorem dX8_mostAlike_27 : decode cX8_mostAlike 27 = .ok (.iconst 0, 1) := by decide +kernel
theorem dX8_mostAlike_28 : decode cX8_mostAlike 28 = .ok (.istore 6, 2) := by decide +kernel
theorem dX8_mostAlike_30 : decode cX8_mostAlike 30 = .ok (.iload 6, 2) := by decide +kernel
theorem dX8_mostAlike_32 : decode cX8_mostAlike 32 = .ok (.aload_n 1, 1) := by decide +kernel
theorem dX8_mostAlike_33 : decode cX8_mostAlike 33 = .ok (.invokevirtual 45, 3) := by decide +kernel
theorem dX8_mostAlike_36 : decode cX8_mostAlike 36 = .ok (.if_icmp .gt 59, 3) := by decide +kernel
theorem dX8_mostAlike_39 : decode cX8_mostAlike 39 = .ok (.lload_n 2, 1) := by decide +kernel
theorem dX8_mostAlike_40 : decode cX8_mostAlike 40 = .ok (.iload 6, 2) := by decide +kernel
theorem dX8_mostAlike_42 : decode cX8_mostAlike 42 = .ok (.lshr, 1) := by decide +kernel
theorem dX8_mostAlike_43 : decode cX8_mostAlike 43 = .ok (.lconst 1, 1) := by decide +kernel
theorem dX8_mostAlike_44 : decode cX8_mostAlike 44 = .ok (.land, 1) := by decide +kernel
theorem dX8_mostAlike_45 : decode cX8_mostAlike 45 = .ok (.lconst 0, 1) := by decide +kernel
theorem dX8_mostAlike_46 : decode cX8_mostAlike 46 = .ok (.lcmp, 1) := by decide +kernel
theorem dX8_mostAlike_47 : decode cX8_mostAlike 47 = .ok (.ifCond .eq 42, 3) := by decide +kernel
theorem dX8_mostAlike_50 : decode cX8_mostAlike 50 = .ok (.aload_n 0, 1) := by decide +kernel
theorem dX8_mostAlike_51 : decode cX8_mostAlike 51 = .ok (.getfield 12, 3) := by decide +kernel
theorem dX8_mostAlike_54 : decode cX8_mostAlike 54 = .ok (.aload_n 1, 1) := by decide +kernel
theorem dX8_mostAlike_55 : decode cX8_mostAlike 55 = .ok (.iload 6, 2) := by decide +kernel
theorem dX8_mostAlike_57 : decode cX8_mostAlike 57 = .ok (.iload 4, 2) := by decide +kernel
theorem dX8_mostAlike_59 : decode cX8_mostAlike 59 = .ok (.invokevirtual 38, 3) := by decide +kernel
theorem dX8_mostAlike_62 : decode cX8_mostAlike 62 = .ok (.istore 7, 2) := by decide +kernel
theorem dX8_mostAlike_64 : decode cX8_mostAlike 64 = .ok (.aload_n 0, 1) := by decide +kernel
theorem dX8_mostAlike_65 : decode cX8_mostAlike 65 = .ok (.getfield 18, 3) := by decide +kernel
theorem dX8_mostAlike_68 : decode cX8_mostAlike 68 = .ok (.iload 7, 2) := by decide +kernel
theorem dX8_mostAlike_70 : decode cX8_mostAlike 70 = .ok (.dup2, 1) := by decide +kernel
theorem dX8_mostAlike_71 : decode cX8_mostAlike 71 = .ok (.iaload, 1) := by decide +kernel
theorem dX8_mostAlike_72 : decode cX8_mostAlike 72 = .ok (.iconst 1, 1) := by decide +kernel
theorem dX8_mostAlike_73 : decode cX8_mostAlike 73 = .ok (.iadd, 1) := by decide +kernel
theorem dX8_mostAlike_74 : decode cX8_mostAlike 74 = .ok (.iastore, 1) := by decide +kernel
theorem dX8_mostAlike_75 : decode cX8_mostAlike 75 = .ok (.iload 5, 2) := by decide +kernel
theorem dX8_mostAlike_77 : decode cX8_mostAlike 77 = .ok (.aload_n 0, 1) := by decide +kernel
theorem dX8_mostAlike_78 : decode cX8_mostAlike 78 = .ok (.getfield 18, 3) := by decide +kernel
theorem dX8_mostAlike_81 : decode cX8_mostAlike 81 = .ok (.iload 7, 2) := by decide +kernel
theorem dX8_mostAlike_83 : decode cX8_mostAlike 83 = .ok (.iaload, 1) := by decide +kernel
theorem dX8_mostAlike_84 : decode cX8_mostAlike 84 = .ok (.invokestatic 63, 3) := by decide +kernel
theorem dX8_mostAlike_87 : decode cX8_mostAlike 87 = .ok (.istore 5, 2) := by decide +kernel
theorem dX8_mostAlike_89 : decode cX8_mostAlike 89 = .ok (.iinc 6 1, 3) := by decide +kernel
theorem dX8_mostAlike_92 : decode cX8_mostAlike 92 = .ok (.goto (-62), 3) := by decide +kernel
theorem dX8_mostAlike_95 : decode cX8_mostAlike 95 = .ok (.iload 5, 2) := by decide +kernel
theorem dX8_mostAlike_97 : decode cX8_mostAlike 97 = .ok (.ireturn, 1) := by decide +kernel
theorem dX8_possibleDolls_0 : decode cX8_possibleDolls 0 = .ok (.iconst 0, 1) := by decide +kernel
theorem dX8_possibleDolls_1 : decode cX8_possibleDolls 1 = .ok (.istore_n 2, 1) := by decide +kernel
theorem dX8_possibleDolls_2 : decode cX8_possibleDolls 2 = .ok (.iconst 0, 1) := by decide +kernel
theorem dX8_possibleDolls_3 : decode cX8_possibleDolls 3 = .ok (.istore_n 3, 1) := by decide +kernel
theorem dX8_possibleDolls_4 : decode cX8_possibleDolls 4 = .ok (.iload_n 3, 1) := by decide +kernel
theorem dX8_possibleDolls_5 : decode cX8_possibleDolls 5 = .ok (.aload_n 1, 1) := by decide +kernel
theorem dX8_possibleDolls_6 : decode cX8_possibleDolls 6 = .ok (.getfield 69, 3) := by decide +kernel
theorem dX8_possibleDolls_9 : decode cX8_possibleDolls 9 = .ok (.if_icmp .ge 50, 3) := by decide +kernel
theorem dX8_possibleDolls_12 : decode cX8_possibleDolls 12 = .ok (.aload_n 1, 1) := by decide +kernel
theorem dX8_possibleDolls_13 : decode cX8_possibleDolls 13 = .ok (.getfield 72, 3) := by decide +kernel
theorem dX8_possibleDolls_16 : decode cX8_possibleDolls 16 = .ok (.iload_n 3, 1) := by decide +kernel
theorem dX8_possibleDolls_17 : decode cX8_possibleDolls 17 = .ok (.iaload, 1) := by decide +kernel
theorem dX8_possibleDolls_18 : decode cX8_possibleDolls 18 = .ok (.istore 4, 2) := by decide +kernel
theorem dX8_possibleDolls_20 : decode cX8_possibleDolls 20 = .ok (.aload_n 1, 1) := by decide +kernel
theorem dX8_possibleDolls_21 : decode cX8_possibleDolls 21 = .ok (.getfield 72, 3) := by decide +kernel
theorem dX8_possibleDolls_24 : decode cX8_possibleDolls 24 = .ok (.iload_n 3, 1) := by decide +kernel
theorem dX8_possibleDolls_25 : decode cX8_possibleDolls 25 = .ok (.iconst 5, 1) := by decide +kernel
theorem dX8_possibleDolls_26 : decode cX8_possibleDolls 26 = .ok (.iastore, 1) := by decide +kernel
theorem dX8_possibleDolls_27 : decode cX8_possibleDolls 27 = .ok (.aload_n 0, 1) := by decide +kernel
theorem dX8_possibleDolls_28 : decode cX8_possibleDolls 28 = .ok (.aload_n 1, 1) := by decide +kernel
theorem dX8_possibleDolls_29 : decode cX8_possibleDolls 29 = .ok (.aload_n 1, 1) := by decide +kernel
theorem dX8_possibleDolls_30 : decode cX8_possibleDolls 30 = .ok (.invokevirtual 45, 3) := by decide +kernel
theorem dX8_possibleDolls_33 : decode cX8_possibleDolls 33 = .ok (.invokevirtual 49, 3) := by decide +kernel
theorem dX8_possibleDolls_36 : decode cX8_possibleDolls 36 = .ok (.ifCond .eq 9, 3) := by decide +kernel
theorem dX8_possibleDolls_39 : decode cX8_possibleDolls 39 = .ok (.iload_n 2, 1) := by decide +kernel
theorem dX8_possibleDolls_40 : decode cX8_possibleDolls 40 = .ok (.iconst 1, 1) := by decide +kernel
theorem dX8_possibleDolls_41 : decode cX8_possibleDolls 41 = .ok (.iload_n 3, 1) := by decide +kernel
theorem dX8_possibleDolls_42 : decode cX8_possibleDolls 42 = .ok (.ishl, 1) := by decide +kernel
theorem dX8_possibleDolls_43 : decode cX8_possibleDolls 43 = .ok (.ior, 1) := by decide +kernel
theorem dX8_possibleDolls_44 : decode cX8_possibleDolls 44 = .ok (.istore_n 2, 1) := by decide +kernel
theorem dX8_possibleDolls_45 : decode cX8_possibleDolls 45 = .ok (.aload_n 1, 1) := by decide +kernel
theorem dX8_possibleDolls_46 : decode cX8_possibleDolls 46 = .ok (.getfield 72, 3) := by decide +kernel
theorem dX8_possibleDolls_49 : decode cX8_possibleDolls 49 = .ok (.iload_n 3, 1) := by decide +kernel
theorem dX8_possibleDolls_50 : decode cX8_possibleDolls 50 = .ok (.iload 4, 2) := by decide +kernel
theorem dX8_possibleDolls_52 : decode cX8_possibleDolls 52 = .ok (.iastore, 1) := by decide +kernel
theorem dX8_possibleDolls_53 : decode cX8_possibleDolls 53 = .ok (.iinc 3 1, 3) := by decide +kernel
theorem dX8_possibleDolls_56 : decode cX8_possibleDolls 56 = .ok (.goto (-52), 3) := by decide +kernel
theorem dX8_possibleDolls_59 : decode cX8_possibleDolls 59 = .ok (.iload_n 2, 1) := by decide +kernel
theorem dX8_possibleDolls_60 : decode cX8_possibleDolls 60 = .ok (.ireturn, 1) := by decide +kernel
theorem dX9_init_0 : decode cX9_init 0 = .ok (.aload_n 0, 1) := by decide +kernel
theorem dX9_init_1 : decode cX9_init 1 = .ok (.invokespecial 1, 3) := by decide +kernel
theorem dX9_init_4 : decode cX9_init 4 = .ok (.return_, 1) := by decide +kernel
theorem dX9_highIn_0 : decode cX9_highIn 0 = .ok (.iconst 1, 1) := by decide +kernel
theorem dX9_highIn_1 : decode cX9_highIn 1 = .ok (.aload_n 0, 1) := by decide +kernel
theorem dX9_highIn_2 : decode cX9_highIn 2 = .ok (.iload_n 1, 1) := by decide +kernel
theorem dX9_highIn_3 : decode cX9_highIn 3 = .ok (.iload_n 2, 1) := by decide +kernel
theorem dX9_highIn_4 : decode cX9_highIn 4 = .ok (.invokespecial 7, 3) := by decide +kernel
theorem dX9_highIn_7 : decode cX9_highIn 7 = .ok (.iconst 2, 1) := by decide +kernel
theorem dX9_highIn_8 : decode cX9_highIn 8 = .ok (.idiv, 1) := by decide +kernel
theorem dX9_highIn_9 : decode cX9_highIn 9 = .ok (.invokestatic 11, 3) := by decide +kernel
theorem dX9_highIn_12 : decode cX9_highIn 12 = .ok (.ireturn, 1) := by decide +kernel
theorem dX10_init_0 : decode cX10_init 0 = .ok (.aload_n 0, 1) := by decide +kernel
theorem dX10_init_1 : decode cX10_init 1 = .ok (.invokespecial 3, 3) := by decide +kernel
theorem dX10_init_4 : decode cX10_init 4 = .ok (.return_, 1) := by decide +kernel
theorem dX10_cellIn_0 : decode cX10_cellIn 0 = .ok (.bipush 47, 2) := by decide +kernel
theorem dX10_cellIn_2 : decode cX10_cellIn 2 = .ok (.iload_n 1, 1) := by decide +kernel
theorem dX10_cellIn_3 : decode cX10_cellIn 3 = .ok (.iload_n 2, 1) := by decide +kernel
theorem dX10_cellIn_4 : decode cX10_cellIn 4 = .ok (.iload_n 3, 1) := by decide +kernel
theorem dX10_cellIn_5 : decode cX10_cellIn 5 = .ok (.imul, 1) := by decide +kernel
theorem dX10_cellIn_6 : decode cX10_cellIn 6 = .ok (.iadd, 1) := by decide +kernel
theorem dX10_cellIn_7 : decode cX10_cellIn 7 = .ok (.invokestatic 9, 3) := by decide +kernel
theorem dX10_cellIn_10 : decode cX10_cellIn 10 = .ok (.ireturn, 1) := by decide +kernel
theorem dX10_highIn_0 : decode cX10_highIn 0 = .ok (.iload_n 1, 1) := by decide +kernel
theorem dX10_highIn_1 : decode cX10_highIn 1 = .ok (.ireturn, 1) := by decide +kernel
theorem dX11_init_0 : decode cX11_init 0 = .ok (.aload_n 0, 1) := by decide +kernel
theorem dX11_init_1 : decode cX11_init 1 = .ok (.invokespecial 1, 3) := by decide +kernel
theorem dX11_init_4 : decode cX11_init 4 = .ok (.aload_n 0, 1) := by decide +kernel
theorem dX11_init_5 : decode cX11_init 5 = .ok (.new 7, 3) := by decide +kernel
theorem dX11_init_8 : decode cX11_init 8 = .ok (.dup, 1) := by decide +kernel
theorem dX11_init_9 : decode cX11_init 9 = .ok (.invokespecial 9, 3) := by decide +kernel
theorem dX11_init_12 : decode cX11_init 12 = .ok (.putfield 10, 3) := by decide +kernel
theorem dX11_init_15 : decode cX11_init 15 = .ok (.aload_n 0, 1) := by decide +kernel
theorem dX11_init_16 : decode cX11_init 16 = .ok (.new 7, 3) := by decide +kernel
theorem dX11_init_19 : decode cX11_init 19 = .ok (.dup, 1) := by decide +kernel
theorem dX11_init_20 : decode cX11_init 20 = .ok (.invokespecial 9, 3) := by decide +kernel
theorem dX11_init_23 : decode cX11_init 23 = .ok (.putfield 16, 3) := by decide +kernel
theorem dX11_init_26 : decode cX11_init 26 = .ok (.aload_n 0, 1) := by decide +kernel
theorem dX11_init_27 : decode cX11_init 27 = .ok (.new 7, 3) := by decide +kernel
theorem dX11_init_30 : decode cX11_init 30 = .ok (.dup, 1) := by decide +kernel
theorem dX11_init_31 : decode cX11_init 31 = .ok (.invokespecial 9, 3) := by decide +kernel
theorem dX11_init_34 : decode cX11_init 34 = .ok (.putfield 19, 3) := by decide +kernel
theorem dX11_init_37 : decode cX11_init 37 = .ok (.aload_n 0, 1) := by decide +kernel
theorem dX11_init_38 : decode cX11_init 38 = .ok (.new 7, 3) := by decide +kernel
theorem dX11_init_41 : decode cX11_init 41 = .ok (.dup, 1) := by decide +kernel
theorem dX11_init_42 : decode cX11_init 42 = .ok (.invokespecial 9, 3) := by decide +kernel
theorem dX11_init_45 : decode cX11_init 45 = .ok (.putfield 22, 3) := by decide +kernel
theorem dX11_init_48 : decode cX11_init 48 = .ok (.aload_n 0, 1) := by decide +kernel
theorem dX11_init_49 : decode cX11_init 49 = .ok (.new 25, 3) := by decide +kernel
theorem dX11_init_52 : decode cX11_init 52 = .ok (.dup, 1) := by decide +kernel
theorem dX11_init_53 : decode cX11_init 53 = .ok (.invokespecial 27, 3) := by decide +kernel
theorem dX11_init_56 : decode cX11_init 56 = .ok (.putfield 28, 3) := by decide +kernel
theorem dX11_init_59 : decode cX11_init 59 = .ok (.aload_n 0, 1) := by decide +kernel
theorem dX11_init_60 : decode cX11_init 60 = .ok (.new 32, 3) := by decide +kernel
theorem dX11_init_63 : decode cX11_init 63 = .ok (.dup, 1) := by decide +kernel
theorem dX11_init_64 : decode cX11_init 64 = .ok (.invokespecial 34, 3) := by decide +kernel
theorem dX11_init_67 : decode cX11_init 67 = .ok (.putfield 35, 3) := by decide +kernel
theorem dX11_init_70 : decode cX11_init 70 = .ok (.aload_n 0, 1) := by decide +kernel
theorem dX11_init_71 : decode cX11_init 71 = .ok (.new 39, 3) := by decide +kernel
theorem dX11_init_74 : decode cX11_init 74 = .ok (.dup, 1) := by decide +kernel
theorem dX11_init_75 : decode cX11_init 75 = .ok (.invokespecial 41, 3) := by decide +kernel
theorem dX11_init_78 : decode cX11_init 78 = .ok (.putfield 42, 3) := by decide +kernel
theorem dX11_init_81 : decode cX11_init 81 = .ok (.aload_n 0, 1) := by decide +kernel
theorem dX11_init_82 : decode cX11_init 82 = .ok (.new 46, 3) := by decide +kernel
theorem dX11_init_85 : decode cX11_init 85 = .ok (.dup, 1) := by decide +kernel
theorem dX11_init_86 : decode cX11_init 86 = .ok (.invokespecial 48, 3) := by decide +kernel
theorem dX11_init_89 : decode cX11_init 89 = .ok (.putfield 49, 3) := by decide +kernel
theorem dX11_init_92 : decode cX11_init 92 = .ok (.aload_n 0, 1) := by decide +kernel
theorem dX11_init_93 : decode cX11_init 93 = .ok (.iconst 1, 1) := by decide +kernel
theorem dX11_init_94 : decode cX11_init 94 = .ok (.putfield 53, 3) := by decide +kernel
theorem dX11_init_97 : decode cX11_init 97 = .ok (.return_, 1) := by decide +kernel
theorem dX11_road_0 : decode cX11_road 0 = .ok (.iload_n 1, 1) := by decide +kernel
theorem dX11_road_1 : decode cX11_road 1 = .ok (.iconst 0, 1) := by decide +kernel
theorem dX11_road_2 : decode cX11_road 2 = .ok (.bipush 47, 2) := by decide +kernel
theorem dX11_road_4 : decode cX11_road 4 = .ok (.invokestatic 57, 3) := by decide +kernel
theorem dX11_road_7 : decode cX11_road 7 = .ok (.ifCond .eq 12, 3) := by decide +kernel
theorem dX11_road_10 : decode cX11_road 10 = .ok (.iload_n 2, 1) := by decide +kernel
theorem dX11_road_11 : decode cX11_road 11 = .ok (.iconst 0, 1) := by decide +kernel
theorem dX11_road_12 : decode cX11_road 12 = .ok (.iconst 2, 1) := by decide +kernel
theorem dX11_road_13 : decode cX11_road 13 = .ok (.invokestatic 57, 3) := by decide +kernel
theorem dX11_road_16 : decode cX11_road 16 = .ok (.ifCond .ne 10, 3) := by decide +kernel
theorem dX11_road_19 : decode cX11_road 19 = .ok (.aload_n 0, 1) := by decide +kernel
theorem dX11_road_20 : decode cX11_road 20 = .ok (.bipush (-2), 2) := by decide +kernel
theorem dX11_road_22 : decode cX11_road 22 = .ok (.invokevirtual 61, 3) := by decide +kernel
theorem dX11_road_25 : decode cX11_road 25 = .ok (.ireturn, 1) := by decide +kernel
theorem dX11_road_26 : decode cX11_road 26 = .ok (.aload_n 0, 1) := by decide +kernel
theorem dX11_road_27 : decode cX11_road 27 = .ok (.getfield 10, 3) := by decide +kernel
theorem dX11_road_30 : decode cX11_road 30 = .ok (.getfield 65, 3) := by decide +kernel
theorem dX11_road_33 : decode cX11_road 33 = .ok (.istore_n 3, 1) := by decide +kernel
theorem dX11_road_34 : decode cX11_road 34 = .ok (.aload_n 0, 1) := by decide +kernel
theorem dX11_road_35 : decode cX11_road 35 = .ok (.getfield 10, 3) := by decide +kernel
theorem dX11_road_38 : decode cX11_road 38 = .ok (.iload_n 1, 1) := by decide +kernel
theorem dX11_road_39 : decode cX11_road 39 = .ok (.iload_n 2, 1) := by decide +kernel
theorem dX11_road_40 : decode cX11_road 40 = .ok (.invokevirtual 68, 3) := by decide +kernel
theorem dX11_road_43 : decode cX11_road 43 = .ok (.iload_n 3, 1) := by decide +kernel
theorem dX11_road_44 : decode cX11_road 44 = .ok (.ireturn, 1) := by decide +kernel
theorem dX11_rule_0 : decode cX11_rule 0 = .ok (.iload_n 1, 1) := by decide +kernel
theorem dX11_rule_1 : decode cX11_rule 1 = .ok (.iconst 0, 1) := by decide +kernel
theorem dX11_rule_2 : decode cX11_rule 2 = .ok (.iconst 2, 1) := by decide +kernel
theorem dX11_rule_3 : decode cX11_rule 3 = .ok (.invokestatic 57, 3) := by decide +kernel
theorem dX11_rule_6 : decode cX11_rule 6 = .ok (.ifCond .ne 10, 3) := by decide +kernel
theorem dX11_rule_9 : decode cX11_rule 9 = .ok (.aload_n 0, 1) := by decide +kernel
theorem dX11_rule_10 : decode cX11_rule 10 = .ok (.bipush (-2), 2) := by decide +kernel
theorem dX11_rule_12 : decode cX11_rule 12 = .ok (.invokevirtual 61, 3) := by decide +kernel
theorem dX11_rule_15 : decode cX11_rule 15 = .ok (.ireturn, 1) := by decide +kernel
theorem dX11_rule_16 : decode cX11_rule 16 = .ok (.aload_n 0, 1) := by decide +kernel
theorem dX11_rule_17 : decode cX11_rule 17 = .ok (.getfield 10, 3) := by decide +kernel
theorem dX11_rule_20 : decode cX11_rule 20 = .ok (.getfield 72, 3) := by decide +kernel
theorem dX11_rule_23 : decode cX11_rule 23 = .ok (.istore_n 2, 1) := by decide +kernel
theorem dX11_rule_24 : decode cX11_rule 24 = .ok (.aload_n 0, 1) := by decide +kernel
theorem dX11_rule_25 : decode cX11_rule 25 = .ok (.getfield 10, 3) := by decide +kernel
theorem dX11_rule_28 : decode cX11_rule 28 = .ok (.iload_n 1, 1) := by decide +kernel
theorem dX11_rule_29 : decode cX11_rule 29 = .ok (.putfield 72, 3) := by decide +kernel
theorem dX11_rule_32 : decode cX11_rule 32 = .ok (.iload_n 2, 1) := by decide +kernel
theorem dX11_rule_33 : decode cX11_rule 33 = .ok (.ireturn, 1) := by decide +kernel
theorem dX11_sight_0 : decode cX11_sight 0 = .ok (.iload_n 1, 1) := by decide +kernel
theorem dX11_sight_1 : decode cX11_sight 1 = .ok (.iconst 0, 1) := by decide +kernel
theorem dX11_sight_2 : decode cX11_sight 2 = .ok (.bipush 47, 2) := by decide +kernel
theorem dX11_sight_4 : decode cX11_sight 4 = .ok (.invokestatic 57, 3) := by decide +kernel
theorem dX11_sight_7 : decode cX11_sight 7 = .ok (.ifCond .ne 10, 3) := by decide +kernel
theorem dX11_sight_10 : decode cX11_sight 10 = .ok (.aload_n 0, 1) := by decide +kernel
theorem dX11_sight_11 : decode cX11_sight 11 = .ok (.bipush (-2), 2) := by decide +kernel
theorem dX11_sight_13 : decode cX11_sight 13 = .ok (.invokevirtual 61, 3) := by decide +kernel
theorem dX11_sight_16 : decode cX11_sight 16 = .ok (.ireturn, 1) := by decide +kernel
theorem dX11_sight_17 : decode cX11_sight 17 = .ok (.aload_n 0, 1) := by decide +kernel
theorem dX11_sight_18 : decode cX11_sight 18 = .ok (.getfield 10, 3) := by decide +kernel
theorem dX11_sight_21 : decode cX11_sight 21 = .ok (.getfield 75, 3) := by decide +kernel
theorem dX11_sight_24 : decode cX11_sight 24 = .ok (.istore_n 2, 1) := by decide +kernel
theorem dX11_sight_25 : decode cX11_sight 25 = .ok (.aload_n 0, 1) := by decide +kernel
theorem dX11_sight_26 : decode cX11_sight 26 = .ok (.getfield 10, 3) := by decide +kernel
theorem dX11_sight_29 : decode cX11_sight 29 = .ok (.iload_n 1, 1) := by decide +kernel
theorem dX11_sight_30 : decode cX11_sight 30 = .ok (.putfield 75, 3) := by decide +kernel
theorem dX11_sight_33 : decode cX11_sight 33 = .ok (.iload_n 2, 1) := by decide +kernel
theorem dX11_sight_34 : decode cX11_sight 34 = .ok (.ireturn, 1) := by decide +kernel
theorem dX11_child_0 : decode cX11_child 0 = .ok (.iload_n 1, 1) := by decide +kernel
theorem dX11_child_1 : decode cX11_child 1 = .ok (.iconst 0, 1) := by decide +kernel
theorem dX11_child_2 : decode cX11_child 2 = .ok (.iconst 5, 1) := by decide +kernel
theorem dX11_child_3 : decode cX11_child 3 = .ok (.invokestatic 57, 3) := by decide +kernel
theorem dX11_child_6 : decode cX11_child 6 = .ok (.ifCond .eq 45, 3) := by decide +kernel
theorem dX11_child_9 : decode cX11_child 9 = .ok (.iload_n 2, 1) := by decide +kernel
theorem dX11_child_10 : decode cX11_child 10 = .ok (.iconst 1, 1) := by decide +kernel
theorem dX11_child_11 : decode cX11_child 11 = .ok (.bipush 9, 2) := by decide +kernel
theorem dX11_child_13 : decode cX11_child 13 = .ok (.invokestatic 57, 3) := by decide +kernel
theorem dX11_child_16 : decode cX11_child 16 = .ok (.ifCond .eq 35, 3) := by decide +kernel
theorem dX11_child_19 : decode cX11_child 19 = .ok (.iload_n 3, 1) := by decide +kernel
theorem dX11_child_20 : decode cX11_child 20 = .ok (.invokestatic 78, 3) := by decide +kernel
theorem dX11_child_23 : decode cX11_child 23 = .ok (.ifCond .eq 28, 3) := by decide +kernel
theorem dX11_child_26 : decode cX11_child 26 = .ok (.iload 4, 2) := by decide +kernel
theorem dX11_child_28 : decode cX11_child 28 = .ok (.iconst 0, 1) := by decide +kernel
theorem dX11_child_29 : decode cX11_child 29 = .ok (.iconst 3, 1) := by decide +kernel
theorem dX11_child_30 : decode cX11_child 30 = .ok (.invokestatic 57, 3) := by decide +kernel
theorem dX11_child_33 : decode cX11_child 33 = .ok (.ifCond .eq 18, 3) := by decide +kernel
theorem dX11_child_36 : decode cX11_child 36 = .ok (.iload 5, 2) := by decide +kernel
theorem dX11_child_38 : decode cX11_child 38 = .ok (.iconst 0, 1) := by decide +kernel
theorem dX11_child_39 : decode cX11_child 39 = .ok (.bipush 60, 2) := by decide +kernel
theorem dX11_child_41 : decode cX11_child 41 = .ok (.invokestatic 57, 3) := by decide +kernel
theorem dX11_child_44 : decode cX11_child 44 = .ok (.ifCond .eq 7, 3) := by decide +kernel
theorem dX11_child_47 : decode cX11_child 47 = .ok (.iconst 1, 1) := by decide +kernel
theorem dX11_child_48 : decode cX11_child 48 = .ok (.goto 4, 3) := by decide +kernel
theorem dX11_child_51 : decode cX11_child 51 = .ok (.iconst 0, 1) := by decide +kernel
theorem dX11_child_52 : decode cX11_child 52 = .ok (.istore 6, 2) := by decide +kernel
theorem dX11_child_54 : decode cX11_child 54 = .ok (.iload 6, 2) := by decide +kernel
theorem dX11_child_56 : decode cX11_child 56 = .ok (.ifCond .ne 10, 3) := by decide +kernel
theorem dX11_child_59 : decode cX11_child 59 = .ok (.aload_n 0, 1) := by decide +kernel
theorem dX11_child_60 : decode cX11_child 60 = .ok (.bipush (-2), 2) := by decide +kernel
theorem dX11_child_62 : decode cX11_child 62 = .ok (.invokevirtual 61, 3) := by decide +kernel
theorem dX11_child_65 : decode cX11_child 65 = .ok (.ireturn, 1) := by decide +kernel
theorem dX11_child_66 : decode cX11_child 66 = .ok (.aload_n 0, 1) := by decide +kernel
theorem dX11_child_67 : decode cX11_child 67 = .ok (.getfield 10, 3) := by decide +kernel
theorem dX11_child_70 : decode cX11_child 70 = .ok (.getfield 65, 3) := by decide +kernel
theorem dX11_child_73 : decode cX11_child 73 = .ok (.bipush 6, 2) := by decide +kernel
theorem dX11_child_75 : decode cX11_child 75 = .ok (.if_icmp .lt 8, 3) := by decide +kernel
theorem dX11_child_78 : decode cX11_child 78 = .ok (.aload_n 0, 1) := by decide +kernel
theorem dX11_child_79 : decode cX11_child 79 = .ok (.invokevirtual 82, 3) := by decide +kernel
theorem dX11_child_82 : decode cX11_child 82 = .ok (.ireturn, 1) := by decide +kernel
theorem dX11_child_83 : decode cX11_child 83 = .ok (.aload_n 0, 1) := by decide +kernel
theorem dX11_child_84 : decode cX11_child 84 = .ok (.getfield 10, 3) := by decide +kernel
theorem dX11_child_87 : decode cX11_child 87 = .ok (.iload_n 1, 1) := by decide +kernel
theorem dX11_child_88 : decode cX11_child 88 = .ok (.iload_n 2, 1) := by decide +kernel
theorem dX11_child_89 : decode cX11_child 89 = .ok (.iload_n 3, 1) := by decide +kernel
theorem dX11_child_90 : decode cX11_child 90 = .ok (.iload 4, 2) := by decide +kernel
theorem dX11_child_92 : decode cX11_child 92 = .ok (.iload 5, 2) := by decide +kernel
theorem dX11_child_94 : decode cX11_child 94 = .ok (.invokevirtual 86, 3) := by decide +kernel
theorem dX11_child_97 : decode cX11_child 97 = .ok (.aload_n 0, 1) := by decide +kernel
theorem dX11_child_98 : decode cX11_child 98 = .ok (.getfield 10, 3) := by decide +kernel
theorem dX11_child_101 : decode cX11_child 101 = .ok (.getfield 65, 3) := by decide +kernel
theorem dX11_child_104 : decode cX11_child 104 = .ok (.iconst 1, 1) := by decide +kernel
theorem dX11_child_105 : decode cX11_child 105 = .ok (.isub, 1) := by decide +kernel
theorem dX11_child_106 : decode cX11_child 106 = .ok (.ireturn, 1) := by decide +kernel
theorem dX11_stand_0 : decode cX11_stand 0 = .ok (.aload_n 0, 1) := by decide +kernel
theorem dX11_stand_1 : decode cX11_stand 1 = .ok (.iload_n 1, 1) := by decide +kernel
theorem dX11_stand_2 : decode cX11_stand 2 = .ok (.invokevirtual 90, 3) := by decide +kernel
theorem dX11_stand_5 : decode cX11_stand 5 = .ok (.ifCond .eq 10, 3) := by decide +kernel
theorem dX11_stand_8 : decode cX11_stand 8 = .ok (.iload_n 2, 1) := by decide +kernel
theorem dX11_stand_9 : decode cX11_stand 9 = .ok (.invokestatic 78, 3) := by decide +kernel
theorem dX11_stand_12 : decode cX11_stand 12 = .ok (.ifCond .ne 10, 3) := by decide +kernel
theorem dX11_stand_15 : decode cX11_stand 15 = .ok (.aload_n 0, 1) := by decide +kernel
theorem dX11_stand_16 : decode cX11_stand 16 = .ok (.bipush (-2), 2) := by decide +kernel
theorem dX11_stand_18 : decode cX11_stand 18 = .ok (.invokevirtual 61, 3) := by decide +kernel
theorem dX11_stand_21 : decode cX11_stand 21 = .ok (.ireturn, 1) := by decide +kernel
theorem dX11_stand_22 : decode cX11_stand 22 = .ok (.aload_n 0, 1) := by decide +kernel
theorem dX11_stand_23 : decode cX11_stand 23 = .ok (.getfield 10, 3) := by decide +kernel
theorem dX11_stand_26 : decode cX11_stand 26 = .ok (.getfield 93, 3) := by decide +kernel
theorem dX11_stand_29 : decode cX11_stand 29 = .ok (.iload_n 1, 1) := by decide +kernel
theorem dX11_stand_30 : decode cX11_stand 30 = .ok (.iaload, 1) := by decide +kernel
theorem dX11_stand_31 : decode cX11_stand 31 = .ok (.istore_n 3, 1) := by decide +kernel
theorem dX11_stand_32 : decode cX11_stand 32 = .ok (.aload_n 0, 1) := by decide +kernel
theorem dX11_stand_33 : decode cX11_stand 33 = .ok (.getfield 10, 3) := by decide +kernel
theorem dX11_stand_36 : decode cX11_stand 36 = .ok (.iload_n 1, 1) := by decide +kernel
theorem dX11_stand_37 : decode cX11_stand 37 = .ok (.iconst 0, 1) := by decide +kernel
theorem dX11_stand_38 : decode cX11_stand 38 = .ok (.iload_n 3, 1) := by decide +kernel
theorem dX11_stand_39 : decode cX11_stand 39 = .ok (.invokevirtual 97, 3) := by decide +kernel
theorem dX11_stand_42 : decode cX11_stand 42 = .ok (.aload_n 0, 1) := by decide +kernel
theorem dX11_stand_43 : decode cX11_stand 43 = .ok (.getfield 10, 3) := by decide +kernel
theorem dX11_stand_46 : decode cX11_stand 46 = .ok (.getfield 93, 3) := by decide +kernel
theorem dX11_stand_49 : decode cX11_stand 49 = .ok (.iload_n 1, 1) := by decide +kernel
theorem dX11_stand_50 : decode cX11_stand 50 = .ok (.iload_n 2, 1) := by decide +kernel
theorem dX11_stand_51 : decode cX11_stand 51 = .ok (.iastore, 1) := by decide +kernel
theorem dX11_stand_52 : decode cX11_stand 52 = .ok (.iload_n 3, 1) := by decide +kernel
theorem dX11_stand_53 : decode cX11_stand 53 = .ok (.ireturn, 1) := by decide +kernel
theorem dX11_bed_0 : decode cX11_bed 0 = .ok (.aload_n 0, 1) := by decide +kernel
theorem dX11_bed_1 : decode cX11_bed 1 = .ok (.iload_n 1, 1) := by decide +kernel
theorem dX11_bed_2 : decode cX11_bed 2 = .ok (.invokevirtual 90, 3) := by decide +kernel
theorem dX11_bed_5 : decode cX11_bed 5 = .ok (.ifCond .eq 13, 3) := by decide +kernel
theorem dX11_bed_8 : decode cX11_bed 8 = .ok (.iload_n 2, 1) := by decide +kernel
theorem dX11_bed_9 : decode cX11_bed 9 = .ok (.iconst 0, 1) := by decide +kernel
theorem dX11_bed_10 : decode cX11_bed 10 = .ok (.bipush 60, 2) := by decide +kernel
theorem dX11_bed_12 : decode cX11_bed 12 = .ok (.invokestatic 57, 3) := by decide +kernel
theorem dX11_bed_15 : decode cX11_bed 15 = .ok (.ifCond .ne 10, 3) := by decide +kernel
theorem dX11_bed_18 : decode cX11_bed 18 = .ok (.aload_n 0, 1) := by decide +kernel
theorem dX11_bed_19 : decode cX11_bed 19 = .ok (.bipush (-2), 2) := by decide +kernel
theorem dX11_bed_21 : decode cX11_bed 21 = .ok (.invokevirtual 61, 3) := by decide +kernel
theorem dX11_bed_24 : decode cX11_bed 24 = .ok (.ireturn, 1) := by decide +kernel
theorem dX11_bed_25 : decode cX11_bed 25 = .ok (.aload_n 0, 1) := by decide +kernel
theorem dX11_bed_26 : decode cX11_bed 26 = .ok (.getfield 10, 3) := by decide +kernel
theorem dX11_bed_29 : decode cX11_bed 29 = .ok (.getfield 101, 3) := by decide +kernel
theorem dX11_bed_32 : decode cX11_bed 32 = .ok (.iload_n 1, 1) := by decide +kernel
theorem dX11_bed_33 : decode cX11_bed 33 = .ok (.iaload, 1) := by decide +kernel
theorem dX11_bed_34 : decode cX11_bed 34 = .ok (.istore_n 3, 1) := by decide +kernel
theorem dX11_bed_35 : decode cX11_bed 35 = .ok (.aload_n 0, 1) := by decide +kernel
theorem dX11_bed_36 : decode cX11_bed 36 = .ok (.getfield 10, 3) := by decide +kernel
theorem dX11_bed_39 : decode cX11_bed 39 = .ok (.iload_n 1, 1) := by decide +kernel
theorem dX11_bed_40 : decode cX11_bed 40 = .ok (.iconst 1, 1) := by decide +kernel
theorem dX11_bed_41 : decode cX11_bed 41 = .ok (.iload_n 3, 1) := by decide +kernel
theorem dX11_bed_42 : decode cX11_bed 42 = .ok (.invokevirtual 97, 3) := by decide +kernel
theorem dX11_bed_45 : decode cX11_bed 45 = .ok (.aload_n 0, 1) := by decide +kernel
theorem dX11_bed_46 : decode cX11_bed 46 = .ok (.getfield 10, 3) := by decide +kernel
theorem dX11_bed_49 : decode cX11_bed 49 = .ok (.getfield 101, 3) := by decide +kernel
theorem dX11_bed_52 : decode cX11_bed 52 = .ok (.iload_n 1, 1) := by decide +kernel
theorem dX11_bed_53 : decode cX11_bed 53 = .ok (.iload_n 2, 1) := by decide +kernel
theorem dX11_bed_54 : decode cX11_bed 54 = .ok (.iastore, 1) := by decide +kernel
theorem dX11_bed_55 : decode cX11_bed 55 = .ok (.iload_n 3, 1) := by decide +kernel
theorem dX11_bed_56 : decode cX11_bed 56 = .ok (.ireturn, 1) := by decide +kernel
theorem dX11_undo_0 : decode cX11_undo 0 = .ok (.aload_n 0, 1) := by decide +kernel
theorem dX11_undo_1 : decode cX11_undo 1 = .ok (.getfield 10, 3) := by decide +kernel
theorem dX11_undo_4 : decode cX11_undo 4 = .ok (.getfield 104, 3) := by decide +kernel
theorem dX11_undo_7 : decode cX11_undo 7 = .ok (.ifCond .gt 8, 3) := by decide +kernel
theorem dX11_undo_10 : decode cX11_undo 10 = .ok (.aload_n 0, 1) := by decide +kernel
theorem dX11_undo_11 : decode cX11_undo 11 = .ok (.invokevirtual 107, 3) := by decide +kernel
theorem dX11_undo_14 : decode cX11_undo 14 = .ok (.ireturn, 1) := by decide +kernel
theorem dX11_undo_15 : decode cX11_undo 15 = .ok (.aload_n 0, 1) := by decide +kernel
theorem dX11_undo_16 : decode cX11_undo 16 = .ok (.getfield 10, 3) := by decide +kernel
theorem dX11_undo_19 : decode cX11_undo 19 = .ok (.invokevirtual 110, 3) := by decide +kernel
theorem dX11_undo_22 : decode cX11_undo 22 = .ok (.aload_n 0, 1) := by decide +kernel
theorem dX11_undo_23 : decode cX11_undo 23 = .ok (.getfield 10, 3) := by decide +kernel
theorem dX11_undo_26 : decode cX11_undo 26 = .ok (.getfield 104, 3) := by decide +kernel
theorem dX11_undo_29 : decode cX11_undo 29 = .ok (.ireturn, 1) := by decide +kernel
theorem dX11_type_0 : decode cX11_type 0 = .ok (.iload_n 1, 1) := by decide +kernel
theorem dX11_type_1 : decode cX11_type 1 = .ok (.iconst 0, 1) := by decide +kernel
theorem dX11_type_2 : decode cX11_type 2 = .ok (.bipush 127, 2) := by decide +kernel
theorem dX11_type_4 : decode cX11_type 4 = .ok (.invokestatic 57, 3) := by decide +kernel
theorem dX11_type_7 : decode cX11_type 7 = .ok (.ifCond .ne 10, 3) := by decide +kernel
theorem dX11_type_10 : decode cX11_type 10 = .ok (.aload_n 0, 1) := by decide +kernel
theorem dX11_type_11 : decode cX11_type 11 = .ok (.bipush (-2), 2) := by decide +kernel
theorem dX11_type_13 : decode cX11_type 13 = .ok (.invokevirtual 61, 3) := by decide +kernel
theorem dX11_type_16 : decode cX11_type 16 = .ok (.ireturn, 1) := by decide +kernel
theorem dX11_type_17 : decode cX11_type 17 = .ok (.aload_n 0, 1) := by decide +kernel
theorem dX11_type_18 : decode cX11_type 18 = .ok (.getfield 28, 3) := by decide +kernel
theorem dX11_type_21 : decode cX11_type 21 = .ok (.getfield 113, 3) := by decide +kernel
theorem dX11_type_24 : decode cX11_type 24 = .ok (.sipush 150, 3) := by decide +kernel
theorem dX11_type_27 : decode cX11_type 27 = .ok (.if_icmp .lt 8, 3) := by decide +kernel
theorem dX11_type_30 : decode cX11_type 30 = .ok (.aload_n 0, 1) := by decide +kernel
theorem dX11_type_31 : decode cX11_type 31 = .ok (.invokevirtual 82, 3) := by decide +kernel
theorem dX11_type_34 : decode cX11_type 34 = .ok (.ireturn, 1) := by decide +kernel
theorem dX11_type_35 : decode cX11_type 35 = .ok (.aload_n 0, 1) := by decide +kernel
theorem dX11_type_36 : decode cX11_type 36 = .ok (.getfield 28, 3) := by decide +kernel
theorem dX11_type_39 : decode cX11_type 39 = .ok (.iload_n 1, 1) := by decide +kernel
theorem dX11_type_40 : decode cX11_type 40 = .ok (.invokevirtual 116, 3) := by decide +kernel
theorem dX11_type_43 : decode cX11_type 43 = .ok (.aload_n 0, 1) := by decide +kernel
theorem dX11_type_44 : decode cX11_type 44 = .ok (.getfield 28, 3) := by decide +kernel
theorem dX11_type_47 : decode cX11_type 47 = .ok (.getfield 113, 3) := by decide +kernel
theorem dX11_type_50 : decode cX11_type 50 = .ok (.ireturn, 1) := by decide +kernel
theorem dX11_clear_0 : decode cX11_clear 0 = .ok (.aload_n 0, 1) := by decide +kernel
theorem dX11_clear_1 : decode cX11_clear 1 = .ok (.getfield 28, 3) := by decide +kernel
theorem dX11_clear_4 : decode cX11_clear 4 = .ok (.getfield 113, 3) := by decide +kernel
theorem dX11_clear_7 : decode cX11_clear 7 = .ok (.istore_n 1, 1) := by decide +kernel
theorem dX11_clear_8 : decode cX11_clear 8 = .ok (.aload_n 0, 1) := by decide +kernel
theorem dX11_clear_9 : decode cX11_clear 9 = .ok (.getfield 28, 3) := by decide +kernel
theorem dX11_clear_12 : decode cX11_clear 12 = .ok (.iconst 0, 1) := by decide +kernel
theorem dX11_clear_13 : decode cX11_clear 13 = .ok (.putfield 113, 3) := by decide +kernel
theorem dX11_clear_16 : decode cX11_clear 16 = .ok (.iload_n 1, 1) := by decide +kernel
theorem dX11_clear_17 : decode cX11_clear 17 = .ok (.ireturn, 1) := by decide +kernel
theorem dX11_read_0 : decode cX11_read 0 = .ok (.aload_n 0, 1) := by decide +kernel
theorem dX11_read_1 : decode cX11_read 1 = .ok (.getfield 28, 3) := by decide +kernel
theorem dX11_read_4 : decode cX11_read 4 = .ok (.aload_n 0, 1) := by decide +kernel
theorem dX11_read_5 : decode cX11_read 5 = .ok (.getfield 16, 3) := by decide +kernel
theorem dX11_read_8 : decode cX11_read 8 = .ok (.invokevirtual 120, 3) := by decide +kernel
theorem dX11_read_11 : decode cX11_read 11 = .ok (.istore_n 1, 1) := by decide +kernel
theorem dX11_read_12 : decode cX11_read 12 = .ok (.iload_n 1, 1) := by decide +kernel
theorem dX11_read_13 : decode cX11_read 13 = .ok (.ifCond .le 14, 3) := by decide +kernel
theorem dX11_read_16 : decode cX11_read 16 = .ok (.aload_n 0, 1) := by decide +kernel
theorem dX11_read_17 : decode cX11_read 17 = .ok (.getfield 10, 3) := by decide +kernel
theorem dX11_read_20 : decode cX11_read 20 = .ok (.aload_n 0, 1) := by decide +kernel
theorem dX11_read_21 : decode cX11_read 21 = .ok (.getfield 16, 3) := by decide +kernel
theorem dX11_read_24 : decode cX11_read 24 = .ok (.invokevirtual 124, 3) := by decide +kernel
theorem dX11_read_27 : decode cX11_read 27 = .ok (.iload_n 1, 1) := by decide +kernel
theorem dX11_read_28 : decode cX11_read 28 = .ok (.ireturn, 1) := by decide +kernel
theorem dX11_of_0 : decode cX11_of 0 = .ok (.aload_n 0, 1) := by decide +kernel
theorem dX11_of_1 : decode cX11_of 1 = .ok (.iload_n 1, 1) := by decide +kernel
theorem dX11_of_2 : decode cX11_of 2 = .ok (.invokevirtual 90, 3) := by decide +kernel
theorem dX11_of_5 : decode cX11_of 5 = .ok (.ifCond .eq 10, 3) := by decide +kernel
theorem dX11_of_8 : decode cX11_of 8 = .ok (.iload_n 2, 1) := by decide +kernel
theorem dX11_of_9 : decode cX11_of 9 = .ok (.invokestatic 128, 3) := by decide +kernel
theorem dX11_of_12 : decode cX11_of 12 = .ok (.ifCond .ne 10, 3) := by decide +kernel
theorem dX11_of_15 : decode cX11_of 15 = .ok (.aload_n 0, 1) := by decide +kernel
theorem dX11_of_16 : decode cX11_of 16 = .ok (.bipush (-2), 2) := by decide +kernel
theorem dX11_of_18 : decode cX11_of 18 = .ok (.invokevirtual 61, 3) := by decide +kernel
theorem dX11_of_21 : decode cX11_of 21 = .ok (.ireturn, 1) := by decide +kernel
theorem dX11_of_22 : decode cX11_of 22 = .ok (.aload_n 0, 1) := by decide +kernel
theorem dX11_of_23 : decode cX11_of 23 = .ok (.getfield 35, 3) := by decide +kernel
theorem dX11_of_26 : decode cX11_of 26 = .ok (.aload_n 0, 1) := by decide +kernel
theorem dX11_of_27 : decode cX11_of 27 = .ok (.getfield 10, 3) := by decide +kernel
theorem dX11_of_30 : decode cX11_of 30 = .ok (.iload_n 2, 1) := by decide +kernel
theorem dX11_of_31 : decode cX11_of 31 = .ok (.invokevirtual 131, 3) := by decide +kernel
theorem dX11_of_34 : decode cX11_of 34 = .ok (.iload_n 3, 1) := by decide +kernel
theorem dX11_of_35 : decode cX11_of 35 = .ok (.tableswitch 97 0 5 #[37, 47, 57, 67, 77, 87], 37) := by decide +kernel
theorem dX11_of_72 : decode cX11_of 72 = .ok (.aload_n 0, 1) := by decide +kernel
theorem dX11_of_73 : decode cX11_of 73 = .ok (.getfield 10, 3) := by decide +kernel
theorem dX11_of_76 : decode cX11_of 76 = .ok (.getfield 135, 3) := by decide +kernel
theorem dX11_of_79 : decode cX11_of 79 = .ok (.iload_n 1, 1) := by decide +kernel
theorem dX11_of_80 : decode cX11_of 80 = .ok (.iaload, 1) := by decide +kernel
theorem dX11_of_81 : decode cX11_of 81 = .ok (.ireturn, 1) := by decide +kernel
theorem dX11_of_82 : decode cX11_of 82 = .ok (.aload_n 0, 1) := by decide +kernel
theorem dX11_of_83 : decode cX11_of 83 = .ok (.getfield 10, 3) := by decide +kernel
theorem dX11_of_86 : decode cX11_of 86 = .ok (.getfield 138, 3) := by decide +kernel
theorem dX11_of_89 : decode cX11_of 89 = .ok (.iload_n 1, 1) := by decide +kernel
theorem dX11_of_90 : decode cX11_of 90 = .ok (.iaload, 1) := by decide +kernel
theorem dX11_of_91 : decode cX11_of 91 = .ok (.ireturn, 1) := by decide +kernel
theorem dX11_of_92 : decode cX11_of 92 = .ok (.aload_n 0, 1) := by decide +kernel
theorem dX11_of_93 : decode cX11_of 93 = .ok (.getfield 35, 3) := by decide +kernel
theorem dX11_of_96 : decode cX11_of 96 = .ok (.getfield 141, 3) := by decide +kernel
theorem dX11_of_99 : decode cX11_of 99 = .ok (.iload_n 1, 1) := by decide +kernel
theorem dX11_of_100 : decode cX11_of 100 = .ok (.iaload, 1) := by decide +kernel
theorem dX11_of_101 : decode cX11_of 101 = .ok (.ireturn, 1) := by decide +kernel
theorem dX11_of_102 : decode cX11_of 102 = .ok (.aload_n 0, 1) := by decide +kernel
theorem dX11_of_103 : decode cX11_of 103 = .ok (.getfield 35, 3) := by decide +kernel
theorem dX11_of_106 : decode cX11_of 106 = .ok (.getfield 144, 3) := by decide +kernel
theorem dX11_of_109 : decode cX11_of 109 = .ok (.iload_n 1, 1) := by decide +kernel
theorem dX11_of_110 : decode cX11_of 110 = .ok (.iaload, 1) := by decide +kernel
theorem dX11_of_111 : decode cX11_of 111 = .ok (.ireturn, 1) := by decide +kernel
theorem dX11_of_112 : decode cX11_of 112 = .ok (.aload_n 0, 1) := by decide +kernel
theorem dX11_of_113 : decode cX11_of 113 = .ok (.getfield 10, 3) := by decide +kernel
theorem dX11_of_116 : decode cX11_of 116 = .ok (.getfield 147, 3) := by decide +kernel
theorem dX11_of_119 : decode cX11_of 119 = .ok (.iload_n 1, 1) := by decide +kernel
theorem dX11_of_120 : decode cX11_of 120 = .ok (.iaload, 1) := by decide +kernel
theorem dX11_of_121 : decode cX11_of 121 = .ok (.ireturn, 1) := by decide +kernel
theorem dX11_of_122 : decode cX11_of 122 = .ok (.aload_n 0, 1) := by decide +kernel
theorem dX11_of_123 : decode cX11_of 123 = .ok (.getfield 10, 3) := by decide +kernel
theorem dX11_of_126 : decode cX11_of 126 = .ok (.getfield 101, 3) := by decide +kernel
theorem dX11_of_129 : decode cX11_of 129 = .ok (.iload_n 1, 1) := by decide +kernel
theorem dX11_of_130 : decode cX11_of 130 = .ok (.iaload, 1) := by decide +kernel
theorem dX11_of_131 : decode cX11_of 131 = .ok (.ireturn, 1) := by decide +kernel
theorem dX11_of_132 : decode cX11_of 132 = .ok (.aload_n 0, 1) := by decide +kernel
theorem dX11_of_133 : decode cX11_of 133 = .ok (.bipush (-2), 2) := by decide +kernel
theorem dX11_of_135 : decode cX11_of 135 = .ok (.invokevirtual 61, 3) := by decide +kernel
theorem dX11_of_138 : decode cX11_of 138 = .ok (.ireturn, 1) := by decide +kernel
theorem dX11_limit_0 : decode cX11_limit 0 = .ok (.iload_n 1, 1) := by decide +kernel
theorem dX11_limit_1 : decode cX11_limit 1 = .ok (.invokestatic 78, 3) := by decide +kernel
theorem dX11_limit_4 : decode cX11_limit 4 = .ok (.ifCond .eq 17, 3) := by decide +kernel
theorem dX11_limit_7 : decode cX11_limit 7 = .ok (.iload_n 2, 1) := by decide +kernel
theorem dX11_limit_8 : decode cX11_limit 8 = .ok (.invokestatic 128, 3) := by decide +kernel
theorem dX11_limit_11 : decode cX11_limit 11 = .ok (.ifCond .eq 10, 3) := by decide +kernel
theorem dX11_limit_14 : decode cX11_limit 14 = .ok (.iload_n 3, 1) := by decide +kernel
theorem dX11_limit_15 : decode cX11_limit 15 = .ok (.invokestatic 150, 3) := by decide +kernel
theorem dX11_limit_18 : decode cX11_limit 18 = .ok (.ifCond .ne 10, 3) := by decide +kernel
theorem dX11_limit_21 : decode cX11_limit 21 = .ok (.aload_n 0, 1) := by decide +kernel
theorem dX11_limit_22 : decode cX11_limit 22 = .ok (.bipush (-10), 2) := by decide +kernel
theorem dX11_limit_24 : decode cX11_limit 24 = .ok (.invokevirtual 61, 3) := by decide +kernel
theorem dX11_limit_27 : decode cX11_limit 27 = .ok (.ireturn, 1) := by decide +kernel
theorem dX11_limit_28 : decode cX11_limit 28 = .ok (.aload_n 0, 1) := by decide +kernel
theorem dX11_limit_29 : decode cX11_limit 29 = .ok (.getfield 35, 3) := by decide +kernel
theorem dX11_limit_32 : decode cX11_limit 32 = .ok (.aload_n 0, 1) := by decide +kernel
theorem dX11_limit_33 : decode cX11_limit 33 = .ok (.getfield 10, 3) := by decide +kernel
theorem dX11_limit_36 : decode cX11_limit 36 = .ok (.iload_n 2, 1) := by decide +kernel
theorem dX11_limit_37 : decode cX11_limit 37 = .ok (.invokevirtual 131, 3) := by decide +kernel
theorem dX11_limit_40 : decode cX11_limit 40 = .ok (.iload_n 3, 1) := by decide +kernel
theorem dX11_limit_41 : decode cX11_limit 41 = .ok (.ifCond .ne 23, 3) := by decide +kernel
theorem dX11_limit_44 : decode cX11_limit 44 = .ok (.aload_n 0, 1) := by decide +kernel
theorem dX11_limit_45 : decode cX11_limit 45 = .ok (.getfield 35, 3) := by decide +kernel
theorem dX11_limit_48 : decode cX11_limit 48 = .ok (.aload_n 0, 1) := by decide +kernel
theorem dX11_limit_49 : decode cX11_limit 49 = .ok (.getfield 10, 3) := by decide +kernel
theorem dX11_limit_52 : decode cX11_limit 52 = .ok (.aload_n 0, 1) := by decide +kernel
theorem dX11_limit_53 : decode cX11_limit 53 = .ok (.getfield 10, 3) := by decide +kernel
theorem dX11_limit_56 : decode cX11_limit 56 = .ok (.invokevirtual 153, 3) := by decide +kernel
theorem dX11_limit_59 : decode cX11_limit 59 = .ok (.iload_n 1, 1) := by decide +kernel
theorem dX11_limit_60 : decode cX11_limit 60 = .ok (.invokevirtual 156, 3) := by decide +kernel
theorem dX11_limit_63 : decode cX11_limit 63 = .ok (.ireturn, 1) := by decide +kernel
theorem dX11_limit_64 : decode cX11_limit 64 = .ok (.aload_n 0, 1) := by decide +kernel
theorem dX11_limit_65 : decode cX11_limit 65 = .ok (.getfield 35, 3) := by decide +kernel
theorem dX11_limit_68 : decode cX11_limit 68 = .ok (.aload_n 0, 1) := by decide +kernel
theorem dX11_limit_69 : decode cX11_limit 69 = .ok (.getfield 10, 3) := by decide +kernel
theorem dX11_limit_72 : decode cX11_limit 72 = .ok (.iload_n 1, 1) := by decide +kernel
theorem dX11_limit_73 : decode cX11_limit 73 = .ok (.invokevirtual 160, 3) := by decide +kernel
theorem dX11_limit_76 : decode cX11_limit 76 = .ok (.ireturn, 1) := by decide +kernel
theorem dX11_where_0 : decode cX11_where 0 = .ok (.iload_n 1, 1) := by decide +kernel
theorem dX11_where_1 : decode cX11_where 1 = .ok (.invokestatic 128, 3) := by decide +kernel
theorem dX11_where_4 : decode cX11_where 4 = .ok (.ifCond .eq 13, 3) := by decide +kernel
theorem dX11_where_7 : decode cX11_where 7 = .ok (.iload_n 2, 1) := by decide +kernel
theorem dX11_where_8 : decode cX11_where 8 = .ok (.iconst 0, 1) := by decide +kernel
theorem dX11_where_9 : decode cX11_where 9 = .ok (.bipush 60, 2) := by decide +kernel
theorem dX11_where_11 : decode cX11_where 11 = .ok (.invokestatic 57, 3) := by decide +kernel
theorem dX11_where_14 : decode cX11_where 14 = .ok (.ifCond .ne 10, 3) := by decide +kernel
theorem dX11_where_17 : decode cX11_where 17 = .ok (.aload_n 0, 1) := by decide +kernel
theorem dX11_where_18 : decode cX11_where 18 = .ok (.bipush (-2), 2) := by decide +kernel
theorem dX11_where_20 : decode cX11_where 20 = .ok (.invokevirtual 61, 3) := by decide +kernel
theorem dX11_where_23 : decode cX11_where 23 = .ok (.ireturn, 1) := by decide +kernel
theorem dX11_where_24 : decode cX11_where 24 = .ok (.iload_n 2, 1) := by decide +kernel
theorem dX11_where_25 : decode cX11_where 25 = .ok (.iload_n 1, 1) := by decide +kernel
theorem dX11_where_26 : decode cX11_where 26 = .ok (.if_icmp .ge 7, 3) := by decide +kernel
theorem dX11_where_29 : decode cX11_where 29 = .ok (.iconst (-1), 1) := by decide +kernel
theorem dX11_where_30 : decode cX11_where 30 = .ok (.goto 16, 3) := by decide +kernel
theorem dX11_where_33 : decode cX11_where 33 = .ok (.aload_n 0, 1) := by decide +kernel
theorem dX11_where_34 : decode cX11_where 34 = .ok (.getfield 42, 3) := by decide +kernel
theorem dX11_where_37 : decode cX11_where 37 = .ok (.aload_n 0, 1) := by decide +kernel
theorem dX11_where_38 : decode cX11_where 38 = .ok (.getfield 10, 3) := by decide +kernel
theorem dX11_where_41 : decode cX11_where 41 = .ok (.iload_n 1, 1) := by decide +kernel
theorem dX11_where_42 : decode cX11_where 42 = .ok (.iload_n 2, 1) := by decide +kernel
theorem dX11_where_43 : decode cX11_where 43 = .ok (.invokevirtual 164, 3) := by decide +kernel
theorem dX11_where_46 : decode cX11_where 46 = .ok (.ireturn, 1) := by decide +kernel
theorem dX11_there_0 : decode cX11_there 0 = .ok (.iload_n 1, 1) := by decide +kernel
theorem dX11_there_1 : decode cX11_there 1 = .ok (.invokestatic 128, 3) := by decide +kernel
theorem dX11_there_4 : decode cX11_there 4 = .ok (.ifCond .ne 10, 3) := by decide +kernel
theorem dX11_there_7 : decode cX11_there 7 = .ok (.aload_n 0, 1) := by decide +kernel
theorem dX11_there_8 : decode cX11_there 8 = .ok (.bipush (-2), 2) := by decide +kernel
theorem dX11_there_10 : decode cX11_there 10 = .ok (.invokevirtual 61, 3) := by decide +kernel
theorem dX11_there_13 : decode cX11_there 13 = .ok (.ireturn, 1) := by decide +kernel
theorem dX11_there_14 : decode cX11_there 14 = .ok (.aload_n 0, 1) := by decide +kernel
theorem dX11_there_15 : decode cX11_there 15 = .ok (.getfield 42, 3) := by decide +kernel
theorem dX11_there_18 : decode cX11_there 18 = .ok (.aload_n 0, 1) := by decide +kernel
theorem dX11_there_19 : decode cX11_there 19 = .ok (.getfield 10, 3) := by decide +kernel
theorem dX11_there_22 : decode cX11_there 22 = .ok (.aload_n 0, 1) := by decide +kernel
theorem dX11_there_23 : decode cX11_there 23 = .ok (.getfield 10, 3) := by decide +kernel
theorem dX11_there_26 : decode cX11_there 26 = .ok (.invokevirtual 153, 3) := by decide +kernel
theorem dX11_there_29 : decode cX11_there 29 = .ok (.iload_n 1, 1) := by decide +kernel
theorem dX11_there_30 : decode cX11_there 30 = .ok (.invokevirtual 167, 3) := by decide +kernel
theorem dX11_there_33 : decode cX11_there 33 = .ok (.invokestatic 170, 3) := by decide +kernel
theorem dX11_there_36 : decode cX11_there 36 = .ok (.ireturn, 1) := by decide +kernel
theorem dX11_soonest_0 : decode cX11_soonest 0 = .ok (.iload_n 1, 1) := by decide +kernel
theorem dX11_soonest_1 : decode cX11_soonest 1 = .ok (.invokestatic 128, 3) := by decide +kernel
theorem dX11_soonest_4 : decode cX11_soonest 4 = .ok (.ifCond .ne 10, 3) := by decide +kernel
theorem dX11_soonest_7 : decode cX11_soonest 7 = .ok (.aload_n 0, 1) := by decide +kernel
theorem dX11_soonest_8 : decode cX11_soonest 8 = .ok (.bipush (-2), 2) := by decide +kernel
theorem dX11_soonest_10 : decode cX11_soonest 10 = .ok (.invokevirtual 61, 3) := by decide +kernel
theorem dX11_soonest_13 : decode cX11_soonest 13 = .ok (.ireturn, 1) := by decide +kernel
theorem dX11_soonest_14 : decode cX11_soonest 14 = .ok (.aload_n 0, 1) := by decide +kernel
theorem dX11_soonest_15 : decode cX11_soonest 15 = .ok (.getfield 42, 3) := by decide +kernel
theorem dX11_soonest_18 : decode cX11_soonest 18 = .ok (.aload_n 0, 1) := by decide +kernel
theorem dX11_soonest_19 : decode cX11_soonest 19 = .ok (.getfield 10, 3) := by decide +kernel
theorem dX11_soonest_22 : decode cX11_soonest 22 = .ok (.aload_n 0, 1) := by decide +kernel
theorem dX11_soonest_23 : decode cX11_soonest 23 = .ok (.getfield 10, 3) := by decide +kernel
theorem dX11_soonest_26 : decode cX11_soonest 26 = .ok (.invokevirtual 153, 3) := by decide +kernel
theorem dX11_soonest_29 : decode cX11_soonest 29 = .ok (.iload_n 1, 1) := by decide +kernel
theorem dX11_soonest_30 : decode cX11_soonest 30 = .ok (.invokevirtual 173, 3) := by decide +kernel
theorem dX11_soonest_33 : decode cX11_soonest 33 = .ok (.invokestatic 170, 3) := by decide +kernel
theorem dX11_soonest_36 : decode cX11_soonest 36 = .ok (.ireturn, 1) := by decide +kernel
theorem dX11_start_0 : decode cX11_start 0 = .ok (.iload_n 1, 1) := by decide +kernel
theorem dX11_start_1 : decode cX11_start 1 = .ok (.invokestatic 128, 3) := by decide +kernel
theorem dX11_start_4 : decode cX11_start 4 = .ok (.ifCond .ne 10, 3) := by decide +kernel
theorem dX11_start_7 : decode cX11_start 7 = .ok (.aload_n 0, 1) := by decide +kernel
theorem dX11_start_8 : decode cX11_start 8 = .ok (.bipush (-2), 2) := by decide +kernel
theorem dX11_start_10 : decode cX11_start 10 = .ok (.invokevirtual 61, 3) := by decide +kernel
theorem dX11_start_13 : decode cX11_start 13 = .ok (.ireturn, 1) := by decide +kernel
theorem dX11_start_14 : decode cX11_start 14 = .ok (.aload_n 0, 1) := by decide +kernel
theorem dX11_start_15 : decode cX11_start 15 = .ok (.getfield 42, 3) := by decide +kernel
theorem dX11_start_18 : decode cX11_start 18 = .ok (.aload_n 0, 1) := by decide +kernel
theorem dX11_start_19 : decode cX11_start 19 = .ok (.getfield 10, 3) := by decide +kernel
theorem dX11_start_22 : decode cX11_start 22 = .ok (.iload_n 1, 1) := by decide +kernel
theorem dX11_start_23 : decode cX11_start 23 = .ok (.invokevirtual 176, 3) := by decide +kernel
theorem dX11_start_26 : decode cX11_start 26 = .ok (.ireturn, 1) := by decide +kernel
theorem dX11_speed_0 : decode cX11_speed 0 = .ok (.iload_n 1, 1) := by decide +kernel
theorem dX11_speed_1 : decode cX11_speed 1 = .ok (.iconst 0, 1) := by decide +kernel
theorem dX11_speed_2 : decode cX11_speed 2 = .ok (.bipush 15, 2) := by decide +kernel
theorem dX11_speed_4 : decode cX11_speed 4 = .ok (.invokestatic 57, 3) := by decide +kernel
theorem dX11_speed_7 : decode cX11_speed 7 = .ok (.ifCond .ne 10, 3) := by decide +kernel
theorem dX11_speed_10 : decode cX11_speed 10 = .ok (.aload_n 0, 1) := by decide +kernel
theorem dX11_speed_11 : decode cX11_speed 11 = .ok (.bipush (-2), 2) := by decide +kernel
theorem dX11_speed_13 : decode cX11_speed 13 = .ok (.invokevirtual 61, 3) := by decide +kernel
theorem dX11_speed_16 : decode cX11_speed 16 = .ok (.ireturn, 1) := by decide +kernel
theorem dX11_speed_17 : decode cX11_speed 17 = .ok (.aload_n 0, 1) := by decide +kernel
theorem dX11_speed_18 : decode cX11_speed 18 = .ok (.getfield 10, 3) := by decide +kernel
theorem dX11_speed_21 : decode cX11_speed 21 = .ok (.getfield 179, 3) := by decide +kernel
theorem dX11_speed_24 : decode cX11_speed 24 = .ok (.bipush 20, 2) := by decide +kernel
theorem dX11_speed_26 : decode cX11_speed 26 = .ok (.if_icmp .lt 8, 3) := by decide +kernel
theorem dX11_speed_29 : decode cX11_speed 29 = .ok (.aload_n 0, 1) := by decide +kernel
theorem dX11_speed_30 : decode cX11_speed 30 = .ok (.invokevirtual 82, 3) := by decide +kernel
theorem dX11_speed_33 : decode cX11_speed 33 = .ok (.ireturn, 1) := by decide +kernel
theorem dX11_speed_34 : decode cX11_speed 34 = .ok (.aload_n 0, 1) := by decide +kernel
theorem dX11_speed_35 : decode cX11_speed 35 = .ok (.getfield 10, 3) := by decide +kernel
theorem dX11_speed_38 : decode cX11_speed 38 = .ok (.iload_n 1, 1) := by decide +kernel
theorem dX11_speed_39 : decode cX11_speed 39 = .ok (.invokevirtual 182, 3) := by decide +kernel
theorem dX11_speed_42 : decode cX11_speed 42 = .ok (.aload_n 0, 1) := by decide +kernel
theorem dX11_speed_43 : decode cX11_speed 43 = .ok (.getfield 10, 3) := by decide +kernel
theorem dX11_speed_46 : decode cX11_speed 46 = .ok (.getfield 179, 3) := by decide +kernel
theorem dX11_speed_49 : decode cX11_speed 49 = .ok (.ireturn, 1) := by decide +kernel
theorem dX11_stop_0 : decode cX11_stop 0 = .ok (.aload_n 0, 1) := by decide +kernel
theorem dX11_stop_1 : decode cX11_stop 1 = .ok (.getfield 10, 3) := by decide +kernel
theorem dX11_stop_4 : decode cX11_stop 4 = .ok (.getfield 179, 3) := by decide +kernel
theorem dX11_stop_7 : decode cX11_stop 7 = .ok (.istore_n 1, 1) := by decide +kernel
theorem dX11_stop_8 : decode cX11_stop 8 = .ok (.aload_n 0, 1) := by decide +kernel
theorem dX11_stop_9 : decode cX11_stop 9 = .ok (.getfield 10, 3) := by decide +kernel
theorem dX11_stop_12 : decode cX11_stop 12 = .ok (.iconst 0, 1) := by decide +kernel
theorem dX11_stop_13 : decode cX11_stop 13 = .ok (.putfield 179, 3) := by decide +kernel
theorem dX11_stop_16 : decode cX11_stop 16 = .ok (.iload_n 1, 1) := by decide +kernel
theorem dX11_stop_17 : decode cX11_stop 17 = .ok (.ireturn, 1) := by decide +kernel
theorem dX11_fined_0 : decode cX11_fined 0 = .ok (.iload_n 1, 1) := by decide +kernel
theorem dX11_fined_1 : decode cX11_fined 1 = .ok (.invokestatic 128, 3) := by decide +kernel
theorem dX11_fined_4 : decode cX11_fined 4 = .ok (.ifCond .eq 12, 3) := by decide +kernel
theorem dX11_fined_7 : decode cX11_fined 7 = .ok (.iload_n 2, 1) := by decide +kernel
theorem dX11_fined_8 : decode cX11_fined 8 = .ok (.iconst 0, 1) := by decide +kernel
theorem dX11_fined_9 : decode cX11_fined 9 = .ok (.iconst 2, 1) := by decide +kernel
theorem dX11_fined_10 : decode cX11_fined 10 = .ok (.invokestatic 57, 3) := by decide +kernel
theorem dX11_fined_13 : decode cX11_fined 13 = .ok (.ifCond .ne 10, 3) := by decide +kernel
theorem dX11_fined_16 : decode cX11_fined 16 = .ok (.aload_n 0, 1) := by decide +kernel
theorem dX11_fined_17 : decode cX11_fined 17 = .ok (.bipush (-10), 2) := by decide +kernel
theorem dX11_fined_19 : decode cX11_fined 19 = .ok (.invokevirtual 61, 3) := by decide +kernel
theorem dX11_fined_22 : decode cX11_fined 22 = .ok (.ireturn, 1) := by decide +kernel
theorem dX11_fined_23 : decode cX11_fined 23 = .ok (.aload_n 0, 1) := by decide +kernel
theorem dX11_fined_24 : decode cX11_fined 24 = .ok (.getfield 42, 3) := by decide +kernel
theorem dX11_fined_27 : decode cX11_fined 27 = .ok (.aload_n 0, 1) := by decide +kernel
theorem dX11_fined_28 : decode cX11_fined 28 = .ok (.getfield 10, 3) := by decide +kernel
theorem dX11_fined_31 : decode cX11_fined 31 = .ok (.iload_n 1, 1) := by decide +kernel
theorem dX11_fined_32 : decode cX11_fined 32 = .ok (.iload_n 2, 1) := by decide +kernel
theorem dX11_fined_33 : decode cX11_fined 33 = .ok (.invokevirtual 185, 3) := by decide +kernel
theorem dX11_fined_36 : decode cX11_fined 36 = .ok (.ireturn, 1) := by decide +kernel
theorem dX11_toBed_0 : decode cX11_toBed 0 = .ok (.iload_n 1, 1) := by decide +kernel
theorem dX11_toBed_1 : decode cX11_toBed 1 = .ok (.invokestatic 128, 3) := by decide +kernel
theorem dX11_toBed_4 : decode cX11_toBed 4 = .ok (.ifCond .eq 20, 3) := by decide +kernel
theorem dX11_toBed_7 : decode cX11_toBed 7 = .ok (.iload_n 2, 1) := by decide +kernel
theorem dX11_toBed_8 : decode cX11_toBed 8 = .ok (.iconst 0, 1) := by decide +kernel
theorem dX11_toBed_9 : decode cX11_toBed 9 = .ok (.bipush 6, 2) := by decide +kernel
theorem dX11_toBed_11 : decode cX11_toBed 11 = .ok (.invokestatic 57, 3) := by decide +kernel
theorem dX11_toBed_14 : decode cX11_toBed 14 = .ok (.ifCond .eq 10, 3) := by decide +kernel
theorem dX11_toBed_17 : decode cX11_toBed 17 = .ok (.iload_n 3, 1) := by decide +kernel
theorem dX11_toBed_18 : decode cX11_toBed 18 = .ok (.invokestatic 150, 3) := by decide +kernel
theorem dX11_toBed_21 : decode cX11_toBed 21 = .ok (.ifCond .ne 10, 3) := by decide +kernel
theorem dX11_toBed_24 : decode cX11_toBed 24 = .ok (.aload_n 0, 1) := by decide +kernel
theorem dX11_toBed_25 : decode cX11_toBed 25 = .ok (.bipush (-2), 2) := by decide +kernel
theorem dX11_toBed_27 : decode cX11_toBed 27 = .ok (.invokevirtual 61, 3) := by decide +kernel
theorem dX11_toBed_30 : decode cX11_toBed 30 = .ok (.ireturn, 1) := by decide +kernel
theorem dX11_toBed_31 : decode cX11_toBed 31 = .ok (.aload_n 0, 1) := by decide +kernel
theorem dX11_toBed_32 : decode cX11_toBed 32 = .ok (.getfield 42, 3) := by decide +kernel
theorem dX11_toBed_35 : decode cX11_toBed 35 = .ok (.aload_n 0, 1) := by decide +kernel
theorem dX11_toBed_36 : decode cX11_toBed 36 = .ok (.getfield 10, 3) := by decide +kernel
theorem dX11_toBed_39 : decode cX11_toBed 39 = .ok (.iload_n 1, 1) := by decide +kernel
theorem dX11_toBed_40 : decode cX11_toBed 40 = .ok (.iload_n 2, 1) := by decide +kernel
theorem dX11_toBed_41 : decode cX11_toBed 41 = .ok (.invokevirtual 188, 3) := by decide +kernel
theorem dX11_toBed_44 : decode cX11_toBed 44 = .ok (.istore 4, 2) := by decide +kernel
theorem dX11_toBed_46 : decode cX11_toBed 46 = .ok (.iload_n 3, 1) := by decide +kernel
theorem dX11_toBed_47 : decode cX11_toBed 47 = .ok (.ifCond .ne 8, 3) := by decide +kernel
theorem dX11_toBed_50 : decode cX11_toBed 50 = .ok (.iload 4, 2) := by decide +kernel
theorem dX11_toBed_52 : decode cX11_toBed 52 = .ok (.goto 27, 3) := by decide +kernel
theorem dX11_toBed_55 : decode cX11_toBed 55 = .ok (.aload_n 0, 1) := by decide +kernel
theorem dX11_toBed_56 : decode cX11_toBed 56 = .ok (.getfield 42, 3) := by decide +kernel
theorem dX11_toBed_59 : decode cX11_toBed 59 = .ok (.aload_n 0, 1) := by decide +kernel
theorem dX11_toBed_60 : decode cX11_toBed 60 = .ok (.getfield 10, 3) := by decide +kernel
theorem dX11_toBed_63 : decode cX11_toBed 63 = .ok (.aload_n 0, 1) := by decide +kernel
theorem dX11_toBed_64 : decode cX11_toBed 64 = .ok (.getfield 10, 3) := by decide +kernel
theorem dX11_toBed_67 : decode cX11_toBed 67 = .ok (.invokevirtual 153, 3) := by decide +kernel
theorem dX11_toBed_70 : decode cX11_toBed 70 = .ok (.iload 4, 2) := by decide +kernel
theorem dX11_toBed_72 : decode cX11_toBed 72 = .ok (.iconst (-1), 1) := by decide +kernel
theorem dX11_toBed_73 : decode cX11_toBed 73 = .ok (.ixor, 1) := by decide +kernel
theorem dX11_toBed_74 : decode cX11_toBed 74 = .ok (.iand, 1) := by decide +kernel
theorem dX11_toBed_75 : decode cX11_toBed 75 = .ok (.iload_n 1, 1) := by decide +kernel
theorem dX11_toBed_76 : decode cX11_toBed 76 = .ok (.invokevirtual 173, 3) := by decide +kernel
theorem dX11_toBed_79 : decode cX11_toBed 79 = .ok (.ireturn, 1) := by decide +kernel
theorem dX11_move_0 : decode cX11_move 0 = .ok (.iload_n 1, 1) := by decide +kernel
theorem dX11_move_1 : decode cX11_move 1 = .ok (.invokestatic 128, 3) := by decide +kernel
theorem dX11_move_4 : decode cX11_move 4 = .ok (.ifCond .ne 10, 3) := by decide +kernel
theorem dX11_move_7 : decode cX11_move 7 = .ok (.aload_n 0, 1) := by decide +kernel
theorem dX11_move_8 : decode cX11_move 8 = .ok (.bipush (-2), 2) := by decide +kernel
theorem dX11_move_10 : decode cX11_move 10 = .ok (.invokevirtual 61, 3) := by decide +kernel
theorem dX11_move_13 : decode cX11_move 13 = .ok (.ireturn, 1) := by decide +kernel
theorem dX11_move_14 : decode cX11_move 14 = .ok (.aload_n 0, 1) := by decide +kernel
theorem dX11_move_15 : decode cX11_move 15 = .ok (.getfield 16, 3) := by decide +kernel
theorem dX11_move_18 : decode cX11_move 18 = .ok (.aload_n 0, 1) := by decide +kernel
theorem dX11_move_19 : decode cX11_move 19 = .ok (.getfield 10, 3) := by decide +kernel
theorem dX11_move_22 : decode cX11_move 22 = .ok (.invokevirtual 124, 3) := by decide +kernel
theorem dX11_move_25 : decode cX11_move 25 = .ok (.aload_n 0, 1) := by decide +kernel
theorem dX11_move_26 : decode cX11_move 26 = .ok (.getfield 42, 3) := by decide +kernel
theorem dX11_move_29 : decode cX11_move 29 = .ok (.aload_n 0, 1) := by decide +kernel
theorem dX11_move_30 : decode cX11_move 30 = .ok (.getfield 16, 3) := by decide +kernel
theorem dX11_move_33 : decode cX11_move 33 = .ok (.iload_n 1, 1) := by decide +kernel
theorem dX11_move_34 : decode cX11_move 34 = .ok (.invokevirtual 191, 3) := by decide +kernel
theorem dX11_move_37 : decode cX11_move 37 = .ok (.ireturn, 1) := by decide +kernel
theorem dX11_carters_0 : decode cX11_carters 0 = .ok (.iload_n 1, 1) := by decide +kernel
theorem dX11_carters_1 : decode cX11_carters 1 = .ok (.iconst 0, 1) := by decide +kernel
theorem dX11_carters_2 : decode cX11_carters 2 = .ok (.bipush 50, 2) := by decide +kernel
theorem dX11_carters_4 : decode cX11_carters 4 = .ok (.invokestatic 57, 3) := by decide +kernel
theorem dX11_carters_7 : decode cX11_carters 7 = .ok (.ifCond .eq 10, 3) := by decide +kernel
theorem dX11_carters_10 : decode cX11_carters 10 = .ok (.iload_n 2, 1) := by decide +kernel
theorem dX11_carters_11 : decode cX11_carters 11 = .ok (.invokestatic 150, 3) := by decide +kernel
theorem dX11_carters_14 : decode cX11_carters 14 = .ok (.ifCond .ne 10, 3) := by decide +kernel
theorem dX11_carters_17 : decode cX11_carters 17 = .ok (.aload_n 0, 1) := by decide +kernel
theorem dX11_carters_18 : decode cX11_carters 18 = .ok (.bipush (-10), 2) := by decide +kernel
theorem dX11_carters_20 : decode cX11_carters 20 = .ok (.invokevirtual 61, 3) := by decide +kernel
theorem dX11_carters_23 : decode cX11_carters 23 = .ok (.ireturn, 1) := by decide +kernel
theorem dX11_carters_24 : decode cX11_carters 24 = .ok (.aload_n 0, 1) := by decide +kernel
theorem dX11_carters_25 : decode cX11_carters 25 = .ok (.getfield 42, 3) := by decide +kernel
theorem dX11_carters_28 : decode cX11_carters 28 = .ok (.aload_n 0, 1) := by decide +kernel
theorem dX11_carters_29 : decode cX11_carters 29 = .ok (.getfield 10, 3) := by decide +kernel
theorem dX11_carters_32 : decode cX11_carters 32 = .ok (.iload_n 1, 1) := by decide +kernel
theorem dX11_carters_33 : decode cX11_carters 33 = .ok (.iload_n 2, 1) := by decide +kernel
theorem dX11_carters_34 : decode cX11_carters 34 = .ok (.invokevirtual 194, 3) := by decide +kernel
theorem dX11_carters_37 : decode cX11_carters 37 = .ok (.ireturn, 1) := by decide +kernel
theorem dX11_reading_0 : decode cX11_reading 0 = .ok (.iload_n 1, 1) := by decide +kernel
theorem dX11_reading_1 : decode cX11_reading 1 = .ok (.invokestatic 78, 3) := by decide +kernel
theorem dX11_reading_4 : decode cX11_reading 4 = .ok (.ifCond .eq 20, 3) := by decide +kernel
theorem dX11_reading_7 : decode cX11_reading 7 = .ok (.iload_n 2, 1) := by decide +kernel
theorem dX11_reading_8 : decode cX11_reading 8 = .ok (.invokestatic 128, 3) := by decide +kernel
theorem dX11_reading_11 : decode cX11_reading 11 = .ok (.ifCond .eq 13, 3) := by decide +kernel
theorem dX11_reading_14 : decode cX11_reading 14 = .ok (.iload_n 3, 1) := by decide +kernel
theorem dX11_reading_15 : decode cX11_reading 15 = .ok (.iconst 1, 1) := by decide +kernel
theorem dX11_reading_16 : decode cX11_reading 16 = .ok (.bipush 9, 2) := by decide +kernel
theorem dX11_reading_18 : decode cX11_reading 18 = .ok (.invokestatic 57, 3) := by decide +kernel
theorem dX11_reading_21 : decode cX11_reading 21 = .ok (.ifCond .ne 10, 3) := by decide +kernel
theorem dX11_reading_24 : decode cX11_reading 24 = .ok (.aload_n 0, 1) := by decide +kernel
theorem dX11_reading_25 : decode cX11_reading 25 = .ok (.bipush (-2), 2) := by decide +kernel
theorem dX11_reading_27 : decode cX11_reading 27 = .ok (.invokevirtual 61, 3) := by decide +kernel
theorem dX11_reading_30 : decode cX11_reading 30 = .ok (.ireturn, 1) := by decide +kernel
theorem dX11_reading_31 : decode cX11_reading 31 = .ok (.aload_n 0, 1) := by decide +kernel
theorem dX11_reading_32 : decode cX11_reading 32 = .ok (.getfield 10, 3) := by decide +kernel
theorem dX11_reading_35 : decode cX11_reading 35 = .ok (.getfield 197, 3) := by decide +kernel
theorem dX11_reading_38 : decode cX11_reading 38 = .ok (.bipush 6, 2) := by decide +kernel
theorem dX11_reading_40 : decode cX11_reading 40 = .ok (.if_icmp .lt 8, 3) := by decide +kernel
theorem dX11_reading_43 : decode cX11_reading 43 = .ok (.aload_n 0, 1) := by decide +kernel
theorem dX11_reading_44 : decode cX11_reading 44 = .ok (.invokevirtual 82, 3) := by decide +kernel
theorem dX11_reading_47 : decode cX11_reading 47 = .ok (.ireturn, 1) := by decide +kernel
theorem dX11_reading_48 : decode cX11_reading 48 = .ok (.aload_n 0, 1) := by decide +kernel
theorem dX11_reading_49 : decode cX11_reading 49 = .ok (.getfield 10, 3) := by decide +kernel
theorem dX11_reading_52 : decode cX11_reading 52 = .ok (.iload_n 1, 1) := by decide +kernel
theorem dX11_reading_53 : decode cX11_reading 53 = .ok (.iload_n 2, 1) := by decide +kernel
theorem dX11_reading_54 : decode cX11_reading 54 = .ok (.iload_n 3, 1) := by decide +kernel
theorem dX11_reading_55 : decode cX11_reading 55 = .ok (.invokevirtual 200, 3) := by decide +kernel
theorem dX11_reading_58 : decode cX11_reading 58 = .ok (.aload_n 0, 1) := by decide +kernel
theorem dX11_reading_59 : decode cX11_reading 59 = .ok (.getfield 10, 3) := by decide +kernel
theorem dX11_reading_62 : decode cX11_reading 62 = .ok (.getfield 197, 3) := by decide +kernel
theorem dX11_reading_65 : decode cX11_reading 65 = .ok (.ireturn, 1) := by decide +kernel
theorem dX11_forget_0 : decode cX11_forget 0 = .ok (.aload_n 0, 1) := by decide +kernel
theorem dX11_forget_1 : decode cX11_forget 1 = .ok (.getfield 10, 3) := by decide +kernel
theorem dX11_forget_4 : decode cX11_forget 4 = .ok (.getfield 197, 3) := by decide +kernel
theorem dX11_forget_7 : decode cX11_forget 7 = .ok (.istore_n 1, 1) := by decide +kernel
theorem dX11_forget_8 : decode cX11_forget 8 = .ok (.aload_n 0, 1) := by decide +kernel
theorem dX11_forget_9 : decode cX11_forget 9 = .ok (.getfield 10, 3) := by decide +kernel
theorem dX11_forget_12 : decode cX11_forget 12 = .ok (.iconst 0, 1) := by decide +kernel
theorem dX11_forget_13 : decode cX11_forget 13 = .ok (.putfield 197, 3) := by decide +kernel
theorem dX11_forget_16 : decode cX11_forget 16 = .ok (.iload_n 1, 1) := by decide +kernel
theorem dX11_forget_17 : decode cX11_forget 17 = .ok (.ireturn, 1) := by decide +kernel
theorem dX11_out_0 : decode cX11_out 0 = .ok (.iload_n 1, 1) := by decide +kernel
theorem dX11_out_1 : decode cX11_out 1 = .ok (.invokestatic 150, 3) := by decide +kernel
theorem dX11_out_4 : decode cX11_out 4 = .ok (.ifCond .ne 10, 3) := by decide +kernel
theorem dX11_out_7 : decode cX11_out 7 = .ok (.aload_n 0, 1) := by decide +kernel
theorem dX11_out_8 : decode cX11_out 8 = .ok (.bipush (-10), 2) := by decide +kernel
theorem dX11_out_10 : decode cX11_out 10 = .ok (.invokevirtual 61, 3) := by decide +kernel
theorem dX11_out_13 : decode cX11_out 13 = .ok (.ireturn, 1) := by decide +kernel
theorem dX11_out_14 : decode cX11_out 14 = .ok (.aload_n 0, 1) := by decide +kernel
theorem dX11_out_15 : decode cX11_out 15 = .ok (.getfield 49, 3) := by decide +kernel
theorem dX11_out_18 : decode cX11_out 18 = .ok (.aload_n 0, 1) := by decide +kernel
theorem dX11_out_19 : decode cX11_out 19 = .ok (.getfield 10, 3) := by decide +kernel
theorem dX11_out_22 : decode cX11_out 22 = .ok (.invokevirtual 204, 3) := by decide +kernel
theorem dX11_out_25 : decode cX11_out 25 = .ok (.lstore_n 2, 1) := by decide +kernel
theorem dX11_out_26 : decode cX11_out 26 = .ok (.iload_n 1, 1) := by decide +kernel
theorem dX11_out_27 : decode cX11_out 27 = .ok (.ifCond .ne 10, 3) := by decide +kernel
theorem dX11_out_30 : decode cX11_out 30 = .ok (.lload_n 2, 1) := by decide +kernel
theorem dX11_out_31 : decode cX11_out 31 = .ok (.invokestatic 208, 3) := by decide +kernel
theorem dX11_out_34 : decode cX11_out 34 = .ok (.goto 15, 3) := by decide +kernel
theorem dX11_out_37 : decode cX11_out 37 = .ok (.aload_n 0, 1) := by decide +kernel
theorem dX11_out_38 : decode cX11_out 38 = .ok (.getfield 49, 3) := by decide +kernel
theorem dX11_out_41 : decode cX11_out 41 = .ok (.aload_n 0, 1) := by decide +kernel
theorem dX11_out_42 : decode cX11_out 42 = .ok (.getfield 10, 3) := by decide +kernel
theorem dX11_out_45 : decode cX11_out 45 = .ok (.lload_n 2, 1) := by decide +kernel
theorem dX11_out_46 : decode cX11_out 46 = .ok (.invokevirtual 214, 3) := by decide +kernel
theorem dX11_out_49 : decode cX11_out 49 = .ok (.ireturn, 1) := by decide +kernel
theorem dX11_look_0 : decode cX11_look 0 = .ok (.iload_n 1, 1) := by decide +kernel
theorem dX11_look_1 : decode cX11_look 1 = .ok (.invokestatic 128, 3) := by decide +kernel
theorem dX11_look_4 : decode cX11_look 4 = .ok (.ifCond .ne 10, 3) := by decide +kernel
theorem dX11_look_7 : decode cX11_look 7 = .ok (.aload_n 0, 1) := by decide +kernel
theorem dX11_look_8 : decode cX11_look 8 = .ok (.bipush (-2), 2) := by decide +kernel
theorem dX11_look_10 : decode cX11_look 10 = .ok (.invokevirtual 61, 3) := by decide +kernel
theorem dX11_look_13 : decode cX11_look 13 = .ok (.ireturn, 1) := by decide +kernel
theorem dX11_look_14 : decode cX11_look 14 = .ok (.aload_n 0, 1) := by decide +kernel
theorem dX11_look_15 : decode cX11_look 15 = .ok (.getfield 49, 3) := by decide +kernel
theorem dX11_look_18 : decode cX11_look 18 = .ok (.aload_n 0, 1) := by decide +kernel
theorem dX11_look_19 : decode cX11_look 19 = .ok (.getfield 10, 3) := by decide +kernel
theorem dX11_look_22 : decode cX11_look 22 = .ok (.aload_n 0, 1) := by decide +kernel
theorem dX11_look_23 : decode cX11_look 23 = .ok (.getfield 49, 3) := by decide +kernel
theorem dX11_look_26 : decode cX11_look 26 = .ok (.aload_n 0, 1) := by decide +kernel
theorem dX11_look_27 : decode cX11_look 27 = .ok (.getfield 10, 3) := by decide +kernel
theorem dX11_look_30 : decode cX11_look 30 = .ok (.invokevirtual 204, 3) := by decide +kernel
theorem dX11_look_33 : decode cX11_look 33 = .ok (.iload_n 1, 1) := by decide +kernel
theorem dX11_look_34 : decode cX11_look 34 = .ok (.invokevirtual 218, 3) := by decide +kernel
theorem dX11_look_37 : decode cX11_look 37 = .ok (.ireturn, 1) := by decide +kernel
theorem dX11_dolls_0 : decode cX11_dolls 0 = .ok (.aload_n 0, 1) := by decide +kernel
theorem dX11_dolls_1 : decode cX11_dolls 1 = .ok (.getfield 16, 3) := by decide +kernel
theorem dX11_dolls_4 : decode cX11_dolls 4 = .ok (.aload_n 0, 1) := by decide +kernel
theorem dX11_dolls_5 : decode cX11_dolls 5 = .ok (.getfield 10, 3) := by decide +kernel
theorem dX11_dolls_8 : decode cX11_dolls 8 = .ok (.invokevirtual 124, 3) := by decide +kernel
theorem dX11_dolls_11 : decode cX11_dolls 11 = .ok (.aload_n 0, 1) := by decide +kernel
theorem dX11_dolls_12 : decode cX11_dolls 12 = .ok (.getfield 49, 3) := by decide +kernel
theorem dX11_dolls_15 : decode cX11_dolls 15 = .ok (.aload_n 0, 1) := by decide +kernel
theorem dX11_dolls_16 : decode cX11_dolls 16 = .ok (.getfield 16, 3) := by decide +kernel
theorem dX11_dolls_19 : decode cX11_dolls 19 = .ok (.invokevirtual 222, 3) := by decide +kernel
theorem dX11_dolls_22 : decode cX11_dolls 22 = .ok (.ireturn, 1) := by decide +kernel
theorem dX11_days_0 : decode cX11_days 0 = .ok (.iload_n 1, 1) := by decide +kernel
theorem dX11_days_1 : decode cX11_days 1 = .ok (.iconst 0, 1) := by decide +kernel
theorem dX11_days_2 : decode cX11_days 2 = .ok (.ldc 225, 2) := by decide +kernel
theorem dX11_days_4 : decode cX11_days 4 = .ok (.invokestatic 57, 3) := by decide +kernel
theorem dX11_days_7 : decode cX11_days 7 = .ok (.ifCond .eq 23, 3) := by decide +kernel
theorem dX11_days_10 : decode cX11_days 10 = .ok (.iload_n 2, 1) := by decide +kernel
theorem dX11_days_11 : decode cX11_days 11 = .ok (.iconst 0, 1) := by decide +kernel
theorem dX11_days_12 : decode cX11_days 12 = .ok (.bipush 30, 2) := by decide +kernel
theorem dX11_days_14 : decode cX11_days 14 = .ok (.invokestatic 57, 3) := by decide +kernel
theorem dX11_days_17 : decode cX11_days 17 = .ok (.ifCond .eq 13, 3) := by decide +kernel
theorem dX11_days_20 : decode cX11_days 20 = .ok (.iload_n 3, 1) := by decide +kernel
theorem dX11_days_21 : decode cX11_days 21 = .ok (.iconst 0, 1) := by decide +kernel
theorem dX11_days_22 : decode cX11_days 22 = .ok (.bipush 100, 2) := by decide +kernel
theorem dX11_days_24 : decode cX11_days 24 = .ok (.invokestatic 57, 3) := by decide +kernel
theorem dX11_days_27 : decode cX11_days 27 = .ok (.ifCond .ne 10, 3) := by decide +kernel
theorem dX11_days_30 : decode cX11_days 30 = .ok (.aload_n 0, 1) := by decide +kernel
theorem dX11_days_31 : decode cX11_days 31 = .ok (.bipush (-2), 2) := by decide +kernel
theorem dX11_days_33 : decode cX11_days 33 = .ok (.invokevirtual 61, 3) := by decide +kernel
theorem dX11_days_36 : decode cX11_days 36 = .ok (.ireturn, 1) := by decide +kernel
theorem dX11_days_37 : decode cX11_days 37 = .ok (.iload_n 2, 1) := by decide +kernel
theorem dX11_days_38 : decode cX11_days 38 = .ok (.ifCond .ne 8, 3) := by decide +kernel
theorem dX11_days_41 : decode cX11_days 41 = .ok (.aload_n 0, 1) := by decide +kernel
theorem dX11_days_42 : decode cX11_days 42 = .ok (.invokevirtual 107, 3) := by decide +kernel
theorem dX11_days_45 : decode cX11_days 45 = .ok (.ireturn, 1) := by decide +kernel
theorem dX11_days_46 : decode cX11_days 46 = .ok (.aload_n 0, 1) := by decide +kernel
theorem dX11_days_47 : decode cX11_days 47 = .ok (.aload_n 0, 1) := by decide +kernel
theorem dX11_days_48 : decode cX11_days 48 = .ok (.getfield 42, 3) := by decide +kernel
theorem dX11_days_51 : decode cX11_days 51 = .ok (.aload_n 0, 1) := by decide +kernel
theorem dX11_days_52 : decode cX11_days 52 = .ok (.getfield 10, 3) := by decide +kernel
theorem dX11_days_55 : decode cX11_days 55 = .ok (.iload_n 1, 1) := by decide +kernel
theorem dX11_days_56 : decode cX11_days 56 = .ok (.iload_n 2, 1) := by decide +kernel
theorem dX11_days_57 : decode cX11_days 57 = .ok (.iload_n 3, 1) := by decide +kernel
theorem dX11_days_58 : decode cX11_days 58 = .ok (.invokevirtual 226, 3) := by decide +kernel
theorem dX11_days_61 : decode cX11_days 61 = .ok (.iload_n 2, 1) := by decide +kernel
theorem dX11_days_62 : decode cX11_days 62 = .ok (.invokevirtual 230, 3) := by decide +kernel
theorem dX11_days_65 : decode cX11_days 65 = .ok (.iconst 1, 1) := by decide +kernel
theorem dX11_days_66 : decode cX11_days 66 = .ok (.ireturn, 1) := by decide +kernel
theorem dX11_part_0 : decode cX11_part 0 = .ok (.iload_n 1, 1) := by decide +kernel
theorem dX11_part_1 : decode cX11_part 1 = .ok (.invokestatic 150, 3) := by decide +kernel
theorem dX11_part_4 : decode cX11_part 4 = .ok (.ifCond .ne 11, 3) := by decide +kernel
theorem dX11_part_7 : decode cX11_part 7 = .ok (.aload_n 0, 1) := by decide +kernel
theorem dX11_part_8 : decode cX11_part 8 = .ok (.bipush (-2), 2) := by decide +kernel
theorem dX11_part_10 : decode cX11_part 10 = .ok (.invokevirtual 61, 3) := by decide +kernel
theorem dX11_part_13 : decode cX11_part 13 = .ok (.i2l, 1) := by decide +kernel
theorem dX11_part_14 : decode cX11_part 14 = .ok (.lreturn, 1) := by decide +kernel
theorem dX11_part_15 : decode cX11_part 15 = .ok (.iload_n 1, 1) := by decide +kernel
theorem dX11_part_16 : decode cX11_part 16 = .ok (.ifCond .ne 11, 3) := by decide +kernel
theorem dX11_part_19 : decode cX11_part 19 = .ok (.aload_n 0, 1) := by decide +kernel
theorem dX11_part_20 : decode cX11_part 20 = .ok (.getfield 233, 3) := by decide +kernel
theorem dX11_part_23 : decode cX11_part 23 = .ok (.i2l, 1) := by decide +kernel
theorem dX11_part_24 : decode cX11_part 24 = .ok (.goto 8, 3) := by decide +kernel
theorem dX11_part_27 : decode cX11_part 27 = .ok (.aload_n 0, 1) := by decide +kernel
theorem dX11_part_28 : decode cX11_part 28 = .ok (.getfield 53, 3) := by decide +kernel
theorem dX11_part_31 : decode cX11_part 31 = .ok (.i2l, 1) := by decide +kernel
theorem dX11_part_32 : decode cX11_part 32 = .ok (.lreturn, 1) := by decide +kernel
theorem dX11_image_0 : decode cX11_image 0 = .ok (.iload_n 1, 1) := by decide +kernel
theorem dX11_image_1 : decode cX11_image 1 = .ok (.invokestatic 150, 3) := by decide +kernel
theorem dX11_image_4 : decode cX11_image 4 = .ok (.ifCond .ne 10, 3) := by decide +kernel
theorem dX11_image_7 : decode cX11_image 7 = .ok (.aload_n 0, 1) := by decide +kernel
theorem dX11_image_8 : decode cX11_image 8 = .ok (.bipush (-2), 2) := by decide +kernel
theorem dX11_image_10 : decode cX11_image 10 = .ok (.invokevirtual 61, 3) := by decide +kernel
theorem dX11_image_13 : decode cX11_image 13 = .ok (.ireturn, 1) := by decide +kernel
theorem dX11_image_14 : decode cX11_image 14 = .ok (.iload_n 1, 1) := by decide +kernel
theorem dX11_image_15 : decode cX11_image 15 = .ok (.ifCond .ne 22, 3) := by decide +kernel
theorem dX11_image_18 : decode cX11_image 18 = .ok (.aload_n 0, 1) := by decide +kernel
theorem dX11_image_19 : decode cX11_image 19 = .ok (.getfield 19, 3) := by decide +kernel
theorem dX11_image_22 : decode cX11_image 22 = .ok (.aload_n 0, 1) := by decide +kernel
theorem dX11_image_23 : decode cX11_image 23 = .ok (.getfield 10, 3) := by decide +kernel
theorem dX11_image_26 : decode cX11_image 26 = .ok (.invokevirtual 124, 3) := by decide +kernel
theorem dX11_image_29 : decode cX11_image 29 = .ok (.aload_n 0, 1) := by decide +kernel
theorem dX11_image_30 : decode cX11_image 30 = .ok (.iconst 1, 1) := by decide +kernel
theorem dX11_image_31 : decode cX11_image 31 = .ok (.putfield 236, 3) := by decide +kernel
theorem dX11_image_34 : decode cX11_image 34 = .ok (.goto 19, 3) := by decide +kernel
theorem dX11_image_37 : decode cX11_image 37 = .ok (.aload_n 0, 1) := by decide +kernel
theorem dX11_image_38 : decode cX11_image 38 = .ok (.getfield 22, 3) := by decide +kernel
theorem dX11_image_41 : decode cX11_image 41 = .ok (.aload_n 0, 1) := by decide +kernel
theorem dX11_image_42 : decode cX11_image 42 = .ok (.getfield 10, 3) := by decide +kernel
theorem dX11_image_45 : decode cX11_image 45 = .ok (.invokevirtual 124, 3) := by decide +kernel
theorem dX11_image_48 : decode cX11_image 48 = .ok (.aload_n 0, 1) := by decide +kernel
theorem dX11_image_49 : decode cX11_image 49 = .ok (.iconst 1, 1) := by decide +kernel
theorem dX11_image_50 : decode cX11_image 50 = .ok (.putfield 240, 3) := by decide +kernel
theorem dX11_image_53 : decode cX11_image 53 = .ok (.iconst 1, 1) := by decide +kernel
theorem dX11_image_54 : decode cX11_image 54 = .ok (.ireturn, 1) := by decide +kernel
theorem dX11_from_0 : decode cX11_from 0 = .ok (.iload_n 1, 1) := by decide +kernel
theorem dX11_from_1 : decode cX11_from 1 = .ok (.invokestatic 150, 3) := by decide +kernel
theorem dX11_from_4 : decode cX11_from 4 = .ok (.ifCond .ne 10, 3) := by decide +kernel
theorem dX11_from_7 : decode cX11_from 7 = .ok (.aload_n 0, 1) := by decide +kernel
theorem dX11_from_8 : decode cX11_from 8 = .ok (.bipush (-2), 2) := by decide +kernel
theorem dX11_from_10 : decode cX11_from 10 = .ok (.invokevirtual 61, 3) := by decide +kernel
theorem dX11_from_13 : decode cX11_from 13 = .ok (.ireturn, 1) := by decide +kernel
theorem dX11_from_14 : decode cX11_from 14 = .ok (.iload_n 1, 1) := by decide +kernel
theorem dX11_from_15 : decode cX11_from 15 = .ok (.ifCond .ne 10, 3) := by decide +kernel
theorem dX11_from_18 : decode cX11_from 18 = .ok (.aload_n 0, 1) := by decide +kernel
theorem dX11_from_19 : decode cX11_from 19 = .ok (.getfield 236, 3) := by decide +kernel
theorem dX11_from_22 : decode cX11_from 22 = .ok (.goto 7, 3) := by decide +kernel
theorem dX11_from_25 : decode cX11_from 25 = .ok (.aload_n 0, 1) := by decide +kernel
theorem dX11_from_26 : decode cX11_from 26 = .ok (.getfield 240, 3) := by decide +kernel
theorem dX11_from_29 : decode cX11_from 29 = .ok (.istore_n 2, 1) := by decide +kernel
theorem dX11_from_30 : decode cX11_from 30 = .ok (.iload_n 2, 1) := by decide +kernel
theorem dX11_from_31 : decode cX11_from 31 = .ok (.ifCond .ne 8, 3) := by decide +kernel
theorem dX11_from_34 : decode cX11_from 34 = .ok (.aload_n 0, 1) := by decide +kernel
theorem dX11_from_35 : decode cX11_from 35 = .ok (.invokevirtual 107, 3) := by decide +kernel
theorem dX11_from_38 : decode cX11_from 38 = .ok (.ireturn, 1) := by decide +kernel
theorem dX11_from_39 : decode cX11_from 39 = .ok (.aload_n 0, 1) := by decide +kernel
theorem dX11_from_40 : decode cX11_from 40 = .ok (.getfield 10, 3) := by decide +kernel
theorem dX11_from_43 : decode cX11_from 43 = .ok (.iload_n 1, 1) := by decide +kernel
theorem dX11_from_44 : decode cX11_from 44 = .ok (.ifCond .ne 10, 3) := by decide +kernel
theorem dX11_from_47 : decode cX11_from 47 = .ok (.aload_n 0, 1) := by decide +kernel
theorem dX11_from_48 : decode cX11_from 48 = .ok (.getfield 19, 3) := by decide +kernel
theorem dX11_from_51 : decode cX11_from 51 = .ok (.goto 7, 3) := by decide +kernel
theorem dX11_from_54 : decode cX11_from 54 = .ok (.aload_n 0, 1) := by decide +kernel
theorem dX11_from_55 : decode cX11_from 55 = .ok (.getfield 22, 3) := by decide +kernel
theorem dX11_from_58 : decode cX11_from 58 = .ok (.invokevirtual 124, 3) := by decide +kernel
theorem dX11_from_61 : decode cX11_from 61 = .ok (.iconst 1, 1) := by decide +kernel
theorem dX11_from_62 : decode cX11_from 62 = .ok (.ireturn, 1) := by decide +kernel
theorem dX11_status_0 : decode cX11_status 0 = .ok (.iload_n 1, 1) := by decide +kernel
theorem dX11_status_1 : decode cX11_status 1 = .ok (.tableswitch 42 0 2 #[27, 32, 37], 27) := by decide +kernel
theorem dX11_status_28 : decode cX11_status 28 = .ok (.aload_n 0, 1) := by decide +kernel
theorem dX11_status_29 : decode cX11_status 29 = .ok (.getfield 243, 3) := by decide +kernel
theorem dX11_status_32 : decode cX11_status 32 = .ok (.ireturn, 1) := by decide +kernel
theorem dX11_status_33 : decode cX11_status 33 = .ok (.aload_n 0, 1) := by decide +kernel
theorem dX11_status_34 : decode cX11_status 34 = .ok (.getfield 246, 3) := by decide +kernel
theorem dX11_status_37 : decode cX11_status 37 = .ok (.ireturn, 1) := by decide +kernel
theorem dX11_status_38 : decode cX11_status 38 = .ok (.aload_n 0, 1) := by decide +kernel
theorem dX11_status_39 : decode cX11_status 39 = .ok (.getfield 249, 3) := by decide +kernel
theorem dX11_status_42 : decode cX11_status 42 = .ok (.ireturn, 1) := by decide +kernel
theorem dX11_status_43 : decode cX11_status 43 = .ok (.aload_n 0, 1) := by decide +kernel
theorem dX11_status_44 : decode cX11_status 44 = .ok (.iconst (-1), 1) := by decide +kernel
theorem dX11_status_45 : decode cX11_status 45 = .ok (.invokevirtual 61, 3) := by decide +kernel
theorem dX11_status_48 : decode cX11_status 48 = .ok (.ireturn, 1) := by decide +kernel
theorem dX11_count_0 : decode cX11_count 0 = .ok (.iload_n 1, 1) := by decide +kernel
theorem dX11_count_1 : decode cX11_count 1 = .ok (.iconst 0, 1) := by decide +kernel
theorem dX11_count_2 : decode cX11_count 2 = .ok (.bipush 6, 2) := by decide +kernel
theorem dX11_count_4 : decode cX11_count 4 = .ok (.invokestatic 57, 3) := by decide +kernel
theorem dX11_count_7 : decode cX11_count 7 = .ok (.ifCond .ne 10, 3) := by decide +kernel
theorem dX11_count_10 : decode cX11_count 10 = .ok (.aload_n 0, 1) := by decide +kernel
theorem dX11_count_11 : decode cX11_count 11 = .ok (.bipush (-2), 2) := by decide +kernel
theorem dX11_count_13 : decode cX11_count 13 = .ok (.invokevirtual 61, 3) := by decide +kernel
theorem dX11_count_16 : decode cX11_count 16 = .ok (.ireturn, 1) := by decide +kernel
theorem dX11_count_17 : decode cX11_count 17 = .ok (.aload_n 0, 1) := by decide +kernel
theorem dX11_count_18 : decode cX11_count 18 = .ok (.iload_n 1, 1) := by decide +kernel
theorem dX11_count_19 : decode cX11_count 19 = .ok (.invokevirtual 252, 3) := by decide +kernel
theorem dX11_count_22 : decode cX11_count 22 = .ok (.ireturn, 1) := by decide +kernel
theorem dX11_digest_0 : decode cX11_digest 0 = .ok (.ldc2_w 255, 3) := by decide +kernel
theorem dX11_digest_3 : decode cX11_digest 3 = .ok (.lstore_n 1, 1) := by decide +kernel
theorem dX11_digest_4 : decode cX11_digest 4 = .ok (.iconst 0, 1) := by decide +kernel
theorem dX11_digest_5 : decode cX11_digest 5 = .ok (.istore_n 3, 1) := by decide +kernel
theorem dX11_digest_6 : decode cX11_digest 6 = .ok (.iload_n 3, 1) := by decide +kernel
theorem dX11_digest_7 : decode cX11_digest 7 = .ok (.bipush 6, 2) := by decide +kernel
theorem dX11_digest_9 : decode cX11_digest 9 = .ok (.if_icmp .gt 22, 3) := by decide +kernel
theorem dX11_digest_12 : decode cX11_digest 12 = .ok (.ldc2_w 257, 3) := by decide +kernel
theorem dX11_digest_15 : decode cX11_digest 15 = .ok (.lload_n 1, 1) := by decide +kernel
theorem dX11_digest_16 : decode cX11_digest 16 = .ok (.lmul, 1) := by decide +kernel
theorem dX11_digest_17 : decode cX11_digest 17 = .ok (.aload_n 0, 1) := by decide +kernel
theorem dX11_digest_18 : decode cX11_digest 18 = .ok (.iload_n 3, 1) := by decide +kernel
theorem dX11_digest_19 : decode cX11_digest 19 = .ok (.invokevirtual 252, 3) := by decide +kernel
theorem dX11_digest_22 : decode cX11_digest 22 = .ok (.i2l, 1) := by decide +kernel
theorem dX11_digest_23 : decode cX11_digest 23 = .ok (.ladd, 1) := by decide +kernel
theorem dX11_digest_24 : decode cX11_digest 24 = .ok (.lstore_n 1, 1) := by decide +kernel
theorem dX11_digest_25 : decode cX11_digest 25 = .ok (.iinc 3 1, 3) := by decide +kernel
theorem dX11_digest_28 : decode cX11_digest 28 = .ok (.goto (-22), 3) := by decide +kernel
theorem dX11_digest_31 : decode cX11_digest 31 = .ok (.aload_n 0, 1) := by decide +kernel
theorem dX11_digest_32 : decode cX11_digest 32 = .ok (.getfield 10, 3) := by decide +kernel
theorem dX11_digest_35 : decode cX11_digest 35 = .ok (.lload_n 1, 1) := by decide +kernel
theorem dX11_digest_36 : decode cX11_digest 36 = .ok (.invokevirtual 259, 3) := by decide +kernel
theorem dX11_digest_39 : decode cX11_digest 39 = .ok (.lstore_n 1, 1) := by decide +kernel
theorem dX11_digest_40 : decode cX11_digest 40 = .ok (.ldc2_w 257, 3) := by decide +kernel
theorem dX11_digest_43 : decode cX11_digest 43 = .ok (.lload_n 1, 1) := by decide +kernel
theorem dX11_digest_44 : decode cX11_digest 44 = .ok (.lmul, 1) := by decide +kernel
theorem dX11_digest_45 : decode cX11_digest 45 = .ok (.aload_n 0, 1) := by decide +kernel
theorem dX11_digest_46 : decode cX11_digest 46 = .ok (.getfield 233, 3) := by decide +kernel
theorem dX11_digest_49 : decode cX11_digest 49 = .ok (.i2l, 1) := by decide +kernel
theorem dX11_digest_50 : decode cX11_digest 50 = .ok (.ladd, 1) := by decide +kernel
theorem dX11_digest_51 : decode cX11_digest 51 = .ok (.lstore_n 1, 1) := by decide +kernel
theorem dX11_digest_52 : decode cX11_digest 52 = .ok (.ldc2_w 257, 3) := by decide +kernel
theorem dX11_digest_55 : decode cX11_digest 55 = .ok (.lload_n 1, 1) := by decide +kernel
theorem dX11_digest_56 : decode cX11_digest 56 = .ok (.lmul, 1) := by decide +kernel
theorem dX11_digest_57 : decode cX11_digest 57 = .ok (.aload_n 0, 1) := by decide +kernel
theorem dX11_digest_58 : decode cX11_digest 58 = .ok (.getfield 53, 3) := by decide +kernel
theorem dX11_digest_61 : decode cX11_digest 61 = .ok (.i2l, 1) := by decide +kernel
theorem dX11_digest_62 : decode cX11_digest 62 = .ok (.ladd, 1) := by decide +kernel
theorem dX11_digest_63 : decode cX11_digest 63 = .ok (.lreturn, 1) := by decide +kernel
theorem dX11_countOf_0 : decode cX11_countOf 0 = .ok (.iload_n 1, 1) := by decide +kernel
theorem dX11_countOf_1 : decode cX11_countOf 1 = .ok (.tableswitch 87 0 5 #[39, 47, 55, 63, 71, 79], 39) := by decide +kernel
theorem dX11_countOf_40 : decode cX11_countOf 40 = .ok (.aload_n 0, 1) := by decide +kernel
theorem dX11_countOf_41 : decode cX11_countOf 41 = .ok (.getfield 10, 3) := by decide +kernel
theorem dX11_countOf_44 : decode cX11_countOf 44 = .ok (.getfield 65, 3) := by decide +kernel
theorem dX11_countOf_47 : decode cX11_countOf 47 = .ok (.ireturn, 1) := by decide +kernel
theorem dX11_countOf_48 : decode cX11_countOf 48 = .ok (.aload_n 0, 1) := by decide +kernel
theorem dX11_countOf_49 : decode cX11_countOf 49 = .ok (.getfield 10, 3) := by decide +kernel
theorem dX11_countOf_52 : decode cX11_countOf 52 = .ok (.getfield 75, 3) := by decide +kernel
theorem dX11_countOf_55 : decode cX11_countOf 55 = .ok (.ireturn, 1) := by decide +kernel
theorem dX11_countOf_56 : decode cX11_countOf 56 = .ok (.aload_n 0, 1) := by decide +kernel
theorem dX11_countOf_57 : decode cX11_countOf 57 = .ok (.getfield 10, 3) := by decide +kernel
theorem dX11_countOf_60 : decode cX11_countOf 60 = .ok (.getfield 72, 3) := by decide +kernel
theorem dX11_countOf_63 : decode cX11_countOf 63 = .ok (.ireturn, 1) := by decide +kernel
theorem dX11_countOf_64 : decode cX11_countOf 64 = .ok (.aload_n 0, 1) := by decide +kernel
theorem dX11_countOf_65 : decode cX11_countOf 65 = .ok (.getfield 10, 3) := by decide +kernel
theorem dX11_countOf_68 : decode cX11_countOf 68 = .ok (.getfield 179, 3) := by decide +kernel
theorem dX11_countOf_71 : decode cX11_countOf 71 = .ok (.ireturn, 1) := by decide +kernel
theorem dX11_countOf_72 : decode cX11_countOf 72 = .ok (.aload_n 0, 1) := by decide +kernel
theorem dX11_countOf_73 : decode cX11_countOf 73 = .ok (.getfield 10, 3) := by decide +kernel
theorem dX11_countOf_76 : decode cX11_countOf 76 = .ok (.getfield 197, 3) := by decide +kernel
theorem dX11_countOf_79 : decode cX11_countOf 79 = .ok (.ireturn, 1) := by decide +kernel
theorem dX11_countOf_80 : decode cX11_countOf 80 = .ok (.aload_n 0, 1) := by decide +kernel
theorem dX11_countOf_81 : decode cX11_countOf 81 = .ok (.getfield 10, 3) := by decide +kernel
theorem dX11_countOf_84 : decode cX11_countOf 84 = .ok (.getfield 104, 3) := by decide +kernel
theorem dX11_countOf_87 : decode cX11_countOf 87 = .ok (.ireturn, 1) := by decide +kernel
theorem dX11_countOf_88 : decode cX11_countOf 88 = .ok (.aload_n 0, 1) := by decide +kernel
theorem dX11_countOf_89 : decode cX11_countOf 89 = .ok (.getfield 28, 3) := by decide +kernel
theorem dX11_countOf_92 : decode cX11_countOf 92 = .ok (.getfield 113, 3) := by decide +kernel
theorem dX11_countOf_95 : decode cX11_countOf 95 = .ok (.ireturn, 1) := by decide +kernel
theorem dX11_keepFraction_0 : decode cX11_keepFraction 0 = .ok (.aload_n 0, 1) := by decide +kernel
theorem dX11_keepFraction_1 : decode cX11_keepFraction 1 = .ok (.iload_n 1, 1) := by decide +kernel
theorem dX11_keepFraction_2 : decode cX11_keepFraction 2 = .ok (.putfield 233, 3) := by decide +kernel
theorem dX11_keepFraction_5 : decode cX11_keepFraction 5 = .ok (.aload_n 0, 1) := by decide +kernel
theorem dX11_keepFraction_6 : decode cX11_keepFraction 6 = .ok (.iload_n 2, 1) := by decide +kernel
theorem dX11_keepFraction_7 : decode cX11_keepFraction 7 = .ok (.putfield 53, 3) := by decide +kernel
theorem dX11_keepFraction_10 : decode cX11_keepFraction 10 = .ok (.iload_n 2, 1) := by decide +kernel
theorem dX11_keepFraction_11 : decode cX11_keepFraction 11 = .ok (.istore_n 3, 1) := by decide +kernel
theorem dX11_keepFraction_12 : decode cX11_keepFraction 12 = .ok (.iload_n 3, 1) := by decide +kernel
theorem dX11_keepFraction_13 : decode cX11_keepFraction 13 = .ok (.iconst 1, 1) := by decide +kernel
theorem dX11_keepFraction_14 : decode cX11_keepFraction 14 = .ok (.if_icmp .le 36, 3) := by decide +kernel
theorem dX11_keepFraction_17 : decode cX11_keepFraction 17 = .ok (.iload_n 1, 1) := by decide +kernel
theorem dX11_keepFraction_18 : decode cX11_keepFraction 18 = .ok (.iload_n 3, 1) := by decide +kernel
theorem dX11_keepFraction_19 : decode cX11_keepFraction 19 = .ok (.irem, 1) := by decide +kernel
theorem dX11_keepFraction_20 : decode cX11_keepFraction 20 = .ok (.ifCond .ne 24, 3) := by decide +kernel
theorem dX11_keepFraction_23 : decode cX11_keepFraction 23 = .ok (.iload_n 2, 1) := by decide +kernel
theorem dX11_keepFraction_24 : decode cX11_keepFraction 24 = .ok (.iload_n 3, 1) := by decide +kernel
theorem dX11_keepFraction_25 : decode cX11_keepFraction 25 = .ok (.irem, 1) := by decide +kernel
theorem dX11_keepFraction_26 : decode cX11_keepFraction 26 = .ok (.ifCond .ne 18, 3) := by decide +kernel
theorem dX11_keepFraction_29 : decode cX11_keepFraction 29 = .ok (.aload_n 0, 1) := by decide +kernel
theorem dX11_keepFraction_30 : decode cX11_keepFraction 30 = .ok (.iload_n 1, 1) := by decide +kernel
theorem dX11_keepFraction_31 : decode cX11_keepFraction 31 = .ok (.iload_n 3, 1) := by decide +kernel
theorem dX11_keepFraction_32 : decode cX11_keepFraction 32 = .ok (.idiv, 1) := by decide +kernel
theorem dX11_keepFraction_33 : decode cX11_keepFraction 33 = .ok (.putfield 233, 3) := by decide +kernel
theorem dX11_keepFraction_36 : decode cX11_keepFraction 36 = .ok (.aload_n 0, 1) := by decide +kernel
theorem dX11_keepFraction_37 : decode cX11_keepFraction 37 = .ok (.iload_n 2, 1) := by decide +kernel
theorem dX11_keepFraction_38 : decode cX11_keepFraction 38 = .ok (.iload_n 3, 1) := by decide +kernel
theorem dX11_keepFraction_39 : decode cX11_keepFraction 39 = .ok (.idiv, 1) := by decide +kernel
theorem dX11_keepFraction_40 : decode cX11_keepFraction 40 = .ok (.putfield 53, 3) := by decide +kernel
theorem dX11_keepFraction_43 : decode cX11_keepFraction 43 = .ok (.return_, 1) := by decide +kernel
theorem dX11_keepFraction_44 : decode cX11_keepFraction 44 = .ok (.iinc 3 (-1), 3) := by decide +kernel
theorem dX11_keepFraction_47 : decode cX11_keepFraction 47 = .ok (.goto (-35), 3) := by decide +kernel
theorem dX11_keepFraction_50 : decode cX11_keepFraction 50 = .ok (.return_, 1) := by decide +kernel
theorem dX11_refuseBad_0 : decode cX11_refuseBad 0 = .ok (.aload_n 0, 1) := by decide +kernel
theorem dX11_refuseBad_1 : decode cX11_refuseBad 1 = .ok (.dup, 1) := by decide +kernel
theorem dX11_refuseBad_2 : decode cX11_refuseBad 2 = .ok (.getfield 243, 3) := by decide +kernel
theorem dX11_refuseBad_5 : decode cX11_refuseBad 5 = .ok (.iconst 1, 1) := by decide +kernel
theorem dX11_refuseBad_6 : decode cX11_refuseBad 6 = .ok (.iadd, 1) := by decide +kernel
theorem dX11_refuseBad_7 : decode cX11_refuseBad 7 = .ok (.putfield 243, 3) := by decide +kernel
theorem dX11_refuseBad_10 : decode cX11_refuseBad 10 = .ok (.iload_n 1, 1) := by decide +kernel
theorem dX11_refuseBad_11 : decode cX11_refuseBad 11 = .ok (.ireturn, 1) := by decide +kernel
theorem dX11_refuseNo_0 : decode cX11_refuseNo 0 = .ok (.aload_n 0, 1) := by decide +kernel
theorem dX11_refuseNo_1 : decode cX11_refuseNo 1 = .ok (.dup, 1) := by decide +kernel
theorem dX11_refuseNo_2 : decode cX11_refuseNo 2 = .ok (.getfield 246, 3) := by decide +kernel
theorem dX11_refuseNo_5 : decode cX11_refuseNo 5 = .ok (.iconst 1, 1) := by decide +kernel
theorem dX11_refuseNo_6 : decode cX11_refuseNo 6 = .ok (.iadd, 1) := by decide +kernel
theorem dX11_refuseNo_7 : decode cX11_refuseNo 7 = .ok (.putfield 246, 3) := by decide +kernel
theorem dX11_refuseNo_10 : decode cX11_refuseNo 10 = .ok (.bipush (-3), 2) := by decide +kernel
theorem dX11_refuseNo_12 : decode cX11_refuseNo 12 = .ok (.ireturn, 1) := by decide +kernel
theorem dX11_refuseFull_0 : decode cX11_refuseFull 0 = .ok (.aload_n 0, 1) := by decide +kernel
theorem dX11_refuseFull_1 : decode cX11_refuseFull 1 = .ok (.dup, 1) := by decide +kernel
theorem dX11_refuseFull_2 : decode cX11_refuseFull 2 = .ok (.getfield 249, 3) := by decide +kernel
theorem dX11_refuseFull_5 : decode cX11_refuseFull 5 = .ok (.iconst 1, 1) := by decide +kernel
theorem dX11_refuseFull_6 : decode cX11_refuseFull 6 = .ok (.iadd, 1) := by decide +kernel
theorem dX11_refuseFull_7 : decode cX11_refuseFull 7 = .ok (.putfield 249, 3) := by decide +kernel
theorem dX11_refuseFull_10 : decode cX11_refuseFull 10 = .ok (.bipush (-4), 2) := by decide +kernel
theorem dX11_refuseFull_12 : decode cX11_refuseFull 12 = .ok (.ireturn, 1) := by decide +kernel
theorem dX11_isChild_0 : decode cX11_isChild 0 = .ok (.iload_n 1, 1) := by decide +kernel
theorem dX11_isChild_1 : decode cX11_isChild 1 = .ok (.iconst 0, 1) := by decide +kernel
theorem dX11_isChild_2 : decode cX11_isChild 2 = .ok (.aload_n 0, 1) := by decide +kernel
theorem dX11_isChild_3 : decode cX11_isChild 3 = .ok (.getfield 10, 3) := by decide +kernel
theorem dX11_isChild_6 : decode cX11_isChild 6 = .ok (.getfield 65, 3) := by decide +kernel
theorem dX11_isChild_9 : decode cX11_isChild 9 = .ok (.iconst 1, 1) := by decide +kernel
theorem dX11_isChild_10 : decode cX11_isChild 10 = .ok (.isub, 1) := by decide +kernel
theorem dX11_isChild_11 : decode cX11_isChild 11 = .ok (.invokestatic 57, 3) := by decide +kernel
theorem dX11_isChild_14 : decode cX11_isChild 14 = .ok (.ireturn, 1) := by decide +kernel
theorem dX11_isCell_0 : decode cX11_isCell 0 = .ok (.iload_n 0, 1) := by decide +kernel
theorem dX11_isCell_1 : decode cX11_isCell 1 = .ok (.iconst 0, 1) := by decide +kernel
theorem dX11_isCell_2 : decode cX11_isCell 2 = .ok (.bipush 47, 2) := by decide +kernel
theorem dX11_isCell_4 : decode cX11_isCell 4 = .ok (.invokestatic 57, 3) := by decide +kernel
theorem dX11_isCell_7 : decode cX11_isCell 7 = .ok (.ireturn, 1) := by decide +kernel
theorem dX11_isMinute_0 : decode cX11_isMinute 0 = .ok (.iload_n 0, 1) := by decide +kernel
theorem dX11_isMinute_1 : decode cX11_isMinute 1 = .ok (.iconst 0, 1) := by decide +kernel
theorem dX11_isMinute_2 : decode cX11_isMinute 2 = .ok (.bipush 59, 2) := by decide +kernel
theorem dX11_isMinute_4 : decode cX11_isMinute 4 = .ok (.invokestatic 57, 3) := by decide +kernel
theorem dX11_isMinute_7 : decode cX11_isMinute 7 = .ok (.ireturn, 1) := by decide +kernel
theorem dX11_isZeroOrOne_0 : decode cX11_isZeroOrOne 0 = .ok (.iload_n 0, 1) := by decide +kernel
theorem dX11_isZeroOrOne_1 : decode cX11_isZeroOrOne 1 = .ok (.iconst 0, 1) := by decide +kernel
theorem dX11_isZeroOrOne_2 : decode cX11_isZeroOrOne 2 = .ok (.iconst 1, 1) := by decide +kernel
theorem dX11_isZeroOrOne_3 : decode cX11_isZeroOrOne 3 = .ok (.invokestatic 57, 3) := by decide +kernel
theorem dX11_isZeroOrOne_6 : decode cX11_isZeroOrOne 6 = .ok (.ireturn, 1) := by decide +kernel
theorem dX11_within_0 : decode cX11_within 0 = .ok (.iload_n 0, 1) := by decide +kernel
theorem dX11_within_1 : decode cX11_within 1 = .ok (.iload_n 1, 1) := by decide +kernel
theorem dX11_within_2 : decode cX11_within 2 = .ok (.if_icmp .lt 12, 3) := by decide +kernel
theorem dX11_within_5 : decode cX11_within 5 = .ok (.iload_n 0, 1) := by decide +kernel
theorem dX11_within_6 : decode cX11_within 6 = .ok (.iload_n 2, 1) := by decide +kernel
theorem dX11_within_7 : decode cX11_within 7 = .ok (.if_icmp .gt 7, 3) := by decide +kernel
theorem dX11_within_10 : decode cX11_within 10 = .ok (.iconst 1, 1) := by decide +kernel
theorem dX11_within_11 : decode cX11_within 11 = .ok (.goto 4, 3) := by decide +kernel
theorem dX11_within_14 : decode cX11_within 14 = .ok (.iconst 0, 1) := by decide +kernel
theorem dX11_within_15 : decode cX11_within 15 = .ok (.ireturn, 1) := by decide +kernel
theorem dX11_noneIfNever_0 : decode cX11_noneIfNever 0 = .ok (.iload_n 0, 1) := by decide +kernel
theorem dX11_noneIfNever_1 : decode cX11_noneIfNever 1 = .ok (.bipush 61, 2) := by decide +kernel
theorem dX11_noneIfNever_3 : decode cX11_noneIfNever 3 = .ok (.if_icmp .ne 7, 3) := by decide +kernel
theorem dX11_noneIfNever_6 : decode cX11_noneIfNever 6 = .ok (.iconst (-1), 1) := by decide +kernel
theorem dX11_noneIfNever_7 : decode cX11_noneIfNever 7 = .ok (.goto 4, 3) := by decide +kernel
theorem dX11_noneIfNever_10 : decode cX11_noneIfNever 10 = .ok (.iload_n 0, 1) := by decide +kernel
theorem dX11_noneIfNever_11 : decode cX11_noneIfNever 11 = .ok (.ireturn, 1) := by decide +kernel
theorem dX12_init_0 : decode cX12_init 0 = .ok (.aload_n 0, 1) := by decide +kernel
theorem dX12_init_1 : decode cX12_init 1 = .ok (.invokespecial 1, 3) := by decide +kernel
theorem dX12_init_4 : decode cX12_init 4 = .ok (.aload_n 0, 1) := by decide +kernel
theorem dX12_init_5 : decode cX12_init 5 = .ok (.sipush 170, 3) := by decide +kernel
theorem dX12_init_8 : decode cX12_init 8 = .ok (.newarray .int, 2) := by decide +kernel
theorem dX12_init_10 : decode cX12_init 10 = .ok (.putfield 7, 3) := by decide +kernel
theorem dX12_init_13 : decode cX12_init 13 = .ok (.aload_n 0, 1) := by decide +kernel
