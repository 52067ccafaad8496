theorem dX5_remainder_9 : decode cX5_remainder 9 = .ok (.istore_n 2, 1) := by decide +kernel
theorem dX5_remainder_10 : decode cX5_remainder 10 = .ok (.iload_n 2, 1) := by decide +kernel
theorem dX5_remainder_11 : decode cX5_remainder 11 = .ok (.ifCond .ge 9, 3) := by decide +kernel
theorem dX5_remainder_14 : decode cX5_remainder 14 = .ok (.iload_n 2, 1) := by decide +kernel
theorem dX5_remainder_15 : decode cX5_remainder 15 = .ok (.iload_n 1, 1) := by decide +kernel
theorem dX5_remainder_16 : decode cX5_remainder 16 = .ok (.iadd, 1) := by decide +kernel
theorem dX5_remainder_17 : decode cX5_remainder 17 = .ok (.goto 4, 3) := by decide +kernel
theorem dX5_remainder_20 : decode cX5_remainder 20 = .ok (.iload_n 2, 1) := by decide +kernel
theorem dX5_remainder_21 : decode cX5_remainder 21 = .ok (.ireturn, 1) := by decide +kernel
theorem dX5_distance_0 : decode cX5_distance 0 = .ok (.iload_n 0, 1) := by decide +kernel
theorem dX5_distance_1 : decode cX5_distance 1 = .ok (.iload_n 1, 1) := by decide +kernel
theorem dX5_distance_2 : decode cX5_distance 2 = .ok (.isub, 1) := by decide +kernel
theorem dX5_distance_3 : decode cX5_distance 3 = .ok (.iload_n 2, 1) := by decide +kernel
theorem dX5_distance_4 : decode cX5_distance 4 = .ok (.invokestatic 168, 3) := by decide +kernel
theorem dX5_distance_7 : decode cX5_distance 7 = .ok (.iload_n 1, 1) := by decide +kernel
theorem dX5_distance_8 : decode cX5_distance 8 = .ok (.iload_n 0, 1) := by decide +kernel
theorem dX5_distance_9 : decode cX5_distance 9 = .ok (.isub, 1) := by decide +kernel
theorem dX5_distance_10 : decode cX5_distance 10 = .ok (.iload_n 2, 1) := by decide +kernel
theorem dX5_distance_11 : decode cX5_distance 11 = .ok (.invokestatic 168, 3) := by decide +kernel
theorem dX5_distance_14 : decode cX5_distance 14 = .ok (.invokestatic 239, 3) := by decide +kernel
theorem dX5_distance_17 : decode cX5_distance 17 = .ok (.ireturn, 1) := by decide +kernel
theorem dX5_deviation_0 : decode cX5_deviation 0 = .ok (.iload_n 0, 1) := by decide +kernel
theorem dX5_deviation_1 : decode cX5_deviation 1 = .ok (.iload_n 1, 1) := by decide +kernel
theorem dX5_deviation_2 : decode cX5_deviation 2 = .ok (.getstatic 165, 3) := by decide +kernel
theorem dX5_deviation_5 : decode cX5_deviation 5 = .ok (.iconst 0, 1) := by decide +kernel
theorem dX5_deviation_6 : decode cX5_deviation 6 = .ok (.invokestatic 124, 3) := by decide +kernel
theorem dX5_deviation_9 : decode cX5_deviation 9 = .ok (.invokestatic 214, 3) := by decide +kernel
theorem dX5_deviation_12 : decode cX5_deviation 12 = .ok (.istore 4, 2) := by decide +kernel
theorem dX5_deviation_14 : decode cX5_deviation 14 = .ok (.iload_n 0, 1) := by decide +kernel
theorem dX5_deviation_15 : decode cX5_deviation 15 = .ok (.iload_n 2, 1) := by decide +kernel
theorem dX5_deviation_16 : decode cX5_deviation 16 = .ok (.getstatic 165, 3) := by decide +kernel
theorem dX5_deviation_19 : decode cX5_deviation 19 = .ok (.iconst 1, 1) := by decide +kernel
theorem dX5_deviation_20 : decode cX5_deviation 20 = .ok (.invokestatic 124, 3) := by decide +kernel
theorem dX5_deviation_23 : decode cX5_deviation 23 = .ok (.invokestatic 214, 3) := by decide +kernel
theorem dX5_deviation_26 : decode cX5_deviation 26 = .ok (.istore 5, 2) := by decide +kernel
theorem dX5_deviation_28 : decode cX5_deviation 28 = .ok (.iload_n 0, 1) := by decide +kernel
theorem dX5_deviation_29 : decode cX5_deviation 29 = .ok (.iload_n 3, 1) := by decide +kernel
theorem dX5_deviation_30 : decode cX5_deviation 30 = .ok (.getstatic 165, 3) := by decide +kernel
theorem dX5_deviation_33 : decode cX5_deviation 33 = .ok (.iconst 2, 1) := by decide +kernel
theorem dX5_deviation_34 : decode cX5_deviation 34 = .ok (.invokestatic 124, 3) := by decide +kernel
theorem dX5_deviation_37 : decode cX5_deviation 37 = .ok (.invokestatic 214, 3) := by decide +kernel
theorem dX5_deviation_40 : decode cX5_deviation 40 = .ok (.istore 6, 2) := by decide +kernel
theorem dX5_deviation_42 : decode cX5_deviation 42 = .ok (.iload 4, 2) := by decide +kernel
theorem dX5_deviation_44 : decode cX5_deviation 44 = .ok (.iload 5, 2) := by decide +kernel
theorem dX5_deviation_46 : decode cX5_deviation 46 = .ok (.iload 6, 2) := by decide +kernel
theorem dX5_deviation_48 : decode cX5_deviation 48 = .ok (.invokestatic 196, 3) := by decide +kernel
theorem dX5_deviation_51 : decode cX5_deviation 51 = .ok (.invokestatic 196, 3) := by decide +kernel
theorem dX5_deviation_54 : decode cX5_deviation 54 = .ok (.ireturn, 1) := by decide +kernel
theorem dX5_nearestAngle_0 : decode cX5_nearestAngle 0 = .ok (.iconst 0, 1) := by decide +kernel
theorem dX5_nearestAngle_1 : decode cX5_nearestAngle 1 = .ok (.istore_n 3, 1) := by decide +kernel
theorem dX5_nearestAngle_2 : decode cX5_nearestAngle 2 = .ok (.iconst 0, 1) := by decide +kernel
theorem dX5_nearestAngle_3 : decode cX5_nearestAngle 3 = .ok (.iload_n 0, 1) := by decide +kernel
theorem dX5_nearestAngle_4 : decode cX5_nearestAngle 4 = .ok (.iload_n 1, 1) := by decide +kernel
theorem dX5_nearestAngle_5 : decode cX5_nearestAngle 5 = .ok (.iload_n 2, 1) := by decide +kernel
theorem dX5_nearestAngle_6 : decode cX5_nearestAngle 6 = .ok (.invokestatic 161, 3) := by decide +kernel
theorem dX5_nearestAngle_9 : decode cX5_nearestAngle 9 = .ok (.istore 4, 2) := by decide +kernel
theorem dX5_nearestAngle_11 : decode cX5_nearestAngle 11 = .ok (.iconst 1, 1) := by decide +kernel
theorem dX5_nearestAngle_12 : decode cX5_nearestAngle 12 = .ok (.istore 5, 2) := by decide +kernel
theorem dX5_nearestAngle_14 : decode cX5_nearestAngle 14 = .ok (.iload 5, 2) := by decide +kernel
theorem dX5_nearestAngle_16 : decode cX5_nearestAngle 16 = .ok (.sipush 4080, 3) := by decide +kernel
theorem dX5_nearestAngle_19 : decode cX5_nearestAngle 19 = .ok (.if_icmp .ge 51, 3) := by decide +kernel
theorem dX5_nearestAngle_22 : decode cX5_nearestAngle 22 = .ok (.iload 4, 2) := by decide +kernel
theorem dX5_nearestAngle_24 : decode cX5_nearestAngle 24 = .ok (.ifCond .le 46, 3) := by decide +kernel
theorem dX5_nearestAngle_27 : decode cX5_nearestAngle 27 = .ok (.iload 5, 2) := by decide +kernel
theorem dX5_nearestAngle_29 : decode cX5_nearestAngle 29 = .ok (.iload_n 0, 1) := by decide +kernel
theorem dX5_nearestAngle_30 : decode cX5_nearestAngle 30 = .ok (.iload_n 1, 1) := by decide +kernel
theorem dX5_nearestAngle_31 : decode cX5_nearestAngle 31 = .ok (.iload_n 2, 1) := by decide +kernel
theorem dX5_nearestAngle_32 : decode cX5_nearestAngle 32 = .ok (.invokestatic 161, 3) := by decide +kernel
theorem dX5_nearestAngle_35 : decode cX5_nearestAngle 35 = .ok (.istore 6, 2) := by decide +kernel
theorem dX5_nearestAngle_37 : decode cX5_nearestAngle 37 = .ok (.iload 6, 2) := by decide +kernel
theorem dX5_nearestAngle_39 : decode cX5_nearestAngle 39 = .ok (.iload 4, 2) := by decide +kernel
theorem dX5_nearestAngle_41 : decode cX5_nearestAngle 41 = .ok (.if_icmp .ge 10, 3) := by decide +kernel
theorem dX5_nearestAngle_44 : decode cX5_nearestAngle 44 = .ok (.iload 5, 2) := by decide +kernel
theorem dX5_nearestAngle_46 : decode cX5_nearestAngle 46 = .ok (.istore_n 3, 1) := by decide +kernel
theorem dX5_nearestAngle_47 : decode cX5_nearestAngle 47 = .ok (.iload 6, 2) := by decide +kernel
theorem dX5_nearestAngle_49 : decode cX5_nearestAngle 49 = .ok (.istore 4, 2) := by decide +kernel
theorem dX5_nearestAngle_51 : decode cX5_nearestAngle 51 = .ok (.iload 5, 2) := by decide +kernel
theorem dX5_nearestAngle_53 : decode cX5_nearestAngle 53 = .ok (.iconst 1, 1) := by decide +kernel
theorem dX5_nearestAngle_54 : decode cX5_nearestAngle 54 = .ok (.iload 6, 2) := by decide +kernel
theorem dX5_nearestAngle_56 : decode cX5_nearestAngle 56 = .ok (.iload 4, 2) := by decide +kernel
theorem dX5_nearestAngle_58 : decode cX5_nearestAngle 58 = .ok (.isub, 1) := by decide +kernel
theorem dX5_nearestAngle_59 : decode cX5_nearestAngle 59 = .ok (.iconst 1, 1) := by decide +kernel
theorem dX5_nearestAngle_60 : decode cX5_nearestAngle 60 = .ok (.iadd, 1) := by decide +kernel
theorem dX5_nearestAngle_61 : decode cX5_nearestAngle 61 = .ok (.invokestatic 196, 3) := by decide +kernel
theorem dX5_nearestAngle_64 : decode cX5_nearestAngle 64 = .ok (.iadd, 1) := by decide +kernel
theorem dX5_nearestAngle_65 : decode cX5_nearestAngle 65 = .ok (.istore 5, 2) := by decide +kernel
theorem dX5_nearestAngle_67 : decode cX5_nearestAngle 67 = .ok (.goto (-53), 3) := by decide +kernel
theorem dX5_nearestAngle_70 : decode cX5_nearestAngle 70 = .ok (.iload_n 3, 1) := by decide +kernel
theorem dX5_nearestAngle_71 : decode cX5_nearestAngle 71 = .ok (.ireturn, 1) := by decide +kernel
theorem dX6_init_0 : decode cX6_init 0 = .ok (.aload_n 0, 1) := by decide +kernel
theorem dX6_init_1 : decode cX6_init 1 = .ok (.invokespecial 1, 3) := by decide +kernel
theorem dX6_init_4 : decode cX6_init 4 = .ok (.aload_n 0, 1) := by decide +kernel
theorem dX6_init_5 : decode cX6_init 5 = .ok (.bipush 62, 2) := by decide +kernel
theorem dX6_init_7 : decode cX6_init 7 = .ok (.newarray .int, 2) := by decide +kernel
theorem dX6_init_9 : decode cX6_init 9 = .ok (.putfield 7, 3) := by decide +kernel
theorem dX6_init_12 : decode cX6_init 12 = .ok (.aload_n 0, 1) := by decide +kernel
theorem dX6_init_13 : decode cX6_init 13 = .ok (.sipush 248, 3) := by decide +kernel
theorem dX6_init_16 : decode cX6_init 16 = .ok (.newarray .int, 2) := by decide +kernel
theorem dX6_init_18 : decode cX6_init 18 = .ok (.putfield 13, 3) := by decide +kernel
theorem dX6_init_21 : decode cX6_init 21 = .ok (.aload_n 0, 1) := by decide +kernel
theorem dX6_init_22 : decode cX6_init 22 = .ok (.bipush 60, 2) := by decide +kernel
theorem dX6_init_24 : decode cX6_init 24 = .ok (.newarray .int, 2) := by decide +kernel
theorem dX6_init_26 : decode cX6_init 26 = .ok (.putfield 16, 3) := by decide +kernel
theorem dX6_init_29 : decode cX6_init 29 = .ok (.aload_n 0, 1) := by decide +kernel
theorem dX6_init_30 : decode cX6_init 30 = .ok (.iconst 3, 1) := by decide +kernel
theorem dX6_init_31 : decode cX6_init 31 = .ok (.newarray .int, 2) := by decide +kernel
theorem dX6_init_33 : decode cX6_init 33 = .ok (.putfield 19, 3) := by decide +kernel
theorem dX6_init_36 : decode cX6_init 36 = .ok (.aload_n 0, 1) := by decide +kernel
theorem dX6_init_37 : decode cX6_init 37 = .ok (.bipush 30, 2) := by decide +kernel
theorem dX6_init_39 : decode cX6_init 39 = .ok (.newarray .int, 2) := by decide +kernel
theorem dX6_init_41 : decode cX6_init 41 = .ok (.putfield 22, 3) := by decide +kernel
theorem dX6_init_44 : decode cX6_init 44 = .ok (.aload_n 0, 1) := by decide +kernel
theorem dX6_init_45 : decode cX6_init 45 = .ok (.bipush 30, 2) := by decide +kernel
theorem dX6_init_47 : decode cX6_init 47 = .ok (.newarray .int, 2) := by decide +kernel
theorem dX6_init_49 : decode cX6_init 49 = .ok (.putfield 25, 3) := by decide +kernel
theorem dX6_init_52 : decode cX6_init 52 = .ok (.aload_n 0, 1) := by decide +kernel
theorem dX6_init_53 : decode cX6_init 53 = .ok (.getfield 7, 3) := by decide +kernel
theorem dX6_init_56 : decode cX6_init 56 = .ok (.iconst 1, 1) := by decide +kernel
theorem dX6_init_57 : decode cX6_init 57 = .ok (.iconst 1, 1) := by decide +kernel
theorem dX6_init_58 : decode cX6_init 58 = .ok (.iastore, 1) := by decide +kernel
theorem dX6_init_59 : decode cX6_init 59 = .ok (.aload_n 0, 1) := by decide +kernel
theorem dX6_init_60 : decode cX6_init 60 = .ok (.getfield 7, 3) := by decide +kernel
theorem dX6_init_63 : decode cX6_init 63 = .ok (.iconst 3, 1) := by decide +kernel
theorem dX6_init_64 : decode cX6_init 64 = .ok (.sipush 200, 3) := by decide +kernel
theorem dX6_init_67 : decode cX6_init 67 = .ok (.iastore, 1) := by decide +kernel
theorem dX6_init_68 : decode cX6_init 68 = .ok (.aload_n 0, 1) := by decide +kernel
theorem dX6_init_69 : decode cX6_init 69 = .ok (.getfield 7, 3) := by decide +kernel
theorem dX6_init_72 : decode cX6_init 72 = .ok (.iconst 5, 1) := by decide +kernel
theorem dX6_init_73 : decode cX6_init 73 = .ok (.iconst (-1), 1) := by decide +kernel
theorem dX6_init_74 : decode cX6_init 74 = .ok (.iastore, 1) := by decide +kernel
theorem dX6_init_75 : decode cX6_init 75 = .ok (.aload_n 0, 1) := by decide +kernel
theorem dX6_init_76 : decode cX6_init 76 = .ok (.getfield 7, 3) := by decide +kernel
theorem dX6_init_79 : decode cX6_init 79 = .ok (.bipush 7, 2) := by decide +kernel
theorem dX6_init_81 : decode cX6_init 81 = .ok (.iconst 5, 1) := by decide +kernel
theorem dX6_init_82 : decode cX6_init 82 = .ok (.iastore, 1) := by decide +kernel
theorem dX6_init_83 : decode cX6_init 83 = .ok (.aload_n 0, 1) := by decide +kernel
theorem dX6_init_84 : decode cX6_init 84 = .ok (.getfield 7, 3) := by decide +kernel
theorem dX6_init_87 : decode cX6_init 87 = .ok (.bipush 8, 2) := by decide +kernel
theorem dX6_init_89 : decode cX6_init 89 = .ok (.iconst 2, 1) := by decide +kernel
theorem dX6_init_90 : decode cX6_init 90 = .ok (.iastore, 1) := by decide +kernel
theorem dX6_init_91 : decode cX6_init 91 = .ok (.aload_n 0, 1) := by decide +kernel
theorem dX6_init_92 : decode cX6_init 92 = .ok (.getfield 7, 3) := by decide +kernel
theorem dX6_init_95 : decode cX6_init 95 = .ok (.bipush 9, 2) := by decide +kernel
theorem dX6_init_97 : decode cX6_init 97 = .ok (.sipush 500, 3) := by decide +kernel
theorem dX6_init_100 : decode cX6_init 100 = .ok (.iastore, 1) := by decide +kernel
theorem dX6_init_101 : decode cX6_init 101 = .ok (.return_, 1) := by decide +kernel
theorem dX6_in_0 : decode cX6_in 0 = .ok (.iload_n 0, 1) := by decide +kernel
theorem dX6_in_1 : decode cX6_in 1 = .ok (.iload_n 1, 1) := by decide +kernel
theorem dX6_in_2 : decode cX6_in 2 = .ok (.if_icmp .lt 12, 3) := by decide +kernel
theorem dX6_in_5 : decode cX6_in 5 = .ok (.iload_n 0, 1) := by decide +kernel
theorem dX6_in_6 : decode cX6_in 6 = .ok (.iload_n 2, 1) := by decide +kernel
theorem dX6_in_7 : decode cX6_in 7 = .ok (.if_icmp .gt 7, 3) := by decide +kernel
theorem dX6_in_10 : decode cX6_in 10 = .ok (.iconst 1, 1) := by decide +kernel
theorem dX6_in_11 : decode cX6_in 11 = .ok (.goto 4, 3) := by decide +kernel
theorem dX6_in_14 : decode cX6_in 14 = .ok (.iconst 0, 1) := by decide +kernel
theorem dX6_in_15 : decode cX6_in 15 = .ok (.ireturn, 1) := by decide +kernel
theorem dX6_rest_0 : decode cX6_rest 0 = .ok (.iload_n 0, 1) := by decide +kernel
theorem dX6_rest_1 : decode cX6_rest 1 = .ok (.iload_n 1, 1) := by decide +kernel
theorem dX6_rest_2 : decode cX6_rest 2 = .ok (.irem, 1) := by decide +kernel
theorem dX6_rest_3 : decode cX6_rest 3 = .ok (.istore_n 2, 1) := by decide +kernel
theorem dX6_rest_4 : decode cX6_rest 4 = .ok (.iload_n 2, 1) := by decide +kernel
theorem dX6_rest_5 : decode cX6_rest 5 = .ok (.ifCond .ge 9, 3) := by decide +kernel
theorem dX6_rest_8 : decode cX6_rest 8 = .ok (.iload_n 2, 1) := by decide +kernel
theorem dX6_rest_9 : decode cX6_rest 9 = .ok (.iload_n 1, 1) := by decide +kernel
theorem dX6_rest_10 : decode cX6_rest 10 = .ok (.iadd, 1) := by decide +kernel
theorem dX6_rest_11 : decode cX6_rest 11 = .ok (.goto 4, 3) := by decide +kernel
theorem dX6_rest_14 : decode cX6_rest 14 = .ok (.iload_n 2, 1) := by decide +kernel
theorem dX6_rest_15 : decode cX6_rest 15 = .ok (.ireturn, 1) := by decide +kernel
theorem dX6_off_0 : decode cX6_off 0 = .ok (.iload_n 0, 1) := by decide +kernel
theorem dX6_off_1 : decode cX6_off 1 = .ok (.iload_n 1, 1) := by decide +kernel
theorem dX6_off_2 : decode cX6_off 2 = .ok (.isub, 1) := by decide +kernel
theorem dX6_off_3 : decode cX6_off 3 = .ok (.iload_n 2, 1) := by decide +kernel
theorem dX6_off_4 : decode cX6_off 4 = .ok (.invokestatic 28, 3) := by decide +kernel
theorem dX6_off_7 : decode cX6_off 7 = .ok (.istore_n 3, 1) := by decide +kernel
theorem dX6_off_8 : decode cX6_off 8 = .ok (.iload_n 3, 1) := by decide +kernel
theorem dX6_off_9 : decode cX6_off 9 = .ok (.iload_n 2, 1) := by decide +kernel
theorem dX6_off_10 : decode cX6_off 10 = .ok (.iload_n 3, 1) := by decide +kernel
theorem dX6_off_11 : decode cX6_off 11 = .ok (.isub, 1) := by decide +kernel
theorem dX6_off_12 : decode cX6_off 12 = .ok (.if_icmp .le 9, 3) := by decide +kernel
theorem dX6_off_15 : decode cX6_off 15 = .ok (.iload_n 2, 1) := by decide +kernel
theorem dX6_off_16 : decode cX6_off 16 = .ok (.iload_n 3, 1) := by decide +kernel
theorem dX6_off_17 : decode cX6_off 17 = .ok (.isub, 1) := by decide +kernel
theorem dX6_off_18 : decode cX6_off 18 = .ok (.goto 4, 3) := by decide +kernel
theorem dX6_off_21 : decode cX6_off 21 = .ok (.iload_n 3, 1) := by decide +kernel
theorem dX6_off_22 : decode cX6_off 22 = .ok (.ireturn, 1) := by decide +kernel
theorem dX6_lengthOf_0 : decode cX6_lengthOf 0 = .ok (.iload_n 0, 1) := by decide +kernel
theorem dX6_lengthOf_1 : decode cX6_lengthOf 1 = .ok (.ifCond .ne 9, 3) := by decide +kernel
theorem dX6_lengthOf_4 : decode cX6_lengthOf 4 = .ok (.sipush 272, 3) := by decide +kernel
theorem dX6_lengthOf_7 : decode cX6_lengthOf 7 = .ok (.goto 17, 3) := by decide +kernel
theorem dX6_lengthOf_10 : decode cX6_lengthOf 10 = .ok (.iload_n 0, 1) := by decide +kernel
theorem dX6_lengthOf_11 : decode cX6_lengthOf 11 = .ok (.iconst 1, 1) := by decide +kernel
theorem dX6_lengthOf_12 : decode cX6_lengthOf 12 = .ok (.if_icmp .ne 9, 3) := by decide +kernel
theorem dX6_lengthOf_15 : decode cX6_lengthOf 15 = .ok (.sipush 255, 3) := by decide +kernel
theorem dX6_lengthOf_18 : decode cX6_lengthOf 18 = .ok (.goto 6, 3) := by decide +kernel
theorem dX6_lengthOf_21 : decode cX6_lengthOf 21 = .ok (.sipush 240, 3) := by decide +kernel
theorem dX6_lengthOf_24 : decode cX6_lengthOf 24 = .ok (.ireturn, 1) := by decide +kernel
theorem dX6_isTrack_0 : decode cX6_isTrack 0 = .ok (.iload_n 0, 1) := by decide +kernel
theorem dX6_isTrack_1 : decode cX6_isTrack 1 = .ok (.iconst 0, 1) := by decide +kernel
theorem dX6_isTrack_2 : decode cX6_isTrack 2 = .ok (.iconst 2, 1) := by decide +kernel
theorem dX6_isTrack_3 : decode cX6_isTrack 3 = .ok (.invokestatic 32, 3) := by decide +kernel
theorem dX6_isTrack_6 : decode cX6_isTrack 6 = .ok (.ireturn, 1) := by decide +kernel
theorem dX6_isCell_0 : decode cX6_isCell 0 = .ok (.iload_n 0, 1) := by decide +kernel
theorem dX6_isCell_1 : decode cX6_isCell 1 = .ok (.invokestatic 36, 3) := by decide +kernel
theorem dX6_isCell_4 : decode cX6_isCell 4 = .ok (.ifCond .eq 17, 3) := by decide +kernel
theorem dX6_isCell_7 : decode cX6_isCell 7 = .ok (.iload_n 1, 1) := by decide +kernel
theorem dX6_isCell_8 : decode cX6_isCell 8 = .ok (.iconst 0, 1) := by decide +kernel
theorem dX6_isCell_9 : decode cX6_isCell 9 = .ok (.bipush 7, 2) := by decide +kernel
theorem dX6_isCell_11 : decode cX6_isCell 11 = .ok (.invokestatic 32, 3) := by decide +kernel
theorem dX6_isCell_14 : decode cX6_isCell 14 = .ok (.ifCond .eq 7, 3) := by decide +kernel
theorem dX6_isCell_17 : decode cX6_isCell 17 = .ok (.iconst 1, 1) := by decide +kernel
theorem dX6_isCell_18 : decode cX6_isCell 18 = .ok (.goto 4, 3) := by decide +kernel
theorem dX6_isCell_21 : decode cX6_isCell 21 = .ok (.iconst 0, 1) := by decide +kernel
theorem dX6_isCell_22 : decode cX6_isCell 22 = .ok (.ireturn, 1) := by decide +kernel
theorem dX6_saves_0 : decode cX6_saves 0 = .ok (.aload_n 0, 1) := by decide +kernel
theorem dX6_saves_1 : decode cX6_saves 1 = .ok (.getfield 40, 3) := by decide +kernel
theorem dX6_saves_4 : decode cX6_saves 4 = .ok (.iconst 4, 1) := by decide +kernel
theorem dX6_saves_5 : decode cX6_saves 5 = .ok (.if_icmp .ne 43, 3) := by decide +kernel
theorem dX6_saves_8 : decode cX6_saves 8 = .ok (.iconst 0, 1) := by decide +kernel
theorem dX6_saves_9 : decode cX6_saves 9 = .ok (.istore_n 1, 1) := by decide +kernel
theorem dX6_saves_10 : decode cX6_saves 10 = .ok (.iload_n 1, 1) := by decide +kernel
theorem dX6_saves_11 : decode cX6_saves 11 = .ok (.sipush 186, 3) := by decide +kernel
theorem dX6_saves_14 : decode cX6_saves 14 = .ok (.if_icmp .ge 24, 3) := by decide +kernel
theorem dX6_saves_17 : decode cX6_saves 17 = .ok (.aload_n 0, 1) := by decide +kernel
theorem dX6_saves_18 : decode cX6_saves 18 = .ok (.getfield 13, 3) := by decide +kernel
theorem dX6_saves_21 : decode cX6_saves 21 = .ok (.iload_n 1, 1) := by decide +kernel
theorem dX6_saves_22 : decode cX6_saves 22 = .ok (.aload_n 0, 1) := by decide +kernel
theorem dX6_saves_23 : decode cX6_saves 23 = .ok (.getfield 13, 3) := by decide +kernel
theorem dX6_saves_26 : decode cX6_saves 26 = .ok (.iload_n 1, 1) := by decide +kernel
theorem dX6_saves_27 : decode cX6_saves 27 = .ok (.bipush 62, 2) := by decide +kernel
theorem dX6_saves_29 : decode cX6_saves 29 = .ok (.iadd, 1) := by decide +kernel
theorem dX6_saves_30 : decode cX6_saves 30 = .ok (.iaload, 1) := by decide +kernel
theorem dX6_saves_31 : decode cX6_saves 31 = .ok (.iastore, 1) := by decide +kernel
theorem dX6_saves_32 : decode cX6_saves 32 = .ok (.iinc 1 1, 3) := by decide +kernel
theorem dX6_saves_35 : decode cX6_saves 35 = .ok (.goto (-25), 3) := by decide +kernel
theorem dX6_saves_38 : decode cX6_saves 38 = .ok (.aload_n 0, 1) := by decide +kernel
theorem dX6_saves_39 : decode cX6_saves 39 = .ok (.dup, 1) := by decide +kernel
theorem dX6_saves_40 : decode cX6_saves 40 = .ok (.getfield 40, 3) := by decide +kernel
theorem dX6_saves_43 : decode cX6_saves 43 = .ok (.iconst 1, 1) := by decide +kernel
theorem dX6_saves_44 : decode cX6_saves 44 = .ok (.isub, 1) := by decide +kernel
theorem dX6_saves_45 : decode cX6_saves 45 = .ok (.putfield 40, 3) := by decide +kernel
theorem dX6_saves_48 : decode cX6_saves 48 = .ok (.iconst 0, 1) := by decide +kernel
theorem dX6_saves_49 : decode cX6_saves 49 = .ok (.istore_n 1, 1) := by decide +kernel
theorem dX6_saves_50 : decode cX6_saves 50 = .ok (.iload_n 1, 1) := by decide +kernel
theorem dX6_saves_51 : decode cX6_saves 51 = .ok (.bipush 62, 2) := by decide +kernel
theorem dX6_saves_53 : decode cX6_saves 53 = .ok (.if_icmp .ge 29, 3) := by decide +kernel
theorem dX6_saves_56 : decode cX6_saves 56 = .ok (.aload_n 0, 1) := by decide +kernel
theorem dX6_saves_57 : decode cX6_saves 57 = .ok (.getfield 13, 3) := by decide +kernel
theorem dX6_saves_60 : decode cX6_saves 60 = .ok (.bipush 62, 2) := by decide +kernel
theorem dX6_saves_62 : decode cX6_saves 62 = .ok (.aload_n 0, 1) := by decide +kernel
theorem dX6_saves_63 : decode cX6_saves 63 = .ok (.getfield 40, 3) := by decide +kernel
theorem dX6_saves_66 : decode cX6_saves 66 = .ok (.imul, 1) := by decide +kernel
theorem dX6_saves_67 : decode cX6_saves 67 = .ok (.iload_n 1, 1) := by decide +kernel
theorem dX6_saves_68 : decode cX6_saves 68 = .ok (.iadd, 1) := by decide +kernel
theorem dX6_saves_69 : decode cX6_saves 69 = .ok (.aload_n 0, 1) := by decide +kernel
theorem dX6_saves_70 : decode cX6_saves 70 = .ok (.getfield 7, 3) := by decide +kernel
theorem dX6_saves_73 : decode cX6_saves 73 = .ok (.iload_n 1, 1) := by decide +kernel
theorem dX6_saves_74 : decode cX6_saves 74 = .ok (.iaload, 1) := by decide +kernel
theorem dX6_saves_75 : decode cX6_saves 75 = .ok (.iastore, 1) := by decide +kernel
theorem dX6_saves_76 : decode cX6_saves 76 = .ok (.iinc 1 1, 3) := by decide +kernel
theorem dX6_saves_79 : decode cX6_saves 79 = .ok (.goto (-29), 3) := by decide +kernel
theorem dX6_saves_82 : decode cX6_saves 82 = .ok (.aload_n 0, 1) := by decide +kernel
theorem dX6_saves_83 : decode cX6_saves 83 = .ok (.dup, 1) := by decide +kernel
theorem dX6_saves_84 : decode cX6_saves 84 = .ok (.getfield 40, 3) := by decide +kernel
theorem dX6_saves_87 : decode cX6_saves 87 = .ok (.iconst 1, 1) := by decide +kernel
theorem dX6_saves_88 : decode cX6_saves 88 = .ok (.iadd, 1) := by decide +kernel
theorem dX6_saves_89 : decode cX6_saves 89 = .ok (.putfield 40, 3) := by decide +kernel
theorem dX6_saves_92 : decode cX6_saves 92 = .ok (.return_, 1) := by decide +kernel
theorem dX6_puts_0 : decode cX6_puts 0 = .ok (.aload_n 0, 1) := by decide +kernel
theorem dX6_puts_1 : decode cX6_puts 1 = .ok (.invokevirtual 44, 3) := by decide +kernel
theorem dX6_puts_4 : decode cX6_puts 4 = .ok (.aload_n 0, 1) := by decide +kernel
theorem dX6_puts_5 : decode cX6_puts 5 = .ok (.getfield 7, 3) := by decide +kernel
theorem dX6_puts_8 : decode cX6_puts 8 = .ok (.iload_n 1, 1) := by decide +kernel
theorem dX6_puts_9 : decode cX6_puts 9 = .ok (.iaload, 1) := by decide +kernel
theorem dX6_puts_10 : decode cX6_puts 10 = .ok (.istore_n 3, 1) := by decide +kernel
theorem dX6_puts_11 : decode cX6_puts 11 = .ok (.aload_n 0, 1) := by decide +kernel
theorem dX6_puts_12 : decode cX6_puts 12 = .ok (.getfield 7, 3) := by decide +kernel
theorem dX6_puts_15 : decode cX6_puts 15 = .ok (.iload_n 1, 1) := by decide +kernel
theorem dX6_puts_16 : decode cX6_puts 16 = .ok (.iload_n 2, 1) := by decide +kernel
theorem dX6_puts_17 : decode cX6_puts 17 = .ok (.iastore, 1) := by decide +kernel
theorem dX6_puts_18 : decode cX6_puts 18 = .ok (.iload_n 3, 1) := by decide +kernel
theorem dX6_puts_19 : decode cX6_puts 19 = .ok (.ireturn, 1) := by decide +kernel
theorem dX6_undo_0 : decode cX6_undo 0 = .ok (.aload_n 0, 1) := by decide +kernel
theorem dX6_undo_1 : decode cX6_undo 1 = .ok (.getfield 40, 3) := by decide +kernel
theorem dX6_undo_4 : decode cX6_undo 4 = .ok (.ifCond .ne 6, 3) := by decide +kernel
theorem dX6_undo_7 : decode cX6_undo 7 = .ok (.bipush (-2), 2) := by decide +kernel
theorem dX6_undo_9 : decode cX6_undo 9 = .ok (.ireturn, 1) := by decide +kernel
theorem dX6_undo_10 : decode cX6_undo 10 = .ok (.aload_n 0, 1) := by decide +kernel
theorem dX6_undo_11 : decode cX6_undo 11 = .ok (.dup, 1) := by decide +kernel
theorem dX6_undo_12 : decode cX6_undo 12 = .ok (.getfield 40, 3) := by decide +kernel
theorem dX6_undo_15 : decode cX6_undo 15 = .ok (.iconst 1, 1) := by decide +kernel
theorem dX6_undo_16 : decode cX6_undo 16 = .ok (.isub, 1) := by decide +kernel
theorem dX6_undo_17 : decode cX6_undo 17 = .ok (.putfield 40, 3) := by decide +kernel
theorem dX6_undo_20 : decode cX6_undo 20 = .ok (.iconst 0, 1) := by decide +kernel
theorem dX6_undo_21 : decode cX6_undo 21 = .ok (.istore_n 1, 1) := by decide +kernel
theorem dX6_undo_22 : decode cX6_undo 22 = .ok (.iload_n 1, 1) := by decide +kernel
theorem dX6_undo_23 : decode cX6_undo 23 = .ok (.bipush 62, 2) := by decide +kernel
theorem dX6_undo_25 : decode cX6_undo 25 = .ok (.if_icmp .ge 29, 3) := by decide +kernel
theorem dX6_undo_28 : decode cX6_undo 28 = .ok (.aload_n 0, 1) := by decide +kernel
theorem dX6_undo_29 : decode cX6_undo 29 = .ok (.getfield 7, 3) := by decide +kernel
theorem dX6_undo_32 : decode cX6_undo 32 = .ok (.iload_n 1, 1) := by decide +kernel
theorem dX6_undo_33 : decode cX6_undo 33 = .ok (.aload_n 0, 1) := by decide +kernel
theorem dX6_undo_34 : decode cX6_undo 34 = .ok (.getfield 13, 3) := by decide +kernel
theorem dX6_undo_37 : decode cX6_undo 37 = .ok (.bipush 62, 2) := by decide +kernel
theorem dX6_undo_39 : decode cX6_undo 39 = .ok (.aload_n 0, 1) := by decide +kernel
theorem dX6_undo_40 : decode cX6_undo 40 = .ok (.getfield 40, 3) := by decide +kernel
theorem dX6_undo_43 : decode cX6_undo 43 = .ok (.imul, 1) := by decide +kernel
theorem dX6_undo_44 : decode cX6_undo 44 = .ok (.iload_n 1, 1) := by decide +kernel
theorem dX6_undo_45 : decode cX6_undo 45 = .ok (.iadd, 1) := by decide +kernel
theorem dX6_undo_46 : decode cX6_undo 46 = .ok (.iaload, 1) := by decide +kernel
theorem dX6_undo_47 : decode cX6_undo 47 = .ok (.iastore, 1) := by decide +kernel
theorem dX6_undo_48 : decode cX6_undo 48 = .ok (.iinc 1 1, 3) := by decide +kernel
theorem dX6_undo_51 : decode cX6_undo 51 = .ok (.goto (-29), 3) := by decide +kernel
theorem dX6_undo_54 : decode cX6_undo 54 = .ok (.aload_n 0, 1) := by decide +kernel
theorem dX6_undo_55 : decode cX6_undo 55 = .ok (.getfield 40, 3) := by decide +kernel
theorem dX6_undo_58 : decode cX6_undo 58 = .ok (.ireturn, 1) := by decide +kernel
theorem dX6_crosses_0 : decode cX6_crosses 0 = .ok (.iconst 1, 1) := by decide +kernel
theorem dX6_crosses_1 : decode cX6_crosses 1 = .ok (.istore_n 2, 1) := by decide +kernel
theorem dX6_crosses_2 : decode cX6_crosses 2 = .ok (.aload_n 0, 1) := by decide +kernel
theorem dX6_crosses_3 : decode cX6_crosses 3 = .ok (.getfield 7, 3) := by decide +kernel
theorem dX6_crosses_6 : decode cX6_crosses 6 = .ok (.iconst 1, 1) := by decide +kernel
theorem dX6_crosses_7 : decode cX6_crosses 7 = .ok (.iaload, 1) := by decide +kernel
theorem dX6_crosses_8 : decode cX6_crosses 8 = .ok (.ifCond .ne 82, 3) := by decide +kernel
theorem dX6_crosses_11 : decode cX6_crosses 11 = .ok (.aload_n 0, 1) := by decide +kernel
theorem dX6_crosses_12 : decode cX6_crosses 12 = .ok (.getfield 7, 3) := by decide +kernel
theorem dX6_crosses_15 : decode cX6_crosses 15 = .ok (.iconst 3, 1) := by decide +kernel
theorem dX6_crosses_16 : decode cX6_crosses 16 = .ok (.iaload, 1) := by decide +kernel
theorem dX6_crosses_17 : decode cX6_crosses 17 = .ok (.ifCond .le 16, 3) := by decide +kernel
theorem dX6_crosses_20 : decode cX6_crosses 20 = .ok (.aload_n 0, 1) := by decide +kernel
theorem dX6_crosses_21 : decode cX6_crosses 21 = .ok (.getfield 7, 3) := by decide +kernel
theorem dX6_crosses_24 : decode cX6_crosses 24 = .ok (.iconst 4, 1) := by decide +kernel
theorem dX6_crosses_25 : decode cX6_crosses 25 = .ok (.iaload, 1) := by decide +kernel
theorem dX6_crosses_26 : decode cX6_crosses 26 = .ok (.ifCond .ne 7, 3) := by decide +kernel
theorem dX6_crosses_29 : decode cX6_crosses 29 = .ok (.iconst 1, 1) := by decide +kernel
theorem dX6_crosses_30 : decode cX6_crosses 30 = .ok (.goto 4, 3) := by decide +kernel
theorem dX6_crosses_33 : decode cX6_crosses 33 = .ok (.iconst 0, 1) := by decide +kernel
theorem dX6_crosses_34 : decode cX6_crosses 34 = .ok (.istore_n 2, 1) := by decide +kernel
theorem dX6_crosses_35 : decode cX6_crosses 35 = .ok (.aload_n 0, 1) := by decide +kernel
theorem dX6_crosses_36 : decode cX6_crosses 36 = .ok (.getfield 7, 3) := by decide +kernel
theorem dX6_crosses_39 : decode cX6_crosses 39 = .ok (.iconst 4, 1) := by decide +kernel
theorem dX6_crosses_40 : decode cX6_crosses 40 = .ok (.dup2, 1) := by decide +kernel
theorem dX6_crosses_41 : decode cX6_crosses 41 = .ok (.iaload, 1) := by decide +kernel
theorem dX6_crosses_42 : decode cX6_crosses 42 = .ok (.aload_n 0, 1) := by decide +kernel
theorem dX6_crosses_43 : decode cX6_crosses 43 = .ok (.getfield 7, 3) := by decide +kernel
theorem dX6_crosses_46 : decode cX6_crosses 46 = .ok (.iconst 3, 1) := by decide +kernel
theorem dX6_crosses_47 : decode cX6_crosses 47 = .ok (.iaload, 1) := by decide +kernel
theorem dX6_crosses_48 : decode cX6_crosses 48 = .ok (.ifCond .le 16, 3) := by decide +kernel
theorem dX6_crosses_51 : decode cX6_crosses 51 = .ok (.aload_n 0, 1) := by decide +kernel
theorem dX6_crosses_52 : decode cX6_crosses 52 = .ok (.getfield 7, 3) := by decide +kernel
theorem dX6_crosses_55 : decode cX6_crosses 55 = .ok (.iconst 4, 1) := by decide +kernel
theorem dX6_crosses_56 : decode cX6_crosses 56 = .ok (.iaload, 1) := by decide +kernel
theorem dX6_crosses_57 : decode cX6_crosses 57 = .ok (.ifCond .le 7, 3) := by decide +kernel
theorem dX6_crosses_60 : decode cX6_crosses 60 = .ok (.iconst 1, 1) := by decide +kernel
theorem dX6_crosses_61 : decode cX6_crosses 61 = .ok (.goto 4, 3) := by decide +kernel
theorem dX6_crosses_64 : decode cX6_crosses 64 = .ok (.iconst 0, 1) := by decide +kernel
theorem dX6_crosses_65 : decode cX6_crosses 65 = .ok (.isub, 1) := by decide +kernel
theorem dX6_crosses_66 : decode cX6_crosses 66 = .ok (.iastore, 1) := by decide +kernel
theorem dX6_crosses_67 : decode cX6_crosses 67 = .ok (.aload_n 0, 1) := by decide +kernel
theorem dX6_crosses_68 : decode cX6_crosses 68 = .ok (.getfield 7, 3) := by decide +kernel
theorem dX6_crosses_71 : decode cX6_crosses 71 = .ok (.iconst 3, 1) := by decide +kernel
theorem dX6_crosses_72 : decode cX6_crosses 72 = .ok (.dup2, 1) := by decide +kernel
theorem dX6_crosses_73 : decode cX6_crosses 73 = .ok (.iaload, 1) := by decide +kernel
theorem dX6_crosses_74 : decode cX6_crosses 74 = .ok (.aload_n 0, 1) := by decide +kernel
theorem dX6_crosses_75 : decode cX6_crosses 75 = .ok (.getfield 7, 3) := by decide +kernel
theorem dX6_crosses_78 : decode cX6_crosses 78 = .ok (.iconst 3, 1) := by decide +kernel
theorem dX6_crosses_79 : decode cX6_crosses 79 = .ok (.iaload, 1) := by decide +kernel
theorem dX6_crosses_80 : decode cX6_crosses 80 = .ok (.ifCond .le 7, 3) := by decide +kernel
theorem dX6_crosses_83 : decode cX6_crosses 83 = .ok (.iconst 1, 1) := by decide +kernel
theorem dX6_crosses_84 : decode cX6_crosses 84 = .ok (.goto 4, 3) := by decide +kernel
theorem dX6_crosses_87 : decode cX6_crosses 87 = .ok (.iconst 0, 1) := by decide +kernel
theorem dX6_crosses_88 : decode cX6_crosses 88 = .ok (.isub, 1) := by decide +kernel
theorem dX6_crosses_89 : decode cX6_crosses 89 = .ok (.iastore, 1) := by decide +kernel
theorem dX6_crosses_90 : decode cX6_crosses 90 = .ok (.aload_n 0, 1) := by decide +kernel
theorem dX6_crosses_91 : decode cX6_crosses 91 = .ok (.getfield 7, 3) := by decide +kernel
theorem dX6_crosses_94 : decode cX6_crosses 94 = .ok (.iconst 2, 1) := by decide +kernel
theorem dX6_crosses_95 : decode cX6_crosses 95 = .ok (.aload_n 0, 1) := by decide +kernel
theorem dX6_crosses_96 : decode cX6_crosses 96 = .ok (.getfield 7, 3) := by decide +kernel
theorem dX6_crosses_99 : decode cX6_crosses 99 = .ok (.iconst 2, 1) := by decide +kernel
theorem dX6_crosses_100 : decode cX6_crosses 100 = .ok (.iaload, 1) := by decide +kernel
theorem dX6_crosses_101 : decode cX6_crosses 101 = .ok (.iload_n 2, 1) := by decide +kernel
theorem dX6_crosses_102 : decode cX6_crosses 102 = .ok (.ifCond .eq 7, 3) := by decide +kernel
theorem dX6_crosses_105 : decode cX6_crosses 105 = .ok (.iload_n 1, 1) := by decide +kernel
theorem dX6_crosses_106 : decode cX6_crosses 106 = .ok (.goto 4, 3) := by decide +kernel
theorem dX6_crosses_109 : decode cX6_crosses 109 = .ok (.iconst 0, 1) := by decide +kernel
theorem dX6_crosses_110 : decode cX6_crosses 110 = .ok (.iadd, 1) := by decide +kernel
theorem dX6_crosses_111 : decode cX6_crosses 111 = .ok (.bipush 64, 2) := by decide +kernel
theorem dX6_crosses_113 : decode cX6_crosses 113 = .ok (.invokestatic 28, 3) := by decide +kernel
theorem dX6_crosses_116 : decode cX6_crosses 116 = .ok (.iastore, 1) := by decide +kernel
theorem dX6_crosses_117 : decode cX6_crosses 117 = .ok (.return_, 1) := by decide +kernel
theorem dX6_turn_0 : decode cX6_turn 0 = .ok (.iload_n 1, 1) := by decide +kernel
theorem dX6_turn_1 : decode cX6_turn 1 = .ok (.sipush (-9999), 3) := by decide +kernel
theorem dX6_turn_4 : decode cX6_turn 4 = .ok (.sipush 9999, 3) := by decide +kernel
theorem dX6_turn_7 : decode cX6_turn 7 = .ok (.invokestatic 32, 3) := by decide +kernel
theorem dX6_turn_10 : decode cX6_turn 10 = .ok (.ifCond .ne 5, 3) := by decide +kernel
theorem dX6_turn_13 : decode cX6_turn 13 = .ok (.iconst (-1), 1) := by decide +kernel
theorem dX6_turn_14 : decode cX6_turn 14 = .ok (.ireturn, 1) := by decide +kernel
theorem dX6_turn_15 : decode cX6_turn 15 = .ok (.aload_n 0, 1) := by decide +kernel
theorem dX6_turn_16 : decode cX6_turn 16 = .ok (.getfield 7, 3) := by decide +kernel
theorem dX6_turn_19 : decode cX6_turn 19 = .ok (.iconst 0, 1) := by decide +kernel
theorem dX6_turn_20 : decode cX6_turn 20 = .ok (.iaload, 1) := by decide +kernel
theorem dX6_turn_21 : decode cX6_turn 21 = .ok (.iload_n 1, 1) := by decide +kernel
theorem dX6_turn_22 : decode cX6_turn 22 = .ok (.iadd, 1) := by decide +kernel
theorem dX6_turn_23 : decode cX6_turn 23 = .ok (.iconst 0, 1) := by decide +kernel
theorem dX6_turn_24 : decode cX6_turn 24 = .ok (.ldc 47, 2) := by decide +kernel
theorem dX6_turn_26 : decode cX6_turn 26 = .ok (.invokestatic 32, 3) := by decide +kernel
theorem dX6_turn_29 : decode cX6_turn 29 = .ok (.ifCond .ne 6, 3) := by decide +kernel
theorem dX6_turn_32 : decode cX6_turn 32 = .ok (.bipush (-2), 2) := by decide +kernel
theorem dX6_turn_34 : decode cX6_turn 34 = .ok (.ireturn, 1) := by decide +kernel
theorem dX6_turn_35 : decode cX6_turn 35 = .ok (.aload_n 0, 1) := by decide +kernel
theorem dX6_turn_36 : decode cX6_turn 36 = .ok (.invokevirtual 44, 3) := by decide +kernel
theorem dX6_turn_39 : decode cX6_turn 39 = .ok (.aload_n 0, 1) := by decide +kernel
theorem dX6_turn_40 : decode cX6_turn 40 = .ok (.getfield 7, 3) := by decide +kernel
theorem dX6_turn_43 : decode cX6_turn 43 = .ok (.iconst 0, 1) := by decide +kernel
theorem dX6_turn_44 : decode cX6_turn 44 = .ok (.iaload, 1) := by decide +kernel
theorem dX6_turn_45 : decode cX6_turn 45 = .ok (.sipush 1020, 3) := by decide +kernel
theorem dX6_turn_48 : decode cX6_turn 48 = .ok (.idiv, 1) := by decide +kernel
theorem dX6_turn_49 : decode cX6_turn 49 = .ok (.istore_n 2, 1) := by decide +kernel
theorem dX6_turn_50 : decode cX6_turn 50 = .ok (.aload_n 0, 1) := by decide +kernel
theorem dX6_turn_51 : decode cX6_turn 51 = .ok (.getfield 7, 3) := by decide +kernel
theorem dX6_turn_54 : decode cX6_turn 54 = .ok (.iconst 0, 1) := by decide +kernel
theorem dX6_turn_55 : decode cX6_turn 55 = .ok (.dup2, 1) := by decide +kernel
theorem dX6_turn_56 : decode cX6_turn 56 = .ok (.iaload, 1) := by decide +kernel
theorem dX6_turn_57 : decode cX6_turn 57 = .ok (.iload_n 1, 1) := by decide +kernel
theorem dX6_turn_58 : decode cX6_turn 58 = .ok (.iadd, 1) := by decide +kernel
theorem dX6_turn_59 : decode cX6_turn 59 = .ok (.iastore, 1) := by decide +kernel
theorem dX6_turn_60 : decode cX6_turn 60 = .ok (.iload_n 1, 1) := by decide +kernel
theorem dX6_turn_61 : decode cX6_turn 61 = .ok (.ifCond .le 7, 3) := by decide +kernel
theorem dX6_turn_64 : decode cX6_turn 64 = .ok (.iconst 1, 1) := by decide +kernel
theorem dX6_turn_65 : decode cX6_turn 65 = .ok (.goto 4, 3) := by decide +kernel
theorem dX6_turn_68 : decode cX6_turn 68 = .ok (.iconst (-1), 1) := by decide +kernel
theorem dX6_turn_69 : decode cX6_turn 69 = .ok (.istore_n 3, 1) := by decide +kernel
theorem dX6_turn_70 : decode cX6_turn 70 = .ok (.iload_n 2, 1) := by decide +kernel
theorem dX6_turn_71 : decode cX6_turn 71 = .ok (.aload_n 0, 1) := by decide +kernel
theorem dX6_turn_72 : decode cX6_turn 72 = .ok (.getfield 7, 3) := by decide +kernel
theorem dX6_turn_75 : decode cX6_turn 75 = .ok (.iconst 0, 1) := by decide +kernel
theorem dX6_turn_76 : decode cX6_turn 76 = .ok (.iaload, 1) := by decide +kernel
theorem dX6_turn_77 : decode cX6_turn 77 = .ok (.sipush 1020, 3) := by decide +kernel
theorem dX6_turn_80 : decode cX6_turn 80 = .ok (.idiv, 1) := by decide +kernel
theorem dX6_turn_81 : decode cX6_turn 81 = .ok (.if_icmp .eq 15, 3) := by decide +kernel
theorem dX6_turn_84 : decode cX6_turn 84 = .ok (.aload_n 0, 1) := by decide +kernel
theorem dX6_turn_85 : decode cX6_turn 85 = .ok (.iload_n 3, 1) := by decide +kernel
theorem dX6_turn_86 : decode cX6_turn 86 = .ok (.invokevirtual 48, 3) := by decide +kernel
theorem dX6_turn_89 : decode cX6_turn 89 = .ok (.iload_n 2, 1) := by decide +kernel
theorem dX6_turn_90 : decode cX6_turn 90 = .ok (.iload_n 3, 1) := by decide +kernel
theorem dX6_turn_91 : decode cX6_turn 91 = .ok (.iadd, 1) := by decide +kernel
theorem dX6_turn_92 : decode cX6_turn 92 = .ok (.istore_n 2, 1) := by decide +kernel
theorem dX6_turn_93 : decode cX6_turn 93 = .ok (.goto (-23), 3) := by decide +kernel
theorem dX6_turn_96 : decode cX6_turn 96 = .ok (.aload_n 0, 1) := by decide +kernel
theorem dX6_turn_97 : decode cX6_turn 97 = .ok (.getfield 7, 3) := by decide +kernel
theorem dX6_turn_100 : decode cX6_turn 100 = .ok (.iconst 0, 1) := by decide +kernel
theorem dX6_turn_101 : decode cX6_turn 101 = .ok (.iaload, 1) := by decide +kernel
theorem dX6_turn_102 : decode cX6_turn 102 = .ok (.ireturn, 1) := by decide +kernel
theorem dX6_power_0 : decode cX6_power 0 = .ok (.iload_n 1, 1) := by decide +kernel
theorem dX6_power_1 : decode cX6_power 1 = .ok (.iconst 0, 1) := by decide +kernel
theorem dX6_power_2 : decode cX6_power 2 = .ok (.iconst 1, 1) := by decide +kernel
theorem dX6_power_3 : decode cX6_power 3 = .ok (.invokestatic 32, 3) := by decide +kernel
theorem dX6_power_6 : decode cX6_power 6 = .ok (.ifCond .eq 12, 3) := by decide +kernel
theorem dX6_power_9 : decode cX6_power 9 = .ok (.aload_n 0, 1) := by decide +kernel
theorem dX6_power_10 : decode cX6_power 10 = .ok (.iconst 1, 1) := by decide +kernel
theorem dX6_power_11 : decode cX6_power 11 = .ok (.iload_n 1, 1) := by decide +kernel
theorem dX6_power_12 : decode cX6_power 12 = .ok (.invokevirtual 52, 3) := by decide +kernel
theorem dX6_power_15 : decode cX6_power 15 = .ok (.goto 4, 3) := by decide +kernel
theorem dX6_power_18 : decode cX6_power 18 = .ok (.iconst (-1), 1) := by decide +kernel
theorem dX6_power_19 : decode cX6_power 19 = .ok (.ireturn, 1) := by decide +kernel
theorem dX6_brownout_0 : decode cX6_brownout 0 = .ok (.iload_n 1, 1) := by decide +kernel
theorem dX6_brownout_1 : decode cX6_brownout 1 = .ok (.iconst 1, 1) := by decide +kernel
theorem dX6_brownout_2 : decode cX6_brownout 2 = .ok (.bipush 9, 2) := by decide +kernel
theorem dX6_brownout_4 : decode cX6_brownout 4 = .ok (.invokestatic 32, 3) := by decide +kernel
theorem dX6_brownout_7 : decode cX6_brownout 7 = .ok (.ifCond .ne 5, 3) := by decide +kernel
theorem dX6_brownout_10 : decode cX6_brownout 10 = .ok (.iconst (-1), 1) := by decide +kernel
theorem dX6_brownout_11 : decode cX6_brownout 11 = .ok (.ireturn, 1) := by decide +kernel
theorem dX6_brownout_12 : decode cX6_brownout 12 = .ok (.aload_n 0, 1) := by decide +kernel
theorem dX6_brownout_13 : decode cX6_brownout 13 = .ok (.getfield 7, 3) := by decide +kernel
theorem dX6_brownout_16 : decode cX6_brownout 16 = .ok (.iconst 4, 1) := by decide +kernel
theorem dX6_brownout_17 : decode cX6_brownout 17 = .ok (.iaload, 1) := by decide +kernel
theorem dX6_brownout_18 : decode cX6_brownout 18 = .ok (.iload_n 1, 1) := by decide +kernel
theorem dX6_brownout_19 : decode cX6_brownout 19 = .ok (.iadd, 1) := by decide +kernel
theorem dX6_brownout_20 : decode cX6_brownout 20 = .ok (.bipush 99, 2) := by decide +kernel
theorem dX6_brownout_22 : decode cX6_brownout 22 = .ok (.if_icmp .le 6, 3) := by decide +kernel
theorem dX6_brownout_25 : decode cX6_brownout 25 = .ok (.bipush (-3), 2) := by decide +kernel
theorem dX6_brownout_27 : decode cX6_brownout 27 = .ok (.ireturn, 1) := by decide +kernel
theorem dX6_brownout_28 : decode cX6_brownout 28 = .ok (.aload_n 0, 1) := by decide +kernel
theorem dX6_brownout_29 : decode cX6_brownout 29 = .ok (.iconst 4, 1) := by decide +kernel
theorem dX6_brownout_30 : decode cX6_brownout 30 = .ok (.aload_n 0, 1) := by decide +kernel
theorem dX6_brownout_31 : decode cX6_brownout 31 = .ok (.getfield 7, 3) := by decide +kernel
theorem dX6_brownout_34 : decode cX6_brownout 34 = .ok (.iconst 4, 1) := by decide +kernel
theorem dX6_brownout_35 : decode cX6_brownout 35 = .ok (.iaload, 1) := by decide +kernel
theorem dX6_brownout_36 : decode cX6_brownout 36 = .ok (.iload_n 1, 1) := by decide +kernel
theorem dX6_brownout_37 : decode cX6_brownout 37 = .ok (.iadd, 1) := by decide +kernel
theorem dX6_brownout_38 : decode cX6_brownout 38 = .ok (.invokevirtual 52, 3) := by decide +kernel
theorem dX6_brownout_41 : decode cX6_brownout 41 = .ok (.istore_n 2, 1) := by decide +kernel
theorem dX6_brownout_42 : decode cX6_brownout 42 = .ok (.iload_n 2, 1) := by decide +kernel
theorem dX6_brownout_43 : decode cX6_brownout 43 = .ok (.iload_n 1, 1) := by decide +kernel
theorem dX6_brownout_44 : decode cX6_brownout 44 = .ok (.iadd, 1) := by decide +kernel
theorem dX6_brownout_45 : decode cX6_brownout 45 = .ok (.ireturn, 1) := by decide +kernel
theorem dX6_charge_0 : decode cX6_charge 0 = .ok (.iload_n 1, 1) := by decide +kernel
theorem dX6_charge_1 : decode cX6_charge 1 = .ok (.iconst 0, 1) := by decide +kernel
theorem dX6_charge_2 : decode cX6_charge 2 = .ok (.sipush 999, 3) := by decide +kernel
theorem dX6_charge_5 : decode cX6_charge 5 = .ok (.invokestatic 32, 3) := by decide +kernel
theorem dX6_charge_8 : decode cX6_charge 8 = .ok (.ifCond .eq 12, 3) := by decide +kernel
theorem dX6_charge_11 : decode cX6_charge 11 = .ok (.aload_n 0, 1) := by decide +kernel
theorem dX6_charge_12 : decode cX6_charge 12 = .ok (.iconst 3, 1) := by decide +kernel
theorem dX6_charge_13 : decode cX6_charge 13 = .ok (.iload_n 1, 1) := by decide +kernel
theorem dX6_charge_14 : decode cX6_charge 14 = .ok (.invokevirtual 52, 3) := by decide +kernel
theorem dX6_charge_17 : decode cX6_charge 17 = .ok (.goto 4, 3) := by decide +kernel
theorem dX6_charge_20 : decode cX6_charge 20 = .ok (.iconst (-1), 1) := by decide +kernel
theorem dX6_charge_21 : decode cX6_charge 21 = .ok (.ireturn, 1) := by decide +kernel
theorem dX6_angle_0 : decode cX6_angle 0 = .ok (.aload_n 0, 1) := by decide +kernel
theorem dX6_angle_1 : decode cX6_angle 1 = .ok (.getfield 7, 3) := by decide +kernel
theorem dX6_angle_4 : decode cX6_angle 4 = .ok (.iconst 0, 1) := by decide +kernel
theorem dX6_angle_5 : decode cX6_angle 5 = .ok (.iaload, 1) := by decide +kernel
theorem dX6_angle_6 : decode cX6_angle 6 = .ok (.sipush 4080, 3) := by decide +kernel
theorem dX6_angle_9 : decode cX6_angle 9 = .ok (.irem, 1) := by decide +kernel
theorem dX6_angle_10 : decode cX6_angle 10 = .ok (.ireturn, 1) := by decide +kernel
theorem dX6_coarse_0 : decode cX6_coarse 0 = .ok (.aload_n 0, 1) := by decide +kernel
theorem dX6_coarse_1 : decode cX6_coarse 1 = .ok (.invokevirtual 55, 3) := by decide +kernel
theorem dX6_coarse_4 : decode cX6_coarse 4 = .ok (.bipush 64, 2) := by decide +kernel
theorem dX6_coarse_6 : decode cX6_coarse 6 = .ok (.imul, 1) := by decide +kernel
theorem dX6_coarse_7 : decode cX6_coarse 7 = .ok (.sipush 4080, 3) := by decide +kernel
theorem dX6_coarse_10 : decode cX6_coarse 10 = .ok (.idiv, 1) := by decide +kernel
theorem dX6_coarse_11 : decode cX6_coarse 11 = .ok (.aload_n 0, 1) := by decide +kernel
theorem dX6_coarse_12 : decode cX6_coarse 12 = .ok (.getfield 7, 3) := by decide +kernel
theorem dX6_coarse_15 : decode cX6_coarse 15 = .ok (.bipush 10, 2) := by decide +kernel
theorem dX6_coarse_17 : decode cX6_coarse 17 = .ok (.iaload, 1) := by decide +kernel
theorem dX6_coarse_18 : decode cX6_coarse 18 = .ok (.iadd, 1) := by decide +kernel
theorem dX6_coarse_19 : decode cX6_coarse 19 = .ok (.bipush 64, 2) := by decide +kernel
theorem dX6_coarse_21 : decode cX6_coarse 21 = .ok (.invokestatic 28, 3) := by decide +kernel
theorem dX6_coarse_24 : decode cX6_coarse 24 = .ok (.ireturn, 1) := by decide +kernel
theorem dX6_corrections_0 : decode cX6_corrections 0 = .ok (.iconst 0, 1) := by decide +kernel
theorem dX6_corrections_1 : decode cX6_corrections 1 = .ok (.istore_n 1, 1) := by decide +kernel
theorem dX6_corrections_2 : decode cX6_corrections 2 = .ok (.bipush 38, 2) := by decide +kernel
theorem dX6_corrections_4 : decode cX6_corrections 4 = .ok (.istore_n 2, 1) := by decide +kernel
theorem dX6_corrections_5 : decode cX6_corrections 5 = .ok (.iload_n 2, 1) := by decide +kernel
theorem dX6_corrections_6 : decode cX6_corrections 6 = .ok (.bipush 62, 2) := by decide +kernel
theorem dX6_corrections_8 : decode cX6_corrections 8 = .ok (.if_icmp .ge 26, 3) := by decide +kernel
theorem dX6_corrections_11 : decode cX6_corrections 11 = .ok (.iload_n 1, 1) := by decide +kernel
theorem dX6_corrections_12 : decode cX6_corrections 12 = .ok (.aload_n 0, 1) := by decide +kernel
theorem dX6_corrections_13 : decode cX6_corrections 13 = .ok (.getfield 7, 3) := by decide +kernel
theorem dX6_corrections_16 : decode cX6_corrections 16 = .ok (.iload_n 2, 1) := by decide +kernel
theorem dX6_corrections_17 : decode cX6_corrections 17 = .ok (.iaload, 1) := by decide +kernel
theorem dX6_corrections_18 : decode cX6_corrections 18 = .ok (.ifCond .ne 7, 3) := by decide +kernel
theorem dX6_corrections_21 : decode cX6_corrections 21 = .ok (.iconst 0, 1) := by decide +kernel
theorem dX6_corrections_22 : decode cX6_corrections 22 = .ok (.goto 4, 3) := by decide +kernel
theorem dX6_corrections_25 : decode cX6_corrections 25 = .ok (.iconst 1, 1) := by decide +kernel
theorem dX6_corrections_26 : decode cX6_corrections 26 = .ok (.iadd, 1) := by decide +kernel
theorem dX6_corrections_27 : decode cX6_corrections 27 = .ok (.istore_n 1, 1) := by decide +kernel
theorem dX6_corrections_28 : decode cX6_corrections 28 = .ok (.iinc 2 1, 3) := by decide +kernel
theorem dX6_corrections_31 : decode cX6_corrections 31 = .ok (.goto (-26), 3) := by decide +kernel
theorem dX6_corrections_34 : decode cX6_corrections 34 = .ok (.iload_n 1, 1) := by decide +kernel
theorem dX6_corrections_35 : decode cX6_corrections 35 = .ok (.ireturn, 1) := by decide +kernel
theorem dX6_count_0 : decode cX6_count 0 = .ok (.iload_n 1, 1) := by decide +kernel
theorem dX6_count_1 : decode cX6_count 1 = .ok (.tableswitch 225 0 23 #[111, 118, 123, 130, 137, 144, 151, 173, 181, 186, 191, 196, 225, 225, 225, 225, 225, 225, 225, 225, 201, 201, 201, 214], 111) := by decide +kernel
theorem dX6_count_112 : decode cX6_count 112 = .ok (.aload_n 0, 1) := by decide +kernel
theorem dX6_count_113 : decode cX6_count 113 = .ok (.getfield 7, 3) := by decide +kernel
theorem dX6_count_116 : decode cX6_count 116 = .ok (.iconst 0, 1) := by decide +kernel
theorem dX6_count_117 : decode cX6_count 117 = .ok (.iaload, 1) := by decide +kernel
theorem dX6_count_118 : decode cX6_count 118 = .ok (.ireturn, 1) := by decide +kernel
theorem dX6_count_119 : decode cX6_count 119 = .ok (.aload_n 0, 1) := by decide +kernel
theorem dX6_count_120 : decode cX6_count 120 = .ok (.invokevirtual 55, 3) := by decide +kernel
theorem dX6_count_123 : decode cX6_count 123 = .ok (.ireturn, 1) := by decide +kernel
theorem dX6_count_124 : decode cX6_count 124 = .ok (.aload_n 0, 1) := by decide +kernel
theorem dX6_count_125 : decode cX6_count 125 = .ok (.getfield 7, 3) := by decide +kernel
theorem dX6_count_128 : decode cX6_count 128 = .ok (.iconst 2, 1) := by decide +kernel
theorem dX6_count_129 : decode cX6_count 129 = .ok (.iaload, 1) := by decide +kernel
theorem dX6_count_130 : decode cX6_count 130 = .ok (.ireturn, 1) := by decide +kernel
theorem dX6_count_131 : decode cX6_count 131 = .ok (.aload_n 0, 1) := by decide +kernel
theorem dX6_count_132 : decode cX6_count 132 = .ok (.getfield 7, 3) := by decide +kernel
theorem dX6_count_135 : decode cX6_count 135 = .ok (.iconst 1, 1) := by decide +kernel
theorem dX6_count_136 : decode cX6_count 136 = .ok (.iaload, 1) := by decide +kernel
theorem dX6_count_137 : decode cX6_count 137 = .ok (.ireturn, 1) := by decide +kernel
theorem dX6_count_138 : decode cX6_count 138 = .ok (.aload_n 0, 1) := by decide +kernel
theorem dX6_count_139 : decode cX6_count 139 = .ok (.getfield 7, 3) := by decide +kernel
theorem dX6_count_142 : decode cX6_count 142 = .ok (.iconst 3, 1) := by decide +kernel
theorem dX6_count_143 : decode cX6_count 143 = .ok (.iaload, 1) := by decide +kernel
theorem dX6_count_144 : decode cX6_count 144 = .ok (.ireturn, 1) := by decide +kernel
theorem dX6_count_145 : decode cX6_count 145 = .ok (.aload_n 0, 1) := by decide +kernel
theorem dX6_count_146 : decode cX6_count 146 = .ok (.getfield 7, 3) := by decide +kernel
theorem dX6_count_149 : decode cX6_count 149 = .ok (.iconst 4, 1) := by decide +kernel
theorem dX6_count_150 : decode cX6_count 150 = .ok (.iaload, 1) := by decide +kernel
theorem dX6_count_151 : decode cX6_count 151 = .ok (.ireturn, 1) := by decide +kernel
theorem dX6_count_152 : decode cX6_count 152 = .ok (.aload_n 0, 1) := by decide +kernel
theorem dX6_count_153 : decode cX6_count 153 = .ok (.getfield 7, 3) := by decide +kernel
theorem dX6_count_156 : decode cX6_count 156 = .ok (.iconst 5, 1) := by decide +kernel
theorem dX6_count_157 : decode cX6_count 157 = .ok (.iaload, 1) := by decide +kernel
theorem dX6_count_158 : decode cX6_count 158 = .ok (.iconst (-1), 1) := by decide +kernel
theorem dX6_count_159 : decode cX6_count 159 = .ok (.if_icmp .ne 8, 3) := by decide +kernel
theorem dX6_count_162 : decode cX6_count 162 = .ok (.bipush (-4), 2) := by decide +kernel
theorem dX6_count_164 : decode cX6_count 164 = .ok (.goto 9, 3) := by decide +kernel
theorem dX6_count_167 : decode cX6_count 167 = .ok (.aload_n 0, 1) := by decide +kernel
theorem dX6_count_168 : decode cX6_count 168 = .ok (.getfield 7, 3) := by decide +kernel
theorem dX6_count_171 : decode cX6_count 171 = .ok (.iconst 5, 1) := by decide +kernel
theorem dX6_count_172 : decode cX6_count 172 = .ok (.iaload, 1) := by decide +kernel
theorem dX6_count_173 : decode cX6_count 173 = .ok (.ireturn, 1) := by decide +kernel
theorem dX6_count_174 : decode cX6_count 174 = .ok (.aload_n 0, 1) := by decide +kernel
theorem dX6_count_175 : decode cX6_count 175 = .ok (.getfield 7, 3) := by decide +kernel
theorem dX6_count_178 : decode cX6_count 178 = .ok (.bipush 6, 2) := by decide +kernel
theorem dX6_count_180 : decode cX6_count 180 = .ok (.iaload, 1) := by decide +kernel
theorem dX6_count_181 : decode cX6_count 181 = .ok (.ireturn, 1) := by decide +kernel
theorem dX6_count_182 : decode cX6_count 182 = .ok (.aload_n 0, 1) := by decide +kernel
theorem dX6_count_183 : decode cX6_count 183 = .ok (.invokevirtual 59, 3) := by decide +kernel
theorem dX6_count_186 : decode cX6_count 186 = .ok (.ireturn, 1) := by decide +kernel
theorem dX6_count_187 : decode cX6_count 187 = .ok (.aload_n 0, 1) := by decide +kernel
theorem dX6_count_188 : decode cX6_count 188 = .ok (.invokevirtual 62, 3) := by decide +kernel
theorem dX6_count_191 : decode cX6_count 191 = .ok (.ireturn, 1) := by decide +kernel
theorem dX6_count_192 : decode cX6_count 192 = .ok (.aload_n 0, 1) := by decide +kernel
theorem dX6_count_193 : decode cX6_count 193 = .ok (.getfield 40, 3) := by decide +kernel
theorem dX6_count_196 : decode cX6_count 196 = .ok (.ireturn, 1) := by decide +kernel
theorem dX6_count_197 : decode cX6_count 197 = .ok (.aload_n 0, 1) := by decide +kernel
theorem dX6_count_198 : decode cX6_count 198 = .ok (.getfield 65, 3) := by decide +kernel
theorem dX6_count_201 : decode cX6_count 201 = .ok (.ireturn, 1) := by decide +kernel
theorem dX6_count_202 : decode cX6_count 202 = .ok (.aload_n 0, 1) := by decide +kernel
theorem dX6_count_203 : decode cX6_count 203 = .ok (.getfield 7, 3) := by decide +kernel
theorem dX6_count_206 : decode cX6_count 206 = .ok (.bipush 7, 2) := by decide +kernel
theorem dX6_count_208 : decode cX6_count 208 = .ok (.iload_n 1, 1) := by decide +kernel
theorem dX6_count_209 : decode cX6_count 209 = .ok (.iadd, 1) := by decide +kernel
theorem dX6_count_210 : decode cX6_count 210 = .ok (.bipush 20, 2) := by decide +kernel
theorem dX6_count_212 : decode cX6_count 212 = .ok (.isub, 1) := by decide +kernel
theorem dX6_count_213 : decode cX6_count 213 = .ok (.iaload, 1) := by decide +kernel
theorem dX6_count_214 : decode cX6_count 214 = .ok (.ireturn, 1) := by decide +kernel
theorem dX6_count_215 : decode cX6_count 215 = .ok (.aload_n 0, 1) := by decide +kernel
theorem dX6_count_216 : decode cX6_count 216 = .ok (.getfield 7, 3) := by decide +kernel
theorem dX6_count_219 : decode cX6_count 219 = .ok (.bipush 10, 2) := by decide +kernel
theorem dX6_count_221 : decode cX6_count 221 = .ok (.iaload, 1) := by decide +kernel
theorem dX6_count_222 : decode cX6_count 222 = .ok (.bipush 100, 2) := by decide +kernel
theorem dX6_count_224 : decode cX6_count 224 = .ok (.iadd, 1) := by decide +kernel
theorem dX6_count_225 : decode cX6_count 225 = .ok (.ireturn, 1) := by decide +kernel
theorem dX6_count_226 : decode cX6_count 226 = .ok (.iconst (-1), 1) := by decide +kernel
theorem dX6_count_227 : decode cX6_count 227 = .ok (.ireturn, 1) := by decide +kernel
theorem dX6_disk_0 : decode cX6_disk 0 = .ok (.iload_n 1, 1) := by decide +kernel
theorem dX6_disk_1 : decode cX6_disk 1 = .ok (.iload_n 2, 1) := by decide +kernel
theorem dX6_disk_2 : decode cX6_disk 2 = .ok (.invokestatic 68, 3) := by decide +kernel
theorem dX6_disk_5 : decode cX6_disk 5 = .ok (.ifCond .eq 14, 3) := by decide +kernel
theorem dX6_disk_8 : decode cX6_disk 8 = .ok (.iload_n 3, 1) := by decide +kernel
theorem dX6_disk_9 : decode cX6_disk 9 = .ok (.bipush (-9), 2) := by decide +kernel
theorem dX6_disk_11 : decode cX6_disk 11 = .ok (.bipush 9, 2) := by decide +kernel
theorem dX6_disk_13 : decode cX6_disk 13 = .ok (.invokestatic 32, 3) := by decide +kernel
theorem dX6_disk_16 : decode cX6_disk 16 = .ok (.ifCond .ne 5, 3) := by decide +kernel
theorem dX6_disk_19 : decode cX6_disk 19 = .ok (.iconst (-1), 1) := by decide +kernel
theorem dX6_disk_20 : decode cX6_disk 20 = .ok (.ireturn, 1) := by decide +kernel
theorem dX6_disk_21 : decode cX6_disk 21 = .ok (.aload_n 0, 1) := by decide +kernel
theorem dX6_disk_22 : decode cX6_disk 22 = .ok (.bipush 11, 2) := by decide +kernel
theorem dX6_disk_24 : decode cX6_disk 24 = .ok (.bipush 8, 2) := by decide +kernel
theorem dX6_disk_26 : decode cX6_disk 26 = .ok (.iload_n 1, 1) := by decide +kernel
theorem dX6_disk_27 : decode cX6_disk 27 = .ok (.imul, 1) := by decide +kernel
theorem dX6_disk_28 : decode cX6_disk 28 = .ok (.iadd, 1) := by decide +kernel
theorem dX6_disk_29 : decode cX6_disk 29 = .ok (.iload_n 2, 1) := by decide +kernel
theorem dX6_disk_30 : decode cX6_disk 30 = .ok (.iadd, 1) := by decide +kernel
theorem dX6_disk_31 : decode cX6_disk 31 = .ok (.iload_n 3, 1) := by decide +kernel
theorem dX6_disk_32 : decode cX6_disk 32 = .ok (.invokevirtual 52, 3) := by decide +kernel
theorem dX6_disk_35 : decode cX6_disk 35 = .ok (.bipush 100, 2) := by decide +kernel
theorem dX6_disk_37 : decode cX6_disk 37 = .ok (.iadd, 1) := by decide +kernel
theorem dX6_disk_38 : decode cX6_disk 38 = .ok (.ireturn, 1) := by decide +kernel
theorem dX6_noise_0 : decode cX6_noise 0 = .ok (.iload_n 1, 1) := by decide +kernel
theorem dX6_noise_1 : decode cX6_noise 1 = .ok (.invokestatic 36, 3) := by decide +kernel
theorem dX6_noise_4 : decode cX6_noise 4 = .ok (.ifCond .eq 29, 3) := by decide +kernel
theorem dX6_noise_7 : decode cX6_noise 7 = .ok (.iload_n 2, 1) := by decide +kernel
theorem dX6_noise_8 : decode cX6_noise 8 = .ok (.bipush (-9), 2) := by decide +kernel
theorem dX6_noise_10 : decode cX6_noise 10 = .ok (.bipush 9, 2) := by decide +kernel
theorem dX6_noise_12 : decode cX6_noise 12 = .ok (.invokestatic 32, 3) := by decide +kernel
theorem dX6_noise_15 : decode cX6_noise 15 = .ok (.ifCond .eq 18, 3) := by decide +kernel
theorem dX6_noise_18 : decode cX6_noise 18 = .ok (.aload_n 0, 1) := by decide +kernel
theorem dX6_noise_19 : decode cX6_noise 19 = .ok (.bipush 35, 2) := by decide +kernel
theorem dX6_noise_21 : decode cX6_noise 21 = .ok (.iload_n 1, 1) := by decide +kernel
theorem dX6_noise_22 : decode cX6_noise 22 = .ok (.iadd, 1) := by decide +kernel
theorem dX6_noise_23 : decode cX6_noise 23 = .ok (.iload_n 2, 1) := by decide +kernel
theorem dX6_noise_24 : decode cX6_noise 24 = .ok (.invokevirtual 52, 3) := by decide +kernel
theorem dX6_noise_27 : decode cX6_noise 27 = .ok (.bipush 100, 2) := by decide +kernel
theorem dX6_noise_29 : decode cX6_noise 29 = .ok (.iadd, 1) := by decide +kernel
theorem dX6_noise_30 : decode cX6_noise 30 = .ok (.goto 4, 3) := by decide +kernel
theorem dX6_noise_33 : decode cX6_noise 33 = .ok (.iconst (-1), 1) := by decide +kernel
theorem dX6_noise_34 : decode cX6_noise 34 = .ok (.ireturn, 1) := by decide +kernel
theorem dX6_isSetting_0 : decode cX6_isSetting 0 = .ok (.iload_n 0, 1) := by decide +kernel
theorem dX6_isSetting_1 : decode cX6_isSetting 1 = .ok (.tableswitch 65 0 3 #[31, 39, 47, 56], 31) := by decide +kernel
theorem dX6_isSetting_32 : decode cX6_isSetting 32 = .ok (.iload_n 1, 1) := by decide +kernel
theorem dX6_isSetting_33 : decode cX6_isSetting 33 = .ok (.iconst 0, 1) := by decide +kernel
theorem dX6_isSetting_34 : decode cX6_isSetting 34 = .ok (.bipush 40, 2) := by decide +kernel
theorem dX6_isSetting_36 : decode cX6_isSetting 36 = .ok (.invokestatic 32, 3) := by decide +kernel
theorem dX6_isSetting_39 : decode cX6_isSetting 39 = .ok (.ireturn, 1) := by decide +kernel
theorem dX6_isSetting_40 : decode cX6_isSetting 40 = .ok (.iload_n 1, 1) := by decide +kernel
theorem dX6_isSetting_41 : decode cX6_isSetting 41 = .ok (.iconst 0, 1) := by decide +kernel
theorem dX6_isSetting_42 : decode cX6_isSetting 42 = .ok (.bipush 32, 2) := by decide +kernel
theorem dX6_isSetting_44 : decode cX6_isSetting 44 = .ok (.invokestatic 32, 3) := by decide +kernel
theorem dX6_isSetting_47 : decode cX6_isSetting 47 = .ok (.ireturn, 1) := by decide +kernel
theorem dX6_isSetting_48 : decode cX6_isSetting 48 = .ok (.iload_n 1, 1) := by decide +kernel
theorem dX6_isSetting_49 : decode cX6_isSetting 49 = .ok (.iconst 1, 1) := by decide +kernel
theorem dX6_isSetting_50 : decode cX6_isSetting 50 = .ok (.sipush 4080, 3) := by decide +kernel
theorem dX6_isSetting_53 : decode cX6_isSetting 53 = .ok (.invokestatic 32, 3) := by decide +kernel
theorem dX6_isSetting_56 : decode cX6_isSetting 56 = .ok (.ireturn, 1) := by decide +kernel
theorem dX6_isSetting_57 : decode cX6_isSetting 57 = .ok (.iload_n 1, 1) := by decide +kernel
theorem dX6_isSetting_58 : decode cX6_isSetting 58 = .ok (.bipush (-31), 2) := by decide +kernel
theorem dX6_isSetting_60 : decode cX6_isSetting 60 = .ok (.bipush 31, 2) := by decide +kernel
theorem dX6_isSetting_62 : decode cX6_isSetting 62 = .ok (.invokestatic 32, 3) := by decide +kernel
theorem dX6_isSetting_65 : decode cX6_isSetting 65 = .ok (.ireturn, 1) := by decide +kernel
theorem dX6_isSetting_66 : decode cX6_isSetting 66 = .ok (.iconst 0, 1) := by decide +kernel
theorem dX6_isSetting_67 : decode cX6_isSetting 67 = .ok (.ireturn, 1) := by decide +kernel
theorem dX6_set_0 : decode cX6_set 0 = .ok (.iload_n 1, 1) := by decide +kernel
theorem dX6_set_1 : decode cX6_set 1 = .ok (.iload_n 2, 1) := by decide +kernel
theorem dX6_set_2 : decode cX6_set 2 = .ok (.invokestatic 72, 3) := by decide +kernel
theorem dX6_set_5 : decode cX6_set 5 = .ok (.ifCond .eq 27, 3) := by decide +kernel
theorem dX6_set_8 : decode cX6_set 8 = .ok (.aload_n 0, 1) := by decide +kernel
theorem dX6_set_9 : decode cX6_set 9 = .ok (.bipush 7, 2) := by decide +kernel
theorem dX6_set_11 : decode cX6_set 11 = .ok (.iload_n 1, 1) := by decide +kernel
theorem dX6_set_12 : decode cX6_set 12 = .ok (.iadd, 1) := by decide +kernel
theorem dX6_set_13 : decode cX6_set 13 = .ok (.iload_n 2, 1) := by decide +kernel
theorem dX6_set_14 : decode cX6_set 14 = .ok (.invokevirtual 52, 3) := by decide +kernel
theorem dX6_set_17 : decode cX6_set 17 = .ok (.iload_n 1, 1) := by decide +kernel
theorem dX6_set_18 : decode cX6_set 18 = .ok (.iconst 3, 1) := by decide +kernel
theorem dX6_set_19 : decode cX6_set 19 = .ok (.if_icmp .ne 8, 3) := by decide +kernel
theorem dX6_set_22 : decode cX6_set 22 = .ok (.bipush 100, 2) := by decide +kernel
theorem dX6_set_24 : decode cX6_set 24 = .ok (.goto 4, 3) := by decide +kernel
theorem dX6_set_27 : decode cX6_set 27 = .ok (.iconst 0, 1) := by decide +kernel
theorem dX6_set_28 : decode cX6_set 28 = .ok (.iadd, 1) := by decide +kernel
theorem dX6_set_29 : decode cX6_set 29 = .ok (.goto 4, 3) := by decide +kernel
theorem dX6_set_32 : decode cX6_set 32 = .ok (.iconst (-1), 1) := by decide +kernel
theorem dX6_set_33 : decode cX6_set 33 = .ok (.ireturn, 1) := by decide +kernel
theorem dX6_readingAt_0 : decode cX6_readingAt 0 = .ok (.iload_n 2, 1) := by decide +kernel
theorem dX6_readingAt_1 : decode cX6_readingAt 1 = .ok (.aload_n 0, 1) := by decide +kernel
theorem dX6_readingAt_2 : decode cX6_readingAt 2 = .ok (.getfield 7, 3) := by decide +kernel
theorem dX6_readingAt_5 : decode cX6_readingAt 5 = .ok (.bipush 11, 2) := by decide +kernel
theorem dX6_readingAt_7 : decode cX6_readingAt 7 = .ok (.bipush 8, 2) := by decide +kernel
theorem dX6_readingAt_9 : decode cX6_readingAt 9 = .ok (.iload_n 1, 1) := by decide +kernel
theorem dX6_readingAt_10 : decode cX6_readingAt 10 = .ok (.imul, 1) := by decide +kernel
theorem dX6_readingAt_11 : decode cX6_readingAt 11 = .ok (.iadd, 1) := by decide +kernel
theorem dX6_readingAt_12 : decode cX6_readingAt 12 = .ok (.iload_n 2, 1) := by decide +kernel
theorem dX6_readingAt_13 : decode cX6_readingAt 13 = .ok (.sipush 510, 3) := by decide +kernel
theorem dX6_readingAt_16 : decode cX6_readingAt 16 = .ok (.idiv, 1) := by decide +kernel
theorem dX6_readingAt_17 : decode cX6_readingAt 17 = .ok (.iadd, 1) := by decide +kernel
theorem dX6_readingAt_18 : decode cX6_readingAt 18 = .ok (.iaload, 1) := by decide +kernel
theorem dX6_readingAt_19 : decode cX6_readingAt 19 = .ok (.iadd, 1) := by decide +kernel
theorem dX6_readingAt_20 : decode cX6_readingAt 20 = .ok (.aload_n 0, 1) := by decide +kernel
theorem dX6_readingAt_21 : decode cX6_readingAt 21 = .ok (.getfield 7, 3) := by decide +kernel
theorem dX6_readingAt_24 : decode cX6_readingAt 24 = .ok (.bipush 35, 2) := by decide +kernel
theorem dX6_readingAt_26 : decode cX6_readingAt 26 = .ok (.iload_n 1, 1) := by decide +kernel
theorem dX6_readingAt_27 : decode cX6_readingAt 27 = .ok (.iadd, 1) := by decide +kernel
theorem dX6_readingAt_28 : decode cX6_readingAt 28 = .ok (.iaload, 1) := by decide +kernel
theorem dX6_readingAt_29 : decode cX6_readingAt 29 = .ok (.iadd, 1) := by decide +kernel
theorem dX6_readingAt_30 : decode cX6_readingAt 30 = .ok (.iload_n 1, 1) := by decide +kernel
theorem dX6_readingAt_31 : decode cX6_readingAt 31 = .ok (.invokestatic 75, 3) := by decide +kernel
theorem dX6_readingAt_34 : decode cX6_readingAt 34 = .ok (.invokestatic 28, 3) := by decide +kernel
theorem dX6_readingAt_37 : decode cX6_readingAt 37 = .ok (.ireturn, 1) := by decide +kernel
theorem dX6_reading_0 : decode cX6_reading 0 = .ok (.iload_n 1, 1) := by decide +kernel
theorem dX6_reading_1 : decode cX6_reading 1 = .ok (.invokestatic 36, 3) := by decide +kernel
theorem dX6_reading_4 : decode cX6_reading 4 = .ok (.ifCond .eq 15, 3) := by decide +kernel
theorem dX6_reading_7 : decode cX6_reading 7 = .ok (.aload_n 0, 1) := by decide +kernel
theorem dX6_reading_8 : decode cX6_reading 8 = .ok (.iload_n 1, 1) := by decide +kernel
theorem dX6_reading_9 : decode cX6_reading 9 = .ok (.aload_n 0, 1) := by decide +kernel
theorem dX6_reading_10 : decode cX6_reading 10 = .ok (.invokevirtual 55, 3) := by decide +kernel
theorem dX6_reading_13 : decode cX6_reading 13 = .ok (.invokevirtual 79, 3) := by decide +kernel
theorem dX6_reading_16 : decode cX6_reading 16 = .ok (.goto 4, 3) := by decide +kernel
theorem dX6_reading_19 : decode cX6_reading 19 = .ok (.iconst (-1), 1) := by decide +kernel
theorem dX6_reading_20 : decode cX6_reading 20 = .ok (.ireturn, 1) := by decide +kernel
theorem dX6_nearer_0 : decode cX6_nearer 0 = .ok (.iload_n 0, 1) := by decide +kernel
theorem dX6_nearer_1 : decode cX6_nearer 1 = .ok (.iload_n 1, 1) := by decide +kernel
theorem dX6_nearer_2 : decode cX6_nearer 2 = .ok (.iload_n 0, 1) := by decide +kernel
theorem dX6_nearer_3 : decode cX6_nearer 3 = .ok (.isub, 1) := by decide +kernel
theorem dX6_nearer_4 : decode cX6_nearer 4 = .ok (.if_icmp .le 9, 3) := by decide +kernel
theorem dX6_nearer_7 : decode cX6_nearer 7 = .ok (.iload_n 1, 1) := by decide +kernel
theorem dX6_nearer_8 : decode cX6_nearer 8 = .ok (.iload_n 0, 1) := by decide +kernel
theorem dX6_nearer_9 : decode cX6_nearer 9 = .ok (.isub, 1) := by decide +kernel
theorem dX6_nearer_10 : decode cX6_nearer 10 = .ok (.goto 4, 3) := by decide +kernel
theorem dX6_nearer_13 : decode cX6_nearer 13 = .ok (.iload_n 0, 1) := by decide +kernel
theorem dX6_nearer_14 : decode cX6_nearer 14 = .ok (.ireturn, 1) := by decide +kernel
theorem dX6_finds_0 : decode cX6_finds 0 = .ok (.iload_n 1, 1) := by decide +kernel
theorem dX6_finds_1 : decode cX6_finds 1 = .ok (.ifCond .ne 7, 3) := by decide +kernel
theorem dX6_finds_4 : decode cX6_finds 4 = .ok (.iconst 0, 1) := by decide +kernel
theorem dX6_finds_5 : decode cX6_finds 5 = .ok (.goto 8, 3) := by decide +kernel
theorem dX6_finds_8 : decode cX6_finds 8 = .ok (.sipush 272, 3) := by decide +kernel
theorem dX6_finds_11 : decode cX6_finds 11 = .ok (.iload_n 1, 1) := by decide +kernel
theorem dX6_finds_12 : decode cX6_finds 12 = .ok (.isub, 1) := by decide +kernel
theorem dX6_finds_13 : decode cX6_finds 13 = .ok (.istore 4, 2) := by decide +kernel
theorem dX6_finds_15 : decode cX6_finds 15 = .ok (.iload_n 2, 1) := by decide +kernel
theorem dX6_finds_16 : decode cX6_finds 16 = .ok (.ifCond .ne 7, 3) := by decide +kernel
theorem dX6_finds_19 : decode cX6_finds 19 = .ok (.iconst 0, 1) := by decide +kernel
theorem dX6_finds_20 : decode cX6_finds 20 = .ok (.goto 8, 3) := by decide +kernel
theorem dX6_finds_23 : decode cX6_finds 23 = .ok (.sipush 255, 3) := by decide +kernel
theorem dX6_finds_26 : decode cX6_finds 26 = .ok (.iload_n 2, 1) := by decide +kernel
theorem dX6_finds_27 : decode cX6_finds 27 = .ok (.isub, 1) := by decide +kernel
theorem dX6_finds_28 : decode cX6_finds 28 = .ok (.istore 5, 2) := by decide +kernel
theorem dX6_finds_30 : decode cX6_finds 30 = .ok (.iload_n 3, 1) := by decide +kernel
theorem dX6_finds_31 : decode cX6_finds 31 = .ok (.ifCond .ne 7, 3) := by decide +kernel
theorem dX6_finds_34 : decode cX6_finds 34 = .ok (.iconst 0, 1) := by decide +kernel
theorem dX6_finds_35 : decode cX6_finds 35 = .ok (.goto 8, 3) := by decide +kernel
theorem dX6_finds_38 : decode cX6_finds 38 = .ok (.sipush 240, 3) := by decide +kernel
theorem dX6_finds_41 : decode cX6_finds 41 = .ok (.iload_n 3, 1) := by decide +kernel
theorem dX6_finds_42 : decode cX6_finds 42 = .ok (.isub, 1) := by decide +kernel
theorem dX6_finds_43 : decode cX6_finds 43 = .ok (.istore 6, 2) := by decide +kernel
theorem dX6_finds_45 : decode cX6_finds 45 = .ok (.aload_n 0, 1) := by decide +kernel
theorem dX6_finds_46 : decode cX6_finds 46 = .ok (.sipush 4080, 3) := by decide +kernel
theorem dX6_finds_49 : decode cX6_finds 49 = .ok (.putfield 82, 3) := by decide +kernel
theorem dX6_finds_52 : decode cX6_finds 52 = .ok (.aload_n 0, 1) := by decide +kernel
theorem dX6_finds_53 : decode cX6_finds 53 = .ok (.iconst 0, 1) := by decide +kernel
theorem dX6_finds_54 : decode cX6_finds 54 = .ok (.putfield 85, 3) := by decide +kernel
theorem dX6_finds_57 : decode cX6_finds 57 = .ok (.iconst 0, 1) := by decide +kernel
theorem dX6_finds_58 : decode cX6_finds 58 = .ok (.istore 7, 2) := by decide +kernel
theorem dX6_finds_60 : decode cX6_finds 60 = .ok (.iload 7, 2) := by decide +kernel
theorem dX6_finds_62 : decode cX6_finds 62 = .ok (.sipush 4080, 3) := by decide +kernel
theorem dX6_finds_65 : decode cX6_finds 65 = .ok (.if_icmp .ge 146, 3) := by decide +kernel
theorem dX6_finds_68 : decode cX6_finds 68 = .ok (.iload 4, 2) := by decide +kernel
theorem dX6_finds_70 : decode cX6_finds 70 = .ok (.sipush 272, 3) := by decide +kernel
theorem dX6_finds_73 : decode cX6_finds 73 = .ok (.invokestatic 88, 3) := by decide +kernel
theorem dX6_finds_76 : decode cX6_finds 76 = .ok (.istore 8, 2) := by decide +kernel
theorem dX6_finds_78 : decode cX6_finds 78 = .ok (.iload 5, 2) := by decide +kernel
theorem dX6_finds_80 : decode cX6_finds 80 = .ok (.sipush 255, 3) := by decide +kernel
theorem dX6_finds_83 : decode cX6_finds 83 = .ok (.invokestatic 88, 3) := by decide +kernel
theorem dX6_finds_86 : decode cX6_finds 86 = .ok (.istore 9, 2) := by decide +kernel
theorem dX6_finds_88 : decode cX6_finds 88 = .ok (.iload 9, 2) := by decide +kernel
theorem dX6_finds_90 : decode cX6_finds 90 = .ok (.iload 8, 2) := by decide +kernel
theorem dX6_finds_92 : decode cX6_finds 92 = .ok (.if_icmp .le 8, 3) := by decide +kernel
theorem dX6_finds_95 : decode cX6_finds 95 = .ok (.iload 9, 2) := by decide +kernel
theorem dX6_finds_97 : decode cX6_finds 97 = .ok (.goto 5, 3) := by decide +kernel
theorem dX6_finds_100 : decode cX6_finds 100 = .ok (.iload 8, 2) := by decide +kernel
theorem dX6_finds_102 : decode cX6_finds 102 = .ok (.istore 8, 2) := by decide +kernel
theorem dX6_finds_104 : decode cX6_finds 104 = .ok (.iload 6, 2) := by decide +kernel
theorem dX6_finds_106 : decode cX6_finds 106 = .ok (.sipush 240, 3) := by decide +kernel
theorem dX6_finds_109 : decode cX6_finds 109 = .ok (.invokestatic 88, 3) := by decide +kernel
theorem dX6_finds_112 : decode cX6_finds 112 = .ok (.istore 9, 2) := by decide +kernel
theorem dX6_finds_114 : decode cX6_finds 114 = .ok (.iload 9, 2) := by decide +kernel
theorem dX6_finds_116 : decode cX6_finds 116 = .ok (.iload 8, 2) := by decide +kernel
theorem dX6_finds_118 : decode cX6_finds 118 = .ok (.if_icmp .le 8, 3) := by decide +kernel
theorem dX6_finds_121 : decode cX6_finds 121 = .ok (.iload 9, 2) := by decide +kernel
theorem dX6_finds_123 : decode cX6_finds 123 = .ok (.goto 5, 3) := by decide +kernel
theorem dX6_finds_126 : decode cX6_finds 126 = .ok (.iload 8, 2) := by decide +kernel
theorem dX6_finds_128 : decode cX6_finds 128 = .ok (.istore 8, 2) := by decide +kernel
theorem dX6_finds_130 : decode cX6_finds 130 = .ok (.iload 8, 2) := by decide +kernel
theorem dX6_finds_132 : decode cX6_finds 132 = .ok (.aload_n 0, 1) := by decide +kernel
theorem dX6_finds_133 : decode cX6_finds 133 = .ok (.getfield 82, 3) := by decide +kernel
theorem dX6_finds_136 : decode cX6_finds 136 = .ok (.if_icmp .ge 15, 3) := by decide +kernel
theorem dX6_finds_139 : decode cX6_finds 139 = .ok (.aload_n 0, 1) := by decide +kernel
theorem dX6_finds_140 : decode cX6_finds 140 = .ok (.iload 8, 2) := by decide +kernel
theorem dX6_finds_142 : decode cX6_finds 142 = .ok (.putfield 82, 3) := by decide +kernel
theorem dX6_finds_145 : decode cX6_finds 145 = .ok (.aload_n 0, 1) := by decide +kernel
theorem dX6_finds_146 : decode cX6_finds 146 = .ok (.iload 7, 2) := by decide +kernel
theorem dX6_finds_148 : decode cX6_finds 148 = .ok (.putfield 85, 3) := by decide +kernel
theorem dX6_finds_151 : decode cX6_finds 151 = .ok (.iload 4, 2) := by decide +kernel
theorem dX6_finds_153 : decode cX6_finds 153 = .ok (.sipush 271, 3) := by decide +kernel
theorem dX6_finds_156 : decode cX6_finds 156 = .ok (.if_icmp .ne 7, 3) := by decide +kernel
theorem dX6_finds_159 : decode cX6_finds 159 = .ok (.iconst 0, 1) := by decide +kernel
theorem dX6_finds_160 : decode cX6_finds 160 = .ok (.goto 7, 3) := by decide +kernel
theorem dX6_finds_163 : decode cX6_finds 163 = .ok (.iload 4, 2) := by decide +kernel
theorem dX6_finds_165 : decode cX6_finds 165 = .ok (.iconst 1, 1) := by decide +kernel
theorem dX6_finds_166 : decode cX6_finds 166 = .ok (.iadd, 1) := by decide +kernel
theorem dX6_finds_167 : decode cX6_finds 167 = .ok (.istore 4, 2) := by decide +kernel
theorem dX6_finds_169 : decode cX6_finds 169 = .ok (.iload 5, 2) := by decide +kernel
theorem dX6_finds_171 : decode cX6_finds 171 = .ok (.sipush 254, 3) := by decide +kernel
theorem dX6_finds_174 : decode cX6_finds 174 = .ok (.if_icmp .ne 7, 3) := by decide +kernel
theorem dX6_finds_177 : decode cX6_finds 177 = .ok (.iconst 0, 1) := by decide +kernel
theorem dX6_finds_178 : decode cX6_finds 178 = .ok (.goto 7, 3) := by decide +kernel
theorem dX6_finds_181 : decode cX6_finds 181 = .ok (.iload 5, 2) := by decide +kernel
theorem dX6_finds_183 : decode cX6_finds 183 = .ok (.iconst 1, 1) := by decide +kernel
theorem dX6_finds_184 : decode cX6_finds 184 = .ok (.iadd, 1) := by decide +kernel
theorem dX6_finds_185 : decode cX6_finds 185 = .ok (.istore 5, 2) := by decide +kernel
theorem dX6_finds_187 : decode cX6_finds 187 = .ok (.iload 6, 2) := by decide +kernel
theorem dX6_finds_189 : decode cX6_finds 189 = .ok (.sipush 239, 3) := by decide +kernel
theorem dX6_finds_192 : decode cX6_finds 192 = .ok (.if_icmp .ne 7, 3) := by decide +kernel
theorem dX6_finds_195 : decode cX6_finds 195 = .ok (.iconst 0, 1) := by decide +kernel
theorem dX6_finds_196 : decode cX6_finds 196 = .ok (.goto 7, 3) := by decide +kernel
theorem dX6_finds_199 : decode cX6_finds 199 = .ok (.iload 6, 2) := by decide +kernel
theorem dX6_finds_201 : decode cX6_finds 201 = .ok (.iconst 1, 1) := by decide +kernel
theorem dX6_finds_202 : decode cX6_finds 202 = .ok (.iadd, 1) := by decide +kernel
theorem dX6_finds_203 : decode cX6_finds 203 = .ok (.istore 6, 2) := by decide +kernel
theorem dX6_finds_205 : decode cX6_finds 205 = .ok (.iinc 7 1, 3) := by decide +kernel
theorem dX6_finds_208 : decode cX6_finds 208 = .ok (.goto (-148), 3) := by decide +kernel
theorem dX6_finds_211 : decode cX6_finds 211 = .ok (.return_, 1) := by decide +kernel
theorem dX6_found_0 : decode cX6_found 0 = .ok (.iload_n 1, 1) := by decide +kernel
theorem dX6_found_1 : decode cX6_found 1 = .ok (.iconst 0, 1) := by decide +kernel
theorem dX6_found_2 : decode cX6_found 2 = .ok (.sipush 271, 3) := by decide +kernel
theorem dX6_found_5 : decode cX6_found 5 = .ok (.invokestatic 32, 3) := by decide +kernel
theorem dX6_found_8 : decode cX6_found 8 = .ok (.ifCond .eq 35, 3) := by decide +kernel
theorem dX6_found_11 : decode cX6_found 11 = .ok (.iload_n 2, 1) := by decide +kernel
theorem dX6_found_12 : decode cX6_found 12 = .ok (.iconst 0, 1) := by decide +kernel
theorem dX6_found_13 : decode cX6_found 13 = .ok (.sipush 254, 3) := by decide +kernel
theorem dX6_found_16 : decode cX6_found 16 = .ok (.invokestatic 32, 3) := by decide +kernel
theorem dX6_found_19 : decode cX6_found 19 = .ok (.ifCond .eq 24, 3) := by decide +kernel
theorem dX6_found_22 : decode cX6_found 22 = .ok (.iload_n 3, 1) := by decide +kernel
theorem dX6_found_23 : decode cX6_found 23 = .ok (.iconst 0, 1) := by decide +kernel
theorem dX6_found_24 : decode cX6_found 24 = .ok (.sipush 239, 3) := by decide +kernel
theorem dX6_found_27 : decode cX6_found 27 = .ok (.invokestatic 32, 3) := by decide +kernel
theorem dX6_found_30 : decode cX6_found 30 = .ok (.ifCond .eq 13, 3) := by decide +kernel
theorem dX6_found_33 : decode cX6_found 33 = .ok (.iload 4, 2) := by decide +kernel
theorem dX6_found_35 : decode cX6_found 35 = .ok (.iconst 0, 1) := by decide +kernel
theorem dX6_found_36 : decode cX6_found 36 = .ok (.iconst 1, 1) := by decide +kernel
theorem dX6_found_37 : decode cX6_found 37 = .ok (.invokestatic 32, 3) := by decide +kernel
theorem dX6_found_40 : decode cX6_found 40 = .ok (.ifCond .ne 5, 3) := by decide +kernel
theorem dX6_found_43 : decode cX6_found 43 = .ok (.iconst (-1), 1) := by decide +kernel
theorem dX6_found_44 : decode cX6_found 44 = .ok (.ireturn, 1) := by decide +kernel
theorem dX6_found_45 : decode cX6_found 45 = .ok (.aload_n 0, 1) := by decide +kernel
theorem dX6_found_46 : decode cX6_found 46 = .ok (.iload_n 1, 1) := by decide +kernel
theorem dX6_found_47 : decode cX6_found 47 = .ok (.iload_n 2, 1) := by decide +kernel
theorem dX6_found_48 : decode cX6_found 48 = .ok (.iload_n 3, 1) := by decide +kernel
theorem dX6_found_49 : decode cX6_found 49 = .ok (.invokevirtual 91, 3) := by decide +kernel
theorem dX6_found_52 : decode cX6_found 52 = .ok (.iload 4, 2) := by decide +kernel
theorem dX6_found_54 : decode cX6_found 54 = .ok (.ifCond .ne 10, 3) := by decide +kernel
theorem dX6_found_57 : decode cX6_found 57 = .ok (.aload_n 0, 1) := by decide +kernel
theorem dX6_found_58 : decode cX6_found 58 = .ok (.getfield 85, 3) := by decide +kernel
theorem dX6_found_61 : decode cX6_found 61 = .ok (.goto 7, 3) := by decide +kernel
theorem dX6_found_64 : decode cX6_found 64 = .ok (.aload_n 0, 1) := by decide +kernel
theorem dX6_found_65 : decode cX6_found 65 = .ok (.getfield 82, 3) := by decide +kernel
theorem dX6_found_68 : decode cX6_found 68 = .ok (.ireturn, 1) := by decide +kernel
theorem dX6_isReading_0 : decode cX6_isReading 0 = .ok (.iload_n 1, 1) := by decide +kernel
theorem dX6_isReading_1 : decode cX6_isReading 1 = .ok (.iconst 0, 1) := by decide +kernel
theorem dX6_isReading_2 : decode cX6_isReading 2 = .ok (.iload_n 0, 1) := by decide +kernel
theorem dX6_isReading_3 : decode cX6_isReading 3 = .ok (.invokestatic 75, 3) := by decide +kernel
theorem dX6_isReading_6 : decode cX6_isReading 6 = .ok (.iconst 1, 1) := by decide +kernel
theorem dX6_isReading_7 : decode cX6_isReading 7 = .ok (.isub, 1) := by decide +kernel
theorem dX6_isReading_8 : decode cX6_isReading 8 = .ok (.invokestatic 32, 3) := by decide +kernel
theorem dX6_isReading_11 : decode cX6_isReading 11 = .ok (.ireturn, 1) := by decide +kernel
theorem dX6_byTwo_0 : decode cX6_byTwo 0 = .ok (.iload_n 1, 1) := by decide +kernel
theorem dX6_byTwo_1 : decode cX6_byTwo 1 = .ok (.invokestatic 36, 3) := by decide +kernel
theorem dX6_byTwo_4 : decode cX6_byTwo 4 = .ok (.ifCond .eq 32, 3) := by decide +kernel
theorem dX6_byTwo_7 : decode cX6_byTwo 7 = .ok (.iload_n 3, 1) := by decide +kernel
theorem dX6_byTwo_8 : decode cX6_byTwo 8 = .ok (.invokestatic 36, 3) := by decide +kernel
theorem dX6_byTwo_11 : decode cX6_byTwo 11 = .ok (.ifCond .eq 25, 3) := by decide +kernel
theorem dX6_byTwo_14 : decode cX6_byTwo 14 = .ok (.iload_n 1, 1) := by decide +kernel
theorem dX6_byTwo_15 : decode cX6_byTwo 15 = .ok (.iload_n 3, 1) := by decide +kernel
theorem dX6_byTwo_16 : decode cX6_byTwo 16 = .ok (.if_icmp .eq 20, 3) := by decide +kernel
theorem dX6_byTwo_19 : decode cX6_byTwo 19 = .ok (.iload_n 1, 1) := by decide +kernel
theorem dX6_byTwo_20 : decode cX6_byTwo 20 = .ok (.iload_n 2, 1) := by decide +kernel
theorem dX6_byTwo_21 : decode cX6_byTwo 21 = .ok (.invokestatic 95, 3) := by decide +kernel
theorem dX6_byTwo_24 : decode cX6_byTwo 24 = .ok (.ifCond .eq 12, 3) := by decide +kernel
theorem dX6_byTwo_27 : decode cX6_byTwo 27 = .ok (.iload_n 3, 1) := by decide +kernel
theorem dX6_byTwo_28 : decode cX6_byTwo 28 = .ok (.iload 4, 2) := by decide +kernel
theorem dX6_byTwo_30 : decode cX6_byTwo 30 = .ok (.invokestatic 95, 3) := by decide +kernel
theorem dX6_byTwo_33 : decode cX6_byTwo 33 = .ok (.ifCond .ne 5, 3) := by decide +kernel
theorem dX6_byTwo_36 : decode cX6_byTwo 36 = .ok (.iconst (-1), 1) := by decide +kernel
theorem dX6_byTwo_37 : decode cX6_byTwo 37 = .ok (.ireturn, 1) := by decide +kernel
theorem dX6_byTwo_38 : decode cX6_byTwo 38 = .ok (.iload_n 2, 1) := by decide +kernel
theorem dX6_byTwo_39 : decode cX6_byTwo 39 = .ok (.istore 5, 2) := by decide +kernel
theorem dX6_byTwo_41 : decode cX6_byTwo 41 = .ok (.iload 5, 2) := by decide +kernel
theorem dX6_byTwo_43 : decode cX6_byTwo 43 = .ok (.sipush 4080, 3) := by decide +kernel
theorem dX6_byTwo_46 : decode cX6_byTwo 46 = .ok (.if_icmp .ge 30, 3) := by decide +kernel
theorem dX6_byTwo_49 : decode cX6_byTwo 49 = .ok (.iload 5, 2) := by decide +kernel
theorem dX6_byTwo_51 : decode cX6_byTwo 51 = .ok (.iload_n 3, 1) := by decide +kernel
theorem dX6_byTwo_52 : decode cX6_byTwo 52 = .ok (.invokestatic 75, 3) := by decide +kernel
theorem dX6_byTwo_55 : decode cX6_byTwo 55 = .ok (.irem, 1) := by decide +kernel
theorem dX6_byTwo_56 : decode cX6_byTwo 56 = .ok (.iload 4, 2) := by decide +kernel
theorem dX6_byTwo_58 : decode cX6_byTwo 58 = .ok (.if_icmp .ne 6, 3) := by decide +kernel
theorem dX6_byTwo_61 : decode cX6_byTwo 61 = .ok (.iload 5, 2) := by decide +kernel
theorem dX6_byTwo_63 : decode cX6_byTwo 63 = .ok (.ireturn, 1) := by decide +kernel
theorem dX6_byTwo_64 : decode cX6_byTwo 64 = .ok (.iload 5, 2) := by decide +kernel
theorem dX6_byTwo_66 : decode cX6_byTwo 66 = .ok (.iload_n 1, 1) := by decide +kernel
theorem dX6_byTwo_67 : decode cX6_byTwo 67 = .ok (.invokestatic 75, 3) := by decide +kernel
theorem dX6_byTwo_70 : decode cX6_byTwo 70 = .ok (.iadd, 1) := by decide +kernel
theorem dX6_byTwo_71 : decode cX6_byTwo 71 = .ok (.istore 5, 2) := by decide +kernel
theorem dX6_byTwo_73 : decode cX6_byTwo 73 = .ok (.goto (-32), 3) := by decide +kernel
theorem dX6_byTwo_76 : decode cX6_byTwo 76 = .ok (.bipush (-4), 2) := by decide +kernel
theorem dX6_byTwo_78 : decode cX6_byTwo 78 = .ok (.ireturn, 1) := by decide +kernel
theorem dX6_isCorrection_0 : decode cX6_isCorrection 0 = .ok (.iload_n 0, 1) := by decide +kernel
theorem dX6_isCorrection_1 : decode cX6_isCorrection 1 = .ok (.bipush (-20), 2) := by decide +kernel
theorem dX6_isCorrection_3 : decode cX6_isCorrection 3 = .ok (.bipush 20, 2) := by decide +kernel
theorem dX6_isCorrection_5 : decode cX6_isCorrection 5 = .ok (.invokestatic 32, 3) := by decide +kernel
theorem dX6_isCorrection_8 : decode cX6_isCorrection 8 = .ok (.ireturn, 1) := by decide +kernel
theorem dX6_correct_0 : decode cX6_correct 0 = .ok (.iload_n 1, 1) := by decide +kernel
theorem dX6_correct_1 : decode cX6_correct 1 = .ok (.iload_n 2, 1) := by decide +kernel
theorem dX6_correct_2 : decode cX6_correct 2 = .ok (.invokestatic 68, 3) := by decide +kernel
theorem dX6_correct_5 : decode cX6_correct 5 = .ok (.ifCond .eq 10, 3) := by decide +kernel
theorem dX6_correct_8 : decode cX6_correct 8 = .ok (.iload_n 3, 1) := by decide +kernel
theorem dX6_correct_9 : decode cX6_correct 9 = .ok (.invokestatic 98, 3) := by decide +kernel
theorem dX6_correct_12 : decode cX6_correct 12 = .ok (.ifCond .ne 5, 3) := by decide +kernel
theorem dX6_correct_15 : decode cX6_correct 15 = .ok (.iconst (-1), 1) := by decide +kernel
theorem dX6_correct_16 : decode cX6_correct 16 = .ok (.ireturn, 1) := by decide +kernel
theorem dX6_correct_17 : decode cX6_correct 17 = .ok (.aload_n 0, 1) := by decide +kernel
theorem dX6_correct_18 : decode cX6_correct 18 = .ok (.bipush 38, 2) := by decide +kernel
theorem dX6_correct_20 : decode cX6_correct 20 = .ok (.bipush 8, 2) := by decide +kernel
theorem dX6_correct_22 : decode cX6_correct 22 = .ok (.iload_n 1, 1) := by decide +kernel
theorem dX6_correct_23 : decode cX6_correct 23 = .ok (.imul, 1) := by decide +kernel
theorem dX6_correct_24 : decode cX6_correct 24 = .ok (.iadd, 1) := by decide +kernel
theorem dX6_correct_25 : decode cX6_correct 25 = .ok (.iload_n 2, 1) := by decide +kernel
theorem dX6_correct_26 : decode cX6_correct 26 = .ok (.iadd, 1) := by decide +kernel
theorem dX6_correct_27 : decode cX6_correct 27 = .ok (.iload_n 3, 1) := by decide +kernel
theorem dX6_correct_28 : decode cX6_correct 28 = .ok (.invokevirtual 52, 3) := by decide +kernel
theorem dX6_correct_31 : decode cX6_correct 31 = .ok (.bipush 100, 2) := by decide +kernel
theorem dX6_correct_33 : decode cX6_correct 33 = .ok (.iadd, 1) := by decide +kernel
theorem dX6_correct_34 : decode cX6_correct 34 = .ok (.ireturn, 1) := by decide +kernel
theorem dX6_correction_0 : decode cX6_correction 0 = .ok (.iload_n 1, 1) := by decide +kernel
theorem dX6_correction_1 : decode cX6_correction 1 = .ok (.iload_n 2, 1) := by decide +kernel
theorem dX6_correction_2 : decode cX6_correction 2 = .ok (.invokestatic 68, 3) := by decide +kernel
theorem dX6_correction_5 : decode cX6_correction 5 = .ok (.ifCond .eq 23, 3) := by decide +kernel
theorem dX6_correction_8 : decode cX6_correction 8 = .ok (.aload_n 0, 1) := by decide +kernel
theorem dX6_correction_9 : decode cX6_correction 9 = .ok (.getfield 7, 3) := by decide +kernel
theorem dX6_correction_12 : decode cX6_correction 12 = .ok (.bipush 38, 2) := by decide +kernel
theorem dX6_correction_14 : decode cX6_correction 14 = .ok (.bipush 8, 2) := by decide +kernel
theorem dX6_correction_16 : decode cX6_correction 16 = .ok (.iload_n 1, 1) := by decide +kernel
theorem dX6_correction_17 : decode cX6_correction 17 = .ok (.imul, 1) := by decide +kernel
theorem dX6_correction_18 : decode cX6_correction 18 = .ok (.iadd, 1) := by decide +kernel
theorem dX6_correction_19 : decode cX6_correction 19 = .ok (.iload_n 2, 1) := by decide +kernel
theorem dX6_correction_20 : decode cX6_correction 20 = .ok (.iadd, 1) := by decide +kernel
theorem dX6_correction_21 : decode cX6_correction 21 = .ok (.iaload, 1) := by decide +kernel
theorem dX6_correction_22 : decode cX6_correction 22 = .ok (.bipush 100, 2) := by decide +kernel
theorem dX6_correction_24 : decode cX6_correction 24 = .ok (.iadd, 1) := by decide +kernel
theorem dX6_correction_25 : decode cX6_correction 25 = .ok (.goto 4, 3) := by decide +kernel
theorem dX6_correction_28 : decode cX6_correction 28 = .ok (.iconst (-1), 1) := by decide +kernel
theorem dX6_correction_29 : decode cX6_correction 29 = .ok (.ireturn, 1) := by decide +kernel
theorem dX6_tooHigh_0 : decode cX6_tooHigh 0 = .ok (.aload_n 0, 1) := by decide +kernel
theorem dX6_tooHigh_1 : decode cX6_tooHigh 1 = .ok (.iload_n 1, 1) := by decide +kernel
theorem dX6_tooHigh_2 : decode cX6_tooHigh 2 = .ok (.aload_n 0, 1) := by decide +kernel
theorem dX6_tooHigh_3 : decode cX6_tooHigh 3 = .ok (.invokevirtual 55, 3) := by decide +kernel
theorem dX6_tooHigh_6 : decode cX6_tooHigh 6 = .ok (.invokevirtual 79, 3) := by decide +kernel
theorem dX6_tooHigh_9 : decode cX6_tooHigh 9 = .ok (.aload_n 0, 1) := by decide +kernel
theorem dX6_tooHigh_10 : decode cX6_tooHigh 10 = .ok (.invokevirtual 55, 3) := by decide +kernel
theorem dX6_tooHigh_13 : decode cX6_tooHigh 13 = .ok (.isub, 1) := by decide +kernel
theorem dX6_tooHigh_14 : decode cX6_tooHigh 14 = .ok (.iload_n 1, 1) := by decide +kernel
theorem dX6_tooHigh_15 : decode cX6_tooHigh 15 = .ok (.invokestatic 75, 3) := by decide +kernel
theorem dX6_tooHigh_18 : decode cX6_tooHigh 18 = .ok (.invokestatic 28, 3) := by decide +kernel
theorem dX6_tooHigh_21 : decode cX6_tooHigh 21 = .ok (.istore_n 2, 1) := by decide +kernel
theorem dX6_tooHigh_22 : decode cX6_tooHigh 22 = .ok (.iconst 2, 1) := by decide +kernel
theorem dX6_tooHigh_23 : decode cX6_tooHigh 23 = .ok (.iload_n 2, 1) := by decide +kernel
theorem dX6_tooHigh_24 : decode cX6_tooHigh 24 = .ok (.imul, 1) := by decide +kernel
theorem dX6_tooHigh_25 : decode cX6_tooHigh 25 = .ok (.iload_n 1, 1) := by decide +kernel
theorem dX6_tooHigh_26 : decode cX6_tooHigh 26 = .ok (.invokestatic 75, 3) := by decide +kernel
theorem dX6_tooHigh_29 : decode cX6_tooHigh 29 = .ok (.if_icmp .le 12, 3) := by decide +kernel
theorem dX6_tooHigh_32 : decode cX6_tooHigh 32 = .ok (.iload_n 2, 1) := by decide +kernel
theorem dX6_tooHigh_33 : decode cX6_tooHigh 33 = .ok (.iload_n 1, 1) := by decide +kernel
theorem dX6_tooHigh_34 : decode cX6_tooHigh 34 = .ok (.invokestatic 75, 3) := by decide +kernel
theorem dX6_tooHigh_37 : decode cX6_tooHigh 37 = .ok (.isub, 1) := by decide +kernel
theorem dX6_tooHigh_38 : decode cX6_tooHigh 38 = .ok (.goto 4, 3) := by decide +kernel
theorem dX6_tooHigh_41 : decode cX6_tooHigh 41 = .ok (.iload_n 2, 1) := by decide +kernel
theorem dX6_tooHigh_42 : decode cX6_tooHigh 42 = .ok (.ireturn, 1) := by decide +kernel
theorem dX6_learn_0 : decode cX6_learn 0 = .ok (.aload_n 0, 1) := by decide +kernel
theorem dX6_learn_1 : decode cX6_learn 1 = .ok (.iconst 0, 1) := by decide +kernel
theorem dX6_learn_2 : decode cX6_learn 2 = .ok (.invokevirtual 101, 3) := by decide +kernel
theorem dX6_learn_5 : decode cX6_learn 5 = .ok (.invokestatic 98, 3) := by decide +kernel
theorem dX6_learn_8 : decode cX6_learn 8 = .ok (.ifCond .eq 25, 3) := by decide +kernel
theorem dX6_learn_11 : decode cX6_learn 11 = .ok (.aload_n 0, 1) := by decide +kernel
theorem dX6_learn_12 : decode cX6_learn 12 = .ok (.iconst 1, 1) := by decide +kernel
theorem dX6_learn_13 : decode cX6_learn 13 = .ok (.invokevirtual 101, 3) := by decide +kernel
theorem dX6_learn_16 : decode cX6_learn 16 = .ok (.invokestatic 98, 3) := by decide +kernel
theorem dX6_learn_19 : decode cX6_learn 19 = .ok (.ifCond .eq 14, 3) := by decide +kernel
theorem dX6_learn_22 : decode cX6_learn 22 = .ok (.aload_n 0, 1) := by decide +kernel
theorem dX6_learn_23 : decode cX6_learn 23 = .ok (.iconst 2, 1) := by decide +kernel
theorem dX6_learn_24 : decode cX6_learn 24 = .ok (.invokevirtual 101, 3) := by decide +kernel
theorem dX6_learn_27 : decode cX6_learn 27 = .ok (.invokestatic 98, 3) := by decide +kernel
theorem dX6_learn_30 : decode cX6_learn 30 = .ok (.ifCond .ne 6, 3) := by decide +kernel
theorem dX6_learn_33 : decode cX6_learn 33 = .ok (.bipush (-2), 2) := by decide +kernel
theorem dX6_learn_35 : decode cX6_learn 35 = .ok (.ireturn, 1) := by decide +kernel
theorem dX6_learn_36 : decode cX6_learn 36 = .ok (.aload_n 0, 1) := by decide +kernel
theorem dX6_learn_37 : decode cX6_learn 37 = .ok (.invokevirtual 44, 3) := by decide +kernel
theorem dX6_learn_40 : decode cX6_learn 40 = .ok (.iconst 0, 1) := by decide +kernel
theorem dX6_learn_41 : decode cX6_learn 41 = .ok (.istore_n 1, 1) := by decide +kernel
theorem dX6_learn_42 : decode cX6_learn 42 = .ok (.iconst 0, 1) := by decide +kernel
theorem dX6_learn_43 : decode cX6_learn 43 = .ok (.istore_n 2, 1) := by decide +kernel
theorem dX6_learn_44 : decode cX6_learn 44 = .ok (.iload_n 2, 1) := by decide +kernel
theorem dX6_learn_45 : decode cX6_learn 45 = .ok (.iconst 3, 1) := by decide +kernel
theorem dX6_learn_46 : decode cX6_learn 46 = .ok (.if_icmp .ge 59, 3) := by decide +kernel
theorem dX6_learn_49 : decode cX6_learn 49 = .ok (.bipush 38, 2) := by decide +kernel
theorem dX6_learn_51 : decode cX6_learn 51 = .ok (.bipush 8, 2) := by decide +kernel
theorem dX6_learn_53 : decode cX6_learn 53 = .ok (.iload_n 2, 1) := by decide +kernel
theorem dX6_learn_54 : decode cX6_learn 54 = .ok (.imul, 1) := by decide +kernel
theorem dX6_learn_55 : decode cX6_learn 55 = .ok (.iadd, 1) := by decide +kernel
theorem dX6_learn_56 : decode cX6_learn 56 = .ok (.aload_n 0, 1) := by decide +kernel
theorem dX6_learn_57 : decode cX6_learn 57 = .ok (.invokevirtual 55, 3) := by decide +kernel
theorem dX6_learn_60 : decode cX6_learn 60 = .ok (.sipush 510, 3) := by decide +kernel
theorem dX6_learn_63 : decode cX6_learn 63 = .ok (.idiv, 1) := by decide +kernel
theorem dX6_learn_64 : decode cX6_learn 64 = .ok (.iadd, 1) := by decide +kernel
theorem dX6_learn_65 : decode cX6_learn 65 = .ok (.istore_n 3, 1) := by decide +kernel
theorem dX6_learn_66 : decode cX6_learn 66 = .ok (.iload_n 1, 1) := by decide +kernel
theorem dX6_learn_67 : decode cX6_learn 67 = .ok (.aload_n 0, 1) := by decide +kernel
theorem dX6_learn_68 : decode cX6_learn 68 = .ok (.getfield 7, 3) := by decide +kernel
theorem dX6_learn_71 : decode cX6_learn 71 = .ok (.iload_n 3, 1) := by decide +kernel
theorem dX6_learn_72 : decode cX6_learn 72 = .ok (.iaload, 1) := by decide +kernel
theorem dX6_learn_73 : decode cX6_learn 73 = .ok (.aload_n 0, 1) := by decide +kernel
theorem dX6_learn_74 : decode cX6_learn 74 = .ok (.iload_n 2, 1) := by decide +kernel
theorem dX6_learn_75 : decode cX6_learn 75 = .ok (.invokevirtual 101, 3) := by decide +kernel
theorem dX6_learn_78 : decode cX6_learn 78 = .ok (.if_icmp .ne 7, 3) := by decide +kernel
theorem dX6_learn_81 : decode cX6_learn 81 = .ok (.iconst 0, 1) := by decide +kernel
theorem dX6_learn_82 : decode cX6_learn 82 = .ok (.goto 4, 3) := by decide +kernel
theorem dX6_learn_85 : decode cX6_learn 85 = .ok (.iconst 1, 1) := by decide +kernel
theorem dX6_learn_86 : decode cX6_learn 86 = .ok (.iadd, 1) := by decide +kernel
theorem dX6_learn_87 : decode cX6_learn 87 = .ok (.istore_n 1, 1) := by decide +kernel
theorem dX6_learn_88 : decode cX6_learn 88 = .ok (.aload_n 0, 1) := by decide +kernel
theorem dX6_learn_89 : decode cX6_learn 89 = .ok (.getfield 7, 3) := by decide +kernel
theorem dX6_learn_92 : decode cX6_learn 92 = .ok (.iload_n 3, 1) := by decide +kernel
theorem dX6_learn_93 : decode cX6_learn 93 = .ok (.aload_n 0, 1) := by decide +kernel
theorem dX6_learn_94 : decode cX6_learn 94 = .ok (.iload_n 2, 1) := by decide +kernel
theorem dX6_learn_95 : decode cX6_learn 95 = .ok (.invokevirtual 101, 3) := by decide +kernel
theorem dX6_learn_98 : decode cX6_learn 98 = .ok (.iastore, 1) := by decide +kernel
theorem dX6_learn_99 : decode cX6_learn 99 = .ok (.iinc 2 1, 3) := by decide +kernel
theorem dX6_learn_102 : decode cX6_learn 102 = .ok (.goto (-58), 3) := by decide +kernel
theorem dX6_learn_105 : decode cX6_learn 105 = .ok (.iload_n 1, 1) := by decide +kernel
theorem dX6_learn_106 : decode cX6_learn 106 = .ok (.ireturn, 1) := by decide +kernel
theorem dX6_corrected_0 : decode cX6_corrected 0 = .ok (.aload_n 0, 1) := by decide +kernel
theorem dX6_corrected_1 : decode cX6_corrected 1 = .ok (.getfield 19, 3) := by decide +kernel
theorem dX6_corrected_4 : decode cX6_corrected 4 = .ok (.iload_n 1, 1) := by decide +kernel
theorem dX6_corrected_5 : decode cX6_corrected 5 = .ok (.iaload, 1) := by decide +kernel
theorem dX6_corrected_6 : decode cX6_corrected 6 = .ok (.aload_n 0, 1) := by decide +kernel
theorem dX6_corrected_7 : decode cX6_corrected 7 = .ok (.getfield 7, 3) := by decide +kernel
theorem dX6_corrected_10 : decode cX6_corrected 10 = .ok (.bipush 38, 2) := by decide +kernel
theorem dX6_corrected_12 : decode cX6_corrected 12 = .ok (.bipush 8, 2) := by decide +kernel
theorem dX6_corrected_14 : decode cX6_corrected 14 = .ok (.iload_n 1, 1) := by decide +kernel
theorem dX6_corrected_15 : decode cX6_corrected 15 = .ok (.imul, 1) := by decide +kernel
theorem dX6_corrected_16 : decode cX6_corrected 16 = .ok (.iadd, 1) := by decide +kernel
theorem dX6_corrected_17 : decode cX6_corrected 17 = .ok (.iload_n 2, 1) := by decide +kernel
theorem dX6_corrected_18 : decode cX6_corrected 18 = .ok (.iadd, 1) := by decide +kernel
theorem dX6_corrected_19 : decode cX6_corrected 19 = .ok (.iaload, 1) := by decide +kernel
theorem dX6_corrected_20 : decode cX6_corrected 20 = .ok (.isub, 1) := by decide +kernel
theorem dX6_corrected_21 : decode cX6_corrected 21 = .ok (.iload_n 1, 1) := by decide +kernel
theorem dX6_corrected_22 : decode cX6_corrected 22 = .ok (.invokestatic 75, 3) := by decide +kernel
theorem dX6_corrected_25 : decode cX6_corrected 25 = .ok (.invokestatic 28, 3) := by decide +kernel
theorem dX6_corrected_28 : decode cX6_corrected 28 = .ok (.ireturn, 1) := by decide +kernel
theorem dX6_findsIn_0 : decode cX6_findsIn 0 = .ok (.aload_n 0, 1) := by decide +kernel
theorem dX6_findsIn_1 : decode cX6_findsIn 1 = .ok (.aload_n 0, 1) := by decide +kernel
theorem dX6_findsIn_2 : decode cX6_findsIn 2 = .ok (.iconst 0, 1) := by decide +kernel
theorem dX6_findsIn_3 : decode cX6_findsIn 3 = .ok (.iload_n 1, 1) := by decide +kernel
theorem dX6_findsIn_4 : decode cX6_findsIn 4 = .ok (.invokevirtual 104, 3) := by decide +kernel
theorem dX6_findsIn_7 : decode cX6_findsIn 7 = .ok (.aload_n 0, 1) := by decide +kernel
theorem dX6_findsIn_8 : decode cX6_findsIn 8 = .ok (.iconst 1, 1) := by decide +kernel
theorem dX6_findsIn_9 : decode cX6_findsIn 9 = .ok (.iload_n 1, 1) := by decide +kernel
theorem dX6_findsIn_10 : decode cX6_findsIn 10 = .ok (.invokevirtual 104, 3) := by decide +kernel
theorem dX6_findsIn_13 : decode cX6_findsIn 13 = .ok (.aload_n 0, 1) := by decide +kernel
theorem dX6_findsIn_14 : decode cX6_findsIn 14 = .ok (.iconst 2, 1) := by decide +kernel
theorem dX6_findsIn_15 : decode cX6_findsIn 15 = .ok (.iload_n 1, 1) := by decide +kernel
theorem dX6_findsIn_16 : decode cX6_findsIn 16 = .ok (.invokevirtual 104, 3) := by decide +kernel
theorem dX6_findsIn_19 : decode cX6_findsIn 19 = .ok (.invokevirtual 91, 3) := by decide +kernel
theorem dX6_findsIn_22 : decode cX6_findsIn 22 = .ok (.aload_n 0, 1) := by decide +kernel
theorem dX6_findsIn_23 : decode cX6_findsIn 23 = .ok (.dup, 1) := by decide +kernel
theorem dX6_findsIn_24 : decode cX6_findsIn 24 = .ok (.getfield 107, 3) := by decide +kernel
theorem dX6_findsIn_27 : decode cX6_findsIn 27 = .ok (.iconst 1, 1) := by decide +kernel
theorem dX6_findsIn_28 : decode cX6_findsIn 28 = .ok (.iadd, 1) := by decide +kernel
theorem dX6_findsIn_29 : decode cX6_findsIn 29 = .ok (.putfield 107, 3) := by decide +kernel
theorem dX6_findsIn_32 : decode cX6_findsIn 32 = .ok (.return_, 1) := by decide +kernel
theorem dX6_looks_0 : decode cX6_looks 0 = .ok (.iconst 0, 1) := by decide +kernel
theorem dX6_looks_1 : decode cX6_looks 1 = .ok (.istore_n 2, 1) := by decide +kernel
theorem dX6_looks_2 : decode cX6_looks 2 = .ok (.iload_n 2, 1) := by decide +kernel
theorem dX6_looks_3 : decode cX6_looks 3 = .ok (.iconst 3, 1) := by decide +kernel
theorem dX6_looks_4 : decode cX6_looks 4 = .ok (.if_icmp .ge 21, 3) := by decide +kernel
theorem dX6_looks_7 : decode cX6_looks 7 = .ok (.aload_n 0, 1) := by decide +kernel
theorem dX6_looks_8 : decode cX6_looks 8 = .ok (.getfield 19, 3) := by decide +kernel
theorem dX6_looks_11 : decode cX6_looks 11 = .ok (.iload_n 2, 1) := by decide +kernel
theorem dX6_looks_12 : decode cX6_looks 12 = .ok (.aload_n 0, 1) := by decide +kernel
theorem dX6_looks_13 : decode cX6_looks 13 = .ok (.iload_n 2, 1) := by decide +kernel
theorem dX6_looks_14 : decode cX6_looks 14 = .ok (.iload_n 1, 1) := by decide +kernel
theorem dX6_looks_15 : decode cX6_looks 15 = .ok (.invokevirtual 79, 3) := by decide +kernel
theorem dX6_looks_18 : decode cX6_looks 18 = .ok (.iastore, 1) := by decide +kernel
theorem dX6_looks_19 : decode cX6_looks 19 = .ok (.iinc 2 1, 3) := by decide +kernel
theorem dX6_looks_22 : decode cX6_looks 22 = .ok (.goto (-20), 3) := by decide +kernel
theorem dX6_looks_25 : decode cX6_looks 25 = .ok (.aload_n 0, 1) := by decide +kernel
theorem dX6_looks_26 : decode cX6_looks 26 = .ok (.aload_n 0, 1) := by decide +kernel
theorem dX6_looks_27 : decode cX6_looks 27 = .ok (.getfield 19, 3) := by decide +kernel
theorem dX6_looks_30 : decode cX6_looks 30 = .ok (.iconst 0, 1) := by decide +kernel
theorem dX6_looks_31 : decode cX6_looks 31 = .ok (.iaload, 1) := by decide +kernel
theorem dX6_looks_32 : decode cX6_looks 32 = .ok (.aload_n 0, 1) := by decide +kernel
theorem dX6_looks_33 : decode cX6_looks 33 = .ok (.getfield 19, 3) := by decide +kernel
theorem dX6_looks_36 : decode cX6_looks 36 = .ok (.iconst 1, 1) := by decide +kernel
theorem dX6_looks_37 : decode cX6_looks 37 = .ok (.iaload, 1) := by decide +kernel
theorem dX6_looks_38 : decode cX6_looks 38 = .ok (.aload_n 0, 1) := by decide +kernel
theorem dX6_looks_39 : decode cX6_looks 39 = .ok (.getfield 19, 3) := by decide +kernel
theorem dX6_looks_42 : decode cX6_looks 42 = .ok (.iconst 2, 1) := by decide +kernel
theorem dX6_looks_43 : decode cX6_looks 43 = .ok (.iaload, 1) := by decide +kernel
theorem dX6_looks_44 : decode cX6_looks 44 = .ok (.invokevirtual 91, 3) := by decide +kernel
theorem dX6_looks_47 : decode cX6_looks 47 = .ok (.aload_n 0, 1) := by decide +kernel
theorem dX6_looks_48 : decode cX6_looks 48 = .ok (.aload_n 0, 1) := by decide +kernel
theorem dX6_looks_49 : decode cX6_looks 49 = .ok (.getfield 85, 3) := by decide +kernel
theorem dX6_looks_52 : decode cX6_looks 52 = .ok (.putfield 110, 3) := by decide +kernel
theorem dX6_looks_55 : decode cX6_looks 55 = .ok (.aload_n 0, 1) := by decide +kernel
theorem dX6_looks_56 : decode cX6_looks 56 = .ok (.iconst 1, 1) := by decide +kernel
theorem dX6_looks_57 : decode cX6_looks 57 = .ok (.putfield 107, 3) := by decide +kernel
theorem dX6_looks_60 : decode cX6_looks 60 = .ok (.aload_n 0, 1) := by decide +kernel
theorem dX6_looks_61 : decode cX6_looks 61 = .ok (.getfield 110, 3) := by decide +kernel
theorem dX6_looks_64 : decode cX6_looks 64 = .ok (.sipush 510, 3) := by decide +kernel
theorem dX6_looks_67 : decode cX6_looks 67 = .ok (.idiv, 1) := by decide +kernel
theorem dX6_looks_68 : decode cX6_looks 68 = .ok (.istore_n 2, 1) := by decide +kernel
theorem dX6_looks_69 : decode cX6_looks 69 = .ok (.aload_n 0, 1) := by decide +kernel
theorem dX6_looks_70 : decode cX6_looks 70 = .ok (.iload_n 2, 1) := by decide +kernel
theorem dX6_looks_71 : decode cX6_looks 71 = .ok (.invokevirtual 113, 3) := by decide +kernel
theorem dX6_looks_74 : decode cX6_looks 74 = .ok (.aload_n 0, 1) := by decide +kernel
theorem dX6_looks_75 : decode cX6_looks 75 = .ok (.getfield 85, 3) := by decide +kernel
theorem dX6_looks_78 : decode cX6_looks 78 = .ok (.sipush 510, 3) := by decide +kernel
theorem dX6_looks_81 : decode cX6_looks 81 = .ok (.idiv, 1) := by decide +kernel
theorem dX6_looks_82 : decode cX6_looks 82 = .ok (.iload_n 2, 1) := by decide +kernel
theorem dX6_looks_83 : decode cX6_looks 83 = .ok (.if_icmp .eq 15, 3) := by decide +kernel
theorem dX6_looks_86 : decode cX6_looks 86 = .ok (.aload_n 0, 1) := by decide +kernel
theorem dX6_looks_87 : decode cX6_looks 87 = .ok (.aload_n 0, 1) := by decide +kernel
theorem dX6_looks_88 : decode cX6_looks 88 = .ok (.getfield 85, 3) := by decide +kernel
theorem dX6_looks_91 : decode cX6_looks 91 = .ok (.sipush 510, 3) := by decide +kernel
theorem dX6_looks_94 : decode cX6_looks 94 = .ok (.idiv, 1) := by decide +kernel
theorem dX6_looks_95 : decode cX6_looks 95 = .ok (.invokevirtual 113, 3) := by decide +kernel
theorem dX6_looks_98 : decode cX6_looks 98 = .ok (.return_, 1) := by decide +kernel
theorem dX6_look_0 : decode cX6_look 0 = .ok (.iload_n 1, 1) := by decide +kernel
theorem dX6_look_1 : decode cX6_look 1 = .ok (.iconst 0, 1) := by decide +kernel
theorem dX6_look_2 : decode cX6_look 2 = .ok (.iconst 4, 1) := by decide +kernel
theorem dX6_look_3 : decode cX6_look 3 = .ok (.invokestatic 32, 3) := by decide +kernel
theorem dX6_look_6 : decode cX6_look 6 = .ok (.ifCond .ne 5, 3) := by decide +kernel
theorem dX6_look_9 : decode cX6_look 9 = .ok (.iconst (-1), 1) := by decide +kernel
theorem dX6_look_10 : decode cX6_look 10 = .ok (.ireturn, 1) := by decide +kernel
theorem dX6_look_11 : decode cX6_look 11 = .ok (.aload_n 0, 1) := by decide +kernel
theorem dX6_look_12 : decode cX6_look 12 = .ok (.aload_n 0, 1) := by decide +kernel
theorem dX6_look_13 : decode cX6_look 13 = .ok (.invokevirtual 55, 3) := by decide +kernel
theorem dX6_look_16 : decode cX6_look 16 = .ok (.invokevirtual 116, 3) := by decide +kernel
theorem dX6_look_19 : decode cX6_look 19 = .ok (.iload_n 1, 1) := by decide +kernel
theorem dX6_look_20 : decode cX6_look 20 = .ok (.tableswitch 52 0 3 #[32, 37, 42, 47], 32) := by decide +kernel
theorem dX6_look_52 : decode cX6_look 52 = .ok (.aload_n 0, 1) := by decide +kernel
theorem dX6_look_53 : decode cX6_look 53 = .ok (.getfield 85, 3) := by decide +kernel
theorem dX6_look_56 : decode cX6_look 56 = .ok (.ireturn, 1) := by decide +kernel
theorem dX6_look_57 : decode cX6_look 57 = .ok (.aload_n 0, 1) := by decide +kernel
theorem dX6_look_58 : decode cX6_look 58 = .ok (.getfield 82, 3) := by decide +kernel
theorem dX6_look_61 : decode cX6_look 61 = .ok (.ireturn, 1) := by decide +kernel
theorem dX6_look_62 : decode cX6_look 62 = .ok (.aload_n 0, 1) := by decide +kernel
theorem dX6_look_63 : decode cX6_look 63 = .ok (.getfield 110, 3) := by decide +kernel
theorem dX6_look_66 : decode cX6_look 66 = .ok (.ireturn, 1) := by decide +kernel
theorem dX6_look_67 : decode cX6_look 67 = .ok (.aload_n 0, 1) := by decide +kernel
theorem dX6_look_68 : decode cX6_look 68 = .ok (.getfield 107, 3) := by decide +kernel
theorem dX6_look_71 : decode cX6_look 71 = .ok (.ireturn, 1) := by decide +kernel
theorem dX6_look_72 : decode cX6_look 72 = .ok (.aload_n 0, 1) := by decide +kernel
theorem dX6_look_73 : decode cX6_look 73 = .ok (.getfield 85, 3) := by decide +kernel
theorem dX6_look_76 : decode cX6_look 76 = .ok (.aload_n 0, 1) := by decide +kernel
theorem dX6_look_77 : decode cX6_look 77 = .ok (.invokevirtual 55, 3) := by decide +kernel
theorem dX6_look_80 : decode cX6_look 80 = .ok (.if_icmp .ne 7, 3) := by decide +kernel
theorem dX6_look_83 : decode cX6_look 83 = .ok (.iconst 1, 1) := by decide +kernel
theorem dX6_look_84 : decode cX6_look 84 = .ok (.goto 4, 3) := by decide +kernel
theorem dX6_look_87 : decode cX6_look 87 = .ok (.iconst 0, 1) := by decide +kernel
theorem dX6_look_88 : decode cX6_look 88 = .ok (.ireturn, 1) := by decide +kernel
theorem dX6_survey_0 : decode cX6_survey 0 = .ok (.iload_n 1, 1) := by decide +kernel
theorem dX6_survey_1 : decode cX6_survey 1 = .ok (.bipush 102, 2) := by decide +kernel
theorem dX6_survey_3 : decode cX6_survey 3 = .ok (.sipush 4080, 3) := by decide +kernel
theorem dX6_survey_6 : decode cX6_survey 6 = .ok (.invokestatic 32, 3) := by decide +kernel
theorem dX6_survey_9 : decode cX6_survey 9 = .ok (.ifCond .eq 12, 3) := by decide +kernel
theorem dX6_survey_12 : decode cX6_survey 12 = .ok (.iload_n 2, 1) := by decide +kernel
theorem dX6_survey_13 : decode cX6_survey 13 = .ok (.iconst 0, 1) := by decide +kernel
theorem dX6_survey_14 : decode cX6_survey 14 = .ok (.iconst 2, 1) := by decide +kernel
theorem dX6_survey_15 : decode cX6_survey 15 = .ok (.invokestatic 32, 3) := by decide +kernel
theorem dX6_survey_18 : decode cX6_survey 18 = .ok (.ifCond .ne 5, 3) := by decide +kernel
theorem dX6_survey_21 : decode cX6_survey 21 = .ok (.iconst (-1), 1) := by decide +kernel
theorem dX6_survey_22 : decode cX6_survey 22 = .ok (.ireturn, 1) := by decide +kernel
theorem dX6_survey_23 : decode cX6_survey 23 = .ok (.iconst 0, 1) := by decide +kernel
theorem dX6_survey_24 : decode cX6_survey 24 = .ok (.istore_n 3, 1) := by decide +kernel
theorem dX6_survey_25 : decode cX6_survey 25 = .ok (.bipush (-4), 2) := by decide +kernel
theorem dX6_survey_27 : decode cX6_survey 27 = .ok (.istore 4, 2) := by decide +kernel
theorem dX6_survey_29 : decode cX6_survey 29 = .ok (.iconst 0, 1) := by decide +kernel
theorem dX6_survey_30 : decode cX6_survey 30 = .ok (.istore 5, 2) := by decide +kernel
theorem dX6_survey_32 : decode cX6_survey 32 = .ok (.iconst 0, 1) := by decide +kernel
theorem dX6_survey_33 : decode cX6_survey 33 = .ok (.istore 6, 2) := by decide +kernel
theorem dX6_survey_35 : decode cX6_survey 35 = .ok (.iload 6, 2) := by decide +kernel
theorem dX6_survey_37 : decode cX6_survey 37 = .ok (.sipush 4080, 3) := by decide +kernel
theorem dX6_survey_40 : decode cX6_survey 40 = .ok (.if_icmp .ge 77, 3) := by decide +kernel
theorem dX6_survey_43 : decode cX6_survey 43 = .ok (.aload_n 0, 1) := by decide +kernel
theorem dX6_survey_44 : decode cX6_survey 44 = .ok (.iload 6, 2) := by decide +kernel
theorem dX6_survey_46 : decode cX6_survey 46 = .ok (.invokevirtual 116, 3) := by decide +kernel
theorem dX6_survey_49 : decode cX6_survey 49 = .ok (.aload_n 0, 1) := by decide +kernel
theorem dX6_survey_50 : decode cX6_survey 50 = .ok (.getfield 85, 3) := by decide +kernel
theorem dX6_survey_53 : decode cX6_survey 53 = .ok (.iload 6, 2) := by decide +kernel
theorem dX6_survey_55 : decode cX6_survey 55 = .ok (.if_icmp .eq 12, 3) := by decide +kernel
theorem dX6_survey_58 : decode cX6_survey 58 = .ok (.iload_n 3, 1) := by decide +kernel
theorem dX6_survey_59 : decode cX6_survey 59 = .ok (.ifCond .ne 8, 3) := by decide +kernel
theorem dX6_survey_62 : decode cX6_survey 62 = .ok (.iload 6, 2) := by decide +kernel
theorem dX6_survey_64 : decode cX6_survey 64 = .ok (.goto 5, 3) := by decide +kernel
theorem dX6_survey_67 : decode cX6_survey 67 = .ok (.iload 4, 2) := by decide +kernel
theorem dX6_survey_69 : decode cX6_survey 69 = .ok (.istore 4, 2) := by decide +kernel
theorem dX6_survey_71 : decode cX6_survey 71 = .ok (.iload_n 3, 1) := by decide +kernel
theorem dX6_survey_72 : decode cX6_survey 72 = .ok (.aload_n 0, 1) := by decide +kernel
theorem dX6_survey_73 : decode cX6_survey 73 = .ok (.getfield 85, 3) := by decide +kernel
theorem dX6_survey_76 : decode cX6_survey 76 = .ok (.iload 6, 2) := by decide +kernel
theorem dX6_survey_78 : decode cX6_survey 78 = .ok (.if_icmp .ne 7, 3) := by decide +kernel
theorem dX6_survey_81 : decode cX6_survey 81 = .ok (.iconst 0, 1) := by decide +kernel
theorem dX6_survey_82 : decode cX6_survey 82 = .ok (.goto 4, 3) := by decide +kernel
theorem dX6_survey_85 : decode cX6_survey 85 = .ok (.iconst 1, 1) := by decide +kernel
theorem dX6_survey_86 : decode cX6_survey 86 = .ok (.iadd, 1) := by decide +kernel
theorem dX6_survey_87 : decode cX6_survey 87 = .ok (.istore_n 3, 1) := by decide +kernel
theorem dX6_survey_88 : decode cX6_survey 88 = .ok (.aload_n 0, 1) := by decide +kernel
theorem dX6_survey_89 : decode cX6_survey 89 = .ok (.getfield 82, 3) := by decide +kernel
theorem dX6_survey_92 : decode cX6_survey 92 = .ok (.iload 5, 2) := by decide +kernel
theorem dX6_survey_94 : decode cX6_survey 94 = .ok (.if_icmp .le 10, 3) := by decide +kernel
theorem dX6_survey_97 : decode cX6_survey 97 = .ok (.aload_n 0, 1) := by decide +kernel
theorem dX6_survey_98 : decode cX6_survey 98 = .ok (.getfield 82, 3) := by decide +kernel
theorem dX6_survey_101 : decode cX6_survey 101 = .ok (.goto 5, 3) := by decide +kernel
theorem dX6_survey_104 : decode cX6_survey 104 = .ok (.iload 5, 2) := by decide +kernel
theorem dX6_survey_106 : decode cX6_survey 106 = .ok (.istore 5, 2) := by decide +kernel
theorem dX6_survey_108 : decode cX6_survey 108 = .ok (.iload 6, 2) := by decide +kernel
theorem dX6_survey_110 : decode cX6_survey 110 = .ok (.iload_n 1, 1) := by decide +kernel
theorem dX6_survey_111 : decode cX6_survey 111 = .ok (.iadd, 1) := by decide +kernel
theorem dX6_survey_112 : decode cX6_survey 112 = .ok (.istore 6, 2) := by decide +kernel
theorem dX6_survey_114 : decode cX6_survey 114 = .ok (.goto (-79), 3) := by decide +kernel
theorem dX6_survey_117 : decode cX6_survey 117 = .ok (.iload_n 2, 1) := by decide +kernel
theorem dX6_survey_118 : decode cX6_survey 118 = .ok (.ifCond .ne 7, 3) := by decide +kernel
theorem dX6_survey_121 : decode cX6_survey 121 = .ok (.iload_n 3, 1) := by decide +kernel
theorem dX6_survey_122 : decode cX6_survey 122 = .ok (.goto 15, 3) := by decide +kernel
theorem dX6_survey_125 : decode cX6_survey 125 = .ok (.iload_n 2, 1) := by decide +kernel
theorem dX6_survey_126 : decode cX6_survey 126 = .ok (.iconst 1, 1) := by decide +kernel
theorem dX6_survey_127 : decode cX6_survey 127 = .ok (.if_icmp .ne 8, 3) := by decide +kernel
theorem dX6_survey_130 : decode cX6_survey 130 = .ok (.iload 4, 2) := by decide +kernel
theorem dX6_survey_132 : decode cX6_survey 132 = .ok (.goto 5, 3) := by decide +kernel
theorem dX6_survey_135 : decode cX6_survey 135 = .ok (.iload 5, 2) := by decide +kernel
theorem dX6_survey_137 : decode cX6_survey 137 = .ok (.ireturn, 1) := by decide +kernel
theorem dX6_poor_0 : decode cX6_poor 0 = .ok (.iconst 0, 1) := by decide +kernel
theorem dX6_poor_1 : decode cX6_poor 1 = .ok (.istore_n 1, 1) := by decide +kernel
theorem dX6_poor_2 : decode cX6_poor 2 = .ok (.iconst 0, 1) := by decide +kernel
theorem dX6_poor_3 : decode cX6_poor 3 = .ok (.istore_n 2, 1) := by decide +kernel
theorem dX6_poor_4 : decode cX6_poor 4 = .ok (.iload_n 2, 1) := by decide +kernel
theorem dX6_poor_5 : decode cX6_poor 5 = .ok (.bipush 8, 2) := by decide +kernel
theorem dX6_poor_7 : decode cX6_poor 7 = .ok (.if_icmp .ge 116, 3) := by decide +kernel
theorem dX6_poor_10 : decode cX6_poor 10 = .ok (.iconst 0, 1) := by decide +kernel
theorem dX6_poor_11 : decode cX6_poor 11 = .ok (.istore_n 3, 1) := by decide +kernel
theorem dX6_poor_12 : decode cX6_poor 12 = .ok (.iconst 0, 1) := by decide +kernel
theorem dX6_poor_13 : decode cX6_poor 13 = .ok (.istore 4, 2) := by decide +kernel
theorem dX6_poor_15 : decode cX6_poor 15 = .ok (.iload 4, 2) := by decide +kernel
theorem dX6_poor_17 : decode cX6_poor 17 = .ok (.iconst 3, 1) := by decide +kernel
theorem dX6_poor_18 : decode cX6_poor 18 = .ok (.if_icmp .ge 87, 3) := by decide +kernel
theorem dX6_poor_21 : decode cX6_poor 21 = .ok (.bipush 8, 2) := by decide +kernel
theorem dX6_poor_23 : decode cX6_poor 23 = .ok (.iload 4, 2) := by decide +kernel
theorem dX6_poor_25 : decode cX6_poor 25 = .ok (.imul, 1) := by decide +kernel
theorem dX6_poor_26 : decode cX6_poor 26 = .ok (.iload_n 2, 1) := by decide +kernel
theorem dX6_poor_27 : decode cX6_poor 27 = .ok (.iadd, 1) := by decide +kernel
theorem dX6_poor_28 : decode cX6_poor 28 = .ok (.istore 5, 2) := by decide +kernel
theorem dX6_poor_30 : decode cX6_poor 30 = .ok (.aload_n 0, 1) := by decide +kernel
theorem dX6_poor_31 : decode cX6_poor 31 = .ok (.getfield 7, 3) := by decide +kernel
theorem dX6_poor_34 : decode cX6_poor 34 = .ok (.bipush 11, 2) := by decide +kernel
theorem dX6_poor_36 : decode cX6_poor 36 = .ok (.iload 5, 2) := by decide +kernel
theorem dX6_poor_38 : decode cX6_poor 38 = .ok (.iadd, 1) := by decide +kernel
theorem dX6_poor_39 : decode cX6_poor 39 = .ok (.iaload, 1) := by decide +kernel
theorem dX6_poor_40 : decode cX6_poor 40 = .ok (.aload_n 0, 1) := by decide +kernel
theorem dX6_poor_41 : decode cX6_poor 41 = .ok (.getfield 7, 3) := by decide +kernel
theorem dX6_poor_44 : decode cX6_poor 44 = .ok (.bipush 35, 2) := by decide +kernel
theorem dX6_poor_46 : decode cX6_poor 46 = .ok (.iload 4, 2) := by decide +kernel
theorem dX6_poor_48 : decode cX6_poor 48 = .ok (.iadd, 1) := by decide +kernel
theorem dX6_poor_49 : decode cX6_poor 49 = .ok (.iaload, 1) := by decide +kernel
theorem dX6_poor_50 : decode cX6_poor 50 = .ok (.iadd, 1) := by decide +kernel
theorem dX6_poor_51 : decode cX6_poor 51 = .ok (.aload_n 0, 1) := by decide +kernel
theorem dX6_poor_52 : decode cX6_poor 52 = .ok (.getfield 7, 3) := by decide +kernel
theorem dX6_poor_55 : decode cX6_poor 55 = .ok (.bipush 38, 2) := by decide +kernel
theorem dX6_poor_57 : decode cX6_poor 57 = .ok (.iload 5, 2) := by decide +kernel
theorem dX6_poor_59 : decode cX6_poor 59 = .ok (.iadd, 1) := by decide +kernel
theorem dX6_poor_60 : decode cX6_poor 60 = .ok (.iaload, 1) := by decide +kernel
theorem dX6_poor_61 : decode cX6_poor 61 = .ok (.isub, 1) := by decide +kernel
theorem dX6_poor_62 : decode cX6_poor 62 = .ok (.istore 6, 2) := by decide +kernel
theorem dX6_poor_64 : decode cX6_poor 64 = .ok (.iload_n 3, 1) := by decide +kernel
theorem dX6_poor_65 : decode cX6_poor 65 = .ok (.ifCond .ne 28, 3) := by decide +kernel
theorem dX6_poor_68 : decode cX6_poor 68 = .ok (.iload 6, 2) := by decide +kernel
theorem dX6_poor_70 : decode cX6_poor 70 = .ok (.aload_n 0, 1) := by decide +kernel
theorem dX6_poor_71 : decode cX6_poor 71 = .ok (.getfield 7, 3) := by decide +kernel
theorem dX6_poor_74 : decode cX6_poor 74 = .ok (.bipush 7, 2) := by decide +kernel
theorem dX6_poor_76 : decode cX6_poor 76 = .ok (.iaload, 1) := by decide +kernel
theorem dX6_poor_77 : decode cX6_poor 77 = .ok (.if_icmp .gt 16, 3) := by decide +kernel
theorem dX6_poor_80 : decode cX6_poor 80 = .ok (.iload 6, 2) := by decide +kernel
theorem dX6_poor_82 : decode cX6_poor 82 = .ok (.aload_n 0, 1) := by decide +kernel
theorem dX6_poor_83 : decode cX6_poor 83 = .ok (.getfield 7, 3) := by decide +kernel
theorem dX6_poor_86 : decode cX6_poor 86 = .ok (.bipush 7, 2) := by decide +kernel
theorem dX6_poor_88 : decode cX6_poor 88 = .ok (.iaload, 1) := by decide +kernel
theorem dX6_poor_89 : decode cX6_poor 89 = .ok (.ineg, 1) := by decide +kernel
theorem dX6_poor_90 : decode cX6_poor 90 = .ok (.if_icmp .ge 7, 3) := by decide +kernel
theorem dX6_poor_93 : decode cX6_poor 93 = .ok (.iconst 1, 1) := by decide +kernel
theorem dX6_poor_94 : decode cX6_poor 94 = .ok (.goto 4, 3) := by decide +kernel
theorem dX6_poor_97 : decode cX6_poor 97 = .ok (.iconst 0, 1) := by decide +kernel
theorem dX6_poor_98 : decode cX6_poor 98 = .ok (.istore_n 3, 1) := by decide +kernel
theorem dX6_poor_99 : decode cX6_poor 99 = .ok (.iinc 4 1, 3) := by decide +kernel
theorem dX6_poor_102 : decode cX6_poor 102 = .ok (.goto (-87), 3) := by decide +kernel
theorem dX6_poor_105 : decode cX6_poor 105 = .ok (.iload_n 1, 1) := by decide +kernel
theorem dX6_poor_106 : decode cX6_poor 106 = .ok (.iload_n 3, 1) := by decide +kernel
theorem dX6_poor_107 : decode cX6_poor 107 = .ok (.ifCond .eq 7, 3) := by decide +kernel
theorem dX6_poor_110 : decode cX6_poor 110 = .ok (.iconst 1, 1) := by decide +kernel
theorem dX6_poor_111 : decode cX6_poor 111 = .ok (.goto 4, 3) := by decide +kernel
theorem dX6_poor_114 : decode cX6_poor 114 = .ok (.iconst 0, 1) := by decide +kernel
theorem dX6_poor_115 : decode cX6_poor 115 = .ok (.iadd, 1) := by decide +kernel
theorem dX6_poor_116 : decode cX6_poor 116 = .ok (.istore_n 1, 1) := by decide +kernel
theorem dX6_poor_117 : decode cX6_poor 117 = .ok (.iinc 2 1, 3) := by decide +kernel
theorem dX6_poor_120 : decode cX6_poor 120 = .ok (.goto (-116), 3) := by decide +kernel
theorem dX6_poor_123 : decode cX6_poor 123 = .ok (.iload_n 1, 1) := by decide +kernel
theorem dX6_poor_124 : decode cX6_poor 124 = .ok (.ireturn, 1) := by decide +kernel
theorem dX6_fitting_0 : decode cX6_fitting 0 = .ok (.aload_n 0, 1) := by decide +kernel
theorem dX6_fitting_1 : decode cX6_fitting 1 = .ok (.getfield 85, 3) := by decide +kernel
theorem dX6_fitting_4 : decode cX6_fitting 4 = .ok (.sipush 1020, 3) := by decide +kernel
theorem dX6_fitting_7 : decode cX6_fitting 7 = .ok (.idiv, 1) := by decide +kernel
theorem dX6_fitting_8 : decode cX6_fitting 8 = .ok (.aload_n 0, 1) := by decide +kernel
theorem dX6_fitting_9 : decode cX6_fitting 9 = .ok (.getfield 7, 3) := by decide +kernel
theorem dX6_fitting_12 : decode cX6_fitting 12 = .ok (.iconst 2, 1) := by decide +kernel
theorem dX6_fitting_13 : decode cX6_fitting 13 = .ok (.iaload, 1) := by decide +kernel
theorem dX6_fitting_14 : decode cX6_fitting 14 = .ok (.isub, 1) := by decide +kernel
theorem dX6_fitting_15 : decode cX6_fitting 15 = .ok (.iconst 4, 1) := by decide +kernel
theorem dX6_fitting_16 : decode cX6_fitting 16 = .ok (.invokestatic 28, 3) := by decide +kernel
theorem dX6_fitting_19 : decode cX6_fitting 19 = .ok (.istore_n 1, 1) := by decide +kernel
theorem dX6_fitting_20 : decode cX6_fitting 20 = .ok (.iload_n 1, 1) := by decide +kernel
theorem dX6_fitting_21 : decode cX6_fitting 21 = .ok (.iconst 2, 1) := by decide +kernel
theorem dX6_fitting_22 : decode cX6_fitting 22 = .ok (.if_icmp .ne 7, 3) := by decide +kernel
theorem dX6_fitting_25 : decode cX6_fitting 25 = .ok (.iconst (-1), 1) := by decide +kernel
theorem dX6_fitting_26 : decode cX6_fitting 26 = .ok (.goto 25, 3) := by decide +kernel
theorem dX6_fitting_29 : decode cX6_fitting 29 = .ok (.aload_n 0, 1) := by decide +kernel
theorem dX6_fitting_30 : decode cX6_fitting 30 = .ok (.getfield 7, 3) := by decide +kernel
theorem dX6_fitting_33 : decode cX6_fitting 33 = .ok (.iconst 2, 1) := by decide +kernel
theorem dX6_fitting_34 : decode cX6_fitting 34 = .ok (.iaload, 1) := by decide +kernel
theorem dX6_fitting_35 : decode cX6_fitting 35 = .ok (.iload_n 1, 1) := by decide +kernel
theorem dX6_fitting_36 : decode cX6_fitting 36 = .ok (.iconst 3, 1) := by decide +kernel
theorem dX6_fitting_37 : decode cX6_fitting 37 = .ok (.if_icmp .ne 7, 3) := by decide +kernel
theorem dX6_fitting_40 : decode cX6_fitting 40 = .ok (.iconst (-1), 1) := by decide +kernel
theorem dX6_fitting_41 : decode cX6_fitting 41 = .ok (.goto 4, 3) := by decide +kernel
theorem dX6_fitting_44 : decode cX6_fitting 44 = .ok (.iload_n 1, 1) := by decide +kernel
theorem dX6_fitting_45 : decode cX6_fitting 45 = .ok (.iadd, 1) := by decide +kernel
theorem dX6_fitting_46 : decode cX6_fitting 46 = .ok (.bipush 64, 2) := by decide +kernel
theorem dX6_fitting_48 : decode cX6_fitting 48 = .ok (.invokestatic 28, 3) := by decide +kernel
theorem dX6_fitting_51 : decode cX6_fitting 51 = .ok (.ireturn, 1) := by decide +kernel
theorem dX6_isCoarseApart_0 : decode cX6_isCoarseApart 0 = .ok (.aload_n 0, 1) := by decide +kernel
theorem dX6_isCoarseApart_1 : decode cX6_isCoarseApart 1 = .ok (.invokevirtual 59, 3) := by decide +kernel
theorem dX6_isCoarseApart_4 : decode cX6_isCoarseApart 4 = .ok (.aload_n 0, 1) := by decide +kernel
theorem dX6_isCoarseApart_5 : decode cX6_isCoarseApart 5 = .ok (.getfield 85, 3) := by decide +kernel
theorem dX6_isCoarseApart_8 : decode cX6_isCoarseApart 8 = .ok (.bipush 64, 2) := by decide +kernel
theorem dX6_isCoarseApart_10 : decode cX6_isCoarseApart 10 = .ok (.imul, 1) := by decide +kernel
theorem dX6_isCoarseApart_11 : decode cX6_isCoarseApart 11 = .ok (.sipush 4080, 3) := by decide +kernel
theorem dX6_isCoarseApart_14 : decode cX6_isCoarseApart 14 = .ok (.idiv, 1) := by decide +kernel
theorem dX6_isCoarseApart_15 : decode cX6_isCoarseApart 15 = .ok (.bipush 64, 2) := by decide +kernel
theorem dX6_isCoarseApart_17 : decode cX6_isCoarseApart 17 = .ok (.invokestatic 119, 3) := by decide +kernel
theorem dX6_isCoarseApart_20 : decode cX6_isCoarseApart 20 = .ok (.aload_n 0, 1) := by decide +kernel
theorem dX6_isCoarseApart_21 : decode cX6_isCoarseApart 21 = .ok (.getfield 7, 3) := by decide +kernel
theorem dX6_isCoarseApart_24 : decode cX6_isCoarseApart 24 = .ok (.bipush 8, 2) := by decide +kernel
theorem dX6_isCoarseApart_26 : decode cX6_isCoarseApart 26 = .ok (.iaload, 1) := by decide +kernel
theorem dX6_isCoarseApart_27 : decode cX6_isCoarseApart 27 = .ok (.if_icmp .le 7, 3) := by decide +kernel
theorem dX6_isCoarseApart_30 : decode cX6_isCoarseApart 30 = .ok (.iconst 1, 1) := by decide +kernel
theorem dX6_isCoarseApart_31 : decode cX6_isCoarseApart 31 = .ok (.goto 4, 3) := by decide +kernel
theorem dX6_isCoarseApart_34 : decode cX6_isCoarseApart 34 = .ok (.iconst 0, 1) := by decide +kernel
theorem dX6_isCoarseApart_35 : decode cX6_isCoarseApart 35 = .ok (.ireturn, 1) := by decide +kernel
theorem dX6_placeFound_0 : decode cX6_placeFound 0 = .ok (.aload_n 0, 1) := by decide +kernel
theorem dX6_placeFound_1 : decode cX6_placeFound 1 = .ok (.invokevirtual 123, 3) := by decide +kernel
theorem dX6_placeFound_4 : decode cX6_placeFound 4 = .ok (.iconst 4, 1) := by decide +kernel
theorem dX6_placeFound_5 : decode cX6_placeFound 5 = .ok (.idiv, 1) := by decide +kernel
theorem dX6_placeFound_6 : decode cX6_placeFound 6 = .ok (.sipush 4080, 3) := by decide +kernel
theorem dX6_placeFound_9 : decode cX6_placeFound 9 = .ok (.imul, 1) := by decide +kernel
theorem dX6_placeFound_10 : decode cX6_placeFound 10 = .ok (.aload_n 0, 1) := by decide +kernel
theorem dX6_placeFound_11 : decode cX6_placeFound 11 = .ok (.getfield 85, 3) := by decide +kernel
theorem dX6_placeFound_14 : decode cX6_placeFound 14 = .ok (.iadd, 1) := by decide +kernel
theorem dX6_placeFound_15 : decode cX6_placeFound 15 = .ok (.ireturn, 1) := by decide +kernel
theorem dX6_why_0 : decode cX6_why 0 = .ok (.aload_n 0, 1) := by decide +kernel
theorem dX6_why_1 : decode cX6_why 1 = .ok (.getfield 82, 3) := by decide +kernel
theorem dX6_why_4 : decode cX6_why 4 = .ok (.aload_n 0, 1) := by decide +kernel
theorem dX6_why_5 : decode cX6_why 5 = .ok (.getfield 7, 3) := by decide +kernel
theorem dX6_why_8 : decode cX6_why 8 = .ok (.bipush 7, 2) := by decide +kernel
theorem dX6_why_10 : decode cX6_why 10 = .ok (.iaload, 1) := by decide +kernel
theorem dX6_why_11 : decode cX6_why 11 = .ok (.if_icmp .le 5, 3) := by decide +kernel
theorem dX6_why_14 : decode cX6_why 14 = .ok (.iconst 1, 1) := by decide +kernel
theorem dX6_why_15 : decode cX6_why 15 = .ok (.ireturn, 1) := by decide +kernel
theorem dX6_why_16 : decode cX6_why 16 = .ok (.aload_n 0, 1) := by decide +kernel
theorem dX6_why_17 : decode cX6_why 17 = .ok (.invokevirtual 123, 3) := by decide +kernel
theorem dX6_why_20 : decode cX6_why 20 = .ok (.iconst (-1), 1) := by decide +kernel
theorem dX6_why_21 : decode cX6_why 21 = .ok (.if_icmp .ne 5, 3) := by decide +kernel
theorem dX6_why_24 : decode cX6_why 24 = .ok (.iconst 2, 1) := by decide +kernel
theorem dX6_why_25 : decode cX6_why 25 = .ok (.ireturn, 1) := by decide +kernel
theorem dX6_why_26 : decode cX6_why 26 = .ok (.aload_n 0, 1) := by decide +kernel
theorem dX6_why_27 : decode cX6_why 27 = .ok (.invokevirtual 126, 3) := by decide +kernel
theorem dX6_why_30 : decode cX6_why 30 = .ok (.ifCond .eq 16, 3) := by decide +kernel
theorem dX6_why_33 : decode cX6_why 33 = .ok (.aload_n 0, 1) := by decide +kernel
theorem dX6_why_34 : decode cX6_why 34 = .ok (.getfield 7, 3) := by decide +kernel
theorem dX6_why_37 : decode cX6_why 37 = .ok (.bipush 6, 2) := by decide +kernel
theorem dX6_why_39 : decode cX6_why 39 = .ok (.iaload, 1) := by decide +kernel
theorem dX6_why_40 : decode cX6_why 40 = .ok (.iconst 2, 1) := by decide +kernel
theorem dX6_why_41 : decode cX6_why 41 = .ok (.if_icmp .lt 5, 3) := by decide +kernel
theorem dX6_why_44 : decode cX6_why 44 = .ok (.iconst 3, 1) := by decide +kernel
theorem dX6_why_45 : decode cX6_why 45 = .ok (.ireturn, 1) := by decide +kernel
theorem dX6_why_46 : decode cX6_why 46 = .ok (.aload_n 0, 1) := by decide +kernel
theorem dX6_why_47 : decode cX6_why 47 = .ok (.getfield 7, 3) := by decide +kernel
theorem dX6_why_50 : decode cX6_why 50 = .ok (.iconst 5, 1) := by decide +kernel
theorem dX6_why_51 : decode cX6_why 51 = .ok (.iaload, 1) := by decide +kernel
theorem dX6_why_52 : decode cX6_why 52 = .ok (.iconst (-1), 1) := by decide +kernel
theorem dX6_why_53 : decode cX6_why 53 = .ok (.if_icmp .eq 32, 3) := by decide +kernel
theorem dX6_why_56 : decode cX6_why 56 = .ok (.aload_n 0, 1) := by decide +kernel
theorem dX6_why_57 : decode cX6_why 57 = .ok (.invokevirtual 130, 3) := by decide +kernel
theorem dX6_why_60 : decode cX6_why 60 = .ok (.aload_n 0, 1) := by decide +kernel
theorem dX6_why_61 : decode cX6_why 61 = .ok (.getfield 7, 3) := by decide +kernel
theorem dX6_why_64 : decode cX6_why 64 = .ok (.iconst 5, 1) := by decide +kernel
theorem dX6_why_65 : decode cX6_why 65 = .ok (.iaload, 1) := by decide +kernel
theorem dX6_why_66 : decode cX6_why 66 = .ok (.ldc 133, 2) := by decide +kernel
theorem dX6_why_68 : decode cX6_why 68 = .ok (.invokestatic 119, 3) := by decide +kernel
theorem dX6_why_71 : decode cX6_why 71 = .ok (.aload_n 0, 1) := by decide +kernel
theorem dX6_why_72 : decode cX6_why 72 = .ok (.getfield 7, 3) := by decide +kernel
theorem dX6_why_75 : decode cX6_why 75 = .ok (.bipush 9, 2) := by decide +kernel
theorem dX6_why_77 : decode cX6_why 77 = .ok (.iaload, 1) := by decide +kernel
theorem dX6_why_78 : decode cX6_why 78 = .ok (.if_icmp .le 7, 3) := by decide +kernel
theorem dX6_why_81 : decode cX6_why 81 = .ok (.iconst 4, 1) := by decide +kernel
theorem dX6_why_82 : decode cX6_why 82 = .ok (.goto 4, 3) := by decide +kernel
theorem dX6_why_85 : decode cX6_why 85 = .ok (.iconst 0, 1) := by decide +kernel
theorem dX6_why_86 : decode cX6_why 86 = .ok (.ireturn, 1) := by decide +kernel
theorem dX6_sample_0 : decode cX6_sample 0 = .ok (.aload_n 0, 1) := by decide +kernel
theorem dX6_sample_1 : decode cX6_sample 1 = .ok (.getfield 7, 3) := by decide +kernel
theorem dX6_sample_4 : decode cX6_sample 4 = .ok (.iconst 1, 1) := by decide +kernel
theorem dX6_sample_5 : decode cX6_sample 5 = .ok (.iaload, 1) := by decide +kernel
theorem dX6_sample_6 : decode cX6_sample 6 = .ok (.ifCond .ne 6, 3) := by decide +kernel
theorem dX6_sample_9 : decode cX6_sample 9 = .ok (.bipush (-2), 2) := by decide +kernel
theorem dX6_sample_11 : decode cX6_sample 11 = .ok (.ireturn, 1) := by decide +kernel
theorem dX6_sample_12 : decode cX6_sample 12 = .ok (.aload_n 0, 1) := by decide +kernel
theorem dX6_sample_13 : decode cX6_sample 13 = .ok (.invokevirtual 44, 3) := by decide +kernel
theorem dX6_sample_16 : decode cX6_sample 16 = .ok (.aload_n 0, 1) := by decide +kernel
theorem dX6_sample_17 : decode cX6_sample 17 = .ok (.aload_n 0, 1) := by decide +kernel
theorem dX6_sample_18 : decode cX6_sample 18 = .ok (.invokevirtual 55, 3) := by decide +kernel
theorem dX6_sample_21 : decode cX6_sample 21 = .ok (.invokevirtual 116, 3) := by decide +kernel
theorem dX6_sample_24 : decode cX6_sample 24 = .ok (.aload_n 0, 1) := by decide +kernel
theorem dX6_sample_25 : decode cX6_sample 25 = .ok (.invokevirtual 134, 3) := by decide +kernel
theorem dX6_sample_28 : decode cX6_sample 28 = .ok (.istore_n 1, 1) := by decide +kernel
theorem dX6_sample_29 : decode cX6_sample 29 = .ok (.iload_n 1, 1) := by decide +kernel
theorem dX6_sample_30 : decode cX6_sample 30 = .ok (.iconst 1, 1) := by decide +kernel
theorem dX6_sample_31 : decode cX6_sample 31 = .ok (.if_icmp .eq 8, 3) := by decide +kernel
theorem dX6_sample_34 : decode cX6_sample 34 = .ok (.iload_n 1, 1) := by decide +kernel
theorem dX6_sample_35 : decode cX6_sample 35 = .ok (.iconst 2, 1) := by decide +kernel
theorem dX6_sample_36 : decode cX6_sample 36 = .ok (.if_icmp .ne 7, 3) := by decide +kernel
theorem dX6_sample_39 : decode cX6_sample 39 = .ok (.iconst (-1), 1) := by decide +kernel
theorem dX6_sample_40 : decode cX6_sample 40 = .ok (.goto 7, 3) := by decide +kernel
theorem dX6_sample_43 : decode cX6_sample 43 = .ok (.aload_n 0, 1) := by decide +kernel
theorem dX6_sample_44 : decode cX6_sample 44 = .ok (.invokevirtual 130, 3) := by decide +kernel
theorem dX6_sample_47 : decode cX6_sample 47 = .ok (.istore_n 2, 1) := by decide +kernel
theorem dX6_sample_48 : decode cX6_sample 48 = .ok (.iload_n 2, 1) := by decide +kernel
theorem dX6_sample_49 : decode cX6_sample 49 = .ok (.iconst (-1), 1) := by decide +kernel
theorem dX6_sample_50 : decode cX6_sample 50 = .ok (.if_icmp .eq 40, 3) := by decide +kernel
theorem dX6_sample_53 : decode cX6_sample 53 = .ok (.aload_n 0, 1) := by decide +kernel
theorem dX6_sample_54 : decode cX6_sample 54 = .ok (.getfield 7, 3) := by decide +kernel
theorem dX6_sample_57 : decode cX6_sample 57 = .ok (.bipush 6, 2) := by decide +kernel
theorem dX6_sample_59 : decode cX6_sample 59 = .ok (.aload_n 0, 1) := by decide +kernel
theorem dX6_sample_60 : decode cX6_sample 60 = .ok (.invokevirtual 126, 3) := by decide +kernel
theorem dX6_sample_63 : decode cX6_sample 63 = .ok (.ifCond .eq 15, 3) := by decide +kernel
theorem dX6_sample_66 : decode cX6_sample 66 = .ok (.aload_n 0, 1) := by decide +kernel
theorem dX6_sample_67 : decode cX6_sample 67 = .ok (.getfield 7, 3) := by decide +kernel
theorem dX6_sample_70 : decode cX6_sample 70 = .ok (.bipush 6, 2) := by decide +kernel
theorem dX6_sample_72 : decode cX6_sample 72 = .ok (.iaload, 1) := by decide +kernel
theorem dX6_sample_73 : decode cX6_sample 73 = .ok (.iconst 1, 1) := by decide +kernel
theorem dX6_sample_74 : decode cX6_sample 74 = .ok (.iadd, 1) := by decide +kernel
theorem dX6_sample_75 : decode cX6_sample 75 = .ok (.goto 4, 3) := by decide +kernel
theorem dX6_sample_78 : decode cX6_sample 78 = .ok (.iconst 0, 1) := by decide +kernel
theorem dX6_sample_79 : decode cX6_sample 79 = .ok (.iastore, 1) := by decide +kernel
theorem dX6_sample_80 : decode cX6_sample 80 = .ok (.aload_n 0, 1) := by decide +kernel
theorem dX6_sample_81 : decode cX6_sample 81 = .ok (.getfield 7, 3) := by decide +kernel
theorem dX6_sample_84 : decode cX6_sample 84 = .ok (.iconst 2, 1) := by decide +kernel
theorem dX6_sample_85 : decode cX6_sample 85 = .ok (.aload_n 0, 1) := by decide +kernel
theorem dX6_sample_86 : decode cX6_sample 86 = .ok (.invokevirtual 123, 3) := by decide +kernel
theorem dX6_sample_89 : decode cX6_sample 89 = .ok (.iastore, 1) := by decide +kernel
theorem dX6_sample_90 : decode cX6_sample 90 = .ok (.aload_n 0, 1) := by decide +kernel
theorem dX6_sample_91 : decode cX6_sample 91 = .ok (.getfield 7, 3) := by decide +kernel
theorem dX6_sample_94 : decode cX6_sample 94 = .ok (.iconst 5, 1) := by decide +kernel
theorem dX6_sample_95 : decode cX6_sample 95 = .ok (.iload_n 1, 1) := by decide +kernel
theorem dX6_sample_96 : decode cX6_sample 96 = .ok (.ifCond .ne 7, 3) := by decide +kernel
theorem dX6_sample_99 : decode cX6_sample 99 = .ok (.iload_n 2, 1) := by decide +kernel
theorem dX6_sample_100 : decode cX6_sample 100 = .ok (.goto 9, 3) := by decide +kernel
theorem dX6_sample_103 : decode cX6_sample 103 = .ok (.aload_n 0, 1) := by decide +kernel
theorem dX6_sample_104 : decode cX6_sample 104 = .ok (.getfield 7, 3) := by decide +kernel
theorem dX6_sample_107 : decode cX6_sample 107 = .ok (.iconst 5, 1) := by decide +kernel
theorem dX6_sample_108 : decode cX6_sample 108 = .ok (.iaload, 1) := by decide +kernel
theorem dX6_sample_109 : decode cX6_sample 109 = .ok (.iastore, 1) := by decide +kernel
theorem dX6_sample_110 : decode cX6_sample 110 = .ok (.iload_n 1, 1) := by decide +kernel
theorem dX6_sample_111 : decode cX6_sample 111 = .ok (.ifCond .ne 7, 3) := by decide +kernel
theorem dX6_sample_114 : decode cX6_sample 114 = .ok (.iload_n 2, 1) := by decide +kernel
theorem dX6_sample_115 : decode cX6_sample 115 = .ok (.goto 7, 3) := by decide +kernel
theorem dX6_sample_118 : decode cX6_sample 118 = .ok (.ldc 137, 2) := by decide +kernel
theorem dX6_sample_120 : decode cX6_sample 120 = .ok (.iload_n 1, 1) := by decide +kernel
theorem dX6_sample_121 : decode cX6_sample 121 = .ok (.iadd, 1) := by decide +kernel
theorem dX6_sample_122 : decode cX6_sample 122 = .ok (.ireturn, 1) := by decide +kernel
theorem dX6_reason_0 : decode cX6_reason 0 = .ok (.aload_n 0, 1) := by decide +kernel
theorem dX6_reason_1 : decode cX6_reason 1 = .ok (.getfield 7, 3) := by decide +kernel
theorem dX6_reason_4 : decode cX6_reason 4 = .ok (.iconst 1, 1) := by decide +kernel
theorem dX6_reason_5 : decode cX6_reason 5 = .ok (.iaload, 1) := by decide +kernel
theorem dX6_reason_6 : decode cX6_reason 6 = .ok (.ifCond .ne 6, 3) := by decide +kernel
theorem dX6_reason_9 : decode cX6_reason 9 = .ok (.bipush (-2), 2) := by decide +kernel
theorem dX6_reason_11 : decode cX6_reason 11 = .ok (.ireturn, 1) := by decide +kernel
theorem dX6_reason_12 : decode cX6_reason 12 = .ok (.aload_n 0, 1) := by decide +kernel
theorem dX6_reason_13 : decode cX6_reason 13 = .ok (.aload_n 0, 1) := by decide +kernel
theorem dX6_reason_14 : decode cX6_reason 14 = .ok (.invokevirtual 55, 3) := by decide +kernel
theorem dX6_reason_17 : decode cX6_reason 17 = .ok (.invokevirtual 116, 3) := by decide +kernel
theorem dX6_reason_20 : decode cX6_reason 20 = .ok (.aload_n 0, 1) := by decide +kernel
theorem dX6_reason_21 : decode cX6_reason 21 = .ok (.invokevirtual 134, 3) := by decide +kernel
theorem dX6_reason_24 : decode cX6_reason 24 = .ok (.ireturn, 1) := by decide +kernel
theorem dX6_forget_0 : decode cX6_forget 0 = .ok (.aload_n 0, 1) := by decide +kernel
theorem dX6_forget_1 : decode cX6_forget 1 = .ok (.iconst 5, 1) := by decide +kernel
theorem dX6_forget_2 : decode cX6_forget 2 = .ok (.iconst (-1), 1) := by decide +kernel
theorem dX6_forget_3 : decode cX6_forget 3 = .ok (.invokevirtual 52, 3) := by decide +kernel
theorem dX6_forget_6 : decode cX6_forget 6 = .ok (.istore_n 1, 1) := by decide +kernel
theorem dX6_forget_7 : decode cX6_forget 7 = .ok (.aload_n 0, 1) := by decide +kernel
theorem dX6_forget_8 : decode cX6_forget 8 = .ok (.getfield 7, 3) := by decide +kernel
theorem dX6_forget_11 : decode cX6_forget 11 = .ok (.bipush 6, 2) := by decide +kernel
theorem dX6_forget_13 : decode cX6_forget 13 = .ok (.iconst 0, 1) := by decide +kernel
theorem dX6_forget_14 : decode cX6_forget 14 = .ok (.iastore, 1) := by decide +kernel
theorem dX6_forget_15 : decode cX6_forget 15 = .ok (.iload_n 1, 1) := by decide +kernel
theorem dX6_forget_16 : decode cX6_forget 16 = .ok (.iconst (-1), 1) := by decide +kernel
theorem dX6_forget_17 : decode cX6_forget 17 = .ok (.if_icmp .ne 7, 3) := by decide +kernel
theorem dX6_forget_20 : decode cX6_forget 20 = .ok (.iconst 0, 1) := by decide +kernel
theorem dX6_forget_21 : decode cX6_forget 21 = .ok (.goto 4, 3) := by decide +kernel
theorem dX6_forget_24 : decode cX6_forget 24 = .ok (.iconst 1, 1) := by decide +kernel
theorem dX6_forget_25 : decode cX6_forget 25 = .ok (.ireturn, 1) := by decide +kernel
theorem dX6_apart_0 : decode cX6_apart 0 = .ok (.aload_n 0, 1) := by decide +kernel
theorem dX6_apart_1 : decode cX6_apart 1 = .ok (.getfield 7, 3) := by decide +kernel
theorem dX6_apart_4 : decode cX6_apart 4 = .ok (.iconst 5, 1) := by decide +kernel
theorem dX6_apart_5 : decode cX6_apart 5 = .ok (.iaload, 1) := by decide +kernel
theorem dX6_apart_6 : decode cX6_apart 6 = .ok (.iconst (-1), 1) := by decide +kernel
theorem dX6_apart_7 : decode cX6_apart 7 = .ok (.if_icmp .ne 8, 3) := by decide +kernel
theorem dX6_apart_10 : decode cX6_apart 10 = .ok (.bipush (-4), 2) := by decide +kernel
theorem dX6_apart_12 : decode cX6_apart 12 = .ok (.goto 20, 3) := by decide +kernel
theorem dX6_apart_15 : decode cX6_apart 15 = .ok (.aload_n 0, 1) := by decide +kernel
theorem dX6_apart_16 : decode cX6_apart 16 = .ok (.getfield 7, 3) := by decide +kernel
theorem dX6_apart_19 : decode cX6_apart 19 = .ok (.iconst 5, 1) := by decide +kernel
theorem dX6_apart_20 : decode cX6_apart 20 = .ok (.iaload, 1) := by decide +kernel
theorem dX6_apart_21 : decode cX6_apart 21 = .ok (.aload_n 0, 1) := by decide +kernel
theorem dX6_apart_22 : decode cX6_apart 22 = .ok (.getfield 7, 3) := by decide +kernel
theorem dX6_apart_25 : decode cX6_apart 25 = .ok (.iconst 0, 1) := by decide +kernel
theorem dX6_apart_26 : decode cX6_apart 26 = .ok (.iaload, 1) := by decide +kernel
theorem dX6_apart_27 : decode cX6_apart 27 = .ok (.ldc 133, 2) := by decide +kernel
theorem dX6_apart_29 : decode cX6_apart 29 = .ok (.invokestatic 119, 3) := by decide +kernel
theorem dX6_apart_32 : decode cX6_apart 32 = .ok (.ireturn, 1) := by decide +kernel
theorem dX6_type_0 : decode cX6_type 0 = .ok (.iload_n 1, 1) := by decide +kernel
theorem dX6_type_1 : decode cX6_type 1 = .ok (.bipush 32, 2) := by decide +kernel
theorem dX6_type_3 : decode cX6_type 3 = .ok (.bipush 126, 2) := by decide +kernel
theorem dX6_type_5 : decode cX6_type 5 = .ok (.invokestatic 32, 3) := by decide +kernel
theorem dX6_type_8 : decode cX6_type 8 = .ok (.ifCond .ne 5, 3) := by decide +kernel
theorem dX6_type_11 : decode cX6_type 11 = .ok (.iconst (-1), 1) := by decide +kernel
theorem dX6_type_12 : decode cX6_type 12 = .ok (.ireturn, 1) := by decide +kernel
theorem dX6_type_13 : decode cX6_type 13 = .ok (.aload_n 0, 1) := by decide +kernel
theorem dX6_type_14 : decode cX6_type 14 = .ok (.getfield 65, 3) := by decide +kernel
theorem dX6_type_17 : decode cX6_type 17 = .ok (.bipush 60, 2) := by decide +kernel
theorem dX6_type_19 : decode cX6_type 19 = .ok (.if_icmp .ne 6, 3) := by decide +kernel
theorem dX6_type_22 : decode cX6_type 22 = .ok (.bipush (-3), 2) := by decide +kernel
theorem dX6_type_24 : decode cX6_type 24 = .ok (.ireturn, 1) := by decide +kernel
theorem dX6_type_25 : decode cX6_type 25 = .ok (.aload_n 0, 1) := by decide +kernel
theorem dX6_type_26 : decode cX6_type 26 = .ok (.getfield 16, 3) := by decide +kernel
theorem dX6_type_29 : decode cX6_type 29 = .ok (.aload_n 0, 1) := by decide +kernel
theorem dX6_type_30 : decode cX6_type 30 = .ok (.getfield 65, 3) := by decide +kernel
theorem dX6_type_33 : decode cX6_type 33 = .ok (.iload_n 1, 1) := by decide +kernel
theorem dX6_type_34 : decode cX6_type 34 = .ok (.iastore, 1) := by decide +kernel
theorem dX6_type_35 : decode cX6_type 35 = .ok (.aload_n 0, 1) := by decide +kernel
theorem dX6_type_36 : decode cX6_type 36 = .ok (.dup, 1) := by decide +kernel
theorem dX6_type_37 : decode cX6_type 37 = .ok (.getfield 65, 3) := by decide +kernel
theorem dX6_type_40 : decode cX6_type 40 = .ok (.iconst 1, 1) := by decide +kernel
theorem dX6_type_41 : decode cX6_type 41 = .ok (.iadd, 1) := by decide +kernel
theorem dX6_type_42 : decode cX6_type 42 = .ok (.putfield 65, 3) := by decide +kernel
theorem dX6_type_45 : decode cX6_type 45 = .ok (.aload_n 0, 1) := by decide +kernel
theorem dX6_type_46 : decode cX6_type 46 = .ok (.getfield 65, 3) := by decide +kernel
theorem dX6_type_49 : decode cX6_type 49 = .ok (.ireturn, 1) := by decide +kernel
theorem dX6_clearText_0 : decode cX6_clearText 0 = .ok (.aload_n 0, 1) := by decide +kernel
theorem dX6_clearText_1 : decode cX6_clearText 1 = .ok (.getfield 65, 3) := by decide +kernel
theorem dX6_clearText_4 : decode cX6_clearText 4 = .ok (.istore_n 1, 1) := by decide +kernel
theorem dX6_clearText_5 : decode cX6_clearText 5 = .ok (.aload_n 0, 1) := by decide +kernel
theorem dX6_clearText_6 : decode cX6_clearText 6 = .ok (.iconst 0, 1) := by decide +kernel
theorem dX6_clearText_7 : decode cX6_clearText 7 = .ok (.putfield 65, 3) := by decide +kernel
theorem dX6_clearText_10 : decode cX6_clearText 10 = .ok (.iload_n 1, 1) := by decide +kernel
theorem dX6_clearText_11 : decode cX6_clearText 11 = .ok (.ireturn, 1) := by decide +kernel
theorem dX6_letterAt_0 : decode cX6_letterAt 0 = .ok (.iload_n 1, 1) := by decide +kernel
theorem dX6_letterAt_1 : decode cX6_letterAt 1 = .ok (.aload_n 0, 1) := by decide +kernel
theorem dX6_letterAt_2 : decode cX6_letterAt 2 = .ok (.getfield 65, 3) := by decide +kernel
theorem dX6_letterAt_5 : decode cX6_letterAt 5 = .ok (.if_icmp .ge 12, 3) := by decide +kernel
theorem dX6_letterAt_8 : decode cX6_letterAt 8 = .ok (.aload_n 0, 1) := by decide +kernel
theorem dX6_letterAt_9 : decode cX6_letterAt 9 = .ok (.getfield 16, 3) := by decide +kernel
theorem dX6_letterAt_12 : decode cX6_letterAt 12 = .ok (.iload_n 1, 1) := by decide +kernel
theorem dX6_letterAt_13 : decode cX6_letterAt 13 = .ok (.iaload, 1) := by decide +kernel
theorem dX6_letterAt_14 : decode cX6_letterAt 14 = .ok (.goto 4, 3) := by decide +kernel
theorem dX6_letterAt_17 : decode cX6_letterAt 17 = .ok (.iconst 0, 1) := by decide +kernel
theorem dX6_letterAt_18 : decode cX6_letterAt 18 = .ok (.ireturn, 1) := by decide +kernel
theorem dX6_isDigit_0 : decode cX6_isDigit 0 = .ok (.aload_n 0, 1) := by decide +kernel
theorem dX6_isDigit_1 : decode cX6_isDigit 1 = .ok (.iload_n 1, 1) := by decide +kernel
theorem dX6_isDigit_2 : decode cX6_isDigit 2 = .ok (.invokevirtual 138, 3) := by decide +kernel
theorem dX6_isDigit_5 : decode cX6_isDigit 5 = .ok (.bipush 48, 2) := by decide +kernel
theorem dX6_isDigit_7 : decode cX6_isDigit 7 = .ok (.bipush 57, 2) := by decide +kernel
theorem dX6_isDigit_9 : decode cX6_isDigit 9 = .ok (.invokestatic 32, 3) := by decide +kernel
theorem dX6_isDigit_12 : decode cX6_isDigit 12 = .ok (.ireturn, 1) := by decide +kernel
theorem dX6_entry_0 : decode cX6_entry 0 = .ok (.aload_n 0, 1) := by decide +kernel
theorem dX6_entry_1 : decode cX6_entry 1 = .ok (.aload_n 0, 1) := by decide +kernel
theorem dX6_entry_2 : decode cX6_entry 2 = .ok (.getfield 141, 3) := by decide +kernel
theorem dX6_entry_5 : decode cX6_entry 5 = .ok (.iconst 2, 1) := by decide +kernel
theorem dX6_entry_6 : decode cX6_entry 6 = .ok (.iadd, 1) := by decide +kernel
theorem dX6_entry_7 : decode cX6_entry 7 = .ok (.invokevirtual 138, 3) := by decide +kernel
theorem dX6_entry_10 : decode cX6_entry 10 = .ok (.bipush 43, 2) := by decide +kernel
theorem dX6_entry_12 : decode cX6_entry 12 = .ok (.if_icmp .eq 18, 3) := by decide +kernel
theorem dX6_entry_15 : decode cX6_entry 15 = .ok (.aload_n 0, 1) := by decide +kernel
theorem dX6_entry_16 : decode cX6_entry 16 = .ok (.aload_n 0, 1) := by decide +kernel
theorem dX6_entry_17 : decode cX6_entry 17 = .ok (.getfield 141, 3) := by decide +kernel
theorem dX6_entry_20 : decode cX6_entry 20 = .ok (.iconst 2, 1) := by decide +kernel
theorem dX6_entry_21 : decode cX6_entry 21 = .ok (.iadd, 1) := by decide +kernel
theorem dX6_entry_22 : decode cX6_entry 22 = .ok (.invokevirtual 138, 3) := by decide +kernel
theorem dX6_entry_25 : decode cX6_entry 25 = .ok (.bipush 45, 2) := by decide +kernel
theorem dX6_entry_27 : decode cX6_entry 27 = .ok (.if_icmp .ne 7, 3) := by decide +kernel
theorem dX6_entry_30 : decode cX6_entry 30 = .ok (.iconst 1, 1) := by decide +kernel
theorem dX6_entry_31 : decode cX6_entry 31 = .ok (.goto 4, 3) := by decide +kernel
theorem dX6_entry_34 : decode cX6_entry 34 = .ok (.iconst 0, 1) := by decide +kernel
theorem dX6_entry_35 : decode cX6_entry 35 = .ok (.istore_n 1, 1) := by decide +kernel
theorem dX6_entry_36 : decode cX6_entry 36 = .ok (.aload_n 0, 1) := by decide +kernel
theorem dX6_entry_37 : decode cX6_entry 37 = .ok (.aload_n 0, 1) := by decide +kernel
theorem dX6_entry_38 : decode cX6_entry 38 = .ok (.getfield 141, 3) := by decide +kernel
theorem dX6_entry_41 : decode cX6_entry 41 = .ok (.iconst 4, 1) := by decide +kernel
theorem dX6_entry_42 : decode cX6_entry 42 = .ok (.iadd, 1) := by decide +kernel
theorem dX6_entry_43 : decode cX6_entry 43 = .ok (.invokevirtual 144, 3) := by decide +kernel
theorem dX6_entry_46 : decode cX6_entry 46 = .ok (.ifCond .eq 12, 3) := by decide +kernel
theorem dX6_entry_49 : decode cX6_entry 49 = .ok (.aload_n 0, 1) := by decide +kernel
theorem dX6_entry_50 : decode cX6_entry 50 = .ok (.getfield 141, 3) := by decide +kernel
theorem dX6_entry_53 : decode cX6_entry 53 = .ok (.iconst 5, 1) := by decide +kernel
theorem dX6_entry_54 : decode cX6_entry 54 = .ok (.iadd, 1) := by decide +kernel
theorem dX6_entry_55 : decode cX6_entry 55 = .ok (.goto 9, 3) := by decide +kernel
theorem dX6_entry_58 : decode cX6_entry 58 = .ok (.aload_n 0, 1) := by decide +kernel
theorem dX6_entry_59 : decode cX6_entry 59 = .ok (.getfield 141, 3) := by decide +kernel
theorem dX6_entry_62 : decode cX6_entry 62 = .ok (.iconst 4, 1) := by decide +kernel
theorem dX6_entry_63 : decode cX6_entry 63 = .ok (.iadd, 1) := by decide +kernel
theorem dX6_entry_64 : decode cX6_entry 64 = .ok (.istore_n 2, 1) := by decide +kernel
theorem dX6_entry_65 : decode cX6_entry 65 = .ok (.aload_n 0, 1) := by decide +kernel
theorem dX6_entry_66 : decode cX6_entry 66 = .ok (.aload_n 0, 1) := by decide +kernel
theorem dX6_entry_67 : decode cX6_entry 67 = .ok (.getfield 141, 3) := by decide +kernel
theorem dX6_entry_70 : decode cX6_entry 70 = .ok (.invokevirtual 144, 3) := by decide +kernel
theorem dX6_entry_73 : decode cX6_entry 73 = .ok (.ifCond .eq 43, 3) := by decide +kernel
theorem dX6_entry_76 : decode cX6_entry 76 = .ok (.aload_n 0, 1) := by decide +kernel
theorem dX6_entry_77 : decode cX6_entry 77 = .ok (.aload_n 0, 1) := by decide +kernel
theorem dX6_entry_78 : decode cX6_entry 78 = .ok (.getfield 141, 3) := by decide +kernel
theorem dX6_entry_81 : decode cX6_entry 81 = .ok (.iconst 1, 1) := by decide +kernel
theorem dX6_entry_82 : decode cX6_entry 82 = .ok (.iadd, 1) := by decide +kernel
theorem dX6_entry_83 : decode cX6_entry 83 = .ok (.invokevirtual 144, 3) := by decide +kernel
theorem dX6_entry_86 : decode cX6_entry 86 = .ok (.ifCond .eq 30, 3) := by decide +kernel
theorem dX6_entry_89 : decode cX6_entry 89 = .ok (.iload_n 1, 1) := by decide +kernel
theorem dX6_entry_90 : decode cX6_entry 90 = .ok (.ifCond .eq 26, 3) := by decide +kernel
theorem dX6_entry_93 : decode cX6_entry 93 = .ok (.aload_n 0, 1) := by decide +kernel
theorem dX6_entry_94 : decode cX6_entry 94 = .ok (.aload_n 0, 1) := by decide +kernel
theorem dX6_entry_95 : decode cX6_entry 95 = .ok (.getfield 141, 3) := by decide +kernel
theorem dX6_entry_98 : decode cX6_entry 98 = .ok (.iconst 3, 1) := by decide +kernel
theorem dX6_entry_99 : decode cX6_entry 99 = .ok (.iadd, 1) := by decide +kernel
theorem dX6_entry_100 : decode cX6_entry 100 = .ok (.invokevirtual 144, 3) := by decide +kernel
theorem dX6_entry_103 : decode cX6_entry 103 = .ok (.ifCond .eq 13, 3) := by decide +kernel
theorem dX6_entry_106 : decode cX6_entry 106 = .ok (.aload_n 0, 1) := by decide +kernel
theorem dX6_entry_107 : decode cX6_entry 107 = .ok (.iload_n 2, 1) := by decide +kernel
theorem dX6_entry_108 : decode cX6_entry 108 = .ok (.invokevirtual 138, 3) := by decide +kernel
theorem dX6_entry_111 : decode cX6_entry 111 = .ok (.bipush 59, 2) := by decide +kernel
theorem dX6_entry_113 : decode cX6_entry 113 = .ok (.if_icmp .eq 5, 3) := by decide +kernel
theorem dX6_entry_116 : decode cX6_entry 116 = .ok (.iconst 1, 1) := by decide +kernel
theorem dX6_entry_117 : decode cX6_entry 117 = .ok (.ireturn, 1) := by decide +kernel
theorem dX6_entry_118 : decode cX6_entry 118 = .ok (.aload_n 0, 1) := by decide +kernel
theorem dX6_entry_119 : decode cX6_entry 119 = .ok (.aload_n 0, 1) := by decide +kernel
theorem dX6_entry_120 : decode cX6_entry 120 = .ok (.aload_n 0, 1) := by decide +kernel
theorem dX6_entry_121 : decode cX6_entry 121 = .ok (.getfield 141, 3) := by decide +kernel
theorem dX6_entry_124 : decode cX6_entry 124 = .ok (.invokevirtual 138, 3) := by decide +kernel
theorem dX6_entry_127 : decode cX6_entry 127 = .ok (.bipush 48, 2) := by decide +kernel
theorem dX6_entry_129 : decode cX6_entry 129 = .ok (.isub, 1) := by decide +kernel
theorem dX6_entry_130 : decode cX6_entry 130 = .ok (.putfield 147, 3) := by decide +kernel
theorem dX6_entry_133 : decode cX6_entry 133 = .ok (.aload_n 0, 1) := by decide +kernel
theorem dX6_entry_134 : decode cX6_entry 134 = .ok (.aload_n 0, 1) := by decide +kernel
theorem dX6_entry_135 : decode cX6_entry 135 = .ok (.aload_n 0, 1) := by decide +kernel
theorem dX6_entry_136 : decode cX6_entry 136 = .ok (.getfield 141, 3) := by decide +kernel
theorem dX6_entry_139 : decode cX6_entry 139 = .ok (.iconst 1, 1) := by decide +kernel
theorem dX6_entry_140 : decode cX6_entry 140 = .ok (.iadd, 1) := by decide +kernel
theorem dX6_entry_141 : decode cX6_entry 141 = .ok (.invokevirtual 138, 3) := by decide +kernel
theorem dX6_entry_144 : decode cX6_entry 144 = .ok (.bipush 48, 2) := by decide +kernel
theorem dX6_entry_146 : decode cX6_entry 146 = .ok (.isub, 1) := by decide +kernel
theorem dX6_entry_147 : decode cX6_entry 147 = .ok (.putfield 150, 3) := by decide +kernel
theorem dX6_entry_150 : decode cX6_entry 150 = .ok (.aload_n 0, 1) := by decide +kernel
theorem dX6_entry_151 : decode cX6_entry 151 = .ok (.aload_n 0, 1) := by decide +kernel
theorem dX6_entry_152 : decode cX6_entry 152 = .ok (.aload_n 0, 1) := by decide +kernel
theorem dX6_entry_153 : decode cX6_entry 153 = .ok (.getfield 141, 3) := by decide +kernel
theorem dX6_entry_156 : decode cX6_entry 156 = .ok (.iconst 3, 1) := by decide +kernel
theorem dX6_entry_157 : decode cX6_entry 157 = .ok (.iadd, 1) := by decide +kernel
theorem dX6_entry_158 : decode cX6_entry 158 = .ok (.invokevirtual 138, 3) := by decide +kernel
theorem dX6_entry_161 : decode cX6_entry 161 = .ok (.bipush 48, 2) := by decide +kernel
theorem dX6_entry_163 : decode cX6_entry 163 = .ok (.isub, 1) := by decide +kernel
theorem dX6_entry_164 : decode cX6_entry 164 = .ok (.putfield 153, 3) := by decide +kernel
theorem dX6_entry_167 : decode cX6_entry 167 = .ok (.aload_n 0, 1) := by decide +kernel
theorem dX6_entry_168 : decode cX6_entry 168 = .ok (.iload_n 2, 1) := by decide +kernel
theorem dX6_entry_169 : decode cX6_entry 169 = .ok (.aload_n 0, 1) := by decide +kernel
theorem dX6_entry_170 : decode cX6_entry 170 = .ok (.getfield 141, 3) := by decide +kernel
theorem dX6_entry_173 : decode cX6_entry 173 = .ok (.iconst 5, 1) := by decide +kernel
theorem dX6_entry_174 : decode cX6_entry 174 = .ok (.iadd, 1) := by decide +kernel
theorem dX6_entry_175 : decode cX6_entry 175 = .ok (.if_icmp .ne 27, 3) := by decide +kernel
theorem dX6_entry_178 : decode cX6_entry 178 = .ok (.bipush 10, 2) := by decide +kernel
theorem dX6_entry_180 : decode cX6_entry 180 = .ok (.aload_n 0, 1) := by decide +kernel
theorem dX6_entry_181 : decode cX6_entry 181 = .ok (.getfield 153, 3) := by decide +kernel
theorem dX6_entry_184 : decode cX6_entry 184 = .ok (.imul, 1) := by decide +kernel
theorem dX6_entry_185 : decode cX6_entry 185 = .ok (.aload_n 0, 1) := by decide +kernel
theorem dX6_entry_186 : decode cX6_entry 186 = .ok (.aload_n 0, 1) := by decide +kernel
theorem dX6_entry_187 : decode cX6_entry 187 = .ok (.getfield 141, 3) := by decide +kernel
theorem dX6_entry_190 : decode cX6_entry 190 = .ok (.iconst 4, 1) := by decide +kernel
theorem dX6_entry_191 : decode cX6_entry 191 = .ok (.iadd, 1) := by decide +kernel
theorem dX6_entry_192 : decode cX6_entry 192 = .ok (.invokevirtual 138, 3) := by decide +kernel
theorem dX6_entry_195 : decode cX6_entry 195 = .ok (.iadd, 1) := by decide +kernel
theorem dX6_entry_196 : decode cX6_entry 196 = .ok (.bipush 48, 2) := by decide +kernel
theorem dX6_entry_198 : decode cX6_entry 198 = .ok (.isub, 1) := by decide +kernel
theorem dX6_entry_199 : decode cX6_entry 199 = .ok (.goto 7, 3) := by decide +kernel
theorem dX6_entry_202 : decode cX6_entry 202 = .ok (.aload_n 0, 1) := by decide +kernel
theorem dX6_entry_203 : decode cX6_entry 203 = .ok (.getfield 153, 3) := by decide +kernel
theorem dX6_entry_206 : decode cX6_entry 206 = .ok (.putfield 153, 3) := by decide +kernel
theorem dX6_entry_209 : decode cX6_entry 209 = .ok (.aload_n 0, 1) := by decide +kernel
theorem dX6_entry_210 : decode cX6_entry 210 = .ok (.iload_n 2, 1) := by decide +kernel
theorem dX6_entry_211 : decode cX6_entry 211 = .ok (.iconst 1, 1) := by decide +kernel
theorem dX6_entry_212 : decode cX6_entry 212 = .ok (.iadd, 1) := by decide +kernel
theorem dX6_entry_213 : decode cX6_entry 213 = .ok (.putfield 156, 3) := by decide +kernel
theorem dX6_entry_216 : decode cX6_entry 216 = .ok (.aload_n 0, 1) := by decide +kernel
theorem dX6_entry_217 : decode cX6_entry 217 = .ok (.getfield 147, 3) := by decide +kernel
theorem dX6_entry_220 : decode cX6_entry 220 = .ok (.iconst 2, 1) := by decide +kernel
theorem dX6_entry_221 : decode cX6_entry 221 = .ok (.if_icmp .le 7, 3) := by decide +kernel
theorem dX6_entry_224 : decode cX6_entry 224 = .ok (.iconst 2, 1) := by decide +kernel
theorem dX6_entry_225 : decode cX6_entry 225 = .ok (.goto 55, 3) := by decide +kernel
theorem dX6_entry_228 : decode cX6_entry 228 = .ok (.aload_n 0, 1) := by decide +kernel
theorem dX6_entry_229 : decode cX6_entry 229 = .ok (.getfield 150, 3) := by decide +kernel
theorem dX6_entry_232 : decode cX6_entry 232 = .ok (.bipush 7, 2) := by decide +kernel
theorem dX6_entry_234 : decode cX6_entry 234 = .ok (.if_icmp .le 7, 3) := by decide +kernel
theorem dX6_entry_237 : decode cX6_entry 237 = .ok (.iconst 3, 1) := by decide +kernel
theorem dX6_entry_238 : decode cX6_entry 238 = .ok (.goto 42, 3) := by decide +kernel
theorem dX6_entry_241 : decode cX6_entry 241 = .ok (.aload_n 0, 1) := by decide +kernel
theorem dX6_entry_242 : decode cX6_entry 242 = .ok (.getfield 153, 3) := by decide +kernel
theorem dX6_entry_245 : decode cX6_entry 245 = .ok (.bipush 20, 2) := by decide +kernel
theorem dX6_entry_247 : decode cX6_entry 247 = .ok (.if_icmp .le 7, 3) := by decide +kernel
theorem dX6_entry_250 : decode cX6_entry 250 = .ok (.iconst 4, 1) := by decide +kernel
theorem dX6_entry_251 : decode cX6_entry 251 = .ok (.goto 29, 3) := by decide +kernel
theorem dX6_entry_254 : decode cX6_entry 254 = .ok (.aload_n 0, 1) := by decide +kernel
theorem dX6_entry_255 : decode cX6_entry 255 = .ok (.getfield 22, 3) := by decide +kernel
theorem dX6_entry_258 : decode cX6_entry 258 = .ok (.bipush 10, 2) := by decide +kernel
theorem dX6_entry_260 : decode cX6_entry 260 = .ok (.aload_n 0, 1) := by decide +kernel
theorem dX6_entry_261 : decode cX6_entry 261 = .ok (.getfield 147, 3) := by decide +kernel
theorem dX6_entry_264 : decode cX6_entry 264 = .ok (.imul, 1) := by decide +kernel
theorem dX6_entry_265 : decode cX6_entry 265 = .ok (.aload_n 0, 1) := by decide +kernel
theorem dX6_entry_266 : decode cX6_entry 266 = .ok (.getfield 150, 3) := by decide +kernel
theorem dX6_entry_269 : decode cX6_entry 269 = .ok (.iadd, 1) := by decide +kernel
theorem dX6_entry_270 : decode cX6_entry 270 = .ok (.iaload, 1) := by decide +kernel
theorem dX6_entry_271 : decode cX6_entry 271 = .ok (.iconst 1, 1) := by decide +kernel
theorem dX6_entry_272 : decode cX6_entry 272 = .ok (.if_icmp .ne 7, 3) := by decide +kernel
theorem dX6_entry_275 : decode cX6_entry 275 = .ok (.iconst 5, 1) := by decide +kernel
theorem dX6_entry_276 : decode cX6_entry 276 = .ok (.goto 4, 3) := by decide +kernel
theorem dX6_entry_279 : decode cX6_entry 279 = .ok (.iconst 0, 1) := by decide +kernel
theorem dX6_entry_280 : decode cX6_entry 280 = .ok (.ireturn, 1) := by decide +kernel
theorem dX6_reads_0 : decode cX6_reads 0 = .ok (.iconst 0, 1) := by decide +kernel
theorem dX6_reads_1 : decode cX6_reads 1 = .ok (.istore_n 1, 1) := by decide +kernel
theorem dX6_reads_2 : decode cX6_reads 2 = .ok (.iload_n 1, 1) := by decide +kernel
theorem dX6_reads_3 : decode cX6_reads 3 = .ok (.bipush 30, 2) := by decide +kernel
theorem dX6_reads_5 : decode cX6_reads 5 = .ok (.if_icmp .ge 23, 3) := by decide +kernel
theorem dX6_reads_8 : decode cX6_reads 8 = .ok (.aload_n 0, 1) := by decide +kernel
theorem dX6_reads_9 : decode cX6_reads 9 = .ok (.getfield 22, 3) := by decide +kernel
theorem dX6_reads_12 : decode cX6_reads 12 = .ok (.iload_n 1, 1) := by decide +kernel
theorem dX6_reads_13 : decode cX6_reads 13 = .ok (.iconst 0, 1) := by decide +kernel
theorem dX6_reads_14 : decode cX6_reads 14 = .ok (.iastore, 1) := by decide +kernel
theorem dX6_reads_15 : decode cX6_reads 15 = .ok (.aload_n 0, 1) := by decide +kernel
theorem dX6_reads_16 : decode cX6_reads 16 = .ok (.getfield 25, 3) := by decide +kernel
theorem dX6_reads_19 : decode cX6_reads 19 = .ok (.iload_n 1, 1) := by decide +kernel
theorem dX6_reads_20 : decode cX6_reads 20 = .ok (.iconst 0, 1) := by decide +kernel
theorem dX6_reads_21 : decode cX6_reads 21 = .ok (.iastore, 1) := by decide +kernel
theorem dX6_reads_22 : decode cX6_reads 22 = .ok (.iinc 1 1, 3) := by decide +kernel
theorem dX6_reads_25 : decode cX6_reads 25 = .ok (.goto (-23), 3) := by decide +kernel
theorem dX6_reads_28 : decode cX6_reads 28 = .ok (.aload_n 0, 1) := by decide +kernel
theorem dX6_reads_29 : decode cX6_reads 29 = .ok (.iconst 0, 1) := by decide +kernel
theorem dX6_reads_30 : decode cX6_reads 30 = .ok (.putfield 141, 3) := by decide +kernel
theorem dX6_reads_33 : decode cX6_reads 33 = .ok (.aload_n 0, 1) := by decide +kernel
theorem dX6_reads_34 : decode cX6_reads 34 = .ok (.iconst 0, 1) := by decide +kernel
theorem dX6_reads_35 : decode cX6_reads 35 = .ok (.putfield 159, 3) := by decide +kernel
theorem dX6_reads_38 : decode cX6_reads 38 = .ok (.aload_n 0, 1) := by decide +kernel
theorem dX6_reads_39 : decode cX6_reads 39 = .ok (.getfield 141, 3) := by decide +kernel
theorem dX6_reads_42 : decode cX6_reads 42 = .ok (.aload_n 0, 1) := by decide +kernel
theorem dX6_reads_43 : decode cX6_reads 43 = .ok (.getfield 65, 3) := by decide +kernel
theorem dX6_reads_46 : decode cX6_reads 46 = .ok (.if_icmp .ge 97, 3) := by decide +kernel
theorem dX6_reads_49 : decode cX6_reads 49 = .ok (.aload_n 0, 1) := by decide +kernel
theorem dX6_reads_50 : decode cX6_reads 50 = .ok (.invokevirtual 162, 3) := by decide +kernel
theorem dX6_reads_53 : decode cX6_reads 53 = .ok (.istore_n 1, 1) := by decide +kernel
theorem dX6_reads_54 : decode cX6_reads 54 = .ok (.iload_n 1, 1) := by decide +kernel
theorem dX6_reads_55 : decode cX6_reads 55 = .ok (.ifCond .le 5, 3) := by decide +kernel
theorem dX6_reads_58 : decode cX6_reads 58 = .ok (.iload_n 1, 1) := by decide +kernel
theorem dX6_reads_59 : decode cX6_reads 59 = .ok (.ireturn, 1) := by decide +kernel
theorem dX6_reads_60 : decode cX6_reads 60 = .ok (.aload_n 0, 1) := by decide +kernel
theorem dX6_reads_61 : decode cX6_reads 61 = .ok (.getfield 22, 3) := by decide +kernel
theorem dX6_reads_64 : decode cX6_reads 64 = .ok (.bipush 10, 2) := by decide +kernel
theorem dX6_reads_66 : decode cX6_reads 66 = .ok (.aload_n 0, 1) := by decide +kernel
theorem dX6_reads_67 : decode cX6_reads 67 = .ok (.getfield 147, 3) := by decide +kernel
theorem dX6_reads_70 : decode cX6_reads 70 = .ok (.imul, 1) := by decide +kernel
theorem dX6_reads_71 : decode cX6_reads 71 = .ok (.aload_n 0, 1) := by decide +kernel
theorem dX6_reads_72 : decode cX6_reads 72 = .ok (.getfield 150, 3) := by decide +kernel
theorem dX6_reads_75 : decode cX6_reads 75 = .ok (.iadd, 1) := by decide +kernel
theorem dX6_reads_76 : decode cX6_reads 76 = .ok (.iconst 1, 1) := by decide +kernel
theorem dX6_reads_77 : decode cX6_reads 77 = .ok (.iastore, 1) := by decide +kernel
theorem dX6_reads_78 : decode cX6_reads 78 = .ok (.aload_n 0, 1) := by decide +kernel
theorem dX6_reads_79 : decode cX6_reads 79 = .ok (.getfield 25, 3) := by decide +kernel
theorem dX6_reads_82 : decode cX6_reads 82 = .ok (.bipush 10, 2) := by decide +kernel
theorem dX6_reads_84 : decode cX6_reads 84 = .ok (.aload_n 0, 1) := by decide +kernel
theorem dX6_reads_85 : decode cX6_reads 85 = .ok (.getfield 147, 3) := by decide +kernel
theorem dX6_reads_88 : decode cX6_reads 88 = .ok (.imul, 1) := by decide +kernel
theorem dX6_reads_89 : decode cX6_reads 89 = .ok (.aload_n 0, 1) := by decide +kernel
theorem dX6_reads_90 : decode cX6_reads 90 = .ok (.getfield 150, 3) := by decide +kernel
theorem dX6_reads_93 : decode cX6_reads 93 = .ok (.iadd, 1) := by decide +kernel
theorem dX6_reads_94 : decode cX6_reads 94 = .ok (.aload_n 0, 1) := by decide +kernel
theorem dX6_reads_95 : decode cX6_reads 95 = .ok (.aload_n 0, 1) := by decide +kernel
theorem dX6_reads_96 : decode cX6_reads 96 = .ok (.getfield 141, 3) := by decide +kernel
theorem dX6_reads_99 : decode cX6_reads 99 = .ok (.iconst 2, 1) := by decide +kernel
theorem dX6_reads_100 : decode cX6_reads 100 = .ok (.iadd, 1) := by decide +kernel
theorem dX6_reads_101 : decode cX6_reads 101 = .ok (.invokevirtual 138, 3) := by decide +kernel
theorem dX6_reads_104 : decode cX6_reads 104 = .ok (.bipush 45, 2) := by decide +kernel
theorem dX6_reads_106 : decode cX6_reads 106 = .ok (.if_icmp .ne 11, 3) := by decide +kernel
theorem dX6_reads_109 : decode cX6_reads 109 = .ok (.aload_n 0, 1) := by decide +kernel
theorem dX6_reads_110 : decode cX6_reads 110 = .ok (.getfield 153, 3) := by decide +kernel
theorem dX6_reads_113 : decode cX6_reads 113 = .ok (.ineg, 1) := by decide +kernel
theorem dX6_reads_114 : decode cX6_reads 114 = .ok (.goto 7, 3) := by decide +kernel
theorem dX6_reads_117 : decode cX6_reads 117 = .ok (.aload_n 0, 1) := by decide +kernel
theorem dX6_reads_118 : decode cX6_reads 118 = .ok (.getfield 153, 3) := by decide +kernel
theorem dX6_reads_121 : decode cX6_reads 121 = .ok (.iastore, 1) := by decide +kernel
theorem dX6_reads_122 : decode cX6_reads 122 = .ok (.aload_n 0, 1) := by decide +kernel
theorem dX6_reads_123 : decode cX6_reads 123 = .ok (.dup, 1) := by decide +kernel
theorem dX6_reads_124 : decode cX6_reads 124 = .ok (.getfield 159, 3) := by decide +kernel
theorem dX6_reads_127 : decode cX6_reads 127 = .ok (.iconst 1, 1) := by decide +kernel
theorem dX6_reads_128 : decode cX6_reads 128 = .ok (.iadd, 1) := by decide +kernel
theorem dX6_reads_129 : decode cX6_reads 129 = .ok (.putfield 159, 3) := by decide +kernel
theorem dX6_reads_132 : decode cX6_reads 132 = .ok (.aload_n 0, 1) := by decide +kernel
theorem dX6_reads_133 : decode cX6_reads 133 = .ok (.aload_n 0, 1) := by decide +kernel
theorem dX6_reads_134 : decode cX6_reads 134 = .ok (.getfield 156, 3) := by decide +kernel
theorem dX6_reads_137 : decode cX6_reads 137 = .ok (.putfield 141, 3) := by decide +kernel
theorem dX6_reads_140 : decode cX6_reads 140 = .ok (.goto (-102), 3) := by decide +kernel
theorem dX6_reads_143 : decode cX6_reads 143 = .ok (.iconst 0, 1) := by decide +kernel
theorem dX6_reads_144 : decode cX6_reads 144 = .ok (.ireturn, 1) := by decide +kernel
theorem dX6_fault_0 : decode cX6_fault 0 = .ok (.iload_n 1, 1) := by decide +kernel
theorem dX6_fault_1 : decode cX6_fault 1 = .ok (.iconst 0, 1) := by decide +kernel
theorem dX6_fault_2 : decode cX6_fault 2 = .ok (.iconst 1, 1) := by decide +kernel
theorem dX6_fault_3 : decode cX6_fault 3 = .ok (.invokestatic 32, 3) := by decide +kernel
theorem dX6_fault_6 : decode cX6_fault 6 = .ok (.ifCond .ne 5, 3) := by decide +kernel
theorem dX6_fault_9 : decode cX6_fault 9 = .ok (.iconst (-1), 1) := by decide +kernel
theorem dX6_fault_10 : decode cX6_fault 10 = .ok (.ireturn, 1) := by decide +kernel
theorem dX6_fault_11 : decode cX6_fault 11 = .ok (.aload_n 0, 1) := by decide +kernel
theorem dX6_fault_12 : decode cX6_fault 12 = .ok (.invokevirtual 165, 3) := by decide +kernel
theorem dX6_fault_15 : decode cX6_fault 15 = .ok (.istore_n 2, 1) := by decide +kernel
theorem dX6_fault_16 : decode cX6_fault 16 = .ok (.iload_n 2, 1) := by decide +kernel
theorem dX6_fault_17 : decode cX6_fault 17 = .ok (.ifCond .ne 8, 3) := by decide +kernel
theorem dX6_fault_20 : decode cX6_fault 20 = .ok (.bipush (-4), 2) := by decide +kernel
theorem dX6_fault_22 : decode cX6_fault 22 = .ok (.goto 15, 3) := by decide +kernel
theorem dX6_fault_25 : decode cX6_fault 25 = .ok (.iload_n 1, 1) := by decide +kernel
theorem dX6_fault_26 : decode cX6_fault 26 = .ok (.ifCond .ne 10, 3) := by decide +kernel
theorem dX6_fault_29 : decode cX6_fault 29 = .ok (.aload_n 0, 1) := by decide +kernel
theorem dX6_fault_30 : decode cX6_fault 30 = .ok (.getfield 141, 3) := by decide +kernel
theorem dX6_fault_33 : decode cX6_fault 33 = .ok (.goto 4, 3) := by decide +kernel
theorem dX6_fault_36 : decode cX6_fault 36 = .ok (.iload_n 2, 1) := by decide +kernel
theorem dX6_fault_37 : decode cX6_fault 37 = .ok (.ireturn, 1) := by decide +kernel
theorem dX6_load_0 : decode cX6_load 0 = .ok (.aload_n 0, 1) := by decide +kernel
theorem dX6_load_1 : decode cX6_load 1 = .ok (.invokevirtual 165, 3) := by decide +kernel
theorem dX6_load_4 : decode cX6_load 4 = .ok (.ifCond .le 6, 3) := by decide +kernel
theorem dX6_load_7 : decode cX6_load 7 = .ok (.bipush (-2), 2) := by decide +kernel
theorem dX6_load_9 : decode cX6_load 9 = .ok (.ireturn, 1) := by decide +kernel
theorem dX6_load_10 : decode cX6_load 10 = .ok (.aload_n 0, 1) := by decide +kernel
theorem dX6_load_11 : decode cX6_load 11 = .ok (.invokevirtual 44, 3) := by decide +kernel
theorem dX6_load_14 : decode cX6_load 14 = .ok (.iconst 0, 1) := by decide +kernel
theorem dX6_load_15 : decode cX6_load 15 = .ok (.istore_n 1, 1) := by decide +kernel
theorem dX6_load_16 : decode cX6_load 16 = .ok (.iload_n 1, 1) := by decide +kernel
theorem dX6_load_17 : decode cX6_load 17 = .ok (.bipush 24, 2) := by decide +kernel
theorem dX6_load_19 : decode cX6_load 19 = .ok (.if_icmp .ge 35, 3) := by decide +kernel
theorem dX6_load_22 : decode cX6_load 22 = .ok (.aload_n 0, 1) := by decide +kernel
theorem dX6_load_23 : decode cX6_load 23 = .ok (.getfield 7, 3) := by decide +kernel
theorem dX6_load_26 : decode cX6_load 26 = .ok (.bipush 38, 2) := by decide +kernel
theorem dX6_load_28 : decode cX6_load 28 = .ok (.iload_n 1, 1) := by decide +kernel
theorem dX6_load_29 : decode cX6_load 29 = .ok (.iadd, 1) := by decide +kernel
theorem dX6_load_30 : decode cX6_load 30 = .ok (.aload_n 0, 1) := by decide +kernel
theorem dX6_load_31 : decode cX6_load 31 = .ok (.getfield 25, 3) := by decide +kernel
theorem dX6_load_34 : decode cX6_load 34 = .ok (.bipush 10, 2) := by decide +kernel
theorem dX6_load_36 : decode cX6_load 36 = .ok (.iload_n 1, 1) := by decide +kernel
theorem dX6_load_37 : decode cX6_load 37 = .ok (.bipush 8, 2) := by decide +kernel
theorem dX6_load_39 : decode cX6_load 39 = .ok (.idiv, 1) := by decide +kernel
theorem dX6_load_40 : decode cX6_load 40 = .ok (.imul, 1) := by decide +kernel
theorem dX6_load_41 : decode cX6_load 41 = .ok (.iload_n 1, 1) := by decide +kernel
theorem dX6_load_42 : decode cX6_load 42 = .ok (.bipush 8, 2) := by decide +kernel
theorem dX6_load_44 : decode cX6_load 44 = .ok (.irem, 1) := by decide +kernel
theorem dX6_load_45 : decode cX6_load 45 = .ok (.iadd, 1) := by decide +kernel
theorem dX6_load_46 : decode cX6_load 46 = .ok (.iaload, 1) := by decide +kernel
theorem dX6_load_47 : decode cX6_load 47 = .ok (.iastore, 1) := by decide +kernel
theorem dX6_load_48 : decode cX6_load 48 = .ok (.iinc 1 1, 3) := by decide +kernel
theorem dX6_load_51 : decode cX6_load 51 = .ok (.goto (-35), 3) := by decide +kernel
theorem dX6_load_54 : decode cX6_load 54 = .ok (.aload_n 0, 1) := by decide +kernel
theorem dX6_load_55 : decode cX6_load 55 = .ok (.getfield 159, 3) := by decide +kernel
theorem dX6_load_58 : decode cX6_load 58 = .ok (.ireturn, 1) := by decide +kernel
