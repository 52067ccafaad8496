theorem dX5_turn_91 : decode cX5_turn 91 = .ok (.getfield 12, 3) := by decide +kernel
theorem dX5_turn_94 : decode cX5_turn 94 = .ok (.iload 4, 2) := by decide +kernel
theorem dX5_turn_96 : decode cX5_turn 96 = .ok (.invokevirtual 63, 3) := by decide +kernel
theorem dX5_turn_99 : decode cX5_turn 99 = .ok (.iinc 5 1, 3) := by decide +kernel
theorem dX5_turn_102 : decode cX5_turn 102 = .ok (.goto (-21), 3) := by decide +kernel
theorem dX5_turn_105 : decode cX5_turn 105 = .ok (.aload_n 0, 1) := by decide +kernel
theorem dX5_turn_106 : decode cX5_turn 106 = .ok (.getfield 12, 3) := by decide +kernel
theorem dX5_turn_109 : decode cX5_turn 109 = .ok (.iload_n 2, 1) := by decide +kernel
theorem dX5_turn_110 : decode cX5_turn 110 = .ok (.putfield 48, 3) := by decide +kernel
theorem dX5_turn_113 : decode cX5_turn 113 = .ok (.iload_n 2, 1) := by decide +kernel
theorem dX5_turn_114 : decode cX5_turn 114 = .ok (.ireturn, 1) := by decide +kernel
theorem dX5_power_0 : decode cX5_power 0 = .ok (.iload_n 1, 1) := by decide +kernel
theorem dX5_power_1 : decode cX5_power 1 = .ok (.iconst 0, 1) := by decide +kernel
theorem dX5_power_2 : decode cX5_power 2 = .ok (.iconst 1, 1) := by decide +kernel
theorem dX5_power_3 : decode cX5_power 3 = .ok (.invokestatic 44, 3) := by decide +kernel
theorem dX5_power_6 : decode cX5_power 6 = .ok (.ifCond .eq 5, 3) := by decide +kernel
theorem dX5_power_9 : decode cX5_power 9 = .ok (.iconst (-1), 1) := by decide +kernel
theorem dX5_power_10 : decode cX5_power 10 = .ok (.ireturn, 1) := by decide +kernel
theorem dX5_power_11 : decode cX5_power 11 = .ok (.aload_n 0, 1) := by decide +kernel
theorem dX5_power_12 : decode cX5_power 12 = .ok (.getfield 19, 3) := by decide +kernel
theorem dX5_power_15 : decode cX5_power 15 = .ok (.aload_n 0, 1) := by decide +kernel
theorem dX5_power_16 : decode cX5_power 16 = .ok (.getfield 12, 3) := by decide +kernel
theorem dX5_power_19 : decode cX5_power 19 = .ok (.invokevirtual 53, 3) := by decide +kernel
theorem dX5_power_22 : decode cX5_power 22 = .ok (.aload_n 0, 1) := by decide +kernel
theorem dX5_power_23 : decode cX5_power 23 = .ok (.getfield 12, 3) := by decide +kernel
theorem dX5_power_26 : decode cX5_power 26 = .ok (.getfield 67, 3) := by decide +kernel
theorem dX5_power_29 : decode cX5_power 29 = .ok (.invokestatic 71, 3) := by decide +kernel
theorem dX5_power_32 : decode cX5_power 32 = .ok (.istore_n 2, 1) := by decide +kernel
theorem dX5_power_33 : decode cX5_power 33 = .ok (.aload_n 0, 1) := by decide +kernel
theorem dX5_power_34 : decode cX5_power 34 = .ok (.getfield 12, 3) := by decide +kernel
theorem dX5_power_37 : decode cX5_power 37 = .ok (.iload_n 1, 1) := by decide +kernel
theorem dX5_power_38 : decode cX5_power 38 = .ok (.iconst 1, 1) := by decide +kernel
theorem dX5_power_39 : decode cX5_power 39 = .ok (.if_icmp .ne 7, 3) := by decide +kernel
theorem dX5_power_42 : decode cX5_power 42 = .ok (.iconst 1, 1) := by decide +kernel
theorem dX5_power_43 : decode cX5_power 43 = .ok (.goto 4, 3) := by decide +kernel
theorem dX5_power_46 : decode cX5_power 46 = .ok (.iconst 0, 1) := by decide +kernel
theorem dX5_power_47 : decode cX5_power 47 = .ok (.putfield 67, 3) := by decide +kernel
theorem dX5_power_50 : decode cX5_power 50 = .ok (.iload_n 2, 1) := by decide +kernel
theorem dX5_power_51 : decode cX5_power 51 = .ok (.ireturn, 1) := by decide +kernel
theorem dX5_brownout_0 : decode cX5_brownout 0 = .ok (.iload_n 1, 1) := by decide +kernel
theorem dX5_brownout_1 : decode cX5_brownout 1 = .ok (.iconst 1, 1) := by decide +kernel
theorem dX5_brownout_2 : decode cX5_brownout 2 = .ok (.bipush 9, 2) := by decide +kernel
theorem dX5_brownout_4 : decode cX5_brownout 4 = .ok (.invokestatic 44, 3) := by decide +kernel
theorem dX5_brownout_7 : decode cX5_brownout 7 = .ok (.ifCond .eq 5, 3) := by decide +kernel
theorem dX5_brownout_10 : decode cX5_brownout 10 = .ok (.iconst (-1), 1) := by decide +kernel
theorem dX5_brownout_11 : decode cX5_brownout 11 = .ok (.ireturn, 1) := by decide +kernel
theorem dX5_brownout_12 : decode cX5_brownout 12 = .ok (.aload_n 0, 1) := by decide +kernel
theorem dX5_brownout_13 : decode cX5_brownout 13 = .ok (.getfield 12, 3) := by decide +kernel
theorem dX5_brownout_16 : decode cX5_brownout 16 = .ok (.getfield 75, 3) := by decide +kernel
theorem dX5_brownout_19 : decode cX5_brownout 19 = .ok (.iload_n 1, 1) := by decide +kernel
theorem dX5_brownout_20 : decode cX5_brownout 20 = .ok (.iadd, 1) := by decide +kernel
theorem dX5_brownout_21 : decode cX5_brownout 21 = .ok (.bipush 99, 2) := by decide +kernel
theorem dX5_brownout_23 : decode cX5_brownout 23 = .ok (.if_icmp .le 6, 3) := by decide +kernel
theorem dX5_brownout_26 : decode cX5_brownout 26 = .ok (.bipush (-3), 2) := by decide +kernel
theorem dX5_brownout_28 : decode cX5_brownout 28 = .ok (.ireturn, 1) := by decide +kernel
theorem dX5_brownout_29 : decode cX5_brownout 29 = .ok (.aload_n 0, 1) := by decide +kernel
theorem dX5_brownout_30 : decode cX5_brownout 30 = .ok (.getfield 19, 3) := by decide +kernel
theorem dX5_brownout_33 : decode cX5_brownout 33 = .ok (.aload_n 0, 1) := by decide +kernel
theorem dX5_brownout_34 : decode cX5_brownout 34 = .ok (.getfield 12, 3) := by decide +kernel
theorem dX5_brownout_37 : decode cX5_brownout 37 = .ok (.invokevirtual 53, 3) := by decide +kernel
theorem dX5_brownout_40 : decode cX5_brownout 40 = .ok (.aload_n 0, 1) := by decide +kernel
theorem dX5_brownout_41 : decode cX5_brownout 41 = .ok (.getfield 12, 3) := by decide +kernel
theorem dX5_brownout_44 : decode cX5_brownout 44 = .ok (.dup, 1) := by decide +kernel
theorem dX5_brownout_45 : decode cX5_brownout 45 = .ok (.getfield 75, 3) := by decide +kernel
theorem dX5_brownout_48 : decode cX5_brownout 48 = .ok (.iload_n 1, 1) := by decide +kernel
theorem dX5_brownout_49 : decode cX5_brownout 49 = .ok (.iadd, 1) := by decide +kernel
theorem dX5_brownout_50 : decode cX5_brownout 50 = .ok (.putfield 75, 3) := by decide +kernel
theorem dX5_brownout_53 : decode cX5_brownout 53 = .ok (.aload_n 0, 1) := by decide +kernel
theorem dX5_brownout_54 : decode cX5_brownout 54 = .ok (.getfield 12, 3) := by decide +kernel
theorem dX5_brownout_57 : decode cX5_brownout 57 = .ok (.getfield 75, 3) := by decide +kernel
theorem dX5_brownout_60 : decode cX5_brownout 60 = .ok (.ireturn, 1) := by decide +kernel
theorem dX5_charge_0 : decode cX5_charge 0 = .ok (.iload_n 1, 1) := by decide +kernel
theorem dX5_charge_1 : decode cX5_charge 1 = .ok (.iconst 0, 1) := by decide +kernel
theorem dX5_charge_2 : decode cX5_charge 2 = .ok (.sipush 999, 3) := by decide +kernel
theorem dX5_charge_5 : decode cX5_charge 5 = .ok (.invokestatic 44, 3) := by decide +kernel
theorem dX5_charge_8 : decode cX5_charge 8 = .ok (.ifCond .eq 5, 3) := by decide +kernel
theorem dX5_charge_11 : decode cX5_charge 11 = .ok (.iconst (-1), 1) := by decide +kernel
theorem dX5_charge_12 : decode cX5_charge 12 = .ok (.ireturn, 1) := by decide +kernel
theorem dX5_charge_13 : decode cX5_charge 13 = .ok (.aload_n 0, 1) := by decide +kernel
theorem dX5_charge_14 : decode cX5_charge 14 = .ok (.getfield 19, 3) := by decide +kernel
theorem dX5_charge_17 : decode cX5_charge 17 = .ok (.aload_n 0, 1) := by decide +kernel
theorem dX5_charge_18 : decode cX5_charge 18 = .ok (.getfield 12, 3) := by decide +kernel
theorem dX5_charge_21 : decode cX5_charge 21 = .ok (.invokevirtual 53, 3) := by decide +kernel
theorem dX5_charge_24 : decode cX5_charge 24 = .ok (.aload_n 0, 1) := by decide +kernel
theorem dX5_charge_25 : decode cX5_charge 25 = .ok (.getfield 12, 3) := by decide +kernel
theorem dX5_charge_28 : decode cX5_charge 28 = .ok (.getfield 78, 3) := by decide +kernel
theorem dX5_charge_31 : decode cX5_charge 31 = .ok (.istore_n 2, 1) := by decide +kernel
theorem dX5_charge_32 : decode cX5_charge 32 = .ok (.aload_n 0, 1) := by decide +kernel
theorem dX5_charge_33 : decode cX5_charge 33 = .ok (.getfield 12, 3) := by decide +kernel
theorem dX5_charge_36 : decode cX5_charge 36 = .ok (.iload_n 1, 1) := by decide +kernel
theorem dX5_charge_37 : decode cX5_charge 37 = .ok (.putfield 78, 3) := by decide +kernel
theorem dX5_charge_40 : decode cX5_charge 40 = .ok (.iload_n 2, 1) := by decide +kernel
theorem dX5_charge_41 : decode cX5_charge 41 = .ok (.ireturn, 1) := by decide +kernel
theorem dX5_count_0 : decode cX5_count 0 = .ok (.iload_n 1, 1) := by decide +kernel
theorem dX5_count_1 : decode cX5_count 1 = .ok (.tableswitch 178 0 11 #[63, 71, 79, 87, 98, 106, 114, 138, 146, 154, 162, 170], 63) := by decide +kernel
theorem dX5_count_64 : decode cX5_count 64 = .ok (.aload_n 0, 1) := by decide +kernel
theorem dX5_count_65 : decode cX5_count 65 = .ok (.getfield 12, 3) := by decide +kernel
theorem dX5_count_68 : decode cX5_count 68 = .ok (.getfield 48, 3) := by decide +kernel
theorem dX5_count_71 : decode cX5_count 71 = .ok (.ireturn, 1) := by decide +kernel
theorem dX5_count_72 : decode cX5_count 72 = .ok (.aload_n 0, 1) := by decide +kernel
theorem dX5_count_73 : decode cX5_count 73 = .ok (.getfield 12, 3) := by decide +kernel
theorem dX5_count_76 : decode cX5_count 76 = .ok (.invokevirtual 81, 3) := by decide +kernel
theorem dX5_count_79 : decode cX5_count 79 = .ok (.ireturn, 1) := by decide +kernel
theorem dX5_count_80 : decode cX5_count 80 = .ok (.aload_n 0, 1) := by decide +kernel
theorem dX5_count_81 : decode cX5_count 81 = .ok (.getfield 12, 3) := by decide +kernel
theorem dX5_count_84 : decode cX5_count 84 = .ok (.getfield 85, 3) := by decide +kernel
theorem dX5_count_87 : decode cX5_count 87 = .ok (.ireturn, 1) := by decide +kernel
theorem dX5_count_88 : decode cX5_count 88 = .ok (.aload_n 0, 1) := by decide +kernel
theorem dX5_count_89 : decode cX5_count 89 = .ok (.getfield 12, 3) := by decide +kernel
theorem dX5_count_92 : decode cX5_count 92 = .ok (.getfield 67, 3) := by decide +kernel
theorem dX5_count_95 : decode cX5_count 95 = .ok (.invokestatic 71, 3) := by decide +kernel
theorem dX5_count_98 : decode cX5_count 98 = .ok (.ireturn, 1) := by decide +kernel
theorem dX5_count_99 : decode cX5_count 99 = .ok (.aload_n 0, 1) := by decide +kernel
theorem dX5_count_100 : decode cX5_count 100 = .ok (.getfield 12, 3) := by decide +kernel
theorem dX5_count_103 : decode cX5_count 103 = .ok (.getfield 78, 3) := by decide +kernel
theorem dX5_count_106 : decode cX5_count 106 = .ok (.ireturn, 1) := by decide +kernel
theorem dX5_count_107 : decode cX5_count 107 = .ok (.aload_n 0, 1) := by decide +kernel
theorem dX5_count_108 : decode cX5_count 108 = .ok (.getfield 12, 3) := by decide +kernel
theorem dX5_count_111 : decode cX5_count 111 = .ok (.getfield 75, 3) := by decide +kernel
theorem dX5_count_114 : decode cX5_count 114 = .ok (.ireturn, 1) := by decide +kernel
theorem dX5_count_115 : decode cX5_count 115 = .ok (.aload_n 0, 1) := by decide +kernel
theorem dX5_count_116 : decode cX5_count 116 = .ok (.getfield 12, 3) := by decide +kernel
theorem dX5_count_119 : decode cX5_count 119 = .ok (.getfield 88, 3) := by decide +kernel
theorem dX5_count_122 : decode cX5_count 122 = .ok (.iconst (-1), 1) := by decide +kernel
theorem dX5_count_123 : decode cX5_count 123 = .ok (.if_icmp .ne 8, 3) := by decide +kernel
theorem dX5_count_126 : decode cX5_count 126 = .ok (.bipush (-4), 2) := by decide +kernel
theorem dX5_count_128 : decode cX5_count 128 = .ok (.goto 10, 3) := by decide +kernel
theorem dX5_count_131 : decode cX5_count 131 = .ok (.aload_n 0, 1) := by decide +kernel
theorem dX5_count_132 : decode cX5_count 132 = .ok (.getfield 12, 3) := by decide +kernel
theorem dX5_count_135 : decode cX5_count 135 = .ok (.getfield 88, 3) := by decide +kernel
theorem dX5_count_138 : decode cX5_count 138 = .ok (.ireturn, 1) := by decide +kernel
theorem dX5_count_139 : decode cX5_count 139 = .ok (.aload_n 0, 1) := by decide +kernel
theorem dX5_count_140 : decode cX5_count 140 = .ok (.getfield 12, 3) := by decide +kernel
theorem dX5_count_143 : decode cX5_count 143 = .ok (.getfield 91, 3) := by decide +kernel
theorem dX5_count_146 : decode cX5_count 146 = .ok (.ireturn, 1) := by decide +kernel
theorem dX5_count_147 : decode cX5_count 147 = .ok (.aload_n 0, 1) := by decide +kernel
theorem dX5_count_148 : decode cX5_count 148 = .ok (.getfield 12, 3) := by decide +kernel
theorem dX5_count_151 : decode cX5_count 151 = .ok (.invokevirtual 94, 3) := by decide +kernel
theorem dX5_count_154 : decode cX5_count 154 = .ok (.ireturn, 1) := by decide +kernel
theorem dX5_count_155 : decode cX5_count 155 = .ok (.aload_n 0, 1) := by decide +kernel
theorem dX5_count_156 : decode cX5_count 156 = .ok (.getfield 12, 3) := by decide +kernel
theorem dX5_count_159 : decode cX5_count 159 = .ok (.invokevirtual 97, 3) := by decide +kernel
theorem dX5_count_162 : decode cX5_count 162 = .ok (.ireturn, 1) := by decide +kernel
theorem dX5_count_163 : decode cX5_count 163 = .ok (.aload_n 0, 1) := by decide +kernel
theorem dX5_count_164 : decode cX5_count 164 = .ok (.getfield 19, 3) := by decide +kernel
theorem dX5_count_167 : decode cX5_count 167 = .ok (.getfield 100, 3) := by decide +kernel
theorem dX5_count_170 : decode cX5_count 170 = .ok (.ireturn, 1) := by decide +kernel
theorem dX5_count_171 : decode cX5_count 171 = .ok (.aload_n 0, 1) := by decide +kernel
theorem dX5_count_172 : decode cX5_count 172 = .ok (.getfield 40, 3) := by decide +kernel
theorem dX5_count_175 : decode cX5_count 175 = .ok (.getfield 103, 3) := by decide +kernel
theorem dX5_count_178 : decode cX5_count 178 = .ok (.ireturn, 1) := by decide +kernel
theorem dX5_count_179 : decode cX5_count 179 = .ok (.aload_n 0, 1) := by decide +kernel
theorem dX5_count_180 : decode cX5_count 180 = .ok (.iload_n 1, 1) := by decide +kernel
theorem dX5_count_181 : decode cX5_count 181 = .ok (.bipush 20, 2) := by decide +kernel
theorem dX5_count_183 : decode cX5_count 183 = .ok (.isub, 1) := by decide +kernel
theorem dX5_count_184 : decode cX5_count 184 = .ok (.invokevirtual 106, 3) := by decide +kernel
theorem dX5_count_187 : decode cX5_count 187 = .ok (.ireturn, 1) := by decide +kernel
theorem dX5_undo_0 : decode cX5_undo 0 = .ok (.aload_n 0, 1) := by decide +kernel
theorem dX5_undo_1 : decode cX5_undo 1 = .ok (.getfield 19, 3) := by decide +kernel
theorem dX5_undo_4 : decode cX5_undo 4 = .ok (.getfield 100, 3) := by decide +kernel
theorem dX5_undo_7 : decode cX5_undo 7 = .ok (.ifCond .ne 6, 3) := by decide +kernel
theorem dX5_undo_10 : decode cX5_undo 10 = .ok (.bipush (-2), 2) := by decide +kernel
theorem dX5_undo_12 : decode cX5_undo 12 = .ok (.ireturn, 1) := by decide +kernel
theorem dX5_undo_13 : decode cX5_undo 13 = .ok (.aload_n 0, 1) := by decide +kernel
theorem dX5_undo_14 : decode cX5_undo 14 = .ok (.getfield 19, 3) := by decide +kernel
theorem dX5_undo_17 : decode cX5_undo 17 = .ok (.aload_n 0, 1) := by decide +kernel
theorem dX5_undo_18 : decode cX5_undo 18 = .ok (.getfield 12, 3) := by decide +kernel
theorem dX5_undo_21 : decode cX5_undo 21 = .ok (.invokevirtual 109, 3) := by decide +kernel
theorem dX5_undo_24 : decode cX5_undo 24 = .ok (.aload_n 0, 1) := by decide +kernel
theorem dX5_undo_25 : decode cX5_undo 25 = .ok (.getfield 19, 3) := by decide +kernel
theorem dX5_undo_28 : decode cX5_undo 28 = .ok (.getfield 100, 3) := by decide +kernel
theorem dX5_undo_31 : decode cX5_undo 31 = .ok (.ireturn, 1) := by decide +kernel
theorem dX5_disk_0 : decode cX5_disk 0 = .ok (.iload_n 1, 1) := by decide +kernel
theorem dX5_disk_1 : decode cX5_disk 1 = .ok (.iload_n 2, 1) := by decide +kernel
theorem dX5_disk_2 : decode cX5_disk 2 = .ok (.invokestatic 112, 3) := by decide +kernel
theorem dX5_disk_5 : decode cX5_disk 5 = .ok (.ifCond .eq 14, 3) := by decide +kernel
theorem dX5_disk_8 : decode cX5_disk 8 = .ok (.iload_n 3, 1) := by decide +kernel
theorem dX5_disk_9 : decode cX5_disk 9 = .ok (.bipush (-9), 2) := by decide +kernel
theorem dX5_disk_11 : decode cX5_disk 11 = .ok (.bipush 9, 2) := by decide +kernel
theorem dX5_disk_13 : decode cX5_disk 13 = .ok (.invokestatic 44, 3) := by decide +kernel
theorem dX5_disk_16 : decode cX5_disk 16 = .ok (.ifCond .eq 5, 3) := by decide +kernel
theorem dX5_disk_19 : decode cX5_disk 19 = .ok (.iconst (-1), 1) := by decide +kernel
theorem dX5_disk_20 : decode cX5_disk 20 = .ok (.ireturn, 1) := by decide +kernel
theorem dX5_disk_21 : decode cX5_disk 21 = .ok (.aload_n 0, 1) := by decide +kernel
theorem dX5_disk_22 : decode cX5_disk 22 = .ok (.getfield 19, 3) := by decide +kernel
theorem dX5_disk_25 : decode cX5_disk 25 = .ok (.aload_n 0, 1) := by decide +kernel
theorem dX5_disk_26 : decode cX5_disk 26 = .ok (.getfield 12, 3) := by decide +kernel
theorem dX5_disk_29 : decode cX5_disk 29 = .ok (.invokevirtual 53, 3) := by decide +kernel
theorem dX5_disk_32 : decode cX5_disk 32 = .ok (.aload_n 0, 1) := by decide +kernel
theorem dX5_disk_33 : decode cX5_disk 33 = .ok (.getfield 12, 3) := by decide +kernel
theorem dX5_disk_36 : decode cX5_disk 36 = .ok (.getfield 116, 3) := by decide +kernel
theorem dX5_disk_39 : decode cX5_disk 39 = .ok (.iload_n 1, 1) := by decide +kernel
theorem dX5_disk_40 : decode cX5_disk 40 = .ok (.iload_n 2, 1) := by decide +kernel
theorem dX5_disk_41 : decode cX5_disk 41 = .ok (.invokestatic 120, 3) := by decide +kernel
theorem dX5_disk_44 : decode cX5_disk 44 = .ok (.invokestatic 124, 3) := by decide +kernel
theorem dX5_disk_47 : decode cX5_disk 47 = .ok (.istore 4, 2) := by decide +kernel
theorem dX5_disk_49 : decode cX5_disk 49 = .ok (.aload_n 0, 1) := by decide +kernel
theorem dX5_disk_50 : decode cX5_disk 50 = .ok (.getfield 12, 3) := by decide +kernel
theorem dX5_disk_53 : decode cX5_disk 53 = .ok (.getfield 116, 3) := by decide +kernel
theorem dX5_disk_56 : decode cX5_disk 56 = .ok (.iload_n 1, 1) := by decide +kernel
theorem dX5_disk_57 : decode cX5_disk 57 = .ok (.iload_n 2, 1) := by decide +kernel
theorem dX5_disk_58 : decode cX5_disk 58 = .ok (.invokestatic 120, 3) := by decide +kernel
theorem dX5_disk_61 : decode cX5_disk 61 = .ok (.iload_n 3, 1) := by decide +kernel
theorem dX5_disk_62 : decode cX5_disk 62 = .ok (.invokestatic 128, 3) := by decide +kernel
theorem dX5_disk_65 : decode cX5_disk 65 = .ok (.iload 4, 2) := by decide +kernel
theorem dX5_disk_67 : decode cX5_disk 67 = .ok (.bipush 100, 2) := by decide +kernel
theorem dX5_disk_69 : decode cX5_disk 69 = .ok (.iadd, 1) := by decide +kernel
theorem dX5_disk_70 : decode cX5_disk 70 = .ok (.ireturn, 1) := by decide +kernel
theorem dX5_noise_0 : decode cX5_noise 0 = .ok (.iload_n 1, 1) := by decide +kernel
theorem dX5_noise_1 : decode cX5_noise 1 = .ok (.invokestatic 132, 3) := by decide +kernel
theorem dX5_noise_4 : decode cX5_noise 4 = .ok (.ifCond .eq 14, 3) := by decide +kernel
theorem dX5_noise_7 : decode cX5_noise 7 = .ok (.iload_n 2, 1) := by decide +kernel
theorem dX5_noise_8 : decode cX5_noise 8 = .ok (.bipush (-9), 2) := by decide +kernel
theorem dX5_noise_10 : decode cX5_noise 10 = .ok (.bipush 9, 2) := by decide +kernel
theorem dX5_noise_12 : decode cX5_noise 12 = .ok (.invokestatic 44, 3) := by decide +kernel
theorem dX5_noise_15 : decode cX5_noise 15 = .ok (.ifCond .eq 5, 3) := by decide +kernel
theorem dX5_noise_18 : decode cX5_noise 18 = .ok (.iconst (-1), 1) := by decide +kernel
theorem dX5_noise_19 : decode cX5_noise 19 = .ok (.ireturn, 1) := by decide +kernel
theorem dX5_noise_20 : decode cX5_noise 20 = .ok (.aload_n 0, 1) := by decide +kernel
theorem dX5_noise_21 : decode cX5_noise 21 = .ok (.getfield 19, 3) := by decide +kernel
theorem dX5_noise_24 : decode cX5_noise 24 = .ok (.aload_n 0, 1) := by decide +kernel
theorem dX5_noise_25 : decode cX5_noise 25 = .ok (.getfield 12, 3) := by decide +kernel
theorem dX5_noise_28 : decode cX5_noise 28 = .ok (.invokevirtual 53, 3) := by decide +kernel
theorem dX5_noise_31 : decode cX5_noise 31 = .ok (.aload_n 0, 1) := by decide +kernel
theorem dX5_noise_32 : decode cX5_noise 32 = .ok (.getfield 12, 3) := by decide +kernel
theorem dX5_noise_35 : decode cX5_noise 35 = .ok (.getfield 136, 3) := by decide +kernel
theorem dX5_noise_38 : decode cX5_noise 38 = .ok (.iload_n 1, 1) := by decide +kernel
theorem dX5_noise_39 : decode cX5_noise 39 = .ok (.invokestatic 124, 3) := by decide +kernel
theorem dX5_noise_42 : decode cX5_noise 42 = .ok (.istore_n 3, 1) := by decide +kernel
theorem dX5_noise_43 : decode cX5_noise 43 = .ok (.aload_n 0, 1) := by decide +kernel
theorem dX5_noise_44 : decode cX5_noise 44 = .ok (.getfield 12, 3) := by decide +kernel
theorem dX5_noise_47 : decode cX5_noise 47 = .ok (.getfield 136, 3) := by decide +kernel
theorem dX5_noise_50 : decode cX5_noise 50 = .ok (.iload_n 1, 1) := by decide +kernel
theorem dX5_noise_51 : decode cX5_noise 51 = .ok (.iload_n 2, 1) := by decide +kernel
theorem dX5_noise_52 : decode cX5_noise 52 = .ok (.invokestatic 128, 3) := by decide +kernel
theorem dX5_noise_55 : decode cX5_noise 55 = .ok (.iload_n 3, 1) := by decide +kernel
theorem dX5_noise_56 : decode cX5_noise 56 = .ok (.bipush 100, 2) := by decide +kernel
theorem dX5_noise_58 : decode cX5_noise 58 = .ok (.iadd, 1) := by decide +kernel
theorem dX5_noise_59 : decode cX5_noise 59 = .ok (.ireturn, 1) := by decide +kernel
theorem dX5_set_0 : decode cX5_set 0 = .ok (.iload_n 1, 1) := by decide +kernel
theorem dX5_set_1 : decode cX5_set 1 = .ok (.iconst 0, 1) := by decide +kernel
theorem dX5_set_2 : decode cX5_set 2 = .ok (.iconst 3, 1) := by decide +kernel
theorem dX5_set_3 : decode cX5_set 3 = .ok (.invokestatic 44, 3) := by decide +kernel
theorem dX5_set_6 : decode cX5_set 6 = .ok (.ifCond .ne 24, 3) := by decide +kernel
theorem dX5_set_9 : decode cX5_set 9 = .ok (.iload_n 2, 1) := by decide +kernel
theorem dX5_set_10 : decode cX5_set 10 = .ok (.getstatic 139, 3) := by decide +kernel
theorem dX5_set_13 : decode cX5_set 13 = .ok (.iload_n 1, 1) := by decide +kernel
theorem dX5_set_14 : decode cX5_set 14 = .ok (.invokestatic 124, 3) := by decide +kernel
theorem dX5_set_17 : decode cX5_set 17 = .ok (.getstatic 142, 3) := by decide +kernel
theorem dX5_set_20 : decode cX5_set 20 = .ok (.iload_n 1, 1) := by decide +kernel
theorem dX5_set_21 : decode cX5_set 21 = .ok (.invokestatic 124, 3) := by decide +kernel
theorem dX5_set_24 : decode cX5_set 24 = .ok (.invokestatic 44, 3) := by decide +kernel
theorem dX5_set_27 : decode cX5_set 27 = .ok (.ifCond .eq 5, 3) := by decide +kernel
theorem dX5_set_30 : decode cX5_set 30 = .ok (.iconst (-1), 1) := by decide +kernel
theorem dX5_set_31 : decode cX5_set 31 = .ok (.ireturn, 1) := by decide +kernel
theorem dX5_set_32 : decode cX5_set 32 = .ok (.aload_n 0, 1) := by decide +kernel
theorem dX5_set_33 : decode cX5_set 33 = .ok (.getfield 19, 3) := by decide +kernel
theorem dX5_set_36 : decode cX5_set 36 = .ok (.aload_n 0, 1) := by decide +kernel
theorem dX5_set_37 : decode cX5_set 37 = .ok (.getfield 12, 3) := by decide +kernel
theorem dX5_set_40 : decode cX5_set 40 = .ok (.invokevirtual 53, 3) := by decide +kernel
theorem dX5_set_43 : decode cX5_set 43 = .ok (.aload_n 0, 1) := by decide +kernel
theorem dX5_set_44 : decode cX5_set 44 = .ok (.iload_n 1, 1) := by decide +kernel
theorem dX5_set_45 : decode cX5_set 45 = .ok (.invokevirtual 145, 3) := by decide +kernel
theorem dX5_set_48 : decode cX5_set 48 = .ok (.istore_n 3, 1) := by decide +kernel
theorem dX5_set_49 : decode cX5_set 49 = .ok (.aload_n 0, 1) := by decide +kernel
theorem dX5_set_50 : decode cX5_set 50 = .ok (.getfield 12, 3) := by decide +kernel
theorem dX5_set_53 : decode cX5_set 53 = .ok (.getfield 148, 3) := by decide +kernel
theorem dX5_set_56 : decode cX5_set 56 = .ok (.iload_n 1, 1) := by decide +kernel
theorem dX5_set_57 : decode cX5_set 57 = .ok (.iload_n 2, 1) := by decide +kernel
theorem dX5_set_58 : decode cX5_set 58 = .ok (.invokestatic 128, 3) := by decide +kernel
theorem dX5_set_61 : decode cX5_set 61 = .ok (.iload_n 3, 1) := by decide +kernel
theorem dX5_set_62 : decode cX5_set 62 = .ok (.ireturn, 1) := by decide +kernel
theorem dX5_reading_0 : decode cX5_reading 0 = .ok (.iload_n 1, 1) := by decide +kernel
theorem dX5_reading_1 : decode cX5_reading 1 = .ok (.invokestatic 132, 3) := by decide +kernel
theorem dX5_reading_4 : decode cX5_reading 4 = .ok (.ifCond .eq 21, 3) := by decide +kernel
theorem dX5_reading_7 : decode cX5_reading 7 = .ok (.aload_n 0, 1) := by decide +kernel
theorem dX5_reading_8 : decode cX5_reading 8 = .ok (.getfield 12, 3) := by decide +kernel
theorem dX5_reading_11 : decode cX5_reading 11 = .ok (.iload_n 1, 1) := by decide +kernel
theorem dX5_reading_12 : decode cX5_reading 12 = .ok (.aload_n 0, 1) := by decide +kernel
theorem dX5_reading_13 : decode cX5_reading 13 = .ok (.getfield 12, 3) := by decide +kernel
theorem dX5_reading_16 : decode cX5_reading 16 = .ok (.invokevirtual 81, 3) := by decide +kernel
theorem dX5_reading_19 : decode cX5_reading 19 = .ok (.invokevirtual 151, 3) := by decide +kernel
theorem dX5_reading_22 : decode cX5_reading 22 = .ok (.goto 4, 3) := by decide +kernel
theorem dX5_reading_25 : decode cX5_reading 25 = .ok (.iconst (-1), 1) := by decide +kernel
theorem dX5_reading_26 : decode cX5_reading 26 = .ok (.ireturn, 1) := by decide +kernel
theorem dX5_found_0 : decode cX5_found 0 = .ok (.iconst 0, 1) := by decide +kernel
theorem dX5_found_1 : decode cX5_found 1 = .ok (.iload_n 1, 1) := by decide +kernel
theorem dX5_found_2 : decode cX5_found 2 = .ok (.invokestatic 154, 3) := by decide +kernel
theorem dX5_found_5 : decode cX5_found 5 = .ok (.ifCond .eq 29, 3) := by decide +kernel
theorem dX5_found_8 : decode cX5_found 8 = .ok (.iconst 1, 1) := by decide +kernel
theorem dX5_found_9 : decode cX5_found 9 = .ok (.iload_n 2, 1) := by decide +kernel
theorem dX5_found_10 : decode cX5_found 10 = .ok (.invokestatic 154, 3) := by decide +kernel
theorem dX5_found_13 : decode cX5_found 13 = .ok (.ifCond .eq 21, 3) := by decide +kernel
theorem dX5_found_16 : decode cX5_found 16 = .ok (.iconst 2, 1) := by decide +kernel
theorem dX5_found_17 : decode cX5_found 17 = .ok (.iload_n 3, 1) := by decide +kernel
theorem dX5_found_18 : decode cX5_found 18 = .ok (.invokestatic 154, 3) := by decide +kernel
theorem dX5_found_21 : decode cX5_found 21 = .ok (.ifCond .eq 13, 3) := by decide +kernel
theorem dX5_found_24 : decode cX5_found 24 = .ok (.iload 4, 2) := by decide +kernel
theorem dX5_found_26 : decode cX5_found 26 = .ok (.iconst 0, 1) := by decide +kernel
theorem dX5_found_27 : decode cX5_found 27 = .ok (.iconst 1, 1) := by decide +kernel
theorem dX5_found_28 : decode cX5_found 28 = .ok (.invokestatic 44, 3) := by decide +kernel
theorem dX5_found_31 : decode cX5_found 31 = .ok (.ifCond .eq 5, 3) := by decide +kernel
theorem dX5_found_34 : decode cX5_found 34 = .ok (.iconst (-1), 1) := by decide +kernel
theorem dX5_found_35 : decode cX5_found 35 = .ok (.ireturn, 1) := by decide +kernel
theorem dX5_found_36 : decode cX5_found 36 = .ok (.iload_n 1, 1) := by decide +kernel
theorem dX5_found_37 : decode cX5_found 37 = .ok (.iload_n 2, 1) := by decide +kernel
theorem dX5_found_38 : decode cX5_found 38 = .ok (.iload_n 3, 1) := by decide +kernel
theorem dX5_found_39 : decode cX5_found 39 = .ok (.invokestatic 157, 3) := by decide +kernel
theorem dX5_found_42 : decode cX5_found 42 = .ok (.istore 5, 2) := by decide +kernel
theorem dX5_found_44 : decode cX5_found 44 = .ok (.iload 4, 2) := by decide +kernel
theorem dX5_found_46 : decode cX5_found 46 = .ok (.ifCond .ne 8, 3) := by decide +kernel
theorem dX5_found_49 : decode cX5_found 49 = .ok (.iload 5, 2) := by decide +kernel
theorem dX5_found_51 : decode cX5_found 51 = .ok (.goto 11, 3) := by decide +kernel
theorem dX5_found_54 : decode cX5_found 54 = .ok (.iload 5, 2) := by decide +kernel
theorem dX5_found_56 : decode cX5_found 56 = .ok (.iload_n 1, 1) := by decide +kernel
theorem dX5_found_57 : decode cX5_found 57 = .ok (.iload_n 2, 1) := by decide +kernel
theorem dX5_found_58 : decode cX5_found 58 = .ok (.iload_n 3, 1) := by decide +kernel
theorem dX5_found_59 : decode cX5_found 59 = .ok (.invokestatic 161, 3) := by decide +kernel
theorem dX5_found_62 : decode cX5_found 62 = .ok (.ireturn, 1) := by decide +kernel
theorem dX5_byTwo_0 : decode cX5_byTwo 0 = .ok (.iload_n 1, 1) := by decide +kernel
theorem dX5_byTwo_1 : decode cX5_byTwo 1 = .ok (.invokestatic 132, 3) := by decide +kernel
theorem dX5_byTwo_4 : decode cX5_byTwo 4 = .ok (.ifCond .eq 32, 3) := by decide +kernel
theorem dX5_byTwo_7 : decode cX5_byTwo 7 = .ok (.iload_n 3, 1) := by decide +kernel
theorem dX5_byTwo_8 : decode cX5_byTwo 8 = .ok (.invokestatic 132, 3) := by decide +kernel
theorem dX5_byTwo_11 : decode cX5_byTwo 11 = .ok (.ifCond .eq 25, 3) := by decide +kernel
theorem dX5_byTwo_14 : decode cX5_byTwo 14 = .ok (.iload_n 1, 1) := by decide +kernel
theorem dX5_byTwo_15 : decode cX5_byTwo 15 = .ok (.iload_n 3, 1) := by decide +kernel
theorem dX5_byTwo_16 : decode cX5_byTwo 16 = .ok (.if_icmp .eq 20, 3) := by decide +kernel
theorem dX5_byTwo_19 : decode cX5_byTwo 19 = .ok (.iload_n 1, 1) := by decide +kernel
theorem dX5_byTwo_20 : decode cX5_byTwo 20 = .ok (.iload_n 2, 1) := by decide +kernel
theorem dX5_byTwo_21 : decode cX5_byTwo 21 = .ok (.invokestatic 154, 3) := by decide +kernel
theorem dX5_byTwo_24 : decode cX5_byTwo 24 = .ok (.ifCond .eq 12, 3) := by decide +kernel
theorem dX5_byTwo_27 : decode cX5_byTwo 27 = .ok (.iload_n 3, 1) := by decide +kernel
theorem dX5_byTwo_28 : decode cX5_byTwo 28 = .ok (.iload 4, 2) := by decide +kernel
theorem dX5_byTwo_30 : decode cX5_byTwo 30 = .ok (.invokestatic 154, 3) := by decide +kernel
theorem dX5_byTwo_33 : decode cX5_byTwo 33 = .ok (.ifCond .ne 5, 3) := by decide +kernel
theorem dX5_byTwo_36 : decode cX5_byTwo 36 = .ok (.iconst (-1), 1) := by decide +kernel
theorem dX5_byTwo_37 : decode cX5_byTwo 37 = .ok (.ireturn, 1) := by decide +kernel
theorem dX5_byTwo_38 : decode cX5_byTwo 38 = .ok (.iconst 0, 1) := by decide +kernel
theorem dX5_byTwo_39 : decode cX5_byTwo 39 = .ok (.istore 5, 2) := by decide +kernel
theorem dX5_byTwo_41 : decode cX5_byTwo 41 = .ok (.iload 5, 2) := by decide +kernel
theorem dX5_byTwo_43 : decode cX5_byTwo 43 = .ok (.sipush 4080, 3) := by decide +kernel
theorem dX5_byTwo_46 : decode cX5_byTwo 46 = .ok (.if_icmp .ge 45, 3) := by decide +kernel
theorem dX5_byTwo_49 : decode cX5_byTwo 49 = .ok (.iload 5, 2) := by decide +kernel
theorem dX5_byTwo_51 : decode cX5_byTwo 51 = .ok (.getstatic 165, 3) := by decide +kernel
theorem dX5_byTwo_54 : decode cX5_byTwo 54 = .ok (.iload_n 1, 1) := by decide +kernel
theorem dX5_byTwo_55 : decode cX5_byTwo 55 = .ok (.invokestatic 124, 3) := by decide +kernel
theorem dX5_byTwo_58 : decode cX5_byTwo 58 = .ok (.invokestatic 168, 3) := by decide +kernel
theorem dX5_byTwo_61 : decode cX5_byTwo 61 = .ok (.iload_n 2, 1) := by decide +kernel
theorem dX5_byTwo_62 : decode cX5_byTwo 62 = .ok (.if_icmp .ne 23, 3) := by decide +kernel
theorem dX5_byTwo_65 : decode cX5_byTwo 65 = .ok (.iload 5, 2) := by decide +kernel
theorem dX5_byTwo_67 : decode cX5_byTwo 67 = .ok (.getstatic 165, 3) := by decide +kernel
theorem dX5_byTwo_70 : decode cX5_byTwo 70 = .ok (.iload_n 3, 1) := by decide +kernel
theorem dX5_byTwo_71 : decode cX5_byTwo 71 = .ok (.invokestatic 124, 3) := by decide +kernel
theorem dX5_byTwo_74 : decode cX5_byTwo 74 = .ok (.invokestatic 168, 3) := by decide +kernel
theorem dX5_byTwo_77 : decode cX5_byTwo 77 = .ok (.iload 4, 2) := by decide +kernel
theorem dX5_byTwo_79 : decode cX5_byTwo 79 = .ok (.if_icmp .ne 6, 3) := by decide +kernel
theorem dX5_byTwo_82 : decode cX5_byTwo 82 = .ok (.iload 5, 2) := by decide +kernel
theorem dX5_byTwo_84 : decode cX5_byTwo 84 = .ok (.ireturn, 1) := by decide +kernel
theorem dX5_byTwo_85 : decode cX5_byTwo 85 = .ok (.iinc 5 1, 3) := by decide +kernel
theorem dX5_byTwo_88 : decode cX5_byTwo 88 = .ok (.goto (-47), 3) := by decide +kernel
theorem dX5_byTwo_91 : decode cX5_byTwo 91 = .ok (.bipush (-4), 2) := by decide +kernel
theorem dX5_byTwo_93 : decode cX5_byTwo 93 = .ok (.ireturn, 1) := by decide +kernel
theorem dX5_correct_0 : decode cX5_correct 0 = .ok (.iload_n 1, 1) := by decide +kernel
theorem dX5_correct_1 : decode cX5_correct 1 = .ok (.iload_n 2, 1) := by decide +kernel
theorem dX5_correct_2 : decode cX5_correct 2 = .ok (.invokestatic 112, 3) := by decide +kernel
theorem dX5_correct_5 : decode cX5_correct 5 = .ok (.ifCond .eq 14, 3) := by decide +kernel
theorem dX5_correct_8 : decode cX5_correct 8 = .ok (.iload_n 3, 1) := by decide +kernel
theorem dX5_correct_9 : decode cX5_correct 9 = .ok (.bipush (-20), 2) := by decide +kernel
theorem dX5_correct_11 : decode cX5_correct 11 = .ok (.bipush 20, 2) := by decide +kernel
theorem dX5_correct_13 : decode cX5_correct 13 = .ok (.invokestatic 44, 3) := by decide +kernel
theorem dX5_correct_16 : decode cX5_correct 16 = .ok (.ifCond .eq 5, 3) := by decide +kernel
theorem dX5_correct_19 : decode cX5_correct 19 = .ok (.iconst (-1), 1) := by decide +kernel
theorem dX5_correct_20 : decode cX5_correct 20 = .ok (.ireturn, 1) := by decide +kernel
theorem dX5_correct_21 : decode cX5_correct 21 = .ok (.aload_n 0, 1) := by decide +kernel
theorem dX5_correct_22 : decode cX5_correct 22 = .ok (.getfield 19, 3) := by decide +kernel
theorem dX5_correct_25 : decode cX5_correct 25 = .ok (.aload_n 0, 1) := by decide +kernel
theorem dX5_correct_26 : decode cX5_correct 26 = .ok (.getfield 12, 3) := by decide +kernel
theorem dX5_correct_29 : decode cX5_correct 29 = .ok (.invokevirtual 53, 3) := by decide +kernel
theorem dX5_correct_32 : decode cX5_correct 32 = .ok (.aload_n 0, 1) := by decide +kernel
theorem dX5_correct_33 : decode cX5_correct 33 = .ok (.getfield 12, 3) := by decide +kernel
theorem dX5_correct_36 : decode cX5_correct 36 = .ok (.getfield 171, 3) := by decide +kernel
theorem dX5_correct_39 : decode cX5_correct 39 = .ok (.iload_n 1, 1) := by decide +kernel
theorem dX5_correct_40 : decode cX5_correct 40 = .ok (.iload_n 2, 1) := by decide +kernel
theorem dX5_correct_41 : decode cX5_correct 41 = .ok (.invokestatic 120, 3) := by decide +kernel
theorem dX5_correct_44 : decode cX5_correct 44 = .ok (.invokestatic 124, 3) := by decide +kernel
theorem dX5_correct_47 : decode cX5_correct 47 = .ok (.istore 4, 2) := by decide +kernel
theorem dX5_correct_49 : decode cX5_correct 49 = .ok (.aload_n 0, 1) := by decide +kernel
theorem dX5_correct_50 : decode cX5_correct 50 = .ok (.getfield 12, 3) := by decide +kernel
theorem dX5_correct_53 : decode cX5_correct 53 = .ok (.getfield 171, 3) := by decide +kernel
theorem dX5_correct_56 : decode cX5_correct 56 = .ok (.iload_n 1, 1) := by decide +kernel
theorem dX5_correct_57 : decode cX5_correct 57 = .ok (.iload_n 2, 1) := by decide +kernel
theorem dX5_correct_58 : decode cX5_correct 58 = .ok (.invokestatic 120, 3) := by decide +kernel
theorem dX5_correct_61 : decode cX5_correct 61 = .ok (.iload_n 3, 1) := by decide +kernel
theorem dX5_correct_62 : decode cX5_correct 62 = .ok (.invokestatic 128, 3) := by decide +kernel
theorem dX5_correct_65 : decode cX5_correct 65 = .ok (.iload 4, 2) := by decide +kernel
theorem dX5_correct_67 : decode cX5_correct 67 = .ok (.bipush 100, 2) := by decide +kernel
theorem dX5_correct_69 : decode cX5_correct 69 = .ok (.iadd, 1) := by decide +kernel
theorem dX5_correct_70 : decode cX5_correct 70 = .ok (.ireturn, 1) := by decide +kernel
theorem dX5_correction_0 : decode cX5_correction 0 = .ok (.iload_n 1, 1) := by decide +kernel
theorem dX5_correction_1 : decode cX5_correction 1 = .ok (.iload_n 2, 1) := by decide +kernel
theorem dX5_correction_2 : decode cX5_correction 2 = .ok (.invokestatic 112, 3) := by decide +kernel
theorem dX5_correction_5 : decode cX5_correction 5 = .ok (.ifCond .ne 5, 3) := by decide +kernel
theorem dX5_correction_8 : decode cX5_correction 8 = .ok (.iconst (-1), 1) := by decide +kernel
theorem dX5_correction_9 : decode cX5_correction 9 = .ok (.ireturn, 1) := by decide +kernel
theorem dX5_correction_10 : decode cX5_correction 10 = .ok (.aload_n 0, 1) := by decide +kernel
theorem dX5_correction_11 : decode cX5_correction 11 = .ok (.getfield 12, 3) := by decide +kernel
theorem dX5_correction_14 : decode cX5_correction 14 = .ok (.getfield 171, 3) := by decide +kernel
theorem dX5_correction_17 : decode cX5_correction 17 = .ok (.iload_n 1, 1) := by decide +kernel
theorem dX5_correction_18 : decode cX5_correction 18 = .ok (.iload_n 2, 1) := by decide +kernel
theorem dX5_correction_19 : decode cX5_correction 19 = .ok (.invokestatic 120, 3) := by decide +kernel
theorem dX5_correction_22 : decode cX5_correction 22 = .ok (.invokestatic 124, 3) := by decide +kernel
theorem dX5_correction_25 : decode cX5_correction 25 = .ok (.bipush 100, 2) := by decide +kernel
theorem dX5_correction_27 : decode cX5_correction 27 = .ok (.iadd, 1) := by decide +kernel
theorem dX5_correction_28 : decode cX5_correction 28 = .ok (.ireturn, 1) := by decide +kernel
theorem dX5_learn_0 : decode cX5_learn 0 = .ok (.iconst 0, 1) := by decide +kernel
theorem dX5_learn_1 : decode cX5_learn 1 = .ok (.istore_n 1, 1) := by decide +kernel
theorem dX5_learn_2 : decode cX5_learn 2 = .ok (.iload_n 1, 1) := by decide +kernel
theorem dX5_learn_3 : decode cX5_learn 3 = .ok (.iconst 3, 1) := by decide +kernel
theorem dX5_learn_4 : decode cX5_learn 4 = .ok (.if_icmp .ge 30, 3) := by decide +kernel
theorem dX5_learn_7 : decode cX5_learn 7 = .ok (.aload_n 0, 1) := by decide +kernel
theorem dX5_learn_8 : decode cX5_learn 8 = .ok (.getfield 12, 3) := by decide +kernel
theorem dX5_learn_11 : decode cX5_learn 11 = .ok (.iload_n 1, 1) := by decide +kernel
theorem dX5_learn_12 : decode cX5_learn 12 = .ok (.invokevirtual 174, 3) := by decide +kernel
theorem dX5_learn_15 : decode cX5_learn 15 = .ok (.bipush (-20), 2) := by decide +kernel
theorem dX5_learn_17 : decode cX5_learn 17 = .ok (.bipush 20, 2) := by decide +kernel
theorem dX5_learn_19 : decode cX5_learn 19 = .ok (.invokestatic 44, 3) := by decide +kernel
theorem dX5_learn_22 : decode cX5_learn 22 = .ok (.ifCond .eq 6, 3) := by decide +kernel
theorem dX5_learn_25 : decode cX5_learn 25 = .ok (.bipush (-2), 2) := by decide +kernel
theorem dX5_learn_27 : decode cX5_learn 27 = .ok (.ireturn, 1) := by decide +kernel
theorem dX5_learn_28 : decode cX5_learn 28 = .ok (.iinc 1 1, 3) := by decide +kernel
theorem dX5_learn_31 : decode cX5_learn 31 = .ok (.goto (-29), 3) := by decide +kernel
theorem dX5_learn_34 : decode cX5_learn 34 = .ok (.aload_n 0, 1) := by decide +kernel
theorem dX5_learn_35 : decode cX5_learn 35 = .ok (.getfield 19, 3) := by decide +kernel
theorem dX5_learn_38 : decode cX5_learn 38 = .ok (.aload_n 0, 1) := by decide +kernel
theorem dX5_learn_39 : decode cX5_learn 39 = .ok (.getfield 12, 3) := by decide +kernel
theorem dX5_learn_42 : decode cX5_learn 42 = .ok (.invokevirtual 53, 3) := by decide +kernel
theorem dX5_learn_45 : decode cX5_learn 45 = .ok (.aload_n 0, 1) := by decide +kernel
theorem dX5_learn_46 : decode cX5_learn 46 = .ok (.getfield 12, 3) := by decide +kernel
theorem dX5_learn_49 : decode cX5_learn 49 = .ok (.invokevirtual 81, 3) := by decide +kernel
theorem dX5_learn_52 : decode cX5_learn 52 = .ok (.invokestatic 177, 3) := by decide +kernel
theorem dX5_learn_55 : decode cX5_learn 55 = .ok (.istore_n 1, 1) := by decide +kernel
theorem dX5_learn_56 : decode cX5_learn 56 = .ok (.iconst 0, 1) := by decide +kernel
theorem dX5_learn_57 : decode cX5_learn 57 = .ok (.istore_n 2, 1) := by decide +kernel
theorem dX5_learn_58 : decode cX5_learn 58 = .ok (.iconst 0, 1) := by decide +kernel
theorem dX5_learn_59 : decode cX5_learn 59 = .ok (.istore_n 3, 1) := by decide +kernel
theorem dX5_learn_60 : decode cX5_learn 60 = .ok (.iload_n 3, 1) := by decide +kernel
theorem dX5_learn_61 : decode cX5_learn 61 = .ok (.iconst 3, 1) := by decide +kernel
theorem dX5_learn_62 : decode cX5_learn 62 = .ok (.if_icmp .ge 59, 3) := by decide +kernel
theorem dX5_learn_65 : decode cX5_learn 65 = .ok (.aload_n 0, 1) := by decide +kernel
theorem dX5_learn_66 : decode cX5_learn 66 = .ok (.getfield 12, 3) := by decide +kernel
theorem dX5_learn_69 : decode cX5_learn 69 = .ok (.iload_n 3, 1) := by decide +kernel
theorem dX5_learn_70 : decode cX5_learn 70 = .ok (.invokevirtual 174, 3) := by decide +kernel
theorem dX5_learn_73 : decode cX5_learn 73 = .ok (.istore 4, 2) := by decide +kernel
theorem dX5_learn_75 : decode cX5_learn 75 = .ok (.aload_n 0, 1) := by decide +kernel
theorem dX5_learn_76 : decode cX5_learn 76 = .ok (.getfield 12, 3) := by decide +kernel
theorem dX5_learn_79 : decode cX5_learn 79 = .ok (.getfield 171, 3) := by decide +kernel
theorem dX5_learn_82 : decode cX5_learn 82 = .ok (.iload_n 3, 1) := by decide +kernel
theorem dX5_learn_83 : decode cX5_learn 83 = .ok (.iload_n 1, 1) := by decide +kernel
theorem dX5_learn_84 : decode cX5_learn 84 = .ok (.invokestatic 120, 3) := by decide +kernel
theorem dX5_learn_87 : decode cX5_learn 87 = .ok (.invokestatic 124, 3) := by decide +kernel
theorem dX5_learn_90 : decode cX5_learn 90 = .ok (.iload 4, 2) := by decide +kernel
theorem dX5_learn_92 : decode cX5_learn 92 = .ok (.if_icmp .eq 6, 3) := by decide +kernel
theorem dX5_learn_95 : decode cX5_learn 95 = .ok (.iinc 2 1, 3) := by decide +kernel
theorem dX5_learn_98 : decode cX5_learn 98 = .ok (.aload_n 0, 1) := by decide +kernel
theorem dX5_learn_99 : decode cX5_learn 99 = .ok (.getfield 12, 3) := by decide +kernel
theorem dX5_learn_102 : decode cX5_learn 102 = .ok (.getfield 171, 3) := by decide +kernel
theorem dX5_learn_105 : decode cX5_learn 105 = .ok (.iload_n 3, 1) := by decide +kernel
theorem dX5_learn_106 : decode cX5_learn 106 = .ok (.iload_n 1, 1) := by decide +kernel
theorem dX5_learn_107 : decode cX5_learn 107 = .ok (.invokestatic 120, 3) := by decide +kernel
theorem dX5_learn_110 : decode cX5_learn 110 = .ok (.iload 4, 2) := by decide +kernel
theorem dX5_learn_112 : decode cX5_learn 112 = .ok (.invokestatic 128, 3) := by decide +kernel
theorem dX5_learn_115 : decode cX5_learn 115 = .ok (.iinc 3 1, 3) := by decide +kernel
theorem dX5_learn_118 : decode cX5_learn 118 = .ok (.goto (-58), 3) := by decide +kernel
theorem dX5_learn_121 : decode cX5_learn 121 = .ok (.iload_n 2, 1) := by decide +kernel
theorem dX5_learn_122 : decode cX5_learn 122 = .ok (.ireturn, 1) := by decide +kernel
theorem dX5_look_0 : decode cX5_look 0 = .ok (.iload_n 1, 1) := by decide +kernel
theorem dX5_look_1 : decode cX5_look 1 = .ok (.iconst 0, 1) := by decide +kernel
theorem dX5_look_2 : decode cX5_look 2 = .ok (.iconst 4, 1) := by decide +kernel
theorem dX5_look_3 : decode cX5_look 3 = .ok (.invokestatic 44, 3) := by decide +kernel
theorem dX5_look_6 : decode cX5_look 6 = .ok (.ifCond .eq 5, 3) := by decide +kernel
theorem dX5_look_9 : decode cX5_look 9 = .ok (.iconst (-1), 1) := by decide +kernel
theorem dX5_look_10 : decode cX5_look 10 = .ok (.ireturn, 1) := by decide +kernel
theorem dX5_look_11 : decode cX5_look 11 = .ok (.aload_n 0, 1) := by decide +kernel
theorem dX5_look_12 : decode cX5_look 12 = .ok (.getfield 26, 3) := by decide +kernel
theorem dX5_look_15 : decode cX5_look 15 = .ok (.aload_n 0, 1) := by decide +kernel
theorem dX5_look_16 : decode cX5_look 16 = .ok (.getfield 12, 3) := by decide +kernel
theorem dX5_look_19 : decode cX5_look 19 = .ok (.aload_n 0, 1) := by decide +kernel
theorem dX5_look_20 : decode cX5_look 20 = .ok (.getfield 12, 3) := by decide +kernel
theorem dX5_look_23 : decode cX5_look 23 = .ok (.invokevirtual 81, 3) := by decide +kernel
theorem dX5_look_26 : decode cX5_look 26 = .ok (.invokevirtual 180, 3) := by decide +kernel
theorem dX5_look_29 : decode cX5_look 29 = .ok (.iload_n 1, 1) := by decide +kernel
theorem dX5_look_30 : decode cX5_look 30 = .ok (.tableswitch 62 0 3 #[30, 38, 46, 54], 30) := by decide +kernel
theorem dX5_look_60 : decode cX5_look 60 = .ok (.aload_n 0, 1) := by decide +kernel
theorem dX5_look_61 : decode cX5_look 61 = .ok (.getfield 26, 3) := by decide +kernel
theorem dX5_look_64 : decode cX5_look 64 = .ok (.getfield 184, 3) := by decide +kernel
theorem dX5_look_67 : decode cX5_look 67 = .ok (.ireturn, 1) := by decide +kernel
theorem dX5_look_68 : decode cX5_look 68 = .ok (.aload_n 0, 1) := by decide +kernel
theorem dX5_look_69 : decode cX5_look 69 = .ok (.getfield 26, 3) := by decide +kernel
theorem dX5_look_72 : decode cX5_look 72 = .ok (.getfield 187, 3) := by decide +kernel
theorem dX5_look_75 : decode cX5_look 75 = .ok (.ireturn, 1) := by decide +kernel
theorem dX5_look_76 : decode cX5_look 76 = .ok (.aload_n 0, 1) := by decide +kernel
theorem dX5_look_77 : decode cX5_look 77 = .ok (.getfield 26, 3) := by decide +kernel
theorem dX5_look_80 : decode cX5_look 80 = .ok (.getfield 190, 3) := by decide +kernel
theorem dX5_look_83 : decode cX5_look 83 = .ok (.ireturn, 1) := by decide +kernel
theorem dX5_look_84 : decode cX5_look 84 = .ok (.aload_n 0, 1) := by decide +kernel
theorem dX5_look_85 : decode cX5_look 85 = .ok (.getfield 26, 3) := by decide +kernel
theorem dX5_look_88 : decode cX5_look 88 = .ok (.getfield 193, 3) := by decide +kernel
theorem dX5_look_91 : decode cX5_look 91 = .ok (.ireturn, 1) := by decide +kernel
theorem dX5_look_92 : decode cX5_look 92 = .ok (.aload_n 0, 1) := by decide +kernel
theorem dX5_look_93 : decode cX5_look 93 = .ok (.getfield 26, 3) := by decide +kernel
theorem dX5_look_96 : decode cX5_look 96 = .ok (.getfield 184, 3) := by decide +kernel
theorem dX5_look_99 : decode cX5_look 99 = .ok (.aload_n 0, 1) := by decide +kernel
theorem dX5_look_100 : decode cX5_look 100 = .ok (.getfield 12, 3) := by decide +kernel
theorem dX5_look_103 : decode cX5_look 103 = .ok (.invokevirtual 81, 3) := by decide +kernel
theorem dX5_look_106 : decode cX5_look 106 = .ok (.if_icmp .ne 7, 3) := by decide +kernel
theorem dX5_look_109 : decode cX5_look 109 = .ok (.iconst 1, 1) := by decide +kernel
theorem dX5_look_110 : decode cX5_look 110 = .ok (.goto 4, 3) := by decide +kernel
theorem dX5_look_113 : decode cX5_look 113 = .ok (.iconst 0, 1) := by decide +kernel
theorem dX5_look_114 : decode cX5_look 114 = .ok (.invokestatic 71, 3) := by decide +kernel
theorem dX5_look_117 : decode cX5_look 117 = .ok (.ireturn, 1) := by decide +kernel
theorem dX5_survey_0 : decode cX5_survey 0 = .ok (.iload_n 1, 1) := by decide +kernel
theorem dX5_survey_1 : decode cX5_survey 1 = .ok (.bipush 102, 2) := by decide +kernel
theorem dX5_survey_3 : decode cX5_survey 3 = .ok (.sipush 4080, 3) := by decide +kernel
theorem dX5_survey_6 : decode cX5_survey 6 = .ok (.invokestatic 44, 3) := by decide +kernel
theorem dX5_survey_9 : decode cX5_survey 9 = .ok (.ifCond .ne 12, 3) := by decide +kernel
theorem dX5_survey_12 : decode cX5_survey 12 = .ok (.iload_n 2, 1) := by decide +kernel
theorem dX5_survey_13 : decode cX5_survey 13 = .ok (.iconst 0, 1) := by decide +kernel
theorem dX5_survey_14 : decode cX5_survey 14 = .ok (.iconst 2, 1) := by decide +kernel
theorem dX5_survey_15 : decode cX5_survey 15 = .ok (.invokestatic 44, 3) := by decide +kernel
theorem dX5_survey_18 : decode cX5_survey 18 = .ok (.ifCond .eq 5, 3) := by decide +kernel
theorem dX5_survey_21 : decode cX5_survey 21 = .ok (.iconst (-1), 1) := by decide +kernel
theorem dX5_survey_22 : decode cX5_survey 22 = .ok (.ireturn, 1) := by decide +kernel
theorem dX5_survey_23 : decode cX5_survey 23 = .ok (.iconst 0, 1) := by decide +kernel
theorem dX5_survey_24 : decode cX5_survey 24 = .ok (.istore_n 3, 1) := by decide +kernel
theorem dX5_survey_25 : decode cX5_survey 25 = .ok (.bipush (-4), 2) := by decide +kernel
theorem dX5_survey_27 : decode cX5_survey 27 = .ok (.istore 4, 2) := by decide +kernel
theorem dX5_survey_29 : decode cX5_survey 29 = .ok (.iconst 0, 1) := by decide +kernel
theorem dX5_survey_30 : decode cX5_survey 30 = .ok (.istore 5, 2) := by decide +kernel
theorem dX5_survey_32 : decode cX5_survey 32 = .ok (.iconst 0, 1) := by decide +kernel
theorem dX5_survey_33 : decode cX5_survey 33 = .ok (.istore 6, 2) := by decide +kernel
theorem dX5_survey_35 : decode cX5_survey 35 = .ok (.iload 6, 2) := by decide +kernel
theorem dX5_survey_37 : decode cX5_survey 37 = .ok (.sipush 4080, 3) := by decide +kernel
theorem dX5_survey_40 : decode cX5_survey 40 = .ok (.if_icmp .ge 67, 3) := by decide +kernel
theorem dX5_survey_43 : decode cX5_survey 43 = .ok (.aload_n 0, 1) := by decide +kernel
theorem dX5_survey_44 : decode cX5_survey 44 = .ok (.getfield 26, 3) := by decide +kernel
theorem dX5_survey_47 : decode cX5_survey 47 = .ok (.aload_n 0, 1) := by decide +kernel
theorem dX5_survey_48 : decode cX5_survey 48 = .ok (.getfield 12, 3) := by decide +kernel
theorem dX5_survey_51 : decode cX5_survey 51 = .ok (.iload 6, 2) := by decide +kernel
theorem dX5_survey_53 : decode cX5_survey 53 = .ok (.invokevirtual 180, 3) := by decide +kernel
theorem dX5_survey_56 : decode cX5_survey 56 = .ok (.iload 5, 2) := by decide +kernel
theorem dX5_survey_58 : decode cX5_survey 58 = .ok (.aload_n 0, 1) := by decide +kernel
theorem dX5_survey_59 : decode cX5_survey 59 = .ok (.getfield 26, 3) := by decide +kernel
theorem dX5_survey_62 : decode cX5_survey 62 = .ok (.getfield 187, 3) := by decide +kernel
theorem dX5_survey_65 : decode cX5_survey 65 = .ok (.invokestatic 196, 3) := by decide +kernel
theorem dX5_survey_68 : decode cX5_survey 68 = .ok (.istore 5, 2) := by decide +kernel
theorem dX5_survey_70 : decode cX5_survey 70 = .ok (.aload_n 0, 1) := by decide +kernel
theorem dX5_survey_71 : decode cX5_survey 71 = .ok (.getfield 26, 3) := by decide +kernel
theorem dX5_survey_74 : decode cX5_survey 74 = .ok (.getfield 184, 3) := by decide +kernel
theorem dX5_survey_77 : decode cX5_survey 77 = .ok (.iload 6, 2) := by decide +kernel
theorem dX5_survey_79 : decode cX5_survey 79 = .ok (.if_icmp .eq 19, 3) := by decide +kernel
theorem dX5_survey_82 : decode cX5_survey 82 = .ok (.iload_n 3, 1) := by decide +kernel
theorem dX5_survey_83 : decode cX5_survey 83 = .ok (.ifCond .ne 8, 3) := by decide +kernel
theorem dX5_survey_86 : decode cX5_survey 86 = .ok (.iload 6, 2) := by decide +kernel
theorem dX5_survey_88 : decode cX5_survey 88 = .ok (.goto 5, 3) := by decide +kernel
theorem dX5_survey_91 : decode cX5_survey 91 = .ok (.iload 4, 2) := by decide +kernel
theorem dX5_survey_93 : decode cX5_survey 93 = .ok (.istore 4, 2) := by decide +kernel
theorem dX5_survey_95 : decode cX5_survey 95 = .ok (.iinc 3 1, 3) := by decide +kernel
theorem dX5_survey_98 : decode cX5_survey 98 = .ok (.iload 6, 2) := by decide +kernel
theorem dX5_survey_100 : decode cX5_survey 100 = .ok (.iload_n 1, 1) := by decide +kernel
theorem dX5_survey_101 : decode cX5_survey 101 = .ok (.iadd, 1) := by decide +kernel
theorem dX5_survey_102 : decode cX5_survey 102 = .ok (.istore 6, 2) := by decide +kernel
theorem dX5_survey_104 : decode cX5_survey 104 = .ok (.goto (-69), 3) := by decide +kernel
theorem dX5_survey_107 : decode cX5_survey 107 = .ok (.iload_n 2, 1) := by decide +kernel
theorem dX5_survey_108 : decode cX5_survey 108 = .ok (.lookupswitch 33 #[(0, 28), (1, 30)], 28) := by decide +kernel
theorem dX5_survey_136 : decode cX5_survey 136 = .ok (.iload_n 3, 1) := by decide +kernel
theorem dX5_survey_137 : decode cX5_survey 137 = .ok (.ireturn, 1) := by decide +kernel
theorem dX5_survey_138 : decode cX5_survey 138 = .ok (.iload 4, 2) := by decide +kernel
theorem dX5_survey_140 : decode cX5_survey 140 = .ok (.ireturn, 1) := by decide +kernel
theorem dX5_survey_141 : decode cX5_survey 141 = .ok (.iload 5, 2) := by decide +kernel
theorem dX5_survey_143 : decode cX5_survey 143 = .ok (.ireturn, 1) := by decide +kernel
theorem dX5_poor_0 : decode cX5_poor 0 = .ok (.iconst 0, 1) := by decide +kernel
theorem dX5_poor_1 : decode cX5_poor 1 = .ok (.istore_n 1, 1) := by decide +kernel
theorem dX5_poor_2 : decode cX5_poor 2 = .ok (.iconst 0, 1) := by decide +kernel
theorem dX5_poor_3 : decode cX5_poor 3 = .ok (.istore_n 2, 1) := by decide +kernel
theorem dX5_poor_4 : decode cX5_poor 4 = .ok (.iload_n 2, 1) := by decide +kernel
theorem dX5_poor_5 : decode cX5_poor 5 = .ok (.bipush 8, 2) := by decide +kernel
theorem dX5_poor_7 : decode cX5_poor 7 = .ok (.if_icmp .ge 23, 3) := by decide +kernel
theorem dX5_poor_10 : decode cX5_poor 10 = .ok (.aload_n 0, 1) := by decide +kernel
theorem dX5_poor_11 : decode cX5_poor 11 = .ok (.getfield 12, 3) := by decide +kernel
theorem dX5_poor_14 : decode cX5_poor 14 = .ok (.iload_n 2, 1) := by decide +kernel
theorem dX5_poor_15 : decode cX5_poor 15 = .ok (.invokevirtual 199, 3) := by decide +kernel
theorem dX5_poor_18 : decode cX5_poor 18 = .ok (.ifCond .eq 6, 3) := by decide +kernel
theorem dX5_poor_21 : decode cX5_poor 21 = .ok (.iinc 1 1, 3) := by decide +kernel
theorem dX5_poor_24 : decode cX5_poor 24 = .ok (.iinc 2 1, 3) := by decide +kernel
theorem dX5_poor_27 : decode cX5_poor 27 = .ok (.goto (-23), 3) := by decide +kernel
theorem dX5_poor_30 : decode cX5_poor 30 = .ok (.iload_n 1, 1) := by decide +kernel
theorem dX5_poor_31 : decode cX5_poor 31 = .ok (.ireturn, 1) := by decide +kernel
theorem dX5_sample_0 : decode cX5_sample 0 = .ok (.aload_n 0, 1) := by decide +kernel
theorem dX5_sample_1 : decode cX5_sample 1 = .ok (.getfield 12, 3) := by decide +kernel
theorem dX5_sample_4 : decode cX5_sample 4 = .ok (.getfield 67, 3) := by decide +kernel
theorem dX5_sample_7 : decode cX5_sample 7 = .ok (.ifCond .ne 6, 3) := by decide +kernel
theorem dX5_sample_10 : decode cX5_sample 10 = .ok (.bipush (-2), 2) := by decide +kernel
theorem dX5_sample_12 : decode cX5_sample 12 = .ok (.ireturn, 1) := by decide +kernel
theorem dX5_sample_13 : decode cX5_sample 13 = .ok (.aload_n 0, 1) := by decide +kernel
theorem dX5_sample_14 : decode cX5_sample 14 = .ok (.getfield 19, 3) := by decide +kernel
theorem dX5_sample_17 : decode cX5_sample 17 = .ok (.aload_n 0, 1) := by decide +kernel
theorem dX5_sample_18 : decode cX5_sample 18 = .ok (.getfield 12, 3) := by decide +kernel
theorem dX5_sample_21 : decode cX5_sample 21 = .ok (.invokevirtual 53, 3) := by decide +kernel
theorem dX5_sample_24 : decode cX5_sample 24 = .ok (.aload_n 0, 1) := by decide +kernel
theorem dX5_sample_25 : decode cX5_sample 25 = .ok (.getfield 26, 3) := by decide +kernel
theorem dX5_sample_28 : decode cX5_sample 28 = .ok (.aload_n 0, 1) := by decide +kernel
theorem dX5_sample_29 : decode cX5_sample 29 = .ok (.getfield 12, 3) := by decide +kernel
theorem dX5_sample_32 : decode cX5_sample 32 = .ok (.aload_n 0, 1) := by decide +kernel
theorem dX5_sample_33 : decode cX5_sample 33 = .ok (.getfield 12, 3) := by decide +kernel
theorem dX5_sample_36 : decode cX5_sample 36 = .ok (.invokevirtual 81, 3) := by decide +kernel
theorem dX5_sample_39 : decode cX5_sample 39 = .ok (.invokevirtual 180, 3) := by decide +kernel
theorem dX5_sample_42 : decode cX5_sample 42 = .ok (.aload_n 0, 1) := by decide +kernel
theorem dX5_sample_43 : decode cX5_sample 43 = .ok (.getfield 33, 3) := by decide +kernel
theorem dX5_sample_46 : decode cX5_sample 46 = .ok (.aload_n 0, 1) := by decide +kernel
theorem dX5_sample_47 : decode cX5_sample 47 = .ok (.getfield 12, 3) := by decide +kernel
theorem dX5_sample_50 : decode cX5_sample 50 = .ok (.aload_n 0, 1) := by decide +kernel
theorem dX5_sample_51 : decode cX5_sample 51 = .ok (.getfield 26, 3) := by decide +kernel
theorem dX5_sample_54 : decode cX5_sample 54 = .ok (.invokevirtual 202, 3) := by decide +kernel
theorem dX5_sample_57 : decode cX5_sample 57 = .ok (.aload_n 0, 1) := by decide +kernel
theorem dX5_sample_58 : decode cX5_sample 58 = .ok (.getfield 12, 3) := by decide +kernel
theorem dX5_sample_61 : decode cX5_sample 61 = .ok (.aload_n 0, 1) := by decide +kernel
theorem dX5_sample_62 : decode cX5_sample 62 = .ok (.getfield 33, 3) := by decide +kernel
theorem dX5_sample_65 : decode cX5_sample 65 = .ok (.getfield 206, 3) := by decide +kernel
theorem dX5_sample_68 : decode cX5_sample 68 = .ok (.putfield 85, 3) := by decide +kernel
theorem dX5_sample_71 : decode cX5_sample 71 = .ok (.aload_n 0, 1) := by decide +kernel
theorem dX5_sample_72 : decode cX5_sample 72 = .ok (.getfield 12, 3) := by decide +kernel
theorem dX5_sample_75 : decode cX5_sample 75 = .ok (.aload_n 0, 1) := by decide +kernel
theorem dX5_sample_76 : decode cX5_sample 76 = .ok (.getfield 33, 3) := by decide +kernel
theorem dX5_sample_79 : decode cX5_sample 79 = .ok (.getfield 207, 3) := by decide +kernel
theorem dX5_sample_82 : decode cX5_sample 82 = .ok (.putfield 91, 3) := by decide +kernel
theorem dX5_sample_85 : decode cX5_sample 85 = .ok (.aload_n 0, 1) := by decide +kernel
theorem dX5_sample_86 : decode cX5_sample 86 = .ok (.getfield 33, 3) := by decide +kernel
theorem dX5_sample_89 : decode cX5_sample 89 = .ok (.getfield 208, 3) := by decide +kernel
theorem dX5_sample_92 : decode cX5_sample 92 = .ok (.ifCond .eq 14, 3) := by decide +kernel
theorem dX5_sample_95 : decode cX5_sample 95 = .ok (.ldc 211, 2) := by decide +kernel
theorem dX5_sample_97 : decode cX5_sample 97 = .ok (.aload_n 0, 1) := by decide +kernel
theorem dX5_sample_98 : decode cX5_sample 98 = .ok (.getfield 33, 3) := by decide +kernel
theorem dX5_sample_101 : decode cX5_sample 101 = .ok (.getfield 208, 3) := by decide +kernel
theorem dX5_sample_104 : decode cX5_sample 104 = .ok (.iadd, 1) := by decide +kernel
theorem dX5_sample_105 : decode cX5_sample 105 = .ok (.ireturn, 1) := by decide +kernel
theorem dX5_sample_106 : decode cX5_sample 106 = .ok (.aload_n 0, 1) := by decide +kernel
theorem dX5_sample_107 : decode cX5_sample 107 = .ok (.getfield 12, 3) := by decide +kernel
theorem dX5_sample_110 : decode cX5_sample 110 = .ok (.aload_n 0, 1) := by decide +kernel
theorem dX5_sample_111 : decode cX5_sample 111 = .ok (.getfield 33, 3) := by decide +kernel
theorem dX5_sample_114 : decode cX5_sample 114 = .ok (.getfield 212, 3) := by decide +kernel
theorem dX5_sample_117 : decode cX5_sample 117 = .ok (.putfield 88, 3) := by decide +kernel
theorem dX5_sample_120 : decode cX5_sample 120 = .ok (.aload_n 0, 1) := by decide +kernel
theorem dX5_sample_121 : decode cX5_sample 121 = .ok (.getfield 12, 3) := by decide +kernel
theorem dX5_sample_124 : decode cX5_sample 124 = .ok (.getfield 88, 3) := by decide +kernel
theorem dX5_sample_127 : decode cX5_sample 127 = .ok (.ireturn, 1) := by decide +kernel
theorem dX5_reason_0 : decode cX5_reason 0 = .ok (.aload_n 0, 1) := by decide +kernel
theorem dX5_reason_1 : decode cX5_reason 1 = .ok (.getfield 12, 3) := by decide +kernel
theorem dX5_reason_4 : decode cX5_reason 4 = .ok (.getfield 67, 3) := by decide +kernel
theorem dX5_reason_7 : decode cX5_reason 7 = .ok (.ifCond .ne 6, 3) := by decide +kernel
theorem dX5_reason_10 : decode cX5_reason 10 = .ok (.bipush (-2), 2) := by decide +kernel
theorem dX5_reason_12 : decode cX5_reason 12 = .ok (.ireturn, 1) := by decide +kernel
theorem dX5_reason_13 : decode cX5_reason 13 = .ok (.aload_n 0, 1) := by decide +kernel
theorem dX5_reason_14 : decode cX5_reason 14 = .ok (.getfield 26, 3) := by decide +kernel
theorem dX5_reason_17 : decode cX5_reason 17 = .ok (.aload_n 0, 1) := by decide +kernel
theorem dX5_reason_18 : decode cX5_reason 18 = .ok (.getfield 12, 3) := by decide +kernel
theorem dX5_reason_21 : decode cX5_reason 21 = .ok (.aload_n 0, 1) := by decide +kernel
theorem dX5_reason_22 : decode cX5_reason 22 = .ok (.getfield 12, 3) := by decide +kernel
theorem dX5_reason_25 : decode cX5_reason 25 = .ok (.invokevirtual 81, 3) := by decide +kernel
theorem dX5_reason_28 : decode cX5_reason 28 = .ok (.invokevirtual 180, 3) := by decide +kernel
theorem dX5_reason_31 : decode cX5_reason 31 = .ok (.aload_n 0, 1) := by decide +kernel
theorem dX5_reason_32 : decode cX5_reason 32 = .ok (.getfield 33, 3) := by decide +kernel
theorem dX5_reason_35 : decode cX5_reason 35 = .ok (.aload_n 0, 1) := by decide +kernel
theorem dX5_reason_36 : decode cX5_reason 36 = .ok (.getfield 12, 3) := by decide +kernel
theorem dX5_reason_39 : decode cX5_reason 39 = .ok (.aload_n 0, 1) := by decide +kernel
theorem dX5_reason_40 : decode cX5_reason 40 = .ok (.getfield 26, 3) := by decide +kernel
theorem dX5_reason_43 : decode cX5_reason 43 = .ok (.invokevirtual 202, 3) := by decide +kernel
theorem dX5_reason_46 : decode cX5_reason 46 = .ok (.aload_n 0, 1) := by decide +kernel
theorem dX5_reason_47 : decode cX5_reason 47 = .ok (.getfield 33, 3) := by decide +kernel
theorem dX5_reason_50 : decode cX5_reason 50 = .ok (.getfield 208, 3) := by decide +kernel
theorem dX5_reason_53 : decode cX5_reason 53 = .ok (.ireturn, 1) := by decide +kernel
theorem dX5_forget_0 : decode cX5_forget 0 = .ok (.aload_n 0, 1) := by decide +kernel
theorem dX5_forget_1 : decode cX5_forget 1 = .ok (.getfield 19, 3) := by decide +kernel
theorem dX5_forget_4 : decode cX5_forget 4 = .ok (.aload_n 0, 1) := by decide +kernel
theorem dX5_forget_5 : decode cX5_forget 5 = .ok (.getfield 12, 3) := by decide +kernel
theorem dX5_forget_8 : decode cX5_forget 8 = .ok (.invokevirtual 53, 3) := by decide +kernel
theorem dX5_forget_11 : decode cX5_forget 11 = .ok (.aload_n 0, 1) := by decide +kernel
theorem dX5_forget_12 : decode cX5_forget 12 = .ok (.getfield 12, 3) := by decide +kernel
theorem dX5_forget_15 : decode cX5_forget 15 = .ok (.getfield 88, 3) := by decide +kernel
theorem dX5_forget_18 : decode cX5_forget 18 = .ok (.iconst (-1), 1) := by decide +kernel
theorem dX5_forget_19 : decode cX5_forget 19 = .ok (.if_icmp .eq 7, 3) := by decide +kernel
theorem dX5_forget_22 : decode cX5_forget 22 = .ok (.iconst 1, 1) := by decide +kernel
theorem dX5_forget_23 : decode cX5_forget 23 = .ok (.goto 4, 3) := by decide +kernel
theorem dX5_forget_26 : decode cX5_forget 26 = .ok (.iconst 0, 1) := by decide +kernel
theorem dX5_forget_27 : decode cX5_forget 27 = .ok (.invokestatic 71, 3) := by decide +kernel
theorem dX5_forget_30 : decode cX5_forget 30 = .ok (.istore_n 1, 1) := by decide +kernel
theorem dX5_forget_31 : decode cX5_forget 31 = .ok (.aload_n 0, 1) := by decide +kernel
theorem dX5_forget_32 : decode cX5_forget 32 = .ok (.getfield 12, 3) := by decide +kernel
theorem dX5_forget_35 : decode cX5_forget 35 = .ok (.iconst (-1), 1) := by decide +kernel
theorem dX5_forget_36 : decode cX5_forget 36 = .ok (.putfield 88, 3) := by decide +kernel
theorem dX5_forget_39 : decode cX5_forget 39 = .ok (.aload_n 0, 1) := by decide +kernel
theorem dX5_forget_40 : decode cX5_forget 40 = .ok (.getfield 12, 3) := by decide +kernel
theorem dX5_forget_43 : decode cX5_forget 43 = .ok (.iconst 0, 1) := by decide +kernel
theorem dX5_forget_44 : decode cX5_forget 44 = .ok (.putfield 91, 3) := by decide +kernel
theorem dX5_forget_47 : decode cX5_forget 47 = .ok (.iload_n 1, 1) := by decide +kernel
theorem dX5_forget_48 : decode cX5_forget 48 = .ok (.ireturn, 1) := by decide +kernel
theorem dX5_apart_0 : decode cX5_apart 0 = .ok (.aload_n 0, 1) := by decide +kernel
theorem dX5_apart_1 : decode cX5_apart 1 = .ok (.getfield 12, 3) := by decide +kernel
theorem dX5_apart_4 : decode cX5_apart 4 = .ok (.getfield 88, 3) := by decide +kernel
theorem dX5_apart_7 : decode cX5_apart 7 = .ok (.iconst (-1), 1) := by decide +kernel
theorem dX5_apart_8 : decode cX5_apart 8 = .ok (.if_icmp .ne 8, 3) := by decide +kernel
theorem dX5_apart_11 : decode cX5_apart 11 = .ok (.bipush (-4), 2) := by decide +kernel
theorem dX5_apart_13 : decode cX5_apart 13 = .ok (.goto 22, 3) := by decide +kernel
theorem dX5_apart_16 : decode cX5_apart 16 = .ok (.aload_n 0, 1) := by decide +kernel
theorem dX5_apart_17 : decode cX5_apart 17 = .ok (.getfield 12, 3) := by decide +kernel
theorem dX5_apart_20 : decode cX5_apart 20 = .ok (.getfield 88, 3) := by decide +kernel
theorem dX5_apart_23 : decode cX5_apart 23 = .ok (.aload_n 0, 1) := by decide +kernel
theorem dX5_apart_24 : decode cX5_apart 24 = .ok (.getfield 12, 3) := by decide +kernel
theorem dX5_apart_27 : decode cX5_apart 27 = .ok (.getfield 48, 3) := by decide +kernel
theorem dX5_apart_30 : decode cX5_apart 30 = .ok (.ldc 213, 2) := by decide +kernel
theorem dX5_apart_32 : decode cX5_apart 32 = .ok (.invokestatic 214, 3) := by decide +kernel
theorem dX5_apart_35 : decode cX5_apart 35 = .ok (.ireturn, 1) := by decide +kernel
theorem dX5_type_0 : decode cX5_type 0 = .ok (.iload_n 1, 1) := by decide +kernel
theorem dX5_type_1 : decode cX5_type 1 = .ok (.bipush 32, 2) := by decide +kernel
theorem dX5_type_3 : decode cX5_type 3 = .ok (.bipush 126, 2) := by decide +kernel
theorem dX5_type_5 : decode cX5_type 5 = .ok (.invokestatic 44, 3) := by decide +kernel
theorem dX5_type_8 : decode cX5_type 8 = .ok (.ifCond .eq 5, 3) := by decide +kernel
theorem dX5_type_11 : decode cX5_type 11 = .ok (.iconst (-1), 1) := by decide +kernel
theorem dX5_type_12 : decode cX5_type 12 = .ok (.ireturn, 1) := by decide +kernel
theorem dX5_type_13 : decode cX5_type 13 = .ok (.aload_n 0, 1) := by decide +kernel
theorem dX5_type_14 : decode cX5_type 14 = .ok (.getfield 40, 3) := by decide +kernel
theorem dX5_type_17 : decode cX5_type 17 = .ok (.getfield 103, 3) := by decide +kernel
theorem dX5_type_20 : decode cX5_type 20 = .ok (.bipush 60, 2) := by decide +kernel
theorem dX5_type_22 : decode cX5_type 22 = .ok (.if_icmp .lt 6, 3) := by decide +kernel
theorem dX5_type_25 : decode cX5_type 25 = .ok (.bipush (-3), 2) := by decide +kernel
theorem dX5_type_27 : decode cX5_type 27 = .ok (.ireturn, 1) := by decide +kernel
theorem dX5_type_28 : decode cX5_type 28 = .ok (.aload_n 0, 1) := by decide +kernel
theorem dX5_type_29 : decode cX5_type 29 = .ok (.getfield 40, 3) := by decide +kernel
theorem dX5_type_32 : decode cX5_type 32 = .ok (.iload_n 1, 1) := by decide +kernel
theorem dX5_type_33 : decode cX5_type 33 = .ok (.invokevirtual 217, 3) := by decide +kernel
theorem dX5_type_36 : decode cX5_type 36 = .ok (.aload_n 0, 1) := by decide +kernel
theorem dX5_type_37 : decode cX5_type 37 = .ok (.getfield 40, 3) := by decide +kernel
theorem dX5_type_40 : decode cX5_type 40 = .ok (.getfield 103, 3) := by decide +kernel
theorem dX5_type_43 : decode cX5_type 43 = .ok (.ireturn, 1) := by decide +kernel
theorem dX5_fault_0 : decode cX5_fault 0 = .ok (.iload_n 1, 1) := by decide +kernel
theorem dX5_fault_1 : decode cX5_fault 1 = .ok (.iconst 0, 1) := by decide +kernel
theorem dX5_fault_2 : decode cX5_fault 2 = .ok (.iconst 1, 1) := by decide +kernel
theorem dX5_fault_3 : decode cX5_fault 3 = .ok (.invokestatic 44, 3) := by decide +kernel
theorem dX5_fault_6 : decode cX5_fault 6 = .ok (.ifCond .eq 5, 3) := by decide +kernel
theorem dX5_fault_9 : decode cX5_fault 9 = .ok (.iconst (-1), 1) := by decide +kernel
theorem dX5_fault_10 : decode cX5_fault 10 = .ok (.ireturn, 1) := by decide +kernel
theorem dX5_fault_11 : decode cX5_fault 11 = .ok (.aload_n 0, 1) := by decide +kernel
theorem dX5_fault_12 : decode cX5_fault 12 = .ok (.getfield 40, 3) := by decide +kernel
theorem dX5_fault_15 : decode cX5_fault 15 = .ok (.invokevirtual 220, 3) := by decide +kernel
theorem dX5_fault_18 : decode cX5_fault 18 = .ok (.aload_n 0, 1) := by decide +kernel
theorem dX5_fault_19 : decode cX5_fault 19 = .ok (.getfield 40, 3) := by decide +kernel
theorem dX5_fault_22 : decode cX5_fault 22 = .ok (.getfield 223, 3) := by decide +kernel
theorem dX5_fault_25 : decode cX5_fault 25 = .ok (.ifCond .ne 6, 3) := by decide +kernel
theorem dX5_fault_28 : decode cX5_fault 28 = .ok (.bipush (-4), 2) := by decide +kernel
theorem dX5_fault_30 : decode cX5_fault 30 = .ok (.ireturn, 1) := by decide +kernel
theorem dX5_fault_31 : decode cX5_fault 31 = .ok (.iload_n 1, 1) := by decide +kernel
theorem dX5_fault_32 : decode cX5_fault 32 = .ok (.ifCond .ne 13, 3) := by decide +kernel
theorem dX5_fault_35 : decode cX5_fault 35 = .ok (.aload_n 0, 1) := by decide +kernel
theorem dX5_fault_36 : decode cX5_fault 36 = .ok (.getfield 40, 3) := by decide +kernel
theorem dX5_fault_39 : decode cX5_fault 39 = .ok (.getfield 226, 3) := by decide +kernel
theorem dX5_fault_42 : decode cX5_fault 42 = .ok (.goto 10, 3) := by decide +kernel
theorem dX5_fault_45 : decode cX5_fault 45 = .ok (.aload_n 0, 1) := by decide +kernel
theorem dX5_fault_46 : decode cX5_fault 46 = .ok (.getfield 40, 3) := by decide +kernel
theorem dX5_fault_49 : decode cX5_fault 49 = .ok (.getfield 223, 3) := by decide +kernel
theorem dX5_fault_52 : decode cX5_fault 52 = .ok (.ireturn, 1) := by decide +kernel
theorem dX5_settingCount_0 : decode cX5_settingCount 0 = .ok (.iload_n 1, 1) := by decide +kernel
theorem dX5_settingCount_1 : decode cX5_settingCount 1 = .ok (.iconst 0, 1) := by decide +kernel
theorem dX5_settingCount_2 : decode cX5_settingCount 2 = .ok (.iconst 3, 1) := by decide +kernel
theorem dX5_settingCount_3 : decode cX5_settingCount 3 = .ok (.invokestatic 44, 3) := by decide +kernel
theorem dX5_settingCount_6 : decode cX5_settingCount 6 = .ok (.ifCond .eq 7, 3) := by decide +kernel
theorem dX5_settingCount_9 : decode cX5_settingCount 9 = .ok (.iconst (-1), 1) := by decide +kernel
theorem dX5_settingCount_10 : decode cX5_settingCount 10 = .ok (.goto 8, 3) := by decide +kernel
theorem dX5_settingCount_13 : decode cX5_settingCount 13 = .ok (.aload_n 0, 1) := by decide +kernel
theorem dX5_settingCount_14 : decode cX5_settingCount 14 = .ok (.iload_n 1, 1) := by decide +kernel
theorem dX5_settingCount_15 : decode cX5_settingCount 15 = .ok (.invokevirtual 145, 3) := by decide +kernel
theorem dX5_settingCount_18 : decode cX5_settingCount 18 = .ok (.ireturn, 1) := by decide +kernel
theorem dX5_shownSetting_0 : decode cX5_shownSetting 0 = .ok (.aload_n 0, 1) := by decide +kernel
theorem dX5_shownSetting_1 : decode cX5_shownSetting 1 = .ok (.getfield 12, 3) := by decide +kernel
theorem dX5_shownSetting_4 : decode cX5_shownSetting 4 = .ok (.getfield 148, 3) := by decide +kernel
theorem dX5_shownSetting_7 : decode cX5_shownSetting 7 = .ok (.iload_n 1, 1) := by decide +kernel
theorem dX5_shownSetting_8 : decode cX5_shownSetting 8 = .ok (.invokestatic 124, 3) := by decide +kernel
theorem dX5_shownSetting_11 : decode cX5_shownSetting 11 = .ok (.istore_n 2, 1) := by decide +kernel
theorem dX5_shownSetting_12 : decode cX5_shownSetting 12 = .ok (.iload_n 1, 1) := by decide +kernel
theorem dX5_shownSetting_13 : decode cX5_shownSetting 13 = .ok (.iconst 3, 1) := by decide +kernel
theorem dX5_shownSetting_14 : decode cX5_shownSetting 14 = .ok (.if_icmp .ne 10, 3) := by decide +kernel
theorem dX5_shownSetting_17 : decode cX5_shownSetting 17 = .ok (.iload_n 2, 1) := by decide +kernel
theorem dX5_shownSetting_18 : decode cX5_shownSetting 18 = .ok (.bipush 100, 2) := by decide +kernel
theorem dX5_shownSetting_20 : decode cX5_shownSetting 20 = .ok (.iadd, 1) := by decide +kernel
theorem dX5_shownSetting_21 : decode cX5_shownSetting 21 = .ok (.goto 4, 3) := by decide +kernel
theorem dX5_shownSetting_24 : decode cX5_shownSetting 24 = .ok (.iload_n 2, 1) := by decide +kernel
theorem dX5_shownSetting_25 : decode cX5_shownSetting 25 = .ok (.ireturn, 1) := by decide +kernel
theorem dX5_isOutside_0 : decode cX5_isOutside 0 = .ok (.iload_n 0, 1) := by decide +kernel
theorem dX5_isOutside_1 : decode cX5_isOutside 1 = .ok (.iload_n 1, 1) := by decide +kernel
theorem dX5_isOutside_2 : decode cX5_isOutside 2 = .ok (.if_icmp .lt 8, 3) := by decide +kernel
theorem dX5_isOutside_5 : decode cX5_isOutside 5 = .ok (.iload_n 0, 1) := by decide +kernel
theorem dX5_isOutside_6 : decode cX5_isOutside 6 = .ok (.iload_n 2, 1) := by decide +kernel
theorem dX5_isOutside_7 : decode cX5_isOutside 7 = .ok (.if_icmp .le 7, 3) := by decide +kernel
theorem dX5_isOutside_10 : decode cX5_isOutside 10 = .ok (.iconst 1, 1) := by decide +kernel
theorem dX5_isOutside_11 : decode cX5_isOutside 11 = .ok (.goto 4, 3) := by decide +kernel
theorem dX5_isOutside_14 : decode cX5_isOutside 14 = .ok (.iconst 0, 1) := by decide +kernel
theorem dX5_isOutside_15 : decode cX5_isOutside 15 = .ok (.ireturn, 1) := by decide +kernel
theorem dX5_isTrack_0 : decode cX5_isTrack 0 = .ok (.iload_n 0, 1) := by decide +kernel
theorem dX5_isTrack_1 : decode cX5_isTrack 1 = .ok (.iconst 0, 1) := by decide +kernel
theorem dX5_isTrack_2 : decode cX5_isTrack 2 = .ok (.iconst 2, 1) := by decide +kernel
theorem dX5_isTrack_3 : decode cX5_isTrack 3 = .ok (.invokestatic 44, 3) := by decide +kernel
theorem dX5_isTrack_6 : decode cX5_isTrack 6 = .ok (.ifCond .ne 7, 3) := by decide +kernel
theorem dX5_isTrack_9 : decode cX5_isTrack 9 = .ok (.iconst 1, 1) := by decide +kernel
theorem dX5_isTrack_10 : decode cX5_isTrack 10 = .ok (.goto 4, 3) := by decide +kernel
theorem dX5_isTrack_13 : decode cX5_isTrack 13 = .ok (.iconst 0, 1) := by decide +kernel
theorem dX5_isTrack_14 : decode cX5_isTrack 14 = .ok (.ireturn, 1) := by decide +kernel
theorem dX5_isCell_0 : decode cX5_isCell 0 = .ok (.iload_n 0, 1) := by decide +kernel
theorem dX5_isCell_1 : decode cX5_isCell 1 = .ok (.invokestatic 132, 3) := by decide +kernel
theorem dX5_isCell_4 : decode cX5_isCell 4 = .ok (.ifCond .eq 17, 3) := by decide +kernel
theorem dX5_isCell_7 : decode cX5_isCell 7 = .ok (.iload_n 1, 1) := by decide +kernel
theorem dX5_isCell_8 : decode cX5_isCell 8 = .ok (.iconst 0, 1) := by decide +kernel
theorem dX5_isCell_9 : decode cX5_isCell 9 = .ok (.bipush 7, 2) := by decide +kernel
theorem dX5_isCell_11 : decode cX5_isCell 11 = .ok (.invokestatic 44, 3) := by decide +kernel
theorem dX5_isCell_14 : decode cX5_isCell 14 = .ok (.ifCond .ne 7, 3) := by decide +kernel
theorem dX5_isCell_17 : decode cX5_isCell 17 = .ok (.iconst 1, 1) := by decide +kernel
theorem dX5_isCell_18 : decode cX5_isCell 18 = .ok (.goto 4, 3) := by decide +kernel
theorem dX5_isCell_21 : decode cX5_isCell 21 = .ok (.iconst 0, 1) := by decide +kernel
theorem dX5_isCell_22 : decode cX5_isCell 22 = .ok (.ireturn, 1) := by decide +kernel
theorem dX5_isReading_0 : decode cX5_isReading 0 = .ok (.iload_n 1, 1) := by decide +kernel
theorem dX5_isReading_1 : decode cX5_isReading 1 = .ok (.iconst 0, 1) := by decide +kernel
theorem dX5_isReading_2 : decode cX5_isReading 2 = .ok (.getstatic 165, 3) := by decide +kernel
theorem dX5_isReading_5 : decode cX5_isReading 5 = .ok (.iload_n 0, 1) := by decide +kernel
theorem dX5_isReading_6 : decode cX5_isReading 6 = .ok (.invokestatic 124, 3) := by decide +kernel
theorem dX5_isReading_9 : decode cX5_isReading 9 = .ok (.iconst 1, 1) := by decide +kernel
theorem dX5_isReading_10 : decode cX5_isReading 10 = .ok (.isub, 1) := by decide +kernel
theorem dX5_isReading_11 : decode cX5_isReading 11 = .ok (.invokestatic 44, 3) := by decide +kernel
theorem dX5_isReading_14 : decode cX5_isReading 14 = .ok (.ifCond .ne 7, 3) := by decide +kernel
theorem dX5_isReading_17 : decode cX5_isReading 17 = .ok (.iconst 1, 1) := by decide +kernel
theorem dX5_isReading_18 : decode cX5_isReading 18 = .ok (.goto 4, 3) := by decide +kernel
theorem dX5_isReading_21 : decode cX5_isReading 21 = .ok (.iconst 0, 1) := by decide +kernel
theorem dX5_isReading_22 : decode cX5_isReading 22 = .ok (.ireturn, 1) := by decide +kernel
theorem dX5_cell_0 : decode cX5_cell 0 = .ok (.iload_n 0, 1) := by decide +kernel
theorem dX5_cell_1 : decode cX5_cell 1 = .ok (.bipush 8, 2) := by decide +kernel
theorem dX5_cell_3 : decode cX5_cell 3 = .ok (.imul, 1) := by decide +kernel
theorem dX5_cell_4 : decode cX5_cell 4 = .ok (.iload_n 1, 1) := by decide +kernel
theorem dX5_cell_5 : decode cX5_cell 5 = .ok (.iadd, 1) := by decide +kernel
theorem dX5_cell_6 : decode cX5_cell 6 = .ok (.ireturn, 1) := by decide +kernel
theorem dX5_sectorOf_0 : decode cX5_sectorOf 0 = .ok (.iload_n 0, 1) := by decide +kernel
theorem dX5_sectorOf_1 : decode cX5_sectorOf 1 = .ok (.sipush 510, 3) := by decide +kernel
theorem dX5_sectorOf_4 : decode cX5_sectorOf 4 = .ok (.idiv, 1) := by decide +kernel
theorem dX5_sectorOf_5 : decode cX5_sectorOf 5 = .ok (.ireturn, 1) := by decide +kernel
theorem dX5_toNumber_0 : decode cX5_toNumber 0 = .ok (.iload_n 0, 1) := by decide +kernel
theorem dX5_toNumber_1 : decode cX5_toNumber 1 = .ok (.ifCond .eq 7, 3) := by decide +kernel
theorem dX5_toNumber_4 : decode cX5_toNumber 4 = .ok (.iconst 1, 1) := by decide +kernel
theorem dX5_toNumber_5 : decode cX5_toNumber 5 = .ok (.goto 4, 3) := by decide +kernel
theorem dX5_toNumber_8 : decode cX5_toNumber 8 = .ok (.iconst 0, 1) := by decide +kernel
theorem dX5_toNumber_9 : decode cX5_toNumber 9 = .ok (.ireturn, 1) := by decide +kernel
theorem dX5_at_0 : decode cX5_at 0 = .ok (.iload_n 1, 1) := by decide +kernel
theorem dX5_at_1 : decode cX5_at 1 = .ok (.ifCond .lt 15, 3) := by decide +kernel
theorem dX5_at_4 : decode cX5_at 4 = .ok (.iload_n 1, 1) := by decide +kernel
theorem dX5_at_5 : decode cX5_at 5 = .ok (.aload_n 0, 1) := by decide +kernel
theorem dX5_at_6 : decode cX5_at 6 = .ok (.arraylength, 1) := by decide +kernel
theorem dX5_at_7 : decode cX5_at 7 = .ok (.if_icmp .ge 9, 3) := by decide +kernel
theorem dX5_at_10 : decode cX5_at 10 = .ok (.aload_n 0, 1) := by decide +kernel
theorem dX5_at_11 : decode cX5_at 11 = .ok (.iload_n 1, 1) := by decide +kernel
theorem dX5_at_12 : decode cX5_at 12 = .ok (.iaload, 1) := by decide +kernel
theorem dX5_at_13 : decode cX5_at 13 = .ok (.goto 4, 3) := by decide +kernel
theorem dX5_at_16 : decode cX5_at 16 = .ok (.iconst 0, 1) := by decide +kernel
theorem dX5_at_17 : decode cX5_at 17 = .ok (.ireturn, 1) := by decide +kernel
theorem dX5_put_0 : decode cX5_put 0 = .ok (.iload_n 1, 1) := by decide +kernel
theorem dX5_put_1 : decode cX5_put 1 = .ok (.ifCond .lt 13, 3) := by decide +kernel
theorem dX5_put_4 : decode cX5_put 4 = .ok (.iload_n 1, 1) := by decide +kernel
theorem dX5_put_5 : decode cX5_put 5 = .ok (.aload_n 0, 1) := by decide +kernel
theorem dX5_put_6 : decode cX5_put 6 = .ok (.arraylength, 1) := by decide +kernel
theorem dX5_put_7 : decode cX5_put 7 = .ok (.if_icmp .ge 7, 3) := by decide +kernel
theorem dX5_put_10 : decode cX5_put 10 = .ok (.aload_n 0, 1) := by decide +kernel
theorem dX5_put_11 : decode cX5_put 11 = .ok (.iload_n 1, 1) := by decide +kernel
theorem dX5_put_12 : decode cX5_put 12 = .ok (.iload_n 2, 1) := by decide +kernel
theorem dX5_put_13 : decode cX5_put 13 = .ok (.iastore, 1) := by decide +kernel
theorem dX5_put_14 : decode cX5_put 14 = .ok (.return_, 1) := by decide +kernel
theorem dX5_copy_0 : decode cX5_copy 0 = .ok (.iconst 0, 1) := by decide +kernel
theorem dX5_copy_1 : decode cX5_copy 1 = .ok (.istore_n 2, 1) := by decide +kernel
theorem dX5_copy_2 : decode cX5_copy 2 = .ok (.iload_n 2, 1) := by decide +kernel
theorem dX5_copy_3 : decode cX5_copy 3 = .ok (.aload_n 0, 1) := by decide +kernel
theorem dX5_copy_4 : decode cX5_copy 4 = .ok (.arraylength, 1) := by decide +kernel
theorem dX5_copy_5 : decode cX5_copy 5 = .ok (.if_icmp .ge 21, 3) := by decide +kernel
theorem dX5_copy_8 : decode cX5_copy 8 = .ok (.iload_n 2, 1) := by decide +kernel
theorem dX5_copy_9 : decode cX5_copy 9 = .ok (.aload_n 1, 1) := by decide +kernel
theorem dX5_copy_10 : decode cX5_copy 10 = .ok (.arraylength, 1) := by decide +kernel
theorem dX5_copy_11 : decode cX5_copy 11 = .ok (.if_icmp .ge 15, 3) := by decide +kernel
theorem dX5_copy_14 : decode cX5_copy 14 = .ok (.aload_n 1, 1) := by decide +kernel
theorem dX5_copy_15 : decode cX5_copy 15 = .ok (.iload_n 2, 1) := by decide +kernel
theorem dX5_copy_16 : decode cX5_copy 16 = .ok (.aload_n 0, 1) := by decide +kernel
theorem dX5_copy_17 : decode cX5_copy 17 = .ok (.iload_n 2, 1) := by decide +kernel
theorem dX5_copy_18 : decode cX5_copy 18 = .ok (.iaload, 1) := by decide +kernel
theorem dX5_copy_19 : decode cX5_copy 19 = .ok (.iastore, 1) := by decide +kernel
theorem dX5_copy_20 : decode cX5_copy 20 = .ok (.iinc 2 1, 3) := by decide +kernel
theorem dX5_copy_23 : decode cX5_copy 23 = .ok (.goto (-21), 3) := by decide +kernel
theorem dX5_copy_26 : decode cX5_copy 26 = .ok (.return_, 1) := by decide +kernel
theorem dX5_remainder_0 : decode cX5_remainder 0 = .ok (.iload_n 1, 1) := by decide +kernel
theorem dX5_remainder_1 : decode cX5_remainder 1 = .ok (.ifCond .gt 5, 3) := by decide +kernel
theorem dX5_remainder_4 : decode cX5_remainder 4 = .ok (.iconst 0, 1) := by decide +kernel
theorem dX5_remainder_5 : decode cX5_remainder 5 = .ok (.ireturn, 1) := by decide +kernel
theorem dX5_remainder_6 : decode cX5_remainder 6 = .ok (.iload_n 0, 1) := by decide +kernel
theorem dX5_remainder_7 : decode cX5_remainder 7 = .ok (.iload_n 1, 1) := by decide +kernel
theorem dX5_remainder_8 : decode cX5_remainder 8 = .ok (.irem, 1) := by decide +kernel
theorem dX5_remainder_9 : decode cX5_remainder 9 = .ok (.istore_n 2, 1) := by decide +kernel
theorem dX5_remainder_10 : decode cX5_remainder 10 = .ok (.iload_n 2, 1) := by decide +kernel
theorem dX5_remainder_11 : decode cX5_remainder 11 = .ok (.ifCond .ge 9, 3) := by decide +kernel
theorem dX5_remainder_14 : decode cX5_remainder 14 = .ok (.iload_n 2, 1) := by decide +kernel
theorem dX5_remainder_15 : decode cX5_remainder 15 = .ok (.iload_n 1, 1) := by decide +kernel
theorem dX5_remainder_16 : decode cX5_remainder 16 = .ok (.iadd, 1) := by decide +kernel
theorem dX5_remainder_17 : decode cX5_remainder 17 = .ok (.goto 4, 3) := by decide +kernel
theorem dX5_remainder_20 : decode cX5_remainder 20 = .ok (.iload_n 2, 1) := by decide +kernel
theorem dX5_remainder_21 : decode cX5_remainder 21 = .ok (.ireturn, 1) := by decide +kernel
theorem dX5_distance_0 : decode cX5_distance 0 = .ok (.iload_n 0, 1) := by decide +kernel
theorem dX5_distance_1 : decode cX5_distance 1 = .ok (.iload_n 1, 1) := by decide +kernel
theorem dX5_distance_2 : decode cX5_distance 2 = .ok (.isub, 1) := by decide +kernel
theorem dX5_distance_3 : decode cX5_distance 3 = .ok (.iload_n 2, 1) := by decide +kernel
theorem dX5_distance_4 : decode cX5_distance 4 = .ok (.invokestatic 168, 3) := by decide +kernel
theorem dX5_distance_7 : decode cX5_distance 7 = .ok (.iload_n 1, 1) := by decide +kernel
theorem dX5_distance_8 : decode cX5_distance 8 = .ok (.iload_n 0, 1) := by decide +kernel
theorem dX5_distance_9 : decode cX5_distance 9 = .ok (.isub, 1) := by decide +kernel
theorem dX5_distance_10 : decode cX5_distance 10 = .ok (.iload_n 2, 1) := by decide +kernel
theorem dX5_distance_11 : decode cX5_distance 11 = .ok (.invokestatic 168, 3) := by decide +kernel
theorem dX5_distance_14 : decode cX5_distance 14 = .ok (.invokestatic 239, 3) := by decide +kernel
theorem dX5_distance_17 : decode cX5_distance 17 = .ok (.ireturn, 1) := by decide +kernel
theorem dX5_deviation_0 : decode cX5_deviation 0 = .ok (.iload_n 0, 1) := by decide +kernel
theorem dX5_deviation_1 : decode cX5_deviation 1 = .ok (.iload_n 1, 1) := by decide +kernel
theorem dX5_deviation_2 : decode cX5_deviation 2 = .ok (.getstatic 165, 3) := by decide +kernel
theorem dX5_deviation_5 : decode cX5_deviation 5 = .ok (.iconst 0, 1) := by decide +kernel
theorem dX5_deviation_6 : decode cX5_deviation 6 = .ok (.invokestatic 124, 3) := by decide +kernel
theorem dX5_deviation_9 : decode cX5_deviation 9 = .ok (.invokestatic 214, 3) := by decide +kernel
theorem dX5_deviation_12 : decode cX5_deviation 12 = .ok (.istore 4, 2) := by decide +kernel
theorem dX5_deviation_14 : decode cX5_deviation 14 = .ok (.iload_n 0, 1) := by decide +kernel
theorem dX5_deviation_15 : decode cX5_deviation 15 = .ok (.iload_n 2, 1) := by decide +kernel
theorem dX5_deviation_16 : decode cX5_deviation 16 = .ok (.getstatic 165, 3) := by decide +kernel
theorem dX5_deviation_19 : decode cX5_deviation 19 = .ok (.iconst 1, 1) := by decide +kernel
theorem dX5_deviation_20 : decode cX5_deviation 20 = .ok (.invokestatic 124, 3) := by decide +kernel
theorem dX5_deviation_23 : decode cX5_deviation 23 = .ok (.invokestatic 214, 3) := by decide +kernel
theorem dX5_deviation_26 : decode cX5_deviation 26 = .ok (.istore 5, 2) := by decide +kernel
theorem dX5_deviation_28 : decode cX5_deviation 28 = .ok (.iload_n 0, 1) := by decide +kernel
theorem dX5_deviation_29 : decode cX5_deviation 29 = .ok (.iload_n 3, 1) := by decide +kernel
theorem dX5_deviation_30 : decode cX5_deviation 30 = .ok (.getstatic 165, 3) := by decide +kernel
theorem dX5_deviation_33 : decode cX5_deviation 33 = .ok (.iconst 2, 1) := by decide +kernel
theorem dX5_deviation_34 : decode cX5_deviation 34 = .ok (.invokestatic 124, 3) := by decide +kernel
theorem dX5_deviation_37 : decode cX5_deviation 37 = .ok (.invokestatic 214, 3) := by decide +kernel
theorem dX5_deviation_40 : decode cX5_deviation 40 = .ok (.istore 6, 2) := by decide +kernel
theorem dX5_deviation_42 : decode cX5_deviation 42 = .ok (.iload 4, 2) := by decide +kernel
theorem dX5_deviation_44 : decode cX5_deviation 44 = .ok (.iload 5, 2) := by decide +kernel
theorem dX5_deviation_46 : decode cX5_deviation 46 = .ok (.iload 6, 2) := by decide +kernel
theorem dX5_deviation_48 : decode cX5_deviation 48 = .ok (.invokestatic 196, 3) := by decide +kernel
theorem dX5_deviation_51 : decode cX5_deviation 51 = .ok (.invokestatic 196, 3) := by decide +kernel
theorem dX5_deviation_54 : decode cX5_deviation 54 = .ok (.ireturn, 1) := by decide +kernel
theorem dX5_nearestAngle_0 : decode cX5_nearestAngle 0 = .ok (.iconst 0, 1) := by decide +kernel
theorem dX5_nearestAngle_1 : decode cX5_nearestAngle 1 = .ok (.istore_n 3, 1) := by decide +kernel
theorem dX5_nearestAngle_2 : decode cX5_nearestAngle 2 = .ok (.iconst 0, 1) := by decide +kernel
theorem dX5_nearestAngle_3 : decode cX5_nearestAngle 3 = .ok (.iload_n 0, 1) := by decide +kernel
theorem dX5_nearestAngle_4 : decode cX5_nearestAngle 4 = .ok (.iload_n 1, 1) := by decide +kernel
theorem dX5_nearestAngle_5 : decode cX5_nearestAngle 5 = .ok (.iload_n 2, 1) := by decide +kernel
theorem dX5_nearestAngle_6 : decode cX5_nearestAngle 6 = .ok (.invokestatic 161, 3) := by decide +kernel
theorem dX5_nearestAngle_9 : decode cX5_nearestAngle 9 = .ok (.istore 4, 2) := by decide +kernel
theorem dX5_nearestAngle_11 : decode cX5_nearestAngle 11 = .ok (.iconst 1, 1) := by decide +kernel
theorem dX5_nearestAngle_12 : decode cX5_nearestAngle 12 = .ok (.istore 5, 2) := by decide +kernel
theorem dX5_nearestAngle_14 : decode cX5_nearestAngle 14 = .ok (.iload 5, 2) := by decide +kernel
theorem dX5_nearestAngle_16 : decode cX5_nearestAngle 16 = .ok (.sipush 4080, 3) := by decide +kernel
theorem dX5_nearestAngle_19 : decode cX5_nearestAngle 19 = .ok (.if_icmp .ge 51, 3) := by decide +kernel
theorem dX5_nearestAngle_22 : decode cX5_nearestAngle 22 = .ok (.iload 4, 2) := by decide +kernel
theorem dX5_nearestAngle_24 : decode cX5_nearestAngle 24 = .ok (.ifCond .le 46, 3) := by decide +kernel
theorem dX5_nearestAngle_27 : decode cX5_nearestAngle 27 = .ok (.iload 5, 2) := by decide +kernel
theorem dX5_nearestAngle_29 : decode cX5_nearestAngle 29 = .ok (.iload_n 0, 1) := by decide +kernel
theorem dX5_nearestAngle_30 : decode cX5_nearestAngle 30 = .ok (.iload_n 1, 1) := by decide +kernel
theorem dX5_nearestAngle_31 : decode cX5_nearestAngle 31 = .ok (.iload_n 2, 1) := by decide +kernel
theorem dX5_nearestAngle_32 : decode cX5_nearestAngle 32 = .ok (.invokestatic 161, 3) := by decide +kernel
theorem dX5_nearestAngle_35 : decode cX5_nearestAngle 35 = .ok (.istore 6, 2) := by decide +kernel
theorem dX5_nearestAngle_37 : decode cX5_nearestAngle 37 = .ok (.iload 6, 2) := by decide +kernel
theorem dX5_nearestAngle_39 : decode cX5_nearestAngle 39 = .ok (.iload 4, 2) := by decide +kernel
theorem dX5_nearestAngle_41 : decode cX5_nearestAngle 41 = .ok (.if_icmp .ge 10, 3) := by decide +kernel
theorem dX5_nearestAngle_44 : decode cX5_nearestAngle 44 = .ok (.iload 5, 2) := by decide +kernel
theorem dX5_nearestAngle_46 : decode cX5_nearestAngle 46 = .ok (.istore_n 3, 1) := by decide +kernel
theorem dX5_nearestAngle_47 : decode cX5_nearestAngle 47 = .ok (.iload 6, 2) := by decide +kernel
theorem dX5_nearestAngle_49 : decode cX5_nearestAngle 49 = .ok (.istore 4, 2) := by decide +kernel
theorem dX5_nearestAngle_51 : decode cX5_nearestAngle 51 = .ok (.iload 5, 2) := by decide +kernel
theorem dX5_nearestAngle_53 : decode cX5_nearestAngle 53 = .ok (.iconst 1, 1) := by decide +kernel
theorem dX5_nearestAngle_54 : decode cX5_nearestAngle 54 = .ok (.iload 6, 2) := by decide +kernel
theorem dX5_nearestAngle_56 : decode cX5_nearestAngle 56 = .ok (.iload 4, 2) := by decide +kernel
theorem dX5_nearestAngle_58 : decode cX5_nearestAngle 58 = .ok (.isub, 1) := by decide +kernel
theorem dX5_nearestAngle_59 : decode cX5_nearestAngle 59 = .ok (.iconst 1, 1) := by decide +kernel
theorem dX5_nearestAngle_60 : decode cX5_nearestAngle 60 = .ok (.iadd, 1) := by decide +kernel
theorem dX5_nearestAngle_61 : decode cX5_nearestAngle 61 = .ok (.invokestatic 196, 3) := by decide +kernel
theorem dX5_nearestAngle_64 : decode cX5_nearestAngle 64 = .ok (.iadd, 1) := by decide +kernel
theorem dX5_nearestAngle_65 : decode cX5_nearestAngle 65 = .ok (.istore 5, 2) := by decide +kernel
theorem dX5_nearestAngle_67 : decode cX5_nearestAngle 67 = .ok (.goto (-53), 3) := by decide +kernel
theorem dX5_nearestAngle_70 : decode cX5_nearestAngle 70 = .ok (.iload_n 3, 1) := by decide +kernel
theorem dX5_nearestAngle_71 : decode cX5_nearestAngle 71 = .ok (.ireturn, 1) := by decide +kernel
