theorem dX0_init_0 : decode cX0_init 0 = .ok (.aload_n 0, 1) := by decide +kernel
theorem dX0_init_1 : decode cX0_init 1 = .ok (.invokespecial 3, 3) := by decide +kernel
theorem dX0_init_4 : decode cX0_init 4 = .ok (.aload_n 0, 1) := by decide +kernel
theorem dX0_init_5 : decode cX0_init 5 = .ok (.bipush 60, 2) := by decide +kernel
theorem dX0_init_7 : decode cX0_init 7 = .ok (.newarray .int, 2) := by decide +kernel
theorem dX0_init_9 : decode cX0_init 9 = .ok (.putfield 9, 3) := by decide +kernel
theorem dX0_init_12 : decode cX0_init 12 = .ok (.aload_n 0, 1) := by decide +kernel
theorem dX0_init_13 : decode cX0_init 13 = .ok (.iconst 0, 1) := by decide +kernel
theorem dX0_init_14 : decode cX0_init 14 = .ok (.putfield 15, 3) := by decide +kernel
theorem dX0_init_17 : decode cX0_init 17 = .ok (.aload_n 0, 1) := by decide +kernel
theorem dX0_init_18 : decode cX0_init 18 = .ok (.bipush 24, 2) := by decide +kernel
theorem dX0_init_20 : decode cX0_init 20 = .ok (.newarray .int, 2) := by decide +kernel
theorem dX0_init_22 : decode cX0_init 22 = .ok (.putfield 19, 3) := by decide +kernel
theorem dX0_init_25 : decode cX0_init 25 = .ok (.aload_n 0, 1) := by decide +kernel
theorem dX0_init_26 : decode cX0_init 26 = .ok (.bipush 24, 2) := by decide +kernel
theorem dX0_init_28 : decode cX0_init 28 = .ok (.newarray .int, 2) := by decide +kernel
theorem dX0_init_30 : decode cX0_init 30 = .ok (.putfield 22, 3) := by decide +kernel
theorem dX0_init_33 : decode cX0_init 33 = .ok (.aload_n 0, 1) := by decide +kernel
theorem dX0_init_34 : decode cX0_init 34 = .ok (.iconst 0, 1) := by decide +kernel
theorem dX0_init_35 : decode cX0_init 35 = .ok (.putfield 25, 3) := by decide +kernel
theorem dX0_init_38 : decode cX0_init 38 = .ok (.aload_n 0, 1) := by decide +kernel
theorem dX0_init_39 : decode cX0_init 39 = .ok (.iconst 0, 1) := by decide +kernel
theorem dX0_init_40 : decode cX0_init 40 = .ok (.putfield 28, 3) := by decide +kernel
theorem dX0_init_43 : decode cX0_init 43 = .ok (.aload_n 0, 1) := by decide +kernel
theorem dX0_init_44 : decode cX0_init 44 = .ok (.iconst 0, 1) := by decide +kernel
theorem dX0_init_45 : decode cX0_init 45 = .ok (.putfield 31, 3) := by decide +kernel
theorem dX0_init_48 : decode cX0_init 48 = .ok (.return_, 1) := by decide +kernel
theorem dX0_append_0 : decode cX0_append 0 = .ok (.aload_n 0, 1) := by decide +kernel
theorem dX0_append_1 : decode cX0_append 1 = .ok (.getfield 9, 3) := by decide +kernel
theorem dX0_append_4 : decode cX0_append 4 = .ok (.aload_n 0, 1) := by decide +kernel
theorem dX0_append_5 : decode cX0_append 5 = .ok (.getfield 15, 3) := by decide +kernel
theorem dX0_append_8 : decode cX0_append 8 = .ok (.iload_n 1, 1) := by decide +kernel
theorem dX0_append_9 : decode cX0_append 9 = .ok (.invokestatic 34, 3) := by decide +kernel
theorem dX0_append_12 : decode cX0_append 12 = .ok (.aload_n 0, 1) := by decide +kernel
theorem dX0_append_13 : decode cX0_append 13 = .ok (.dup, 1) := by decide +kernel
theorem dX0_append_14 : decode cX0_append 14 = .ok (.getfield 15, 3) := by decide +kernel
theorem dX0_append_17 : decode cX0_append 17 = .ok (.iconst 1, 1) := by decide +kernel
theorem dX0_append_18 : decode cX0_append 18 = .ok (.iadd, 1) := by decide +kernel
theorem dX0_append_19 : decode cX0_append 19 = .ok (.putfield 15, 3) := by decide +kernel
theorem dX0_append_22 : decode cX0_append 22 = .ok (.return_, 1) := by decide +kernel
theorem dX0_scan_0 : decode cX0_scan 0 = .ok (.iconst 0, 1) := by decide +kernel
theorem dX0_scan_1 : decode cX0_scan 1 = .ok (.istore_n 1, 1) := by decide +kernel
theorem dX0_scan_2 : decode cX0_scan 2 = .ok (.iload_n 1, 1) := by decide +kernel
theorem dX0_scan_3 : decode cX0_scan 3 = .ok (.bipush 24, 2) := by decide +kernel
theorem dX0_scan_5 : decode cX0_scan 5 = .ok (.if_icmp .ge 27, 3) := by decide +kernel
theorem dX0_scan_8 : decode cX0_scan 8 = .ok (.aload_n 0, 1) := by decide +kernel
theorem dX0_scan_9 : decode cX0_scan 9 = .ok (.getfield 19, 3) := by decide +kernel
theorem dX0_scan_12 : decode cX0_scan 12 = .ok (.iload_n 1, 1) := by decide +kernel
theorem dX0_scan_13 : decode cX0_scan 13 = .ok (.iconst 0, 1) := by decide +kernel
theorem dX0_scan_14 : decode cX0_scan 14 = .ok (.invokestatic 34, 3) := by decide +kernel
theorem dX0_scan_17 : decode cX0_scan 17 = .ok (.aload_n 0, 1) := by decide +kernel
theorem dX0_scan_18 : decode cX0_scan 18 = .ok (.getfield 22, 3) := by decide +kernel
theorem dX0_scan_21 : decode cX0_scan 21 = .ok (.iload_n 1, 1) := by decide +kernel
theorem dX0_scan_22 : decode cX0_scan 22 = .ok (.iconst 0, 1) := by decide +kernel
theorem dX0_scan_23 : decode cX0_scan 23 = .ok (.invokestatic 34, 3) := by decide +kernel
theorem dX0_scan_26 : decode cX0_scan 26 = .ok (.iinc 1 1, 3) := by decide +kernel
theorem dX0_scan_29 : decode cX0_scan 29 = .ok (.goto (-27), 3) := by decide +kernel
theorem dX0_scan_32 : decode cX0_scan 32 = .ok (.aload_n 0, 1) := by decide +kernel
theorem dX0_scan_33 : decode cX0_scan 33 = .ok (.iconst 0, 1) := by decide +kernel
theorem dX0_scan_34 : decode cX0_scan 34 = .ok (.putfield 25, 3) := by decide +kernel
theorem dX0_scan_37 : decode cX0_scan 37 = .ok (.aload_n 0, 1) := by decide +kernel
theorem dX0_scan_38 : decode cX0_scan 38 = .ok (.iconst 0, 1) := by decide +kernel
theorem dX0_scan_39 : decode cX0_scan 39 = .ok (.putfield 31, 3) := by decide +kernel
theorem dX0_scan_42 : decode cX0_scan 42 = .ok (.aload_n 0, 1) := by decide +kernel
theorem dX0_scan_43 : decode cX0_scan 43 = .ok (.iconst 0, 1) := by decide +kernel
theorem dX0_scan_44 : decode cX0_scan 44 = .ok (.putfield 28, 3) := by decide +kernel
theorem dX0_scan_47 : decode cX0_scan 47 = .ok (.aload_n 0, 1) := by decide +kernel
theorem dX0_scan_48 : decode cX0_scan 48 = .ok (.getfield 28, 3) := by decide +kernel
theorem dX0_scan_51 : decode cX0_scan 51 = .ok (.aload_n 0, 1) := by decide +kernel
theorem dX0_scan_52 : decode cX0_scan 52 = .ok (.getfield 15, 3) := by decide +kernel
theorem dX0_scan_55 : decode cX0_scan 55 = .ok (.if_icmp .ge 61, 3) := by decide +kernel
theorem dX0_scan_58 : decode cX0_scan 58 = .ok (.aload_n 0, 1) := by decide +kernel
theorem dX0_scan_59 : decode cX0_scan 59 = .ok (.getfield 31, 3) := by decide +kernel
theorem dX0_scan_62 : decode cX0_scan 62 = .ok (.ifCond .ne 54, 3) := by decide +kernel
theorem dX0_scan_65 : decode cX0_scan 65 = .ok (.aload_n 0, 1) := by decide +kernel
theorem dX0_scan_66 : decode cX0_scan 66 = .ok (.aload_n 0, 1) := by decide +kernel
theorem dX0_scan_67 : decode cX0_scan 67 = .ok (.aload_n 0, 1) := by decide +kernel
theorem dX0_scan_68 : decode cX0_scan 68 = .ok (.getfield 28, 3) := by decide +kernel
theorem dX0_scan_71 : decode cX0_scan 71 = .ok (.invokevirtual 38, 3) := by decide +kernel
theorem dX0_scan_74 : decode cX0_scan 74 = .ok (.putfield 31, 3) := by decide +kernel
theorem dX0_scan_77 : decode cX0_scan 77 = .ok (.aload_n 0, 1) := by decide +kernel
theorem dX0_scan_78 : decode cX0_scan 78 = .ok (.getfield 31, 3) := by decide +kernel
theorem dX0_scan_81 : decode cX0_scan 81 = .ok (.ifCond .ne (-34), 3) := by decide +kernel
theorem dX0_scan_84 : decode cX0_scan 84 = .ok (.aload_n 0, 1) := by decide +kernel
theorem dX0_scan_85 : decode cX0_scan 85 = .ok (.aload_n 0, 1) := by decide +kernel
theorem dX0_scan_86 : decode cX0_scan 86 = .ok (.getfield 28, 3) := by decide +kernel
theorem dX0_scan_89 : decode cX0_scan 89 = .ok (.invokevirtual 42, 3) := by decide +kernel
theorem dX0_scan_92 : decode cX0_scan 92 = .ok (.aload_n 0, 1) := by decide +kernel
theorem dX0_scan_93 : decode cX0_scan 93 = .ok (.dup, 1) := by decide +kernel
theorem dX0_scan_94 : decode cX0_scan 94 = .ok (.getfield 28, 3) := by decide +kernel
theorem dX0_scan_97 : decode cX0_scan 97 = .ok (.iconst 1, 1) := by decide +kernel
theorem dX0_scan_98 : decode cX0_scan 98 = .ok (.aload_n 0, 1) := by decide +kernel
theorem dX0_scan_99 : decode cX0_scan 99 = .ok (.aload_n 0, 1) := by decide +kernel
theorem dX0_scan_100 : decode cX0_scan 100 = .ok (.getfield 28, 3) := by decide +kernel
theorem dX0_scan_103 : decode cX0_scan 103 = .ok (.invokevirtual 46, 3) := by decide +kernel
theorem dX0_scan_106 : decode cX0_scan 106 = .ok (.invokestatic 49, 3) := by decide +kernel
theorem dX0_scan_109 : decode cX0_scan 109 = .ok (.iadd, 1) := by decide +kernel
theorem dX0_scan_110 : decode cX0_scan 110 = .ok (.putfield 28, 3) := by decide +kernel
theorem dX0_scan_113 : decode cX0_scan 113 = .ok (.goto (-66), 3) := by decide +kernel
theorem dX0_scan_116 : decode cX0_scan 116 = .ok (.return_, 1) := by decide +kernel
theorem dX0_entryFault_0 : decode cX0_entryFault 0 = .ok (.aload_n 0, 1) := by decide +kernel
theorem dX0_entryFault_1 : decode cX0_entryFault 1 = .ok (.iload_n 1, 1) := by decide +kernel
theorem dX0_entryFault_2 : decode cX0_entryFault 2 = .ok (.invokevirtual 46, 3) := by decide +kernel
theorem dX0_entryFault_5 : decode cX0_entryFault 5 = .ok (.ifCond .ne 5, 3) := by decide +kernel
theorem dX0_entryFault_8 : decode cX0_entryFault 8 = .ok (.iconst 1, 1) := by decide +kernel
theorem dX0_entryFault_9 : decode cX0_entryFault 9 = .ok (.ireturn, 1) := by decide +kernel
theorem dX0_entryFault_10 : decode cX0_entryFault 10 = .ok (.aload_n 0, 1) := by decide +kernel
theorem dX0_entryFault_11 : decode cX0_entryFault 11 = .ok (.iload_n 1, 1) := by decide +kernel
theorem dX0_entryFault_12 : decode cX0_entryFault 12 = .ok (.invokevirtual 55, 3) := by decide +kernel
theorem dX0_entryFault_15 : decode cX0_entryFault 15 = .ok (.invokestatic 58, 3) := by decide +kernel
theorem dX0_entryFault_18 : decode cX0_entryFault 18 = .ok (.ifCond .ne 5, 3) := by decide +kernel
theorem dX0_entryFault_21 : decode cX0_entryFault 21 = .ok (.iconst 2, 1) := by decide +kernel
theorem dX0_entryFault_22 : decode cX0_entryFault 22 = .ok (.ireturn, 1) := by decide +kernel
theorem dX0_entryFault_23 : decode cX0_entryFault 23 = .ok (.aload_n 0, 1) := by decide +kernel
theorem dX0_entryFault_24 : decode cX0_entryFault 24 = .ok (.iload_n 1, 1) := by decide +kernel
theorem dX0_entryFault_25 : decode cX0_entryFault 25 = .ok (.invokevirtual 55, 3) := by decide +kernel
theorem dX0_entryFault_28 : decode cX0_entryFault 28 = .ok (.aload_n 0, 1) := by decide +kernel
theorem dX0_entryFault_29 : decode cX0_entryFault 29 = .ok (.iload_n 1, 1) := by decide +kernel
theorem dX0_entryFault_30 : decode cX0_entryFault 30 = .ok (.iconst 1, 1) := by decide +kernel
theorem dX0_entryFault_31 : decode cX0_entryFault 31 = .ok (.iadd, 1) := by decide +kernel
theorem dX0_entryFault_32 : decode cX0_entryFault 32 = .ok (.invokevirtual 55, 3) := by decide +kernel
theorem dX0_entryFault_35 : decode cX0_entryFault 35 = .ok (.invokestatic 62, 3) := by decide +kernel
theorem dX0_entryFault_38 : decode cX0_entryFault 38 = .ok (.ifCond .ne 5, 3) := by decide +kernel
theorem dX0_entryFault_41 : decode cX0_entryFault 41 = .ok (.iconst 3, 1) := by decide +kernel
theorem dX0_entryFault_42 : decode cX0_entryFault 42 = .ok (.ireturn, 1) := by decide +kernel
theorem dX0_entryFault_43 : decode cX0_entryFault 43 = .ok (.aload_n 0, 1) := by decide +kernel
theorem dX0_entryFault_44 : decode cX0_entryFault 44 = .ok (.iload_n 1, 1) := by decide +kernel
theorem dX0_entryFault_45 : decode cX0_entryFault 45 = .ok (.invokevirtual 66, 3) := by decide +kernel
theorem dX0_entryFault_48 : decode cX0_entryFault 48 = .ok (.bipush 20, 2) := by decide +kernel
theorem dX0_entryFault_50 : decode cX0_entryFault 50 = .ok (.if_icmp .le 5, 3) := by decide +kernel
theorem dX0_entryFault_53 : decode cX0_entryFault 53 = .ok (.iconst 4, 1) := by decide +kernel
theorem dX0_entryFault_54 : decode cX0_entryFault 54 = .ok (.ireturn, 1) := by decide +kernel
theorem dX0_entryFault_55 : decode cX0_entryFault 55 = .ok (.aload_n 0, 1) := by decide +kernel
theorem dX0_entryFault_56 : decode cX0_entryFault 56 = .ok (.getfield 22, 3) := by decide +kernel
theorem dX0_entryFault_59 : decode cX0_entryFault 59 = .ok (.aload_n 0, 1) := by decide +kernel
theorem dX0_entryFault_60 : decode cX0_entryFault 60 = .ok (.iload_n 1, 1) := by decide +kernel
theorem dX0_entryFault_61 : decode cX0_entryFault 61 = .ok (.invokevirtual 69, 3) := by decide +kernel
theorem dX0_entryFault_64 : decode cX0_entryFault 64 = .ok (.invokestatic 72, 3) := by decide +kernel
theorem dX0_entryFault_67 : decode cX0_entryFault 67 = .ok (.ifCond .eq 7, 3) := by decide +kernel
theorem dX0_entryFault_70 : decode cX0_entryFault 70 = .ok (.iconst 5, 1) := by decide +kernel
theorem dX0_entryFault_71 : decode cX0_entryFault 71 = .ok (.goto 4, 3) := by decide +kernel
theorem dX0_entryFault_74 : decode cX0_entryFault 74 = .ok (.iconst 0, 1) := by decide +kernel
theorem dX0_entryFault_75 : decode cX0_entryFault 75 = .ok (.ireturn, 1) := by decide +kernel
theorem dX0_takeEntry_0 : decode cX0_takeEntry 0 = .ok (.aload_n 0, 1) := by decide +kernel
theorem dX0_takeEntry_1 : decode cX0_takeEntry 1 = .ok (.iload_n 1, 1) := by decide +kernel
theorem dX0_takeEntry_2 : decode cX0_takeEntry 2 = .ok (.invokevirtual 66, 3) := by decide +kernel
theorem dX0_takeEntry_5 : decode cX0_takeEntry 5 = .ok (.istore_n 2, 1) := by decide +kernel
theorem dX0_takeEntry_6 : decode cX0_takeEntry 6 = .ok (.aload_n 0, 1) := by decide +kernel
theorem dX0_takeEntry_7 : decode cX0_takeEntry 7 = .ok (.getfield 19, 3) := by decide +kernel
theorem dX0_takeEntry_10 : decode cX0_takeEntry 10 = .ok (.aload_n 0, 1) := by decide +kernel
theorem dX0_takeEntry_11 : decode cX0_takeEntry 11 = .ok (.iload_n 1, 1) := by decide +kernel
theorem dX0_takeEntry_12 : decode cX0_takeEntry 12 = .ok (.invokevirtual 69, 3) := by decide +kernel
theorem dX0_takeEntry_15 : decode cX0_takeEntry 15 = .ok (.aload_n 0, 1) := by decide +kernel
theorem dX0_takeEntry_16 : decode cX0_takeEntry 16 = .ok (.iload_n 1, 1) := by decide +kernel
theorem dX0_takeEntry_17 : decode cX0_takeEntry 17 = .ok (.iconst 2, 1) := by decide +kernel
theorem dX0_takeEntry_18 : decode cX0_takeEntry 18 = .ok (.iadd, 1) := by decide +kernel
theorem dX0_takeEntry_19 : decode cX0_takeEntry 19 = .ok (.invokevirtual 76, 3) := by decide +kernel
theorem dX0_takeEntry_22 : decode cX0_takeEntry 22 = .ok (.bipush 45, 2) := by decide +kernel
theorem dX0_takeEntry_24 : decode cX0_takeEntry 24 = .ok (.if_icmp .ne 8, 3) := by decide +kernel
theorem dX0_takeEntry_27 : decode cX0_takeEntry 27 = .ok (.iload_n 2, 1) := by decide +kernel
theorem dX0_takeEntry_28 : decode cX0_takeEntry 28 = .ok (.ineg, 1) := by decide +kernel
theorem dX0_takeEntry_29 : decode cX0_takeEntry 29 = .ok (.goto 4, 3) := by decide +kernel
theorem dX0_takeEntry_32 : decode cX0_takeEntry 32 = .ok (.iload_n 2, 1) := by decide +kernel
theorem dX0_takeEntry_33 : decode cX0_takeEntry 33 = .ok (.invokestatic 34, 3) := by decide +kernel
theorem dX0_takeEntry_36 : decode cX0_takeEntry 36 = .ok (.aload_n 0, 1) := by decide +kernel
theorem dX0_takeEntry_37 : decode cX0_takeEntry 37 = .ok (.getfield 22, 3) := by decide +kernel
theorem dX0_takeEntry_40 : decode cX0_takeEntry 40 = .ok (.aload_n 0, 1) := by decide +kernel
theorem dX0_takeEntry_41 : decode cX0_takeEntry 41 = .ok (.iload_n 1, 1) := by decide +kernel
theorem dX0_takeEntry_42 : decode cX0_takeEntry 42 = .ok (.invokevirtual 69, 3) := by decide +kernel
theorem dX0_takeEntry_45 : decode cX0_takeEntry 45 = .ok (.iconst 1, 1) := by decide +kernel
theorem dX0_takeEntry_46 : decode cX0_takeEntry 46 = .ok (.invokestatic 34, 3) := by decide +kernel
theorem dX0_takeEntry_49 : decode cX0_takeEntry 49 = .ok (.aload_n 0, 1) := by decide +kernel
theorem dX0_takeEntry_50 : decode cX0_takeEntry 50 = .ok (.dup, 1) := by decide +kernel
theorem dX0_takeEntry_51 : decode cX0_takeEntry 51 = .ok (.getfield 25, 3) := by decide +kernel
theorem dX0_takeEntry_54 : decode cX0_takeEntry 54 = .ok (.iconst 1, 1) := by decide +kernel
theorem dX0_takeEntry_55 : decode cX0_takeEntry 55 = .ok (.iadd, 1) := by decide +kernel
theorem dX0_takeEntry_56 : decode cX0_takeEntry 56 = .ok (.putfield 25, 3) := by decide +kernel
theorem dX0_takeEntry_59 : decode cX0_takeEntry 59 = .ok (.return_, 1) := by decide +kernel
theorem dX0_entryLength_0 : decode cX0_entryLength 0 = .ok (.aload_n 0, 1) := by decide +kernel
theorem dX0_entryLength_1 : decode cX0_entryLength 1 = .ok (.iload_n 1, 1) := by decide +kernel
theorem dX0_entryLength_2 : decode cX0_entryLength 2 = .ok (.iconst 2, 1) := by decide +kernel
theorem dX0_entryLength_3 : decode cX0_entryLength 3 = .ok (.iadd, 1) := by decide +kernel
theorem dX0_entryLength_4 : decode cX0_entryLength 4 = .ok (.invokevirtual 76, 3) := by decide +kernel
theorem dX0_entryLength_7 : decode cX0_entryLength 7 = .ok (.istore_n 2, 1) := by decide +kernel
theorem dX0_entryLength_8 : decode cX0_entryLength 8 = .ok (.aload_n 0, 1) := by decide +kernel
theorem dX0_entryLength_9 : decode cX0_entryLength 9 = .ok (.iload_n 1, 1) := by decide +kernel
theorem dX0_entryLength_10 : decode cX0_entryLength 10 = .ok (.invokevirtual 79, 3) := by decide +kernel
theorem dX0_entryLength_13 : decode cX0_entryLength 13 = .ok (.ifCond .eq 35, 3) := by decide +kernel
theorem dX0_entryLength_16 : decode cX0_entryLength 16 = .ok (.aload_n 0, 1) := by decide +kernel
theorem dX0_entryLength_17 : decode cX0_entryLength 17 = .ok (.iload_n 1, 1) := by decide +kernel
theorem dX0_entryLength_18 : decode cX0_entryLength 18 = .ok (.iconst 1, 1) := by decide +kernel
theorem dX0_entryLength_19 : decode cX0_entryLength 19 = .ok (.iadd, 1) := by decide +kernel
theorem dX0_entryLength_20 : decode cX0_entryLength 20 = .ok (.invokevirtual 79, 3) := by decide +kernel
theorem dX0_entryLength_23 : decode cX0_entryLength 23 = .ok (.ifCond .eq 25, 3) := by decide +kernel
theorem dX0_entryLength_26 : decode cX0_entryLength 26 = .ok (.iload_n 2, 1) := by decide +kernel
theorem dX0_entryLength_27 : decode cX0_entryLength 27 = .ok (.bipush 43, 2) := by decide +kernel
theorem dX0_entryLength_29 : decode cX0_entryLength 29 = .ok (.if_icmp .eq 9, 3) := by decide +kernel
theorem dX0_entryLength_32 : decode cX0_entryLength 32 = .ok (.iload_n 2, 1) := by decide +kernel
theorem dX0_entryLength_33 : decode cX0_entryLength 33 = .ok (.bipush 45, 2) := by decide +kernel
theorem dX0_entryLength_35 : decode cX0_entryLength 35 = .ok (.if_icmp .ne 13, 3) := by decide +kernel
theorem dX0_entryLength_38 : decode cX0_entryLength 38 = .ok (.aload_n 0, 1) := by decide +kernel
theorem dX0_entryLength_39 : decode cX0_entryLength 39 = .ok (.iload_n 1, 1) := by decide +kernel
theorem dX0_entryLength_40 : decode cX0_entryLength 40 = .ok (.iconst 3, 1) := by decide +kernel
theorem dX0_entryLength_41 : decode cX0_entryLength 41 = .ok (.iadd, 1) := by decide +kernel
theorem dX0_entryLength_42 : decode cX0_entryLength 42 = .ok (.invokevirtual 79, 3) := by decide +kernel
theorem dX0_entryLength_45 : decode cX0_entryLength 45 = .ok (.ifCond .ne 5, 3) := by decide +kernel
theorem dX0_entryLength_48 : decode cX0_entryLength 48 = .ok (.iconst 0, 1) := by decide +kernel
theorem dX0_entryLength_49 : decode cX0_entryLength 49 = .ok (.ireturn, 1) := by decide +kernel
theorem dX0_entryLength_50 : decode cX0_entryLength 50 = .ok (.aload_n 0, 1) := by decide +kernel
theorem dX0_entryLength_51 : decode cX0_entryLength 51 = .ok (.iload_n 1, 1) := by decide +kernel
theorem dX0_entryLength_52 : decode cX0_entryLength 52 = .ok (.iconst 4, 1) := by decide +kernel
theorem dX0_entryLength_53 : decode cX0_entryLength 53 = .ok (.iadd, 1) := by decide +kernel
theorem dX0_entryLength_54 : decode cX0_entryLength 54 = .ok (.invokevirtual 79, 3) := by decide +kernel
theorem dX0_entryLength_57 : decode cX0_entryLength 57 = .ok (.ifCond .eq 9, 3) := by decide +kernel
theorem dX0_entryLength_60 : decode cX0_entryLength 60 = .ok (.iload_n 1, 1) := by decide +kernel
theorem dX0_entryLength_61 : decode cX0_entryLength 61 = .ok (.iconst 5, 1) := by decide +kernel
theorem dX0_entryLength_62 : decode cX0_entryLength 62 = .ok (.iadd, 1) := by decide +kernel
theorem dX0_entryLength_63 : decode cX0_entryLength 63 = .ok (.goto 6, 3) := by decide +kernel
theorem dX0_entryLength_66 : decode cX0_entryLength 66 = .ok (.iload_n 1, 1) := by decide +kernel
theorem dX0_entryLength_67 : decode cX0_entryLength 67 = .ok (.iconst 4, 1) := by decide +kernel
theorem dX0_entryLength_68 : decode cX0_entryLength 68 = .ok (.iadd, 1) := by decide +kernel
theorem dX0_entryLength_69 : decode cX0_entryLength 69 = .ok (.istore_n 3, 1) := by decide +kernel
theorem dX0_entryLength_70 : decode cX0_entryLength 70 = .ok (.aload_n 0, 1) := by decide +kernel
theorem dX0_entryLength_71 : decode cX0_entryLength 71 = .ok (.iload_n 3, 1) := by decide +kernel
theorem dX0_entryLength_72 : decode cX0_entryLength 72 = .ok (.invokevirtual 76, 3) := by decide +kernel
theorem dX0_entryLength_75 : decode cX0_entryLength 75 = .ok (.bipush 59, 2) := by decide +kernel
theorem dX0_entryLength_77 : decode cX0_entryLength 77 = .ok (.if_icmp .ne 11, 3) := by decide +kernel
theorem dX0_entryLength_80 : decode cX0_entryLength 80 = .ok (.iload_n 3, 1) := by decide +kernel
theorem dX0_entryLength_81 : decode cX0_entryLength 81 = .ok (.iconst 1, 1) := by decide +kernel
theorem dX0_entryLength_82 : decode cX0_entryLength 82 = .ok (.iadd, 1) := by decide +kernel
theorem dX0_entryLength_83 : decode cX0_entryLength 83 = .ok (.iload_n 1, 1) := by decide +kernel
theorem dX0_entryLength_84 : decode cX0_entryLength 84 = .ok (.isub, 1) := by decide +kernel
theorem dX0_entryLength_85 : decode cX0_entryLength 85 = .ok (.goto 4, 3) := by decide +kernel
theorem dX0_entryLength_88 : decode cX0_entryLength 88 = .ok (.iconst 0, 1) := by decide +kernel
theorem dX0_entryLength_89 : decode cX0_entryLength 89 = .ok (.ireturn, 1) := by decide +kernel
theorem dX0_amount_0 : decode cX0_amount 0 = .ok (.aload_n 0, 1) := by decide +kernel
theorem dX0_amount_1 : decode cX0_amount 1 = .ok (.iload_n 1, 1) := by decide +kernel
theorem dX0_amount_2 : decode cX0_amount 2 = .ok (.iconst 3, 1) := by decide +kernel
theorem dX0_amount_3 : decode cX0_amount 3 = .ok (.iadd, 1) := by decide +kernel
theorem dX0_amount_4 : decode cX0_amount 4 = .ok (.invokevirtual 55, 3) := by decide +kernel
theorem dX0_amount_7 : decode cX0_amount 7 = .ok (.istore_n 2, 1) := by decide +kernel
theorem dX0_amount_8 : decode cX0_amount 8 = .ok (.aload_n 0, 1) := by decide +kernel
theorem dX0_amount_9 : decode cX0_amount 9 = .ok (.iload_n 1, 1) := by decide +kernel
theorem dX0_amount_10 : decode cX0_amount 10 = .ok (.iconst 4, 1) := by decide +kernel
theorem dX0_amount_11 : decode cX0_amount 11 = .ok (.iadd, 1) := by decide +kernel
theorem dX0_amount_12 : decode cX0_amount 12 = .ok (.invokevirtual 79, 3) := by decide +kernel
theorem dX0_amount_15 : decode cX0_amount 15 = .ok (.ifCond .eq 18, 3) := by decide +kernel
theorem dX0_amount_18 : decode cX0_amount 18 = .ok (.iload_n 2, 1) := by decide +kernel
theorem dX0_amount_19 : decode cX0_amount 19 = .ok (.bipush 10, 2) := by decide +kernel
theorem dX0_amount_21 : decode cX0_amount 21 = .ok (.imul, 1) := by decide +kernel
theorem dX0_amount_22 : decode cX0_amount 22 = .ok (.aload_n 0, 1) := by decide +kernel
theorem dX0_amount_23 : decode cX0_amount 23 = .ok (.iload_n 1, 1) := by decide +kernel
theorem dX0_amount_24 : decode cX0_amount 24 = .ok (.iconst 4, 1) := by decide +kernel
theorem dX0_amount_25 : decode cX0_amount 25 = .ok (.iadd, 1) := by decide +kernel
theorem dX0_amount_26 : decode cX0_amount 26 = .ok (.invokevirtual 55, 3) := by decide +kernel
theorem dX0_amount_29 : decode cX0_amount 29 = .ok (.iadd, 1) := by decide +kernel
theorem dX0_amount_30 : decode cX0_amount 30 = .ok (.goto 4, 3) := by decide +kernel
theorem dX0_amount_33 : decode cX0_amount 33 = .ok (.iload_n 2, 1) := by decide +kernel
theorem dX0_amount_34 : decode cX0_amount 34 = .ok (.ireturn, 1) := by decide +kernel
theorem dX0_entryCell_0 : decode cX0_entryCell 0 = .ok (.aload_n 0, 1) := by decide +kernel
theorem dX0_entryCell_1 : decode cX0_entryCell 1 = .ok (.iload_n 1, 1) := by decide +kernel
theorem dX0_entryCell_2 : decode cX0_entryCell 2 = .ok (.invokevirtual 55, 3) := by decide +kernel
theorem dX0_entryCell_5 : decode cX0_entryCell 5 = .ok (.aload_n 0, 1) := by decide +kernel
theorem dX0_entryCell_6 : decode cX0_entryCell 6 = .ok (.iload_n 1, 1) := by decide +kernel
theorem dX0_entryCell_7 : decode cX0_entryCell 7 = .ok (.iconst 1, 1) := by decide +kernel
theorem dX0_entryCell_8 : decode cX0_entryCell 8 = .ok (.iadd, 1) := by decide +kernel
theorem dX0_entryCell_9 : decode cX0_entryCell 9 = .ok (.invokevirtual 55, 3) := by decide +kernel
theorem dX0_entryCell_12 : decode cX0_entryCell 12 = .ok (.invokestatic 82, 3) := by decide +kernel
theorem dX0_entryCell_15 : decode cX0_entryCell 15 = .ok (.ireturn, 1) := by decide +kernel
theorem dX0_characterAt_0 : decode cX0_characterAt 0 = .ok (.iload_n 1, 1) := by decide +kernel
theorem dX0_characterAt_1 : decode cX0_characterAt 1 = .ok (.aload_n 0, 1) := by decide +kernel
theorem dX0_characterAt_2 : decode cX0_characterAt 2 = .ok (.getfield 15, 3) := by decide +kernel
theorem dX0_characterAt_5 : decode cX0_characterAt 5 = .ok (.if_icmp .ge 14, 3) := by decide +kernel
theorem dX0_characterAt_8 : decode cX0_characterAt 8 = .ok (.aload_n 0, 1) := by decide +kernel
theorem dX0_characterAt_9 : decode cX0_characterAt 9 = .ok (.getfield 9, 3) := by decide +kernel
theorem dX0_characterAt_12 : decode cX0_characterAt 12 = .ok (.iload_n 1, 1) := by decide +kernel
theorem dX0_characterAt_13 : decode cX0_characterAt 13 = .ok (.invokestatic 72, 3) := by decide +kernel
theorem dX0_characterAt_16 : decode cX0_characterAt 16 = .ok (.goto 4, 3) := by decide +kernel
theorem dX0_characterAt_19 : decode cX0_characterAt 19 = .ok (.iconst 0, 1) := by decide +kernel
theorem dX0_characterAt_20 : decode cX0_characterAt 20 = .ok (.ireturn, 1) := by decide +kernel
theorem dX0_isDigit_0 : decode cX0_isDigit 0 = .ok (.aload_n 0, 1) := by decide +kernel
theorem dX0_isDigit_1 : decode cX0_isDigit 1 = .ok (.iload_n 1, 1) := by decide +kernel
theorem dX0_isDigit_2 : decode cX0_isDigit 2 = .ok (.invokevirtual 76, 3) := by decide +kernel
theorem dX0_isDigit_5 : decode cX0_isDigit 5 = .ok (.bipush 48, 2) := by decide +kernel
theorem dX0_isDigit_7 : decode cX0_isDigit 7 = .ok (.bipush 57, 2) := by decide +kernel
theorem dX0_isDigit_9 : decode cX0_isDigit 9 = .ok (.invokestatic 85, 3) := by decide +kernel
theorem dX0_isDigit_12 : decode cX0_isDigit 12 = .ok (.ifCond .ne 7, 3) := by decide +kernel
theorem dX0_isDigit_15 : decode cX0_isDigit 15 = .ok (.iconst 1, 1) := by decide +kernel
theorem dX0_isDigit_16 : decode cX0_isDigit 16 = .ok (.goto 4, 3) := by decide +kernel
theorem dX0_isDigit_19 : decode cX0_isDigit 19 = .ok (.iconst 0, 1) := by decide +kernel
theorem dX0_isDigit_20 : decode cX0_isDigit 20 = .ok (.ireturn, 1) := by decide +kernel
theorem dX0_digitAt_0 : decode cX0_digitAt 0 = .ok (.aload_n 0, 1) := by decide +kernel
theorem dX0_digitAt_1 : decode cX0_digitAt 1 = .ok (.iload_n 1, 1) := by decide +kernel
theorem dX0_digitAt_2 : decode cX0_digitAt 2 = .ok (.invokevirtual 76, 3) := by decide +kernel
theorem dX0_digitAt_5 : decode cX0_digitAt 5 = .ok (.bipush 48, 2) := by decide +kernel
theorem dX0_digitAt_7 : decode cX0_digitAt 7 = .ok (.isub, 1) := by decide +kernel
theorem dX0_digitAt_8 : decode cX0_digitAt 8 = .ok (.ireturn, 1) := by decide +kernel
theorem dX1_init_0 : decode cX1_init 0 = .ok (.aload_n 0, 1) := by decide +kernel
theorem dX1_init_1 : decode cX1_init 1 = .ok (.invokespecial 1, 3) := by decide +kernel
theorem dX1_init_4 : decode cX1_init 4 = .ok (.aload_n 0, 1) := by decide +kernel
theorem dX1_init_5 : decode cX1_init 5 = .ok (.iconst 0, 1) := by decide +kernel
theorem dX1_init_6 : decode cX1_init 6 = .ok (.putfield 7, 3) := by decide +kernel
theorem dX1_init_9 : decode cX1_init 9 = .ok (.aload_n 0, 1) := by decide +kernel
theorem dX1_init_10 : decode cX1_init 10 = .ok (.iconst 0, 1) := by decide +kernel
theorem dX1_init_11 : decode cX1_init 11 = .ok (.putfield 13, 3) := by decide +kernel
theorem dX1_init_14 : decode cX1_init 14 = .ok (.aload_n 0, 1) := by decide +kernel
theorem dX1_init_15 : decode cX1_init 15 = .ok (.iconst 0, 1) := by decide +kernel
theorem dX1_init_16 : decode cX1_init 16 = .ok (.putfield 16, 3) := by decide +kernel
theorem dX1_init_19 : decode cX1_init 19 = .ok (.aload_n 0, 1) := by decide +kernel
theorem dX1_init_20 : decode cX1_init 20 = .ok (.iconst 0, 1) := by decide +kernel
theorem dX1_init_21 : decode cX1_init 21 = .ok (.putfield 19, 3) := by decide +kernel
theorem dX1_init_24 : decode cX1_init 24 = .ok (.return_, 1) := by decide +kernel
theorem dX1_search_0 : decode cX1_search 0 = .ok (.aload_n 0, 1) := by decide +kernel
theorem dX1_search_1 : decode cX1_search 1 = .ok (.aload_n 1, 1) := by decide +kernel
theorem dX1_search_2 : decode cX1_search 2 = .ok (.iconst 0, 1) := by decide +kernel
theorem dX1_search_3 : decode cX1_search 3 = .ok (.iload_n 2, 1) := by decide +kernel
theorem dX1_search_4 : decode cX1_search 4 = .ok (.invokevirtual 22, 3) := by decide +kernel
theorem dX1_search_7 : decode cX1_search 7 = .ok (.aload_n 1, 1) := by decide +kernel
theorem dX1_search_8 : decode cX1_search 8 = .ok (.iconst 1, 1) := by decide +kernel
theorem dX1_search_9 : decode cX1_search 9 = .ok (.iload_n 2, 1) := by decide +kernel
theorem dX1_search_10 : decode cX1_search 10 = .ok (.invokevirtual 22, 3) := by decide +kernel
theorem dX1_search_13 : decode cX1_search 13 = .ok (.aload_n 1, 1) := by decide +kernel
theorem dX1_search_14 : decode cX1_search 14 = .ok (.iconst 2, 1) := by decide +kernel
theorem dX1_search_15 : decode cX1_search 15 = .ok (.iload_n 2, 1) := by decide +kernel
theorem dX1_search_16 : decode cX1_search 16 = .ok (.invokevirtual 22, 3) := by decide +kernel
theorem dX1_search_19 : decode cX1_search 19 = .ok (.invokestatic 28, 3) := by decide +kernel
theorem dX1_search_22 : decode cX1_search 22 = .ok (.putfield 7, 3) := by decide +kernel
theorem dX1_search_25 : decode cX1_search 25 = .ok (.aload_n 0, 1) := by decide +kernel
theorem dX1_search_26 : decode cX1_search 26 = .ok (.getfield 7, 3) := by decide +kernel
theorem dX1_search_29 : decode cX1_search 29 = .ok (.invokestatic 34, 3) := by decide +kernel
theorem dX1_search_32 : decode cX1_search 32 = .ok (.istore_n 3, 1) := by decide +kernel
theorem dX1_search_33 : decode cX1_search 33 = .ok (.aload_n 0, 1) := by decide +kernel
theorem dX1_search_34 : decode cX1_search 34 = .ok (.aload_n 1, 1) := by decide +kernel
theorem dX1_search_35 : decode cX1_search 35 = .ok (.iload_n 2, 1) := by decide +kernel
theorem dX1_search_36 : decode cX1_search 36 = .ok (.iload_n 3, 1) := by decide +kernel
theorem dX1_search_37 : decode cX1_search 37 = .ok (.invokevirtual 38, 3) := by decide +kernel
theorem dX1_search_40 : decode cX1_search 40 = .ok (.aload_n 0, 1) := by decide +kernel
theorem dX1_search_41 : decode cX1_search 41 = .ok (.iconst 2, 1) := by decide +kernel
theorem dX1_search_42 : decode cX1_search 42 = .ok (.putfield 19, 3) := by decide +kernel
theorem dX1_search_45 : decode cX1_search 45 = .ok (.aload_n 0, 1) := by decide +kernel
theorem dX1_search_46 : decode cX1_search 46 = .ok (.getfield 13, 3) := by decide +kernel
theorem dX1_search_49 : decode cX1_search 49 = .ok (.invokestatic 34, 3) := by decide +kernel
theorem dX1_search_52 : decode cX1_search 52 = .ok (.iload_n 3, 1) := by decide +kernel
theorem dX1_search_53 : decode cX1_search 53 = .ok (.if_icmp .eq 21, 3) := by decide +kernel
theorem dX1_search_56 : decode cX1_search 56 = .ok (.aload_n 0, 1) := by decide +kernel
theorem dX1_search_57 : decode cX1_search 57 = .ok (.aload_n 1, 1) := by decide +kernel
theorem dX1_search_58 : decode cX1_search 58 = .ok (.iload_n 2, 1) := by decide +kernel
theorem dX1_search_59 : decode cX1_search 59 = .ok (.aload_n 0, 1) := by decide +kernel
theorem dX1_search_60 : decode cX1_search 60 = .ok (.getfield 13, 3) := by decide +kernel
theorem dX1_search_63 : decode cX1_search 63 = .ok (.invokestatic 34, 3) := by decide +kernel
theorem dX1_search_66 : decode cX1_search 66 = .ok (.invokevirtual 38, 3) := by decide +kernel
theorem dX1_search_69 : decode cX1_search 69 = .ok (.aload_n 0, 1) := by decide +kernel
theorem dX1_search_70 : decode cX1_search 70 = .ok (.iconst 3, 1) := by decide +kernel
theorem dX1_search_71 : decode cX1_search 71 = .ok (.putfield 19, 3) := by decide +kernel
theorem dX1_search_74 : decode cX1_search 74 = .ok (.return_, 1) := by decide +kernel
theorem dX1_searchCorrected_0 : decode cX1_searchCorrected 0 = .ok (.aload_n 1, 1) := by decide +kernel
theorem dX1_searchCorrected_1 : decode cX1_searchCorrected 1 = .ok (.iconst 0, 1) := by decide +kernel
theorem dX1_searchCorrected_2 : decode cX1_searchCorrected 2 = .ok (.aload_n 1, 1) := by decide +kernel
theorem dX1_searchCorrected_3 : decode cX1_searchCorrected 3 = .ok (.iconst 0, 1) := by decide +kernel
theorem dX1_searchCorrected_4 : decode cX1_searchCorrected 4 = .ok (.iload_n 2, 1) := by decide +kernel
theorem dX1_searchCorrected_5 : decode cX1_searchCorrected 5 = .ok (.invokevirtual 22, 3) := by decide +kernel
theorem dX1_searchCorrected_8 : decode cX1_searchCorrected 8 = .ok (.iload_n 3, 1) := by decide +kernel
theorem dX1_searchCorrected_9 : decode cX1_searchCorrected 9 = .ok (.invokevirtual 42, 3) := by decide +kernel
theorem dX1_searchCorrected_12 : decode cX1_searchCorrected 12 = .ok (.istore 4, 2) := by decide +kernel
theorem dX1_searchCorrected_14 : decode cX1_searchCorrected 14 = .ok (.aload_n 1, 1) := by decide +kernel
theorem dX1_searchCorrected_15 : decode cX1_searchCorrected 15 = .ok (.iconst 1, 1) := by decide +kernel
theorem dX1_searchCorrected_16 : decode cX1_searchCorrected 16 = .ok (.aload_n 1, 1) := by decide +kernel
theorem dX1_searchCorrected_17 : decode cX1_searchCorrected 17 = .ok (.iconst 1, 1) := by decide +kernel
theorem dX1_searchCorrected_18 : decode cX1_searchCorrected 18 = .ok (.iload_n 2, 1) := by decide +kernel
theorem dX1_searchCorrected_19 : decode cX1_searchCorrected 19 = .ok (.invokevirtual 22, 3) := by decide +kernel
theorem dX1_searchCorrected_22 : decode cX1_searchCorrected 22 = .ok (.iload_n 3, 1) := by decide +kernel
theorem dX1_searchCorrected_23 : decode cX1_searchCorrected 23 = .ok (.invokevirtual 42, 3) := by decide +kernel
theorem dX1_searchCorrected_26 : decode cX1_searchCorrected 26 = .ok (.istore 5, 2) := by decide +kernel
theorem dX1_searchCorrected_28 : decode cX1_searchCorrected 28 = .ok (.aload_n 1, 1) := by decide +kernel
theorem dX1_searchCorrected_29 : decode cX1_searchCorrected 29 = .ok (.iconst 2, 1) := by decide +kernel
theorem dX1_searchCorrected_30 : decode cX1_searchCorrected 30 = .ok (.aload_n 1, 1) := by decide +kernel
theorem dX1_searchCorrected_31 : decode cX1_searchCorrected 31 = .ok (.iconst 2, 1) := by decide +kernel
theorem dX1_searchCorrected_32 : decode cX1_searchCorrected 32 = .ok (.iload_n 2, 1) := by decide +kernel
theorem dX1_searchCorrected_33 : decode cX1_searchCorrected 33 = .ok (.invokevirtual 22, 3) := by decide +kernel
theorem dX1_searchCorrected_36 : decode cX1_searchCorrected 36 = .ok (.iload_n 3, 1) := by decide +kernel
theorem dX1_searchCorrected_37 : decode cX1_searchCorrected 37 = .ok (.invokevirtual 42, 3) := by decide +kernel
theorem dX1_searchCorrected_40 : decode cX1_searchCorrected 40 = .ok (.istore 6, 2) := by decide +kernel
theorem dX1_searchCorrected_42 : decode cX1_searchCorrected 42 = .ok (.aload_n 0, 1) := by decide +kernel
theorem dX1_searchCorrected_43 : decode cX1_searchCorrected 43 = .ok (.iload 4, 2) := by decide +kernel
theorem dX1_searchCorrected_45 : decode cX1_searchCorrected 45 = .ok (.iload 5, 2) := by decide +kernel
theorem dX1_searchCorrected_47 : decode cX1_searchCorrected 47 = .ok (.iload 6, 2) := by decide +kernel
theorem dX1_searchCorrected_49 : decode cX1_searchCorrected 49 = .ok (.invokestatic 28, 3) := by decide +kernel
theorem dX1_searchCorrected_52 : decode cX1_searchCorrected 52 = .ok (.putfield 13, 3) := by decide +kernel
theorem dX1_searchCorrected_55 : decode cX1_searchCorrected 55 = .ok (.aload_n 0, 1) := by decide +kernel
theorem dX1_searchCorrected_56 : decode cX1_searchCorrected 56 = .ok (.aload_n 0, 1) := by decide +kernel
theorem dX1_searchCorrected_57 : decode cX1_searchCorrected 57 = .ok (.getfield 13, 3) := by decide +kernel
theorem dX1_searchCorrected_60 : decode cX1_searchCorrected 60 = .ok (.iload 4, 2) := by decide +kernel
theorem dX1_searchCorrected_62 : decode cX1_searchCorrected 62 = .ok (.iload 5, 2) := by decide +kernel
theorem dX1_searchCorrected_64 : decode cX1_searchCorrected 64 = .ok (.iload 6, 2) := by decide +kernel
theorem dX1_searchCorrected_66 : decode cX1_searchCorrected 66 = .ok (.invokestatic 45, 3) := by decide +kernel
theorem dX1_searchCorrected_69 : decode cX1_searchCorrected 69 = .ok (.putfield 16, 3) := by decide +kernel
theorem dX1_searchCorrected_72 : decode cX1_searchCorrected 72 = .ok (.return_, 1) := by decide +kernel
theorem dX2_init_0 : decode cX2_init 0 = .ok (.aload_n 0, 1) := by decide +kernel
theorem dX2_init_1 : decode cX2_init 1 = .ok (.invokespecial 3, 3) := by decide +kernel
theorem dX2_init_4 : decode cX2_init 4 = .ok (.aload_n 0, 1) := by decide +kernel
theorem dX2_init_5 : decode cX2_init 5 = .ok (.iconst 4, 1) := by decide +kernel
theorem dX2_init_6 : decode cX2_init 6 = .ok (.anewarray 9, 3) := by decide +kernel
theorem dX2_init_9 : decode cX2_init 9 = .ok (.dup, 1) := by decide +kernel
theorem dX2_init_10 : decode cX2_init 10 = .ok (.iconst 0, 1) := by decide +kernel
theorem dX2_init_11 : decode cX2_init 11 = .ok (.new 9, 3) := by decide +kernel
theorem dX2_init_14 : decode cX2_init 14 = .ok (.dup, 1) := by decide +kernel
theorem dX2_init_15 : decode cX2_init 15 = .ok (.invokespecial 11, 3) := by decide +kernel
theorem dX2_init_18 : decode cX2_init 18 = .ok (.aastore, 1) := by decide +kernel
theorem dX2_init_19 : decode cX2_init 19 = .ok (.dup, 1) := by decide +kernel
theorem dX2_init_20 : decode cX2_init 20 = .ok (.iconst 1, 1) := by decide +kernel
theorem dX2_init_21 : decode cX2_init 21 = .ok (.new 9, 3) := by decide +kernel
theorem dX2_init_24 : decode cX2_init 24 = .ok (.dup, 1) := by decide +kernel
theorem dX2_init_25 : decode cX2_init 25 = .ok (.invokespecial 11, 3) := by decide +kernel
theorem dX2_init_28 : decode cX2_init 28 = .ok (.aastore, 1) := by decide +kernel
theorem dX2_init_29 : decode cX2_init 29 = .ok (.dup, 1) := by decide +kernel
theorem dX2_init_30 : decode cX2_init 30 = .ok (.iconst 2, 1) := by decide +kernel
theorem dX2_init_31 : decode cX2_init 31 = .ok (.new 9, 3) := by decide +kernel
theorem dX2_init_34 : decode cX2_init 34 = .ok (.dup, 1) := by decide +kernel
theorem dX2_init_35 : decode cX2_init 35 = .ok (.invokespecial 11, 3) := by decide +kernel
theorem dX2_init_38 : decode cX2_init 38 = .ok (.aastore, 1) := by decide +kernel
theorem dX2_init_39 : decode cX2_init 39 = .ok (.dup, 1) := by decide +kernel
theorem dX2_init_40 : decode cX2_init 40 = .ok (.iconst 3, 1) := by decide +kernel
theorem dX2_init_41 : decode cX2_init 41 = .ok (.new 9, 3) := by decide +kernel
theorem dX2_init_44 : decode cX2_init 44 = .ok (.dup, 1) := by decide +kernel
theorem dX2_init_45 : decode cX2_init 45 = .ok (.invokespecial 11, 3) := by decide +kernel
theorem dX2_init_48 : decode cX2_init 48 = .ok (.aastore, 1) := by decide +kernel
theorem dX2_init_49 : decode cX2_init 49 = .ok (.putfield 12, 3) := by decide +kernel
theorem dX2_init_52 : decode cX2_init 52 = .ok (.aload_n 0, 1) := by decide +kernel
theorem dX2_init_53 : decode cX2_init 53 = .ok (.iconst 0, 1) := by decide +kernel
theorem dX2_init_54 : decode cX2_init 54 = .ok (.putfield 18, 3) := by decide +kernel
theorem dX2_init_57 : decode cX2_init 57 = .ok (.aload_n 0, 1) := by decide +kernel
theorem dX2_init_58 : decode cX2_init 58 = .ok (.iconst 0, 1) := by decide +kernel
theorem dX2_init_59 : decode cX2_init 59 = .ok (.putfield 22, 3) := by decide +kernel
theorem dX2_init_62 : decode cX2_init 62 = .ok (.return_, 1) := by decide +kernel
theorem dX2_slot_0 : decode cX2_slot 0 = .ok (.aload_n 0, 1) := by decide +kernel
theorem dX2_slot_1 : decode cX2_slot 1 = .ok (.getfield 18, 3) := by decide +kernel
theorem dX2_slot_4 : decode cX2_slot 4 = .ok (.iload_n 1, 1) := by decide +kernel
theorem dX2_slot_5 : decode cX2_slot 5 = .ok (.iadd, 1) := by decide +kernel
theorem dX2_slot_6 : decode cX2_slot 6 = .ok (.iconst 4, 1) := by decide +kernel
theorem dX2_slot_7 : decode cX2_slot 7 = .ok (.invokestatic 25, 3) := by decide +kernel
theorem dX2_slot_10 : decode cX2_slot 10 = .ok (.istore_n 2, 1) := by decide +kernel
theorem dX2_slot_11 : decode cX2_slot 11 = .ok (.iload_n 2, 1) := by decide +kernel
theorem dX2_slot_12 : decode cX2_slot 12 = .ok (.ifCond .lt 21, 3) := by decide +kernel
theorem dX2_slot_15 : decode cX2_slot 15 = .ok (.iload_n 2, 1) := by decide +kernel
theorem dX2_slot_16 : decode cX2_slot 16 = .ok (.aload_n 0, 1) := by decide +kernel
theorem dX2_slot_17 : decode cX2_slot 17 = .ok (.getfield 12, 3) := by decide +kernel
theorem dX2_slot_20 : decode cX2_slot 20 = .ok (.arraylength, 1) := by decide +kernel
theorem dX2_slot_21 : decode cX2_slot 21 = .ok (.if_icmp .ge 12, 3) := by decide +kernel
theorem dX2_slot_24 : decode cX2_slot 24 = .ok (.aload_n 0, 1) := by decide +kernel
theorem dX2_slot_25 : decode cX2_slot 25 = .ok (.getfield 12, 3) := by decide +kernel
theorem dX2_slot_28 : decode cX2_slot 28 = .ok (.iload_n 2, 1) := by decide +kernel
theorem dX2_slot_29 : decode cX2_slot 29 = .ok (.aaload, 1) := by decide +kernel
theorem dX2_slot_30 : decode cX2_slot 30 = .ok (.goto 4, 3) := by decide +kernel
theorem dX2_slot_33 : decode cX2_slot 33 = .ok (.aconst_null, 1) := by decide +kernel
theorem dX2_slot_34 : decode cX2_slot 34 = .ok (.areturn, 1) := by decide +kernel
theorem dX2_keep_0 : decode cX2_keep 0 = .ok (.aload_n 0, 1) := by decide +kernel
theorem dX2_keep_1 : decode cX2_keep 1 = .ok (.getfield 22, 3) := by decide +kernel
theorem dX2_keep_4 : decode cX2_keep 4 = .ok (.iconst 4, 1) := by decide +kernel
theorem dX2_keep_5 : decode cX2_keep 5 = .ok (.if_icmp .ne 27, 3) := by decide +kernel
theorem dX2_keep_8 : decode cX2_keep 8 = .ok (.aload_n 0, 1) := by decide +kernel
theorem dX2_keep_9 : decode cX2_keep 9 = .ok (.aload_n 0, 1) := by decide +kernel
theorem dX2_keep_10 : decode cX2_keep 10 = .ok (.getfield 18, 3) := by decide +kernel
theorem dX2_keep_13 : decode cX2_keep 13 = .ok (.iconst 1, 1) := by decide +kernel
theorem dX2_keep_14 : decode cX2_keep 14 = .ok (.iadd, 1) := by decide +kernel
theorem dX2_keep_15 : decode cX2_keep 15 = .ok (.iconst 4, 1) := by decide +kernel
theorem dX2_keep_16 : decode cX2_keep 16 = .ok (.invokestatic 25, 3) := by decide +kernel
theorem dX2_keep_19 : decode cX2_keep 19 = .ok (.putfield 18, 3) := by decide +kernel
theorem dX2_keep_22 : decode cX2_keep 22 = .ok (.aload_n 0, 1) := by decide +kernel
theorem dX2_keep_23 : decode cX2_keep 23 = .ok (.dup, 1) := by decide +kernel
theorem dX2_keep_24 : decode cX2_keep 24 = .ok (.getfield 22, 3) := by decide +kernel
theorem dX2_keep_27 : decode cX2_keep 27 = .ok (.iconst 1, 1) := by decide +kernel
theorem dX2_keep_28 : decode cX2_keep 28 = .ok (.isub, 1) := by decide +kernel
theorem dX2_keep_29 : decode cX2_keep 29 = .ok (.putfield 22, 3) := by decide +kernel
theorem dX2_keep_32 : decode cX2_keep 32 = .ok (.aload_n 0, 1) := by decide +kernel
theorem dX2_keep_33 : decode cX2_keep 33 = .ok (.aload_n 0, 1) := by decide +kernel
theorem dX2_keep_34 : decode cX2_keep 34 = .ok (.getfield 22, 3) := by decide +kernel
theorem dX2_keep_37 : decode cX2_keep 37 = .ok (.invokevirtual 29, 3) := by decide +kernel
theorem dX2_keep_40 : decode cX2_keep 40 = .ok (.astore_n 2, 1) := by decide +kernel
theorem dX2_keep_41 : decode cX2_keep 41 = .ok (.aload_n 2, 1) := by decide +kernel
theorem dX2_keep_42 : decode cX2_keep 42 = .ok (.ifnull 18, 3) := by decide +kernel
theorem dX2_keep_45 : decode cX2_keep 45 = .ok (.aload_n 2, 1) := by decide +kernel
theorem dX2_keep_46 : decode cX2_keep 46 = .ok (.aload_n 1, 1) := by decide +kernel
theorem dX2_keep_47 : decode cX2_keep 47 = .ok (.invokevirtual 33, 3) := by decide +kernel
theorem dX2_keep_50 : decode cX2_keep 50 = .ok (.aload_n 0, 1) := by decide +kernel
theorem dX2_keep_51 : decode cX2_keep 51 = .ok (.dup, 1) := by decide +kernel
theorem dX2_keep_52 : decode cX2_keep 52 = .ok (.getfield 22, 3) := by decide +kernel
theorem dX2_keep_55 : decode cX2_keep 55 = .ok (.iconst 1, 1) := by decide +kernel
theorem dX2_keep_56 : decode cX2_keep 56 = .ok (.iadd, 1) := by decide +kernel
theorem dX2_keep_57 : decode cX2_keep 57 = .ok (.putfield 22, 3) := by decide +kernel
theorem dX2_keep_60 : decode cX2_keep 60 = .ok (.return_, 1) := by decide +kernel
theorem dX2_restoreLatest_0 : decode cX2_restoreLatest 0 = .ok (.aload_n 0, 1) := by decide +kernel
theorem dX2_restoreLatest_1 : decode cX2_restoreLatest 1 = .ok (.aload_n 0, 1) := by decide +kernel
theorem dX2_restoreLatest_2 : decode cX2_restoreLatest 2 = .ok (.getfield 22, 3) := by decide +kernel
theorem dX2_restoreLatest_5 : decode cX2_restoreLatest 5 = .ok (.iconst 1, 1) := by decide +kernel
theorem dX2_restoreLatest_6 : decode cX2_restoreLatest 6 = .ok (.isub, 1) := by decide +kernel
theorem dX2_restoreLatest_7 : decode cX2_restoreLatest 7 = .ok (.invokevirtual 29, 3) := by decide +kernel
theorem dX2_restoreLatest_10 : decode cX2_restoreLatest 10 = .ok (.astore_n 2, 1) := by decide +kernel
theorem dX2_restoreLatest_11 : decode cX2_restoreLatest 11 = .ok (.aload_n 2, 1) := by decide +kernel
theorem dX2_restoreLatest_12 : decode cX2_restoreLatest 12 = .ok (.ifnull 18, 3) := by decide +kernel
theorem dX2_restoreLatest_15 : decode cX2_restoreLatest 15 = .ok (.aload_n 1, 1) := by decide +kernel
theorem dX2_restoreLatest_16 : decode cX2_restoreLatest 16 = .ok (.aload_n 2, 1) := by decide +kernel
theorem dX2_restoreLatest_17 : decode cX2_restoreLatest 17 = .ok (.invokevirtual 33, 3) := by decide +kernel
theorem dX2_restoreLatest_20 : decode cX2_restoreLatest 20 = .ok (.aload_n 0, 1) := by decide +kernel
theorem dX2_restoreLatest_21 : decode cX2_restoreLatest 21 = .ok (.dup, 1) := by decide +kernel
theorem dX2_restoreLatest_22 : decode cX2_restoreLatest 22 = .ok (.getfield 22, 3) := by decide +kernel
theorem dX2_restoreLatest_25 : decode cX2_restoreLatest 25 = .ok (.iconst 1, 1) := by decide +kernel
theorem dX2_restoreLatest_26 : decode cX2_restoreLatest 26 = .ok (.isub, 1) := by decide +kernel
theorem dX2_restoreLatest_27 : decode cX2_restoreLatest 27 = .ok (.putfield 22, 3) := by decide +kernel
theorem dX2_restoreLatest_30 : decode cX2_restoreLatest 30 = .ok (.return_, 1) := by decide +kernel
theorem dX3_init_0 : decode cX3_init 0 = .ok (.aload_n 0, 1) := by decide +kernel
theorem dX3_init_1 : decode cX3_init 1 = .ok (.invokespecial 3, 3) := by decide +kernel
theorem dX3_init_4 : decode cX3_init 4 = .ok (.aload_n 0, 1) := by decide +kernel
theorem dX3_init_5 : decode cX3_init 5 = .ok (.iconst 0, 1) := by decide +kernel
theorem dX3_init_6 : decode cX3_init 6 = .ok (.putfield 9, 3) := by decide +kernel
theorem dX3_init_9 : decode cX3_init 9 = .ok (.aload_n 0, 1) := by decide +kernel
theorem dX3_init_10 : decode cX3_init 10 = .ok (.iconst 0, 1) := by decide +kernel
theorem dX3_init_11 : decode cX3_init 11 = .ok (.putfield 15, 3) := by decide +kernel
theorem dX3_init_14 : decode cX3_init 14 = .ok (.aload_n 0, 1) := by decide +kernel
theorem dX3_init_15 : decode cX3_init 15 = .ok (.iconst 1, 1) := by decide +kernel
theorem dX3_init_16 : decode cX3_init 16 = .ok (.putfield 18, 3) := by decide +kernel
theorem dX3_init_19 : decode cX3_init 19 = .ok (.aload_n 0, 1) := by decide +kernel
theorem dX3_init_20 : decode cX3_init 20 = .ok (.sipush 200, 3) := by decide +kernel
theorem dX3_init_23 : decode cX3_init 23 = .ok (.putfield 22, 3) := by decide +kernel
theorem dX3_init_26 : decode cX3_init 26 = .ok (.aload_n 0, 1) := by decide +kernel
theorem dX3_init_27 : decode cX3_init 27 = .ok (.iconst 0, 1) := by decide +kernel
theorem dX3_init_28 : decode cX3_init 28 = .ok (.putfield 25, 3) := by decide +kernel
theorem dX3_init_31 : decode cX3_init 31 = .ok (.aload_n 0, 1) := by decide +kernel
theorem dX3_init_32 : decode cX3_init 32 = .ok (.iconst (-1), 1) := by decide +kernel
theorem dX3_init_33 : decode cX3_init 33 = .ok (.putfield 28, 3) := by decide +kernel
theorem dX3_init_36 : decode cX3_init 36 = .ok (.aload_n 0, 1) := by decide +kernel
theorem dX3_init_37 : decode cX3_init 37 = .ok (.iconst 0, 1) := by decide +kernel
theorem dX3_init_38 : decode cX3_init 38 = .ok (.putfield 31, 3) := by decide +kernel
theorem dX3_init_41 : decode cX3_init 41 = .ok (.aload_n 0, 1) := by decide +kernel
theorem dX3_init_42 : decode cX3_init 42 = .ok (.iconst 4, 1) := by decide +kernel
theorem dX3_init_43 : decode cX3_init 43 = .ok (.newarray .int, 2) := by decide +kernel
theorem dX3_init_45 : decode cX3_init 45 = .ok (.dup, 1) := by decide +kernel
theorem dX3_init_46 : decode cX3_init 46 = .ok (.iconst 0, 1) := by decide +kernel
theorem dX3_init_47 : decode cX3_init 47 = .ok (.iconst 5, 1) := by decide +kernel
theorem dX3_init_48 : decode cX3_init 48 = .ok (.iastore, 1) := by decide +kernel
theorem dX3_init_49 : decode cX3_init 49 = .ok (.dup, 1) := by decide +kernel
theorem dX3_init_50 : decode cX3_init 50 = .ok (.iconst 1, 1) := by decide +kernel
theorem dX3_init_51 : decode cX3_init 51 = .ok (.iconst 2, 1) := by decide +kernel
theorem dX3_init_52 : decode cX3_init 52 = .ok (.iastore, 1) := by decide +kernel
theorem dX3_init_53 : decode cX3_init 53 = .ok (.dup, 1) := by decide +kernel
theorem dX3_init_54 : decode cX3_init 54 = .ok (.iconst 2, 1) := by decide +kernel
theorem dX3_init_55 : decode cX3_init 55 = .ok (.sipush 500, 3) := by decide +kernel
theorem dX3_init_58 : decode cX3_init 58 = .ok (.iastore, 1) := by decide +kernel
theorem dX3_init_59 : decode cX3_init 59 = .ok (.dup, 1) := by decide +kernel
theorem dX3_init_60 : decode cX3_init 60 = .ok (.iconst 3, 1) := by decide +kernel
theorem dX3_init_61 : decode cX3_init 61 = .ok (.iconst 0, 1) := by decide +kernel
theorem dX3_init_62 : decode cX3_init 62 = .ok (.iastore, 1) := by decide +kernel
theorem dX3_init_63 : decode cX3_init 63 = .ok (.putfield 34, 3) := by decide +kernel
theorem dX3_init_66 : decode cX3_init 66 = .ok (.aload_n 0, 1) := by decide +kernel
theorem dX3_init_67 : decode cX3_init 67 = .ok (.bipush 24, 2) := by decide +kernel
theorem dX3_init_69 : decode cX3_init 69 = .ok (.newarray .int, 2) := by decide +kernel
theorem dX3_init_71 : decode cX3_init 71 = .ok (.putfield 38, 3) := by decide +kernel
theorem dX3_init_74 : decode cX3_init 74 = .ok (.aload_n 0, 1) := by decide +kernel
theorem dX3_init_75 : decode cX3_init 75 = .ok (.iconst 3, 1) := by decide +kernel
theorem dX3_init_76 : decode cX3_init 76 = .ok (.newarray .int, 2) := by decide +kernel
theorem dX3_init_78 : decode cX3_init 78 = .ok (.putfield 41, 3) := by decide +kernel
theorem dX3_init_81 : decode cX3_init 81 = .ok (.aload_n 0, 1) := by decide +kernel
theorem dX3_init_82 : decode cX3_init 82 = .ok (.bipush 24, 2) := by decide +kernel
theorem dX3_init_84 : decode cX3_init 84 = .ok (.newarray .int, 2) := by decide +kernel
theorem dX3_init_86 : decode cX3_init 86 = .ok (.putfield 44, 3) := by decide +kernel
theorem dX3_init_89 : decode cX3_init 89 = .ok (.return_, 1) := by decide +kernel
theorem dX3_copyFrom_0 : decode cX3_copyFrom 0 = .ok (.aload_n 0, 1) := by decide +kernel
theorem dX3_copyFrom_1 : decode cX3_copyFrom 1 = .ok (.aload_n 1, 1) := by decide +kernel
theorem dX3_copyFrom_2 : decode cX3_copyFrom 2 = .ok (.getfield 9, 3) := by decide +kernel
theorem dX3_copyFrom_5 : decode cX3_copyFrom 5 = .ok (.putfield 9, 3) := by decide +kernel
theorem dX3_copyFrom_8 : decode cX3_copyFrom 8 = .ok (.aload_n 0, 1) := by decide +kernel
theorem dX3_copyFrom_9 : decode cX3_copyFrom 9 = .ok (.aload_n 1, 1) := by decide +kernel
theorem dX3_copyFrom_10 : decode cX3_copyFrom 10 = .ok (.getfield 15, 3) := by decide +kernel
theorem dX3_copyFrom_13 : decode cX3_copyFrom 13 = .ok (.putfield 15, 3) := by decide +kernel
theorem dX3_copyFrom_16 : decode cX3_copyFrom 16 = .ok (.aload_n 0, 1) := by decide +kernel
theorem dX3_copyFrom_17 : decode cX3_copyFrom 17 = .ok (.aload_n 1, 1) := by decide +kernel
theorem dX3_copyFrom_18 : decode cX3_copyFrom 18 = .ok (.getfield 18, 3) := by decide +kernel
theorem dX3_copyFrom_21 : decode cX3_copyFrom 21 = .ok (.putfield 18, 3) := by decide +kernel
theorem dX3_copyFrom_24 : decode cX3_copyFrom 24 = .ok (.aload_n 0, 1) := by decide +kernel
theorem dX3_copyFrom_25 : decode cX3_copyFrom 25 = .ok (.aload_n 1, 1) := by decide +kernel
theorem dX3_copyFrom_26 : decode cX3_copyFrom 26 = .ok (.getfield 22, 3) := by decide +kernel
theorem dX3_copyFrom_29 : decode cX3_copyFrom 29 = .ok (.putfield 22, 3) := by decide +kernel
theorem dX3_copyFrom_32 : decode cX3_copyFrom 32 = .ok (.aload_n 0, 1) := by decide +kernel
theorem dX3_copyFrom_33 : decode cX3_copyFrom 33 = .ok (.aload_n 1, 1) := by decide +kernel
theorem dX3_copyFrom_34 : decode cX3_copyFrom 34 = .ok (.getfield 25, 3) := by decide +kernel
theorem dX3_copyFrom_37 : decode cX3_copyFrom 37 = .ok (.putfield 25, 3) := by decide +kernel
theorem dX3_copyFrom_40 : decode cX3_copyFrom 40 = .ok (.aload_n 0, 1) := by decide +kernel
theorem dX3_copyFrom_41 : decode cX3_copyFrom 41 = .ok (.aload_n 1, 1) := by decide +kernel
theorem dX3_copyFrom_42 : decode cX3_copyFrom 42 = .ok (.getfield 28, 3) := by decide +kernel
theorem dX3_copyFrom_45 : decode cX3_copyFrom 45 = .ok (.putfield 28, 3) := by decide +kernel
theorem dX3_copyFrom_48 : decode cX3_copyFrom 48 = .ok (.aload_n 0, 1) := by decide +kernel
theorem dX3_copyFrom_49 : decode cX3_copyFrom 49 = .ok (.aload_n 1, 1) := by decide +kernel
theorem dX3_copyFrom_50 : decode cX3_copyFrom 50 = .ok (.getfield 31, 3) := by decide +kernel
theorem dX3_copyFrom_53 : decode cX3_copyFrom 53 = .ok (.putfield 31, 3) := by decide +kernel
theorem dX3_copyFrom_56 : decode cX3_copyFrom 56 = .ok (.aload_n 1, 1) := by decide +kernel
theorem dX3_copyFrom_57 : decode cX3_copyFrom 57 = .ok (.getfield 34, 3) := by decide +kernel
theorem dX3_copyFrom_60 : decode cX3_copyFrom 60 = .ok (.aload_n 0, 1) := by decide +kernel
theorem dX3_copyFrom_61 : decode cX3_copyFrom 61 = .ok (.getfield 34, 3) := by decide +kernel
theorem dX3_copyFrom_64 : decode cX3_copyFrom 64 = .ok (.invokestatic 47, 3) := by decide +kernel
theorem dX3_copyFrom_67 : decode cX3_copyFrom 67 = .ok (.aload_n 1, 1) := by decide +kernel
theorem dX3_copyFrom_68 : decode cX3_copyFrom 68 = .ok (.getfield 38, 3) := by decide +kernel
theorem dX3_copyFrom_71 : decode cX3_copyFrom 71 = .ok (.aload_n 0, 1) := by decide +kernel
theorem dX3_copyFrom_72 : decode cX3_copyFrom 72 = .ok (.getfield 38, 3) := by decide +kernel
theorem dX3_copyFrom_75 : decode cX3_copyFrom 75 = .ok (.invokestatic 47, 3) := by decide +kernel
theorem dX3_copyFrom_78 : decode cX3_copyFrom 78 = .ok (.aload_n 1, 1) := by decide +kernel
theorem dX3_copyFrom_79 : decode cX3_copyFrom 79 = .ok (.getfield 41, 3) := by decide +kernel
theorem dX3_copyFrom_82 : decode cX3_copyFrom 82 = .ok (.aload_n 0, 1) := by decide +kernel
theorem dX3_copyFrom_83 : decode cX3_copyFrom 83 = .ok (.getfield 41, 3) := by decide +kernel
theorem dX3_copyFrom_86 : decode cX3_copyFrom 86 = .ok (.invokestatic 47, 3) := by decide +kernel
theorem dX3_copyFrom_89 : decode cX3_copyFrom 89 = .ok (.aload_n 1, 1) := by decide +kernel
theorem dX3_copyFrom_90 : decode cX3_copyFrom 90 = .ok (.getfield 44, 3) := by decide +kernel
theorem dX3_copyFrom_93 : decode cX3_copyFrom 93 = .ok (.aload_n 0, 1) := by decide +kernel
theorem dX3_copyFrom_94 : decode cX3_copyFrom 94 = .ok (.getfield 44, 3) := by decide +kernel
theorem dX3_copyFrom_97 : decode cX3_copyFrom 97 = .ok (.invokestatic 47, 3) := by decide +kernel
theorem dX3_copyFrom_100 : decode cX3_copyFrom 100 = .ok (.return_, 1) := by decide +kernel
theorem dX3_angle_0 : decode cX3_angle 0 = .ok (.aload_n 0, 1) := by decide +kernel
theorem dX3_angle_1 : decode cX3_angle 1 = .ok (.getfield 9, 3) := by decide +kernel
theorem dX3_angle_4 : decode cX3_angle 4 = .ok (.sipush 4080, 3) := by decide +kernel
theorem dX3_angle_7 : decode cX3_angle 7 = .ok (.invokestatic 51, 3) := by decide +kernel
theorem dX3_angle_10 : decode cX3_angle 10 = .ok (.ireturn, 1) := by decide +kernel
theorem dX3_coarse_0 : decode cX3_coarse 0 = .ok (.aload_n 0, 1) := by decide +kernel
theorem dX3_coarse_1 : decode cX3_coarse 1 = .ok (.invokevirtual 55, 3) := by decide +kernel
theorem dX3_coarse_4 : decode cX3_coarse 4 = .ok (.bipush 64, 2) := by decide +kernel
theorem dX3_coarse_6 : decode cX3_coarse 6 = .ok (.imul, 1) := by decide +kernel
theorem dX3_coarse_7 : decode cX3_coarse 7 = .ok (.sipush 4080, 3) := by decide +kernel
theorem dX3_coarse_10 : decode cX3_coarse 10 = .ok (.idiv, 1) := by decide +kernel
theorem dX3_coarse_11 : decode cX3_coarse 11 = .ok (.istore_n 1, 1) := by decide +kernel
theorem dX3_coarse_12 : decode cX3_coarse 12 = .ok (.iload_n 1, 1) := by decide +kernel
theorem dX3_coarse_13 : decode cX3_coarse 13 = .ok (.aload_n 0, 1) := by decide +kernel
theorem dX3_coarse_14 : decode cX3_coarse 14 = .ok (.getfield 34, 3) := by decide +kernel
theorem dX3_coarse_17 : decode cX3_coarse 17 = .ok (.iconst 3, 1) := by decide +kernel
theorem dX3_coarse_18 : decode cX3_coarse 18 = .ok (.invokestatic 59, 3) := by decide +kernel
theorem dX3_coarse_21 : decode cX3_coarse 21 = .ok (.iadd, 1) := by decide +kernel
theorem dX3_coarse_22 : decode cX3_coarse 22 = .ok (.bipush 64, 2) := by decide +kernel
theorem dX3_coarse_24 : decode cX3_coarse 24 = .ok (.invokestatic 51, 3) := by decide +kernel
theorem dX3_coarse_27 : decode cX3_coarse 27 = .ok (.ireturn, 1) := by decide +kernel
theorem dX3_readingAt_0 : decode cX3_readingAt 0 = .ok (.aload_n 0, 1) := by decide +kernel
theorem dX3_readingAt_1 : decode cX3_readingAt 1 = .ok (.getfield 38, 3) := by decide +kernel
theorem dX3_readingAt_4 : decode cX3_readingAt 4 = .ok (.iload_n 1, 1) := by decide +kernel
theorem dX3_readingAt_5 : decode cX3_readingAt 5 = .ok (.iload_n 2, 1) := by decide +kernel
theorem dX3_readingAt_6 : decode cX3_readingAt 6 = .ok (.invokestatic 63, 3) := by decide +kernel
theorem dX3_readingAt_9 : decode cX3_readingAt 9 = .ok (.invokestatic 67, 3) := by decide +kernel
theorem dX3_readingAt_12 : decode cX3_readingAt 12 = .ok (.invokestatic 59, 3) := by decide +kernel
theorem dX3_readingAt_15 : decode cX3_readingAt 15 = .ok (.istore_n 3, 1) := by decide +kernel
theorem dX3_readingAt_16 : decode cX3_readingAt 16 = .ok (.iload_n 2, 1) := by decide +kernel
theorem dX3_readingAt_17 : decode cX3_readingAt 17 = .ok (.iload_n 3, 1) := by decide +kernel
theorem dX3_readingAt_18 : decode cX3_readingAt 18 = .ok (.iadd, 1) := by decide +kernel
theorem dX3_readingAt_19 : decode cX3_readingAt 19 = .ok (.aload_n 0, 1) := by decide +kernel
theorem dX3_readingAt_20 : decode cX3_readingAt 20 = .ok (.getfield 41, 3) := by decide +kernel
theorem dX3_readingAt_23 : decode cX3_readingAt 23 = .ok (.iload_n 1, 1) := by decide +kernel
theorem dX3_readingAt_24 : decode cX3_readingAt 24 = .ok (.invokestatic 59, 3) := by decide +kernel
theorem dX3_readingAt_27 : decode cX3_readingAt 27 = .ok (.iadd, 1) := by decide +kernel
theorem dX3_readingAt_28 : decode cX3_readingAt 28 = .ok (.getstatic 70, 3) := by decide +kernel
theorem dX3_readingAt_31 : decode cX3_readingAt 31 = .ok (.iload_n 1, 1) := by decide +kernel
theorem dX3_readingAt_32 : decode cX3_readingAt 32 = .ok (.invokestatic 59, 3) := by decide +kernel
theorem dX3_readingAt_35 : decode cX3_readingAt 35 = .ok (.invokestatic 51, 3) := by decide +kernel
theorem dX3_readingAt_38 : decode cX3_readingAt 38 = .ok (.ireturn, 1) := by decide +kernel
theorem dX3_excess_0 : decode cX3_excess 0 = .ok (.getstatic 70, 3) := by decide +kernel
theorem dX3_excess_3 : decode cX3_excess 3 = .ok (.iload_n 1, 1) := by decide +kernel
theorem dX3_excess_4 : decode cX3_excess 4 = .ok (.invokestatic 59, 3) := by decide +kernel
theorem dX3_excess_7 : decode cX3_excess 7 = .ok (.istore_n 2, 1) := by decide +kernel
theorem dX3_excess_8 : decode cX3_excess 8 = .ok (.aload_n 0, 1) := by decide +kernel
theorem dX3_excess_9 : decode cX3_excess 9 = .ok (.iload_n 1, 1) := by decide +kernel
theorem dX3_excess_10 : decode cX3_excess 10 = .ok (.aload_n 0, 1) := by decide +kernel
theorem dX3_excess_11 : decode cX3_excess 11 = .ok (.invokevirtual 55, 3) := by decide +kernel
theorem dX3_excess_14 : decode cX3_excess 14 = .ok (.invokevirtual 73, 3) := by decide +kernel
theorem dX3_excess_17 : decode cX3_excess 17 = .ok (.aload_n 0, 1) := by decide +kernel
theorem dX3_excess_18 : decode cX3_excess 18 = .ok (.invokevirtual 55, 3) := by decide +kernel
theorem dX3_excess_21 : decode cX3_excess 21 = .ok (.isub, 1) := by decide +kernel
theorem dX3_excess_22 : decode cX3_excess 22 = .ok (.iload_n 2, 1) := by decide +kernel
theorem dX3_excess_23 : decode cX3_excess 23 = .ok (.invokestatic 51, 3) := by decide +kernel
theorem dX3_excess_26 : decode cX3_excess 26 = .ok (.istore_n 3, 1) := by decide +kernel
theorem dX3_excess_27 : decode cX3_excess 27 = .ok (.iload_n 3, 1) := by decide +kernel
theorem dX3_excess_28 : decode cX3_excess 28 = .ok (.iload_n 2, 1) := by decide +kernel
theorem dX3_excess_29 : decode cX3_excess 29 = .ok (.iconst 2, 1) := by decide +kernel
theorem dX3_excess_30 : decode cX3_excess 30 = .ok (.idiv, 1) := by decide +kernel
theorem dX3_excess_31 : decode cX3_excess 31 = .ok (.if_icmp .le 9, 3) := by decide +kernel
theorem dX3_excess_34 : decode cX3_excess 34 = .ok (.iload_n 3, 1) := by decide +kernel
theorem dX3_excess_35 : decode cX3_excess 35 = .ok (.iload_n 2, 1) := by decide +kernel
theorem dX3_excess_36 : decode cX3_excess 36 = .ok (.isub, 1) := by decide +kernel
theorem dX3_excess_37 : decode cX3_excess 37 = .ok (.goto 4, 3) := by decide +kernel
theorem dX3_excess_40 : decode cX3_excess 40 = .ok (.iload_n 3, 1) := by decide +kernel
theorem dX3_excess_41 : decode cX3_excess 41 = .ok (.ireturn, 1) := by decide +kernel
theorem dX3_corrected_0 : decode cX3_corrected 0 = .ok (.iload_n 2, 1) := by decide +kernel
theorem dX3_corrected_1 : decode cX3_corrected 1 = .ok (.aload_n 0, 1) := by decide +kernel
theorem dX3_corrected_2 : decode cX3_corrected 2 = .ok (.getfield 44, 3) := by decide +kernel
theorem dX3_corrected_5 : decode cX3_corrected 5 = .ok (.iload_n 1, 1) := by decide +kernel
theorem dX3_corrected_6 : decode cX3_corrected 6 = .ok (.iload_n 3, 1) := by decide +kernel
theorem dX3_corrected_7 : decode cX3_corrected 7 = .ok (.invokestatic 67, 3) := by decide +kernel
theorem dX3_corrected_10 : decode cX3_corrected 10 = .ok (.invokestatic 59, 3) := by decide +kernel
theorem dX3_corrected_13 : decode cX3_corrected 13 = .ok (.isub, 1) := by decide +kernel
theorem dX3_corrected_14 : decode cX3_corrected 14 = .ok (.getstatic 70, 3) := by decide +kernel
theorem dX3_corrected_17 : decode cX3_corrected 17 = .ok (.iload_n 1, 1) := by decide +kernel
theorem dX3_corrected_18 : decode cX3_corrected 18 = .ok (.invokestatic 59, 3) := by decide +kernel
theorem dX3_corrected_21 : decode cX3_corrected 21 = .ok (.invokestatic 51, 3) := by decide +kernel
theorem dX3_corrected_24 : decode cX3_corrected 24 = .ok (.ireturn, 1) := by decide +kernel
theorem dX3_correctionsInUse_0 : decode cX3_correctionsInUse 0 = .ok (.iconst 0, 1) := by decide +kernel
theorem dX3_correctionsInUse_1 : decode cX3_correctionsInUse 1 = .ok (.istore_n 1, 1) := by decide +kernel
theorem dX3_correctionsInUse_2 : decode cX3_correctionsInUse 2 = .ok (.iconst 0, 1) := by decide +kernel
theorem dX3_correctionsInUse_3 : decode cX3_correctionsInUse 3 = .ok (.istore_n 2, 1) := by decide +kernel
theorem dX3_correctionsInUse_4 : decode cX3_correctionsInUse 4 = .ok (.iload_n 2, 1) := by decide +kernel
theorem dX3_correctionsInUse_5 : decode cX3_correctionsInUse 5 = .ok (.bipush 24, 2) := by decide +kernel
theorem dX3_correctionsInUse_7 : decode cX3_correctionsInUse 7 = .ok (.if_icmp .ge 23, 3) := by decide +kernel
theorem dX3_correctionsInUse_10 : decode cX3_correctionsInUse 10 = .ok (.aload_n 0, 1) := by decide +kernel
theorem dX3_correctionsInUse_11 : decode cX3_correctionsInUse 11 = .ok (.getfield 44, 3) := by decide +kernel
theorem dX3_correctionsInUse_14 : decode cX3_correctionsInUse 14 = .ok (.iload_n 2, 1) := by decide +kernel
theorem dX3_correctionsInUse_15 : decode cX3_correctionsInUse 15 = .ok (.invokestatic 59, 3) := by decide +kernel
theorem dX3_correctionsInUse_18 : decode cX3_correctionsInUse 18 = .ok (.ifCond .eq 6, 3) := by decide +kernel
theorem dX3_correctionsInUse_21 : decode cX3_correctionsInUse 21 = .ok (.iinc 1 1, 3) := by decide +kernel
theorem dX3_correctionsInUse_24 : decode cX3_correctionsInUse 24 = .ok (.iinc 2 1, 3) := by decide +kernel
theorem dX3_correctionsInUse_27 : decode cX3_correctionsInUse 27 = .ok (.goto (-23), 3) := by decide +kernel
theorem dX3_correctionsInUse_30 : decode cX3_correctionsInUse 30 = .ok (.iload_n 1, 1) := by decide +kernel
theorem dX3_correctionsInUse_31 : decode cX3_correctionsInUse 31 = .ok (.ireturn, 1) := by decide +kernel
theorem dX3_isPoor_0 : decode cX3_isPoor 0 = .ok (.iconst 0, 1) := by decide +kernel
theorem dX3_isPoor_1 : decode cX3_isPoor 1 = .ok (.istore_n 2, 1) := by decide +kernel
theorem dX3_isPoor_2 : decode cX3_isPoor 2 = .ok (.iload_n 2, 1) := by decide +kernel
theorem dX3_isPoor_3 : decode cX3_isPoor 3 = .ok (.iconst 3, 1) := by decide +kernel
theorem dX3_isPoor_4 : decode cX3_isPoor 4 = .ok (.if_icmp .ge 61, 3) := by decide +kernel
theorem dX3_isPoor_7 : decode cX3_isPoor 7 = .ok (.iload_n 2, 1) := by decide +kernel
theorem dX3_isPoor_8 : decode cX3_isPoor 8 = .ok (.iload_n 1, 1) := by decide +kernel
theorem dX3_isPoor_9 : decode cX3_isPoor 9 = .ok (.invokestatic 67, 3) := by decide +kernel
theorem dX3_isPoor_12 : decode cX3_isPoor 12 = .ok (.istore_n 3, 1) := by decide +kernel
theorem dX3_isPoor_13 : decode cX3_isPoor 13 = .ok (.aload_n 0, 1) := by decide +kernel
theorem dX3_isPoor_14 : decode cX3_isPoor 14 = .ok (.getfield 38, 3) := by decide +kernel
theorem dX3_isPoor_17 : decode cX3_isPoor 17 = .ok (.iload_n 3, 1) := by decide +kernel
theorem dX3_isPoor_18 : decode cX3_isPoor 18 = .ok (.invokestatic 59, 3) := by decide +kernel
theorem dX3_isPoor_21 : decode cX3_isPoor 21 = .ok (.aload_n 0, 1) := by decide +kernel
theorem dX3_isPoor_22 : decode cX3_isPoor 22 = .ok (.getfield 41, 3) := by decide +kernel
theorem dX3_isPoor_25 : decode cX3_isPoor 25 = .ok (.iload_n 2, 1) := by decide +kernel
theorem dX3_isPoor_26 : decode cX3_isPoor 26 = .ok (.invokestatic 59, 3) := by decide +kernel
theorem dX3_isPoor_29 : decode cX3_isPoor 29 = .ok (.iadd, 1) := by decide +kernel
theorem dX3_isPoor_30 : decode cX3_isPoor 30 = .ok (.aload_n 0, 1) := by decide +kernel
theorem dX3_isPoor_31 : decode cX3_isPoor 31 = .ok (.getfield 44, 3) := by decide +kernel
theorem dX3_isPoor_34 : decode cX3_isPoor 34 = .ok (.iload_n 3, 1) := by decide +kernel
theorem dX3_isPoor_35 : decode cX3_isPoor 35 = .ok (.invokestatic 59, 3) := by decide +kernel
theorem dX3_isPoor_38 : decode cX3_isPoor 38 = .ok (.isub, 1) := by decide +kernel
theorem dX3_isPoor_39 : decode cX3_isPoor 39 = .ok (.istore 4, 2) := by decide +kernel
theorem dX3_isPoor_41 : decode cX3_isPoor 41 = .ok (.iload 4, 2) := by decide +kernel
theorem dX3_isPoor_43 : decode cX3_isPoor 43 = .ok (.invokestatic 76, 3) := by decide +kernel
theorem dX3_isPoor_46 : decode cX3_isPoor 46 = .ok (.aload_n 0, 1) := by decide +kernel
theorem dX3_isPoor_47 : decode cX3_isPoor 47 = .ok (.getfield 34, 3) := by decide +kernel
theorem dX3_isPoor_50 : decode cX3_isPoor 50 = .ok (.iconst 0, 1) := by decide +kernel
theorem dX3_isPoor_51 : decode cX3_isPoor 51 = .ok (.invokestatic 59, 3) := by decide +kernel
theorem dX3_isPoor_54 : decode cX3_isPoor 54 = .ok (.if_icmp .le 5, 3) := by decide +kernel
theorem dX3_isPoor_57 : decode cX3_isPoor 57 = .ok (.iconst 1, 1) := by decide +kernel
theorem dX3_isPoor_58 : decode cX3_isPoor 58 = .ok (.ireturn, 1) := by decide +kernel
theorem dX3_isPoor_59 : decode cX3_isPoor 59 = .ok (.iinc 2 1, 3) := by decide +kernel
theorem dX3_isPoor_62 : decode cX3_isPoor 62 = .ok (.goto (-60), 3) := by decide +kernel
theorem dX3_isPoor_65 : decode cX3_isPoor 65 = .ok (.iconst 0, 1) := by decide +kernel
theorem dX3_isPoor_66 : decode cX3_isPoor 66 = .ok (.ireturn, 1) := by decide +kernel
theorem dX3_crossBound_0 : decode cX3_crossBound 0 = .ok (.aload_n 0, 1) := by decide +kernel
theorem dX3_crossBound_1 : decode cX3_crossBound 1 = .ok (.getfield 18, 3) := by decide +kernel
theorem dX3_crossBound_4 : decode cX3_crossBound 4 = .ok (.ifCond .ne 39, 3) := by decide +kernel
theorem dX3_crossBound_7 : decode cX3_crossBound 7 = .ok (.aload_n 0, 1) := by decide +kernel
theorem dX3_crossBound_8 : decode cX3_crossBound 8 = .ok (.getfield 22, 3) := by decide +kernel
theorem dX3_crossBound_11 : decode cX3_crossBound 11 = .ok (.ifCond .ne 4, 3) := by decide +kernel
theorem dX3_crossBound_14 : decode cX3_crossBound 14 = .ok (.return_, 1) := by decide +kernel
theorem dX3_crossBound_15 : decode cX3_crossBound 15 = .ok (.aload_n 0, 1) := by decide +kernel
theorem dX3_crossBound_16 : decode cX3_crossBound 16 = .ok (.dup, 1) := by decide +kernel
theorem dX3_crossBound_17 : decode cX3_crossBound 17 = .ok (.getfield 22, 3) := by decide +kernel
theorem dX3_crossBound_20 : decode cX3_crossBound 20 = .ok (.iconst 1, 1) := by decide +kernel
theorem dX3_crossBound_21 : decode cX3_crossBound 21 = .ok (.isub, 1) := by decide +kernel
theorem dX3_crossBound_22 : decode cX3_crossBound 22 = .ok (.putfield 22, 3) := by decide +kernel
theorem dX3_crossBound_25 : decode cX3_crossBound 25 = .ok (.aload_n 0, 1) := by decide +kernel
theorem dX3_crossBound_26 : decode cX3_crossBound 26 = .ok (.getfield 25, 3) := by decide +kernel
theorem dX3_crossBound_29 : decode cX3_crossBound 29 = .ok (.ifCond .le 14, 3) := by decide +kernel
theorem dX3_crossBound_32 : decode cX3_crossBound 32 = .ok (.aload_n 0, 1) := by decide +kernel
theorem dX3_crossBound_33 : decode cX3_crossBound 33 = .ok (.dup, 1) := by decide +kernel
theorem dX3_crossBound_34 : decode cX3_crossBound 34 = .ok (.getfield 25, 3) := by decide +kernel
theorem dX3_crossBound_37 : decode cX3_crossBound 37 = .ok (.iconst 1, 1) := by decide +kernel
theorem dX3_crossBound_38 : decode cX3_crossBound 38 = .ok (.isub, 1) := by decide +kernel
theorem dX3_crossBound_39 : decode cX3_crossBound 39 = .ok (.putfield 25, 3) := by decide +kernel
theorem dX3_crossBound_42 : decode cX3_crossBound 42 = .ok (.return_, 1) := by decide +kernel
theorem dX3_crossBound_43 : decode cX3_crossBound 43 = .ok (.aload_n 0, 1) := by decide +kernel
theorem dX3_crossBound_44 : decode cX3_crossBound 44 = .ok (.aload_n 0, 1) := by decide +kernel
theorem dX3_crossBound_45 : decode cX3_crossBound 45 = .ok (.getfield 15, 3) := by decide +kernel
theorem dX3_crossBound_48 : decode cX3_crossBound 48 = .ok (.iload_n 1, 1) := by decide +kernel
theorem dX3_crossBound_49 : decode cX3_crossBound 49 = .ok (.iadd, 1) := by decide +kernel
theorem dX3_crossBound_50 : decode cX3_crossBound 50 = .ok (.bipush 64, 2) := by decide +kernel
theorem dX3_crossBound_52 : decode cX3_crossBound 52 = .ok (.invokestatic 51, 3) := by decide +kernel
theorem dX3_crossBound_55 : decode cX3_crossBound 55 = .ok (.putfield 15, 3) := by decide +kernel
theorem dX3_crossBound_58 : decode cX3_crossBound 58 = .ok (.return_, 1) := by decide +kernel
theorem dX4_init_0 : decode cX4_init 0 = .ok (.aload_n 0, 1) := by decide +kernel
theorem dX4_init_1 : decode cX4_init 1 = .ok (.invokespecial 3, 3) := by decide +kernel
theorem dX4_init_4 : decode cX4_init 4 = .ok (.aload_n 0, 1) := by decide +kernel
theorem dX4_init_5 : decode cX4_init 5 = .ok (.iconst 0, 1) := by decide +kernel
theorem dX4_init_6 : decode cX4_init 6 = .ok (.putfield 9, 3) := by decide +kernel
theorem dX4_init_9 : decode cX4_init 9 = .ok (.aload_n 0, 1) := by decide +kernel
theorem dX4_init_10 : decode cX4_init 10 = .ok (.iconst 0, 1) := by decide +kernel
theorem dX4_init_11 : decode cX4_init 11 = .ok (.putfield 15, 3) := by decide +kernel
theorem dX4_init_14 : decode cX4_init 14 = .ok (.aload_n 0, 1) := by decide +kernel
theorem dX4_init_15 : decode cX4_init 15 = .ok (.iconst 0, 1) := by decide +kernel
theorem dX4_init_16 : decode cX4_init 16 = .ok (.putfield 18, 3) := by decide +kernel
theorem dX4_init_19 : decode cX4_init 19 = .ok (.aload_n 0, 1) := by decide +kernel
theorem dX4_init_20 : decode cX4_init 20 = .ok (.iconst 0, 1) := by decide +kernel
theorem dX4_init_21 : decode cX4_init 21 = .ok (.putfield 21, 3) := by decide +kernel
theorem dX4_init_24 : decode cX4_init 24 = .ok (.return_, 1) := by decide +kernel
theorem dX4_judge_0 : decode cX4_judge 0 = .ok (.aload_n 0, 1) := by decide +kernel
theorem dX4_judge_1 : decode cX4_judge 1 = .ok (.aload_n 1, 1) := by decide +kernel
theorem dX4_judge_2 : decode cX4_judge 2 = .ok (.getfield 24, 3) := by decide +kernel
theorem dX4_judge_5 : decode cX4_judge 5 = .ok (.putfield 15, 3) := by decide +kernel
theorem dX4_judge_8 : decode cX4_judge 8 = .ok (.aload_n 0, 1) := by decide +kernel
theorem dX4_judge_9 : decode cX4_judge 9 = .ok (.aload_n 1, 1) := by decide +kernel
theorem dX4_judge_10 : decode cX4_judge 10 = .ok (.getfield 27, 3) := by decide +kernel
theorem dX4_judge_13 : decode cX4_judge 13 = .ok (.putfield 18, 3) := by decide +kernel
theorem dX4_judge_16 : decode cX4_judge 16 = .ok (.aload_n 0, 1) := by decide +kernel
theorem dX4_judge_17 : decode cX4_judge 17 = .ok (.aload_n 0, 1) := by decide +kernel
theorem dX4_judge_18 : decode cX4_judge 18 = .ok (.aload_n 1, 1) := by decide +kernel
theorem dX4_judge_19 : decode cX4_judge 19 = .ok (.aload_n 2, 1) := by decide +kernel
theorem dX4_judge_20 : decode cX4_judge 20 = .ok (.invokevirtual 28, 3) := by decide +kernel
theorem dX4_judge_23 : decode cX4_judge 23 = .ok (.putfield 9, 3) := by decide +kernel
theorem dX4_judge_26 : decode cX4_judge 26 = .ok (.return_, 1) := by decide +kernel
theorem dX4_firstRefusal_0 : decode cX4_firstRefusal 0 = .ok (.aload_n 2, 1) := by decide +kernel
theorem dX4_firstRefusal_1 : decode cX4_firstRefusal 1 = .ok (.getfield 32, 3) := by decide +kernel
theorem dX4_firstRefusal_4 : decode cX4_firstRefusal 4 = .ok (.aload_n 1, 1) := by decide +kernel
theorem dX4_firstRefusal_5 : decode cX4_firstRefusal 5 = .ok (.getfield 37, 3) := by decide +kernel
theorem dX4_firstRefusal_8 : decode cX4_firstRefusal 8 = .ok (.iconst 0, 1) := by decide +kernel
theorem dX4_firstRefusal_9 : decode cX4_firstRefusal 9 = .ok (.invokestatic 41, 3) := by decide +kernel
theorem dX4_firstRefusal_12 : decode cX4_firstRefusal 12 = .ok (.if_icmp .le 5, 3) := by decide +kernel
theorem dX4_firstRefusal_15 : decode cX4_firstRefusal 15 = .ok (.iconst 1, 1) := by decide +kernel
theorem dX4_firstRefusal_16 : decode cX4_firstRefusal 16 = .ok (.ireturn, 1) := by decide +kernel
theorem dX4_firstRefusal_17 : decode cX4_firstRefusal 17 = .ok (.aload_n 2, 1) := by decide +kernel
theorem dX4_firstRefusal_18 : decode cX4_firstRefusal 18 = .ok (.getfield 45, 3) := by decide +kernel
theorem dX4_firstRefusal_21 : decode cX4_firstRefusal 21 = .ok (.sipush 1020, 3) := by decide +kernel
theorem dX4_firstRefusal_24 : decode cX4_firstRefusal 24 = .ok (.idiv, 1) := by decide +kernel
theorem dX4_firstRefusal_25 : decode cX4_firstRefusal 25 = .ok (.aload_n 1, 1) := by decide +kernel
theorem dX4_firstRefusal_26 : decode cX4_firstRefusal 26 = .ok (.getfield 24, 3) := by decide +kernel
theorem dX4_firstRefusal_29 : decode cX4_firstRefusal 29 = .ok (.isub, 1) := by decide +kernel
theorem dX4_firstRefusal_30 : decode cX4_firstRefusal 30 = .ok (.iconst 4, 1) := by decide +kernel
theorem dX4_firstRefusal_31 : decode cX4_firstRefusal 31 = .ok (.invokestatic 48, 3) := by decide +kernel
theorem dX4_firstRefusal_34 : decode cX4_firstRefusal 34 = .ok (.istore_n 3, 1) := by decide +kernel
theorem dX4_firstRefusal_35 : decode cX4_firstRefusal 35 = .ok (.iload_n 3, 1) := by decide +kernel
theorem dX4_firstRefusal_36 : decode cX4_firstRefusal 36 = .ok (.iconst 2, 1) := by decide +kernel
theorem dX4_firstRefusal_37 : decode cX4_firstRefusal 37 = .ok (.if_icmp .ne 5, 3) := by decide +kernel
theorem dX4_firstRefusal_40 : decode cX4_firstRefusal 40 = .ok (.iconst 2, 1) := by decide +kernel
theorem dX4_firstRefusal_41 : decode cX4_firstRefusal 41 = .ok (.ireturn, 1) := by decide +kernel
theorem dX4_firstRefusal_42 : decode cX4_firstRefusal 42 = .ok (.iload_n 3, 1) := by decide +kernel
theorem dX4_firstRefusal_43 : decode cX4_firstRefusal 43 = .ok (.iconst 3, 1) := by decide +kernel
theorem dX4_firstRefusal_44 : decode cX4_firstRefusal 44 = .ok (.if_icmp .ne 7, 3) := by decide +kernel
theorem dX4_firstRefusal_47 : decode cX4_firstRefusal 47 = .ok (.iconst (-1), 1) := by decide +kernel
theorem dX4_firstRefusal_48 : decode cX4_firstRefusal 48 = .ok (.goto 4, 3) := by decide +kernel
theorem dX4_firstRefusal_51 : decode cX4_firstRefusal 51 = .ok (.iload_n 3, 1) := by decide +kernel
theorem dX4_firstRefusal_52 : decode cX4_firstRefusal 52 = .ok (.istore 4, 2) := by decide +kernel
theorem dX4_firstRefusal_54 : decode cX4_firstRefusal 54 = .ok (.aload_n 0, 1) := by decide +kernel
theorem dX4_firstRefusal_55 : decode cX4_firstRefusal 55 = .ok (.aload_n 1, 1) := by decide +kernel
theorem dX4_firstRefusal_56 : decode cX4_firstRefusal 56 = .ok (.getfield 24, 3) := by decide +kernel
theorem dX4_firstRefusal_59 : decode cX4_firstRefusal 59 = .ok (.iload 4, 2) := by decide +kernel
theorem dX4_firstRefusal_61 : decode cX4_firstRefusal 61 = .ok (.iadd, 1) := by decide +kernel
theorem dX4_firstRefusal_62 : decode cX4_firstRefusal 62 = .ok (.bipush 64, 2) := by decide +kernel
theorem dX4_firstRefusal_64 : decode cX4_firstRefusal 64 = .ok (.invokestatic 48, 3) := by decide +kernel
theorem dX4_firstRefusal_67 : decode cX4_firstRefusal 67 = .ok (.putfield 15, 3) := by decide +kernel
theorem dX4_firstRefusal_70 : decode cX4_firstRefusal 70 = .ok (.aload_n 0, 1) := by decide +kernel
theorem dX4_firstRefusal_71 : decode cX4_firstRefusal 71 = .ok (.aload_n 0, 1) := by decide +kernel
theorem dX4_firstRefusal_72 : decode cX4_firstRefusal 72 = .ok (.getfield 15, 3) := by decide +kernel
theorem dX4_firstRefusal_75 : decode cX4_firstRefusal 75 = .ok (.iconst 4, 1) := by decide +kernel
theorem dX4_firstRefusal_76 : decode cX4_firstRefusal 76 = .ok (.idiv, 1) := by decide +kernel
theorem dX4_firstRefusal_77 : decode cX4_firstRefusal 77 = .ok (.sipush 4080, 3) := by decide +kernel
theorem dX4_firstRefusal_80 : decode cX4_firstRefusal 80 = .ok (.imul, 1) := by decide +kernel
theorem dX4_firstRefusal_81 : decode cX4_firstRefusal 81 = .ok (.aload_n 2, 1) := by decide +kernel
theorem dX4_firstRefusal_82 : decode cX4_firstRefusal 82 = .ok (.getfield 45, 3) := by decide +kernel
theorem dX4_firstRefusal_85 : decode cX4_firstRefusal 85 = .ok (.iadd, 1) := by decide +kernel
theorem dX4_firstRefusal_86 : decode cX4_firstRefusal 86 = .ok (.putfield 21, 3) := by decide +kernel
theorem dX4_firstRefusal_89 : decode cX4_firstRefusal 89 = .ok (.aload_n 2, 1) := by decide +kernel
theorem dX4_firstRefusal_90 : decode cX4_firstRefusal 90 = .ok (.getfield 45, 3) := by decide +kernel
theorem dX4_firstRefusal_93 : decode cX4_firstRefusal 93 = .ok (.bipush 64, 2) := by decide +kernel
theorem dX4_firstRefusal_95 : decode cX4_firstRefusal 95 = .ok (.imul, 1) := by decide +kernel
theorem dX4_firstRefusal_96 : decode cX4_firstRefusal 96 = .ok (.sipush 4080, 3) := by decide +kernel
theorem dX4_firstRefusal_99 : decode cX4_firstRefusal 99 = .ok (.idiv, 1) := by decide +kernel
theorem dX4_firstRefusal_100 : decode cX4_firstRefusal 100 = .ok (.istore 5, 2) := by decide +kernel
theorem dX4_firstRefusal_102 : decode cX4_firstRefusal 102 = .ok (.aload_n 1, 1) := by decide +kernel
theorem dX4_firstRefusal_103 : decode cX4_firstRefusal 103 = .ok (.invokevirtual 52, 3) := by decide +kernel
theorem dX4_firstRefusal_106 : decode cX4_firstRefusal 106 = .ok (.iload 5, 2) := by decide +kernel
theorem dX4_firstRefusal_108 : decode cX4_firstRefusal 108 = .ok (.bipush 64, 2) := by decide +kernel
theorem dX4_firstRefusal_110 : decode cX4_firstRefusal 110 = .ok (.invokestatic 56, 3) := by decide +kernel
theorem dX4_firstRefusal_113 : decode cX4_firstRefusal 113 = .ok (.aload_n 1, 1) := by decide +kernel
theorem dX4_firstRefusal_114 : decode cX4_firstRefusal 114 = .ok (.getfield 37, 3) := by decide +kernel
theorem dX4_firstRefusal_117 : decode cX4_firstRefusal 117 = .ok (.iconst 1, 1) := by decide +kernel
theorem dX4_firstRefusal_118 : decode cX4_firstRefusal 118 = .ok (.invokestatic 41, 3) := by decide +kernel
theorem dX4_firstRefusal_121 : decode cX4_firstRefusal 121 = .ok (.if_icmp .le 7, 3) := by decide +kernel
theorem dX4_firstRefusal_124 : decode cX4_firstRefusal 124 = .ok (.iconst 1, 1) := by decide +kernel
theorem dX4_firstRefusal_125 : decode cX4_firstRefusal 125 = .ok (.goto 4, 3) := by decide +kernel
theorem dX4_firstRefusal_128 : decode cX4_firstRefusal 128 = .ok (.iconst 0, 1) := by decide +kernel
theorem dX4_firstRefusal_129 : decode cX4_firstRefusal 129 = .ok (.istore 6, 2) := by decide +kernel
theorem dX4_firstRefusal_131 : decode cX4_firstRefusal 131 = .ok (.aload_n 0, 1) := by decide +kernel
theorem dX4_firstRefusal_132 : decode cX4_firstRefusal 132 = .ok (.iload 6, 2) := by decide +kernel
theorem dX4_firstRefusal_134 : decode cX4_firstRefusal 134 = .ok (.ifCond .eq 12, 3) := by decide +kernel
theorem dX4_firstRefusal_137 : decode cX4_firstRefusal 137 = .ok (.aload_n 1, 1) := by decide +kernel
theorem dX4_firstRefusal_138 : decode cX4_firstRefusal 138 = .ok (.getfield 27, 3) := by decide +kernel
theorem dX4_firstRefusal_141 : decode cX4_firstRefusal 141 = .ok (.iconst 1, 1) := by decide +kernel
theorem dX4_firstRefusal_142 : decode cX4_firstRefusal 142 = .ok (.iadd, 1) := by decide +kernel
theorem dX4_firstRefusal_143 : decode cX4_firstRefusal 143 = .ok (.goto 4, 3) := by decide +kernel
theorem dX4_firstRefusal_146 : decode cX4_firstRefusal 146 = .ok (.iconst 0, 1) := by decide +kernel
theorem dX4_firstRefusal_147 : decode cX4_firstRefusal 147 = .ok (.putfield 18, 3) := by decide +kernel
theorem dX4_firstRefusal_150 : decode cX4_firstRefusal 150 = .ok (.aload_n 0, 1) := by decide +kernel
theorem dX4_firstRefusal_151 : decode cX4_firstRefusal 151 = .ok (.getfield 18, 3) := by decide +kernel
theorem dX4_firstRefusal_154 : decode cX4_firstRefusal 154 = .ok (.iconst 3, 1) := by decide +kernel
theorem dX4_firstRefusal_155 : decode cX4_firstRefusal 155 = .ok (.if_icmp .lt 5, 3) := by decide +kernel
theorem dX4_firstRefusal_158 : decode cX4_firstRefusal 158 = .ok (.iconst 3, 1) := by decide +kernel
theorem dX4_firstRefusal_159 : decode cX4_firstRefusal 159 = .ok (.ireturn, 1) := by decide +kernel
theorem dX4_firstRefusal_160 : decode cX4_firstRefusal 160 = .ok (.aload_n 1, 1) := by decide +kernel
theorem dX4_firstRefusal_161 : decode cX4_firstRefusal 161 = .ok (.getfield 60, 3) := by decide +kernel
theorem dX4_firstRefusal_164 : decode cX4_firstRefusal 164 = .ok (.iconst (-1), 1) := by decide +kernel
theorem dX4_firstRefusal_165 : decode cX4_firstRefusal 165 = .ok (.if_icmp .eq 29, 3) := by decide +kernel
theorem dX4_firstRefusal_168 : decode cX4_firstRefusal 168 = .ok (.aload_n 1, 1) := by decide +kernel
theorem dX4_firstRefusal_169 : decode cX4_firstRefusal 169 = .ok (.getfield 60, 3) := by decide +kernel
theorem dX4_firstRefusal_172 : decode cX4_firstRefusal 172 = .ok (.aload_n 0, 1) := by decide +kernel
theorem dX4_firstRefusal_173 : decode cX4_firstRefusal 173 = .ok (.getfield 21, 3) := by decide +kernel
theorem dX4_firstRefusal_176 : decode cX4_firstRefusal 176 = .ok (.ldc 63, 2) := by decide +kernel
theorem dX4_firstRefusal_178 : decode cX4_firstRefusal 178 = .ok (.invokestatic 56, 3) := by decide +kernel
theorem dX4_firstRefusal_181 : decode cX4_firstRefusal 181 = .ok (.aload_n 1, 1) := by decide +kernel
theorem dX4_firstRefusal_182 : decode cX4_firstRefusal 182 = .ok (.getfield 37, 3) := by decide +kernel
theorem dX4_firstRefusal_185 : decode cX4_firstRefusal 185 = .ok (.iconst 2, 1) := by decide +kernel
theorem dX4_firstRefusal_186 : decode cX4_firstRefusal 186 = .ok (.invokestatic 41, 3) := by decide +kernel
theorem dX4_firstRefusal_189 : decode cX4_firstRefusal 189 = .ok (.if_icmp .le 5, 3) := by decide +kernel
theorem dX4_firstRefusal_192 : decode cX4_firstRefusal 192 = .ok (.iconst 4, 1) := by decide +kernel
theorem dX4_firstRefusal_193 : decode cX4_firstRefusal 193 = .ok (.ireturn, 1) := by decide +kernel
theorem dX4_firstRefusal_194 : decode cX4_firstRefusal 194 = .ok (.iconst 0, 1) := by decide +kernel
theorem dX4_firstRefusal_195 : decode cX4_firstRefusal 195 = .ok (.ireturn, 1) := by decide +kernel
theorem dX5_init_0 : decode cX5_init 0 = .ok (.aload_n 0, 1) := by decide +kernel
theorem dX5_init_1 : decode cX5_init 1 = .ok (.invokespecial 3, 3) := by decide +kernel
theorem dX5_init_4 : decode cX5_init 4 = .ok (.aload_n 0, 1) := by decide +kernel
theorem dX5_init_5 : decode cX5_init 5 = .ok (.new 9, 3) := by decide +kernel
theorem dX5_init_8 : decode cX5_init 8 = .ok (.dup, 1) := by decide +kernel
theorem dX5_init_9 : decode cX5_init 9 = .ok (.invokespecial 11, 3) := by decide +kernel
theorem dX5_init_12 : decode cX5_init 12 = .ok (.putfield 12, 3) := by decide +kernel
theorem dX5_init_15 : decode cX5_init 15 = .ok (.aload_n 0, 1) := by decide +kernel
theorem dX5_init_16 : decode cX5_init 16 = .ok (.new 16, 3) := by decide +kernel
theorem dX5_init_19 : decode cX5_init 19 = .ok (.dup, 1) := by decide +kernel
theorem dX5_init_20 : decode cX5_init 20 = .ok (.invokespecial 18, 3) := by decide +kernel
theorem dX5_init_23 : decode cX5_init 23 = .ok (.putfield 19, 3) := by decide +kernel
theorem dX5_init_26 : decode cX5_init 26 = .ok (.aload_n 0, 1) := by decide +kernel
theorem dX5_init_27 : decode cX5_init 27 = .ok (.new 23, 3) := by decide +kernel
theorem dX5_init_30 : decode cX5_init 30 = .ok (.dup, 1) := by decide +kernel
theorem dX5_init_31 : decode cX5_init 31 = .ok (.invokespecial 25, 3) := by decide +kernel
theorem dX5_init_34 : decode cX5_init 34 = .ok (.putfield 26, 3) := by decide +kernel
theorem dX5_init_37 : decode cX5_init 37 = .ok (.aload_n 0, 1) := by decide +kernel
theorem dX5_init_38 : decode cX5_init 38 = .ok (.new 30, 3) := by decide +kernel
theorem dX5_init_41 : decode cX5_init 41 = .ok (.dup, 1) := by decide +kernel
theorem dX5_init_42 : decode cX5_init 42 = .ok (.invokespecial 32, 3) := by decide +kernel
theorem dX5_init_45 : decode cX5_init 45 = .ok (.putfield 33, 3) := by decide +kernel
theorem dX5_init_48 : decode cX5_init 48 = .ok (.aload_n 0, 1) := by decide +kernel
theorem dX5_init_49 : decode cX5_init 49 = .ok (.new 37, 3) := by decide +kernel
theorem dX5_init_52 : decode cX5_init 52 = .ok (.dup, 1) := by decide +kernel
theorem dX5_init_53 : decode cX5_init 53 = .ok (.invokespecial 39, 3) := by decide +kernel
theorem dX5_init_56 : decode cX5_init 56 = .ok (.putfield 40, 3) := by decide +kernel
theorem dX5_init_59 : decode cX5_init 59 = .ok (.return_, 1) := by decide +kernel
theorem dX5_turn_0 : decode cX5_turn 0 = .ok (.iload_n 1, 1) := by decide +kernel
theorem dX5_turn_1 : decode cX5_turn 1 = .ok (.sipush (-9999), 3) := by decide +kernel
theorem dX5_turn_4 : decode cX5_turn 4 = .ok (.sipush 9999, 3) := by decide +kernel
theorem dX5_turn_7 : decode cX5_turn 7 = .ok (.invokestatic 44, 3) := by decide +kernel
theorem dX5_turn_10 : decode cX5_turn 10 = .ok (.ifCond .eq 5, 3) := by decide +kernel
theorem dX5_turn_13 : decode cX5_turn 13 = .ok (.iconst (-1), 1) := by decide +kernel
theorem dX5_turn_14 : decode cX5_turn 14 = .ok (.ireturn, 1) := by decide +kernel
theorem dX5_turn_15 : decode cX5_turn 15 = .ok (.aload_n 0, 1) := by decide +kernel
theorem dX5_turn_16 : decode cX5_turn 16 = .ok (.getfield 12, 3) := by decide +kernel
theorem dX5_turn_19 : decode cX5_turn 19 = .ok (.getfield 48, 3) := by decide +kernel
theorem dX5_turn_22 : decode cX5_turn 22 = .ok (.iload_n 1, 1) := by decide +kernel
theorem dX5_turn_23 : decode cX5_turn 23 = .ok (.iadd, 1) := by decide +kernel
theorem dX5_turn_24 : decode cX5_turn 24 = .ok (.istore_n 2, 1) := by decide +kernel
theorem dX5_turn_25 : decode cX5_turn 25 = .ok (.iload_n 2, 1) := by decide +kernel
theorem dX5_turn_26 : decode cX5_turn 26 = .ok (.iconst 0, 1) := by decide +kernel
theorem dX5_turn_27 : decode cX5_turn 27 = .ok (.ldc 52, 2) := by decide +kernel
theorem dX5_turn_29 : decode cX5_turn 29 = .ok (.invokestatic 44, 3) := by decide +kernel
theorem dX5_turn_32 : decode cX5_turn 32 = .ok (.ifCond .eq 6, 3) := by decide +kernel
theorem dX5_turn_35 : decode cX5_turn 35 = .ok (.bipush (-2), 2) := by decide +kernel
theorem dX5_turn_37 : decode cX5_turn 37 = .ok (.ireturn, 1) := by decide +kernel
theorem dX5_turn_38 : decode cX5_turn 38 = .ok (.aload_n 0, 1) := by decide +kernel
theorem dX5_turn_39 : decode cX5_turn 39 = .ok (.getfield 19, 3) := by decide +kernel
theorem dX5_turn_42 : decode cX5_turn 42 = .ok (.aload_n 0, 1) := by decide +kernel
theorem dX5_turn_43 : decode cX5_turn 43 = .ok (.getfield 12, 3) := by decide +kernel
theorem dX5_turn_46 : decode cX5_turn 46 = .ok (.invokevirtual 53, 3) := by decide +kernel
theorem dX5_turn_49 : decode cX5_turn 49 = .ok (.iload_n 2, 1) := by decide +kernel
theorem dX5_turn_50 : decode cX5_turn 50 = .ok (.sipush 1020, 3) := by decide +kernel
theorem dX5_turn_53 : decode cX5_turn 53 = .ok (.idiv, 1) := by decide +kernel
theorem dX5_turn_54 : decode cX5_turn 54 = .ok (.aload_n 0, 1) := by decide +kernel
theorem dX5_turn_55 : decode cX5_turn 55 = .ok (.getfield 12, 3) := by decide +kernel
theorem dX5_turn_58 : decode cX5_turn 58 = .ok (.getfield 48, 3) := by decide +kernel
theorem dX5_turn_61 : decode cX5_turn 61 = .ok (.sipush 1020, 3) := by decide +kernel
theorem dX5_turn_64 : decode cX5_turn 64 = .ok (.idiv, 1) := by decide +kernel
theorem dX5_turn_65 : decode cX5_turn 65 = .ok (.isub, 1) := by decide +kernel
theorem dX5_turn_66 : decode cX5_turn 66 = .ok (.istore_n 3, 1) := by decide +kernel
theorem dX5_turn_67 : decode cX5_turn 67 = .ok (.iload_n 3, 1) := by decide +kernel
theorem dX5_turn_68 : decode cX5_turn 68 = .ok (.ifCond .ge 7, 3) := by decide +kernel
theorem dX5_turn_71 : decode cX5_turn 71 = .ok (.iconst (-1), 1) := by decide +kernel
theorem dX5_turn_72 : decode cX5_turn 72 = .ok (.goto 4, 3) := by decide +kernel
theorem dX5_turn_75 : decode cX5_turn 75 = .ok (.iconst 1, 1) := by decide +kernel
theorem dX5_turn_76 : decode cX5_turn 76 = .ok (.istore 4, 2) := by decide +kernel
theorem dX5_turn_78 : decode cX5_turn 78 = .ok (.iconst 0, 1) := by decide +kernel
theorem dX5_turn_79 : decode cX5_turn 79 = .ok (.istore 5, 2) := by decide +kernel
theorem dX5_turn_81 : decode cX5_turn 81 = .ok (.iload 5, 2) := by decide +kernel
theorem dX5_turn_83 : decode cX5_turn 83 = .ok (.iload_n 3, 1) := by decide +kernel
theorem dX5_turn_84 : decode cX5_turn 84 = .ok (.invokestatic 57, 3) := by decide +kernel
theorem dX5_turn_87 : decode cX5_turn 87 = .ok (.if_icmp .ge 18, 3) := by decide +kernel
theorem dX5_turn_90 : decode cX5_turn 90 = .ok (.aload_n 0, 1) := by decide +kernel
