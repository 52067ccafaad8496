theorem dX0_init_0 : decode cX0_init 0 = .ok (.aload_n 0, 1) := by decide +kernel
theorem dX0_init_1 : decode cX0_init 1 = .ok (.invokespecial 3, 3) := by decide +kernel
theorem dX0_init_4 : decode cX0_init 4 = .ok (.aload_n 0, 1) := by decide +kernel
theorem dX0_init_5 : decode cX0_init 5 = .ok (.bipush 60, 2) := by decide +kernel
theorem dX0_init_7 : decode cX0_init 7 = .ok (.newarray .int, 2) := by decide +kernel
theorem dX0_init_9 : decode cX0_init 9 = .ok (.putfield 9, 3) := by decide +kernel
theorem dX0_init_12 : decode cX0_init 12 = .ok (.aload_n 0, 1) := by decide +kernel
theorem dX0_init_13 : decode cX0_init 13 = .ok (.iconst 0, 1) := by decide +kernel
theorem dX0_init_14 : decode cX0_init 14 = .ok (.putfield 15, 3) := by decide +kernel
theorem dX0_init_17 : decode cX0_init 17 = .ok (.aload_n 0, 1) := by decide +kernel
theorem dX0_init_18 : decode cX0_init 18 = .ok (.bipush 24, 2) := by decide +kernel
theorem dX0_init_20 : decode cX0_init 20 = .ok (.newarray .int, 2) := by decide +kernel
theorem dX0_init_22 : decode cX0_init 22 = .ok (.putfield 19, 3) := by decide +kernel
theorem dX0_init_25 : decode cX0_init 25 = .ok (.aload_n 0, 1) := by decide +kernel
theorem dX0_init_26 : decode cX0_init 26 = .ok (.bipush 24, 2) := by decide +kernel
theorem dX0_init_28 : decode cX0_init 28 = .ok (.newarray .int, 2) := by decide +kernel
theorem dX0_init_30 : decode cX0_init 30 = .ok (.putfield 22, 3) := by decide +kernel
theorem dX0_init_33 : decode cX0_init 33 = .ok (.aload_n 0, 1) := by decide +kernel
theorem dX0_init_34 : decode cX0_init 34 = .ok (.iconst 0, 1) := by decide +kernel
theorem dX0_init_35 : decode cX0_init 35 = .ok (.putfield 25, 3) := by decide +kernel
theorem dX0_init_38 : decode cX0_init 38 = .ok (.aload_n 0, 1) := by decide +kernel
theorem dX0_init_39 : decode cX0_init 39 = .ok (.iconst 0, 1) := by decide +kernel
theorem dX0_init_40 : decode cX0_init 40 = .ok (.putfield 28, 3) := by decide +kernel
theorem dX0_init_43 : decode cX0_init 43 = .ok (.aload_n 0, 1) := by decide +kernel
theorem dX0_init_44 : decode cX0_init 44 = .ok (.iconst 0, 1) := by decide +kernel
theorem dX0_init_45 : decode cX0_init 45 = .ok (.putfield 31, 3) := by decide +kernel
theorem dX0_init_48 : decode cX0_init 48 = .ok (.return_, 1) := by decide +kernel
theorem dX0_append_0 : decode cX0_append 0 = .ok (.aload_n 0, 1) := by decide +kernel
theorem dX0_append_1 : decode cX0_append 1 = .ok (.getfield 9, 3) := by decide +kernel
theorem dX0_append_4 : decode cX0_append 4 = .ok (.aload_n 0, 1) := by decide +kernel
theorem dX0_append_5 : decode cX0_append 5 = .ok (.getfield 15, 3) := by decide +kernel
theorem dX0_append_8 : decode cX0_append 8 = .ok (.iload_n 1, 1) := by decide +kernel
theorem dX0_append_9 : decode cX0_append 9 = .ok (.invokestatic 34, 3) := by decide +kernel
theorem dX0_append_12 : decode cX0_append 12 = .ok (.aload_n 0, 1) := by decide +kernel
theorem dX0_append_13 : decode cX0_append 13 = .ok (.dup, 1) := by decide +kernel
theorem dX0_append_14 : decode cX0_append 14 = .ok (.getfield 15, 3) := by decide +kernel
theorem dX0_append_17 : decode cX0_append 17 = .ok (.iconst 1, 1) := by decide +kernel
theorem dX0_append_18 : decode cX0_append 18 = .ok (.iadd, 1) := by decide +kernel
theorem dX0_append_19 : decode cX0_append 19 = .ok (.putfield 15, 3) := by decide +kernel
theorem dX0_append_22 : decode cX0_append 22 = .ok (.return_, 1) := by decide +kernel
theorem dX0_scan_0 : decode cX0_scan 0 = .ok (.iconst 0, 1) := by decide +kernel
theorem dX0_scan_1 : decode cX0_scan 1 = .ok (.istore_n 1, 1) := by decide +kernel
theorem dX0_scan_2 : decode cX0_scan 2 = .ok (.iload_n 1, 1) := by decide +kernel
theorem dX0_scan_3 : decode cX0_scan 3 = .ok (.bipush 24, 2) := by decide +kernel
theorem dX0_scan_5 : decode cX0_scan 5 = .ok (.if_icmp .ge 27, 3) := by decide +kernel
theorem dX0_scan_8 : decode cX0_scan 8 = .ok (.aload_n 0, 1) := by decide +kernel
theorem dX0_scan_9 : decode cX0_scan 9 = .ok (.getfield 19, 3) := by decide +kernel
theorem dX0_scan_12 : decode cX0_scan 12 = .ok (.iload_n 1, 1) := by decide +kernel
theorem dX0_scan_13 : decode cX0_scan 13 = .ok (.iconst 0, 1) := by decide +kernel
theorem dX0_scan_14 : decode cX0_scan 14 = .ok (.invokestatic 34, 3) := by decide +kernel
theorem dX0_scan_17 : decode cX0_scan 17 = .ok (.aload_n 0, 1) := by decide +kernel
theorem dX0_scan_18 : decode cX0_scan 18 = .ok (.getfield 22, 3) := by decide +kernel
theorem dX0_scan_21 : decode cX0_scan 21 = .ok (.iload_n 1, 1) := by decide +kernel
theorem dX0_scan_22 : decode cX0_scan 22 = .ok (.iconst 0, 1) := by decide +kernel
theorem dX0_scan_23 : decode cX0_scan 23 = .ok (.invokestatic 34, 3) := by decide +kernel
theorem dX0_scan_26 : decode cX0_scan 26 = .ok (.iinc 1 1, 3) := by decide +kernel
theorem dX0_scan_29 : decode cX0_scan 29 = .ok (.goto (-27), 3) := by decide +kernel
theorem dX0_scan_32 : decode cX0_scan 32 = .ok (.aload_n 0, 1) := by decide +kernel
theorem dX0_scan_33 : decode cX0_scan 33 = .ok (.iconst 0, 1) := by decide +kernel
theorem dX0_scan_34 : decode cX0_scan 34 = .ok (.putfield 25, 3) := by decide +kernel
theorem dX0_scan_37 : decode cX0_scan 37 = .ok (.aload_n 0, 1) := by decide +kernel
theorem dX0_scan_38 : decode cX0_scan 38 = .ok (.iconst 0, 1) := by decide +kernel
theorem dX0_scan_39 : decode cX0_scan 39 = .ok (.putfield 31, 3) := by decide +kernel
theorem dX0_scan_42 : decode cX0_scan 42 = .ok (.aload_n 0, 1) := by decide +kernel
theorem dX0_scan_43 : decode cX0_scan 43 = .ok (.iconst 0, 1) := by decide +kernel
theorem dX0_scan_44 : decode cX0_scan 44 = .ok (.putfield 28, 3) := by decide +kernel
theorem dX0_scan_47 : decode cX0_scan 47 = .ok (.aload_n 0, 1) := by decide +kernel
theorem dX0_scan_48 : decode cX0_scan 48 = .ok (.getfield 28, 3) := by decide +kernel
theorem dX0_scan_51 : decode cX0_scan 51 = .ok (.aload_n 0, 1) := by decide +kernel
theorem dX0_scan_52 : decode cX0_scan 52 = .ok (.getfield 15, 3) := by decide +kernel
theorem dX0_scan_55 : decode cX0_scan 55 = .ok (.if_icmp .ge 61, 3) := by decide +kernel
theorem dX0_scan_58 : decode cX0_scan 58 = .ok (.aload_n 0, 1) := by decide +kernel
theorem dX0_scan_59 : decode cX0_scan 59 = .ok (.getfield 31, 3) := by decide +kernel
theorem dX0_scan_62 : decode cX0_scan 62 = .ok (.ifCond .ne 54, 3) := by decide +kernel
theorem dX0_scan_65 : decode cX0_scan 65 = .ok (.aload_n 0, 1) := by decide +kernel
theorem dX0_scan_66 : decode cX0_scan 66 = .ok (.aload_n 0, 1) := by decide +kernel
theorem dX0_scan_67 : decode cX0_scan 67 = .ok (.aload_n 0, 1) := by decide +kernel
theorem dX0_scan_68 : decode cX0_scan 68 = .ok (.getfield 28, 3) := by decide +kernel
theorem dX0_scan_71 : decode cX0_scan 71 = .ok (.invokevirtual 38, 3) := by decide +kernel
theorem dX0_scan_74 : decode cX0_scan 74 = .ok (.putfield 31, 3) := by decide +kernel
theorem dX0_scan_77 : decode cX0_scan 77 = .ok (.aload_n 0, 1) := by decide +kernel
theorem dX0_scan_78 : decode cX0_scan 78 = .ok (.getfield 31, 3) := by decide +kernel
theorem dX0_scan_81 : decode cX0_scan 81 = .ok (.ifCond .ne (-34), 3) := by decide +kernel
theorem dX0_scan_84 : decode cX0_scan 84 = .ok (.aload_n 0, 1) := by decide +kernel
theorem dX0_scan_85 : decode cX0_scan 85 = .ok (.aload_n 0, 1) := by decide +kernel
theorem dX0_scan_86 : decode cX0_scan 86 = .ok (.getfield 28, 3) := by decide +kernel
theorem dX0_scan_89 : decode cX0_scan 89 = .ok (.invokevirtual 42, 3) := by decide +kernel
theorem dX0_scan_92 : decode cX0_scan 92 = .ok (.aload_n 0, 1) := by decide +kernel
theorem dX0_scan_93 : decode cX0_scan 93 = .ok (.dup, 1) := by decide +kernel
theorem dX0_scan_94 : decode cX0_scan 94 = .ok (.getfield 28, 3) := by decide +kernel
theorem dX0_scan_97 : decode cX0_scan 97 = .ok (.iconst 1, 1) := by decide +kernel
theorem dX0_scan_98 : decode cX0_scan 98 = .ok (.aload_n 0, 1) := by decide +kernel
theorem dX0_scan_99 : decode cX0_scan 99 = .ok (.aload_n 0, 1) := by decide +kernel
theorem dX0_scan_100 : decode cX0_scan 100 = .ok (.getfield 28, 3) := by decide +kernel
theorem dX0_scan_103 : decode cX0_scan 103 = .ok (.invokevirtual 46, 3) := by decide +kernel
theorem dX0_scan_106 : decode cX0_scan 106 = .ok (.invokestatic 49, 3) := by decide +kernel
theorem dX0_scan_109 : decode cX0_scan 109 = .ok (.iadd, 1) := by decide +kernel
theorem dX0_scan_110 : decode cX0_scan 110 = .ok (.putfield 28, 3) := by decide +kernel
theorem dX0_scan_113 : decode cX0_scan 113 = .ok (.goto (-66), 3) := by decide +kernel
theorem dX0_scan_116 : decode cX0_scan 116 = .ok (.return_, 1) := by decide +kernel
theorem dX0_entryFault_0 : decode cX0_entryFault 0 = .ok (.aload_n 0, 1) := by decide +kernel
theorem dX0_entryFault_1 : decode cX0_entryFault 1 = .ok (.iload_n 1, 1) := by decide +kernel
theorem dX0_entryFault_2 : decode cX0_entryFault 2 = .ok (.invokevirtual 46, 3) := by decide +kernel
theorem dX0_entryFault_5 : decode cX0_entryFault 5 = .ok (.ifCond .ne 5, 3) := by decide +kernel
theorem dX0_entryFault_8 : decode cX0_entryFault 8 = .ok (.iconst 1, 1) := by decide +kernel
theorem dX0_entryFault_9 : decode cX0_entryFault 9 = .ok (.ireturn, 1) := by decide +kernel
theorem dX0_entryFault_10 : decode cX0_entryFault 10 = .ok (.aload_n 0, 1) := by decide +kernel
theorem dX0_entryFault_11 : decode cX0_entryFault 11 = .ok (.iload_n 1, 1) := by decide +kernel
theorem dX0_entryFault_12 : decode cX0_entryFault 12 = .ok (.invokevirtual 55, 3) := by decide +kernel
theorem dX0_entryFault_15 : decode cX0_entryFault 15 = .ok (.invokestatic 58, 3) := by decide +kernel
theorem dX0_entryFault_18 : decode cX0_entryFault 18 = .ok (.ifCond .ne 5, 3) := by decide +kernel
theorem dX0_entryFault_21 : decode cX0_entryFault 21 = .ok (.iconst 2, 1) := by decide +kernel
theorem dX0_entryFault_22 : decode cX0_entryFault 22 = .ok (.ireturn, 1) := by decide +kernel
theorem dX0_entryFault_23 : decode cX0_entryFault 23 = .ok (.aload_n 0, 1) := by decide +kernel
theorem dX0_entryFault_24 : decode cX0_entryFault 24 = .ok (.iload_n 1, 1) := by decide +kernel
theorem dX0_entryFault_25 : decode cX0_entryFault 25 = .ok (.invokevirtual 55, 3) := by decide +kernel
theorem dX0_entryFault_28 : decode cX0_entryFault 28 = .ok (.aload_n 0, 1) := by decide +kernel
theorem dX0_entryFault_29 : decode cX0_entryFault 29 = .ok (.iload_n 1, 1) := by decide +kernel
theorem dX0_entryFault_30 : decode cX0_entryFault 30 = .ok (.iconst 1, 1) := by decide +kernel
theorem dX0_entryFault_31 : decode cX0_entryFault 31 = .ok (.iadd, 1) := by decide +kernel
theorem dX0_entryFault_32 : decode cX0_entryFault 32 = .ok (.invokevirtual 55, 3) := by decide +kernel
theorem dX0_entryFault_35 : decode cX0_entryFault 35 = .ok (.invokestatic 62, 3) := by decide +kernel
theorem dX0_entryFault_38 : decode cX0_entryFault 38 = .ok (.ifCond .ne 5, 3) := by decide +kernel
theorem dX0_entryFault_41 : decode cX0_entryFault 41 = .ok (.iconst 3, 1) := by decide +kernel
theorem dX0_entryFault_42 : decode cX0_entryFault 42 = .ok (.ireturn, 1) := by decide +kernel
theorem dX0_entryFault_43 : decode cX0_entryFault 43 = .ok (.aload_n 0, 1) := by decide +kernel
theorem dX0_entryFault_44 : decode cX0_entryFault 44 = .ok (.iload_n 1, 1) := by decide +kernel
theorem dX0_entryFault_45 : decode cX0_entryFault 45 = .ok (.invokevirtual 66, 3) := by decide +kernel
theorem dX0_entryFault_48 : decode cX0_entryFault 48 = .ok (.bipush 20, 2) := by decide +kernel
theorem dX0_entryFault_50 : decode cX0_entryFault 50 = .ok (.if_icmp .le 5, 3) := by decide +kernel
theorem dX0_entryFault_53 : decode cX0_entryFault 53 = .ok (.iconst 4, 1) := by decide +kernel
theorem dX0_entryFault_54 : decode cX0_entryFault 54 = .ok (.ireturn, 1) := by decide +kernel
theorem dX0_entryFault_55 : decode cX0_entryFault 55 = .ok (.aload_n 0, 1) := by decide +kernel
theorem dX0_entryFault_56 : decode cX0_entryFault 56 = .ok (.getfield 22, 3) := by decide +kernel
theorem dX0_entryFault_59 : decode cX0_entryFault 59 = .ok (.aload_n 0, 1) := by decide +kernel
theorem dX0_entryFault_60 : decode cX0_entryFault 60 = .ok (.iload_n 1, 1) := by decide +kernel
theorem dX0_entryFault_61 : decode cX0_entryFault 61 = .ok (.invokevirtual 69, 3) := by decide +kernel
theorem dX0_entryFault_64 : decode cX0_entryFault 64 = .ok (.invokestatic 72, 3) := by decide +kernel
theorem dX0_entryFault_67 : decode cX0_entryFault 67 = .ok (.ifCond .eq 7, 3) := by decide +kernel
theorem dX0_entryFault_70 : decode cX0_entryFault 70 = .ok (.iconst 5, 1) := by decide +kernel
theorem dX0_entryFault_71 : decode cX0_entryFault 71 = .ok (.goto 4, 3) := by decide +kernel
theorem dX0_entryFault_74 : decode cX0_entryFault 74 = .ok (.iconst 0, 1) := by decide +kernel
theorem dX0_entryFault_75 : decode cX0_entryFault 75 = .ok (.ireturn, 1) := by decide +kernel
theorem dX0_takeEntry_0 : decode cX0_takeEntry 0 = .ok (.aload_n 0, 1) := by decide +kernel
theorem dX0_takeEntry_1 : decode cX0_takeEntry 1 = .ok (.iload_n 1, 1) := by decide +kernel
theorem dX0_takeEntry_2 : decode cX0_takeEntry 2 = .ok (.invokevirtual 66, 3) := by decide +kernel
theorem dX0_takeEntry_5 : decode cX0_takeEntry 5 = .ok (.istore_n 2, 1) := by decide +kernel
theorem dX0_takeEntry_6 : decode cX0_takeEntry 6 = .ok (.aload_n 0, 1) := by decide +kernel
theorem dX0_takeEntry_7 : decode cX0_takeEntry 7 = .ok (.getfield 19, 3) := by decide +kernel
theorem dX0_takeEntry_10 : decode cX0_takeEntry 10 = .ok (.aload_n 0, 1) := by decide +kernel
theorem dX0_takeEntry_11 : decode cX0_takeEntry 11 = .ok (.iload_n 1, 1) := by decide +kernel
theorem dX0_takeEntry_12 : decode cX0_takeEntry 12 = .ok (.invokevirtual 69, 3) := by decide +kernel
theorem dX0_takeEntry_15 : decode cX0_takeEntry 15 = .ok (.aload_n 0, 1) := by decide +kernel
theorem dX0_takeEntry_16 : decode cX0_takeEntry 16 = .ok (.iload_n 1, 1) := by decide +kernel
theorem dX0_takeEntry_17 : decode cX0_takeEntry 17 = .ok (.iconst 2, 1) := by decide +kernel
theorem dX0_takeEntry_18 : decode cX0_takeEntry 18 = .ok (.iadd, 1) := by decide +kernel
theorem dX0_takeEntry_19 : decode cX0_takeEntry 19 = .ok (.invokevirtual 76, 3) := by decide +kernel
theorem dX0_takeEntry_22 : decode cX0_takeEntry 22 = .ok (.bipush 45, 2) := by decide +kernel
theorem dX0_takeEntry_24 : decode cX0_takeEntry 24 = .ok (.if_icmp .ne 8, 3) := by decide +kernel
theorem dX0_takeEntry_27 : decode cX0_takeEntry 27 = .ok (.iload_n 2, 1) := by decide +kernel
theorem dX0_takeEntry_28 : decode cX0_takeEntry 28 = .ok (.ineg, 1) := by decide +kernel
theorem dX0_takeEntry_29 : decode cX0_takeEntry 29 = .ok (.goto 4, 3) := by decide +kernel
theorem dX0_takeEntry_32 : decode cX0_takeEntry 32 = .ok (.iload_n 2, 1) := by decide +kernel
theorem dX0_takeEntry_33 : decode cX0_takeEntry 33 = .ok (.invokestatic 34, 3) := by decide +kernel
theorem dX0_takeEntry_36 : decode cX0_takeEntry 36 = .ok (.aload_n 0, 1) := by decide +kernel
theorem dX0_takeEntry_37 : decode cX0_takeEntry 37 = .ok (.getfield 22, 3) := by decide +kernel
theorem dX0_takeEntry_40 : decode cX0_takeEntry 40 = .ok (.aload_n 0, 1) := by decide +kernel
theorem dX0_takeEntry_41 : decode cX0_takeEntry 41 = .ok (.iload_n 1, 1) := by decide +kernel
theorem dX0_takeEntry_42 : decode cX0_takeEntry 42 = .ok (.invokevirtual 69, 3) := by decide +kernel
theorem dX0_takeEntry_45 : decode cX0_takeEntry 45 = .ok (.iconst 1, 1) := by decide +kernel
theorem dX0_takeEntry_46 : decode cX0_takeEntry 46 = .ok (.invokestatic 34, 3) := by decide +kernel
theorem dX0_takeEntry_49 : decode cX0_takeEntry 49 = .ok (.aload_n 0, 1) := by decide +kernel
theorem dX0_takeEntry_50 : decode cX0_takeEntry 50 = .ok (.dup, 1) := by decide +kernel
theorem dX0_takeEntry_51 : decode cX0_takeEntry 51 = .ok (.getfield 25, 3) := by decide +kernel
theorem dX0_takeEntry_54 : decode cX0_takeEntry 54 = .ok (.iconst 1, 1) := by decide +kernel
theorem dX0_takeEntry_55 : decode cX0_takeEntry 55 = .ok (.iadd, 1) := by decide +kernel
theorem dX0_takeEntry_56 : decode cX0_takeEntry 56 = .ok (.putfield 25, 3) := by decide +kernel
theorem dX0_takeEntry_59 : decode cX0_takeEntry 59 = .ok (.return_, 1) := by decide +kernel
theorem dX0_entryLength_0 : decode cX0_entryLength 0 = .ok (.aload_n 0, 1) := by decide +kernel
theorem dX0_entryLength_1 : decode cX0_entryLength 1 = .ok (.iload_n 1, 1) := by decide +kernel
theorem dX0_entryLength_2 : decode cX0_entryLength 2 = .ok (.iconst 2, 1) := by decide +kernel
theorem dX0_entryLength_3 : decode cX0_entryLength 3 = .ok (.iadd, 1) := by decide +kernel
theorem dX0_entryLength_4 : decode cX0_entryLength 4 = .ok (.invokevirtual 76, 3) := by decide +kernel
theorem dX0_entryLength_7 : decode cX0_entryLength 7 = .ok (.istore_n 2, 1) := by decide +kernel
theorem dX0_entryLength_8 : decode cX0_entryLength 8 = .ok (.aload_n 0, 1) := by decide +kernel
theorem dX0_entryLength_9 : decode cX0_entryLength 9 = .ok (.iload_n 1, 1) := by decide +kernel
theorem dX0_entryLength_10 : decode cX0_entryLength 10 = .ok (.invokevirtual 79, 3) := by decide +kernel
theorem dX0_entryLength_13 : decode cX0_entryLength 13 = .ok (.ifCond .eq 35, 3) := by decide +kernel
theorem dX0_entryLength_16 : decode cX0_entryLength 16 = .ok (.aload_n 0, 1) := by decide +kernel
theorem dX0_entryLength_17 : decode cX0_entryLength 17 = .ok (.iload_n 1, 1) := by decide +kernel
theorem dX0_entryLength_18 : decode cX0_entryLength 18 = .ok (.iconst 1, 1) := by decide +kernel
theorem dX0_entryLength_19 : decode cX0_entryLength 19 = .ok (.iadd, 1) := by decide +kernel
theorem dX0_entryLength_20 : decode cX0_entryLength 20 = .ok (.invokevirtual 79, 3) := by decide +kernel
theorem dX0_entryLength_23 : decode cX0_entryLength 23 = .ok (.ifCond .eq 25, 3) := by decide +kernel
theorem dX0_entryLength_26 : decode cX0_entryLength 26 = .ok (.iload_n 2, 1) := by decide +kernel
theorem dX0_entryLength_27 : decode cX0_entryLength 27 = .ok (.bipush 43, 2) := by decide +kernel
theorem dX0_entryLength_29 : decode cX0_entryLength 29 = .ok (.if_icmp .eq 9, 3) := by decide +kernel
theorem dX0_entryLength_32 : decode cX0_entryLength 32 = .ok (.iload_n 2, 1) := by decide +kernel
theorem dX0_entryLength_33 : decode cX0_entryLength 33 = .ok (.bipush 45, 2) := by decide +kernel
theorem dX0_entryLength_35 : decode cX0_entryLength 35 = .ok (.if_icmp .ne 13, 3) := by decide +kernel
theorem dX0_entryLength_38 : decode cX0_entryLength 38 = .ok (.aload_n 0, 1) := by decide +kernel
theorem dX0_entryLength_39 : decode cX0_entryLength 39 = .ok (.iload_n 1, 1) := by decide +kernel
theorem dX0_entryLength_40 : decode cX0_entryLength 40 = .ok (.iconst 3, 1) := by decide +kernel
theorem dX0_entryLength_41 : decode cX0_entryLength 41 = .ok (.iadd, 1) := by decide +kernel
theorem dX0_entryLength_42 : decode cX0_entryLength 42 = .ok (.invokevirtual 79, 3) := by decide +kernel
theorem dX0_entryLength_45 : decode cX0_entryLength 45 = .ok (.ifCond .ne 5, 3) := by decide +kernel
theorem dX0_entryLength_48 : decode cX0_entryLength 48 = .ok (.iconst 0, 1) := by decide +kernel
theorem dX0_entryLength_49 : decode cX0_entryLength 49 = .ok (.ireturn, 1) := by decide +kernel
theorem dX0_entryLength_50 : decode cX0_entryLength 50 = .ok (.aload_n 0, 1) := by decide +kernel
theorem dX0_entryLength_51 : decode cX0_entryLength 51 = .ok (.iload_n 1, 1) := by decide +kernel
theorem dX0_entryLength_52 : decode cX0_entryLength 52 = .ok (.iconst 4, 1) := by decide +kernel
theorem dX0_entryLength_53 : decode cX0_entryLength 53 = .ok (.iadd, 1) := by decide +kernel
theorem dX0_entryLength_54 : decode cX0_entryLength 54 = .ok (.invokevirtual 79, 3) := by decide +kernel
theorem dX0_entryLength_57 : decode cX0_entryLength 57 = .ok (.ifCond .eq 9, 3) := by decide +kernel
theorem dX0_entryLength_60 : decode cX0_entryLength 60 = .ok (.iload_n 1, 1) := by decide +kernel
theorem dX0_entryLength_61 : decode cX0_entryLength 61 = .ok (.iconst 5, 1) := by decide +kernel
theorem dX0_entryLength_62 : decode cX0_entryLength 62 = .ok (.iadd, 1) := by decide +kernel
theorem dX0_entryLength_63 : decode cX0_entryLength 63 = .ok (.goto 6, 3) := by decide +kernel
theorem dX0_entryLength_66 : decode cX0_entryLength 66 = .ok (.iload_n 1, 1) := by decide +kernel
theorem dX0_entryLength_67 : decode cX0_entryLength 67 = .ok (.iconst 4, 1) := by decide +kernel
theorem dX0_entryLength_68 : decode cX0_entryLength 68 = .ok (.iadd, 1) := by decide +kernel
theorem dX0_entryLength_69 : decode cX0_entryLength 69 = .ok (.istore_n 3, 1) := by decide +kernel
theorem dX0_entryLength_70 : decode cX0_entryLength 70 = .ok (.aload_n 0, 1) := by decide +kernel
theorem dX0_entryLength_71 : decode cX0_entryLength 71 = .ok (.iload_n 3, 1) := by decide +kernel
theorem dX0_entryLength_72 : decode cX0_entryLength 72 = .ok (.invokevirtual 76, 3) := by decide +kernel
theorem dX0_entryLength_75 : decode cX0_entryLength 75 = .ok (.bipush 59, 2) := by decide +kernel
theorem dX0_entryLength_77 : decode cX0_entryLength 77 = .ok (.if_icmp .ne 11, 3) := by decide +kernel
theorem dX0_entryLength_80 : decode cX0_entryLength 80 = .ok (.iload_n 3, 1) := by decide +kernel
theorem dX0_entryLength_81 : decode cX0_entryLength 81 = .ok (.iconst 1, 1) := by decide +kernel
theorem dX0_entryLength_82 : decode cX0_entryLength 82 = .ok (.iadd, 1) := by decide +kernel
theorem dX0_entryLength_83 : decode cX0_entryLength 83 = .ok (.iload_n 1, 1) := by decide +kernel
theorem dX0_entryLength_84 : decode cX0_entryLength 84 = .ok (.isub, 1) := by decide +kernel
theorem dX0_entryLength_85 : decode cX0_entryLength 85 = .ok (.goto 4, 3) := by decide +kernel
theorem dX0_entryLength_88 : decode cX0_entryLength 88 = .ok (.iconst 0, 1) := by decide +kernel
theorem dX0_entryLength_89 : decode cX0_entryLength 89 = .ok (.ireturn, 1) := by decide +kernel
theorem dX0_amount_0 : decode cX0_amount 0 = .ok (.aload_n 0, 1) := by decide +kernel
theorem dX0_amount_1 : decode cX0_amount 1 = .ok (.iload_n 1, 1) := by decide +kernel
theorem dX0_amount_2 : decode cX0_amount 2 = .ok (.iconst 3, 1) := by decide +kernel
theorem dX0_amount_3 : decode cX0_amount 3 = .ok (.iadd, 1) := by decide +kernel
theorem dX0_amount_4 : decode cX0_amount 4 = .ok (.invokevirtual 55, 3) := by decide +kernel
theorem dX0_amount_7 : decode cX0_amount 7 = .ok (.istore_n 2, 1) := by decide +kernel
theorem dX0_amount_8 : decode cX0_amount 8 = .ok (.aload_n 0, 1) := by decide +kernel
theorem dX0_amount_9 : decode cX0_amount 9 = .ok (.iload_n 1, 1) := by decide +kernel
theorem dX0_amount_10 : decode cX0_amount 10 = .ok (.iconst 4, 1) := by decide +kernel
theorem dX0_amount_11 : decode cX0_amount 11 = .ok (.iadd, 1) := by decide +kernel
theorem dX0_amount_12 : decode cX0_amount 12 = .ok (.invokevirtual 79, 3) := by decide +kernel
theorem dX0_amount_15 : decode cX0_amount 15 = .ok (.ifCond .eq 18, 3) := by decide +kernel
theorem dX0_amount_18 : decode cX0_amount 18 = .ok (.iload_n 2, 1) := by decide +kernel
theorem dX0_amount_19 : decode cX0_amount 19 = .ok (.bipush 10, 2) := by decide +kernel
theorem dX0_amount_21 : decode cX0_amount 21 = .ok (.imul, 1) := by decide +kernel
theorem dX0_amount_22 : decode cX0_amount 22 = .ok (.aload_n 0, 1) := by decide +kernel
theorem dX0_amount_23 : decode cX0_amount 23 = .ok (.iload_n 1, 1) := by decide +kernel
theorem dX0_amount_24 : decode cX0_amount 24 = .ok (.iconst 4, 1) := by decide +kernel
theorem dX0_amount_25 : decode cX0_amount 25 = .ok (.iadd, 1) := by decide +kernel
theorem dX0_amount_26 : decode cX0_amount 26 = .ok (.invokevirtual 55, 3) := by decide +kernel
theorem dX0_amount_29 : decode cX0_amount 29 = .ok (.iadd, 1) := by decide +kernel
theorem dX0_amount_30 : decode cX0_amount 30 = .ok (.goto 4, 3) := by decide +kernel
theorem dX0_amount_33 : decode cX0_amount 33 = .ok (.iload_n 2, 1) := by decide +kernel
theorem dX0_amount_34 : decode cX0_amount 34 = .ok (.ireturn, 1) := by decide +kernel
theorem dX0_entryCell_0 : decode cX0_entryCell 0 = .ok (.aload_n 0, 1) := by decide +kernel
theorem dX0_entryCell_1 : decode cX0_entryCell 1 = .ok (.iload_n 1, 1) := by decide +kernel
theorem dX0_entryCell_2 : decode cX0_entryCell 2 = .ok (.invokevirtual 55, 3) := by decide +kernel
theorem dX0_entryCell_5 : decode cX0_entryCell 5 = .ok (.aload_n 0, 1) := by decide +kernel
theorem dX0_entryCell_6 : decode cX0_entryCell 6 = .ok (.iload_n 1, 1) := by decide +kernel
theorem dX0_entryCell_7 : decode cX0_entryCell 7 = .ok (.iconst 1, 1) := by decide +kernel
theorem dX0_entryCell_8 : decode cX0_entryCell 8 = .ok (.iadd, 1) := by decide +kernel
theorem dX0_entryCell_9 : decode cX0_entryCell 9 = .ok (.invokevirtual 55, 3) := by decide +kernel
theorem dX0_entryCell_12 : decode cX0_entryCell 12 = .ok (.invokestatic 82, 3) := by decide +kernel
theorem dX0_entryCell_15 : decode cX0_entryCell 15 = .ok (.ireturn, 1) := by decide +kernel
theorem dX0_characterAt_0 : decode cX0_characterAt 0 = .ok (.iload_n 1, 1) := by decide +kernel
theorem dX0_characterAt_1 : decode cX0_characterAt 1 = .ok (.aload_n 0, 1) := by decide +kernel
theorem dX0_characterAt_2 : decode cX0_characterAt 2 = .ok (.getfield 15, 3) := by decide +kernel
theorem dX0_characterAt_5 : decode cX0_characterAt 5 = .ok (.if_icmp .ge 14, 3) := by decide +kernel
theorem dX0_characterAt_8 : decode cX0_characterAt 8 = .ok (.aload_n 0, 1) := by decide +kernel
theorem dX0_characterAt_9 : decode cX0_characterAt 9 = .ok (.getfield 9, 3) := by decide +kernel
theorem dX0_characterAt_12 : decode cX0_characterAt 12 = .ok (.iload_n 1, 1) := by decide +kernel
theorem dX0_characterAt_13 : decode cX0_characterAt 13 = .ok (.invokestatic 72, 3) := by decide +kernel
theorem dX0_characterAt_16 : decode cX0_characterAt 16 = .ok (.goto 4, 3) := by decide +kernel
theorem dX0_characterAt_19 : decode cX0_characterAt 19 = .ok (.iconst 0, 1) := by decide +kernel
theorem dX0_characterAt_20 : decode cX0_characterAt 20 = .ok (.ireturn, 1) := by decide +kernel
theorem dX0_isDigit_0 : decode cX0_isDigit 0 = .ok (.aload_n 0, 1) := by decide +kernel
theorem dX0_isDigit_1 : decode cX0_isDigit 1 = .ok (.iload_n 1, 1) := by decide +kernel
theorem dX0_isDigit_2 : decode cX0_isDigit 2 = .ok (.invokevirtual 76, 3) := by decide +kernel
theorem dX0_isDigit_5 : decode cX0_isDigit 5 = .ok (.bipush 48, 2) := by decide +kernel
theorem dX0_isDigit_7 : decode cX0_isDigit 7 = .ok (.bipush 57, 2) := by decide +kernel
theorem dX0_isDigit_9 : decode cX0_isDigit 9 = .ok (.invokestatic 85, 3) := by decide +kernel
theorem dX0_isDigit_12 : decode cX0_isDigit 12 = .ok (.ifCond .ne 7, 3) := by decide +kernel
theorem dX0_isDigit_15 : decode cX0_isDigit 15 = .ok (.iconst 1, 1) := by decide +kernel
theorem dX0_isDigit_16 : decode cX0_isDigit 16 = .ok (.goto 4, 3) := by decide +kernel
theorem dX0_isDigit_19 : decode cX0_isDigit 19 = .ok (.iconst 0, 1) := by decide +kernel
theorem dX0_isDigit_20 : decode cX0_isDigit 20 = .ok (.ireturn, 1) := by decide +kernel
theorem dX0_digitAt_0 : decode cX0_digitAt 0 = .ok (.aload_n 0, 1) := by decide +kernel
theorem dX0_digitAt_1 : decode cX0_digitAt 1 = .ok (.iload_n 1, 1) := by decide +kernel
theorem dX0_digitAt_2 : decode cX0_digitAt 2 = .ok (.invokevirtual 76, 3) := by decide +kernel
theorem dX0_digitAt_5 : decode cX0_digitAt 5 = .ok (.bipush 48, 2) := by decide +kernel
theorem dX0_digitAt_7 : decode cX0_digitAt 7 = .ok (.isub, 1) := by decide +kernel
theorem dX0_digitAt_8 : decode cX0_digitAt 8 = .ok (.ireturn, 1) := by decide +kernel
theorem dX1_init_0 : decode cX1_init 0 = .ok (.aload_n 0, 1) := by decide +kernel
theorem dX1_init_1 : decode cX1_init 1 = .ok (.invokespecial 1, 3) := by decide +kernel
theorem dX1_init_4 : decode cX1_init 4 = .ok (.aload_n 0, 1) := by decide +kernel
theorem dX1_init_5 : decode cX1_init 5 = .ok (.iconst 0, 1) := by decide +kernel
theorem dX1_init_6 : decode cX1_init 6 = .ok (.putfield 7, 3) := by decide +kernel
theorem dX1_init_9 : decode cX1_init 9 = .ok (.aload_n 0, 1) := by decide +kernel
theorem dX1_init_10 : decode cX1_init 10 = .ok (.iconst 0, 1) := by decide +kernel
theorem dX1_init_11 : decode cX1_init 11 = .ok (.putfield 13, 3) := by decide +kernel
theorem dX1_init_14 : decode cX1_init 14 = .ok (.aload_n 0, 1) := by decide +kernel
theorem dX1_init_15 : decode cX1_init 15 = .ok (.iconst 0, 1) := by decide +kernel
theorem dX1_init_16 : decode cX1_init 16 = .ok (.putfield 16, 3) := by decide +kernel
theorem dX1_init_19 : decode cX1_init 19 = .ok (.aload_n 0, 1) := by decide +kernel
theorem dX1_init_20 : decode cX1_init 20 = .ok (.iconst 0, 1) := by decide +kernel
theorem dX1_init_21 : decode cX1_init 21 = .ok (.putfield 19, 3) := by decide +kernel
theorem dX1_init_24 : decode cX1_init 24 = .ok (.return_, 1) := by decide +kernel
theorem dX1_search_0 : decode cX1_search 0 = .ok (.aload_n 0, 1) := by decide +kernel
theorem dX1_search_1 : decode cX1_search 1 = .ok (.aload_n 1, 1) := by decide +kernel
theorem dX1_search_2 : decode cX1_search 2 = .ok (.iconst 0, 1) := by decide +kernel
theorem dX1_search_3 : decode cX1_search 3 = .ok (.iload_n 2, 1) := by decide +kernel
theorem dX1_search_4 : decode cX1_search 4 = .ok (.invokevirtual 22, 3) := by decide +kernel
theorem dX1_search_7 : decode cX1_search 7 = .ok (.aload_n 1, 1) := by decide +kernel
theorem dX1_search_8 : decode cX1_search 8 = .ok (.iconst 1, 1) := by decide +kernel
theorem dX1_search_9 : decode cX1_search 9 = .ok (.iload_n 2, 1) := by decide +kernel
theorem dX1_search_10 : decode cX1_search 10 = .ok (.invokevirtual 22, 3) := by decide +kernel
theorem dX1_search_13 : decode cX1_search 13 = .ok (.aload_n 1, 1) := by decide +kernel
theorem dX1_search_14 : decode cX1_search 14 = .ok (.iconst 2, 1) := by decide +kernel
theorem dX1_search_15 : decode cX1_search 15 = .ok (.iload_n 2, 1) := by decide +kernel
theorem dX1_search_16 : decode cX1_search 16 = .ok (.invokevirtual 22, 3) := by decide +kernel
theorem dX1_search_19 : decode cX1_search 19 = .ok (.invokestatic 28, 3) := by decide +kernel
theorem dX1_search_22 : decode cX1_search 22 = .ok (.putfield 7, 3) := by decide +kernel
theorem dX1_search_25 : decode cX1_search 25 = .ok (.aload_n 0, 1) := by decide +kernel
theorem dX1_search_26 : decode cX1_search 26 = .ok (.getfield 7, 3) := by decide +kernel
theorem dX1_search_29 : decode cX1_search 29 = .ok (.invokestatic 34, 3) := by decide +kernel
theorem dX1_search_32 : decode cX1_search 32 = .ok (.istore_n 3, 1) := by decide +kernel
theorem dX1_search_33 : decode cX1_search 33 = .ok (.aload_n 0, 1) := by decide +kernel
theorem dX1_search_34 : decode cX1_search 34 = .ok (.aload_n 1, 1) := by decide +kernel
theorem dX1_search_35 : decode cX1_search 35 = .ok (.iload_n 2, 1) := by decide +kernel
theorem dX1_search_36 : decode cX1_search 36 = .ok (.iload_n 3, 1) := by decide +kernel
theorem dX1_search_37 : decode cX1_search 37 = .ok (.invokevirtual 38, 3) := by decide +kernel
theorem dX1_search_40 : decode cX1_search 40 = .ok (.aload_n 0, 1) := by decide +kernel
theorem dX1_search_41 : decode cX1_search 41 = .ok (.iconst 2, 1) := by decide +kernel
theorem dX1_search_42 : decode cX1_search 42 = .ok (.putfield 19, 3) := by decide +kernel
theorem dX1_search_45 : decode cX1_search 45 = .ok (.aload_n 0, 1) := by decide +kernel
theorem dX1_search_46 : decode cX1_search 46 = .ok (.getfield 13, 3) := by decide +kernel
theorem dX1_search_49 : decode cX1_search 49 = .ok (.invokestatic 34, 3) := by decide +kernel
theorem dX1_search_52 : decode cX1_search 52 = .ok (.iload_n 3, 1) := by decide +kernel
theorem dX1_search_53 : decode cX1_search 53 = .ok (.if_icmp .eq 21, 3) := by decide +kernel
theorem dX1_search_56 : decode cX1_search 56 = .ok (.aload_n 0, 1) := by decide +kernel
theorem dX1_search_57 : decode cX1_search 57 = .ok (.aload_n 1, 1) := by decide +kernel
theorem dX1_search_58 : decode cX1_search 58 = .ok (.iload_n 2, 1) := by decide +kernel
theorem dX1_search_59 : decode cX1_search 59 = .ok (.aload_n 0, 1) := by decide +kernel
theorem dX1_search_60 : decode cX1_search 60 = .ok (.getfield 13, 3) := by decide +kernel
theorem dX1_search_63 : decode cX1_search 63 = .ok (.invokestatic 34, 3) := by decide +kernel
theorem dX1_search_66 : decode cX1_search 66 = .ok (.invokevirtual 38, 3) := by decide +kernel
theorem dX1_search_69 : decode cX1_search 69 = .ok (.aload_n 0, 1) := by decide +kernel
theorem dX1_search_70 : decode cX1_search 70 = .ok (.iconst 3, 1) := by decide +kernel
theorem dX1_search_71 : decode cX1_search 71 = .ok (.putfield 19, 3) := by decide +kernel
theorem dX1_search_74 : decode cX1_search 74 = .ok (.return_, 1) := by decide +kernel
theorem dX1_searchCorrected_0 : decode cX1_searchCorrected 0 = .ok (.aload_n 1, 1) := by decide +kernel
theorem dX1_searchCorrected_1 : decode cX1_searchCorrected 1 = .ok (.iconst 0, 1) := by decide +kernel
theorem dX1_searchCorrected_2 : decode cX1_searchCorrected 2 = .ok (.aload_n 1, 1) := by decide +kernel
theorem dX1_searchCorrected_3 : decode cX1_searchCorrected 3 = .ok (.iconst 0, 1) := by decide +kernel
theorem dX1_searchCorrected_4 : decode cX1_searchCorrected 4 = .ok (.iload_n 2, 1) := by decide +kernel
theorem dX1_searchCorrected_5 : decode cX1_searchCorrected 5 = .ok (.invokevirtual 22, 3) := by decide +kernel
theorem dX1_searchCorrected_8 : decode cX1_searchCorrected 8 = .ok (.iload_n 3, 1) := by decide +kernel
theorem dX1_searchCorrected_9 : decode cX1_searchCorrected 9 = .ok (.invokevirtual 42, 3) := by decide +kernel
theorem dX1_searchCorrected_12 : decode cX1_searchCorrected 12 = .ok (.istore 4, 2) := by decide +kernel
theorem dX1_searchCorrected_14 : decode cX1_searchCorrected 14 = .ok (.aload_n 1, 1) := by decide +kernel
theorem dX1_searchCorrected_15 : decode cX1_searchCorrected 15 = .ok (.iconst 1, 1) := by decide +kernel
theorem dX1_searchCorrected_16 : decode cX1_searchCorrected 16 = .ok (.aload_n 1, 1) := by decide +kernel
theorem dX1_searchCorrected_17 : decode cX1_searchCorrected 17 = .ok (.iconst 1, 1) := by decide +kernel
theorem dX1_searchCorrected_18 : decode cX1_searchCorrected 18 = .ok (.iload_n 2, 1) := by decide +kernel
theorem dX1_searchCorrected_19 : decode cX1_searchCorrected 19 = .ok (.invokevirtual 22, 3) := by decide +kernel
theorem dX1_searchCorrected_22 : decode cX1_searchCorrected 22 = .ok (.iload_n 3, 1) := by decide +kernel
theorem dX1_searchCorrected_23 : decode cX1_searchCorrected 23 = .ok (.invokevirtual 42, 3) := by decide +kernel
theorem dX1_searchCorrected_26 : decode cX1_searchCorrected 26 = .ok (.istore 5, 2) := by decide +kernel
theorem dX1_searchCorrected_28 : decode cX1_searchCorrected 28 = .ok (.aload_n 1, 1) := by decide +kernel
theorem dX1_searchCorrected_29 : decode cX1_searchCorrected 29 = .ok (.iconst 2, 1) := by decide +kernel
theorem dX1_searchCorrected_30 : decode cX1_searchCorrected 30 = .ok (.aload_n 1, 1) := by decide +kernel
theorem dX1_searchCorrected_31 : decode cX1_searchCorrected 31 = .ok (.iconst 2, 1) := by decide +kernel
theorem dX1_searchCorrected_32 : decode cX1_searchCorrected 32 = .ok (.iload_n 2, 1) := by decide +kernel
theorem dX1_searchCorrected_33 : decode cX1_searchCorrected 33 = .ok (.invokevirtual 22, 3) := by decide +kernel
theorem dX1_searchCorrected_36 : decode cX1_searchCorrected 36 = .ok (.iload_n 3, 1) := by decide +kernel
theorem dX1_searchCorrected_37 : decode cX1_searchCorrected 37 = .ok (.invokevirtual 42, 3) := by decide +kernel
theorem dX1_searchCorrected_40 : decode cX1_searchCorrected 40 = .ok (.istore 6, 2) := by decide +kernel
theorem dX1_searchCorrected_42 : decode cX1_searchCorrected 42 = .ok (.aload_n 0, 1) := by decide +kernel
theorem dX1_searchCorrected_43 : decode cX1_searchCorrected 43 = .ok (.iload 4, 2) := by decide +kernel
theorem dX1_searchCorrected_45 : decode cX1_searchCorrected 45 = .ok (.iload 5, 2) := by decide +kernel
theorem dX1_searchCorrected_47 : decode cX1_searchCorrected 47 = .ok (.iload 6, 2) := by decide +kernel
theorem dX1_searchCorrected_49 : decode cX1_searchCorrected 49 = .ok (.invokestatic 28, 3) := by decide +kernel
theorem dX1_searchCorrected_52 : decode cX1_searchCorrected 52 = .ok (.putfield 13, 3) := by decide +kernel
theorem dX1_searchCorrected_55 : decode cX1_searchCorrected 55 = .ok (.aload_n 0, 1) := by decide +kernel
theorem dX1_searchCorrected_56 : decode cX1_searchCorrected 56 = .ok (.aload_n 0, 1) := by decide +kernel
theorem dX1_searchCorrected_57 : decode cX1_searchCorrected 57 = .ok (.getfield 13, 3) := by decide +kernel
theorem dX1_searchCorrected_60 : decode cX1_searchCorrected 60 = .ok (.iload 4, 2) := by decide +kernel
theorem dX1_searchCorrected_62 : decode cX1_searchCorrected 62 = .ok (.iload 5, 2) := by decide +kernel
theorem dX1_searchCorrected_64 : decode cX1_searchCorrected 64 = .ok (.iload 6, 2) := by decide +kernel
theorem dX1_searchCorrected_66 : decode cX1_searchCorrected 66 = .ok (.invokestatic 45, 3) := by decide +kernel
theorem dX1_searchCorrected_69 : decode cX1_searchCorrected 69 = .ok (.putfield 16, 3) := by decide +kernel
theorem dX1_searchCorrected_72 : decode cX1_searchCorrected 72 = .ok (.return_, 1) := by decide +kernel
theorem dX2_init_0 : decode cX2_init 0 = .ok (.aload_n 0, 1) := by decide +kernel
theorem dX2_init_1 : decode cX2_init 1 = .ok (.invokespecial 3, 3) := by decide +kernel
theorem dX2_init_4 : decode cX2_init 4 = .ok (.aload_n 0, 1) := by decide +kernel
theorem dX2_init_5 : decode cX2_init 5 = .ok (.iconst 4, 1) := by decide +kernel
theorem dX2_init_6 : decode cX2_init 6 = .ok (.anewarray 9, 3) := by decide +kernel
theorem dX2_init_9 : decode cX2_init 9 = .ok (.dup, 1) := by decide +kernel
theorem dX2_init_10 : decode cX2_init 10 = .ok (.iconst 0, 1) := by decide +kernel
theorem dX2_init_11 : decode cX2_init 11 = .ok (.new 9, 3) := by decide +kernel
theorem dX2_init_14 : decode cX2_init 14 = .ok (.dup, 1) := by decide +kernel
theorem dX2_init_15 : decode cX2_init 15 = .ok (.invokespecial 11, 3) := by decide +kernel
theorem dX2_init_18 : decode cX2_init 18 = .ok (.aastore, 1) := by decide +kernel
theorem dX2_init_19 : decode cX2_init 19 = .ok (.dup, 1) := by decide +kernel
theorem dX2_init_20 : decode cX2_init 20 = .ok (.iconst 1, 1) := by decide +kernel
theorem dX2_init_21 : decode cX2_init 21 = .ok (.new 9, 3) := by decide +kernel
theorem dX2_init_24 : decode cX2_init 24 = .ok (.dup, 1) := by decide +kernel
theorem dX2_init_25 : decode cX2_init 25 = .ok (.invokespecial 11, 3) := by decide +kernel
theorem dX2_init_28 : decode cX2_init 28 = .ok (.aastore, 1) := by decide +kernel
theorem dX2_init_29 : decode cX2_init 29 = .ok (.dup, 1) := by decide +kernel
theorem dX2_init_30 : decode cX2_init 30 = .ok (.iconst 2, 1) := by decide +kernel
theorem dX2_init_31 : decode cX2_init 31 = .ok (.new 9, 3) := by decide +kernel
theorem dX2_init_34 : decode cX2_init 34 = .ok (.dup, 1) := by decide +kernel
theorem dX2_init_35 : decode cX2_init 35 = .ok (.invokespecial 11, 3) := by decide +kernel
theorem dX2_init_38 : decode cX2_init 38 = .ok (.aastore, 1) := by decide +kernel
theorem dX2_init_39 : decode cX2_init 39 = .ok (.dup, 1) := by decide +kernel
theorem dX2_init_40 : decode cX2_init 40 = .ok (.iconst 3, 1) := by decide +kernel
theorem dX2_init_41 : decode cX2_init 41 = .ok (.new 9, 3) := by decide +kernel
theorem dX2_init_44 : decode cX2_init 44 = .ok (.dup, 1) := by decide +kernel
theorem dX2_init_45 : decode cX2_init 45 = .ok (.invokespecial 11, 3) := by decide +kernel
theorem dX2_init_48 : decode cX2_init 48 = .ok (.aastore, 1) := by decide +kernel
theorem dX2_init_49 : decode cX2_init 49 = .ok (.putfield 12, 3) := by decide +kernel
theorem dX2_init_52 : decode cX2_init 52 = .ok (.aload_n 0, 1) := by decide +kernel
theorem dX2_init_53 : decode cX2_init 53 = .ok (.iconst 0, 1) := by decide +kernel
theorem dX2_init_54 : decode cX2_init 54 = .ok (.putfield 18, 3) := by decide +kernel
theorem dX2_init_57 : decode cX2_init 57 = .ok (.aload_n 0, 1) := by decide +kernel
theorem dX2_init_58 : decode cX2_init 58 = .ok (.iconst 0, 1) := by decide +kernel
theorem dX2_init_59 : decode cX2_init 59 = .ok (.putfield 22, 3) := by decide +kernel
theorem dX2_init_62 : decode cX2_init 62 = .ok (.return_, 1) := by decide +kernel
theorem dX2_slot_0 : decode cX2_slot 0 = .ok (.aload_n 0, 1) := by decide +kernel
theorem dX2_slot_1 : decode cX2_slot 1 = .ok (.getfield 18, 3) := by decide +kernel
theorem dX2_slot_4 : decode cX2_slot 4 = .ok (.iload_n 1, 1) := by decide +kernel
theorem dX2_slot_5 : decode cX2_slot 5 = .ok (.iadd, 1) := by decide +kernel
theorem dX2_slot_6 : decode cX2_slot 6 = .ok (.iconst 4, 1) := by decide +kernel
theorem dX2_slot_7 : decode cX2_slot 7 = .ok (.invokestatic 25, 3) := by decide +kernel
theorem dX2_slot_10 : decode cX2_slot 10 = .ok (.istore_n 2, 1) := by decide +kernel
theorem dX2_slot_11 : decode cX2_slot 11 = .ok (.iload_n 2, 1) := by decide +kernel
theorem dX2_slot_12 : decode cX2_slot 12 = .ok (.ifCond .lt 21, 3) := by decide +kernel
theorem dX2_slot_15 : decode cX2_slot 15 = .ok (.iload_n 2, 1) := by decide +kernel
theorem dX2_slot_16 : decode cX2_slot 16 = .ok (.aload_n 0, 1) := by decide +kernel
theorem dX2_slot_17 : decode cX2_slot 17 = .ok (.getfield 12, 3) := by decide +kernel
theorem dX2_slot_20 : decode cX2_slot 20 = .ok (.arraylength, 1) := by decide +kernel
theorem dX2_slot_21 : decode cX2_slot 21 = .ok (.if_icmp .ge 12, 3) := by decide +kernel
theorem dX2_slot_24 : decode cX2_slot 24 = .ok (.aload_n 0, 1) := by decide +kernel
theorem dX2_slot_25 : decode cX2_slot 25 = .ok (.getfield 12, 3) := by decide +kernel
theorem dX2_slot_28 : decode cX2_slot 28 = .ok (.iload_n 2, 1) := by decide +kernel
theorem dX2_slot_29 : decode cX2_slot 29 = .ok (.aaload, 1) := by decide +kernel
theorem dX2_slot_30 : decode cX2_slot 30 = .ok (.goto 4, 3) := by decide +kernel
theorem dX2_slot_33 : decode cX2_slot 33 = .ok (.aconst_null, 1) := by decide +kernel
theorem dX2_slot_34 : decode cX2_slot 34 = .ok (.areturn, 1) := by decide +kernel
theorem dX2_keep_0 : decode cX2_keep 0 = .ok (.aload_n 0, 1) := by decide +kernel
theorem dX2_keep_1 : decode cX2_keep 1 = .ok (.getfield 22, 3) := by decide +kernel
theorem dX2_keep_4 : decode cX2_keep 4 = .ok (.iconst 4, 1) := by decide +kernel
theorem dX2_keep_5 : decode cX2_keep 5 = .ok (.if_icmp .ne 27, 3) := by decide +kernel
theorem dX2_keep_8 : decode cX2_keep 8 = .ok (.aload_n 0, 1) := by decide +kernel
theorem dX2_keep_9 : decode cX2_keep 9 = .ok (.aload_n 0, 1) := by decide +kernel
theorem dX2_keep_10 : decode cX2_keep 10 = .ok (.getfield 18, 3) := by decide +kernel
theorem dX2_keep_13 : decode cX2_keep 13 = .ok (.iconst 1, 1) := by decide +kernel
theorem dX2_keep_14 : decode cX2_keep 14 = .ok (.iadd, 1) := by decide +kernel
theorem dX2_keep_15 : decode cX2_keep 15 = .ok (.iconst 4, 1) := by decide +kernel
theorem dX2_keep_16 : decode cX2_keep 16 = .ok (.invokestatic 25, 3) := by decide +kernel
theorem dX2_keep_19 : decode cX2_keep 19 = .ok (.putfield 18, 3) := by decide +kernel
theorem dX2_keep_22 : decode cX2_keep 22 = .ok (.aload_n 0, 1) := by decide +kernel
theorem dX2_keep_23 : decode cX2_keep 23 = .ok (.dup, 1) := by decide +kernel
theorem dX2_keep_24 : decode cX2_keep 24 = .ok (.getfield 22, 3) := by decide +kernel
theorem dX2_keep_27 : decode cX2_keep 27 = .ok (.iconst 1, 1) := by decide +kernel
theorem dX2_keep_28 : decode cX2_keep 28 = .ok (.isub, 1) := by decide +kernel
theorem dX2_keep_29 : decode cX2_keep 29 = .ok (.putfield 22, 3) := by decide +kernel
theorem dX2_keep_32 : decode cX2_keep 32 = .ok (.aload_n 0, 1) := by decide +kernel
theorem dX2_keep_33 : decode cX2_keep 33 = .ok (.aload_n 0, 1) := by decide +kernel
theorem dX2_keep_34 : decode cX2_keep 34 = .ok (.getfield 22, 3) := by decide +kernel
theorem dX2_keep_37 : decode cX2_keep 37 = .ok (.invokevirtual 29, 3) := by decide +kernel
theorem dX2_keep_40 : decode cX2_keep 40 = .ok (.astore_n 2, 1) := by decide +kernel
theorem dX2_keep_41 : decode cX2_keep 41 = .ok (.aload_n 2, 1) := by decide +kernel
theorem dX2_keep_42 : decode cX2_keep 42 = .ok (.ifnull 18, 3) := by decide +kernel
theorem dX2_keep_45 : decode cX2_keep 45 = .ok (.aload_n 2, 1) := by decide +kernel
theorem dX2_keep_46 : decode cX2_keep 46 = .ok (.aload_n 1, 1) := by decide +kernel
theorem dX2_keep_47 : decode cX2_keep 47 = .ok (.invokevirtual 33, 3) := by decide +kernel
theorem dX2_keep_50 : decode cX2_keep 50 = .ok (.aload_n 0, 1) := by decide +kernel
theorem dX2_keep_51 : decode cX2_keep 51 = .ok (.dup, 1) := by decide +kernel
theorem dX2_keep_52 : decode cX2_keep 52 = .ok (.getfield 22, 3) := by decide +kernel
theorem dX2_keep_55 : decode cX2_keep 55 = .ok (.iconst 1, 1) := by decide +kernel
theorem dX2_keep_56 : decode cX2_keep 56 = .ok (.iadd, 1) := by decide +kernel
theorem dX2_keep_57 : decode cX2_keep 57 = .ok (.putfield 22, 3) := by decide +kernel
theorem dX2_keep_60 : decode cX2_keep 60 = .ok (.return_, 1) := by decide +kernel
theorem dX2_restoreLatest_0 : decode cX2_restoreLatest 0 = .ok (.aload_n 0, 1) := by decide +kernel
theorem dX2_restoreLatest_1 : decode cX2_restoreLatest 1 = .ok (.aload_n 0, 1) := by decide +kernel
theorem dX2_restoreLatest_2 : decode cX2_restoreLatest 2 = .ok (.getfield 22, 3) := by decide +kernel
theorem dX2_restoreLatest_5 : decode cX2_restoreLatest 5 = .ok (.iconst 1, 1) := by decide +kernel
theorem dX2_restoreLatest_6 : decode cX2_restoreLatest 6 = .ok (.isub, 1) := by decide +kernel
theorem dX2_restoreLatest_7 : decode cX2_restoreLatest 7 = .ok (.invokevirtual 29, 3) := by decide +kernel
theorem dX2_restoreLatest_10 : decode cX2_restoreLatest 10 = .ok (.astore_n 2, 1) := by decide +kernel
theorem dX2_restoreLatest_11 : decode cX2_restoreLatest 11 = .ok (.aload_n 2, 1) := by decide +kernel
theorem dX2_restoreLatest_12 : decode cX2_restoreLatest 12 = .ok (.ifnull 18, 3) := by decide +kernel
theorem dX2_restoreLatest_15 : decode cX2_restoreLatest 15 = .ok (.aload_n 1, 1) := by decide +kernel
theorem dX2_restoreLatest_16 : decode cX2_restoreLatest 16 = .ok (.aload_n 2, 1) := by decide +kernel
theorem dX2_restoreLatest_17 : decode cX2_restoreLatest 17 = .ok (.invokevirtual 33, 3) := by decide +kernel
theorem dX2_restoreLatest_20 : decode cX2_restoreLatest 20 = .ok (.aload_n 0, 1) := by decide +kernel
theorem dX2_restoreLatest_21 : decode cX2_restoreLatest 21 = .ok (.dup, 1) := by decide +kernel
theorem dX2_restoreLatest_22 : decode cX2_restoreLatest 22 = .ok (.getfield 22, 3) := by decide +kernel
theorem dX2_restoreLatest_25 : decode cX2_restoreLatest 25 = .ok (.iconst 1, 1) := by decide +kernel
theorem dX2_restoreLatest_26 : decode cX2_restoreLatest 26 = .ok (.isub, 1) := by decide +kernel
theorem dX2_restoreLatest_27 : decode cX2_restoreLatest 27 = .ok (.putfield 22, 3) := by decide +kernel
theorem dX2_restoreLatest_30 : decode cX2_restoreLatest 30 = .ok (.return_, 1) := by decide +kernel
theorem dX3_init_0 : decode cX3_init 0 = .ok (.aload_n 0, 1) := by decide +kernel
theorem dX3_init_1 : decode cX3_init 1 = .ok (.invokespecial 3, 3) := by decide +kernel
theorem dX3_init_4 : decode cX3_init 4 = .ok (.aload_n 0, 1) := by decide +kernel
theorem dX3_init_5 : decode cX3_init 5 = .ok (.iconst 0, 1) := by decide +kernel
theorem dX3_init_6 : decode cX3_init 6 = .ok (.putfield 9, 3) := by decide +kernel
theorem dX3_init_9 : decode cX3_init 9 = .ok (.aload_n 0, 1) := by decide +kernel
theorem dX3_init_10 : decode cX3_init 10 = .ok (.iconst 0, 1) := by decide +kernel
theorem dX3_init_11 : decode cX3_init 11 = .ok (.putfield 15, 3) := by decide +kernel
theorem dX3_init_14 : decode cX3_init 14 = .ok (.aload_n 0, 1) := by decide +kernel
theorem dX3_init_15 : decode cX3_init 15 = .ok (.iconst 1, 1) := by decide +kernel
theorem dX3_init_16 : decode cX3_init 16 = .ok (.putfield 18, 3) := by decide +kernel
theorem dX3_init_19 : decode cX3_init 19 = .ok (.aload_n 0, 1) := by decide +kernel
theorem dX3_init_20 : decode cX3_init 20 = .ok (.sipush 200, 3) := by decide +kernel
theorem dX3_init_23 : decode cX3_init 23 = .ok (.putfield 22, 3) := by decide +kernel
theorem dX3_init_26 : decode cX3_init 26 = .ok (.aload_n 0, 1) := by decide +kernel
theorem dX3_init_27 : decode cX3_init 27 = .ok (.iconst 0, 1) := by decide +kernel
theorem dX3_init_28 : decode cX3_init 28 = .ok (.putfield 25, 3) := by decide +kernel
theorem dX3_init_31 : decode cX3_init 31 = .ok (.aload_n 0, 1) := by decide +kernel
theorem dX3_init_32 : decode cX3_init 32 = .ok (.iconst (-1), 1) := by decide +kernel
theorem dX3_init_33 : decode cX3_init 33 = .ok (.putfield 28, 3) := by decide +kernel
theorem dX3_init_36 : decode cX3_init 36 = .ok (.aload_n 0, 1) := by decide +kernel
theorem dX3_init_37 : decode cX3_init 37 = .ok (.iconst 0, 1) := by decide +kernel
theorem dX3_init_38 : decode cX3_init 38 = .ok (.putfield 31, 3) := by decide +kernel
theorem dX3_init_41 : decode cX3_init 41 = .ok (.aload_n 0, 1) := by decide +kernel
theorem dX3_init_42 : decode cX3_init 42 = .ok (.iconst 4, 1) := by decide +kernel
theorem dX3_init_43 : decode cX3_init 43 = .ok (.newarray .int, 2) := by decide +kernel
theorem dX3_init_45 : decode cX3_init 45 = .ok (.dup, 1) := by decide +kernel
theorem dX3_init_46 : decode cX3_init 46 = .ok (.iconst 0, 1) := by decide +kernel
theorem dX3_init_47 : decode cX3_init 47 = .ok (.iconst 5, 1) := by decide +kernel
theorem dX3_init_48 : decode cX3_init 48 = .ok (.iastore, 1) := by decide +kernel
theorem dX3_init_49 : decode cX3_init 49 = .ok (.dup, 1) := by decide +kernel
theorem dX3_init_50 : decode cX3_init 50 = .ok (.iconst 1, 1) := by decide +kernel
theorem dX3_init_51 : decode cX3_init 51 = .ok (.iconst 2, 1) := by decide +kernel
theorem dX3_init_52 : decode cX3_init 52 = .ok (.iastore, 1) := by decide +kernel
theorem dX3_init_53 : decode cX3_init 53 = .ok (.dup, 1) := by decide +kernel
theorem dX3_init_54 : decode cX3_init 54 = .ok (.iconst 2, 1) := by decide +kernel
theorem dX3_init_55 : decode cX3_init 55 = .ok (.sipush 500, 3) := by decide +kernel
theorem dX3_init_58 : decode cX3_init 58 = .ok (.iastore, 1) := by decide +kernel
theorem dX3_init_59 : decode cX3_init 59 = .ok (.dup, 1) := by decide +kernel
theorem dX3_init_60 : decode cX3_init 60 = .ok (.iconst 3, 1) := by decide +kernel
theorem dX3_init_61 : decode cX3_init 61 = .ok (.iconst 0, 1) := by decide +kernel
theorem dX3_init_62 : decode cX3_init 62 = .ok (.iastore, 1) := by decide +kernel
theorem dX3_init_63 : decode cX3_init 63 = .ok (.putfield 34, 3) := by decide +kernel
theorem dX3_init_66 : decode cX3_init 66 = .ok (.aload_n 0, 1) := by decide +kernel
theorem dX3_init_67 : decode cX3_init 67 = .ok (.bipush 24, 2) := by decide +kernel
theorem dX3_init_69 : decode cX3_init 69 = .ok (.newarray .int, 2) := by decide +kernel
theorem dX3_init_71 : decode cX3_init 71 = .ok (.putfield 38, 3) := by decide +kernel
theorem dX3_init_74 : decode cX3_init 74 = .ok (.aload_n 0, 1) := by decide +kernel
theorem dX3_init_75 : decode cX3_init 75 = .ok (.iconst 3, 1) := by decide +kernel
theorem dX3_init_76 : decode cX3_init 76 = .ok (.newarray .int, 2) := by decide +kernel
theorem dX3_init_78 : decode cX3_init 78 = .ok (.putfield 41, 3) := by decide +kernel
theorem dX3_init_81 : decode cX3_init 81 = .ok (.aload_n 0, 1) := by decide +kernel
theorem dX3_init_82 : decode cX3_init 82 = .ok (.bipush 24, 2) := by decide +kernel
theorem dX3_init_84 : decode cX3_init 84 = .ok (.newarray .int, 2) := by decide +kernel
theorem dX3_init_86 : decode cX3_init 86 = .ok (.putfield 44, 3) := by decide +kernel
theorem dX3_init_89 : decode cX3_init 89 = .ok (.return_, 1) := by decide +kernel
theorem dX3_copyFrom_0 : decode cX3_copyFrom 0 = .ok (.aload_n 0, 1) := by decide +kernel
theorem dX3_copyFrom_1 : decode cX3_copyFrom 1 = .ok (.aload_n 1, 1) := by decide +kernel
theorem dX3_copyFrom_2 : decode cX3_copyFrom 2 = .ok (.getfield 9, 3) := by decide +kernel
theorem dX3_copyFrom_5 : decode cX3_copyFrom 5 = .ok (.putfield 9, 3) := by decide +kernel
theorem dX3_copyFrom_8 : decode cX3_copyFrom 8 = .ok (.aload_n 0, 1) := by decide +kernel
theorem dX3_copyFrom_9 : decode cX3_copyFrom 9 = .ok (.aload_n 1, 1) := by decide +kernel
theorem dX3_copyFrom_10 : decode cX3_copyFrom 10 = .ok (.getfield 15, 3) := by decide +kernel
theorem dX3_copyFrom_13 : decode cX3_copyFrom 13 = .ok (.putfield 15, 3) := by decide +kernel
theorem dX3_copyFrom_16 : decode cX3_copyFrom 16 = .ok (.aload_n 0, 1) := by decide +kernel
theorem dX3_copyFrom_17 : decode cX3_copyFrom 17 = .ok (.aload_n 1, 1) := by decide +kernel
theorem dX3_copyFrom_18 : decode cX3_copyFrom 18 = .ok (.getfield 18, 3) := by decide +kernel
theorem dX3_copyFrom_21 : decode cX3_copyFrom 21 = .ok (.putfield 18, 3) := by decide +kernel
theorem dX3_copyFrom_24 : decode cX3_copyFrom 24 = .ok (.aload_n 0, 1) := by decide +kernel
theorem dX3_copyFrom_25 : decode cX3_copyFrom 25 = .ok (.aload_n 1, 1) := by decide +kernel
theorem dX3_copyFrom_26 : decode cX3_copyFrom 26 = .ok (.getfield 22, 3) := by decide +kernel
theorem dX3_copyFrom_29 : decode cX3_copyFrom 29 = .ok (.putfield 22, 3) := by decide +kernel
theorem dX3_copyFrom_32 : decode cX3_copyFrom 32 = .ok (.aload_n 0, 1) := by decide +kernel
theorem dX3_copyFrom_33 : decode cX3_copyFrom 33 = .ok (.aload_n 1, 1) := by decide +kernel
theorem dX3_copyFrom_34 : decode cX3_copyFrom 34 = .ok (.getfield 25, 3) := by decide +kernel
theorem dX3_copyFrom_37 : decode cX3_copyFrom 37 = .ok (.putfield 25, 3) := by decide +kernel
theorem dX3_copyFrom_40 : decode cX3_copyFrom 40 = .ok (.aload_n 0, 1) := by decide +kernel
theorem dX3_copyFrom_41 : decode cX3_copyFrom 41 = .ok (.aload_n 1, 1) := by decide +kernel
theorem dX3_copyFrom_42 : decode cX3_copyFrom 42 = .ok (.getfield 28, 3) := by decide +kernel
theorem dX3_copyFrom_45 : decode cX3_copyFrom 45 = .ok (.putfield 28, 3) := by decide +kernel
theorem dX3_copyFrom_48 : decode cX3_copyFrom 48 = .ok (.aload_n 0, 1) := by decide +kernel
theorem dX3_copyFrom_49 : decode cX3_copyFrom 49 = .ok (.aload_n 1, 1) := by decide +kernel
theorem dX3_copyFrom_50 : decode cX3_copyFrom 50 = .ok (.getfield 31, 3) := by decide +kernel
theorem dX3_copyFrom_53 : decode cX3_copyFrom 53 = .ok (.putfield 31, 3) := by decide +kernel
theorem dX3_copyFrom_56 : decode cX3_copyFrom 56 = .ok (.aload_n 1, 1) := by decide +kernel
theorem dX3_copyFrom_57 : decode cX3_copyFrom 57 = .ok (.getfield 34, 3) := by decide +kernel
theorem dX3_copyFrom_60 : decode cX3_copyFrom 60 = .ok (.aload_n 0, 1) := by decide +kernel
theorem dX3_copyFrom_61 : decode cX3_copyFrom 61 = .ok (.getfield 34, 3) := by decide +kernel
theorem dX3_copyFrom_64 : decode cX3_copyFrom 64 = .ok (.invokestatic 47, 3) := by decide +kernel
theorem dX3_copyFrom_67 : decode cX3_copyFrom 67 = .ok (.aload_n 1, 1) := by decide +kernel
theorem dX3_copyFrom_68 : decode cX3_copyFrom 68 = .ok (.getfield 38, 3) := by decide +kernel
theorem dX3_copyFrom_71 : decode cX3_copyFrom 71 = .ok (.aload_n 0, 1) := by decide +kernel
theorem dX3_copyFrom_72 : decode cX3_copyFrom 72 = .ok (.getfield 38, 3) := by decide +kernel
theorem dX3_copyFrom_75 : decode cX3_copyFrom 75 = .ok (.invokestatic 47, 3) := by decide +kernel
theorem dX3_copyFrom_78 : decode cX3_copyFrom 78 = .ok (.aload_n 1, 1) := by decide +kernel
theorem dX3_copyFrom_79 : decode cX3_copyFrom 79 = .ok (.getfield 41, 3) := by decide +kernel
theorem dX3_copyFrom_82 : decode cX3_copyFrom 82 = .ok (.aload_n 0, 1) := by decide +kernel
theorem dX3_copyFrom_83 : decode cX3_copyFrom 83 = .ok (.getfield 41, 3) := by decide +kernel
theorem dX3_copyFrom_86 : decode cX3_copyFrom 86 = .ok (.invokestatic 47, 3) := by decide +kernel
theorem dX3_copyFrom_89 : decode cX3_copyFrom 89 = .ok (.aload_n 1, 1) := by decide +kernel
theorem dX3_copyFrom_90 : decode cX3_copyFrom 90 = .ok (.getfield 44, 3) := by decide +kernel
theorem dX3_copyFrom_93 : decode cX3_copyFrom 93 = .ok (.aload_n 0, 1) := by decide +kernel
theorem dX3_copyFrom_94 : decode cX3_copyFrom 94 = .ok (.getfield 44, 3) := by decide +kernel
theorem dX3_copyFrom_97 : decode cX3_copyFrom 97 = .ok (.invokestatic 47, 3) := by decide +kernel
theorem dX3_copyFrom_100 : decode cX3_copyFrom 100 = .ok (.return_, 1) := by decide +kernel
theorem dX3_angle_0 : decode cX3_angle 0 = .ok (.aload_n 0, 1) := by decide +kernel
theorem dX3_angle_1 : decode cX3_angle 1 = .ok (.getfield 9, 3) := by decide +kernel
theorem dX3_angle_4 : decode cX3_angle 4 = .ok (.sipush 4080, 3) := by decide +kernel
theorem dX3_angle_7 : decode cX3_angle 7 = .ok (.invokestatic 51, 3) := by decide +kernel
theorem dX3_angle_10 : decode cX3_angle 10 = .ok (.ireturn, 1) := by decide +kernel
theorem dX3_coarse_0 : decode cX3_coarse 0 = .ok (.aload_n 0, 1) := by decide +kernel
theorem dX3_coarse_1 : decode cX3_coarse 1 = .ok (.invokevirtual 55, 3) := by decide +kernel
theorem dX3_coarse_4 : decode cX3_coarse 4 = .ok (.bipush 64, 2) := by decide +kernel
theorem dX3_coarse_6 : decode cX3_coarse 6 = .ok (.imul, 1) := by decide +kernel
theorem dX3_coarse_7 : decode cX3_coarse 7 = .ok (.sipush 4080, 3) := by decide +kernel
theorem dX3_coarse_10 : decode cX3_coarse 10 = .ok (.idiv, 1) := by decide +kernel
theorem dX3_coarse_11 : decode cX3_coarse 11 = .ok (.istore_n 1, 1) := by decide +kernel
theorem dX3_coarse_12 : decode cX3_coarse 12 = .ok (.iload_n 1, 1) := by decide +kernel
theorem dX3_coarse_13 : decode cX3_coarse 13 = .ok (.aload_n 0, 1) := by decide +kernel
theorem dX3_coarse_14 : decode cX3_coarse 14 = .ok (.getfield 34, 3) := by decide +kernel
theorem dX3_coarse_17 : decode cX3_coarse 17 = .ok (.iconst 3, 1) := by decide +kernel
theorem dX3_coarse_18 : decode cX3_coarse 18 = .ok (.invokestatic 59, 3) := by decide +kernel
theorem dX3_coarse_21 : decode cX3_coarse 21 = .ok (.iadd, 1) := by decide +kernel
theorem dX3_coarse_22 : decode cX3_coarse 22 = .ok (.bipush 64, 2) := by decide +kernel
theorem dX3_coarse_24 : decode cX3_coarse 24 = .ok (.invokestatic 51, 3) := by decide +kernel
theorem dX3_coarse_27 : decode cX3_coarse 27 = .ok (.ireturn, 1) := by decide +kernel
theorem dX3_readingAt_0 : decode cX3_readingAt 0 = .ok (.aload_n 0, 1) := by decide +kernel
theorem dX3_readingAt_1 : decode cX3_readingAt 1 = .ok (.getfield 38, 3) := by decide +kernel
theorem dX3_readingAt_4 : decode cX3_readingAt 4 = .ok (.iload_n 1, 1) := by decide +kernel
theorem dX3_readingAt_5 : decode cX3_readingAt 5 = .ok (.iload_n 2, 1) := by decide +kernel
theorem dX3_readingAt_6 : decode cX3_readingAt 6 = .ok (.invokestatic 63, 3) := by decide +kernel
theorem dX3_readingAt_9 : decode cX3_readingAt 9 = .ok (.invokestatic 67, 3) := by decide +kernel
theorem dX3_readingAt_12 : decode cX3_readingAt 12 = .ok (.invokestatic 59, 3) := by decide +kernel
theorem dX3_readingAt_15 : decode cX3_readingAt 15 = .ok (.istore_n 3, 1) := by decide +kernel
theorem dX3_readingAt_16 : decode cX3_readingAt 16 = .ok (.iload_n 2, 1) := by decide +kernel
theorem dX3_readingAt_17 : decode cX3_readingAt 17 = .ok (.iload_n 3, 1) := by decide +kernel
theorem dX3_readingAt_18 : decode cX3_readingAt 18 = .ok (.iadd, 1) := by decide +kernel
theorem dX3_readingAt_19 : decode cX3_readingAt 19 = .ok (.aload_n 0, 1) := by decide +kernel
theorem dX3_readingAt_20 : decode cX3_readingAt 20 = .ok (.getfield 41, 3) := by decide +kernel
theorem dX3_readingAt_23 : decode cX3_readingAt 23 = .ok (.iload_n 1, 1) := by decide +kernel
theorem dX3_readingAt_24 : decode cX3_readingAt 24 = .ok (.invokestatic 59, 3) := by decide +kernel
theorem dX3_readingAt_27 : decode cX3_readingAt 27 = .ok (.iadd, 1) := by decide +kernel
theorem dX3_readingAt_28 : decode cX3_readingAt 28 = .ok (.getstatic 70, 3) := by decide +kernel
theorem dX3_readingAt_31 : decode cX3_readingAt 31 = .ok (.iload_n 1, 1) := by decide +kernel
theorem dX3_readingAt_32 : decode cX3_readingAt 32 = .ok (.invokestatic 59, 3) := by decide +kernel
theorem dX3_readingAt_35 : decode cX3_readingAt 35 = .ok (.invokestatic 51, 3) := by decide +kernel
theorem dX3_readingAt_38 : decode cX3_readingAt 38 = .ok (.ireturn, 1) := by decide +kernel
theorem dX3_excess_0 : decode cX3_excess 0 = .ok (.getstatic 70, 3) := by decide +kernel
theorem dX3_excess_3 : decode cX3_excess 3 = .ok (.iload_n 1, 1) := by decide +kernel
theorem dX3_excess_4 : decode cX3_excess 4 = .ok (.invokestatic 59, 3) := by decide +kernel
theorem dX3_excess_7 : decode cX3_excess 7 = .ok (.istore_n 2, 1) := by decide +kernel
theorem dX3_excess_8 : decode cX3_excess 8 = .ok (.aload_n 0, 1) := by decide +kernel
theorem dX3_excess_9 : decode cX3_excess 9 = .ok (.iload_n 1, 1) := by decide +kernel
theorem dX3_excess_10 : decode cX3_excess 10 = .ok (.aload_n 0, 1) := by decide +kernel
theorem dX3_excess_11 : decode cX3_excess 11 = .ok (.invokevirtual 55, 3) := by decide +kernel
theorem dX3_excess_14 : decode cX3_excess 14 = .ok (.invokevirtual 73, 3) := by decide +kernel
theorem dX3_excess_17 : decode cX3_excess 17 = .ok (.aload_n 0, 1) := by decide +kernel
theorem dX3_excess_18 : decode cX3_excess 18 = .ok (.invokevirtual 55, 3) := by decide +kernel
theorem dX3_excess_21 : decode cX3_excess 21 = .ok (.isub, 1) := by decide +kernel
theorem dX3_excess_22 : decode cX3_excess 22 = .ok (.iload_n 2, 1) := by decide +kernel
theorem dX3_excess_23 : decode cX3_excess 23 = .ok (.invokestatic 51, 3) := by decide +kernel
theorem dX3_excess_26 : decode cX3_excess 26 = .ok (.istore_n 3, 1) := by decide +kernel
theorem dX3_excess_27 : decode cX3_excess 27 = .ok (.iload_n 3, 1) := by decide +kernel
theorem dX3_excess_28 : decode cX3_excess 28 = .ok (.iload_n 2, 1) := by decide +kernel
theorem dX3_excess_29 : decode cX3_excess 29 = .ok (.iconst 2, 1) := by decide +kernel
theorem dX3_excess_30 : decode cX3_excess 30 = .ok (.idiv, 1) := by decide +kernel
theorem dX3_excess_31 : decode cX3_excess 31 = .ok (.if_icmp .le 9, 3) := by decide +kernel
theorem dX3_excess_34 : decode cX3_excess 34 = .ok (.iload_n 3, 1) := by decide +kernel
theorem dX3_excess_35 : decode cX3_excess 35 = .ok (.iload_n 2, 1) := by decide +kernel
theorem dX3_excess_36 : decode cX3_excess 36 = .ok (.isub, 1) := by decide +kernel
theorem dX3_excess_37 : decode cX3_excess 37 = .ok (.goto 4, 3) := by decide +kernel
theorem dX3_excess_40 : decode cX3_excess 40 = .ok (.iload_n 3, 1) := by decide +kernel
theorem dX3_excess_41 : decode cX3_excess 41 = .ok (.ireturn, 1) := by decide +kernel
theorem dX3_corrected_0 : decode cX3_corrected 0 = .ok (.iload_n 2, 1) := by decide +kernel
theorem dX3_corrected_1 : decode cX3_corrected 1 = .ok (.aload_n 0, 1) := by decide +kernel
theorem dX3_corrected_2 : decode cX3_corrected 2 = .ok (.getfield 44, 3) := by decide +kernel
theorem dX3_corrected_5 : decode cX3_corrected 5 = .ok (.iload_n 1, 1) := by decide +kernel
theorem dX3_corrected_6 : decode cX3_corrected 6 = .ok (.iload_n 3, 1) := by decide +kernel
theorem dX3_corrected_7 : decode cX3_corrected 7 = .ok (.invokestatic 67, 3) := by decide +kernel
theorem dX3_corrected_10 : decode cX3_corrected 10 = .ok (.invokestatic 59, 3) := by decide +kernel
theorem dX3_corrected_13 : decode cX3_corrected 13 = .ok (.isub, 1) := by decide +kernel
theorem dX3_corrected_14 : decode cX3_corrected 14 = .ok (.getstatic 70, 3) := by decide +kernel
theorem dX3_corrected_17 : decode cX3_corrected 17 = .ok (.iload_n 1, 1) := by decide +kernel
theorem dX3_corrected_18 : decode cX3_corrected 18 = .ok (.invokestatic 59, 3) := by decide +kernel
theorem dX3_corrected_21 : decode cX3_corrected 21 = .ok (.invokestatic 51, 3) := by decide +kernel
theorem dX3_corrected_24 : decode cX3_corrected 24 = .ok (.ireturn, 1) := by decide +kernel
theorem dX3_correctionsInUse_0 : decode cX3_correctionsInUse 0 = .ok (.iconst 0, 1) := by decide +kernel
theorem dX3_correctionsInUse_1 : decode cX3_correctionsInUse 1 = .ok (.istore_n 1, 1) := by decide +kernel
theorem dX3_correctionsInUse_2 : decode cX3_correctionsInUse 2 = .ok (.iconst 0, 1) := by decide +kernel
theorem dX3_correctionsInUse_3 : decode cX3_correctionsInUse 3 = .ok (.istore_n 2, 1) := by decide +kernel
theorem dX3_correctionsInUse_4 : decode cX3_correctionsInUse 4 = .ok (.iload_n 2, 1) := by decide +kernel
theorem dX3_correctionsInUse_5 : decode cX3_correctionsInUse 5 = .ok (.bipush 24, 2) := by decide +kernel
theorem dX3_correctionsInUse_7 : decode cX3_correctionsInUse 7 = .ok (.if_icmp .ge 23, 3) := by decide +kernel
theorem dX3_correctionsInUse_10 : decode cX3_correctionsInUse 10 = .ok (.aload_n 0, 1) := by decide +kernel
theorem dX3_correctionsInUse_11 : decode cX3_correctionsInUse 11 = .ok (.getfield 44, 3) := by decide +kernel
theorem dX3_correctionsInUse_14 : decode cX3_correctionsInUse 14 = .ok (.iload_n 2, 1) := by decide +kernel
theorem dX3_correctionsInUse_15 : decode cX3_correctionsInUse 15 = .ok (.invokestatic 59, 3) := by decide +kernel
theorem dX3_correctionsInUse_18 : decode cX3_correctionsInUse 18 = .ok (.ifCond .eq 6, 3) := by decide +kernel
theorem dX3_correctionsInUse_21 : decode cX3_correctionsInUse 21 = .ok (.iinc 1 1, 3) := by decide +kernel
theorem dX3_correctionsInUse_24 : decode cX3_correctionsInUse 24 = .ok (.iinc 2 1, 3) := by decide +kernel
theorem dX3_correctionsInUse_27 : decode cX3_correctionsInUse 27 = .ok (.goto (-23), 3) := by decide +kernel
theorem dX3_correctionsInUse_30 : decode cX3_correctionsInUse 30 = .ok (.iload_n 1, 1) := by decide +kernel
theorem dX3_correctionsInUse_31 : decode cX3_correctionsInUse 31 = .ok (.ireturn, 1) := by decide +kernel
theorem dX3_isPoor_0 : decode cX3_isPoor 0 = .ok (.iconst 0, 1) := by decide +kernel
theorem dX3_isPoor_1 : decode cX3_isPoor 1 = .ok (.istore_n 2, 1) := by decide +kernel
theorem dX3_isPoor_2 : decode cX3_isPoor 2 = .ok (.iload_n 2, 1) := by decide +kernel
theorem dX3_isPoor_3 : decode cX3_isPoor 3 = .ok (.iconst 3, 1) := by decide +kernel
theorem dX3_isPoor_4 : decode cX3_isPoor 4 = .ok (.if_icmp .ge 61, 3) := by decide +kernel
theorem dX3_isPoor_7 : decode cX3_isPoor 7 = .ok (.iload_n 2, 1) := by decide +kernel
theorem dX3_isPoor_8 : decode cX3_isPoor 8 = .ok (.iload_n 1, 1) := by decide +kernel
theorem dX3_isPoor_9 : decode cX3_isPoor 9 = .ok (.invokestatic 67, 3) := by decide +kernel
theorem dX3_isPoor_12 : decode cX3_isPoor 12 = .ok (.istore_n 3, 1) := by decide +kernel
theorem dX3_isPoor_13 : decode cX3_isPoor 13 = .ok (.aload_n 0, 1) := by decide +kernel
theorem dX3_isPoor_14 : decode cX3_isPoor 14 = .ok (.getfield 38, 3) := by decide +kernel
theorem dX3_isPoor_17 : decode cX3_isPoor 17 = .ok (.iload_n 3, 1) := by decide +kernel
theorem dX3_isPoor_18 : decode cX3_isPoor 18 = .ok (.invokestatic 59, 3) := by decide +kernel
theorem dX3_isPoor_21 : decode cX3_isPoor 21 = .ok (.aload_n 0, 1) := by decide +kernel
theorem dX3_isPoor_22 : decode cX3_isPoor 22 = .ok (.getfield 41, 3) := by decide +kernel
theorem dX3_isPoor_25 : decode cX3_isPoor 25 = .ok (.iload_n 2, 1) := by decide +kernel
theorem dX3_isPoor_26 : decode cX3_isPoor 26 = .ok (.invokestatic 59, 3) := by decide +kernel
theorem dX3_isPoor_29 : decode cX3_isPoor 29 = .ok (.iadd, 1) := by decide +kernel
theorem dX3_isPoor_30 : decode cX3_isPoor 30 = .ok (.aload_n 0, 1) := by decide +kernel
theorem dX3_isPoor_31 : decode cX3_isPoor 31 = .ok (.getfield 44, 3) := by decide +kernel
theorem dX3_isPoor_34 : decode cX3_isPoor 34 = .ok (.iload_n 3, 1) := by decide +kernel
theorem dX3_isPoor_35 : decode cX3_isPoor 35 = .ok (.invokestatic 59, 3) := by decide +kernel
theorem dX3_isPoor_38 : decode cX3_isPoor 38 = .ok (.isub, 1) := by decide +kernel
theorem dX3_isPoor_39 : decode cX3_isPoor 39 = .ok (.istore 4, 2) := by decide +kernel
theorem dX3_isPoor_41 : decode cX3_isPoor 41 = .ok (.iload 4, 2) := by decide +kernel
theorem dX3_isPoor_43 : decode cX3_isPoor 43 = .ok (.invokestatic 76, 3) := by decide +kernel
theorem dX3_isPoor_46 : decode cX3_isPoor 46 = .ok (.aload_n 0, 1) := by decide +kernel
theorem dX3_isPoor_47 : decode cX3_isPoor 47 = .ok (.getfield 34, 3) := by decide +kernel
theorem dX3_isPoor_50 : decode cX3_isPoor 50 = .ok (.iconst 0, 1) := by decide +kernel
theorem dX3_isPoor_51 : decode cX3_isPoor 51 = .ok (.invokestatic 59, 3) := by decide +kernel
theorem dX3_isPoor_54 : decode cX3_isPoor 54 = .ok (.if_icmp .le 5, 3) := by decide +kernel
theorem dX3_isPoor_57 : decode cX3_isPoor 57 = .ok (.iconst 1, 1) := by decide +kernel
theorem dX3_isPoor_58 : decode cX3_isPoor 58 = .ok (.ireturn, 1) := by decide +kernel
theorem dX3_isPoor_59 : decode cX3_isPoor 59 = .ok (.iinc 2 1, 3) := by decide +kernel
theorem dX3_isPoor_62 : decode cX3_isPoor 62 = .ok (.goto (-60), 3) := by decide +kernel
theorem dX3_isPoor_65 : decode cX3_isPoor 65 = .ok (.iconst 0, 1) := by decide +kernel
theorem dX3_isPoor_66 : decode cX3_isPoor 66 = .ok (.ireturn, 1) := by decide +kernel
theorem dX3_crossBound_0 : decode cX3_crossBound 0 = .ok (.aload_n 0, 1) := by decide +kernel
theorem dX3_crossBound_1 : decode cX3_crossBound 1 = .ok (.getfield 18, 3) := by decide +kernel
theorem dX3_crossBound_4 : decode cX3_crossBound 4 = .ok (.ifCond .ne 39, 3) := by decide +kernel
theorem dX3_crossBound_7 : decode cX3_crossBound 7 = .ok (.aload_n 0, 1) := by decide +kernel
theorem dX3_crossBound_8 : decode cX3_crossBound 8 = .ok (.getfield 22, 3) := by decide +kernel
theorem dX3_crossBound_11 : decode cX3_crossBound 11 = .ok (.ifCond .ne 4, 3) := by decide +kernel
theorem dX3_crossBound_14 : decode cX3_crossBound 14 = .ok (.return_, 1) := by decide +kernel
theorem dX3_crossBound_15 : decode cX3_crossBound 15 = .ok (.aload_n 0, 1) := by decide +kernel
theorem dX3_crossBound_16 : decode cX3_crossBound 16 = .ok (.dup, 1) := by decide +kernel
theorem dX3_crossBound_17 : decode cX3_crossBound 17 = .ok (.getfield 22, 3) := by decide +kernel
theorem dX3_crossBound_20 : decode cX3_crossBound 20 = .ok (.iconst 1, 1) := by decide +kernel
theorem dX3_crossBound_21 : decode cX3_crossBound 21 = .ok (.isub, 1) := by decide +kernel
theorem dX3_crossBound_22 : decode cX3_crossBound 22 = .ok (.putfield 22, 3) := by decide +kernel
theorem dX3_crossBound_25 : decode cX3_crossBound 25 = .ok (.aload_n 0, 1) := by decide +kernel
theorem dX3_crossBound_26 : decode cX3_crossBound 26 = .ok (.getfield 25, 3) := by decide +kernel
theorem dX3_crossBound_29 : decode cX3_crossBound 29 = .ok (.ifCond .le 14, 3) := by decide +kernel
theorem dX3_crossBound_32 : decode cX3_crossBound 32 = .ok (.aload_n 0, 1) := by decide +kernel
theorem dX3_crossBound_33 : decode cX3_crossBound 33 = .ok (.dup, 1) := by decide +kernel
theorem dX3_crossBound_34 : decode cX3_crossBound 34 = .ok (.getfield 25, 3) := by decide +kernel
theorem dX3_crossBound_37 : decode cX3_crossBound 37 = .ok (.iconst 1, 1) := by decide +kernel
theorem dX3_crossBound_38 : decode cX3_crossBound 38 = .ok (.isub, 1) := by decide +kernel
theorem dX3_crossBound_39 : decode cX3_crossBound 39 = .ok (.putfield 25, 3) := by decide +kernel
theorem dX3_crossBound_42 : decode cX3_crossBound 42 = .ok (.return_, 1) := by decide +kernel
theorem dX3_crossBound_43 : decode cX3_crossBound 43 = .ok (.aload_n 0, 1) := by decide +kernel
theorem dX3_crossBound_44 : decode cX3_crossBound 44 = .ok (.aload_n 0, 1) := by decide +kernel
theorem dX3_crossBound_45 : decode cX3_crossBound 45 = .ok (.getfield 15, 3) := by decide +kernel
theorem dX3_crossBound_48 : decode cX3_crossBound 48 = .ok (.iload_n 1, 1) := by decide +kernel
theorem dX3_crossBound_49 : decode cX3_crossBound 49 = .ok (.iadd, 1) := by decide +kernel
theorem dX3_crossBound_50 : decode cX3_crossBound 50 = .ok (.bipush 64, 2) := by decide +kernel
theorem dX3_crossBound_52 : decode cX3_crossBound 52 = .ok (.invokestatic 51, 3) := by decide +kernel
theorem dX3_crossBound_55 : decode cX3_crossBound 55 = .ok (.putfield 15, 3) := by decide +kernel
theorem dX3_crossBound_58 : decode cX3_crossBound 58 = .ok (.return_, 1) := by decide +kernel
theorem dX4_init_0 : decode cX4_init 0 = .ok (.aload_n 0, 1) := by decide +kernel
theorem dX4_init_1 : decode cX4_init 1 = .ok (.invokespecial 3, 3) := by decide +kernel
theorem dX4_init_4 : decode cX4_init 4 = .ok (.aload_n 0, 1) := by decide +kernel
theorem dX4_init_5 : decode cX4_init 5 = .ok (.iconst 0, 1) := by decide +kernel
theorem dX4_init_6 : decode cX4_init 6 = .ok (.putfield 9, 3) := by decide +kernel
theorem dX4_init_9 : decode cX4_init 9 = .ok (.aload_n 0, 1) := by decide +kernel
theorem dX4_init_10 : decode cX4_init 10 = .ok (.iconst 0, 1) := by decide +kernel
theorem dX4_init_11 : decode cX4_init 11 = .ok (.putfield 15, 3) := by decide +kernel
theorem dX4_init_14 : decode cX4_init 14 = .ok (.aload_n 0, 1) := by decide +kernel
theorem dX4_init_15 : decode cX4_init 15 = .ok (.iconst 0, 1) := by decide +kernel
theorem dX4_init_16 : decode cX4_init 16 = .ok (.putfield 18, 3) := by decide +kernel
theorem dX4_init_19 : decode cX4_init 19 = .ok (.aload_n 0, 1) := by decide +kernel
theorem dX4_init_20 : decode cX4_init 20 = .ok (.iconst 0, 1) := by decide +kernel
theorem dX4_init_21 : decode cX4_init 21 = .ok (.putfield 21, 3) := by decide +kernel
theorem dX4_init_24 : decode cX4_init 24 = .ok (.return_, 1) := by decide +kernel
theorem dX4_judge_0 : decode cX4_judge 0 = .ok (.aload_n 0, 1) := by decide +kernel
theorem dX4_judge_1 : decode cX4_judge 1 = .ok (.aload_n 1, 1) := by decide +kernel
theorem dX4_judge_2 : decode cX4_judge 2 = .ok (.getfield 24, 3) := by decide +kernel
theorem dX4_judge_5 : decode cX4_judge 5 = .ok (.putfield 15, 3) := by decide +kernel
theorem dX4_judge_8 : decode cX4_judge 8 = .ok (.aload_n 0, 1) := by decide +kernel
theorem dX4_judge_9 : decode cX4_judge 9 = .ok (.aload_n 1, 1) := by decide +kernel
theorem dX4_judge_10 : decode cX4_judge 10 = .ok (.getfield 27, 3) := by decide +kernel
theorem dX4_judge_13 : decode cX4_judge 13 = .ok (.putfield 18, 3) := by decide +kernel
theorem dX4_judge_16 : decode cX4_judge 16 = .ok (.aload_n 0, 1) := by decide +kernel
theorem dX4_judge_17 : decode cX4_judge 17 = .ok (.aload_n 0, 1) := by decide +kernel
theorem dX4_judge_18 : decode cX4_judge 18 = .ok (.aload_n 1, 1) := by decide +kernel
theorem dX4_judge_19 : decode cX4_judge 19 = .ok (.aload_n 2, 1) := by decide +kernel
theorem dX4_judge_20 : decode cX4_judge 20 = .ok (.invokevirtual 28, 3) := by decide +kernel
theorem dX4_judge_23 : decode cX4_judge 23 = .ok (.putfield 9, 3) := by decide +kernel
theorem dX4_judge_26 : decode cX4_judge 26 = .ok (.return_, 1) := by decide +kernel
theorem dX4_firstRefusal_0 : decode cX4_firstRefusal 0 = .ok (.aload_n 2, 1) := by decide +kernel
theorem dX4_firstRefusal_1 : decode cX4_firstRefusal 1 = .ok (.getfield 32, 3) := by decide +kernel
theorem dX4_firstRefusal_4 : decode cX4_firstRefusal 4 = .ok (.aload_n 1, 1) := by decide +kernel
theorem dX4_firstRefusal_5 : decode cX4_firstRefusal 5 = .ok (.getfield 37, 3) := by decide +kernel
theorem dX4_firstRefusal_8 : decode cX4_firstRefusal 8 = .ok (.iconst 0, 1) := by decide +kernel
theorem dX4_firstRefusal_9 : decode cX4_firstRefusal 9 = .ok (.invokestatic 41, 3) := by decide +kernel
theorem dX4_firstRefusal_12 : decode cX4_firstRefusal 12 = .ok (.if_icmp .le 5, 3) := by decide +kernel
theorem dX4_firstRefusal_15 : decode cX4_firstRefusal 15 = .ok (.iconst 1, 1) := by decide +kernel
theorem dX4_firstRefusal_16 : decode cX4_firstRefusal 16 = .ok (.ireturn, 1) := by decide +kernel
theorem dX4_firstRefusal_17 : decode cX4_firstRefusal 17 = .ok (.aload_n 2, 1) := by decide +kernel
theorem dX4_firstRefusal_18 : decode cX4_firstRefusal 18 = .ok (.getfield 45, 3) := by decide +kernel
theorem dX4_firstRefusal_21 : decode cX4_firstRefusal 21 = .ok (.sipush 1020, 3) := by decide +kernel
theorem dX4_firstRefusal_24 : decode cX4_firstRefusal 24 = .ok (.idiv, 1) := by decide +kernel
theorem dX4_firstRefusal_25 : decode cX4_firstRefusal 25 = .ok (.aload_n 1, 1) := by decide +kernel
theorem dX4_firstRefusal_26 : decode cX4_firstRefusal 26 = .ok (.getfield 24, 3) := by decide +kernel
theorem dX4_firstRefusal_29 : decode cX4_firstRefusal 29 = .ok (.isub, 1) := by decide +kernel
theorem dX4_firstRefusal_30 : decode cX4_firstRefusal 30 = .ok (.iconst 4, 1) := by decide +kernel
theorem dX4_firstRefusal_31 : decode cX4_firstRefusal 31 = .ok (.invokestatic 48, 3) := by decide +kernel
theorem dX4_firstRefusal_34 : decode cX4_firstRefusal 34 = .ok (.istore_n 3, 1) := by decide +kernel
theorem dX4_firstRefusal_35 : decode cX4_firstRefusal 35 = .ok (.iload_n 3, 1) := by decide +kernel
theorem dX4_firstRefusal_36 : decode cX4_firstRefusal 36 = .ok (.iconst 2, 1) := by decide +kernel
theorem dX4_firstRefusal_37 : decode cX4_firstRefusal 37 = .ok (.if_icmp .ne 5, 3) := by decide +kernel
theorem dX4_firstRefusal_40 : decode cX4_firstRefusal 40 = .ok (.iconst 2, 1) := by decide +kernel
theorem dX4_firstRefusal_41 : decode cX4_firstRefusal 41 = .ok (.ireturn, 1) := by decide +kernel
theorem dX4_firstRefusal_42 : decode cX4_firstRefusal 42 = .ok (.iload_n 3, 1) := by decide +kernel
theorem dX4_firstRefusal_43 : decode cX4_firstRefusal 43 = .ok (.iconst 3, 1) := by decide +kernel
theorem dX4_firstRefusal_44 : decode cX4_firstRefusal 44 = .ok (.if_icmp .ne 7, 3) := by decide +kernel
theorem dX4_firstRefusal_47 : decode cX4_firstRefusal 47 = .ok (.iconst (-1), 1) := by decide +kernel
theorem dX4_firstRefusal_48 : decode cX4_firstRefusal 48 = .ok (.goto 4, 3) := by decide +kernel
theorem dX4_firstRefusal_51 : decode cX4_firstRefusal 51 = .ok (.iload_n 3, 1) := by decide +kernel
theorem dX4_firstRefusal_52 : decode cX4_firstRefusal 52 = .ok (.istore 4, 2) := by decide +kernel
theorem dX4_firstRefusal_54 : decode cX4_firstRefusal 54 = .ok (.aload_n 0, 1) := by decide +kernel
theorem dX4_firstRefusal_55 : decode cX4_firstRefusal 55 = .ok (.aload_n 1, 1) := by decide +kernel
theorem dX4_firstRefusal_56 : decode cX4_firstRefusal 56 = .ok (.getfield 24, 3) := by decide +kernel
theorem dX4_firstRefusal_59 : decode cX4_firstRefusal 59 = .ok (.iload 4, 2) := by decide +kernel
theorem dX4_firstRefusal_61 : decode cX4_firstRefusal 61 = .ok (.iadd, 1) := by decide +kernel
theorem dX4_firstRefusal_62 : decode cX4_firstRefusal 62 = .ok (.bipush 64, 2) := by decide +kernel
theorem dX4_firstRefusal_64 : decode cX4_firstRefusal 64 = .ok (.invokestatic 48, 3) := by decide +kernel
theorem dX4_firstRefusal_67 : decode cX4_firstRefusal 67 = .ok (.putfield 15, 3) := by decide +kernel
theorem dX4_firstRefusal_70 : decode cX4_firstRefusal 70 = .ok (.aload_n 0, 1) := by decide +kernel
theorem dX4_firstRefusal_71 : decode cX4_firstRefusal 71 = .ok (.aload_n 0, 1) := by decide +kernel
theorem dX4_firstRefusal_72 : decode cX4_firstRefusal 72 = .ok (.getfield 15, 3) := by decide +kernel
theorem dX4_firstRefusal_75 : decode cX4_firstRefusal 75 = .ok (.iconst 4, 1) := by decide +kernel
theorem dX4_firstRefusal_76 : decode cX4_firstRefusal 76 = .ok (.idiv, 1) := by decide +kernel
theorem dX4_firstRefusal_77 : decode cX4_firstRefusal 77 = .ok (.sipush 4080, 3) := by decide +kernel
theorem dX4_firstRefusal_80 : decode cX4_firstRefusal 80 = .ok (.imul, 1) := by decide +kernel
theorem dX4_firstRefusal_81 : decode cX4_firstRefusal 81 = .ok (.aload_n 2, 1) := by decide +kernel
theorem dX4_firstRefusal_82 : decode cX4_firstRefusal 82 = .ok (.getfield 45, 3) := by decide +kernel
theorem dX4_firstRefusal_85 : decode cX4_firstRefusal 85 = .ok (.iadd, 1) := by decide +kernel
theorem dX4_firstRefusal_86 : decode cX4_firstRefusal 86 = .ok (.putfield 21, 3) := by decide +kernel
theorem dX4_firstRefusal_89 : decode cX4_firstRefusal 89 = .ok (.aload_n 2, 1) := by decide +kernel
theorem dX4_firstRefusal_90 : decode cX4_firstRefusal 90 = .ok (.getfield 45, 3) := by decide +kernel
theorem dX4_firstRefusal_93 : decode cX4_firstRefusal 93 = .ok (.bipush 64, 2) := by decide +kernel
theorem dX4_firstRefusal_95 : decode cX4_firstRefusal 95 = .ok (.imul, 1) := by decide +kernel
theorem dX4_firstRefusal_96 : decode cX4_firstRefusal 96 = .ok (.sipush 4080, 3) := by decide +kernel
theorem dX4_firstRefusal_99 : decode cX4_firstRefusal 99 = .ok (.idiv, 1) := by decide +kernel
theorem dX4_firstRefusal_100 : decode cX4_firstRefusal 100 = .ok (.istore 5, 2) := by decide +kernel
theorem dX4_firstRefusal_102 : decode cX4_firstRefusal 102 = .ok (.aload_n 1, 1) := by decide +kernel
theorem dX4_firstRefusal_103 : decode cX4_firstRefusal 103 = .ok (.invokevirtual 52, 3) := by decide +kernel
theorem dX4_firstRefusal_106 : decode cX4_firstRefusal 106 = .ok (.iload 5, 2) := by decide +kernel
theorem dX4_firstRefusal_108 : decode cX4_firstRefusal 108 = .ok (.bipush 64, 2) := by decide +kernel
theorem dX4_firstRefusal_110 : decode cX4_firstRefusal 110 = .ok (.invokestatic 56, 3) := by decide +kernel
theorem dX4_firstRefusal_113 : decode cX4_firstRefusal 113 = .ok (.aload_n 1, 1) := by decide +kernel
theorem dX4_firstRefusal_114 : decode cX4_firstRefusal 114 = .ok (.getfield 37, 3) := by decide +kernel
theorem dX4_firstRefusal_117 : decode cX4_firstRefusal 117 = .ok (.iconst 1, 1) := by decide +kernel
theorem dX4_firstRefusal_118 : decode cX4_firstRefusal 118 = .ok (.invokestatic 41, 3) := by decide +kernel
theorem dX4_firstRefusal_121 : decode cX4_firstRefusal 121 = .ok (.if_icmp .le 7, 3) := by decide +kernel
theorem dX4_firstRefusal_124 : decode cX4_firstRefusal 124 = .ok (.iconst 1, 1) := by decide +kernel
theorem dX4_firstRefusal_125 : decode cX4_firstRefusal 125 = .ok (.goto 4, 3) := by decide +kernel
theorem dX4_firstRefusal_128 : decode cX4_firstRefusal 128 = .ok (.iconst 0, 1) := by decide +kernel
theorem dX4_firstRefusal_129 : decode cX4_firstRefusal 129 = .ok (.istore 6, 2) := by decide +kernel
theorem dX4_firstRefusal_131 : decode cX4_firstRefusal 131 = .ok (.aload_n 0, 1) := by decide +kernel
theorem dX4_firstRefusal_132 : decode cX4_firstRefusal 132 = .ok (.iload 6, 2) := by decide +kernel
theorem dX4_firstRefusal_134 : decode cX4_firstRefusal 134 = .ok (.ifCond .eq 12, 3) := by decide +kernel
theorem dX4_firstRefusal_137 : decode cX4_firstRefusal 137 = .ok (.aload_n 1, 1) := by decide +kernel
theorem dX4_firstRefusal_138 : decode cX4_firstRefusal 138 = .ok (.getfield 27, 3) := by decide +kernel
theorem dX4_firstRefusal_141 : decode cX4_firstRefusal 141 = .ok (.iconst 1, 1) := by decide +kernel
theorem dX4_firstRefusal_142 : decode cX4_firstRefusal 142 = .ok (.iadd, 1) := by decide +kernel
theorem dX4_firstRefusal_143 : decode cX4_firstRefusal 143 = .ok (.goto 4, 3) := by decide +kernel
theorem dX4_firstRefusal_146 : decode cX4_firstRefusal 146 = .ok (.iconst 0, 1) := by decide +kernel
theorem dX4_firstRefusal_147 : decode cX4_firstRefusal 147 = .ok (.putfield 18, 3) := by decide +kernel
theorem dX4_firstRefusal_150 : decode cX4_firstRefusal 150 = .ok (.aload_n 0, 1) := by decide +kernel
theorem dX4_firstRefusal_151 : decode cX4_firstRefusal 151 = .ok (.getfield 18, 3) := by decide +kernel
theorem dX4_firstRefusal_154 : decode cX4_firstRefusal 154 = .ok (.iconst 3, 1) := by decide +kernel
theorem dX4_firstRefusal_155 : decode cX4_firstRefusal 155 = .ok (.if_icmp .lt 5, 3) := by decide +kernel
theorem dX4_firstRefusal_158 : decode cX4_firstRefusal 158 = .ok (.iconst 3, 1) := by decide +kernel
theorem dX4_firstRefusal_159 : decode cX4_firstRefusal 159 = .ok (.ireturn, 1) := by decide +kernel
theorem dX4_firstRefusal_160 : decode cX4_firstRefusal 160 = .ok (.aload_n 1, 1) := by decide +kernel
theorem dX4_firstRefusal_161 : decode cX4_firstRefusal 161 = .ok (.getfield 60, 3) := by decide +kernel
theorem dX4_firstRefusal_164 : decode cX4_firstRefusal 164 = .ok (.iconst (-1), 1) := by decide +kernel
theorem dX4_firstRefusal_165 : decode cX4_firstRefusal 165 = .ok (.if_icmp .eq 29, 3) := by decide +kernel
theorem dX4_firstRefusal_168 : decode cX4_firstRefusal 168 = .ok (.aload_n 1, 1) := by decide +kernel
theorem dX4_firstRefusal_169 : decode cX4_firstRefusal 169 = .ok (.getfield 60, 3) := by decide +kernel
theorem dX4_firstRefusal_172 : decode cX4_firstRefusal 172 = .ok (.aload_n 0, 1) := by decide +kernel
theorem dX4_firstRefusal_173 : decode cX4_firstRefusal 173 = .ok (.getfield 21, 3) := by decide +kernel
theorem dX4_firstRefusal_176 : decode cX4_firstRefusal 176 = .ok (.ldc 63, 2) := by decide +kernel
theorem dX4_firstRefusal_178 : decode cX4_firstRefusal 178 = .ok (.invokestatic 56, 3) := by decide +kernel
theorem dX4_firstRefusal_181 : decode cX4_firstRefusal 181 = .ok (.aload_n 1, 1) := by decide +kernel
theorem dX4_firstRefusal_182 : decode cX4_firstRefusal 182 = .ok (.getfield 37, 3) := by decide +kernel
theorem dX4_firstRefusal_185 : decode cX4_firstRefusal 185 = .ok (.iconst 2, 1) := by decide +kernel
theorem dX4_firstRefusal_186 : decode cX4_firstRefusal 186 = .ok (.invokestatic 41, 3) := by decide +kernel
theorem dX4_firstRefusal_189 : decode cX4_firstRefusal 189 = .ok (.if_icmp .le 5, 3) := by decide +kernel
theorem dX4_firstRefusal_192 : decode cX4_firstRefusal 192 = .ok (.iconst 4, 1) := by decide +kernel
theorem dX4_firstRefusal_193 : decode cX4_firstRefusal 193 = .ok (.ireturn, 1) := by decide +kernel
theorem dX4_firstRefusal_194 : decode cX4_firstRefusal 194 = .ok (.iconst 0, 1) := by decide +kernel
theorem dX4_firstRefusal_195 : decode cX4_firstRefusal 195 = .ok (.ireturn, 1) := by decide +kernel
theorem dX5_init_0 : decode cX5_init 0 = .ok (.aload_n 0, 1) := by decide +kernel
theorem dX5_init_1 : decode cX5_init 1 = .ok (.invokespecial 3, 3) := by decide +kernel
theorem dX5_init_4 : decode cX5_init 4 = .ok (.aload_n 0, 1) := by decide +kernel
theorem dX5_init_5 : decode cX5_init 5 = .ok (.new 9, 3) := by decide +kernel
theorem dX5_init_8 : decode cX5_init 8 = .ok (.dup, 1) := by decide +kernel
theorem dX5_init_9 : decode cX5_init 9 = .ok (.invokespecial 11, 3) := by decide +kernel
theorem dX5_init_12 : decode cX5_init 12 = .ok (.putfield 12, 3) := by decide +kernel
theorem dX5_init_15 : decode cX5_init 15 = .ok (.aload_n 0, 1) := by decide +kernel
theorem dX5_init_16 : decode cX5_init 16 = .ok (.new 16, 3) := by decide +kernel
theorem dX5_init_19 : decode cX5_init 19 = .ok (.dup, 1) := by decide +kernel
theorem dX5_init_20 : decode cX5_init 20 = .ok (.invokespecial 18, 3) := by decide +kernel
theorem dX5_init_23 : decode cX5_init 23 = .ok (.putfield 19, 3) := by decide +kernel
theorem dX5_init_26 : decode cX5_init 26 = .ok (.aload_n 0, 1) := by decide +kernel
theorem dX5_init_27 : decode cX5_init 27 = .ok (.new 23, 3) := by decide +kernel
theorem dX5_init_30 : decode cX5_init 30 = .ok (.dup, 1) := by decide +kernel
theorem dX5_init_31 : decode cX5_init 31 = .ok (.invokespecial 25, 3) := by decide +kernel
theorem dX5_init_34 : decode cX5_init 34 = .ok (.putfield 26, 3) := by decide +kernel
theorem dX5_init_37 : decode cX5_init 37 = .ok (.aload_n 0, 1) := by decide +kernel
theorem dX5_init_38 : decode cX5_init 38 = .ok (.new 30, 3) := by decide +kernel
theorem dX5_init_41 : decode cX5_init 41 = .ok (.dup, 1) := by decide +kernel
theorem dX5_init_42 : decode cX5_init 42 = .ok (.invokespecial 32, 3) := by decide +kernel
theorem dX5_init_45 : decode cX5_init 45 = .ok (.putfield 33, 3) := by decide +kernel
theorem dX5_init_48 : decode cX5_init 48 = .ok (.aload_n 0, 1) := by decide +kernel
theorem dX5_init_49 : decode cX5_init 49 = .ok (.new 37, 3) := by decide +kernel
theorem dX5_init_52 : decode cX5_init 52 = .ok (.dup, 1) := by decide +kernel
theorem dX5_init_53 : decode cX5_init 53 = .ok (.invokespecial 39, 3) := by decide +kernel
theorem dX5_init_56 : decode cX5_init 56 = .ok (.putfield 40, 3) := by decide +kernel
theorem dX5_init_59 : decode cX5_init 59 = .ok (.return_, 1) := by decide +kernel
theorem dX5_turn_0 : decode cX5_turn 0 = .ok (.iload_n 1, 1) := by decide +kernel
theorem dX5_turn_1 : decode cX5_turn 1 = .ok (.sipush (-9999), 3) := by decide +kernel
theorem dX5_turn_4 : decode cX5_turn 4 = .ok (.sipush 9999, 3) := by decide +kernel
theorem dX5_turn_7 : decode cX5_turn 7 = .ok (.invokestatic 44, 3) := by decide +kernel
theorem dX5_turn_10 : decode cX5_turn 10 = .ok (.ifCond .eq 5, 3) := by decide +kernel
theorem dX5_turn_13 : decode cX5_turn 13 = .ok (.iconst (-1), 1) := by decide +kernel
theorem dX5_turn_14 : decode cX5_turn 14 = .ok (.ireturn, 1) := by decide +kernel
theorem dX5_turn_15 : decode cX5_turn 15 = .ok (.aload_n 0, 1) := by decide +kernel
theorem dX5_turn_16 : decode cX5_turn 16 = .ok (.getfield 12, 3) := by decide +kernel
theorem dX5_turn_19 : decode cX5_turn 19 = .ok (.getfield 48, 3) := by decide +kernel
theorem dX5_turn_22 : decode cX5_turn 22 = .ok (.iload_n 1, 1) := by decide +kernel
theorem dX5_turn_23 : decode cX5_turn 23 = .ok (.iadd, 1) := by decide +kernel
theorem dX5_turn_24 : decode cX5_turn 24 = .ok (.istore_n 2, 1) := by decide +kernel
theorem dX5_turn_25 : decode cX5_turn 25 = .ok (.iload_n 2, 1) := by decide +kernel
theorem dX5_turn_26 : decode cX5_turn 26 = .ok (.iconst 0, 1) := by decide +kernel
theorem dX5_turn_27 : decode cX5_turn 27 = .ok (.ldc 52, 2) := by decide +kernel
theorem dX5_turn_29 : decode cX5_turn 29 = .ok (.invokestatic 44, 3) := by decide +kernel
theorem dX5_turn_32 : decode cX5_turn 32 = .ok (.ifCond .eq 6, 3) := by decide +kernel
theorem dX5_turn_35 : decode cX5_turn 35 = .ok (.bipush (-2), 2) := by decide +kernel
theorem dX5_turn_37 : decode cX5_turn 37 = .ok (.ireturn, 1) := by decide +kernel
theorem dX5_turn_38 : decode cX5_turn 38 = .ok (.aload_n 0, 1) := by decide +kernel
theorem dX5_turn_39 : decode cX5_turn 39 = .ok (.getfield 19, 3) := by decide +kernel
theorem dX5_turn_42 : decode cX5_turn 42 = .ok (.aload_n 0, 1) := by decide +kernel
theorem dX5_turn_43 : decode cX5_turn 43 = .ok (.getfield 12, 3) := by decide +kernel
theorem dX5_turn_46 : decode cX5_turn 46 = .ok (.invokevirtual 53, 3) := by decide +kernel
theorem dX5_turn_49 : decode cX5_turn 49 = .ok (.iload_n 2, 1) := by decide +kernel
theorem dX5_turn_50 : decode cX5_turn 50 = .ok (.sipush 1020, 3) := by decide +kernel
theorem dX5_turn_53 : decode cX5_turn 53 = .ok (.idiv, 1) := by decide +kernel
theorem dX5_turn_54 : decode cX5_turn 54 = .ok (.aload_n 0, 1) := by decide +kernel
theorem dX5_turn_55 : decode cX5_turn 55 = .ok (.getfield 12, 3) := by decide +kernel
theorem dX5_turn_58 : decode cX5_turn 58 = .ok (.getfield 48, 3) := by decide +kernel
theorem dX5_turn_61 : decode cX5_turn 61 = .ok (.sipush 1020, 3) := by decide +kernel
theorem dX5_turn_64 : decode cX5_turn 64 = .ok (.idiv, 1) := by decide +kernel
theorem dX5_turn_65 : decode cX5_turn 65 = .ok (.isub, 1) := by decide +kernel
theorem dX5_turn_66 : decode cX5_turn 66 = .ok (.istore_n 3, 1) := by decide +kernel
theorem dX5_turn_67 : decode cX5_turn 67 = .ok (.iload_n 3, 1) := by decide +kernel
theorem dX5_turn_68 : decode cX5_turn 68 = .ok (.ifCond .ge 7, 3) := by decide +kernel
theorem dX5_turn_71 : decode cX5_turn 71 = .ok (.iconst (-1), 1) := by decide +kernel
theorem dX5_turn_72 : decode cX5_turn 72 = .ok (.goto 4, 3) := by decide +kernel
theorem dX5_turn_75 : decode cX5_turn 75 = .ok (.iconst 1, 1) := by decide +kernel
theorem dX5_turn_76 : decode cX5_turn 76 = .ok (.istore 4, 2) := by decide +kernel
theorem dX5_turn_78 : decode cX5_turn 78 = .ok (.iconst 0, 1) := by decide +kernel
theorem dX5_turn_79 : decode cX5_turn 79 = .ok (.istore 5, 2) := by decide +kernel
theorem dX5_turn_81 : decode cX5_turn 81 = .ok (.iload 5, 2) := by decide +kernel
theorem dX5_turn_83 : decode cX5_turn 83 = .ok (.iload_n 3, 1) := by decide +kernel
theorem dX5_turn_84 : decode cX5_turn 84 = .ok (.invokestatic 57, 3) := by decide +kernel
theorem dX5_turn_87 : decode cX5_turn 87 = .ok (.if_icmp .ge 18, 3) := by decide +kernel
theorem dX5_turn_90 : decode cX5_turn 90 = .ok (.aload_n 0, 1) := by decide +kernel
theorem dX5_turn_91 : decode cX5_turn 91 = .ok (.getfield 12, 3) := by decide +kernel
theorem dX5_turn_94 : decode cX5_turn 94 = .ok (.iload 4, 2) := by decide +kernel
theorem dX5_turn_96 : decode cX5_turn 96 = .ok (.invokevirtual 63, 3) := by decide +kernel
theorem dX5_turn_99 : decode cX5_turn 99 = .ok (.iinc 5 1, 3) := by decide +kernel
theorem dX5_turn_102 : decode cX5_turn 102 = .ok (.goto (-21), 3) := by decide +kernel
theorem dX5_turn_105 : decode cX5_turn 105 = .ok (.aload_n 0, 1) := by decide +kernel
theorem dX5_turn_106 : decode cX5_turn 106 = .ok (.getfield 12, 3) := by decide +kernel
theorem dX5_turn_109 : decode cX5_turn 109 = .ok (.iload_n 2, 1) := by decide +kernel
theorem dX5_turn_110 : decode cX5_turn 110 = .ok (.putfield 48, 3) := by decide +kernel
theorem dX5_turn_113 : decode cX5_turn 113 = .ok (.iload_n 2, 1) := by decide +kernel
theorem dX5_turn_114 : decode cX5_turn 114 = .ok (.ireturn, 1) := by decide +kernel
theorem dX5_power_0 : decode cX5_power 0 = .ok (.iload_n 1, 1) := by decide +kernel
theorem dX5_power_1 : decode cX5_power 1 = .ok (.iconst 0, 1) := by decide +kernel
theorem dX5_power_2 : decode cX5_power 2 = .ok (.iconst 1, 1) := by decide +kernel
theorem dX5_power_3 : decode cX5_power 3 = .ok (.invokestatic 44, 3) := by decide +kernel
theorem dX5_power_6 : decode cX5_power 6 = .ok (.ifCond .eq 5, 3) := by decide +kernel
theorem dX5_power_9 : decode cX5_power 9 = .ok (.iconst (-1), 1) := by decide +kernel
theorem dX5_power_10 : decode cX5_power 10 = .ok (.ireturn, 1) := by decide +kernel
theorem dX5_power_11 : decode cX5_power 11 = .ok (.aload_n 0, 1) := by decide +kernel
theorem dX5_power_12 : decode cX5_power 12 = .ok (.getfield 19, 3) := by decide +kernel
theorem dX5_power_15 : decode cX5_power 15 = .ok (.aload_n 0, 1) := by decide +kernel
theorem dX5_power_16 : decode cX5_power 16 = .ok (.getfield 12, 3) := by decide +kernel
theorem dX5_power_19 : decode cX5_power 19 = .ok (.invokevirtual 53, 3) := by decide +kernel
theorem dX5_power_22 : decode cX5_power 22 = .ok (.aload_n 0, 1) := by decide +kernel
theorem dX5_power_23 : decode cX5_power 23 = .ok (.getfield 12, 3) := by decide +kernel
theorem dX5_power_26 : decode cX5_power 26 = .ok (.getfield 67, 3) := by decide +kernel
theorem dX5_power_29 : decode cX5_power 29 = .ok (.invokestatic 71, 3) := by decide +kernel
theorem dX5_power_32 : decode cX5_power 32 = .ok (.istore_n 2, 1) := by decide +kernel
theorem dX5_power_33 : decode cX5_power 33 = .ok (.aload_n 0, 1) := by decide +kernel
theorem dX5_power_34 : decode cX5_power 34 = .ok (.getfield 12, 3) := by decide +kernel
theorem dX5_power_37 : decode cX5_power 37 = .ok (.iload_n 1, 1) := by decide +kernel
theorem dX5_power_38 : decode cX5_power 38 = .ok (.iconst 1, 1) := by decide +kernel
theorem dX5_power_39 : decode cX5_power 39 = .ok (.if_icmp .ne 7, 3) := by decide +kernel
theorem dX5_power_42 : decode cX5_power 42 = .ok (.iconst 1, 1) := by decide +kernel
theorem dX5_power_43 : decode cX5_power 43 = .ok (.goto 4, 3) := by decide +kernel
theorem dX5_power_46 : decode cX5_power 46 = .ok (.iconst 0, 1) := by decide +kernel
theorem dX5_power_47 : decode cX5_power 47 = .ok (.putfield 67, 3) := by decide +kernel
theorem dX5_power_50 : decode cX5_power 50 = .ok (.iload_n 2, 1) := by decide +kernel
theorem dX5_power_51 : decode cX5_power 51 = .ok (.ireturn, 1) := by decide +kernel
theorem dX5_brownout_0 : decode cX5_brownout 0 = .ok (.iload_n 1, 1) := by decide +kernel
theorem dX5_brownout_1 : decode cX5_brownout 1 = .ok (.iconst 1, 1) := by decide +kernel
theorem dX5_brownout_2 : decode cX5_brownout 2 = .ok (.bipush 9, 2) := by decide +kernel
theorem dX5_brownout_4 : decode cX5_brownout 4 = .ok (.invokestatic 44, 3) := by decide +kernel
theorem dX5_brownout_7 : decode cX5_brownout 7 = .ok (.ifCond .eq 5, 3) := by decide +kernel
theorem dX5_brownout_10 : decode cX5_brownout 10 = .ok (.iconst (-1), 1) := by decide +kernel
theorem dX5_brownout_11 : decode cX5_brownout 11 = .ok (.ireturn, 1) := by decide +kernel
theorem dX5_brownout_12 : decode cX5_brownout 12 = .ok (.aload_n 0, 1) := by decide +kernel
theorem dX5_brownout_13 : decode cX5_brownout 13 = .ok (.getfield 12, 3) := by decide +kernel
theorem dX5_brownout_16 : decode cX5_brownout 16 = .ok (.getfield 75, 3) := by decide +kernel
theorem dX5_brownout_19 : decode cX5_brownout 19 = .ok (.iload_n 1, 1) := by decide +kernel
theorem dX5_brownout_20 : decode cX5_brownout 20 = .ok (.iadd, 1) := by decide +kernel
theorem dX5_brownout_21 : decode cX5_brownout 21 = .ok (.bipush 99, 2) := by decide +kernel
theorem dX5_brownout_23 : decode cX5_brownout 23 = .ok (.if_icmp .le 6, 3) := by decide +kernel
theorem dX5_brownout_26 : decode cX5_brownout 26 = .ok (.bipush (-3), 2) := by decide +kernel
theorem dX5_brownout_28 : decode cX5_brownout 28 = .ok (.ireturn, 1) := by decide +kernel
theorem dX5_brownout_29 : decode cX5_brownout 29 = .ok (.aload_n 0, 1) := by decide +kernel
theorem dX5_brownout_30 : decode cX5_brownout 30 = .ok (.getfield 19, 3) := by decide +kernel
theorem dX5_brownout_33 : decode cX5_brownout 33 = .ok (.aload_n 0, 1) := by decide +kernel
theorem dX5_brownout_34 : decode cX5_brownout 34 = .ok (.getfield 12, 3) := by decide +kernel
theorem dX5_brownout_37 : decode cX5_brownout 37 = .ok (.invokevirtual 53, 3) := by decide +kernel
theorem dX5_brownout_40 : decode cX5_brownout 40 = .ok (.aload_n 0, 1) := by decide +kernel
theorem dX5_brownout_41 : decode cX5_brownout 41 = .ok (.getfield 12, 3) := by decide +kernel
theorem dX5_brownout_44 : decode cX5_brownout 44 = .ok (.dup, 1) := by decide +kernel
theorem dX5_brownout_45 : decode cX5_brownout 45 = .ok (.getfield 75, 3) := by decide +kernel
theorem dX5_brownout_48 : decode cX5_brownout 48 = .ok (.iload_n 1, 1) := by decide +kernel
theorem dX5_brownout_49 : decode cX5_brownout 49 = .ok (.iadd, 1) := by decide +kernel
theorem dX5_brownout_50 : decode cX5_brownout 50 = .ok (.putfield 75, 3) := by decide +kernel
theorem dX5_brownout_53 : decode cX5_brownout 53 = .ok (.aload_n 0, 1) := by decide +kernel
theorem dX5_brownout_54 : decode cX5_brownout 54 = .ok (.getfield 12, 3) := by decide +kernel
theorem dX5_brownout_57 : decode cX5_brownout 57 = .ok (.getfield 75, 3) := by decide +kernel
theorem dX5_brownout_60 : decode cX5_brownout 60 = .ok (.ireturn, 1) := by decide +kernel
theorem dX5_charge_0 : decode cX5_charge 0 = .ok (.iload_n 1, 1) := by decide +kernel
theorem dX5_charge_1 : decode cX5_charge 1 = .ok (.iconst 0, 1) := by decide +kernel
theorem dX5_charge_2 : decode cX5_charge 2 = .ok (.sipush 999, 3) := by decide +kernel
theorem dX5_charge_5 : decode cX5_charge 5 = .ok (.invokestatic 44, 3) := by decide +kernel
theorem dX5_charge_8 : decode cX5_charge 8 = .ok (.ifCond .eq 5, 3) := by decide +kernel
theorem dX5_charge_11 : decode cX5_charge 11 = .ok (.iconst (-1), 1) := by decide +kernel
theorem dX5_charge_12 : decode cX5_charge 12 = .ok (.ireturn, 1) := by decide +kernel
theorem dX5_charge_13 : decode cX5_charge 13 = .ok (.aload_n 0, 1) := by decide +kernel
theorem dX5_charge_14 : decode cX5_charge 14 = .ok (.getfield 19, 3) := by decide +kernel
theorem dX5_charge_17 : decode cX5_charge 17 = .ok (.aload_n 0, 1) := by decide +kernel
theorem dX5_charge_18 : decode cX5_charge 18 = .ok (.getfield 12, 3) := by decide +kernel
theorem dX5_charge_21 : decode cX5_charge 21 = .ok (.invokevirtual 53, 3) := by decide +kernel
theorem dX5_charge_24 : decode cX5_charge 24 = .ok (.aload_n 0, 1) := by decide +kernel
theorem dX5_charge_25 : decode cX5_charge 25 = .ok (.getfield 12, 3) := by decide +kernel
theorem dX5_charge_28 : decode cX5_charge 28 = .ok (.getfield 78, 3) := by decide +kernel
theorem dX5_charge_31 : decode cX5_charge 31 = .ok (.istore_n 2, 1) := by decide +kernel
theorem dX5_charge_32 : decode cX5_charge 32 = .ok (.aload_n 0, 1) := by decide +kernel
theorem dX5_charge_33 : decode cX5_charge 33 = .ok (.getfield 12, 3) := by decide +kernel
theorem dX5_charge_36 : decode cX5_charge 36 = .ok (.iload_n 1, 1) := by decide +kernel
theorem dX5_charge_37 : decode cX5_charge 37 = .ok (.putfield 78, 3) := by decide +kernel
theorem dX5_charge_40 : decode cX5_charge 40 = .ok (.iload_n 2, 1) := by decide +kernel
theorem dX5_charge_41 : decode cX5_charge 41 = .ok (.ireturn, 1) := by decide +kernel
theorem dX5_count_0 : decode cX5_count 0 = .ok (.iload_n 1, 1) := by decide +kernel
theorem dX5_count_1 : decode cX5_count 1 = .ok (.tableswitch 178 0 11 #[63, 71, 79, 87, 98, 106, 114, 138, 146, 154, 162, 170], 63) := by decide +kernel
theorem dX5_count_64 : decode cX5_count 64 = .ok (.aload_n 0, 1) := by decide +kernel
theorem dX5_count_65 : decode cX5_count 65 = .ok (.getfield 12, 3) := by decide +kernel
theorem dX5_count_68 : decode cX5_count 68 = .ok (.getfield 48, 3) := by decide +kernel
theorem dX5_count_71 : decode cX5_count 71 = .ok (.ireturn, 1) := by decide +kernel
theorem dX5_count_72 : decode cX5_count 72 = .ok (.aload_n 0, 1) := by decide +kernel
theorem dX5_count_73 : decode cX5_count 73 = .ok (.getfield 12, 3) := by decide +kernel
theorem dX5_count_76 : decode cX5_count 76 = .ok (.invokevirtual 81, 3) := by decide +kernel
theorem dX5_count_79 : decode cX5_count 79 = .ok (.ireturn, 1) := by decide +kernel
theorem dX5_count_80 : decode cX5_count 80 = .ok (.aload_n 0, 1) := by decide +kernel
theorem dX5_count_81 : decode cX5_count 81 = .ok (.getfield 12, 3) := by decide +kernel
theorem dX5_count_84 : decode cX5_count 84 = .ok (.getfield 85, 3) := by decide +kernel
theorem dX5_count_87 : decode cX5_count 87 = .ok (.ireturn, 1) := by decide +kernel
theorem dX5_count_88 : decode cX5_count 88 = .ok (.aload_n 0, 1) := by decide +kernel
theorem dX5_count_89 : decode cX5_count 89 = .ok (.getfield 12, 3) := by decide +kernel
theorem dX5_count_92 : decode cX5_count 92 = .ok (.getfield 67, 3) := by decide +kernel
theorem dX5_count_95 : decode cX5_count 95 = .ok (.invokestatic 71, 3) := by decide +kernel
theorem dX5_count_98 : decode cX5_count 98 = .ok (.ireturn, 1) := by decide +kernel
theorem dX5_count_99 : decode cX5_count 99 = .ok (.aload_n 0, 1) := by decide +kernel
theorem dX5_count_100 : decode cX5_count 100 = .ok (.getfield 12, 3) := by decide +kernel
theorem dX5_count_103 : decode cX5_count 103 = .ok (.getfield 78, 3) := by decide +kernel
theorem dX5_count_106 : decode cX5_count 106 = .ok (.ireturn, 1) := by decide +kernel
theorem dX5_count_107 : decode cX5_count 107 = .ok (.aload_n 0, 1) := by decide +kernel
theorem dX5_count_108 : decode cX5_count 108 = .ok (.getfield 12, 3) := by decide +kernel
theorem dX5_count_111 : decode cX5_count 111 = .ok (.getfield 75, 3) := by decide +kernel
theorem dX5_count_114 : decode cX5_count 114 = .ok (.ireturn, 1) := by decide +kernel
theorem dX5_count_115 : decode cX5_count 115 = .ok (.aload_n 0, 1) := by decide +kernel
theorem dX5_count_116 : decode cX5_count 116 = .ok (.getfield 12, 3) := by decide +kernel
theorem dX5_count_119 : decode cX5_count 119 = .ok (.getfield 88, 3) := by decide +kernel
theorem dX5_count_122 : decode cX5_count 122 = .ok (.iconst (-1), 1) := by decide +kernel
theorem dX5_count_123 : decode cX5_count 123 = .ok (.if_icmp .ne 8, 3) := by decide +kernel
theorem dX5_count_126 : decode cX5_count 126 = .ok (.bipush (-4), 2) := by decide +kernel
theorem dX5_count_128 : decode cX5_count 128 = .ok (.goto 10, 3) := by decide +kernel
theorem dX5_count_131 : decode cX5_count 131 = .ok (.aload_n 0, 1) := by decide +kernel
theorem dX5_count_132 : decode cX5_count 132 = .ok (.getfield 12, 3) := by decide +kernel
theorem dX5_count_135 : decode cX5_count 135 = .ok (.getfield 88, 3) := by decide +kernel
theorem dX5_count_138 : decode cX5_count 138 = .ok (.ireturn, 1) := by decide +kernel
theorem dX5_count_139 : decode cX5_count 139 = .ok (.aload_n 0, 1) := by decide +kernel
theorem dX5_count_140 : decode cX5_count 140 = .ok (.getfield 12, 3) := by decide +kernel
theorem dX5_count_143 : decode cX5_count 143 = .ok (.getfield 91, 3) := by decide +kernel
theorem dX5_count_146 : decode cX5_count 146 = .ok (.ireturn, 1) := by decide +kernel
theorem dX5_count_147 : decode cX5_count 147 = .ok (.aload_n 0, 1) := by decide +kernel
theorem dX5_count_148 : decode cX5_count 148 = .ok (.getfield 12, 3) := by decide +kernel
theorem dX5_count_151 : decode cX5_count 151 = .ok (.invokevirtual 94, 3) := by decide +kernel
theorem dX5_count_154 : decode cX5_count 154 = .ok (.ireturn, 1) := by decide +kernel
theorem dX5_count_155 : decode cX5_count 155 = .ok (.aload_n 0, 1) := by decide +kernel
theorem dX5_count_156 : decode cX5_count 156 = .ok (.getfield 12, 3) := by decide +kernel
theorem dX5_count_159 : decode cX5_count 159 = .ok (.invokevirtual 97, 3) := by decide +kernel
theorem dX5_count_162 : decode cX5_count 162 = .ok (.ireturn, 1) := by decide +kernel
theorem dX5_count_163 : decode cX5_count 163 = .ok (.aload_n 0, 1) := by decide +kernel
theorem dX5_count_164 : decode cX5_count 164 = .ok (.getfield 19, 3) := by decide +kernel
theorem dX5_count_167 : decode cX5_count 167 = .ok (.getfield 100, 3) := by decide +kernel
theorem dX5_count_170 : decode cX5_count 170 = .ok (.ireturn, 1) := by decide +kernel
theorem dX5_count_171 : decode cX5_count 171 = .ok (.aload_n 0, 1) := by decide +kernel
theorem dX5_count_172 : decode cX5_count 172 = .ok (.getfield 40, 3) := by decide +kernel
theorem dX5_count_175 : decode cX5_count 175 = .ok (.getfield 103, 3) := by decide +kernel
theorem dX5_count_178 : decode cX5_count 178 = .ok (.ireturn, 1) := by decide +kernel
theorem dX5_count_179 : decode cX5_count 179 = .ok (.aload_n 0, 1) := by decide +kernel
theorem dX5_count_180 : decode cX5_count 180 = .ok (.iload_n 1, 1) := by decide +kernel
theorem dX5_count_181 : decode cX5_count 181 = .ok (.bipush 20, 2) := by decide +kernel
theorem dX5_count_183 : decode cX5_count 183 = .ok (.isub, 1) := by decide +kernel
theorem dX5_count_184 : decode cX5_count 184 = .ok (.invokevirtual 106, 3) := by decide +kernel
theorem dX5_count_187 : decode cX5_count 187 = .ok (.ireturn, 1) := by decide +kernel
theorem dX5_undo_0 : decode cX5_undo 0 = .ok (.aload_n 0, 1) := by decide +kernel
theorem dX5_undo_1 : decode cX5_undo 1 = .ok (.getfield 19, 3) := by decide +kernel
theorem dX5_undo_4 : decode cX5_undo 4 = .ok (.getfield 100, 3) := by decide +kernel
theorem dX5_undo_7 : decode cX5_undo 7 = .ok (.ifCond .ne 6, 3) := by decide +kernel
theorem dX5_undo_10 : decode cX5_undo 10 = .ok (.bipush (-2), 2) := by decide +kernel
theorem dX5_undo_12 : decode cX5_undo 12 = .ok (.ireturn, 1) := by decide +kernel
theorem dX5_undo_13 : decode cX5_undo 13 = .ok (.aload_n 0, 1) := by decide +kernel
theorem dX5_undo_14 : decode cX5_undo 14 = .ok (.getfield 19, 3) := by decide +kernel
theorem dX5_undo_17 : decode cX5_undo 17 = .ok (.aload_n 0, 1) := by decide +kernel
theorem dX5_undo_18 : decode cX5_undo 18 = .ok (.getfield 12, 3) := by decide +kernel
theorem dX5_undo_21 : decode cX5_undo 21 = .ok (.invokevirtual 109, 3) := by decide +kernel
theorem dX5_undo_24 : decode cX5_undo 24 = .ok (.aload_n 0, 1) := by decide +kernel
theorem dX5_undo_25 : decode cX5_undo 25 = .ok (.getfield 19, 3) := by decide +kernel
theorem dX5_undo_28 : decode cX5_undo 28 = .ok (.getfield 100, 3) := by decide +kernel
theorem dX5_undo_31 : decode cX5_undo 31 = .ok (.ireturn, 1) := by decide +kernel
theorem dX5_disk_0 : decode cX5_disk 0 = .ok (.iload_n 1, 1) := by decide +kernel
theorem dX5_disk_1 : decode cX5_disk 1 = .ok (.iload_n 2, 1) := by decide +kernel
theorem dX5_disk_2 : decode cX5_disk 2 = .ok (.invokestatic 112, 3) := by decide +kernel
theorem dX5_disk_5 : decode cX5_disk 5 = .ok (.ifCond .eq 14, 3) := by decide +kernel
theorem dX5_disk_8 : decode cX5_disk 8 = .ok (.iload_n 3, 1) := by decide +kernel
theorem dX5_disk_9 : decode cX5_disk 9 = .ok (.bipush (-9), 2) := by decide +kernel
theorem dX5_disk_11 : decode cX5_disk 11 = .ok (.bipush 9, 2) := by decide +kernel
theorem dX5_disk_13 : decode cX5_disk 13 = .ok (.invokestatic 44, 3) := by decide +kernel
theorem dX5_disk_16 : decode cX5_disk 16 = .ok (.ifCond .eq 5, 3) := by decide +kernel
theorem dX5_disk_19 : decode cX5_disk 19 = .ok (.iconst (-1), 1) := by decide +kernel
theorem dX5_disk_20 : decode cX5_disk 20 = .ok (.ireturn, 1) := by decide +kernel
theorem dX5_disk_21 : decode cX5_disk 21 = .ok (.aload_n 0, 1) := by decide +kernel
theorem dX5_disk_22 : decode cX5_disk 22 = .ok (.getfield 19, 3) := by decide +kernel
theorem dX5_disk_25 : decode cX5_disk 25 = .ok (.aload_n 0, 1) := by decide +kernel
theorem dX5_disk_26 : decode cX5_disk 26 = .ok (.getfield 12, 3) := by decide +kernel
theorem dX5_disk_29 : decode cX5_disk 29 = .ok (.invokevirtual 53, 3) := by decide +kernel
theorem dX5_disk_32 : decode cX5_disk 32 = .ok (.aload_n 0, 1) := by decide +kernel
theorem dX5_disk_33 : decode cX5_disk 33 = .ok (.getfield 12, 3) := by decide +kernel
theorem dX5_disk_36 : decode cX5_disk 36 = .ok (.getfield 116, 3) := by decide +kernel
theorem dX5_disk_39 : decode cX5_disk 39 = .ok (.iload_n 1, 1) := by decide +kernel
theorem dX5_disk_40 : decode cX5_disk 40 = .ok (.iload_n 2, 1) := by decide +kernel
theorem dX5_disk_41 : decode cX5_disk 41 = .ok (.invokestatic 120, 3) := by decide +kernel
theorem dX5_disk_44 : decode cX5_disk 44 = .ok (.invokestatic 124, 3) := by decide +kernel
theorem dX5_disk_47 : decode cX5_disk 47 = .ok (.istore 4, 2) := by decide +kernel
theorem dX5_disk_49 : decode cX5_disk 49 = .ok (.aload_n 0, 1) := by decide +kernel
theorem dX5_disk_50 : decode cX5_disk 50 = .ok (.getfield 12, 3) := by decide +kernel
theorem dX5_disk_53 : decode cX5_disk 53 = .ok (.getfield 116, 3) := by decide +kernel
theorem dX5_disk_56 : decode cX5_disk 56 = .ok (.iload_n 1, 1) := by decide +kernel
theorem dX5_disk_57 : decode cX5_disk 57 = .ok (.iload_n 2, 1) := by decide +kernel
theorem dX5_disk_58 : decode cX5_disk 58 = .ok (.invokestatic 120, 3) := by decide +kernel
theorem dX5_disk_61 : decode cX5_disk 61 = .ok (.iload_n 3, 1) := by decide +kernel
theorem dX5_disk_62 : decode cX5_disk 62 = .ok (.invokestatic 128, 3) := by decide +kernel
theorem dX5_disk_65 : decode cX5_disk 65 = .ok (.iload 4, 2) := by decide +kernel
theorem dX5_disk_67 : decode cX5_disk 67 = .ok (.bipush 100, 2) := by decide +kernel
theorem dX5_disk_69 : decode cX5_disk 69 = .ok (.iadd, 1) := by decide +kernel
theorem dX5_disk_70 : decode cX5_disk 70 = .ok (.ireturn, 1) := by decide +kernel
theorem dX5_noise_0 : decode cX5_noise 0 = .ok (.iload_n 1, 1) := by decide +kernel
theorem dX5_noise_1 : decode cX5_noise 1 = .ok (.invokestatic 132, 3) := by decide +kernel
theorem dX5_noise_4 : decode cX5_noise 4 = .ok (.ifCond .eq 14, 3) := by decide +kernel
theorem dX5_noise_7 : decode cX5_noise 7 = .ok (.iload_n 2, 1) := by decide +kernel
theorem dX5_noise_8 : decode cX5_noise 8 = .ok (.bipush (-9), 2) := by decide +kernel
theorem dX5_noise_10 : decode cX5_noise 10 = .ok (.bipush 9, 2) := by decide +kernel
theorem dX5_noise_12 : decode cX5_noise 12 = .ok (.invokestatic 44, 3) := by decide +kernel
theorem dX5_noise_15 : decode cX5_noise 15 = .ok (.ifCond .eq 5, 3) := by decide +kernel
theorem dX5_noise_18 : decode cX5_noise 18 = .ok (.iconst (-1), 1) := by decide +kernel
theorem dX5_noise_19 : decode cX5_noise 19 = .ok (.ireturn, 1) := by decide +kernel
theorem dX5_noise_20 : decode cX5_noise 20 = .ok (.aload_n 0, 1) := by decide +kernel
theorem dX5_noise_21 : decode cX5_noise 21 = .ok (.getfield 19, 3) := by decide +kernel
theorem dX5_noise_24 : decode cX5_noise 24 = .ok (.aload_n 0, 1) := by decide +kernel
theorem dX5_noise_25 : decode cX5_noise 25 = .ok (.getfield 12, 3) := by decide +kernel
theorem dX5_noise_28 : decode cX5_noise 28 = .ok (.invokevirtual 53, 3) := by decide +kernel
theorem dX5_noise_31 : decode cX5_noise 31 = .ok (.aload_n 0, 1) := by decide +kernel
theorem dX5_noise_32 : decode cX5_noise 32 = .ok (.getfield 12, 3) := by decide +kernel
theorem dX5_noise_35 : decode cX5_noise 35 = .ok (.getfield 136, 3) := by decide +kernel
theorem dX5_noise_38 : decode cX5_noise 38 = .ok (.iload_n 1, 1) := by decide +kernel
theorem dX5_noise_39 : decode cX5_noise 39 = .ok (.invokestatic 124, 3) := by decide +kernel
theorem dX5_noise_42 : decode cX5_noise 42 = .ok (.istore_n 3, 1) := by decide +kernel
theorem dX5_noise_43 : decode cX5_noise 43 = .ok (.aload_n 0, 1) := by decide +kernel
theorem dX5_noise_44 : decode cX5_noise 44 = .ok (.getfield 12, 3) := by decide +kernel
theorem dX5_noise_47 : decode cX5_noise 47 = .ok (.getfield 136, 3) := by decide +kernel
theorem dX5_noise_50 : decode cX5_noise 50 = .ok (.iload_n 1, 1) := by decide +kernel
theorem dX5_noise_51 : decode cX5_noise 51 = .ok (.iload_n 2, 1) := by decide +kernel
theorem dX5_noise_52 : decode cX5_noise 52 = .ok (.invokestatic 128, 3) := by decide +kernel
theorem dX5_noise_55 : decode cX5_noise 55 = .ok (.iload_n 3, 1) := by decide +kernel
theorem dX5_noise_56 : decode cX5_noise 56 = .ok (.bipush 100, 2) := by decide +kernel
theorem dX5_noise_58 : decode cX5_noise 58 = .ok (.iadd, 1) := by decide +kernel
theorem dX5_noise_59 : decode cX5_noise 59 = .ok (.ireturn, 1) := by decide +kernel
theorem dX5_set_0 : decode cX5_set 0 = .ok (.iload_n 1, 1) := by decide +kernel
theorem dX5_set_1 : decode cX5_set 1 = .ok (.iconst 0, 1) := by decide +kernel
theorem dX5_set_2 : decode cX5_set 2 = .ok (.iconst 3, 1) := by decide +kernel
theorem dX5_set_3 : decode cX5_set 3 = .ok (.invokestatic 44, 3) := by decide +kernel
theorem dX5_set_6 : decode cX5_set 6 = .ok (.ifCond .ne 24, 3) := by decide +kernel
theorem dX5_set_9 : decode cX5_set 9 = .ok (.iload_n 2, 1) := by decide +kernel
theorem dX5_set_10 : decode cX5_set 10 = .ok (.getstatic 139, 3) := by decide +kernel
theorem dX5_set_13 : decode cX5_set 13 = .ok (.iload_n 1, 1) := by decide +kernel
theorem dX5_set_14 : decode cX5_set 14 = .ok (.invokestatic 124, 3) := by decide +kernel
theorem dX5_set_17 : decode cX5_set 17 = .ok (.getstatic 142, 3) := by decide +kernel
theorem dX5_set_20 : decode cX5_set 20 = .ok (.iload_n 1, 1) := by decide +kernel
theorem dX5_set_21 : decode cX5_set 21 = .ok (.invokestatic 124, 3) := by decide +kernel
theorem dX5_set_24 : decode cX5_set 24 = .ok (.invokestatic 44, 3) := by decide +kernel
theorem dX5_set_27 : decode cX5_set 27 = .ok (.ifCond .eq 5, 3) := by decide +kernel
theorem dX5_set_30 : decode cX5_set 30 = .ok (.iconst (-1), 1) := by decide +kernel
theorem dX5_set_31 : decode cX5_set 31 = .ok (.ireturn, 1) := by decide +kernel
theorem dX5_set_32 : decode cX5_set 32 = .ok (.aload_n 0, 1) := by decide +kernel
theorem dX5_set_33 : decode cX5_set 33 = .ok (.getfield 19, 3) := by decide +kernel
theorem dX5_set_36 : decode cX5_set 36 = .ok (.aload_n 0, 1) := by decide +kernel
theorem dX5_set_37 : decode cX5_set 37 = .ok (.getfield 12, 3) := by decide +kernel
theorem dX5_set_40 : decode cX5_set 40 = .ok (.invokevirtual 53, 3) := by decide +kernel
theorem dX5_set_43 : decode cX5_set 43 = .ok (.aload_n 0, 1) := by decide +kernel
theorem dX5_set_44 : decode cX5_set 44 = .ok (.iload_n 1, 1) := by decide +kernel
theorem dX5_set_45 : decode cX5_set 45 = .ok (.invokevirtual 145, 3) := by decide +kernel
theorem dX5_set_48 : decode cX5_set 48 = .ok (.istore_n 3, 1) := by decide +kernel
theorem dX5_set_49 : decode cX5_set 49 = .ok (.aload_n 0, 1) := by decide +kernel
theorem dX5_set_50 : decode cX5_set 50 = .ok (.getfield 12, 3) := by decide +kernel
theorem dX5_set_53 : decode cX5_set 53 = .ok (.getfield 148, 3) := by decide +kernel
theorem dX5_set_56 : decode cX5_set 56 = .ok (.iload_n 1, 1) := by decide +kernel
theorem dX5_set_57 : decode cX5_set 57 = .ok (.iload_n 2, 1) := by decide +kernel
theorem dX5_set_58 : decode cX5_set 58 = .ok (.invokestatic 128, 3) := by decide +kernel
theorem dX5_set_61 : decode cX5_set 61 = .ok (.iload_n 3, 1) := by decide +kernel
theorem dX5_set_62 : decode cX5_set 62 = .ok (.ireturn, 1) := by decide +kernel
theorem dX5_reading_0 : decode cX5_reading 0 = .ok (.iload_n 1, 1) := by decide +kernel
theorem dX5_reading_1 : decode cX5_reading 1 = .ok (.invokestatic 132, 3) := by decide +kernel
theorem dX5_reading_4 : decode cX5_reading 4 = .ok (.ifCond .eq 21, 3) := by decide +kernel
theorem dX5_reading_7 : decode cX5_reading 7 = .ok (.aload_n 0, 1) := by decide +kernel
theorem dX5_reading_8 : decode cX5_reading 8 = .ok (.getfield 12, 3) := by decide +kernel
theorem dX5_reading_11 : decode cX5_reading 11 = .ok (.iload_n 1, 1) := by decide +kernel
theorem dX5_reading_12 : decode cX5_reading 12 = .ok (.aload_n 0, 1) := by decide +kernel
theorem dX5_reading_13 : decode cX5_reading 13 = .ok (.getfield 12, 3) := by decide +kernel
theorem dX5_reading_16 : decode cX5_reading 16 = .ok (.invokevirtual 81, 3) := by decide +kernel
theorem dX5_reading_19 : decode cX5_reading 19 = .ok (.invokevirtual 151, 3) := by decide +kernel
theorem dX5_reading_22 : decode cX5_reading 22 = .ok (.goto 4, 3) := by decide +kernel
theorem dX5_reading_25 : decode cX5_reading 25 = .ok (.iconst (-1), 1) := by decide +kernel
theorem dX5_reading_26 : decode cX5_reading 26 = .ok (.ireturn, 1) := by decide +kernel
theorem dX5_found_0 : decode cX5_found 0 = .ok (.iconst 0, 1) := by decide +kernel
theorem dX5_found_1 : decode cX5_found 1 = .ok (.iload_n 1, 1) := by decide +kernel
theorem dX5_found_2 : decode cX5_found 2 = .ok (.invokestatic 154, 3) := by decide +kernel
theorem dX5_found_5 : decode cX5_found 5 = .ok (.ifCond .eq 29, 3) := by decide +kernel
theorem dX5_found_8 : decode cX5_found 8 = .ok (.iconst 1, 1) := by decide +kernel
theorem dX5_found_9 : decode cX5_found 9 = .ok (.iload_n 2, 1) := by decide +kernel
theorem dX5_found_10 : decode cX5_found 10 = .ok (.invokestatic 154, 3) := by decide +kernel
theorem dX5_found_13 : decode cX5_found 13 = .ok (.ifCond .eq 21, 3) := by decide +kernel
theorem dX5_found_16 : decode cX5_found 16 = .ok (.iconst 2, 1) := by decide +kernel
theorem dX5_found_17 : decode cX5_found 17 = .ok (.iload_n 3, 1) := by decide +kernel
theorem dX5_found_18 : decode cX5_found 18 = .ok (.invokestatic 154, 3) := by decide +kernel
theorem dX5_found_21 : decode cX5_found 21 = .ok (.ifCond .eq 13, 3) := by decide +kernel
theorem dX5_found_24 : decode cX5_found 24 = .ok (.iload 4, 2) := by decide +kernel
theorem dX5_found_26 : decode cX5_found 26 = .ok (.iconst 0, 1) := by decide +kernel
theorem dX5_found_27 : decode cX5_found 27 = .ok (.iconst 1, 1) := by decide +kernel
theorem dX5_found_28 : decode cX5_found 28 = .ok (.invokestatic 44, 3) := by decide +kernel
theorem dX5_found_31 : decode cX5_found 31 = .ok (.ifCond .eq 5, 3) := by decide +kernel
theorem dX5_found_34 : decode cX5_found 34 = .ok (.iconst (-1), 1) := by decide +kernel
theorem dX5_found_35 : decode cX5_found 35 = .ok (.ireturn, 1) := by decide +kernel
theorem dX5_found_36 : decode cX5_found 36 = .ok (.iload_n 1, 1) := by decide +kernel
theorem dX5_found_37 : decode cX5_found 37 = .ok (.iload_n 2, 1) := by decide +kernel
theorem dX5_found_38 : decode cX5_found 38 = .ok (.iload_n 3, 1) := by decide +kernel
theorem dX5_found_39 : decode cX5_found 39 = .ok (.invokestatic 157, 3) := by decide +kernel
theorem dX5_found_42 : decode cX5_found 42 = .ok (.istore 5, 2) := by decide +kernel
theorem dX5_found_44 : decode cX5_found 44 = .ok (.iload 4, 2) := by decide +kernel
theorem dX5_found_46 : decode cX5_found 46 = .ok (.ifCond .ne 8, 3) := by decide +kernel
theorem dX5_found_49 : decode cX5_found 49 = .ok (.iload 5, 2) := by decide +kernel
theorem dX5_found_51 : decode cX5_found 51 = .ok (.goto 11, 3) := by decide +kernel
theorem dX5_found_54 : decode cX5_found 54 = .ok (.iload 5, 2) := by decide +kernel
theorem dX5_found_56 : decode cX5_found 56 = .ok (.iload_n 1, 1) := by decide +kernel
theorem dX5_found_57 : decode cX5_found 57 = .ok (.iload_n 2, 1) := by decide +kernel
theorem dX5_found_58 : decode cX5_found 58 = .ok (.iload_n 3, 1) := by decide +kernel
theorem dX5_found_59 : decode cX5_found 59 = .ok (.invokestatic 161, 3) := by decide +kernel
theorem dX5_found_62 : decode cX5_found 62 = .ok (.ireturn, 1) := by decide +kernel
theorem dX5_byTwo_0 : decode cX5_byTwo 0 = .ok (.iload_n 1, 1) := by decide +kernel
theorem dX5_byTwo_1 : decode cX5_byTwo 1 = .ok (.invokestatic 132, 3) := by decide +kernel
theorem dX5_byTwo_4 : decode cX5_byTwo 4 = .ok (.ifCond .eq 32, 3) := by decide +kernel
theorem dX5_byTwo_7 : decode cX5_byTwo 7 = .ok (.iload_n 3, 1) := by decide +kernel
theorem dX5_byTwo_8 : decode cX5_byTwo 8 = .ok (.invokestatic 132, 3) := by decide +kernel
theorem dX5_byTwo_11 : decode cX5_byTwo 11 = .ok (.ifCond .eq 25, 3) := by decide +kernel
theorem dX5_byTwo_14 : decode cX5_byTwo 14 = .ok (.iload_n 1, 1) := by decide +kernel
theorem dX5_byTwo_15 : decode cX5_byTwo 15 = .ok (.iload_n 3, 1) := by decide +kernel
theorem dX5_byTwo_16 : decode cX5_byTwo 16 = .ok (.if_icmp .eq 20, 3) := by decide +kernel
theorem dX5_byTwo_19 : decode cX5_byTwo 19 = .ok (.iload_n 1, 1) := by decide +kernel
theorem dX5_byTwo_20 : decode cX5_byTwo 20 = .ok (.iload_n 2, 1) := by decide +kernel
theorem dX5_byTwo_21 : decode cX5_byTwo 21 = .ok (.invokestatic 154, 3) := by decide +kernel
theorem dX5_byTwo_24 : decode cX5_byTwo 24 = .ok (.ifCond .eq 12, 3) := by decide +kernel
theorem dX5_byTwo_27 : decode cX5_byTwo 27 = .ok (.iload_n 3, 1) := by decide +kernel
theorem dX5_byTwo_28 : decode cX5_byTwo 28 = .ok (.iload 4, 2) := by decide +kernel
theorem dX5_byTwo_30 : decode cX5_byTwo 30 = .ok (.invokestatic 154, 3) := by decide +kernel
theorem dX5_byTwo_33 : decode cX5_byTwo 33 = .ok (.ifCond .ne 5, 3) := by decide +kernel
theorem dX5_byTwo_36 : decode cX5_byTwo 36 = .ok (.iconst (-1), 1) := by decide +kernel
theorem dX5_byTwo_37 : decode cX5_byTwo 37 = .ok (.ireturn, 1) := by decide +kernel
theorem dX5_byTwo_38 : decode cX5_byTwo 38 = .ok (.iconst 0, 1) := by decide +kernel
theorem dX5_byTwo_39 : decode cX5_byTwo 39 = .ok (.istore 5, 2) := by decide +kernel
theorem dX5_byTwo_41 : decode cX5_byTwo 41 = .ok (.iload 5, 2) := by decide +kernel
theorem dX5_byTwo_43 : decode cX5_byTwo 43 = .ok (.sipush 4080, 3) := by decide +kernel
theorem dX5_byTwo_46 : decode cX5_byTwo 46 = .ok (.if_icmp .ge 45, 3) := by decide +kernel
theorem dX5_byTwo_49 : decode cX5_byTwo 49 = .ok (.iload 5, 2) := by decide +kernel
theorem dX5_byTwo_51 : decode cX5_byTwo 51 = .ok (.getstatic 165, 3) := by decide +kernel
theorem dX5_byTwo_54 : decode cX5_byTwo 54 = .ok (.iload_n 1, 1) := by decide +kernel
theorem dX5_byTwo_55 : decode cX5_byTwo 55 = .ok (.invokestatic 124, 3) := by decide +kernel
theorem dX5_byTwo_58 : decode cX5_byTwo 58 = .ok (.invokestatic 168, 3) := by decide +kernel
theorem dX5_byTwo_61 : decode cX5_byTwo 61 = .ok (.iload_n 2, 1) := by decide +kernel
theorem dX5_byTwo_62 : decode cX5_byTwo 62 = .ok (.if_icmp .ne 23, 3) := by decide +kernel
theorem dX5_byTwo_65 : decode cX5_byTwo 65 = .ok (.iload 5, 2) := by decide +kernel
theorem dX5_byTwo_67 : decode cX5_byTwo 67 = .ok (.getstatic 165, 3) := by decide +kernel
theorem dX5_byTwo_70 : decode cX5_byTwo 70 = .ok (.iload_n 3, 1) := by decide +kernel
theorem dX5_byTwo_71 : decode cX5_byTwo 71 = .ok (.invokestatic 124, 3) := by decide +kernel
theorem dX5_byTwo_74 : decode cX5_byTwo 74 = .ok (.invokestatic 168, 3) := by decide +kernel
theorem dX5_byTwo_77 : decode cX5_byTwo 77 = .ok (.iload 4, 2) := by decide +kernel
theorem dX5_byTwo_79 : decode cX5_byTwo 79 = .ok (.if_icmp .ne 6, 3) := by decide +kernel
theorem dX5_byTwo_82 : decode cX5_byTwo 82 = .ok (.iload 5, 2) := by decide +kernel
theorem dX5_byTwo_84 : decode cX5_byTwo 84 = .ok (.ireturn, 1) := by decide +kernel
theorem dX5_byTwo_85 : decode cX5_byTwo 85 = .ok (.iinc 5 1, 3) := by decide +kernel
theorem dX5_byTwo_88 : decode cX5_byTwo 88 = .ok (.goto (-47), 3) := by decide +kernel
theorem dX5_byTwo_91 : decode cX5_byTwo 91 = .ok (.bipush (-4), 2) := by decide +kernel
theorem dX5_byTwo_93 : decode cX5_byTwo 93 = .ok (.ireturn, 1) := by decide +kernel
theorem dX5_correct_0 : decode cX5_correct 0 = .ok (.iload_n 1, 1) := by decide +kernel
theorem dX5_correct_1 : decode cX5_correct 1 = .ok (.iload_n 2, 1) := by decide +kernel
theorem dX5_correct_2 : decode cX5_correct 2 = .ok (.invokestatic 112, 3) := by decide +kernel
theorem dX5_correct_5 : decode cX5_correct 5 = .ok (.ifCond .eq 14, 3) := by decide +kernel
theorem dX5_correct_8 : decode cX5_correct 8 = .ok (.iload_n 3, 1) := by decide +kernel
theorem dX5_correct_9 : decode cX5_correct 9 = .ok (.bipush (-20), 2) := by decide +kernel
theorem dX5_correct_11 : decode cX5_correct 11 = .ok (.bipush 20, 2) := by decide +kernel
theorem dX5_correct_13 : decode cX5_correct 13 = .ok (.invokestatic 44, 3) := by decide +kernel
theorem dX5_correct_16 : decode cX5_correct 16 = .ok (.ifCond .eq 5, 3) := by decide +kernel
theorem dX5_correct_19 : decode cX5_correct 19 = .ok (.iconst (-1), 1) := by decide +kernel
theorem dX5_correct_20 : decode cX5_correct 20 = .ok (.ireturn, 1) := by decide +kernel
theorem dX5_correct_21 : decode cX5_correct 21 = .ok (.aload_n 0, 1) := by decide +kernel
theorem dX5_correct_22 : decode cX5_correct 22 = .ok (.getfield 19, 3) := by decide +kernel
theorem dX5_correct_25 : decode cX5_correct 25 = .ok (.aload_n 0, 1) := by decide +kernel
theorem dX5_correct_26 : decode cX5_correct 26 = .ok (.getfield 12, 3) := by decide +kernel
theorem dX5_correct_29 : decode cX5_correct 29 = .ok (.invokevirtual 53, 3) := by decide +kernel
theorem dX5_correct_32 : decode cX5_correct 32 = .ok (.aload_n 0, 1) := by decide +kernel
theorem dX5_correct_33 : decode cX5_correct 33 = .ok (.getfield 12, 3) := by decide +kernel
theorem dX5_correct_36 : decode cX5_correct 36 = .ok (.getfield 171, 3) := by decide +kernel
theorem dX5_correct_39 : decode cX5_correct 39 = .ok (.iload_n 1, 1) := by decide +kernel
theorem dX5_correct_40 : decode cX5_correct 40 = .ok (.iload_n 2, 1) := by decide +kernel
theorem dX5_correct_41 : decode cX5_correct 41 = .ok (.invokestatic 120, 3) := by decide +kernel
theorem dX5_correct_44 : decode cX5_correct 44 = .ok (.invokestatic 124, 3) := by decide +kernel
theorem dX5_correct_47 : decode cX5_correct 47 = .ok (.istore 4, 2) := by decide +kernel
theorem dX5_correct_49 : decode cX5_correct 49 = .ok (.aload_n 0, 1) := by decide +kernel
theorem dX5_correct_50 : decode cX5_correct 50 = .ok (.getfield 12, 3) := by decide +kernel
theorem dX5_correct_53 : decode cX5_correct 53 = .ok (.getfield 171, 3) := by decide +kernel
theorem dX5_correct_56 : decode cX5_correct 56 = .ok (.iload_n 1, 1) := by decide +kernel
theorem dX5_correct_57 : decode cX5_correct 57 = .ok (.iload_n 2, 1) := by decide +kernel
theorem dX5_correct_58 : decode cX5_correct 58 = .ok (.invokestatic 120, 3) := by decide +kernel
theorem dX5_correct_61 : decode cX5_correct 61 = .ok (.iload_n 3, 1) := by decide +kernel
theorem dX5_correct_62 : decode cX5_correct 62 = .ok (.invokestatic 128, 3) := by decide +kernel
theorem dX5_correct_65 : decode cX5_correct 65 = .ok (.iload 4, 2) := by decide +kernel
theorem dX5_correct_67 : decode cX5_correct 67 = .ok (.bipush 100, 2) := by decide +kernel
theorem dX5_correct_69 : decode cX5_correct 69 = .ok (.iadd, 1) := by decide +kernel
theorem dX5_correct_70 : decode cX5_correct 70 = .ok (.ireturn, 1) := by decide +kernel
theorem dX5_correction_0 : decode cX5_correction 0 = .ok (.iload_n 1, 1) := by decide +kernel
theorem dX5_correction_1 : decode cX5_correction 1 = .ok (.iload_n 2, 1) := by decide +kernel
theorem dX5_correction_2 : decode cX5_correction 2 = .ok (.invokestatic 112, 3) := by decide +kernel
theorem dX5_correction_5 : decode cX5_correction 5 = .ok (.ifCond .ne 5, 3) := by decide +kernel
theorem dX5_correction_8 : decode cX5_correction 8 = .ok (.iconst (-1), 1) := by decide +kernel
theorem dX5_correction_9 : decode cX5_correction 9 = .ok (.ireturn, 1) := by decide +kernel
theorem dX5_correction_10 : decode cX5_correction 10 = .ok (.aload_n 0, 1) := by decide +kernel
theorem dX5_correction_11 : decode cX5_correction 11 = .ok (.getfield 12, 3) := by decide +kernel
theorem dX5_correction_14 : decode cX5_correction 14 = .ok (.getfield 171, 3) := by decide +kernel
theorem dX5_correction_17 : decode cX5_correction 17 = .ok (.iload_n 1, 1) := by decide +kernel
theorem dX5_correction_18 : decode cX5_correction 18 = .ok (.iload_n 2, 1) := by decide +kernel
theorem dX5_correction_19 : decode cX5_correction 19 = .ok (.invokestatic 120, 3) := by decide +kernel
theorem dX5_correction_22 : decode cX5_correction 22 = .ok (.invokestatic 124, 3) := by decide +kernel
theorem dX5_correction_25 : decode cX5_correction 25 = .ok (.bipush 100, 2) := by decide +kernel
theorem dX5_correction_27 : decode cX5_correction 27 = .ok (.iadd, 1) := by decide +kernel
theorem dX5_correction_28 : decode cX5_correction 28 = .ok (.ireturn, 1) := by decide +kernel
theorem dX5_learn_0 : decode cX5_learn 0 = .ok (.iconst 0, 1) := by decide +kernel
theorem dX5_learn_1 : decode cX5_learn 1 = .ok (.istore_n 1, 1) := by decide +kernel
theorem dX5_learn_2 : decode cX5_learn 2 = .ok (.iload_n 1, 1) := by decide +kernel
theorem dX5_learn_3 : decode cX5_learn 3 = .ok (.iconst 3, 1) := by decide +kernel
theorem dX5_learn_4 : decode cX5_learn 4 = .ok (.if_icmp .ge 30, 3) := by decide +kernel
theorem dX5_learn_7 : decode cX5_learn 7 = .ok (.aload_n 0, 1) := by decide +kernel
theorem dX5_learn_8 : decode cX5_learn 8 = .ok (.getfield 12, 3) := by decide +kernel
theorem dX5_learn_11 : decode cX5_learn 11 = .ok (.iload_n 1, 1) := by decide +kernel
theorem dX5_learn_12 : decode cX5_learn 12 = .ok (.invokevirtual 174, 3) := by decide +kernel
theorem dX5_learn_15 : decode cX5_learn 15 = .ok (.bipush (-20), 2) := by decide +kernel
theorem dX5_learn_17 : decode cX5_learn 17 = .ok (.bipush 20, 2) := by decide +kernel
theorem dX5_learn_19 : decode cX5_learn 19 = .ok (.invokestatic 44, 3) := by decide +kernel
theorem dX5_learn_22 : decode cX5_learn 22 = .ok (.ifCond .eq 6, 3) := by decide +kernel
theorem dX5_learn_25 : decode cX5_learn 25 = .ok (.bipush (-2), 2) := by decide +kernel
theorem dX5_learn_27 : decode cX5_learn 27 = .ok (.ireturn, 1) := by decide +kernel
theorem dX5_learn_28 : decode cX5_learn 28 = .ok (.iinc 1 1, 3) := by decide +kernel
theorem dX5_learn_31 : decode cX5_learn 31 = .ok (.goto (-29), 3) := by decide +kernel
theorem dX5_learn_34 : decode cX5_learn 34 = .ok (.aload_n 0, 1) := by decide +kernel
theorem dX5_learn_35 : decode cX5_learn 35 = .ok (.getfield 19, 3) := by decide +kernel
theorem dX5_learn_38 : decode cX5_learn 38 = .ok (.aload_n 0, 1) := by decide +kernel
theorem dX5_learn_39 : decode cX5_learn 39 = .ok (.getfield 12, 3) := by decide +kernel
theorem dX5_learn_42 : decode cX5_learn 42 = .ok (.invokevirtual 53, 3) := by decide +kernel
theorem dX5_learn_45 : decode cX5_learn 45 = .ok (.aload_n 0, 1) := by decide +kernel
theorem dX5_learn_46 : decode cX5_learn 46 = .ok (.getfield 12, 3) := by decide +kernel
theorem dX5_learn_49 : decode cX5_learn 49 = .ok (.invokevirtual 81, 3) := by decide +kernel
theorem dX5_learn_52 : decode cX5_learn 52 = .ok (.invokestatic 177, 3) := by decide +kernel
theorem dX5_learn_55 : decode cX5_learn 55 = .ok (.istore_n 1, 1) := by decide +kernel
theorem dX5_learn_56 : decode cX5_learn 56 = .ok (.iconst 0, 1) := by decide +kernel
theorem dX5_learn_57 : decode cX5_learn 57 = .ok (.istore_n 2, 1) := by decide +kernel
theorem dX5_learn_58 : decode cX5_learn 58 = .ok (.iconst 0, 1) := by decide +kernel
theorem dX5_learn_59 : decode cX5_learn 59 = .ok (.istore_n 3, 1) := by decide +kernel
theorem dX5_learn_60 : decode cX5_learn 60 = .ok (.iload_n 3, 1) := by decide +kernel
theorem dX5_learn_61 : decode cX5_learn 61 = .ok (.iconst 3, 1) := by decide +kernel
theorem dX5_learn_62 : decode cX5_learn 62 = .ok (.if_icmp .ge 59, 3) := by decide +kernel
theorem dX5_learn_65 : decode cX5_learn 65 = .ok (.aload_n 0, 1) := by decide +kernel
theorem dX5_learn_66 : decode cX5_learn 66 = .ok (.getfield 12, 3) := by decide +kernel
theorem dX5_learn_69 : decode cX5_learn 69 = .ok (.iload_n 3, 1) := by decide +kernel
theorem dX5_learn_70 : decode cX5_learn 70 = .ok (.invokevirtual 174, 3) := by decide +kernel
theorem dX5_learn_73 : decode cX5_learn 73 = .ok (.istore 4, 2) := by decide +kernel
theorem dX5_learn_75 : decode cX5_learn 75 = .ok (.aload_n 0, 1) := by decide +kernel
theorem dX5_learn_76 : decode cX5_learn 76 = .ok (.getfield 12, 3) := by decide +kernel
theorem dX5_learn_79 : decode cX5_learn 79 = .ok (.getfield 171, 3) := by decide +kernel
theorem dX5_learn_82 : decode cX5_learn 82 = .ok (.iload_n 3, 1) := by decide +kernel
theorem dX5_learn_83 : decode cX5_learn 83 = .ok (.iload_n 1, 1) := by decide +kernel
theorem dX5_learn_84 : decode cX5_learn 84 = .ok (.invokestatic 120, 3) := by decide +kernel
theorem dX5_learn_87 : decode cX5_learn 87 = .ok (.invokestatic 124, 3) := by decide +kernel
theorem dX5_learn_90 : decode cX5_learn 90 = .ok (.iload 4, 2) := by decide +kernel
theorem dX5_learn_92 : decode cX5_learn 92 = .ok (.if_icmp .eq 6, 3) := by decide +kernel
theorem dX5_learn_95 : decode cX5_learn 95 = .ok (.iinc 2 1, 3) := by decide +kernel
theorem dX5_learn_98 : decode cX5_learn 98 = .ok (.aload_n 0, 1) := by decide +kernel
theorem dX5_learn_99 : decode cX5_learn 99 = .ok (.getfield 12, 3) := by decide +kernel
theorem dX5_learn_102 : decode cX5_learn 102 = .ok (.getfield 171, 3) := by decide +kernel
theorem dX5_learn_105 : decode cX5_learn 105 = .ok (.iload_n 3, 1) := by decide +kernel
theorem dX5_learn_106 : decode cX5_learn 106 = .ok (.iload_n 1, 1) := by decide +kernel
theorem dX5_learn_107 : decode cX5_learn 107 = .ok (.invokestatic 120, 3) := by decide +kernel
theorem dX5_learn_110 : decode cX5_learn 110 = .ok (.iload 4, 2) := by decide +kernel
theorem dX5_learn_112 : decode cX5_learn 112 = .ok (.invokestatic 128, 3) := by decide +kernel
theorem dX5_learn_115 : decode cX5_learn 115 = .ok (.iinc 3 1, 3) := by decide +kernel
theorem dX5_learn_118 : decode cX5_learn 118 = .ok (.goto (-58), 3) := by decide +kernel
theorem dX5_learn_121 : decode cX5_learn 121 = .ok (.iload_n 2, 1) := by decide +kernel
theorem dX5_learn_122 : decode cX5_learn 122 = .ok (.ireturn, 1) := by decide +kernel
theorem dX5_look_0 : decode cX5_look 0 = .ok (.iload_n 1, 1) := by decide +kernel
theorem dX5_look_1 : decode cX5_look 1 = .ok (.iconst 0, 1) := by decide +kernel
theorem dX5_look_2 : decode cX5_look 2 = .ok (.iconst 4, 1) := by decide +kernel
theorem dX5_look_3 : decode cX5_look 3 = .ok (.invokestatic 44, 3) := by decide +kernel
theorem dX5_look_6 : decode cX5_look 6 = .ok (.ifCond .eq 5, 3) := by decide +kernel
theorem dX5_look_9 : decode cX5_look 9 = .ok (.iconst (-1), 1) := by decide +kernel
theorem dX5_look_10 : decode cX5_look 10 = .ok (.ireturn, 1) := by decide +kernel
theorem dX5_look_11 : decode cX5_look 11 = .ok (.aload_n 0, 1) := by decide +kernel
theorem dX5_look_12 : decode cX5_look 12 = .ok (.getfield 26, 3) := by decide +kernel
theorem dX5_look_15 : decode cX5_look 15 = .ok (.aload_n 0, 1) := by decide +kernel
theorem dX5_look_16 : decode cX5_look 16 = .ok (.getfield 12, 3) := by decide +kernel
theorem dX5_look_19 : decode cX5_look 19 = .ok (.aload_n 0, 1) := by decide +kernel
theorem dX5_look_20 : decode cX5_look 20 = .ok (.getfield 12, 3) := by decide +kernel
theorem dX5_look_23 : decode cX5_look 23 = .ok (.invokevirtual 81, 3) := by decide +kernel
theorem dX5_look_26 : decode cX5_look 26 = .ok (.invokevirtual 180, 3) := by decide +kernel
theorem dX5_look_29 : decode cX5_look 29 = .ok (.iload_n 1, 1) := by decide +kernel
theorem dX5_look_30 : decode cX5_look 30 = .ok (.tableswitch 62 0 3 #[30, 38, 46, 54], 30) := by decide +kernel
theorem dX5_look_60 : decode cX5_look 60 = .ok (.aload_n 0, 1) := by decide +kernel
theorem dX5_look_61 : decode cX5_look 61 = .ok (.getfield 26, 3) := by decide +kernel
theorem dX5_look_64 : decode cX5_look 64 = .ok (.getfield 184, 3) := by decide +kernel
theorem dX5_look_67 : decode cX5_look 67 = .ok (.ireturn, 1) := by decide +kernel
theorem dX5_look_68 : decode cX5_look 68 = .ok (.aload_n 0, 1) := by decide +kernel
theorem dX5_look_69 : decode cX5_look 69 = .ok (.getfield 26, 3) := by decide +kernel
theorem dX5_look_72 : decode cX5_look 72 = .ok (.getfield 187, 3) := by decide +kernel
theorem dX5_look_75 : decode cX5_look 75 = .ok (.ireturn, 1) := by decide +kernel
theorem dX5_look_76 : decode cX5_look 76 = .ok (.aload_n 0, 1) := by decide +kernel
theorem dX5_look_77 : decode cX5_look 77 = .ok (.getfield 26, 3) := by decide +kernel
theorem dX5_look_80 : decode cX5_look 80 = .ok (.getfield 190, 3) := by decide +kernel
theorem dX5_look_83 : decode cX5_look 83 = .ok (.ireturn, 1) := by decide +kernel
theorem dX5_look_84 : decode cX5_look 84 = .ok (.aload_n 0, 1) := by decide +kernel
theorem dX5_look_85 : decode cX5_look 85 = .ok (.getfield 26, 3) := by decide +kernel
theorem dX5_look_88 : decode cX5_look 88 = .ok (.getfield 193, 3) := by decide +kernel
theorem dX5_look_91 : decode cX5_look 91 = .ok (.ireturn, 1) := by decide +kernel
theorem dX5_look_92 : decode cX5_look 92 = .ok (.aload_n 0, 1) := by decide +kernel
theorem dX5_look_93 : decode cX5_look 93 = .ok (.getfield 26, 3) := by decide +kernel
theorem dX5_look_96 : decode cX5_look 96 = .ok (.getfield 184, 3) := by decide +kernel
theorem dX5_look_99 : decode cX5_look 99 = .ok (.aload_n 0, 1) := by decide +kernel
theorem dX5_look_100 : decode cX5_look 100 = .ok (.getfield 12, 3) := by decide +kernel
theorem dX5_look_103 : decode cX5_look 103 = .ok (.invokevirtual 81, 3) := by decide +kernel
theorem dX5_look_106 : decode cX5_look 106 = .ok (.if_icmp .ne 7, 3) := by decide +kernel
theorem dX5_look_109 : decode cX5_look 109 = .ok (.iconst 1, 1) := by decide +kernel
theorem dX5_look_110 : decode cX5_look 110 = .ok (.goto 4, 3) := by decide +kernel
theorem dX5_look_113 : decode cX5_look 113 = .ok (.iconst 0, 1) := by decide +kernel
theorem dX5_look_114 : decode cX5_look 114 = .ok (.invokestatic 71, 3) := by decide +kernel
theorem dX5_look_117 : decode cX5_look 117 = .ok (.ireturn, 1) := by decide +kernel
theorem dX5_survey_0 : decode cX5_survey 0 = .ok (.iload_n 1, 1) := by decide +kernel
theorem dX5_survey_1 : decode cX5_survey 1 = .ok (.bipush 102, 2) := by decide +kernel
theorem dX5_survey_3 : decode cX5_survey 3 = .ok (.sipush 4080, 3) := by decide +kernel
theorem dX5_survey_6 : decode cX5_survey 6 = .ok (.invokestatic 44, 3) := by decide +kernel
theorem dX5_survey_9 : decode cX5_survey 9 = .ok (.ifCond .ne 12, 3) := by decide +kernel
theorem dX5_survey_12 : decode cX5_survey 12 = .ok (.iload_n 2, 1) := by decide +kernel
theorem dX5_survey_13 : decode cX5_survey 13 = .ok (.iconst 0, 1) := by decide +kernel
theorem dX5_survey_14 : decode cX5_survey 14 = .ok (.iconst 2, 1) := by decide +kernel
theorem dX5_survey_15 : decode cX5_survey 15 = .ok (.invokestatic 44, 3) := by decide +kernel
theorem dX5_survey_18 : decode cX5_survey 18 = .ok (.ifCond .eq 5, 3) := by decide +kernel
theorem dX5_survey_21 : decode cX5_survey 21 = .ok (.iconst (-1), 1) := by decide +kernel
theorem dX5_survey_22 : decode cX5_survey 22 = .ok (.ireturn, 1) := by decide +kernel
theorem dX5_survey_23 : decode cX5_survey 23 = .ok (.iconst 0, 1) := by decide +kernel
theorem dX5_survey_24 : decode cX5_survey 24 = .ok (.istore_n 3, 1) := by decide +kernel
theorem dX5_survey_25 : decode cX5_survey 25 = .ok (.bipush (-4), 2) := by decide +kernel
theorem dX5_survey_27 : decode cX5_survey 27 = .ok (.istore 4, 2) := by decide +kernel
theorem dX5_survey_29 : decode cX5_survey 29 = .ok (.iconst 0, 1) := by decide +kernel
theorem dX5_survey_30 : decode cX5_survey 30 = .ok (.istore 5, 2) := by decide +kernel
theorem dX5_survey_32 : decode cX5_survey 32 = .ok (.iconst 0, 1) := by decide +kernel
theorem dX5_survey_33 : decode cX5_survey 33 = .ok (.istore 6, 2) := by decide +kernel
theorem dX5_survey_35 : decode cX5_survey 35 = .ok (.iload 6, 2) := by decide +kernel
theorem dX5_survey_37 : decode cX5_survey 37 = .ok (.sipush 4080, 3) := by decide +kernel
theorem dX5_survey_40 : decode cX5_survey 40 = .ok (.if_icmp .ge 67, 3) := by decide +kernel
theorem dX5_survey_43 : decode cX5_survey 43 = .ok (.aload_n 0, 1) := by decide +kernel
theorem dX5_survey_44 : decode cX5_survey 44 = .ok (.getfield 26, 3) := by decide +kernel
theorem dX5_survey_47 : decode cX5_survey 47 = .ok (.aload_n 0, 1) := by decide +kernel
theorem dX5_survey_48 : decode cX5_survey 48 = .ok (.getfield 12, 3) := by decide +kernel
theorem dX5_survey_51 : decode cX5_survey 51 = .ok (.iload 6, 2) := by decide +kernel
theorem dX5_survey_53 : decode cX5_survey 53 = .ok (.invokevirtual 180, 3) := by decide +kernel
theorem dX5_survey_56 : decode cX5_survey 56 = .ok (.iload 5, 2) := by decide +kernel
theorem dX5_survey_58 : decode cX5_survey 58 = .ok (.aload_n 0, 1) := by decide +kernel
theorem dX5_survey_59 : decode cX5_survey 59 = .ok (.getfield 26, 3) := by decide +kernel
theorem dX5_survey_62 : decode cX5_survey 62 = .ok (.getfield 187, 3) := by decide +kernel
theorem dX5_survey_65 : decode cX5_survey 65 = .ok (.invokestatic 196, 3) := by decide +kernel
theorem dX5_survey_68 : decode cX5_survey 68 = .ok (.istore 5, 2) := by decide +kernel
theorem dX5_survey_70 : decode cX5_survey 70 = .ok (.aload_n 0, 1) := by decide +kernel
theorem dX5_survey_71 : decode cX5_survey 71 = .ok (.getfield 26, 3) := by decide +kernel
theorem dX5_survey_74 : decode cX5_survey 74 = .ok (.getfield 184, 3) := by decide +kernel
theorem dX5_survey_77 : decode cX5_survey 77 = .ok (.iload 6, 2) := by decide +kernel
theorem dX5_survey_79 : decode cX5_survey 79 = .ok (.if_icmp .eq 19, 3) := by decide +kernel
theorem dX5_survey_82 : decode cX5_survey 82 = .ok (.iload_n 3, 1) := by decide +kernel
theorem dX5_survey_83 : decode cX5_survey 83 = .ok (.ifCond .ne 8, 3) := by decide +kernel
theorem dX5_survey_86 : decode cX5_survey 86 = .ok (.iload 6, 2) := by decide +kernel
theorem dX5_survey_88 : decode cX5_survey 88 = .ok (.goto 5, 3) := by decide +kernel
theorem dX5_survey_91 : decode cX5_survey 91 = .ok (.iload 4, 2) := by decide +kernel
theorem dX5_survey_93 : decode cX5_survey 93 = .ok (.istore 4, 2) := by decide +kernel
theorem dX5_survey_95 : decode cX5_survey 95 = .ok (.iinc 3 1, 3) := by decide +kernel
theorem dX5_survey_98 : decode cX5_survey 98 = .ok (.iload 6, 2) := by decide +kernel
theorem dX5_survey_100 : decode cX5_survey 100 = .ok (.iload_n 1, 1) := by decide +kernel
theorem dX5_survey_101 : decode cX5_survey 101 = .ok (.iadd, 1) := by decide +kernel
theorem dX5_survey_102 : decode cX5_survey 102 = .ok (.istore 6, 2) := by decide +kernel
theorem dX5_survey_104 : decode cX5_survey 104 = .ok (.goto (-69), 3) := by decide +kernel
theorem dX5_survey_107 : decode cX5_survey 107 = .ok (.iload_n 2, 1) := by decide +kernel
theorem dX5_survey_108 : decode cX5_survey 108 = .ok (.lookupswitch 33 #[(0, 28), (1, 30)], 28) := by decide +kernel
theorem dX5_survey_136 : decode cX5_survey 136 = .ok (.iload_n 3, 1) := by decide +kernel
theorem dX5_survey_137 : decode cX5_survey 137 = .ok (.ireturn, 1) := by decide +kernel
theorem dX5_survey_138 : decode cX5_survey 138 = .ok (.iload 4, 2) := by decide +kernel
theorem dX5_survey_140 : decode cX5_survey 140 = .ok (.ireturn, 1) := by decide +kernel
theorem dX5_survey_141 : decode cX5_survey 141 = .ok (.iload 5, 2) := by decide +kernel
theorem dX5_survey_143 : decode cX5_survey 143 = .ok (.ireturn, 1) := by decide +kernel
theorem dX5_poor_0 : decode cX5_poor 0 = .ok (.iconst 0, 1) := by decide +kernel
theorem dX5_poor_1 : decode cX5_poor 1 = .ok (.istore_n 1, 1) := by decide +kernel
theorem dX5_poor_2 : decode cX5_poor 2 = .ok (.iconst 0, 1) := by decide +kernel
theorem dX5_poor_3 : decode cX5_poor 3 = .ok (.istore_n 2, 1) := by decide +kernel
theorem dX5_poor_4 : decode cX5_poor 4 = .ok (.iload_n 2, 1) := by decide +kernel
theorem dX5_poor_5 : decode cX5_poor 5 = .ok (.bipush 8, 2) := by decide +kernel
theorem dX5_poor_7 : decode cX5_poor 7 = .ok (.if_icmp .ge 23, 3) := by decide +kernel
theorem dX5_poor_10 : decode cX5_poor 10 = .ok (.aload_n 0, 1) := by decide +kernel
theorem dX5_poor_11 : decode cX5_poor 11 = .ok (.getfield 12, 3) := by decide +kernel
theorem dX5_poor_14 : decode cX5_poor 14 = .ok (.iload_n 2, 1) := by decide +kernel
theorem dX5_poor_15 : decode cX5_poor 15 = .ok (.invokevirtual 199, 3) := by decide +kernel
theorem dX5_poor_18 : decode cX5_poor 18 = .ok (.ifCond .eq 6, 3) := by decide +kernel
theorem dX5_poor_21 : decode cX5_poor 21 = .ok (.iinc 1 1, 3) := by decide +kernel
theorem dX5_poor_24 : decode cX5_poor 24 = .ok (.iinc 2 1, 3) := by decide +kernel
theorem dX5_poor_27 : decode cX5_poor 27 = .ok (.goto (-23), 3) := by decide +kernel
theorem dX5_poor_30 : decode cX5_poor 30 = .ok (.iload_n 1, 1) := by decide +kernel
theorem dX5_poor_31 : decode cX5_poor 31 = .ok (.ireturn, 1) := by decide +kernel
theorem dX5_sample_0 : decode cX5_sample 0 = .ok (.aload_n 0, 1) := by decide +kernel
theorem dX5_sample_1 : decode cX5_sample 1 = .ok (.getfield 12, 3) := by decide +kernel
theorem dX5_sample_4 : decode cX5_sample 4 = .ok (.getfield 67, 3) := by decide +kernel
theorem dX5_sample_7 : decode cX5_sample 7 = .ok (.ifCond .ne 6, 3) := by decide +kernel
theorem dX5_sample_10 : decode cX5_sample 10 = .ok (.bipush (-2), 2) := by decide +kernel
theorem dX5_sample_12 : decode cX5_sample 12 = .ok (.ireturn, 1) := by decide +kernel
theorem dX5_sample_13 : decode cX5_sample 13 = .ok (.aload_n 0, 1) := by decide +kernel
theorem dX5_sample_14 : decode cX5_sample 14 = .ok (.getfield 19, 3) := by decide +kernel
theorem dX5_sample_17 : decode cX5_sample 17 = .ok (.aload_n 0, 1) := by decide +kernel
theorem dX5_sample_18 : decode cX5_sample 18 = .ok (.getfield 12, 3) := by decide +kernel
theorem dX5_sample_21 : decode cX5_sample 21 = .ok (.invokevirtual 53, 3) := by decide +kernel
theorem dX5_sample_24 : decode cX5_sample 24 = .ok (.aload_n 0, 1) := by decide +kernel
theorem dX5_sample_25 : decode cX5_sample 25 = .ok (.getfield 26, 3) := by decide +kernel
theorem dX5_sample_28 : decode cX5_sample 28 = .ok (.aload_n 0, 1) := by decide +kernel
theorem dX5_sample_29 : decode cX5_sample 29 = .ok (.getfield 12, 3) := by decide +kernel
theorem dX5_sample_32 : decode cX5_sample 32 = .ok (.aload_n 0, 1) := by decide +kernel
theorem dX5_sample_33 : decode cX5_sample 33 = .ok (.getfield 12, 3) := by decide +kernel
theorem dX5_sample_36 : decode cX5_sample 36 = .ok (.invokevirtual 81, 3) := by decide +kernel
theorem dX5_sample_39 : decode cX5_sample 39 = .ok (.invokevirtual 180, 3) := by decide +kernel
theorem dX5_sample_42 : decode cX5_sample 42 = .ok (.aload_n 0, 1) := by decide +kernel
theorem dX5_sample_43 : decode cX5_sample 43 = .ok (.getfield 33, 3) := by decide +kernel
theorem dX5_sample_46 : decode cX5_sample 46 = .ok (.aload_n 0, 1) := by decide +kernel
theorem dX5_sample_47 : decode cX5_sample 47 = .ok (.getfield 12, 3) := by decide +kernel
theorem dX5_sample_50 : decode cX5_sample 50 = .ok (.aload_n 0, 1) := by decide +kernel
theorem dX5_sample_51 : decode cX5_sample 51 = .ok (.getfield 26, 3) := by decide +kernel
theorem dX5_sample_54 : decode cX5_sample 54 = .ok (.invokevirtual 202, 3) := by decide +kernel
theorem dX5_sample_57 : decode cX5_sample 57 = .ok (.aload_n 0, 1) := by decide +kernel
theorem dX5_sample_58 : decode cX5_sample 58 = .ok (.getfield 12, 3) := by decide +kernel
theorem dX5_sample_61 : decode cX5_sample 61 = .ok (.aload_n 0, 1) := by decide +kernel
theorem dX5_sample_62 : decode cX5_sample 62 = .ok (.getfield 33, 3) := by decide +kernel
theorem dX5_sample_65 : decode cX5_sample 65 = .ok (.getfield 206, 3) := by decide +kernel
theorem dX5_sample_68 : decode cX5_sample 68 = .ok (.putfield 85, 3) := by decide +kernel
theorem dX5_sample_71 : decode cX5_sample 71 = .ok (.aload_n 0, 1) := by decide +kernel
theorem dX5_sample_72 : decode cX5_sample 72 = .ok (.getfield 12, 3) := by decide +kernel
theorem dX5_sample_75 : decode cX5_sample 75 = .ok (.aload_n 0, 1) := by decide +kernel
theorem dX5_sample_76 : decode cX5_sample 76 = .ok (.getfield 33, 3) := by decide +kernel
theorem dX5_sample_79 : decode cX5_sample 79 = .ok (.getfield 207, 3) := by decide +kernel
theorem dX5_sample_82 : decode cX5_sample 82 = .ok (.putfield 91, 3) := by decide +kernel
theorem dX5_sample_85 : decode cX5_sample 85 = .ok (.aload_n 0, 1) := by decide +kernel
theorem dX5_sample_86 : decode cX5_sample 86 = .ok (.getfield 33, 3) := by decide +kernel
theorem dX5_sample_89 : decode cX5_sample 89 = .ok (.getfield 208, 3) := by decide +kernel
theorem dX5_sample_92 : decode cX5_sample 92 = .ok (.ifCond .eq 14, 3) := by decide +kernel
theorem dX5_sample_95 : decode cX5_sample 95 = .ok (.ldc 211, 2) := by decide +kernel
theorem dX5_sample_97 : decode cX5_sample 97 = .ok (.aload_n 0, 1) := by decide +kernel
theorem dX5_sample_98 : decode cX5_sample 98 = .ok (.getfield 33, 3) := by decide +kernel
theorem dX5_sample_101 : decode cX5_sample 101 = .ok (.getfield 208, 3) := by decide +kernel
theorem dX5_sample_104 : decode cX5_sample 104 = .ok (.iadd, 1) := by decide +kernel
theorem dX5_sample_105 : decode cX5_sample 105 = .ok (.ireturn, 1) := by decide +kernel
theorem dX5_sample_106 : decode cX5_sample 106 = .ok (.aload_n 0, 1) := by decide +kernel
theorem dX5_sample_107 : decode cX5_sample 107 = .ok (.getfield 12, 3) := by decide +kernel
theorem dX5_sample_110 : decode cX5_sample 110 = .ok (.aload_n 0, 1) := by decide +kernel
theorem dX5_sample_111 : decode cX5_sample 111 = .ok (.getfield 33, 3) := by decide +kernel
theorem dX5_sample_114 : decode cX5_sample 114 = .ok (.getfield 212, 3) := by decide +kernel
theorem dX5_sample_117 : decode cX5_sample 117 = .ok (.putfield 88, 3) := by decide +kernel
theorem dX5_sample_120 : decode cX5_sample 120 = .ok (.aload_n 0, 1) := by decide +kernel
theorem dX5_sample_121 : decode cX5_sample 121 = .ok (.getfield 12, 3) := by decide +kernel
theorem dX5_sample_124 : decode cX5_sample 124 = .ok (.getfield 88, 3) := by decide +kernel
theorem dX5_sample_127 : decode cX5_sample 127 = .ok (.ireturn, 1) := by decide +kernel
theorem dX5_reason_0 : decode cX5_reason 0 = .ok (.aload_n 0, 1) := by decide +kernel
theorem dX5_reason_1 : decode cX5_reason 1 = .ok (.getfield 12, 3) := by decide +kernel
theorem dX5_reason_4 : decode cX5_reason 4 = .ok (.getfield 67, 3) := by decide +kernel
theorem dX5_reason_7 : decode cX5_reason 7 = .ok (.ifCond .ne 6, 3) := by decide +kernel
theorem dX5_reason_10 : decode cX5_reason 10 = .ok (.bipush (-2), 2) := by decide +kernel
theorem dX5_reason_12 : decode cX5_reason 12 = .ok (.ireturn, 1) := by decide +kernel
theorem dX5_reason_13 : decode cX5_reason 13 = .ok (.aload_n 0, 1) := by decide +kernel
theorem dX5_reason_14 : decode cX5_reason 14 = .ok (.getfield 26, 3) := by decide +kernel
theorem dX5_reason_17 : decode cX5_reason 17 = .ok (.aload_n 0, 1) := by decide +kernel
theorem dX5_reason_18 : decode cX5_reason 18 = .ok (.getfield 12, 3) := by decide +kernel
theorem dX5_reason_21 : decode cX5_reason 21 = .ok (.aload_n 0, 1) := by decide +kernel
theorem dX5_reason_22 : decode cX5_reason 22 = .ok (.getfield 12, 3) := by decide +kernel
theorem dX5_reason_25 : decode cX5_reason 25 = .ok (.invokevirtual 81, 3) := by decide +kernel
theorem dX5_reason_28 : decode cX5_reason 28 = .ok (.invokevirtual 180, 3) := by decide +kernel
theorem dX5_reason_31 : decode cX5_reason 31 = .ok (.aload_n 0, 1) := by decide +kernel
theorem dX5_reason_32 : decode cX5_reason 32 = .ok (.getfield 33, 3) := by decide +kernel
theorem dX5_reason_35 : decode cX5_reason 35 = .ok (.aload_n 0, 1) := by decide +kernel
theorem dX5_reason_36 : decode cX5_reason 36 = .ok (.getfield 12, 3) := by decide +kernel
theorem dX5_reason_39 : decode cX5_reason 39 = .ok (.aload_n 0, 1) := by decide +kernel
theorem dX5_reason_40 : decode cX5_reason 40 = .ok (.getfield 26, 3) := by decide +kernel
theorem dX5_reason_43 : decode cX5_reason 43 = .ok (.invokevirtual 202, 3) := by decide +kernel
theorem dX5_reason_46 : decode cX5_reason 46 = .ok (.aload_n 0, 1) := by decide +kernel
theorem dX5_reason_47 : decode cX5_reason 47 = .ok (.getfield 33, 3) := by decide +kernel
theorem dX5_reason_50 : decode cX5_reason 50 = .ok (.getfield 208, 3) := by decide +kernel
theorem dX5_reason_53 : decode cX5_reason 53 = .ok (.ireturn, 1) := by decide +kernel
theorem dX5_forget_0 : decode cX5_forget 0 = .ok (.aload_n 0, 1) := by decide +kernel
theorem dX5_forget_1 : decode cX5_forget 1 = .ok (.getfield 19, 3) := by decide +kernel
theorem dX5_forget_4 : decode cX5_forget 4 = .ok (.aload_n 0, 1) := by decide +kernel
theorem dX5_forget_5 : decode cX5_forget 5 = .ok (.getfield 12, 3) := by decide +kernel
theorem dX5_forget_8 : decode cX5_forget 8 = .ok (.invokevirtual 53, 3) := by decide +kernel
theorem dX5_forget_11 : decode cX5_forget 11 = .ok (.aload_n 0, 1) := by decide +kernel
theorem dX5_forget_12 : decode cX5_forget 12 = .ok (.getfield 12, 3) := by decide +kernel
theorem dX5_forget_15 : decode cX5_forget 15 = .ok (.getfield 88, 3) := by decide +kernel
theorem dX5_forget_18 : decode cX5_forget 18 = .ok (.iconst (-1), 1) := by decide +kernel
theorem dX5_forget_19 : decode cX5_forget 19 = .ok (.if_icmp .eq 7, 3) := by decide +kernel
theorem dX5_forget_22 : decode cX5_forget 22 = .ok (.iconst 1, 1) := by decide +kernel
theorem dX5_forget_23 : decode cX5_forget 23 = .ok (.goto 4, 3) := by decide +kernel
theorem dX5_forget_26 : decode cX5_forget 26 = .ok (.iconst 0, 1) := by decide +kernel
theorem dX5_forget_27 : decode cX5_forget 27 = .ok (.invokestatic 71, 3) := by decide +kernel
theorem dX5_forget_30 : decode cX5_forget 30 = .ok (.istore_n 1, 1) := by decide +kernel
theorem dX5_forget_31 : decode cX5_forget 31 = .ok (.aload_n 0, 1) := by decide +kernel
theorem dX5_forget_32 : decode cX5_forget 32 = .ok (.getfield 12, 3) := by decide +kernel
theorem dX5_forget_35 : decode cX5_forget 35 = .ok (.iconst (-1), 1) := by decide +kernel
theorem dX5_forget_36 : decode cX5_forget 36 = .ok (.putfield 88, 3) := by decide +kernel
theorem dX5_forget_39 : decode cX5_forget 39 = .ok (.aload_n 0, 1) := by decide +kernel
theorem dX5_forget_40 : decode cX5_forget 40 = .ok (.getfield 12, 3) := by decide +kernel
theorem dX5_forget_43 : decode cX5_forget 43 = .ok (.iconst 0, 1) := by decide +kernel
theorem dX5_forget_44 : decode cX5_forget 44 = .ok (.putfield 91, 3) := by decide +kernel
theorem dX5_forget_47 : decode cX5_forget 47 = .ok (.iload_n 1, 1) := by decide +kernel
theorem dX5_forget_48 : decode cX5_forget 48 = .ok (.ireturn, 1) := by decide +kernel
theorem dX5_apart_0 : decode cX5_apart 0 = .ok (.aload_n 0, 1) := by decide +kernel
theorem dX5_apart_1 : decode cX5_apart 1 = .ok (.getfield 12, 3) := by decide +kernel
theorem dX5_apart_4 : decode cX5_apart 4 = .ok (.getfield 88, 3) := by decide +kernel
theorem dX5_apart_7 : decode cX5_apart 7 = .ok (.iconst (-1), 1) := by decide +kernel
theorem dX5_apart_8 : decode cX5_apart 8 = .ok (.if_icmp .ne 8, 3) := by decide +kernel
theorem dX5_apart_11 : decode cX5_apart 11 = .ok (.bipush (-4), 2) := by decide +kernel
theorem dX5_apart_13 : decode cX5_apart 13 = .ok (.goto 22, 3) := by decide +kernel
theorem dX5_apart_16 : decode cX5_apart 16 = .ok (.aload_n 0, 1) := by decide +kernel
theorem dX5_apart_17 : decode cX5_apart 17 = .ok (.getfield 12, 3) := by decide +kernel
theorem dX5_apart_20 : decode cX5_apart 20 = .ok (.getfield 88, 3) := by decide +kernel
theorem dX5_apart_23 : decode cX5_apart 23 = .ok (.aload_n 0, 1) := by decide +kernel
theorem dX5_apart_24 : decode cX5_apart 24 = .ok (.getfield 12, 3) := by decide +kernel
theorem dX5_apart_27 : decode cX5_apart 27 = .ok (.getfield 48, 3) := by decide +kernel
theorem dX5_apart_30 : decode cX5_apart 30 = .ok (.ldc 213, 2) := by decide +kernel
theorem dX5_apart_32 : decode cX5_apart 32 = .ok (.invokestatic 214, 3) := by decide +kernel
theorem dX5_apart_35 : decode cX5_apart 35 = .ok (.ireturn, 1) := by decide +kernel
theorem dX5_type_0 : decode cX5_type 0 = .ok (.iload_n 1, 1) := by decide +kernel
theorem dX5_type_1 : decode cX5_type 1 = .ok (.bipush 32, 2) := by decide +kernel
theorem dX5_type_3 : decode cX5_type 3 = .ok (.bipush 126, 2) := by decide +kernel
theorem dX5_type_5 : decode cX5_type 5 = .ok (.invokestatic 44, 3) := by decide +kernel
theorem dX5_type_8 : decode cX5_type 8 = .ok (.ifCond .eq 5, 3) := by decide +kernel
theorem dX5_type_11 : decode cX5_type 11 = .ok (.iconst (-1), 1) := by decide +kernel
theorem dX5_type_12 : decode cX5_type 12 = .ok (.ireturn, 1) := by decide +kernel
theorem dX5_type_13 : decode cX5_type 13 = .ok (.aload_n 0, 1) := by decide +kernel
theorem dX5_type_14 : decode cX5_type 14 = .ok (.getfield 40, 3) := by decide +kernel
theorem dX5_type_17 : decode cX5_type 17 = .ok (.getfield 103, 3) := by decide +kernel
theorem dX5_type_20 : decode cX5_type 20 = .ok (.bipush 60, 2) := by decide +kernel
theorem dX5_type_22 : decode cX5_type 22 = .ok (.if_icmp .lt 6, 3) := by decide +kernel
theorem dX5_type_25 : decode cX5_type 25 = .ok (.bipush (-3), 2) := by decide +kernel
theorem dX5_type_27 : decode cX5_type 27 = .ok (.ireturn, 1) := by decide +kernel
theorem dX5_type_28 : decode cX5_type 28 = .ok (.aload_n 0, 1) := by decide +kernel
theorem dX5_type_29 : decode cX5_type 29 = .ok (.getfield 40, 3) := by decide +kernel
theorem dX5_type_32 : decode cX5_type 32 = .ok (.iload_n 1, 1) := by decide +kernel
theorem dX5_type_33 : decode cX5_type 33 = .ok (.invokevirtual 217, 3) := by decide +kernel
theorem dX5_type_36 : decode cX5_type 36 = .ok (.aload_n 0, 1) := by decide +kernel
theorem dX5_type_37 : decode cX5_type 37 = .ok (.getfield 40, 3) := by decide +kernel
theorem dX5_type_40 : decode cX5_type 40 = .ok (.getfield 103, 3) := by decide +kernel
theorem dX5_type_43 : decode cX5_type 43 = .ok (.ireturn, 1) := by decide +kernel
theorem dX5_clearText_0 : decode cX5_clearText 0 = .ok (.aload_n 0, 1) := by decide +kernel
theorem dX5_clearText_1 : decode cX5_clearText 1 = .ok (.getfield 40, 3) := by decide +kernel
theorem dX5_clearText_4 : decode cX5_clearText 4 = .ok (.getfield 103, 3) := by decide +kernel
theorem dX5_clearText_7 : decode cX5_clearText 7 = .ok (.istore_n 1, 1) := by decide +kernel
theorem dX5_clearText_8 : decode cX5_clearText 8 = .ok (.aload_n 0, 1) := by decide +kernel
theorem dX5_clearText_9 : decode cX5_clearText 9 = .ok (.getfield 40, 3) := by decide +kernel
theorem dX5_clearText_12 : decode cX5_clearText 12 = .ok (.iconst 0, 1) := by decide +kernel
theorem dX5_clearText_13 : decode cX5_clearText 13 = .ok (.putfield 103, 3) := by decide +kernel
theorem dX5_clearText_16 : decode cX5_clearText 16 = .ok (.iload_n 1, 1) := by decide +kernel
theorem dX5_clearText_17 : decode cX5_clearText 17 = .ok (.ireturn, 1) := by decide +kernel
theorem dX5_fault_0 : decode cX5_fault 0 = .ok (.iload_n 1, 1) := by decide +kernel
theorem dX5_fault_1 : decode cX5_fault 1 = .ok (.iconst 0, 1) := by decide +kernel
theorem dX5_fault_2 : decode cX5_fault 2 = .ok (.iconst 1, 1) := by decide +kernel
theorem dX5_fault_3 : decode cX5_fault 3 = .ok (.invokestatic 44, 3) := by decide +kernel
theorem dX5_fault_6 : decode cX5_fault 6 = .ok (.ifCond .eq 5, 3) := by decide +kernel
theorem dX5_fault_9 : decode cX5_fault 9 = .ok (.iconst (-1), 1) := by decide +kernel
theorem dX5_fault_10 : decode cX5_fault 10 = .ok (.ireturn, 1) := by decide +kernel
theorem dX5_fault_11 : decode cX5_fault 11 = .ok (.aload_n 0, 1) := by decide +kernel
theorem dX5_fault_12 : decode cX5_fault 12 = .ok (.getfield 40, 3) := by decide +kernel
theorem dX5_fault_15 : decode cX5_fault 15 = .ok (.invokevirtual 220, 3) := by decide +kernel
theorem dX5_fault_18 : decode cX5_fault 18 = .ok (.aload_n 0, 1) := by decide +kernel
theorem dX5_fault_19 : decode cX5_fault 19 = .ok (.getfield 40, 3) := by decide +kernel
theorem dX5_fault_22 : decode cX5_fault 22 = .ok (.getfield 223, 3) := by decide +kernel
theorem dX5_fault_25 : decode cX5_fault 25 = .ok (.ifCond .ne 6, 3) := by decide +kernel
theorem dX5_fault_28 : decode cX5_fault 28 = .ok (.bipush (-4), 2) := by decide +kernel
theorem dX5_fault_30 : decode cX5_fault 30 = .ok (.ireturn, 1) := by decide +kernel
theorem dX5_fault_31 : decode cX5_fault 31 = .ok (.iload_n 1, 1) := by decide +kernel
theorem dX5_fault_32 : decode cX5_fault 32 = .ok (.ifCond .ne 13, 3) := by decide +kernel
theorem dX5_fault_35 : decode cX5_fault 35 = .ok (.aload_n 0, 1) := by decide +kernel
theorem dX5_fault_36 : decode cX5_fault 36 = .ok (.getfield 40, 3) := by decide +kernel
theorem dX5_fault_39 : decode cX5_fault 39 = .ok (.getfield 226, 3) := by decide +kernel
theorem dX5_fault_42 : decode cX5_fault 42 = .ok (.goto 10, 3) := by decide +kernel
theorem dX5_fault_45 : decode cX5_fault 45 = .ok (.aload_n 0, 1) := by decide +kernel
theorem dX5_fault_46 : decode cX5_fault 46 = .ok (.getfield 40, 3) := by decide +kernel
theorem dX5_fault_49 : decode cX5_fault 49 = .ok (.getfield 223, 3) := by decide +kernel
theorem dX5_fault_52 : decode cX5_fault 52 = .ok (.ireturn, 1) := by decide +kernel
theorem dX5_load_0 : decode cX5_load 0 = .ok (.aload_n 0, 1) := by decide +kernel
theorem dX5_load_1 : decode cX5_load 1 = .ok (.getfield 40, 3) := by decide +kernel
theorem dX5_load_4 : decode cX5_load 4 = .ok (.invokevirtual 220, 3) := by decide +kernel
theorem dX5_load_7 : decode cX5_load 7 = .ok (.aload_n 0, 1) := by decide +kernel
theorem dX5_load_8 : decode cX5_load 8 = .ok (.getfield 40, 3) := by decide +kernel
theorem dX5_load_11 : decode cX5_load 11 = .ok (.getfield 223, 3) := by decide +kernel
theorem dX5_load_14 : decode cX5_load 14 = .ok (.ifCond .eq 6, 3) := by decide +kernel
theorem dX5_load_17 : decode cX5_load 17 = .ok (.bipush (-2), 2) := by decide +kernel
theorem dX5_load_19 : decode cX5_load 19 = .ok (.ireturn, 1) := by decide +kernel
theorem dX5_load_20 : decode cX5_load 20 = .ok (.aload_n 0, 1) := by decide +kernel
theorem dX5_load_21 : decode cX5_load 21 = .ok (.getfield 19, 3) := by decide +kernel
theorem dX5_load_24 : decode cX5_load 24 = .ok (.aload_n 0, 1) := by decide +kernel
theorem dX5_load_25 : decode cX5_load 25 = .ok (.getfield 12, 3) := by decide +kernel
theorem dX5_load_28 : decode cX5_load 28 = .ok (.invokevirtual 53, 3) := by decide +kernel
theorem dX5_load_31 : decode cX5_load 31 = .ok (.aload_n 0, 1) := by decide +kernel
theorem dX5_load_32 : decode cX5_load 32 = .ok (.getfield 40, 3) := by decide +kernel
theorem dX5_load_35 : decode cX5_load 35 = .ok (.getfield 229, 3) := by decide +kernel
theorem dX5_load_38 : decode cX5_load 38 = .ok (.aload_n 0, 1) := by decide +kernel
theorem dX5_load_39 : decode cX5_load 39 = .ok (.getfield 12, 3) := by decide +kernel
theorem dX5_load_42 : decode cX5_load 42 = .ok (.getfield 171, 3) := by decide +kernel
theorem dX5_load_45 : decode cX5_load 45 = .ok (.invokestatic 232, 3) := by decide +kernel
theorem dX5_load_48 : decode cX5_load 48 = .ok (.aload_n 0, 1) := by decide +kernel
theorem dX5_load_49 : decode cX5_load 49 = .ok (.getfield 40, 3) := by decide +kernel
theorem dX5_load_52 : decode cX5_load 52 = .ok (.getfield 236, 3) := by decide +kernel
theorem dX5_load_55 : decode cX5_load 55 = .ok (.ireturn, 1) := by decide +kernel
theorem dX5_settingCount_0 : decode cX5_settingCount 0 = .ok (.iload_n 1, 1) := by decide +kernel
theorem dX5_settingCount_1 : decode cX5_settingCount 1 = .ok (.iconst 0, 1) := by decide +kernel
theorem dX5_settingCount_2 : decode cX5_settingCount 2 = .ok (.iconst 3, 1) := by decide +kernel
theorem dX5_settingCount_3 : decode cX5_settingCount 3 = .ok (.invokestatic 44, 3) := by decide +kernel
theorem dX5_settingCount_6 : decode cX5_settingCount 6 = .ok (.ifCond .eq 7, 3) := by decide +kernel
theorem dX5_settingCount_9 : decode cX5_settingCount 9 = .ok (.iconst (-1), 1) := by decide +kernel
theorem dX5_settingCount_10 : decode cX5_settingCount 10 = .ok (.goto 8, 3) := by decide +kernel
theorem dX5_settingCount_13 : decode cX5_settingCount 13 = .ok (.aload_n 0, 1) := by decide +kernel
theorem dX5_settingCount_14 : decode cX5_settingCount 14 = .ok (.iload_n 1, 1) := by decide +kernel
theorem dX5_settingCount_15 : decode cX5_settingCount 15 = .ok (.invokevirtual 145, 3) := by decide +kernel
theorem dX5_settingCount_18 : decode cX5_settingCount 18 = .ok (.ireturn, 1) := by decide +kernel
theorem dX5_shownSetting_0 : decode cX5_shownSetting 0 = .ok (.aload_n 0, 1) := by decide +kernel
theorem dX5_shownSetting_1 : decode cX5_shownSetting 1 = .ok (.getfield 12, 3) := by decide +kernel
theorem dX5_shownSetting_4 : decode cX5_shownSetting 4 = .ok (.getfield 148, 3) := by decide +kernel
theorem dX5_shownSetting_7 : decode cX5_shownSetting 7 = .ok (.iload_n 1, 1) := by decide +kernel
theorem dX5_shownSetting_8 : decode cX5_shownSetting 8 = .ok (.invokestatic 124, 3) := by decide +kernel
theorem dX5_shownSetting_11 : decode cX5_shownSetting 11 = .ok (.istore_n 2, 1) := by decide +kernel
theorem dX5_shownSetting_12 : decode cX5_shownSetting 12 = .ok (.iload_n 1, 1) := by decide +kernel
theorem dX5_shownSetting_13 : decode cX5_shownSetting 13 = .ok (.iconst 3, 1) := by decide +kernel
theorem dX5_shownSetting_14 : decode cX5_shownSetting 14 = .ok (.if_icmp .ne 10, 3) := by decide +kernel
theorem dX5_shownSetting_17 : decode cX5_shownSetting 17 = .ok (.iload_n 2, 1) := by decide +kernel
theorem dX5_shownSetting_18 : decode cX5_shownSetting 18 = .ok (.bipush 100, 2) := by decide +kernel
theorem dX5_shownSetting_20 : decode cX5_shownSetting 20 = .ok (.iadd, 1) := by decide +kernel
theorem dX5_shownSetting_21 : decode cX5_shownSetting 21 = .ok (.goto 4, 3) := by decide +kernel
theorem dX5_shownSetting_24 : decode cX5_shownSetting 24 = .ok (.iload_n 2, 1) := by decide +kernel
theorem dX5_shownSetting_25 : decode cX5_shownSetting 25 = .ok (.ireturn, 1) := by decide +kernel
theorem dX5_isOutside_0 : decode cX5_isOutside 0 = .ok (.iload_n 0, 1) := by decide +kernel
theorem dX5_isOutside_1 : decode cX5_isOutside 1 = .ok (.iload_n 1, 1) := by decide +kernel
theorem dX5_isOutside_2 : decode cX5_isOutside 2 = .ok (.if_icmp .lt 8, 3) := by decide +kernel
theorem dX5_isOutside_5 : decode cX5_isOutside 5 = .ok (.iload_n 0, 1) := by decide +kernel
theorem dX5_isOutside_6 : decode cX5_isOutside 6 = .ok (.iload_n 2, 1) := by decide +kernel
theorem dX5_isOutside_7 : decode cX5_isOutside 7 = .ok (.if_icmp .le 7, 3) := by decide +kernel
theorem dX5_isOutside_10 : decode cX5_isOutside 10 = .ok (.iconst 1, 1) := by decide +kernel
theorem dX5_isOutside_11 : decode cX5_isOutside 11 = .ok (.goto 4, 3) := by decide +kernel
theorem dX5_isOutside_14 : decode cX5_isOutside 14 = .ok (.iconst 0, 1) := by decide +kernel
theorem dX5_isOutside_15 : decode cX5_isOutside 15 = .ok (.ireturn, 1) := by decide +kernel
theorem dX5_isTrack_0 : decode cX5_isTrack 0 = .ok (.iload_n 0, 1) := by decide +kernel
theorem dX5_isTrack_1 : decode cX5_isTrack 1 = .ok (.iconst 0, 1) := by decide +kernel
theorem dX5_isTrack_2 : decode cX5_isTrack 2 = .ok (.iconst 2, 1) := by decide +kernel
theorem dX5_isTrack_3 : decode cX5_isTrack 3 = .ok (.invokestatic 44, 3) := by decide +kernel
theorem dX5_isTrack_6 : decode cX5_isTrack 6 = .ok (.ifCond .ne 7, 3) := by decide +kernel
theorem dX5_isTrack_9 : decode cX5_isTrack 9 = .ok (.iconst 1, 1) := by decide +kernel
theorem dX5_isTrack_10 : decode cX5_isTrack 10 = .ok (.goto 4, 3) := by decide +kernel
theorem dX5_isTrack_13 : decode cX5_isTrack 13 = .ok (.iconst 0, 1) := by decide +kernel
theorem dX5_isTrack_14 : decode cX5_isTrack 14 = .ok (.ireturn, 1) := by decide +kernel
theorem dX5_isCell_0 : decode cX5_isCell 0 = .ok (.iload_n 0, 1) := by decide +kernel
theorem dX5_isCell_1 : decode cX5_isCell 1 = .ok (.invokestatic 132, 3) := by decide +kernel
theorem dX5_isCell_4 : decode cX5_isCell 4 = .ok (.ifCond .eq 17, 3) := by decide +kernel
theorem dX5_isCell_7 : decode cX5_isCell 7 = .ok (.iload_n 1, 1) := by decide +kernel
theorem dX5_isCell_8 : decode cX5_isCell 8 = .ok (.iconst 0, 1) := by decide +kernel
theorem dX5_isCell_9 : decode cX5_isCell 9 = .ok (.bipush 7, 2) := by decide +kernel
theorem dX5_isCell_11 : decode cX5_isCell 11 = .ok (.invokestatic 44, 3) := by decide +kernel
theorem dX5_isCell_14 : decode cX5_isCell 14 = .ok (.ifCond .ne 7, 3) := by decide +kernel
theorem dX5_isCell_17 : decode cX5_isCell 17 = .ok (.iconst 1, 1) := by decide +kernel
theorem dX5_isCell_18 : decode cX5_isCell 18 = .ok (.goto 4, 3) := by decide +kernel
theorem dX5_isCell_21 : decode cX5_isCell 21 = .ok (.iconst 0, 1) := by decide +kernel
theorem dX5_isCell_22 : decode cX5_isCell 22 = .ok (.ireturn, 1) := by decide +kernel
theorem dX5_isReading_0 : decode cX5_isReading 0 = .ok (.iload_n 1, 1) := by decide +kernel
theorem dX5_isReading_1 : decode cX5_isReading 1 = .ok (.iconst 0, 1) := by decide +kernel
theorem dX5_isReading_2 : decode cX5_isReading 2 = .ok (.getstatic 165, 3) := by decide +kernel
theorem dX5_isReading_5 : decode cX5_isReading 5 = .ok (.iload_n 0, 1) := by decide +kernel
theorem dX5_isReading_6 : decode cX5_isReading 6 = .ok (.invokestatic 124, 3) := by decide +kernel
theorem dX5_isReading_9 : decode cX5_isReading 9 = .ok (.iconst 1, 1) := by decide +kernel
theorem dX5_isReading_10 : decode cX5_isReading 10 = .ok (.isub, 1) := by decide +kernel
theorem dX5_isReading_11 : decode cX5_isReading 11 = .ok (.invokestatic 44, 3) := by decide +kernel
theorem dX5_isReading_14 : decode cX5_isReading 14 = .ok (.ifCond .ne 7, 3) := by decide +kernel
theorem dX5_isReading_17 : decode cX5_isReading 17 = .ok (.iconst 1, 1) := by decide +kernel
theorem dX5_isReading_18 : decode cX5_isReading 18 = .ok (.goto 4, 3) := by decide +kernel
theorem dX5_isReading_21 : decode cX5_isReading 21 = .ok (.iconst 0, 1) := by decide +kernel
theorem dX5_isReading_22 : decode cX5_isReading 22 = .ok (.ireturn, 1) := by decide +kernel
theorem dX5_cell_0 : decode cX5_cell 0 = .ok (.iload_n 0, 1) := by decide +kernel
theorem dX5_cell_1 : decode cX5_cell 1 = .ok (.bipush 8, 2) := by decide +kernel
theorem dX5_cell_3 : decode cX5_cell 3 = .ok (.imul, 1) := by decide +kernel
theorem dX5_cell_4 : decode cX5_cell 4 = .ok (.iload_n 1, 1) := by decide +kernel
theorem dX5_cell_5 : decode cX5_cell 5 = .ok (.iadd, 1) := by decide +kernel
theorem dX5_cell_6 : decode cX5_cell 6 = .ok (.ireturn, 1) := by decide +kernel
theorem dX5_sectorOf_0 : decode cX5_sectorOf 0 = .ok (.iload_n 0, 1) := by decide +kernel
theorem dX5_sectorOf_1 : decode cX5_sectorOf 1 = .ok (.sipush 510, 3) := by decide +kernel
theorem dX5_sectorOf_4 : decode cX5_sectorOf 4 = .ok (.idiv, 1) := by decide +kernel
theorem dX5_sectorOf_5 : decode cX5_sectorOf 5 = .ok (.ireturn, 1) := by decide +kernel
theorem dX5_toNumber_0 : decode cX5_toNumber 0 = .ok (.iload_n 0, 1) := by decide +kernel
theorem dX5_toNumber_1 : decode cX5_toNumber 1 = .ok (.ifCond .eq 7, 3) := by decide +kernel
theorem dX5_toNumber_4 : decode cX5_toNumber 4 = .ok (.iconst 1, 1) := by decide +kernel
theorem dX5_toNumber_5 : decode cX5_toNumber 5 = .ok (.goto 4, 3) := by decide +kernel
theorem dX5_toNumber_8 : decode cX5_toNumber 8 = .ok (.iconst 0, 1) := by decide +kernel
theorem dX5_toNumber_9 : decode cX5_toNumber 9 = .ok (.ireturn, 1) := by decide +kernel
theorem dX5_at_0 : decode cX5_at 0 = .ok (.iload_n 1, 1) := by decide +kernel
theorem dX5_at_1 : decode cX5_at 1 = .ok (.ifCond .lt 15, 3) := by decide +kernel
theorem dX5_at_4 : decode cX5_at 4 = .ok (.iload_n 1, 1) := by decide +kernel
theorem dX5_at_5 : decode cX5_at 5 = .ok (.aload_n 0, 1) := by decide +kernel
theorem dX5_at_6 : decode cX5_at 6 = .ok (.arraylength, 1) := by decide +kernel
theorem dX5_at_7 : decode cX5_at 7 = .ok (.if_icmp .ge 9, 3) := by decide +kernel
theorem dX5_at_10 : decode cX5_at 10 = .ok (.aload_n 0, 1) := by decide +kernel
theorem dX5_at_11 : decode cX5_at 11 = .ok (.iload_n 1, 1) := by decide +kernel
theorem dX5_at_12 : decode cX5_at 12 = .ok (.iaload, 1) := by decide +kernel
theorem dX5_at_13 : decode cX5_at 13 = .ok (.goto 4, 3) := by decide +kernel
theorem dX5_at_16 : decode cX5_at 16 = .ok (.iconst 0, 1) := by decide +kernel
theorem dX5_at_17 : decode cX5_at 17 = .ok (.ireturn, 1) := by decide +kernel
theorem dX5_put_0 : decode cX5_put 0 = .ok (.iload_n 1, 1) := by decide +kernel
theorem dX5_put_1 : decode cX5_put 1 = .ok (.ifCond .lt 13, 3) := by decide +kernel
theorem dX5_put_4 : decode cX5_put 4 = .ok (.iload_n 1, 1) := by decide +kernel
theorem dX5_put_5 : decode cX5_put 5 = .ok (.aload_n 0, 1) := by decide +kernel
theorem dX5_put_6 : decode cX5_put 6 = .ok (.arraylength, 1) := by decide +kernel
theorem dX5_put_7 : decode cX5_put 7 = .ok (.if_icmp .ge 7, 3) := by decide +kernel
theorem dX5_put_10 : decode cX5_put 10 = .ok (.aload_n 0, 1) := by decide +kernel
theorem dX5_put_11 : decode cX5_put 11 = .ok (.iload_n 1, 1) := by decide +kernel
theorem dX5_put_12 : decode cX5_put 12 = .ok (.iload_n 2, 1) := by decide +kernel
theorem dX5_put_13 : decode cX5_put 13 = .ok (.iastore, 1) := by decide +kernel
theorem dX5_put_14 : decode cX5_put 14 = .ok (.return_, 1) := by decide +kernel
theorem dX5_copy_0 : decode cX5_copy 0 = .ok (.iconst 0, 1) := by decide +kernel
theorem dX5_copy_1 : decode cX5_copy 1 = .ok (.istore_n 2, 1) := by decide +kernel
theorem dX5_copy_2 : decode cX5_copy 2 = .ok (.iload_n 2, 1) := by decide +kernel
theorem dX5_copy_3 : decode cX5_copy 3 = .ok (.aload_n 0, 1) := by decide +kernel
theorem dX5_copy_4 : decode cX5_copy 4 = .ok (.arraylength, 1) := by decide +kernel
theorem dX5_copy_5 : decode cX5_copy 5 = .ok (.if_icmp .ge 21, 3) := by decide +kernel
theorem dX5_copy_8 : decode cX5_copy 8 = .ok (.iload_n 2, 1) := by decide +kernel
theorem dX5_copy_9 : decode cX5_copy 9 = .ok (.aload_n 1, 1) := by decide +kernel
theorem dX5_copy_10 : decode cX5_copy 10 = .ok (.arraylength, 1) := by decide +kernel
theorem dX5_copy_11 : decode cX5_copy 11 = .ok (.if_icmp .ge 15, 3) := by decide +kernel
theorem dX5_copy_14 : decode cX5_copy 14 = .ok (.aload_n 1, 1) := by decide +kernel
theorem dX5_copy_15 : decode cX5_copy 15 = .ok (.iload_n 2, 1) := by decide +kernel
theorem dX5_copy_16 : decode cX5_copy 16 = .ok (.aload_n 0, 1) := by decide +kernel
theorem dX5_copy_17 : decode cX5_copy 17 = .ok (.iload_n 2, 1) := by decide +kernel
theorem dX5_copy_18 : decode cX5_copy 18 = .ok (.iaload, 1) := by decide +kernel
theorem dX5_copy_19 : decode cX5_copy 19 = .ok (.iastore, 1) := by decide +kernel
theorem dX5_copy_20 : decode cX5_copy 20 = .ok (.iinc 2 1, 3) := by decide +kernel
theorem dX5_copy_23 : decode cX5_copy 23 = .ok (.goto (-21), 3) := by decide +kernel
theorem dX5_copy_26 : decode cX5_copy 26 = .ok (.return_, 1) := by decide +kernel
theorem dX5_remainder_0 : decode cX5_remainder 0 = .ok (.iload_n 1, 1) := by decide +kernel
theorem dX5_remainder_1 : decode cX5_remainder 1 = .ok (.ifCond .gt 5, 3) := by decide +kernel
theorem dX5_remainder_4 : decode cX5_remainder 4 = .ok (.iconst 0, 1) := by decide +kernel
theorem dX5_remainder_5 : decode cX5_remainder 5 = .ok (.ireturn, 1) := by decide +kernel
theorem dX5_remainder_6 : decode cX5_remainder 6 = .ok (.iload_n 0, 1) := by decide +kernel
theorem dX5_remainder_7 : decode cX5_remainder 7 = .ok (.iload_n 1, 1) := by decide +kernel
theorem dX5_remainder_8 : decode cX5_remainder 8 = .ok (.irem, 1) := by decide +kernel
