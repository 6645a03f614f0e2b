theorem dX5_fault_31 : decode cX5_fault 31 = .ok (.getfield 34, 3) := by decide +kernel
theorem dX5_fault_34 : decode cX5_fault 34 = .ok (.ireturn, 1) := by decide +kernel
theorem dX5_fault_35 : decode cX5_fault 35 = .ok (.iload_n 1, 1) := by decide +kernel
theorem dX5_fault_36 : decode cX5_fault 36 = .ok (.iconst 1, 1) := by decide +kernel
theorem dX5_fault_37 : decode cX5_fault 37 = .ok (.if_icmp .ne 8, 3) := by decide +kernel
theorem dX5_fault_40 : decode cX5_fault 40 = .ok (.aload_n 0, 1) := by decide +kernel
theorem dX5_fault_41 : decode cX5_fault 41 = .ok (.getfield 37, 3) := by decide +kernel
theorem dX5_fault_44 : decode cX5_fault 44 = .ok (.ireturn, 1) := by decide +kernel
theorem dX5_fault_45 : decode cX5_fault 45 = .ok (.aload_n 0, 1) := by decide +kernel
theorem dX5_fault_46 : decode cX5_fault 46 = .ok (.getfield 37, 3) := by decide +kernel
theorem dX5_fault_49 : decode cX5_fault 49 = .ok (.iconst 1, 1) := by decide +kernel
theorem dX5_fault_50 : decode cX5_fault 50 = .ok (.if_icmp .ne 8, 3) := by decide +kernel
theorem dX5_fault_53 : decode cX5_fault 53 = .ok (.bipush (-4), 2) := by decide +kernel
theorem dX5_fault_55 : decode cX5_fault 55 = .ok (.goto 7, 3) := by decide +kernel
theorem dX5_fault_58 : decode cX5_fault 58 = .ok (.aload_n 0, 1) := by decide +kernel
theorem dX5_fault_59 : decode cX5_fault 59 = .ok (.getfield 40, 3) := by decide +kernel
theorem dX5_fault_62 : decode cX5_fault 62 = .ok (.ireturn, 1) := by decide +kernel
theorem dX5_play_0 : decode cX5_play 0 = .ok (.aload_n 0, 1) := by decide +kernel
theorem dX5_play_1 : decode cX5_play 1 = .ok (.invokevirtual 121, 3) := by decide +kernel
theorem dX5_play_4 : decode cX5_play 4 = .ok (.istore_n 1, 1) := by decide +kernel
theorem dX5_play_5 : decode cX5_play 5 = .ok (.aload_n 0, 1) := by decide +kernel
theorem dX5_play_6 : decode cX5_play 6 = .ok (.aload_n 0, 1) := by decide +kernel
theorem dX5_play_7 : decode cX5_play 7 = .ok (.getfield 37, 3) := by decide +kernel
theorem dX5_play_10 : decode cX5_play 10 = .ok (.ifCond .ne 7, 3) := by decide +kernel
theorem dX5_play_13 : decode cX5_play 13 = .ok (.iload_n 1, 1) := by decide +kernel
theorem dX5_play_14 : decode cX5_play 14 = .ok (.goto 5, 3) := by decide +kernel
theorem dX5_play_17 : decode cX5_play 17 = .ok (.bipush (-2), 2) := by decide +kernel
theorem dX5_play_19 : decode cX5_play 19 = .ok (.invokevirtual 51, 3) := by decide +kernel
theorem dX5_play_22 : decode cX5_play 22 = .ok (.ireturn, 1) := by decide +kernel
theorem dX5_spareRoom_0 : decode cX5_spareRoom 0 = .ok (.aload_n 0, 1) := by decide +kernel
theorem dX5_spareRoom_1 : decode cX5_spareRoom 1 = .ok (.getfield 16, 3) := by decide +kernel
theorem dX5_spareRoom_4 : decode cX5_spareRoom 4 = .ok (.aload_n 0, 1) := by decide +kernel
theorem dX5_spareRoom_5 : decode cX5_spareRoom 5 = .ok (.getfield 10, 3) := by decide +kernel
theorem dX5_spareRoom_8 : decode cX5_spareRoom 8 = .ok (.invokevirtual 124, 3) := by decide +kernel
theorem dX5_spareRoom_11 : decode cX5_spareRoom 11 = .ok (.aload_n 0, 1) := by decide +kernel
theorem dX5_spareRoom_12 : decode cX5_spareRoom 12 = .ok (.getfield 16, 3) := by decide +kernel
theorem dX5_spareRoom_15 : decode cX5_spareRoom 15 = .ok (.areturn, 1) := by decide +kernel
theorem dX5_settle_0 : decode cX5_settle 0 = .ok (.iload_n 1, 1) := by decide +kernel
theorem dX5_settle_1 : decode cX5_settle 1 = .ok (.ifCond .ge 5, 3) := by decide +kernel
theorem dX5_settle_4 : decode cX5_settle 4 = .ok (.iload_n 1, 1) := by decide +kernel
theorem dX5_settle_5 : decode cX5_settle 5 = .ok (.ireturn, 1) := by decide +kernel
theorem dX5_settle_6 : decode cX5_settle 6 = .ok (.aload_n 0, 1) := by decide +kernel
theorem dX5_settle_7 : decode cX5_settle 7 = .ok (.getfield 23, 3) := by decide +kernel
theorem dX5_settle_10 : decode cX5_settle 10 = .ok (.ifCond .lt 47, 3) := by decide +kernel
theorem dX5_settle_13 : decode cX5_settle 13 = .ok (.aload_n 0, 1) := by decide +kernel
theorem dX5_settle_14 : decode cX5_settle 14 = .ok (.getfield 23, 3) := by decide +kernel
theorem dX5_settle_17 : decode cX5_settle 17 = .ok (.iconst 4, 1) := by decide +kernel
theorem dX5_settle_18 : decode cX5_settle 18 = .ok (.if_icmp .ge 39, 3) := by decide +kernel
theorem dX5_settle_21 : decode cX5_settle 21 = .ok (.aload_n 0, 1) := by decide +kernel
theorem dX5_settle_22 : decode cX5_settle 22 = .ok (.getfield 19, 3) := by decide +kernel
theorem dX5_settle_25 : decode cX5_settle 25 = .ok (.aload_n 0, 1) := by decide +kernel
theorem dX5_settle_26 : decode cX5_settle 26 = .ok (.getfield 23, 3) := by decide +kernel
theorem dX5_settle_29 : decode cX5_settle 29 = .ok (.aaload, 1) := by decide +kernel
theorem dX5_settle_30 : decode cX5_settle 30 = .ok (.astore_n 2, 1) := by decide +kernel
theorem dX5_settle_31 : decode cX5_settle 31 = .ok (.aload_n 0, 1) := by decide +kernel
theorem dX5_settle_32 : decode cX5_settle 32 = .ok (.getfield 19, 3) := by decide +kernel
theorem dX5_settle_35 : decode cX5_settle 35 = .ok (.aload_n 0, 1) := by decide +kernel
theorem dX5_settle_36 : decode cX5_settle 36 = .ok (.getfield 23, 3) := by decide +kernel
theorem dX5_settle_39 : decode cX5_settle 39 = .ok (.aload_n 0, 1) := by decide +kernel
theorem dX5_settle_40 : decode cX5_settle 40 = .ok (.getfield 10, 3) := by decide +kernel
theorem dX5_settle_43 : decode cX5_settle 43 = .ok (.aastore, 1) := by decide +kernel
theorem dX5_settle_44 : decode cX5_settle 44 = .ok (.aload_n 0, 1) := by decide +kernel
theorem dX5_settle_45 : decode cX5_settle 45 = .ok (.dup, 1) := by decide +kernel
theorem dX5_settle_46 : decode cX5_settle 46 = .ok (.getfield 23, 3) := by decide +kernel
theorem dX5_settle_49 : decode cX5_settle 49 = .ok (.iconst 1, 1) := by decide +kernel
theorem dX5_settle_50 : decode cX5_settle 50 = .ok (.iadd, 1) := by decide +kernel
theorem dX5_settle_51 : decode cX5_settle 51 = .ok (.putfield 23, 3) := by decide +kernel
theorem dX5_settle_54 : decode cX5_settle 54 = .ok (.goto 47, 3) := by decide +kernel
theorem dX5_settle_57 : decode cX5_settle 57 = .ok (.aload_n 0, 1) := by decide +kernel
theorem dX5_settle_58 : decode cX5_settle 58 = .ok (.getfield 19, 3) := by decide +kernel
theorem dX5_settle_61 : decode cX5_settle 61 = .ok (.iconst 0, 1) := by decide +kernel
theorem dX5_settle_62 : decode cX5_settle 62 = .ok (.aaload, 1) := by decide +kernel
theorem dX5_settle_63 : decode cX5_settle 63 = .ok (.astore_n 2, 1) := by decide +kernel
theorem dX5_settle_64 : decode cX5_settle 64 = .ok (.iconst 1, 1) := by decide +kernel
theorem dX5_settle_65 : decode cX5_settle 65 = .ok (.istore_n 3, 1) := by decide +kernel
theorem dX5_settle_66 : decode cX5_settle 66 = .ok (.iload_n 3, 1) := by decide +kernel
theorem dX5_settle_67 : decode cX5_settle 67 = .ok (.iconst 4, 1) := by decide +kernel
theorem dX5_settle_68 : decode cX5_settle 68 = .ok (.if_icmp .ge 23, 3) := by decide +kernel
theorem dX5_settle_71 : decode cX5_settle 71 = .ok (.aload_n 0, 1) := by decide +kernel
theorem dX5_settle_72 : decode cX5_settle 72 = .ok (.getfield 19, 3) := by decide +kernel
theorem dX5_settle_75 : decode cX5_settle 75 = .ok (.iload_n 3, 1) := by decide +kernel
theorem dX5_settle_76 : decode cX5_settle 76 = .ok (.iconst 1, 1) := by decide +kernel
theorem dX5_settle_77 : decode cX5_settle 77 = .ok (.isub, 1) := by decide +kernel
theorem dX5_settle_78 : decode cX5_settle 78 = .ok (.aload_n 0, 1) := by decide +kernel
theorem dX5_settle_79 : decode cX5_settle 79 = .ok (.getfield 19, 3) := by decide +kernel
theorem dX5_settle_82 : decode cX5_settle 82 = .ok (.iload_n 3, 1) := by decide +kernel
theorem dX5_settle_83 : decode cX5_settle 83 = .ok (.aaload, 1) := by decide +kernel
theorem dX5_settle_84 : decode cX5_settle 84 = .ok (.aastore, 1) := by decide +kernel
theorem dX5_settle_85 : decode cX5_settle 85 = .ok (.iinc 3 1, 3) := by decide +kernel
theorem dX5_settle_88 : decode cX5_settle 88 = .ok (.goto (-22), 3) := by decide +kernel
theorem dX5_settle_91 : decode cX5_settle 91 = .ok (.aload_n 0, 1) := by decide +kernel
theorem dX5_settle_92 : decode cX5_settle 92 = .ok (.getfield 19, 3) := by decide +kernel
theorem dX5_settle_95 : decode cX5_settle 95 = .ok (.iconst 3, 1) := by decide +kernel
theorem dX5_settle_96 : decode cX5_settle 96 = .ok (.aload_n 0, 1) := by decide +kernel
theorem dX5_settle_97 : decode cX5_settle 97 = .ok (.getfield 10, 3) := by decide +kernel
theorem dX5_settle_100 : decode cX5_settle 100 = .ok (.aastore, 1) := by decide +kernel
theorem dX5_settle_101 : decode cX5_settle 101 = .ok (.aload_n 0, 1) := by decide +kernel
theorem dX5_settle_102 : decode cX5_settle 102 = .ok (.aload_n 0, 1) := by decide +kernel
theorem dX5_settle_103 : decode cX5_settle 103 = .ok (.getfield 16, 3) := by decide +kernel
theorem dX5_settle_106 : decode cX5_settle 106 = .ok (.putfield 10, 3) := by decide +kernel
theorem dX5_settle_109 : decode cX5_settle 109 = .ok (.aload_n 0, 1) := by decide +kernel
theorem dX5_settle_110 : decode cX5_settle 110 = .ok (.aload_n 2, 1) := by decide +kernel
theorem dX5_settle_111 : decode cX5_settle 111 = .ok (.putfield 16, 3) := by decide +kernel
theorem dX5_settle_114 : decode cX5_settle 114 = .ok (.iload_n 1, 1) := by decide +kernel
theorem dX5_settle_115 : decode cX5_settle 115 = .ok (.ireturn, 1) := by decide +kernel
theorem dX5_tryText_0 : decode cX5_tryText 0 = .ok (.aload_n 0, 1) := by decide +kernel
theorem dX5_tryText_1 : decode cX5_tryText 1 = .ok (.invokevirtual 43, 3) := by decide +kernel
theorem dX5_tryText_4 : decode cX5_tryText 4 = .ok (.astore_n 1, 1) := by decide +kernel
theorem dX5_tryText_5 : decode cX5_tryText 5 = .ok (.iconst 0, 1) := by decide +kernel
theorem dX5_tryText_6 : decode cX5_tryText 6 = .ok (.istore_n 2, 1) := by decide +kernel
theorem dX5_tryText_7 : decode cX5_tryText 7 = .ok (.iconst 0, 1) := by decide +kernel
theorem dX5_tryText_8 : decode cX5_tryText 8 = .ok (.istore_n 3, 1) := by decide +kernel
theorem dX5_tryText_9 : decode cX5_tryText 9 = .ok (.aload_n 0, 1) := by decide +kernel
theorem dX5_tryText_10 : decode cX5_tryText 10 = .ok (.iconst (-1), 1) := by decide +kernel
theorem dX5_tryText_11 : decode cX5_tryText 11 = .ok (.iconst 0, 1) := by decide +kernel
theorem dX5_tryText_12 : decode cX5_tryText 12 = .ok (.iconst 0, 1) := by decide +kernel
theorem dX5_tryText_13 : decode cX5_tryText 13 = .ok (.invokevirtual 128, 3) := by decide +kernel
theorem dX5_tryText_16 : decode cX5_tryText 16 = .ok (.iload_n 2, 1) := by decide +kernel
theorem dX5_tryText_17 : decode cX5_tryText 17 = .ok (.bipush 80, 2) := by decide +kernel
theorem dX5_tryText_19 : decode cX5_tryText 19 = .ok (.if_icmp .ge 103, 3) := by decide +kernel
theorem dX5_tryText_22 : decode cX5_tryText 22 = .ok (.iload_n 3, 1) := by decide +kernel
theorem dX5_tryText_23 : decode cX5_tryText 23 = .ok (.aload_n 0, 1) := by decide +kernel
theorem dX5_tryText_24 : decode cX5_tryText 24 = .ok (.getfield 30, 3) := by decide +kernel
theorem dX5_tryText_27 : decode cX5_tryText 27 = .ok (.getfield 94, 3) := by decide +kernel
theorem dX5_tryText_30 : decode cX5_tryText 30 = .ok (.if_icmp .ge 92, 3) := by decide +kernel
theorem dX5_tryText_33 : decode cX5_tryText 33 = .ok (.aload_n 0, 1) := by decide +kernel
theorem dX5_tryText_34 : decode cX5_tryText 34 = .ok (.getfield 30, 3) := by decide +kernel
theorem dX5_tryText_37 : decode cX5_tryText 37 = .ok (.iload_n 3, 1) := by decide +kernel
theorem dX5_tryText_38 : decode cX5_tryText 38 = .ok (.invokevirtual 132, 3) := by decide +kernel
theorem dX5_tryText_41 : decode cX5_tryText 41 = .ok (.istore 4, 2) := by decide +kernel
theorem dX5_tryText_43 : decode cX5_tryText 43 = .ok (.iload 4, 2) := by decide +kernel
theorem dX5_tryText_45 : decode cX5_tryText 45 = .ok (.iconst (-1), 1) := by decide +kernel
theorem dX5_tryText_46 : decode cX5_tryText 46 = .ok (.if_icmp .ne 12, 3) := by decide +kernel
theorem dX5_tryText_49 : decode cX5_tryText 49 = .ok (.aload_n 0, 1) := by decide +kernel
theorem dX5_tryText_50 : decode cX5_tryText 50 = .ok (.iload_n 3, 1) := by decide +kernel
theorem dX5_tryText_51 : decode cX5_tryText 51 = .ok (.iconst 1, 1) := by decide +kernel
theorem dX5_tryText_52 : decode cX5_tryText 52 = .ok (.iconst 0, 1) := by decide +kernel
theorem dX5_tryText_53 : decode cX5_tryText 53 = .ok (.invokevirtual 128, 3) := by decide +kernel
theorem dX5_tryText_56 : decode cX5_tryText 56 = .ok (.iload_n 2, 1) := by decide +kernel
theorem dX5_tryText_57 : decode cX5_tryText 57 = .ok (.ireturn, 1) := by decide +kernel
theorem dX5_tryText_58 : decode cX5_tryText 58 = .ok (.aload_n 1, 1) := by decide +kernel
theorem dX5_tryText_59 : decode cX5_tryText 59 = .ok (.iload 4, 2) := by decide +kernel
theorem dX5_tryText_61 : decode cX5_tryText 61 = .ok (.aload_n 0, 1) := by decide +kernel
theorem dX5_tryText_62 : decode cX5_tryText 62 = .ok (.getfield 30, 3) := by decide +kernel
theorem dX5_tryText_65 : decode cX5_tryText 65 = .ok (.getfield 135, 3) := by decide +kernel
theorem dX5_tryText_68 : decode cX5_tryText 68 = .ok (.iconst 0, 1) := by decide +kernel
theorem dX5_tryText_69 : decode cX5_tryText 69 = .ok (.iaload, 1) := by decide +kernel
theorem dX5_tryText_70 : decode cX5_tryText 70 = .ok (.aload_n 0, 1) := by decide +kernel
theorem dX5_tryText_71 : decode cX5_tryText 71 = .ok (.getfield 30, 3) := by decide +kernel
theorem dX5_tryText_74 : decode cX5_tryText 74 = .ok (.getfield 135, 3) := by decide +kernel
theorem dX5_tryText_77 : decode cX5_tryText 77 = .ok (.iconst 1, 1) := by decide +kernel
theorem dX5_tryText_78 : decode cX5_tryText 78 = .ok (.iaload, 1) := by decide +kernel
theorem dX5_tryText_79 : decode cX5_tryText 79 = .ok (.aload_n 0, 1) := by decide +kernel
theorem dX5_tryText_80 : decode cX5_tryText 80 = .ok (.getfield 30, 3) := by decide +kernel
theorem dX5_tryText_83 : decode cX5_tryText 83 = .ok (.getfield 135, 3) := by decide +kernel
theorem dX5_tryText_86 : decode cX5_tryText 86 = .ok (.iconst 2, 1) := by decide +kernel
theorem dX5_tryText_87 : decode cX5_tryText 87 = .ok (.iaload, 1) := by decide +kernel
theorem dX5_tryText_88 : decode cX5_tryText 88 = .ok (.invokevirtual 139, 3) := by decide +kernel
theorem dX5_tryText_91 : decode cX5_tryText 91 = .ok (.istore 5, 2) := by decide +kernel
theorem dX5_tryText_93 : decode cX5_tryText 93 = .ok (.iload 5, 2) := by decide +kernel
theorem dX5_tryText_95 : decode cX5_tryText 95 = .ok (.ifCond .ge 13, 3) := by decide +kernel
theorem dX5_tryText_98 : decode cX5_tryText 98 = .ok (.aload_n 0, 1) := by decide +kernel
theorem dX5_tryText_99 : decode cX5_tryText 99 = .ok (.iload_n 3, 1) := by decide +kernel
theorem dX5_tryText_100 : decode cX5_tryText 100 = .ok (.iconst 2, 1) := by decide +kernel
theorem dX5_tryText_101 : decode cX5_tryText 101 = .ok (.iload 5, 2) := by decide +kernel
theorem dX5_tryText_103 : decode cX5_tryText 103 = .ok (.invokevirtual 128, 3) := by decide +kernel
theorem dX5_tryText_106 : decode cX5_tryText 106 = .ok (.iload_n 2, 1) := by decide +kernel
theorem dX5_tryText_107 : decode cX5_tryText 107 = .ok (.ireturn, 1) := by decide +kernel
theorem dX5_tryText_108 : decode cX5_tryText 108 = .ok (.iinc 2 1, 3) := by decide +kernel
theorem dX5_tryText_111 : decode cX5_tryText 111 = .ok (.aload_n 0, 1) := by decide +kernel
theorem dX5_tryText_112 : decode cX5_tryText 112 = .ok (.getfield 30, 3) := by decide +kernel
theorem dX5_tryText_115 : decode cX5_tryText 115 = .ok (.getfield 142, 3) := by decide +kernel
theorem dX5_tryText_118 : decode cX5_tryText 118 = .ok (.istore_n 3, 1) := by decide +kernel
theorem dX5_tryText_119 : decode cX5_tryText 119 = .ok (.goto (-103), 3) := by decide +kernel
theorem dX5_tryText_122 : decode cX5_tryText 122 = .ok (.iload_n 2, 1) := by decide +kernel
theorem dX5_tryText_123 : decode cX5_tryText 123 = .ok (.ireturn, 1) := by decide +kernel
theorem dX5_noteFault_0 : decode cX5_noteFault 0 = .ok (.aload_n 0, 1) := by decide +kernel
theorem dX5_noteFault_1 : decode cX5_noteFault 1 = .ok (.iload_n 1, 1) := by decide +kernel
theorem dX5_noteFault_2 : decode cX5_noteFault 2 = .ok (.putfield 34, 3) := by decide +kernel
theorem dX5_noteFault_5 : decode cX5_noteFault 5 = .ok (.aload_n 0, 1) := by decide +kernel
theorem dX5_noteFault_6 : decode cX5_noteFault 6 = .ok (.iload_n 2, 1) := by decide +kernel
theorem dX5_noteFault_7 : decode cX5_noteFault 7 = .ok (.putfield 37, 3) := by decide +kernel
theorem dX5_noteFault_10 : decode cX5_noteFault 10 = .ok (.aload_n 0, 1) := by decide +kernel
theorem dX5_noteFault_11 : decode cX5_noteFault 11 = .ok (.iload_n 3, 1) := by decide +kernel
theorem dX5_noteFault_12 : decode cX5_noteFault 12 = .ok (.putfield 40, 3) := by decide +kernel
theorem dX5_noteFault_15 : decode cX5_noteFault 15 = .ok (.return_, 1) := by decide +kernel
theorem dX5_within_0 : decode cX5_within 0 = .ok (.iload_n 0, 1) := by decide +kernel
theorem dX5_within_1 : decode cX5_within 1 = .ok (.iload_n 1, 1) := by decide +kernel
theorem dX5_within_2 : decode cX5_within 2 = .ok (.if_icmp .lt 12, 3) := by decide +kernel
theorem dX5_within_5 : decode cX5_within 5 = .ok (.iload_n 0, 1) := by decide +kernel
theorem dX5_within_6 : decode cX5_within 6 = .ok (.iload_n 2, 1) := by decide +kernel
theorem dX5_within_7 : decode cX5_within 7 = .ok (.if_icmp .gt 7, 3) := by decide +kernel
theorem dX5_within_10 : decode cX5_within 10 = .ok (.iconst 1, 1) := by decide +kernel
theorem dX5_within_11 : decode cX5_within 11 = .ok (.goto 4, 3) := by decide +kernel
theorem dX5_within_14 : decode cX5_within 14 = .ok (.iconst 0, 1) := by decide +kernel
theorem dX5_within_15 : decode cX5_within 15 = .ok (.ireturn, 1) := by decide +kernel
theorem dX5_isName_0 : decode cX5_isName 0 = .ok (.iload_n 0, 1) := by decide +kernel
theorem dX5_isName_1 : decode cX5_isName 1 = .ok (.iconst 0, 1) := by decide +kernel
theorem dX5_isName_2 : decode cX5_isName 2 = .ok (.bipush 7, 2) := by decide +kernel
theorem dX5_isName_4 : decode cX5_isName 4 = .ok (.invokestatic 113, 3) := by decide +kernel
theorem dX5_isName_7 : decode cX5_isName 7 = .ok (.ireturn, 1) := by decide +kernel
theorem dJ6_bitCount_0f7a4_0 : decode cJ6_bitCount_0f7a4 0 = .ok (.iload_n 0, 1) := by decide +kernel
theorem dJ6_bitCount_0f7a4_1 : decode cJ6_bitCount_0f7a4 1 = .ok (.iload_n 0, 1) := by decide +kernel
theorem dJ6_bitCount_0f7a4_2 : decode cJ6_bitCount_0f7a4 2 = .ok (.iconst 1, 1) := by decide +kernel
theorem dJ6_bitCount_0f7a4_3 : decode cJ6_bitCount_0f7a4 3 = .ok (.iushr, 1) := by decide +kernel
theorem dJ6_bitCount_0f7a4_4 : decode cJ6_bitCount_0f7a4 4 = .ok (.ldc_w 265, 3) := by decide +kernel
theorem dJ6_bitCount_0f7a4_7 : decode cJ6_bitCount_0f7a4 7 = .ok (.iand, 1) := by decide +kernel
theorem dJ6_bitCount_0f7a4_8 : decode cJ6_bitCount_0f7a4 8 = .ok (.isub, 1) := by decide +kernel
theorem dJ6_bitCount_0f7a4_9 : decode cJ6_bitCount_0f7a4 9 = .ok (.istore_n 0, 1) := by decide +kernel
theorem dJ6_bitCount_0f7a4_10 : decode cJ6_bitCount_0f7a4 10 = .ok (.iload_n 0, 1) := by decide +kernel
theorem dJ6_bitCount_0f7a4_11 : decode cJ6_bitCount_0f7a4 11 = .ok (.ldc_w 266, 3) := by decide +kernel
theorem dJ6_bitCount_0f7a4_14 : decode cJ6_bitCount_0f7a4 14 = .ok (.iand, 1) := by decide +kernel
theorem dJ6_bitCount_0f7a4_15 : decode cJ6_bitCount_0f7a4 15 = .ok (.iload_n 0, 1) := by decide +kernel
theorem dJ6_bitCount_0f7a4_16 : decode cJ6_bitCount_0f7a4 16 = .ok (.iconst 2, 1) := by decide +kernel
theorem dJ6_bitCount_0f7a4_17 : decode cJ6_bitCount_0f7a4 17 = .ok (.iushr, 1) := by decide +kernel
theorem dJ6_bitCount_0f7a4_18 : decode cJ6_bitCount_0f7a4 18 = .ok (.ldc_w 266, 3) := by decide +kernel
theorem dJ6_bitCount_0f7a4_21 : decode cJ6_bitCount_0f7a4 21 = .ok (.iand, 1) := by decide +kernel
theorem dJ6_bitCount_0f7a4_22 : decode cJ6_bitCount_0f7a4 22 = .ok (.iadd, 1) := by decide +kernel
theorem dJ6_bitCount_0f7a4_23 : decode cJ6_bitCount_0f7a4 23 = .ok (.istore_n 0, 1) := by decide +kernel
theorem dJ6_bitCount_0f7a4_24 : decode cJ6_bitCount_0f7a4 24 = .ok (.iload_n 0, 1) := by decide +kernel
theorem dJ6_bitCount_0f7a4_25 : decode cJ6_bitCount_0f7a4 25 = .ok (.iload_n 0, 1) := by decide +kernel
theorem dJ6_bitCount_0f7a4_26 : decode cJ6_bitCount_0f7a4 26 = .ok (.iconst 4, 1) := by decide +kernel
theorem dJ6_bitCount_0f7a4_27 : decode cJ6_bitCount_0f7a4 27 = .ok (.iushr, 1) := by decide +kernel
theorem dJ6_bitCount_0f7a4_28 : decode cJ6_bitCount_0f7a4 28 = .ok (.iadd, 1) := by decide +kernel
theorem dJ6_bitCount_0f7a4_29 : decode cJ6_bitCount_0f7a4 29 = .ok (.ldc_w 267, 3) := by decide +kernel
theorem dJ6_bitCount_0f7a4_32 : decode cJ6_bitCount_0f7a4 32 = .ok (.iand, 1) := by decide +kernel
theorem dJ6_bitCount_0f7a4_33 : decode cJ6_bitCount_0f7a4 33 = .ok (.istore_n 0, 1) := by decide +kernel
theorem dJ6_bitCount_0f7a4_34 : decode cJ6_bitCount_0f7a4 34 = .ok (.iload_n 0, 1) := by decide +kernel
theorem dJ6_bitCount_0f7a4_35 : decode cJ6_bitCount_0f7a4 35 = .ok (.iload_n 0, 1) := by decide +kernel
theorem dJ6_bitCount_0f7a4_36 : decode cJ6_bitCount_0f7a4 36 = .ok (.bipush 8, 2) := by decide +kernel
theorem dJ6_bitCount_0f7a4_38 : decode cJ6_bitCount_0f7a4 38 = .ok (.iushr, 1) := by decide +kernel
theorem dJ6_bitCount_0f7a4_39 : decode cJ6_bitCount_0f7a4 39 = .ok (.iadd, 1) := by decide +kernel
theorem dJ6_bitCount_0f7a4_40 : decode cJ6_bitCount_0f7a4 40 = .ok (.istore_n 0, 1) := by decide +kernel
theorem dJ6_bitCount_0f7a4_41 : decode cJ6_bitCount_0f7a4 41 = .ok (.iload_n 0, 1) := by decide +kernel
theorem dJ6_bitCount_0f7a4_42 : decode cJ6_bitCount_0f7a4 42 = .ok (.iload_n 0, 1) := by decide +kernel
theorem dJ6_bitCount_0f7a4_43 : decode cJ6_bitCount_0f7a4 43 = .ok (.bipush 16, 2) := by decide +kernel
theorem dJ6_bitCount_0f7a4_45 : decode cJ6_bitCount_0f7a4 45 = .ok (.iushr, 1) := by decide +kernel
theorem dJ6_bitCount_0f7a4_46 : decode cJ6_bitCount_0f7a4 46 = .ok (.iadd, 1) := by decide +kernel
theorem dJ6_bitCount_0f7a4_47 : decode cJ6_bitCount_0f7a4 47 = .ok (.istore_n 0, 1) := by decide +kernel
theorem dJ6_bitCount_0f7a4_48 : decode cJ6_bitCount_0f7a4 48 = .ok (.iload_n 0, 1) := by decide +kernel
theorem dJ6_bitCount_0f7a4_49 : decode cJ6_bitCount_0f7a4 49 = .ok (.bipush 63, 2) := by decide +kernel
theorem dJ6_bitCount_0f7a4_51 : decode cJ6_bitCount_0f7a4 51 = .ok (.iand, 1) := by decide +kernel
theorem dJ6_bitCount_0f7a4_52 : decode cJ6_bitCount_0f7a4 52 = .ok (.ireturn, 1) := by decide +kernel
theorem dJ9_floorMod_7cf53_0 : decode cJ9_floorMod_7cf53 0 = .ok (.iload_n 0, 1) := by decide +kernel
theorem dJ9_floorMod_7cf53_1 : decode cJ9_floorMod_7cf53 1 = .ok (.iload_n 1, 1) := by decide +kernel
theorem dJ9_floorMod_7cf53_2 : decode cJ9_floorMod_7cf53 2 = .ok (.irem, 1) := by decide +kernel
theorem dJ9_floorMod_7cf53_3 : decode cJ9_floorMod_7cf53 3 = .ok (.istore_n 2, 1) := by decide +kernel
theorem dJ9_floorMod_7cf53_4 : decode cJ9_floorMod_7cf53 4 = .ok (.iload_n 0, 1) := by decide +kernel
theorem dJ9_floorMod_7cf53_5 : decode cJ9_floorMod_7cf53 5 = .ok (.iload_n 1, 1) := by decide +kernel
theorem dJ9_floorMod_7cf53_6 : decode cJ9_floorMod_7cf53 6 = .ok (.ixor, 1) := by decide +kernel
theorem dJ9_floorMod_7cf53_7 : decode cJ9_floorMod_7cf53 7 = .ok (.ifCond .ge 11, 3) := by decide +kernel
theorem dJ9_floorMod_7cf53_10 : decode cJ9_floorMod_7cf53 10 = .ok (.iload_n 2, 1) := by decide +kernel
theorem dJ9_floorMod_7cf53_11 : decode cJ9_floorMod_7cf53 11 = .ok (.ifCond .eq 7, 3) := by decide +kernel
theorem dJ9_floorMod_7cf53_14 : decode cJ9_floorMod_7cf53 14 = .ok (.iload_n 2, 1) := by decide +kernel
theorem dJ9_floorMod_7cf53_15 : decode cJ9_floorMod_7cf53 15 = .ok (.iload_n 1, 1) := by decide +kernel
theorem dJ9_floorMod_7cf53_16 : decode cJ9_floorMod_7cf53 16 = .ok (.iadd, 1) := by decide +kernel
theorem dJ9_floorMod_7cf53_17 : decode cJ9_floorMod_7cf53 17 = .ok (.ireturn, 1) := by decide +kernel
theorem dJ9_floorMod_7cf53_18 : decode cJ9_floorMod_7cf53 18 = .ok (.iload_n 2, 1) := by decide +kernel
theorem dJ9_floorMod_7cf53_19 : decode cJ9_floorMod_7cf53 19 = .ok (.ireturn, 1) := by decide +kernel
theorem dJ0_length_8abf5_0 : decode cJ0_length_8abf5 0 = .ok (.aload_n 0, 1) := by decide +kernel
theorem dJ0_length_8abf5_1 : decode cJ0_length_8abf5 1 = .ok (.getfield 9, 3) := by decide +kernel
theorem dJ0_length_8abf5_4 : decode cJ0_length_8abf5 4 = .ok (.arraylength, 1) := by decide +kernel
theorem dJ0_length_8abf5_5 : decode cJ0_length_8abf5 5 = .ok (.aload_n 0, 1) := by decide +kernel
theorem dJ0_length_8abf5_6 : decode cJ0_length_8abf5 6 = .ok (.invokevirtual 335, 3) := by decide +kernel
theorem dJ0_length_8abf5_9 : decode cJ0_length_8abf5 9 = .ok (.ishr, 1) := by decide +kernel
theorem dJ0_length_8abf5_10 : decode cJ0_length_8abf5 10 = .ok (.ireturn, 1) := by decide +kernel
theorem dJ0_charAt_5068e_0 : decode cJ0_charAt_5068e 0 = .ok (.aload_n 0, 1) := by decide +kernel
theorem dJ0_charAt_5068e_1 : decode cJ0_charAt_5068e 1 = .ok (.invokevirtual 492, 3) := by decide +kernel
theorem dJ0_charAt_5068e_4 : decode cJ0_charAt_5068e 4 = .ok (.ifCond .eq 12, 3) := by decide +kernel
theorem dJ0_charAt_5068e_7 : decode cJ0_charAt_5068e 7 = .ok (.aload_n 0, 1) := by decide +kernel
theorem dJ0_charAt_5068e_8 : decode cJ0_charAt_5068e 8 = .ok (.getfield 9, 3) := by decide +kernel
theorem dJ0_charAt_5068e_11 : decode cJ0_charAt_5068e 11 = .ok (.iload_n 1, 1) := by decide +kernel
theorem dJ0_charAt_5068e_12 : decode cJ0_charAt_5068e 12 = .ok (.invokestatic 495, 3) := by decide +kernel
theorem dJ0_charAt_5068e_15 : decode cJ0_charAt_5068e 15 = .ok (.ireturn, 1) := by decide +kernel
theorem dJ0_charAt_5068e_16 : decode cJ0_charAt_5068e 16 = .ok (.aload_n 0, 1) := by decide +kernel
theorem dJ0_charAt_5068e_17 : decode cJ0_charAt_5068e 17 = .ok (.getfield 9, 3) := by decide +kernel
theorem dJ0_charAt_5068e_20 : decode cJ0_charAt_5068e 20 = .ok (.iload_n 1, 1) := by decide +kernel
theorem dJ0_charAt_5068e_21 : decode cJ0_charAt_5068e 21 = .ok (.invokestatic 498, 3) := by decide +kernel
theorem dJ0_charAt_5068e_24 : decode cJ0_charAt_5068e 24 = .ok (.ireturn, 1) := by decide +kernel
theorem dJ0_coder_7d493_0 : decode cJ0_coder_7d493 0 = .ok (.getstatic 38, 3) := by decide +kernel
theorem dJ0_coder_7d493_3 : decode cJ0_coder_7d493 3 = .ok (.ifCond .eq 10, 3) := by decide +kernel
theorem dJ0_coder_7d493_6 : decode cJ0_coder_7d493 6 = .ok (.aload_n 0, 1) := by decide +kernel
theorem dJ0_coder_7d493_7 : decode cJ0_coder_7d493 7 = .ok (.getfield 15, 3) := by decide +kernel
theorem dJ0_coder_7d493_10 : decode cJ0_coder_7d493 10 = .ok (.goto 4, 3) := by decide +kernel
theorem dJ0_coder_7d493_13 : decode cJ0_coder_7d493 13 = .ok (.iconst 1, 1) := by decide +kernel
theorem dJ0_coder_7d493_14 : decode cJ0_coder_7d493 14 = .ok (.ireturn, 1) := by decide +kernel
theorem dJ0_isLatin1_aae02_0 : decode cJ0_isLatin1_aae02 0 = .ok (.getstatic 38, 3) := by decide +kernel
theorem dJ0_isLatin1_aae02_3 : decode cJ0_isLatin1_aae02 3 = .ok (.ifCond .eq 14, 3) := by decide +kernel
theorem dJ0_isLatin1_aae02_6 : decode cJ0_isLatin1_aae02 6 = .ok (.aload_n 0, 1) := by decide +kernel
theorem dJ0_isLatin1_aae02_7 : decode cJ0_isLatin1_aae02 7 = .ok (.getfield 15, 3) := by decide +kernel
theorem dJ0_isLatin1_aae02_10 : decode cJ0_isLatin1_aae02 10 = .ok (.ifCond .ne 7, 3) := by decide +kernel
theorem dJ0_isLatin1_aae02_13 : decode cJ0_isLatin1_aae02 13 = .ok (.iconst 1, 1) := by decide +kernel
theorem dJ0_isLatin1_aae02_14 : decode cJ0_isLatin1_aae02 14 = .ok (.goto 4, 3) := by decide +kernel
theorem dJ0_isLatin1_aae02_17 : decode cJ0_isLatin1_aae02 17 = .ok (.iconst 0, 1) := by decide +kernel
theorem dJ0_isLatin1_aae02_18 : decode cJ0_isLatin1_aae02 18 = .ok (.ireturn, 1) := by decide +kernel
theorem dJ0_checkIndex_df160_0 : decode cJ0_checkIndex_df160 0 = .ok (.iload_n 0, 1) := by decide +kernel
theorem dJ0_checkIndex_df160_1 : decode cJ0_checkIndex_df160 1 = .ok (.iload_n 1, 1) := by decide +kernel
theorem dJ0_checkIndex_df160_2 : decode cJ0_checkIndex_df160 2 = .ok (.getstatic 1053, 3) := by decide +kernel
theorem dJ0_checkIndex_df160_5 : decode cJ0_checkIndex_df160 5 = .ok (.invokestatic 1059, 3) := by decide +kernel
theorem dJ0_checkIndex_df160_8 : decode cJ0_checkIndex_df160 8 = .ok (.pop, 1) := by decide +kernel
theorem dJ0_checkIndex_df160_9 : decode cJ0_checkIndex_df160 9 = .ok (.return_, 1) := by decide +kernel
theorem dJ1_charAt_3b067_0 : decode cJ1_charAt_3b067 0 = .ok (.iload_n 1, 1) := by decide +kernel
theorem dJ1_charAt_3b067_1 : decode cJ1_charAt_3b067 1 = .ok (.aload_n 0, 1) := by decide +kernel
theorem dJ1_charAt_3b067_2 : decode cJ1_charAt_3b067 2 = .ok (.arraylength, 1) := by decide +kernel
theorem dJ1_charAt_3b067_3 : decode cJ1_charAt_3b067 3 = .ok (.invokestatic 9, 3) := by decide +kernel
theorem dJ1_charAt_3b067_6 : decode cJ1_charAt_3b067 6 = .ok (.aload_n 0, 1) := by decide +kernel
theorem dJ1_charAt_3b067_7 : decode cJ1_charAt_3b067 7 = .ok (.iload_n 1, 1) := by decide +kernel
theorem dJ1_charAt_3b067_8 : decode cJ1_charAt_3b067 8 = .ok (.baload, 1) := by decide +kernel
theorem dJ1_charAt_3b067_9 : decode cJ1_charAt_3b067 9 = .ok (.sipush 255, 3) := by decide +kernel
theorem dJ1_charAt_3b067_12 : decode cJ1_charAt_3b067 12 = .ok (.iand, 1) := by decide +kernel
theorem dJ1_charAt_3b067_13 : decode cJ1_charAt_3b067 13 = .ok (.i2c, 1) := by decide +kernel
theorem dJ1_charAt_3b067_14 : decode cJ1_charAt_3b067 14 = .ok (.ireturn, 1) := by decide +kernel
theorem dJ2_getChar_3b067_0 : decode cJ2_getChar_3b067 0 = .ok (.getstatic 44, 3) := by decide +kernel
theorem dJ2_getChar_3b067_3 : decode cJ2_getChar_3b067 3 = .ok (.ifCond .ne 25, 3) := by decide +kernel
theorem dJ2_getChar_3b067_6 : decode cJ2_getChar_3b067 6 = .ok (.iload_n 1, 1) := by decide +kernel
theorem dJ2_getChar_3b067_7 : decode cJ2_getChar_3b067 7 = .ok (.ifCond .lt 11, 3) := by decide +kernel
theorem dJ2_getChar_3b067_10 : decode cJ2_getChar_3b067 10 = .ok (.iload_n 1, 1) := by decide +kernel
theorem dJ2_getChar_3b067_11 : decode cJ2_getChar_3b067 11 = .ok (.aload_n 0, 1) := by decide +kernel
theorem dJ2_getChar_3b067_12 : decode cJ2_getChar_3b067 12 = .ok (.invokestatic 48, 3) := by decide +kernel
theorem dJ2_getChar_3b067_15 : decode cJ2_getChar_3b067 15 = .ok (.if_icmp .lt 13, 3) := by decide +kernel
theorem dJ2_getChar_3b067_18 : decode cJ2_getChar_3b067 18 = .ok (.new 52, 3) := by decide +kernel
theorem dJ2_getChar_3b067_21 : decode cJ2_getChar_3b067 21 = .ok (.dup, 1) := by decide +kernel
theorem dJ2_getChar_3b067_22 : decode cJ2_getChar_3b067 22 = .ok (.ldc 54, 2) := by decide +kernel
theorem dJ2_getChar_3b067_24 : decode cJ2_getChar_3b067 24 = .ok (.invokespecial 56, 3) := by decide +kernel
theorem dJ2_getChar_3b067_27 : decode cJ2_getChar_3b067 27 = .ok (.athrow, 1) := by decide +kernel
theorem dJ2_getChar_3b067_28 : decode cJ2_getChar_3b067 28 = .ok (.iload_n 1, 1) := by decide +kernel
theorem dJ2_getChar_3b067_29 : decode cJ2_getChar_3b067 29 = .ok (.iconst 1, 1) := by decide +kernel
theorem dJ2_getChar_3b067_30 : decode cJ2_getChar_3b067 30 = .ok (.ishl, 1) := by decide +kernel
theorem dJ2_getChar_3b067_31 : decode cJ2_getChar_3b067 31 = .ok (.istore_n 1, 1) := by decide +kernel
theorem dJ2_getChar_3b067_32 : decode cJ2_getChar_3b067 32 = .ok (.aload_n 0, 1) := by decide +kernel
theorem dJ2_getChar_3b067_33 : decode cJ2_getChar_3b067 33 = .ok (.iload_n 1, 1) := by decide +kernel
theorem dJ2_getChar_3b067_34 : decode cJ2_getChar_3b067 34 = .ok (.iinc 1 1, 3) := by decide +kernel
theorem dJ2_getChar_3b067_37 : decode cJ2_getChar_3b067 37 = .ok (.baload, 1) := by decide +kernel
theorem dJ2_getChar_3b067_38 : decode cJ2_getChar_3b067 38 = .ok (.sipush 255, 3) := by decide +kernel
theorem dJ2_getChar_3b067_41 : decode cJ2_getChar_3b067 41 = .ok (.iand, 1) := by decide +kernel
theorem dJ2_getChar_3b067_42 : decode cJ2_getChar_3b067 42 = .ok (.getstatic 59, 3) := by decide +kernel
theorem dJ2_getChar_3b067_45 : decode cJ2_getChar_3b067 45 = .ok (.ishl, 1) := by decide +kernel
theorem dJ2_getChar_3b067_46 : decode cJ2_getChar_3b067 46 = .ok (.aload_n 0, 1) := by decide +kernel
theorem dJ2_getChar_3b067_47 : decode cJ2_getChar_3b067 47 = .ok (.iload_n 1, 1) := by decide +kernel
theorem dJ2_getChar_3b067_48 : decode cJ2_getChar_3b067 48 = .ok (.baload, 1) := by decide +kernel
theorem dJ2_getChar_3b067_49 : decode cJ2_getChar_3b067 49 = .ok (.sipush 255, 3) := by decide +kernel
theorem dJ2_getChar_3b067_52 : decode cJ2_getChar_3b067 52 = .ok (.iand, 1) := by decide +kernel
theorem dJ2_getChar_3b067_53 : decode cJ2_getChar_3b067 53 = .ok (.getstatic 63, 3) := by decide +kernel
theorem dJ2_getChar_3b067_56 : decode cJ2_getChar_3b067 56 = .ok (.ishl, 1) := by decide +kernel
theorem dJ2_getChar_3b067_57 : decode cJ2_getChar_3b067 57 = .ok (.ior, 1) := by decide +kernel
theorem dJ2_getChar_3b067_58 : decode cJ2_getChar_3b067 58 = .ok (.i2c, 1) := by decide +kernel
theorem dJ2_getChar_3b067_59 : decode cJ2_getChar_3b067 59 = .ok (.ireturn, 1) := by decide +kernel
theorem dJ2_length_9d52b_0 : decode cJ2_length_9d52b 0 = .ok (.aload_n 0, 1) := by decide +kernel
theorem dJ2_length_9d52b_1 : decode cJ2_length_9d52b 1 = .ok (.arraylength, 1) := by decide +kernel
theorem dJ2_length_9d52b_2 : decode cJ2_length_9d52b 2 = .ok (.iconst 1, 1) := by decide +kernel
theorem dJ2_length_9d52b_3 : decode cJ2_length_9d52b 3 = .ok (.ishr, 1) := by decide +kernel
theorem dJ2_length_9d52b_4 : decode cJ2_length_9d52b 4 = .ok (.ireturn, 1) := by decide +kernel
theorem dJ2_charAt_3b067_0 : decode cJ2_charAt_3b067 0 = .ok (.iload_n 1, 1) := by decide +kernel
theorem dJ2_charAt_3b067_1 : decode cJ2_charAt_3b067 1 = .ok (.aload_n 0, 1) := by decide +kernel
theorem dJ2_charAt_3b067_2 : decode cJ2_charAt_3b067 2 = .ok (.invokestatic 67, 3) := by decide +kernel
theorem dJ2_charAt_3b067_5 : decode cJ2_charAt_3b067 5 = .ok (.aload_n 0, 1) := by decide +kernel
theorem dJ2_charAt_3b067_6 : decode cJ2_charAt_3b067 6 = .ok (.iload_n 1, 1) := by decide +kernel
theorem dJ2_charAt_3b067_7 : decode cJ2_charAt_3b067 7 = .ok (.invokestatic 71, 3) := by decide +kernel
theorem dJ2_charAt_3b067_10 : decode cJ2_charAt_3b067 10 = .ok (.ireturn, 1) := by decide +kernel
theorem dJ2_checkIndex_2214a_0 : decode cJ2_checkIndex_2214a 0 = .ok (.iload_n 0, 1) := by decide +kernel
theorem dJ2_checkIndex_2214a_1 : decode cJ2_checkIndex_2214a 1 = .ok (.aload_n 1, 1) := by decide +kernel
theorem dJ2_checkIndex_2214a_2 : decode cJ2_checkIndex_2214a 2 = .ok (.invokestatic 48, 3) := by decide +kernel
theorem dJ2_checkIndex_2214a_5 : decode cJ2_checkIndex_2214a 5 = .ok (.invokestatic 414, 3) := by decide +kernel
theorem dJ2_checkIndex_2214a_8 : decode cJ2_checkIndex_2214a 8 = .ok (.return_, 1) := by decide +kernel
theorem dJ3_checkIndex_8e157_0 : decode cJ3_checkIndex_8e157 0 = .ok (.iload_n 0, 1) := by decide +kernel
theorem dJ3_checkIndex_8e157_1 : decode cJ3_checkIndex_8e157 1 = .ok (.ifCond .lt 8, 3) := by decide +kernel
theorem dJ3_checkIndex_8e157_4 : decode cJ3_checkIndex_8e157 4 = .ok (.iload_n 0, 1) := by decide +kernel
theorem dJ3_checkIndex_8e157_5 : decode cJ3_checkIndex_8e157 5 = .ok (.iload_n 1, 1) := by decide +kernel
theorem dJ3_checkIndex_8e157_6 : decode cJ3_checkIndex_8e157 6 = .ok (.if_icmp .lt 10, 3) := by decide +kernel
theorem dJ3_checkIndex_8e157_9 : decode cJ3_checkIndex_8e157 9 = .ok (.aload_n 2, 1) := by decide +kernel
theorem dJ3_checkIndex_8e157_10 : decode cJ3_checkIndex_8e157 10 = .ok (.iload_n 0, 1) := by decide +kernel
theorem dJ3_checkIndex_8e157_11 : decode cJ3_checkIndex_8e157 11 = .ok (.iload_n 1, 1) := by decide +kernel
theorem dJ3_checkIndex_8e157_12 : decode cJ3_checkIndex_8e157 12 = .ok (.invokestatic 95, 3) := by decide +kernel
theorem dJ3_checkIndex_8e157_15 : decode cJ3_checkIndex_8e157 15 = .ok (.athrow, 1) := by decide +kernel
theorem dJ3_checkIndex_8e157_16 : decode cJ3_checkIndex_8e157 16 = .ok (.iload_n 0, 1) := by decide +kernel
theorem dJ3_checkIndex_8e157_17 : decode cJ3_checkIndex_8e157 17 = .ok (.ireturn, 1) := by decide +kernel
