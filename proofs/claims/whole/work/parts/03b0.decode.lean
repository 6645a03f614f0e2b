theorem dX2_init_0 : decode cX2_init 0 = .ok (.aload_n 0, 1) := by decide +kernel
theorem dX2_init_1 : decode cX2_init 1 = .ok (.invokespecial 3, 3) := by decide +kernel
theorem dX2_init_4 : decode cX2_init 4 = .ok (.aload_n 0, 1) := by decide +kernel
theorem dX2_init_5 : decode cX2_init 5 = .ok (.iconst 5, 1) := by decide +kernel
theorem dX2_init_6 : decode cX2_init 6 = .ok (.putfield 9, 3) := by decide +kernel
theorem dX2_init_9 : decode cX2_init 9 = .ok (.aload_n 0, 1) := by decide +kernel
theorem dX2_init_10 : decode cX2_init 10 = .ok (.iconst 0, 1) := by decide +kernel
theorem dX2_init_11 : decode cX2_init 11 = .ok (.putfield 15, 3) := by decide +kernel
theorem dX2_init_14 : decode cX2_init 14 = .ok (.aload_n 0, 1) := by decide +kernel
theorem dX2_init_15 : decode cX2_init 15 = .ok (.iconst 0, 1) := by decide +kernel
theorem dX2_init_16 : decode cX2_init 16 = .ok (.putfield 18, 3) := by decide +kernel
theorem dX2_init_19 : decode cX2_init 19 = .ok (.aload_n 0, 1) := by decide +kernel
theorem dX2_init_20 : decode cX2_init 20 = .ok (.iconst 0, 1) := by decide +kernel
theorem dX2_init_21 : decode cX2_init 21 = .ok (.putfield 21, 3) := by decide +kernel
theorem dX2_init_24 : decode cX2_init 24 = .ok (.aload_n 0, 1) := by decide +kernel
theorem dX2_init_25 : decode cX2_init 25 = .ok (.iconst 0, 1) := by decide +kernel
theorem dX2_init_26 : decode cX2_init 26 = .ok (.putfield 24, 3) := by decide +kernel
theorem dX2_init_29 : decode cX2_init 29 = .ok (.aload_n 0, 1) := by decide +kernel
theorem dX2_init_30 : decode cX2_init 30 = .ok (.iconst 0, 1) := by decide +kernel
theorem dX2_init_31 : decode cX2_init 31 = .ok (.putfield 27, 3) := by decide +kernel
theorem dX2_init_34 : decode cX2_init 34 = .ok (.aload_n 0, 1) := by decide +kernel
theorem dX2_init_35 : decode cX2_init 35 = .ok (.iconst 0, 1) := by decide +kernel
theorem dX2_init_36 : decode cX2_init 36 = .ok (.putfield 30, 3) := by decide +kernel
theorem dX2_init_39 : decode cX2_init 39 = .ok (.aload_n 0, 1) := by decide +kernel
theorem dX2_init_40 : decode cX2_init 40 = .ok (.iconst 4, 1) := by decide +kernel
theorem dX2_init_41 : decode cX2_init 41 = .ok (.newarray .int, 2) := by decide +kernel
theorem dX2_init_43 : decode cX2_init 43 = .ok (.dup, 1) := by decide +kernel
theorem dX2_init_44 : decode cX2_init 44 = .ok (.iconst 0, 1) := by decide +kernel
theorem dX2_init_45 : decode cX2_init 45 = .ok (.iconst 1, 1) := by decide +kernel
theorem dX2_init_46 : decode cX2_init 46 = .ok (.iastore, 1) := by decide +kernel
theorem dX2_init_47 : decode cX2_init 47 = .ok (.dup, 1) := by decide +kernel
theorem dX2_init_48 : decode cX2_init 48 = .ok (.iconst 1, 1) := by decide +kernel
theorem dX2_init_49 : decode cX2_init 49 = .ok (.iconst 3, 1) := by decide +kernel
theorem dX2_init_50 : decode cX2_init 50 = .ok (.iastore, 1) := by decide +kernel
theorem dX2_init_51 : decode cX2_init 51 = .ok (.dup, 1) := by decide +kernel
theorem dX2_init_52 : decode cX2_init 52 = .ok (.iconst 2, 1) := by decide +kernel
theorem dX2_init_53 : decode cX2_init 53 = .ok (.iconst 2, 1) := by decide +kernel
theorem dX2_init_54 : decode cX2_init 54 = .ok (.iastore, 1) := by decide +kernel
theorem dX2_init_55 : decode cX2_init 55 = .ok (.dup, 1) := by decide +kernel
theorem dX2_init_56 : decode cX2_init 56 = .ok (.iconst 3, 1) := by decide +kernel
theorem dX2_init_57 : decode cX2_init 57 = .ok (.iconst 2, 1) := by decide +kernel
theorem dX2_init_58 : decode cX2_init 58 = .ok (.iastore, 1) := by decide +kernel
theorem dX2_init_59 : decode cX2_init 59 = .ok (.putfield 33, 3) := by decide +kernel
theorem dX2_init_62 : decode cX2_init 62 = .ok (.aload_n 0, 1) := by decide +kernel
theorem dX2_init_63 : decode cX2_init 63 = .ok (.new 37, 3) := by decide +kernel
theorem dX2_init_66 : decode cX2_init 66 = .ok (.dup, 1) := by decide +kernel
theorem dX2_init_67 : decode cX2_init 67 = .ok (.invokespecial 39, 3) := by decide +kernel
theorem dX2_init_70 : decode cX2_init 70 = .ok (.putfield 40, 3) := by decide +kernel
theorem dX2_init_73 : decode cX2_init 73 = .ok (.aload_n 0, 1) := by decide +kernel
theorem dX2_init_74 : decode cX2_init 74 = .ok (.new 44, 3) := by decide +kernel
theorem dX2_init_77 : decode cX2_init 77 = .ok (.dup, 1) := by decide +kernel
theorem dX2_init_78 : decode cX2_init 78 = .ok (.invokespecial 46, 3) := by decide +kernel
theorem dX2_init_81 : decode cX2_init 81 = .ok (.putfield 47, 3) := by decide +kernel
theorem dX2_init_84 : decode cX2_init 84 = .ok (.aload_n 0, 1) := by decide +kernel
theorem dX2_init_85 : decode cX2_init 85 = .ok (.new 51, 3) := by decide +kernel
theorem dX2_init_88 : decode cX2_init 88 = .ok (.dup, 1) := by decide +kernel
theorem dX2_init_89 : decode cX2_init 89 = .ok (.invokespecial 53, 3) := by decide +kernel
theorem dX2_init_92 : decode cX2_init 92 = .ok (.putfield 54, 3) := by decide +kernel
theorem dX2_init_95 : decode cX2_init 95 = .ok (.aload_n 0, 1) := by decide +kernel
theorem dX2_init_96 : decode cX2_init 96 = .ok (.iconst 3, 1) := by decide +kernel
theorem dX2_init_97 : decode cX2_init 97 = .ok (.anewarray 37, 3) := by decide +kernel
theorem dX2_init_100 : decode cX2_init 100 = .ok (.putfield 58, 3) := by decide +kernel
theorem dX2_init_103 : decode cX2_init 103 = .ok (.iconst 0, 1) := by decide +kernel
theorem dX2_init_104 : decode cX2_init 104 = .ok (.istore_n 1, 1) := by decide +kernel
theorem dX2_init_105 : decode cX2_init 105 = .ok (.iload_n 1, 1) := by decide +kernel
theorem dX2_init_106 : decode cX2_init 106 = .ok (.iconst 3, 1) := by decide +kernel
theorem dX2_init_107 : decode cX2_init 107 = .ok (.if_icmp .ge 22, 3) := by decide +kernel
theorem dX2_init_110 : decode cX2_init 110 = .ok (.aload_n 0, 1) := by decide +kernel
theorem dX2_init_111 : decode cX2_init 111 = .ok (.getfield 58, 3) := by decide +kernel
theorem dX2_init_114 : decode cX2_init 114 = .ok (.iload_n 1, 1) := by decide +kernel
theorem dX2_init_115 : decode cX2_init 115 = .ok (.new 37, 3) := by decide +kernel
theorem dX2_init_118 : decode cX2_init 118 = .ok (.dup, 1) := by decide +kernel
theorem dX2_init_119 : decode cX2_init 119 = .ok (.invokespecial 39, 3) := by decide +kernel
theorem dX2_init_122 : decode cX2_init 122 = .ok (.aastore, 1) := by decide +kernel
theorem dX2_init_123 : decode cX2_init 123 = .ok (.iinc 1 1, 3) := by decide +kernel
theorem dX2_init_126 : decode cX2_init 126 = .ok (.goto (-21), 3) := by decide +kernel
theorem dX2_init_129 : decode cX2_init 129 = .ok (.return_, 1) := by decide +kernel
theorem dX2_become_0 : decode cX2_become 0 = .ok (.aload_n 0, 1) := by decide +kernel
theorem dX2_become_1 : decode cX2_become 1 = .ok (.aload_n 1, 1) := by decide +kernel
theorem dX2_become_2 : decode cX2_become 2 = .ok (.getfield 9, 3) := by decide +kernel
theorem dX2_become_5 : decode cX2_become 5 = .ok (.putfield 9, 3) := by decide +kernel
theorem dX2_become_8 : decode cX2_become 8 = .ok (.aload_n 0, 1) := by decide +kernel
theorem dX2_become_9 : decode cX2_become 9 = .ok (.aload_n 1, 1) := by decide +kernel
theorem dX2_become_10 : decode cX2_become 10 = .ok (.getfield 15, 3) := by decide +kernel
theorem dX2_become_13 : decode cX2_become 13 = .ok (.putfield 15, 3) := by decide +kernel
theorem dX2_become_16 : decode cX2_become 16 = .ok (.aload_n 0, 1) := by decide +kernel
theorem dX2_become_17 : decode cX2_become 17 = .ok (.aload_n 1, 1) := by decide +kernel
theorem dX2_become_18 : decode cX2_become 18 = .ok (.getfield 18, 3) := by decide +kernel
theorem dX2_become_21 : decode cX2_become 21 = .ok (.putfield 18, 3) := by decide +kernel
theorem dX2_become_24 : decode cX2_become 24 = .ok (.aload_n 0, 1) := by decide +kernel
theorem dX2_become_25 : decode cX2_become 25 = .ok (.aload_n 1, 1) := by decide +kernel
theorem dX2_become_26 : decode cX2_become 26 = .ok (.getfield 21, 3) := by decide +kernel
theorem dX2_become_29 : decode cX2_become 29 = .ok (.putfield 21, 3) := by decide +kernel
theorem dX2_become_32 : decode cX2_become 32 = .ok (.aload_n 0, 1) := by decide +kernel
theorem dX2_become_33 : decode cX2_become 33 = .ok (.aload_n 1, 1) := by decide +kernel
theorem dX2_become_34 : decode cX2_become 34 = .ok (.getfield 24, 3) := by decide +kernel
theorem dX2_become_37 : decode cX2_become 37 = .ok (.putfield 24, 3) := by decide +kernel
theorem dX2_become_40 : decode cX2_become 40 = .ok (.aload_n 0, 1) := by decide +kernel
theorem dX2_become_41 : decode cX2_become 41 = .ok (.aload_n 1, 1) := by decide +kernel
theorem dX2_become_42 : decode cX2_become 42 = .ok (.getfield 27, 3) := by decide +kernel
theorem dX2_become_45 : decode cX2_become 45 = .ok (.putfield 27, 3) := by decide +kernel
theorem dX2_become_48 : decode cX2_become 48 = .ok (.aload_n 0, 1) := by decide +kernel
theorem dX2_become_49 : decode cX2_become 49 = .ok (.aload_n 1, 1) := by decide +kernel
theorem dX2_become_50 : decode cX2_become 50 = .ok (.getfield 30, 3) := by decide +kernel
theorem dX2_become_53 : decode cX2_become 53 = .ok (.putfield 30, 3) := by decide +kernel
theorem dX2_become_56 : decode cX2_become 56 = .ok (.iconst 0, 1) := by decide +kernel
theorem dX2_become_57 : decode cX2_become 57 = .ok (.istore_n 2, 1) := by decide +kernel
theorem dX2_become_58 : decode cX2_become 58 = .ok (.iload_n 2, 1) := by decide +kernel
theorem dX2_become_59 : decode cX2_become 59 = .ok (.iconst 4, 1) := by decide +kernel
theorem dX2_become_60 : decode cX2_become 60 = .ok (.if_icmp .ge 21, 3) := by decide +kernel
theorem dX2_become_63 : decode cX2_become 63 = .ok (.aload_n 0, 1) := by decide +kernel
theorem dX2_become_64 : decode cX2_become 64 = .ok (.getfield 33, 3) := by decide +kernel
theorem dX2_become_67 : decode cX2_become 67 = .ok (.iload_n 2, 1) := by decide +kernel
theorem dX2_become_68 : decode cX2_become 68 = .ok (.aload_n 1, 1) := by decide +kernel
theorem dX2_become_69 : decode cX2_become 69 = .ok (.getfield 33, 3) := by decide +kernel
theorem dX2_become_72 : decode cX2_become 72 = .ok (.iload_n 2, 1) := by decide +kernel
theorem dX2_become_73 : decode cX2_become 73 = .ok (.iaload, 1) := by decide +kernel
theorem dX2_become_74 : decode cX2_become 74 = .ok (.iastore, 1) := by decide +kernel
theorem dX2_become_75 : decode cX2_become 75 = .ok (.iinc 2 1, 3) := by decide +kernel
theorem dX2_become_78 : decode cX2_become 78 = .ok (.goto (-20), 3) := by decide +kernel
theorem dX2_become_81 : decode cX2_become 81 = .ok (.aload_n 0, 1) := by decide +kernel
theorem dX2_become_82 : decode cX2_become 82 = .ok (.getfield 40, 3) := by decide +kernel
theorem dX2_become_85 : decode cX2_become 85 = .ok (.aload_n 1, 1) := by decide +kernel
theorem dX2_become_86 : decode cX2_become 86 = .ok (.getfield 40, 3) := by decide +kernel
theorem dX2_become_89 : decode cX2_become 89 = .ok (.invokevirtual 62, 3) := by decide +kernel
theorem dX2_become_92 : decode cX2_become 92 = .ok (.aload_n 0, 1) := by decide +kernel
theorem dX2_become_93 : decode cX2_become 93 = .ok (.getfield 47, 3) := by decide +kernel
theorem dX2_become_96 : decode cX2_become 96 = .ok (.aload_n 1, 1) := by decide +kernel
theorem dX2_become_97 : decode cX2_become 97 = .ok (.getfield 47, 3) := by decide +kernel
theorem dX2_become_100 : decode cX2_become 100 = .ok (.invokevirtual 66, 3) := by decide +kernel
theorem dX2_become_103 : decode cX2_become 103 = .ok (.aload_n 0, 1) := by decide +kernel
theorem dX2_become_104 : decode cX2_become 104 = .ok (.getfield 54, 3) := by decide +kernel
theorem dX2_become_107 : decode cX2_become 107 = .ok (.aload_n 1, 1) := by decide +kernel
theorem dX2_become_108 : decode cX2_become 108 = .ok (.getfield 54, 3) := by decide +kernel
theorem dX2_become_111 : decode cX2_become 111 = .ok (.invokevirtual 69, 3) := by decide +kernel
theorem dX2_become_114 : decode cX2_become 114 = .ok (.iconst 0, 1) := by decide +kernel
theorem dX2_become_115 : decode cX2_become 115 = .ok (.istore_n 2, 1) := by decide +kernel
theorem dX2_become_116 : decode cX2_become 116 = .ok (.iload_n 2, 1) := by decide +kernel
theorem dX2_become_117 : decode cX2_become 117 = .ok (.iconst 3, 1) := by decide +kernel
theorem dX2_become_118 : decode cX2_become 118 = .ok (.if_icmp .ge 24, 3) := by decide +kernel
theorem dX2_become_121 : decode cX2_become 121 = .ok (.aload_n 0, 1) := by decide +kernel
theorem dX2_become_122 : decode cX2_become 122 = .ok (.getfield 58, 3) := by decide +kernel
theorem dX2_become_125 : decode cX2_become 125 = .ok (.iload_n 2, 1) := by decide +kernel
theorem dX2_become_126 : decode cX2_become 126 = .ok (.aaload, 1) := by decide +kernel
theorem dX2_become_127 : decode cX2_become 127 = .ok (.aload_n 1, 1) := by decide +kernel
theorem dX2_become_128 : decode cX2_become 128 = .ok (.getfield 58, 3) := by decide +kernel
theorem dX2_become_131 : decode cX2_become 131 = .ok (.iload_n 2, 1) := by decide +kernel
theorem dX2_become_132 : decode cX2_become 132 = .ok (.aaload, 1) := by decide +kernel
theorem dX2_become_133 : decode cX2_become 133 = .ok (.invokevirtual 62, 3) := by decide +kernel
theorem dX2_become_136 : decode cX2_become 136 = .ok (.iinc 2 1, 3) := by decide +kernel
theorem dX2_become_139 : decode cX2_become 139 = .ok (.goto (-23), 3) := by decide +kernel
theorem dX2_become_142 : decode cX2_become 142 = .ok (.return_, 1) := by decide +kernel
theorem dX2_perform_0 : decode cX2_perform 0 = .ok (.iload_n 1, 1) := by decide +kernel
theorem dX2_perform_1 : decode cX2_perform 1 = .ok (.tableswitch 97 0 8 #[51, 51, 51, 61, 68, 75, 81, 86, 91], 51) := by decide +kernel
theorem dX2_perform_52 : decode cX2_perform 52 = .ok (.aload_n 0, 1) := by decide +kernel
theorem dX2_perform_53 : decode cX2_perform 53 = .ok (.iload_n 1, 1) := by decide +kernel
theorem dX2_perform_54 : decode cX2_perform 54 = .ok (.iload_n 2, 1) := by decide +kernel
theorem dX2_perform_55 : decode cX2_perform 55 = .ok (.iload_n 3, 1) := by decide +kernel
theorem dX2_perform_56 : decode cX2_perform 56 = .ok (.iload 4, 2) := by decide +kernel
theorem dX2_perform_58 : decode cX2_perform 58 = .ok (.invokevirtual 72, 3) := by decide +kernel
theorem dX2_perform_61 : decode cX2_perform 61 = .ok (.ireturn, 1) := by decide +kernel
theorem dX2_perform_62 : decode cX2_perform 62 = .ok (.aload_n 0, 1) := by decide +kernel
theorem dX2_perform_63 : decode cX2_perform 63 = .ok (.iload_n 2, 1) := by decide +kernel
theorem dX2_perform_64 : decode cX2_perform 64 = .ok (.iload_n 3, 1) := by decide +kernel
theorem dX2_perform_65 : decode cX2_perform 65 = .ok (.invokevirtual 76, 3) := by decide +kernel
theorem dX2_perform_68 : decode cX2_perform 68 = .ok (.ireturn, 1) := by decide +kernel
theorem dX2_perform_69 : decode cX2_perform 69 = .ok (.aload_n 0, 1) := by decide +kernel
theorem dX2_perform_70 : decode cX2_perform 70 = .ok (.iload_n 2, 1) := by decide +kernel
theorem dX2_perform_71 : decode cX2_perform 71 = .ok (.iload_n 3, 1) := by decide +kernel
theorem dX2_perform_72 : decode cX2_perform 72 = .ok (.invokevirtual 80, 3) := by decide +kernel
theorem dX2_perform_75 : decode cX2_perform 75 = .ok (.ireturn, 1) := by decide +kernel
theorem dX2_perform_76 : decode cX2_perform 76 = .ok (.aload_n 0, 1) := by decide +kernel
theorem dX2_perform_77 : decode cX2_perform 77 = .ok (.iload_n 2, 1) := by decide +kernel
theorem dX2_perform_78 : decode cX2_perform 78 = .ok (.invokevirtual 83, 3) := by decide +kernel
theorem dX2_perform_81 : decode cX2_perform 81 = .ok (.ireturn, 1) := by decide +kernel
theorem dX2_perform_82 : decode cX2_perform 82 = .ok (.aload_n 0, 1) := by decide +kernel
theorem dX2_perform_83 : decode cX2_perform 83 = .ok (.invokevirtual 87, 3) := by decide +kernel
theorem dX2_perform_86 : decode cX2_perform 86 = .ok (.ireturn, 1) := by decide +kernel
theorem dX2_perform_87 : decode cX2_perform 87 = .ok (.aload_n 0, 1) := by decide +kernel
theorem dX2_perform_88 : decode cX2_perform 88 = .ok (.invokevirtual 91, 3) := by decide +kernel
theorem dX2_perform_91 : decode cX2_perform 91 = .ok (.ireturn, 1) := by decide +kernel
theorem dX2_perform_92 : decode cX2_perform 92 = .ok (.aload_n 0, 1) := by decide +kernel
theorem dX2_perform_93 : decode cX2_perform 93 = .ok (.iload_n 2, 1) := by decide +kernel
theorem dX2_perform_94 : decode cX2_perform 94 = .ok (.invokevirtual 94, 3) := by decide +kernel
theorem dX2_perform_97 : decode cX2_perform 97 = .ok (.ireturn, 1) := by decide +kernel
theorem dX2_perform_98 : decode cX2_perform 98 = .ok (.iconst (-1), 1) := by decide +kernel
theorem dX2_perform_99 : decode cX2_perform 99 = .ok (.ireturn, 1) := by decide +kernel
theorem dX2_empty_0 : decode cX2_empty 0 = .ok (.iload_n 1, 1) := by decide +kernel
theorem dX2_empty_1 : decode cX2_empty 1 = .ok (.iconst 3, 1) := by decide +kernel
theorem dX2_empty_2 : decode cX2_empty 2 = .ok (.bipush 7, 2) := by decide +kernel
theorem dX2_empty_4 : decode cX2_empty 4 = .ok (.invokestatic 97, 3) := by decide +kernel
theorem dX2_empty_7 : decode cX2_empty 7 = .ok (.ifCond .ne 5, 3) := by decide +kernel
theorem dX2_empty_10 : decode cX2_empty 10 = .ok (.iconst (-1), 1) := by decide +kernel
theorem dX2_empty_11 : decode cX2_empty 11 = .ok (.ireturn, 1) := by decide +kernel
theorem dX2_empty_12 : decode cX2_empty 12 = .ok (.aload_n 0, 1) := by decide +kernel
theorem dX2_empty_13 : decode cX2_empty 13 = .ok (.getfield 9, 3) := by decide +kernel
theorem dX2_empty_16 : decode cX2_empty 16 = .ok (.istore_n 2, 1) := by decide +kernel
theorem dX2_empty_17 : decode cX2_empty 17 = .ok (.aload_n 0, 1) := by decide +kernel
theorem dX2_empty_18 : decode cX2_empty 18 = .ok (.iload_n 1, 1) := by decide +kernel
theorem dX2_empty_19 : decode cX2_empty 19 = .ok (.putfield 9, 3) := by decide +kernel
theorem dX2_empty_22 : decode cX2_empty 22 = .ok (.aload_n 0, 1) := by decide +kernel
theorem dX2_empty_23 : decode cX2_empty 23 = .ok (.iconst 0, 1) := by decide +kernel
theorem dX2_empty_24 : decode cX2_empty 24 = .ok (.putfield 15, 3) := by decide +kernel
theorem dX2_empty_27 : decode cX2_empty 27 = .ok (.aload_n 0, 1) := by decide +kernel
theorem dX2_empty_28 : decode cX2_empty 28 = .ok (.iconst 0, 1) := by decide +kernel
theorem dX2_empty_29 : decode cX2_empty 29 = .ok (.putfield 18, 3) := by decide +kernel
theorem dX2_empty_32 : decode cX2_empty 32 = .ok (.aload_n 0, 1) := by decide +kernel
theorem dX2_empty_33 : decode cX2_empty 33 = .ok (.iconst 0, 1) := by decide +kernel
theorem dX2_empty_34 : decode cX2_empty 34 = .ok (.putfield 21, 3) := by decide +kernel
theorem dX2_empty_37 : decode cX2_empty 37 = .ok (.aload_n 0, 1) := by decide +kernel
theorem dX2_empty_38 : decode cX2_empty 38 = .ok (.iconst 0, 1) := by decide +kernel
theorem dX2_empty_39 : decode cX2_empty 39 = .ok (.putfield 24, 3) := by decide +kernel
theorem dX2_empty_42 : decode cX2_empty 42 = .ok (.aload_n 0, 1) := by decide +kernel
theorem dX2_empty_43 : decode cX2_empty 43 = .ok (.iconst 0, 1) := by decide +kernel
theorem dX2_empty_44 : decode cX2_empty 44 = .ok (.putfield 30, 3) := by decide +kernel
theorem dX2_empty_47 : decode cX2_empty 47 = .ok (.aload_n 0, 1) := by decide +kernel
theorem dX2_empty_48 : decode cX2_empty 48 = .ok (.getfield 54, 3) := by decide +kernel
theorem dX2_empty_51 : decode cX2_empty 51 = .ok (.iconst 0, 1) := by decide +kernel
theorem dX2_empty_52 : decode cX2_empty 52 = .ok (.putfield 101, 3) := by decide +kernel
theorem dX2_empty_55 : decode cX2_empty 55 = .ok (.aload_n 0, 1) := by decide +kernel
theorem dX2_empty_56 : decode cX2_empty 56 = .ok (.getfield 40, 3) := by decide +kernel
theorem dX2_empty_59 : decode cX2_empty 59 = .ok (.invokevirtual 104, 3) := by decide +kernel
theorem dX2_empty_62 : decode cX2_empty 62 = .ok (.iload_n 2, 1) := by decide +kernel
theorem dX2_empty_63 : decode cX2_empty 63 = .ok (.ireturn, 1) := by decide +kernel
theorem dX2_putValue_0 : decode cX2_putValue 0 = .ok (.iload_n 1, 1) := by decide +kernel
theorem dX2_putValue_1 : decode cX2_putValue 1 = .ok (.invokestatic 107, 3) := by decide +kernel
theorem dX2_putValue_4 : decode cX2_putValue 4 = .ok (.ifCond .eq 14, 3) := by decide +kernel
theorem dX2_putValue_7 : decode cX2_putValue 7 = .ok (.iload_n 2, 1) := by decide +kernel
theorem dX2_putValue_8 : decode cX2_putValue 8 = .ok (.iconst 0, 1) := by decide +kernel
theorem dX2_putValue_9 : decode cX2_putValue 9 = .ok (.sipush 9999, 3) := by decide +kernel
theorem dX2_putValue_12 : decode cX2_putValue 12 = .ok (.invokestatic 97, 3) := by decide +kernel
theorem dX2_putValue_15 : decode cX2_putValue 15 = .ok (.ifCond .ne 5, 3) := by decide +kernel
theorem dX2_putValue_18 : decode cX2_putValue 18 = .ok (.iconst (-1), 1) := by decide +kernel
theorem dX2_putValue_19 : decode cX2_putValue 19 = .ok (.ireturn, 1) := by decide +kernel
theorem dX2_putValue_20 : decode cX2_putValue 20 = .ok (.aload_n 0, 1) := by decide +kernel
theorem dX2_putValue_21 : decode cX2_putValue 21 = .ok (.dup, 1) := by decide +kernel
theorem dX2_putValue_22 : decode cX2_putValue 22 = .ok (.getfield 27, 3) := by decide +kernel
theorem dX2_putValue_25 : decode cX2_putValue 25 = .ok (.iconst 1, 1) := by decide +kernel
theorem dX2_putValue_26 : decode cX2_putValue 26 = .ok (.iadd, 1) := by decide +kernel
theorem dX2_putValue_27 : decode cX2_putValue 27 = .ok (.putfield 27, 3) := by decide +kernel
theorem dX2_putValue_30 : decode cX2_putValue 30 = .ok (.aload_n 0, 1) := by decide +kernel
theorem dX2_putValue_31 : decode cX2_putValue 31 = .ok (.getfield 40, 3) := by decide +kernel
theorem dX2_putValue_34 : decode cX2_putValue 34 = .ok (.getfield 111, 3) := by decide +kernel
theorem dX2_putValue_37 : decode cX2_putValue 37 = .ok (.iload_n 1, 1) := by decide +kernel
theorem dX2_putValue_38 : decode cX2_putValue 38 = .ok (.iconst (-1), 1) := by decide +kernel
theorem dX2_putValue_39 : decode cX2_putValue 39 = .ok (.iastore, 1) := by decide +kernel
theorem dX2_putValue_40 : decode cX2_putValue 40 = .ok (.aload_n 0, 1) := by decide +kernel
theorem dX2_putValue_41 : decode cX2_putValue 41 = .ok (.iload_n 1, 1) := by decide +kernel
theorem dX2_putValue_42 : decode cX2_putValue 42 = .ok (.iload_n 2, 1) := by decide +kernel
theorem dX2_putValue_43 : decode cX2_putValue 43 = .ok (.aload_n 0, 1) := by decide +kernel
theorem dX2_putValue_44 : decode cX2_putValue 44 = .ok (.getfield 15, 3) := by decide +kernel
theorem dX2_putValue_47 : decode cX2_putValue 47 = .ok (.iconst (-1), 1) := by decide +kernel
theorem dX2_putValue_48 : decode cX2_putValue 48 = .ok (.iconst (-1), 1) := by decide +kernel
theorem dX2_putValue_49 : decode cX2_putValue 49 = .ok (.invokevirtual 114, 3) := by decide +kernel
theorem dX2_putValue_52 : decode cX2_putValue 52 = .ok (.ireturn, 1) := by decide +kernel
theorem dX2_copyName_0 : decode cX2_copyName 0 = .ok (.iload_n 1, 1) := by decide +kernel
theorem dX2_copyName_1 : decode cX2_copyName 1 = .ok (.invokestatic 107, 3) := by decide +kernel
theorem dX2_copyName_4 : decode cX2_copyName 4 = .ok (.ifCond .eq 15, 3) := by decide +kernel
theorem dX2_copyName_7 : decode cX2_copyName 7 = .ok (.iload_n 2, 1) := by decide +kernel
theorem dX2_copyName_8 : decode cX2_copyName 8 = .ok (.invokestatic 107, 3) := by decide +kernel
theorem dX2_copyName_11 : decode cX2_copyName 11 = .ok (.ifCond .eq 8, 3) := by decide +kernel
theorem dX2_copyName_14 : decode cX2_copyName 14 = .ok (.iload_n 1, 1) := by decide +kernel
theorem dX2_copyName_15 : decode cX2_copyName 15 = .ok (.iload_n 2, 1) := by decide +kernel
theorem dX2_copyName_16 : decode cX2_copyName 16 = .ok (.if_icmp .ne 5, 3) := by decide +kernel
theorem dX2_copyName_19 : decode cX2_copyName 19 = .ok (.iconst (-1), 1) := by decide +kernel
theorem dX2_copyName_20 : decode cX2_copyName 20 = .ok (.ireturn, 1) := by decide +kernel
theorem dX2_copyName_21 : decode cX2_copyName 21 = .ok (.aload_n 0, 1) := by decide +kernel
theorem dX2_copyName_22 : decode cX2_copyName 22 = .ok (.dup, 1) := by decide +kernel
theorem dX2_copyName_23 : decode cX2_copyName 23 = .ok (.getfield 27, 3) := by decide +kernel
theorem dX2_copyName_26 : decode cX2_copyName 26 = .ok (.iconst 1, 1) := by decide +kernel
theorem dX2_copyName_27 : decode cX2_copyName 27 = .ok (.iadd, 1) := by decide +kernel
theorem dX2_copyName_28 : decode cX2_copyName 28 = .ok (.putfield 27, 3) := by decide +kernel
theorem dX2_copyName_31 : decode cX2_copyName 31 = .ok (.aload_n 0, 1) := by decide +kernel
theorem dX2_copyName_32 : decode cX2_copyName 32 = .ok (.iload_n 2, 1) := by decide +kernel
theorem dX2_copyName_33 : decode cX2_copyName 33 = .ok (.iload_n 2, 1) := by decide +kernel
theorem dX2_copyName_34 : decode cX2_copyName 34 = .ok (.iload_n 2, 1) := by decide +kernel
theorem dX2_copyName_35 : decode cX2_copyName 35 = .ok (.invokevirtual 118, 3) := by decide +kernel
theorem dX2_copyName_38 : decode cX2_copyName 38 = .ok (.ifCond .ne 6, 3) := by decide +kernel
theorem dX2_copyName_41 : decode cX2_copyName 41 = .ok (.bipush (-2), 2) := by decide +kernel
theorem dX2_copyName_43 : decode cX2_copyName 43 = .ok (.ireturn, 1) := by decide +kernel
theorem dX2_copyName_44 : decode cX2_copyName 44 = .ok (.aload_n 0, 1) := by decide +kernel
theorem dX2_copyName_45 : decode cX2_copyName 45 = .ok (.getfield 40, 3) := by decide +kernel
theorem dX2_copyName_48 : decode cX2_copyName 48 = .ok (.getfield 111, 3) := by decide +kernel
theorem dX2_copyName_51 : decode cX2_copyName 51 = .ok (.iload_n 2, 1) := by decide +kernel
theorem dX2_copyName_52 : decode cX2_copyName 52 = .ok (.iaload, 1) := by decide +kernel
theorem dX2_copyName_53 : decode cX2_copyName 53 = .ok (.istore_n 3, 1) := by decide +kernel
theorem dX2_copyName_54 : decode cX2_copyName 54 = .ok (.aload_n 0, 1) := by decide +kernel
theorem dX2_copyName_55 : decode cX2_copyName 55 = .ok (.getfield 40, 3) := by decide +kernel
theorem dX2_copyName_58 : decode cX2_copyName 58 = .ok (.getfield 111, 3) := by decide +kernel
theorem dX2_copyName_61 : decode cX2_copyName 61 = .ok (.iload_n 1, 1) := by decide +kernel
theorem dX2_copyName_62 : decode cX2_copyName 62 = .ok (.iload_n 3, 1) := by decide +kernel
theorem dX2_copyName_63 : decode cX2_copyName 63 = .ok (.iastore, 1) := by decide +kernel
theorem dX2_copyName_64 : decode cX2_copyName 64 = .ok (.aload_n 0, 1) := by decide +kernel
theorem dX2_copyName_65 : decode cX2_copyName 65 = .ok (.getfield 47, 3) := by decide +kernel
theorem dX2_copyName_68 : decode cX2_copyName 68 = .ok (.iload_n 3, 1) := by decide +kernel
theorem dX2_copyName_69 : decode cX2_copyName 69 = .ok (.aload_n 0, 1) := by decide +kernel
theorem dX2_copyName_70 : decode cX2_copyName 70 = .ok (.getfield 27, 3) := by decide +kernel
theorem dX2_copyName_73 : decode cX2_copyName 73 = .ok (.invokevirtual 121, 3) := by decide +kernel
theorem dX2_copyName_76 : decode cX2_copyName 76 = .ok (.iload_n 3, 1) := by decide +kernel
theorem dX2_copyName_77 : decode cX2_copyName 77 = .ok (.ireturn, 1) := by decide +kernel
theorem dX2_giveOrder_0 : decode cX2_giveOrder 0 = .ok (.iload_n 1, 1) := by decide +kernel
theorem dX2_giveOrder_1 : decode cX2_giveOrder 1 = .ok (.iconst 0, 1) := by decide +kernel
theorem dX2_giveOrder_2 : decode cX2_giveOrder 2 = .ok (.iconst 2, 1) := by decide +kernel
theorem dX2_giveOrder_3 : decode cX2_giveOrder 3 = .ok (.invokestatic 97, 3) := by decide +kernel
theorem dX2_giveOrder_6 : decode cX2_giveOrder 6 = .ok (.ifCond .eq 25, 3) := by decide +kernel
theorem dX2_giveOrder_9 : decode cX2_giveOrder 9 = .ok (.iload_n 2, 1) := by decide +kernel
theorem dX2_giveOrder_10 : decode cX2_giveOrder 10 = .ok (.invokestatic 107, 3) := by decide +kernel
theorem dX2_giveOrder_13 : decode cX2_giveOrder 13 = .ok (.ifCond .eq 18, 3) := by decide +kernel
theorem dX2_giveOrder_16 : decode cX2_giveOrder 16 = .ok (.iload_n 3, 1) := by decide +kernel
theorem dX2_giveOrder_17 : decode cX2_giveOrder 17 = .ok (.invokestatic 107, 3) := by decide +kernel
theorem dX2_giveOrder_20 : decode cX2_giveOrder 20 = .ok (.ifCond .eq 11, 3) := by decide +kernel
theorem dX2_giveOrder_23 : decode cX2_giveOrder 23 = .ok (.iload 4, 2) := by decide +kernel
theorem dX2_giveOrder_25 : decode cX2_giveOrder 25 = .ok (.invokestatic 107, 3) := by decide +kernel
theorem dX2_giveOrder_28 : decode cX2_giveOrder 28 = .ok (.ifCond .ne 5, 3) := by decide +kernel
theorem dX2_giveOrder_31 : decode cX2_giveOrder 31 = .ok (.iconst (-1), 1) := by decide +kernel
theorem dX2_giveOrder_32 : decode cX2_giveOrder 32 = .ok (.ireturn, 1) := by decide +kernel
theorem dX2_giveOrder_33 : decode cX2_giveOrder 33 = .ok (.aload_n 0, 1) := by decide +kernel
theorem dX2_giveOrder_34 : decode cX2_giveOrder 34 = .ok (.dup, 1) := by decide +kernel
theorem dX2_giveOrder_35 : decode cX2_giveOrder 35 = .ok (.getfield 27, 3) := by decide +kernel
theorem dX2_giveOrder_38 : decode cX2_giveOrder 38 = .ok (.iconst 1, 1) := by decide +kernel
theorem dX2_giveOrder_39 : decode cX2_giveOrder 39 = .ok (.iadd, 1) := by decide +kernel
theorem dX2_giveOrder_40 : decode cX2_giveOrder 40 = .ok (.putfield 27, 3) := by decide +kernel
theorem dX2_giveOrder_43 : decode cX2_giveOrder 43 = .ok (.iload_n 2, 1) := by decide +kernel
theorem dX2_giveOrder_44 : decode cX2_giveOrder 44 = .ok (.iload_n 3, 1) := by decide +kernel
theorem dX2_giveOrder_45 : decode cX2_giveOrder 45 = .ok (.if_icmp .eq 19, 3) := by decide +kernel
theorem dX2_giveOrder_48 : decode cX2_giveOrder 48 = .ok (.iload_n 2, 1) := by decide +kernel
theorem dX2_giveOrder_49 : decode cX2_giveOrder 49 = .ok (.iload 4, 2) := by decide +kernel
theorem dX2_giveOrder_51 : decode cX2_giveOrder 51 = .ok (.if_icmp .eq 13, 3) := by decide +kernel
theorem dX2_giveOrder_54 : decode cX2_giveOrder 54 = .ok (.aload_n 0, 1) := by decide +kernel
theorem dX2_giveOrder_55 : decode cX2_giveOrder 55 = .ok (.getfield 40, 3) := by decide +kernel
theorem dX2_giveOrder_58 : decode cX2_giveOrder 58 = .ok (.getfield 111, 3) := by decide +kernel
theorem dX2_giveOrder_61 : decode cX2_giveOrder 61 = .ok (.iload_n 2, 1) := by decide +kernel
theorem dX2_giveOrder_62 : decode cX2_giveOrder 62 = .ok (.iconst (-1), 1) := by decide +kernel
theorem dX2_giveOrder_63 : decode cX2_giveOrder 63 = .ok (.iastore, 1) := by decide +kernel
theorem dX2_giveOrder_64 : decode cX2_giveOrder 64 = .ok (.aload_n 0, 1) := by decide +kernel
theorem dX2_giveOrder_65 : decode cX2_giveOrder 65 = .ok (.iload_n 3, 1) := by decide +kernel
theorem dX2_giveOrder_66 : decode cX2_giveOrder 66 = .ok (.iload_n 3, 1) := by decide +kernel
theorem dX2_giveOrder_67 : decode cX2_giveOrder 67 = .ok (.iload 4, 2) := by decide +kernel
theorem dX2_giveOrder_69 : decode cX2_giveOrder 69 = .ok (.invokevirtual 118, 3) := by decide +kernel
theorem dX2_giveOrder_72 : decode cX2_giveOrder 72 = .ok (.ifCond .eq 15, 3) := by decide +kernel
theorem dX2_giveOrder_75 : decode cX2_giveOrder 75 = .ok (.aload_n 0, 1) := by decide +kernel
theorem dX2_giveOrder_76 : decode cX2_giveOrder 76 = .ok (.iload 4, 2) := by decide +kernel
theorem dX2_giveOrder_78 : decode cX2_giveOrder 78 = .ok (.iload_n 3, 1) := by decide +kernel
theorem dX2_giveOrder_79 : decode cX2_giveOrder 79 = .ok (.iload 4, 2) := by decide +kernel
theorem dX2_giveOrder_81 : decode cX2_giveOrder 81 = .ok (.invokevirtual 118, 3) := by decide +kernel
theorem dX2_giveOrder_84 : decode cX2_giveOrder 84 = .ok (.ifCond .ne 6, 3) := by decide +kernel
theorem dX2_giveOrder_87 : decode cX2_giveOrder 87 = .ok (.bipush (-2), 2) := by decide +kernel
theorem dX2_giveOrder_89 : decode cX2_giveOrder 89 = .ok (.ireturn, 1) := by decide +kernel
theorem dX2_giveOrder_90 : decode cX2_giveOrder 90 = .ok (.aload_n 0, 1) := by decide +kernel
theorem dX2_giveOrder_91 : decode cX2_giveOrder 91 = .ok (.getfield 40, 3) := by decide +kernel
theorem dX2_giveOrder_94 : decode cX2_giveOrder 94 = .ok (.getfield 111, 3) := by decide +kernel
theorem dX2_giveOrder_97 : decode cX2_giveOrder 97 = .ok (.iload_n 3, 1) := by decide +kernel
theorem dX2_giveOrder_98 : decode cX2_giveOrder 98 = .ok (.iaload, 1) := by decide +kernel
theorem dX2_giveOrder_99 : decode cX2_giveOrder 99 = .ok (.istore 5, 2) := by decide +kernel
theorem dX2_giveOrder_101 : decode cX2_giveOrder 101 = .ok (.aload_n 0, 1) := by decide +kernel
theorem dX2_giveOrder_102 : decode cX2_giveOrder 102 = .ok (.getfield 40, 3) := by decide +kernel
theorem dX2_giveOrder_105 : decode cX2_giveOrder 105 = .ok (.getfield 111, 3) := by decide +kernel
theorem dX2_giveOrder_108 : decode cX2_giveOrder 108 = .ok (.iload 4, 2) := by decide +kernel
theorem dX2_giveOrder_110 : decode cX2_giveOrder 110 = .ok (.iaload, 1) := by decide +kernel
theorem dX2_giveOrder_111 : decode cX2_giveOrder 111 = .ok (.istore 6, 2) := by decide +kernel
theorem dX2_giveOrder_113 : decode cX2_giveOrder 113 = .ok (.iload_n 1, 1) := by decide +kernel
theorem dX2_giveOrder_114 : decode cX2_giveOrder 114 = .ok (.aload_n 0, 1) := by decide +kernel
theorem dX2_giveOrder_115 : decode cX2_giveOrder 115 = .ok (.getfield 47, 3) := by decide +kernel
theorem dX2_giveOrder_118 : decode cX2_giveOrder 118 = .ok (.iload 5, 2) := by decide +kernel
theorem dX2_giveOrder_120 : decode cX2_giveOrder 120 = .ok (.invokevirtual 125, 3) := by decide +kernel
theorem dX2_giveOrder_123 : decode cX2_giveOrder 123 = .ok (.aload_n 0, 1) := by decide +kernel
theorem dX2_giveOrder_124 : decode cX2_giveOrder 124 = .ok (.getfield 47, 3) := by decide +kernel
theorem dX2_giveOrder_127 : decode cX2_giveOrder 127 = .ok (.iload 6, 2) := by decide +kernel
theorem dX2_giveOrder_129 : decode cX2_giveOrder 129 = .ok (.invokevirtual 125, 3) := by decide +kernel
theorem dX2_giveOrder_132 : decode cX2_giveOrder 132 = .ok (.invokestatic 128, 3) := by decide +kernel
theorem dX2_giveOrder_135 : decode cX2_giveOrder 135 = .ok (.istore 7, 2) := by decide +kernel
theorem dX2_giveOrder_137 : decode cX2_giveOrder 137 = .ok (.aload_n 0, 1) := by decide +kernel
theorem dX2_giveOrder_138 : decode cX2_giveOrder 138 = .ok (.iload_n 2, 1) := by decide +kernel
theorem dX2_giveOrder_139 : decode cX2_giveOrder 139 = .ok (.iload 7, 2) := by decide +kernel
theorem dX2_giveOrder_141 : decode cX2_giveOrder 141 = .ok (.ldc 132, 2) := by decide +kernel
theorem dX2_giveOrder_143 : decode cX2_giveOrder 143 = .ok (.iload_n 3, 1) := by decide +kernel
theorem dX2_giveOrder_144 : decode cX2_giveOrder 144 = .ok (.iload 4, 2) := by decide +kernel
theorem dX2_giveOrder_146 : decode cX2_giveOrder 146 = .ok (.invokevirtual 114, 3) := by decide +kernel
theorem dX2_giveOrder_149 : decode cX2_giveOrder 149 = .ok (.istore 8, 2) := by decide +kernel
theorem dX2_giveOrder_151 : decode cX2_giveOrder 151 = .ok (.iload 8, 2) := by decide +kernel
theorem dX2_giveOrder_153 : decode cX2_giveOrder 153 = .ok (.ifCond .ge 6, 3) := by decide +kernel
theorem dX2_giveOrder_156 : decode cX2_giveOrder 156 = .ok (.bipush (-2), 2) := by decide +kernel
theorem dX2_giveOrder_158 : decode cX2_giveOrder 158 = .ok (.ireturn, 1) := by decide +kernel
theorem dX2_giveOrder_159 : decode cX2_giveOrder 159 = .ok (.aload_n 0, 1) := by decide +kernel
theorem dX2_giveOrder_160 : decode cX2_giveOrder 160 = .ok (.getfield 54, 3) := by decide +kernel
theorem dX2_giveOrder_163 : decode cX2_giveOrder 163 = .ok (.getfield 101, 3) := by decide +kernel
theorem dX2_giveOrder_166 : decode cX2_giveOrder 166 = .ok (.bipush 6, 2) := by decide +kernel
theorem dX2_giveOrder_168 : decode cX2_giveOrder 168 = .ok (.if_icmp .lt 6, 3) := by decide +kernel
theorem dX2_giveOrder_171 : decode cX2_giveOrder 171 = .ok (.bipush (-3), 2) := by decide +kernel
theorem dX2_giveOrder_173 : decode cX2_giveOrder 173 = .ok (.ireturn, 1) := by decide +kernel
theorem dX2_giveOrder_174 : decode cX2_giveOrder 174 = .ok (.aload_n 0, 1) := by decide +kernel
theorem dX2_giveOrder_175 : decode cX2_giveOrder 175 = .ok (.getfield 47, 3) := by decide +kernel
theorem dX2_giveOrder_178 : decode cX2_giveOrder 178 = .ok (.iload 5, 2) := by decide +kernel
theorem dX2_giveOrder_180 : decode cX2_giveOrder 180 = .ok (.aload_n 0, 1) := by decide +kernel
theorem dX2_giveOrder_181 : decode cX2_giveOrder 181 = .ok (.getfield 27, 3) := by decide +kernel
theorem dX2_giveOrder_184 : decode cX2_giveOrder 184 = .ok (.invokevirtual 121, 3) := by decide +kernel
theorem dX2_giveOrder_187 : decode cX2_giveOrder 187 = .ok (.aload_n 0, 1) := by decide +kernel
theorem dX2_giveOrder_188 : decode cX2_giveOrder 188 = .ok (.getfield 47, 3) := by decide +kernel
theorem dX2_giveOrder_191 : decode cX2_giveOrder 191 = .ok (.iload 6, 2) := by decide +kernel
theorem dX2_giveOrder_193 : decode cX2_giveOrder 193 = .ok (.aload_n 0, 1) := by decide +kernel
theorem dX2_giveOrder_194 : decode cX2_giveOrder 194 = .ok (.getfield 27, 3) := by decide +kernel
theorem dX2_giveOrder_197 : decode cX2_giveOrder 197 = .ok (.invokevirtual 121, 3) := by decide +kernel
theorem dX2_giveOrder_200 : decode cX2_giveOrder 200 = .ok (.aload_n 0, 1) := by decide +kernel
theorem dX2_giveOrder_201 : decode cX2_giveOrder 201 = .ok (.getfield 54, 3) := by decide +kernel
theorem dX2_giveOrder_204 : decode cX2_giveOrder 204 = .ok (.iload_n 1, 1) := by decide +kernel
theorem dX2_giveOrder_205 : decode cX2_giveOrder 205 = .ok (.iload 8, 2) := by decide +kernel
theorem dX2_giveOrder_207 : decode cX2_giveOrder 207 = .ok (.iload 5, 2) := by decide +kernel
theorem dX2_giveOrder_209 : decode cX2_giveOrder 209 = .ok (.iload 6, 2) := by decide +kernel
theorem dX2_giveOrder_211 : decode cX2_giveOrder 211 = .ok (.aload_n 0, 1) := by decide +kernel
theorem dX2_giveOrder_212 : decode cX2_giveOrder 212 = .ok (.getfield 30, 3) := by decide +kernel
theorem dX2_giveOrder_215 : decode cX2_giveOrder 215 = .ok (.invokevirtual 133, 3) := by decide +kernel
theorem dX2_giveOrder_218 : decode cX2_giveOrder 218 = .ok (.iload 8, 2) := by decide +kernel
theorem dX2_giveOrder_220 : decode cX2_giveOrder 220 = .ok (.ireturn, 1) := by decide +kernel
theorem dX2_letTicksGo_0 : decode cX2_letTicksGo 0 = .ok (.iload_n 1, 1) := by decide +kernel
theorem dX2_letTicksGo_1 : decode cX2_letTicksGo 1 = .ok (.iconst 1, 1) := by decide +kernel
theorem dX2_letTicksGo_2 : decode cX2_letTicksGo 2 = .ok (.bipush 99, 2) := by decide +kernel
theorem dX2_letTicksGo_4 : decode cX2_letTicksGo 4 = .ok (.invokestatic 97, 3) := by decide +kernel
theorem dX2_letTicksGo_7 : decode cX2_letTicksGo 7 = .ok (.ifCond .ne 5, 3) := by decide +kernel
theorem dX2_letTicksGo_10 : decode cX2_letTicksGo 10 = .ok (.iconst (-1), 1) := by decide +kernel
theorem dX2_letTicksGo_11 : decode cX2_letTicksGo 11 = .ok (.ireturn, 1) := by decide +kernel
theorem dX2_letTicksGo_12 : decode cX2_letTicksGo 12 = .ok (.aload_n 0, 1) := by decide +kernel
theorem dX2_letTicksGo_13 : decode cX2_letTicksGo 13 = .ok (.getfield 15, 3) := by decide +kernel
theorem dX2_letTicksGo_16 : decode cX2_letTicksGo 16 = .ok (.iload_n 1, 1) := by decide +kernel
theorem dX2_letTicksGo_17 : decode cX2_letTicksGo 17 = .ok (.iadd, 1) := by decide +kernel
theorem dX2_letTicksGo_18 : decode cX2_letTicksGo 18 = .ok (.ldc 137, 2) := by decide +kernel
theorem dX2_letTicksGo_20 : decode cX2_letTicksGo 20 = .ok (.if_icmp .le 6, 3) := by decide +kernel
theorem dX2_letTicksGo_23 : decode cX2_letTicksGo 23 = .ok (.bipush (-3), 2) := by decide +kernel
theorem dX2_letTicksGo_25 : decode cX2_letTicksGo 25 = .ok (.ireturn, 1) := by decide +kernel
theorem dX2_letTicksGo_26 : decode cX2_letTicksGo 26 = .ok (.aload_n 0, 1) := by decide +kernel
theorem dX2_letTicksGo_27 : decode cX2_letTicksGo 27 = .ok (.getfield 18, 3) := by decide +kernel
theorem dX2_letTicksGo_30 : decode cX2_letTicksGo 30 = .ok (.istore_n 2, 1) := by decide +kernel
theorem dX2_letTicksGo_31 : decode cX2_letTicksGo 31 = .ok (.iconst 0, 1) := by decide +kernel
theorem dX2_letTicksGo_32 : decode cX2_letTicksGo 32 = .ok (.istore_n 3, 1) := by decide +kernel
theorem dX2_letTicksGo_33 : decode cX2_letTicksGo 33 = .ok (.iload_n 3, 1) := by decide +kernel
theorem dX2_letTicksGo_34 : decode cX2_letTicksGo 34 = .ok (.iload_n 1, 1) := by decide +kernel
theorem dX2_letTicksGo_35 : decode cX2_letTicksGo 35 = .ok (.if_icmp .ge 13, 3) := by decide +kernel
theorem dX2_letTicksGo_38 : decode cX2_letTicksGo 38 = .ok (.aload_n 0, 1) := by decide +kernel
theorem dX2_letTicksGo_39 : decode cX2_letTicksGo 39 = .ok (.invokevirtual 138, 3) := by decide +kernel
theorem dX2_letTicksGo_42 : decode cX2_letTicksGo 42 = .ok (.iinc 3 1, 3) := by decide +kernel
theorem dX2_letTicksGo_45 : decode cX2_letTicksGo 45 = .ok (.goto (-12), 3) := by decide +kernel
theorem dX2_letTicksGo_48 : decode cX2_letTicksGo 48 = .ok (.aload_n 0, 1) := by decide +kernel
theorem dX2_letTicksGo_49 : decode cX2_letTicksGo 49 = .ok (.getfield 18, 3) := by decide +kernel
theorem dX2_letTicksGo_52 : decode cX2_letTicksGo 52 = .ok (.iload_n 2, 1) := by decide +kernel
theorem dX2_letTicksGo_53 : decode cX2_letTicksGo 53 = .ok (.isub, 1) := by decide +kernel
theorem dX2_letTicksGo_54 : decode cX2_letTicksGo 54 = .ok (.ireturn, 1) := by decide +kernel
theorem dX2_changeSetting_0 : decode cX2_changeSetting 0 = .ok (.iload_n 1, 1) := by decide +kernel
theorem dX2_changeSetting_1 : decode cX2_changeSetting 1 = .ok (.iconst 0, 1) := by decide +kernel
theorem dX2_changeSetting_2 : decode cX2_changeSetting 2 = .ok (.iconst 3, 1) := by decide +kernel
theorem dX2_changeSetting_3 : decode cX2_changeSetting 3 = .ok (.invokestatic 97, 3) := by decide +kernel
theorem dX2_changeSetting_6 : decode cX2_changeSetting 6 = .ok (.ifCond .ne 5, 3) := by decide +kernel
theorem dX2_changeSetting_9 : decode cX2_changeSetting 9 = .ok (.iconst (-1), 1) := by decide +kernel
theorem dX2_changeSetting_10 : decode cX2_changeSetting 10 = .ok (.ireturn, 1) := by decide +kernel
theorem dX2_changeSetting_11 : decode cX2_changeSetting 11 = .ok (.iload_n 1, 1) := by decide +kernel
theorem dX2_changeSetting_12 : decode cX2_changeSetting 12 = .ok (.iconst 2, 1) := by decide +kernel
theorem dX2_changeSetting_13 : decode cX2_changeSetting 13 = .ok (.if_icmp .ne 7, 3) := by decide +kernel
theorem dX2_changeSetting_16 : decode cX2_changeSetting 16 = .ok (.iconst 0, 1) := by decide +kernel
theorem dX2_changeSetting_17 : decode cX2_changeSetting 17 = .ok (.goto 4, 3) := by decide +kernel
theorem dX2_changeSetting_20 : decode cX2_changeSetting 20 = .ok (.iconst 1, 1) := by decide +kernel
theorem dX2_changeSetting_21 : decode cX2_changeSetting 21 = .ok (.istore_n 3, 1) := by decide +kernel
theorem dX2_changeSetting_22 : decode cX2_changeSetting 22 = .ok (.iload_n 1, 1) := by decide +kernel
theorem dX2_changeSetting_23 : decode cX2_changeSetting 23 = .ok (.iconst 3, 1) := by decide +kernel
theorem dX2_changeSetting_24 : decode cX2_changeSetting 24 = .ok (.if_icmp .ne 7, 3) := by decide +kernel
theorem dX2_changeSetting_27 : decode cX2_changeSetting 27 = .ok (.iconst 3, 1) := by decide +kernel
theorem dX2_changeSetting_28 : decode cX2_changeSetting 28 = .ok (.goto 5, 3) := by decide +kernel
theorem dX2_changeSetting_31 : decode cX2_changeSetting 31 = .ok (.bipush 9, 2) := by decide +kernel
theorem dX2_changeSetting_33 : decode cX2_changeSetting 33 = .ok (.istore 4, 2) := by decide +kernel
theorem dX2_changeSetting_35 : decode cX2_changeSetting 35 = .ok (.iload_n 2, 1) := by decide +kernel
theorem dX2_changeSetting_36 : decode cX2_changeSetting 36 = .ok (.iload_n 3, 1) := by decide +kernel
theorem dX2_changeSetting_37 : decode cX2_changeSetting 37 = .ok (.iload 4, 2) := by decide +kernel
theorem dX2_changeSetting_39 : decode cX2_changeSetting 39 = .ok (.invokestatic 97, 3) := by decide +kernel
theorem dX2_changeSetting_42 : decode cX2_changeSetting 42 = .ok (.ifCond .ne 5, 3) := by decide +kernel
theorem dX2_changeSetting_45 : decode cX2_changeSetting 45 = .ok (.iconst (-1), 1) := by decide +kernel
theorem dX2_changeSetting_46 : decode cX2_changeSetting 46 = .ok (.ireturn, 1) := by decide +kernel
theorem dX2_changeSetting_47 : decode cX2_changeSetting 47 = .ok (.aload_n 0, 1) := by decide +kernel
theorem dX2_changeSetting_48 : decode cX2_changeSetting 48 = .ok (.getfield 33, 3) := by decide +kernel
theorem dX2_changeSetting_51 : decode cX2_changeSetting 51 = .ok (.iload_n 1, 1) := by decide +kernel
theorem dX2_changeSetting_52 : decode cX2_changeSetting 52 = .ok (.iaload, 1) := by decide +kernel
theorem dX2_changeSetting_53 : decode cX2_changeSetting 53 = .ok (.istore 5, 2) := by decide +kernel
theorem dX2_changeSetting_55 : decode cX2_changeSetting 55 = .ok (.aload_n 0, 1) := by decide +kernel
theorem dX2_changeSetting_56 : decode cX2_changeSetting 56 = .ok (.getfield 33, 3) := by decide +kernel
theorem dX2_changeSetting_59 : decode cX2_changeSetting 59 = .ok (.iload_n 1, 1) := by decide +kernel
theorem dX2_changeSetting_60 : decode cX2_changeSetting 60 = .ok (.iload_n 2, 1) := by decide +kernel
theorem dX2_changeSetting_61 : decode cX2_changeSetting 61 = .ok (.iastore, 1) := by decide +kernel
theorem dX2_changeSetting_62 : decode cX2_changeSetting 62 = .ok (.iload 5, 2) := by decide +kernel
theorem dX2_changeSetting_64 : decode cX2_changeSetting 64 = .ok (.ireturn, 1) := by decide +kernel
theorem dX2_addMark_0 : decode cX2_addMark 0 = .ok (.aload_n 0, 1) := by decide +kernel
theorem dX2_addMark_1 : decode cX2_addMark 1 = .ok (.getfield 30, 3) := by decide +kernel
theorem dX2_addMark_4 : decode cX2_addMark 4 = .ok (.ifCond .lt 11, 3) := by decide +kernel
theorem dX2_addMark_7 : decode cX2_addMark 7 = .ok (.aload_n 0, 1) := by decide +kernel
theorem dX2_addMark_8 : decode cX2_addMark 8 = .ok (.getfield 30, 3) := by decide +kernel
theorem dX2_addMark_11 : decode cX2_addMark 11 = .ok (.iconst 3, 1) := by decide +kernel
theorem dX2_addMark_12 : decode cX2_addMark 12 = .ok (.if_icmp .lt 6, 3) := by decide +kernel
theorem dX2_addMark_15 : decode cX2_addMark 15 = .ok (.bipush (-3), 2) := by decide +kernel
theorem dX2_addMark_17 : decode cX2_addMark 17 = .ok (.ireturn, 1) := by decide +kernel
theorem dX2_addMark_18 : decode cX2_addMark 18 = .ok (.aload_n 0, 1) := by decide +kernel
theorem dX2_addMark_19 : decode cX2_addMark 19 = .ok (.getfield 58, 3) := by decide +kernel
theorem dX2_addMark_22 : decode cX2_addMark 22 = .ok (.aload_n 0, 1) := by decide +kernel
theorem dX2_addMark_23 : decode cX2_addMark 23 = .ok (.getfield 30, 3) := by decide +kernel
theorem dX2_addMark_26 : decode cX2_addMark 26 = .ok (.aaload, 1) := by decide +kernel
theorem dX2_addMark_27 : decode cX2_addMark 27 = .ok (.aload_n 0, 1) := by decide +kernel
theorem dX2_addMark_28 : decode cX2_addMark 28 = .ok (.getfield 40, 3) := by decide +kernel
theorem dX2_addMark_31 : decode cX2_addMark 31 = .ok (.invokevirtual 62, 3) := by decide +kernel
theorem dX2_addMark_34 : decode cX2_addMark 34 = .ok (.aload_n 0, 1) := by decide +kernel
theorem dX2_addMark_35 : decode cX2_addMark 35 = .ok (.dup, 1) := by decide +kernel
theorem dX2_addMark_36 : decode cX2_addMark 36 = .ok (.getfield 30, 3) := by decide +kernel
theorem dX2_addMark_39 : decode cX2_addMark 39 = .ok (.iconst 1, 1) := by decide +kernel
theorem dX2_addMark_40 : decode cX2_addMark 40 = .ok (.iadd, 1) := by decide +kernel
theorem dX2_addMark_41 : decode cX2_addMark 41 = .ok (.putfield 30, 3) := by decide +kernel
theorem dX2_addMark_44 : decode cX2_addMark 44 = .ok (.aload_n 0, 1) := by decide +kernel
theorem dX2_addMark_45 : decode cX2_addMark 45 = .ok (.getfield 30, 3) := by decide +kernel
theorem dX2_addMark_48 : decode cX2_addMark 48 = .ok (.iconst 1, 1) := by decide +kernel
theorem dX2_addMark_49 : decode cX2_addMark 49 = .ok (.isub, 1) := by decide +kernel
theorem dX2_addMark_50 : decode cX2_addMark 50 = .ok (.ireturn, 1) := by decide +kernel
theorem dX2_dropFirstMark_0 : decode cX2_dropFirstMark 0 = .ok (.aload_n 0, 1) := by decide +kernel
theorem dX2_dropFirstMark_1 : decode cX2_dropFirstMark 1 = .ok (.getfield 30, 3) := by decide +kernel
theorem dX2_dropFirstMark_4 : decode cX2_dropFirstMark 4 = .ok (.ifCond .gt 6, 3) := by decide +kernel
theorem dX2_dropFirstMark_7 : decode cX2_dropFirstMark 7 = .ok (.bipush (-2), 2) := by decide +kernel
theorem dX2_dropFirstMark_9 : decode cX2_dropFirstMark 9 = .ok (.ireturn, 1) := by decide +kernel
theorem dX2_dropFirstMark_10 : decode cX2_dropFirstMark 10 = .ok (.iconst 1, 1) := by decide +kernel
theorem dX2_dropFirstMark_11 : decode cX2_dropFirstMark 11 = .ok (.istore_n 1, 1) := by decide +kernel
theorem dX2_dropFirstMark_12 : decode cX2_dropFirstMark 12 = .ok (.iload_n 1, 1) := by decide +kernel
theorem dX2_dropFirstMark_13 : decode cX2_dropFirstMark 13 = .ok (.iconst 3, 1) := by decide +kernel
theorem dX2_dropFirstMark_14 : decode cX2_dropFirstMark 14 = .ok (.if_icmp .ge 26, 3) := by decide +kernel
theorem dX2_dropFirstMark_17 : decode cX2_dropFirstMark 17 = .ok (.aload_n 0, 1) := by decide +kernel
theorem dX2_dropFirstMark_18 : decode cX2_dropFirstMark 18 = .ok (.getfield 58, 3) := by decide +kernel
theorem dX2_dropFirstMark_21 : decode cX2_dropFirstMark 21 = .ok (.iload_n 1, 1) := by decide +kernel
theorem dX2_dropFirstMark_22 : decode cX2_dropFirstMark 22 = .ok (.iconst 1, 1) := by decide +kernel
theorem dX2_dropFirstMark_23 : decode cX2_dropFirstMark 23 = .ok (.isub, 1) := by decide +kernel
theorem dX2_dropFirstMark_24 : decode cX2_dropFirstMark 24 = .ok (.aaload, 1) := by decide +kernel
theorem dX2_dropFirstMark_25 : decode cX2_dropFirstMark 25 = .ok (.aload_n 0, 1) := by decide +kernel
theorem dX2_dropFirstMark_26 : decode cX2_dropFirstMark 26 = .ok (.getfield 58, 3) := by decide +kernel
theorem dX2_dropFirstMark_29 : decode cX2_dropFirstMark 29 = .ok (.iload_n 1, 1) := by decide +kernel
theorem dX2_dropFirstMark_30 : decode cX2_dropFirstMark 30 = .ok (.aaload, 1) := by decide +kernel
theorem dX2_dropFirstMark_31 : decode cX2_dropFirstMark 31 = .ok (.invokevirtual 62, 3) := by decide +kernel
theorem dX2_dropFirstMark_34 : decode cX2_dropFirstMark 34 = .ok (.iinc 1 1, 3) := by decide +kernel
theorem dX2_dropFirstMark_37 : decode cX2_dropFirstMark 37 = .ok (.goto (-25), 3) := by decide +kernel
theorem dX2_dropFirstMark_40 : decode cX2_dropFirstMark 40 = .ok (.aload_n 0, 1) := by decide +kernel
theorem dX2_dropFirstMark_41 : decode cX2_dropFirstMark 41 = .ok (.dup, 1) := by decide +kernel
theorem dX2_dropFirstMark_42 : decode cX2_dropFirstMark 42 = .ok (.getfield 30, 3) := by decide +kernel
theorem dX2_dropFirstMark_45 : decode cX2_dropFirstMark 45 = .ok (.iconst 1, 1) := by decide +kernel
theorem dX2_dropFirstMark_46 : decode cX2_dropFirstMark 46 = .ok (.isub, 1) := by decide +kernel
theorem dX2_dropFirstMark_47 : decode cX2_dropFirstMark 47 = .ok (.putfield 30, 3) := by decide +kernel
theorem dX2_dropFirstMark_50 : decode cX2_dropFirstMark 50 = .ok (.aload_n 0, 1) := by decide +kernel
theorem dX2_dropFirstMark_51 : decode cX2_dropFirstMark 51 = .ok (.getfield 54, 3) := by decide +kernel
theorem dX2_dropFirstMark_54 : decode cX2_dropFirstMark 54 = .ok (.invokevirtual 141, 3) := by decide +kernel
theorem dX2_dropFirstMark_57 : decode cX2_dropFirstMark 57 = .ok (.aload_n 0, 1) := by decide +kernel
theorem dX2_dropFirstMark_58 : decode cX2_dropFirstMark 58 = .ok (.getfield 30, 3) := by decide +kernel
theorem dX2_dropFirstMark_61 : decode cX2_dropFirstMark 61 = .ok (.ireturn, 1) := by decide +kernel
theorem dX2_goBack_0 : decode cX2_goBack 0 = .ok (.aload_n 0, 1) := by decide +kernel
theorem dX2_goBack_1 : decode cX2_goBack 1 = .ok (.iload_n 1, 1) := by decide +kernel
theorem dX2_goBack_2 : decode cX2_goBack 2 = .ok (.invokevirtual 144, 3) := by decide +kernel
theorem dX2_goBack_5 : decode cX2_goBack 5 = .ok (.ifCond .ne 5, 3) := by decide +kernel
theorem dX2_goBack_8 : decode cX2_goBack 8 = .ok (.iconst (-1), 1) := by decide +kernel
theorem dX2_goBack_9 : decode cX2_goBack 9 = .ok (.ireturn, 1) := by decide +kernel
theorem dX2_goBack_10 : decode cX2_goBack 10 = .ok (.aload_n 0, 1) := by decide +kernel
theorem dX2_goBack_11 : decode cX2_goBack 11 = .ok (.getfield 40, 3) := by decide +kernel
theorem dX2_goBack_14 : decode cX2_goBack 14 = .ok (.aload_n 0, 1) := by decide +kernel
theorem dX2_goBack_15 : decode cX2_goBack 15 = .ok (.getfield 58, 3) := by decide +kernel
theorem dX2_goBack_18 : decode cX2_goBack 18 = .ok (.iload_n 1, 1) := by decide +kernel
theorem dX2_goBack_19 : decode cX2_goBack 19 = .ok (.aaload, 1) := by decide +kernel
theorem dX2_goBack_20 : decode cX2_goBack 20 = .ok (.invokevirtual 62, 3) := by decide +kernel
theorem dX2_goBack_23 : decode cX2_goBack 23 = .ok (.aload_n 0, 1) := by decide +kernel
theorem dX2_goBack_24 : decode cX2_goBack 24 = .ok (.iload_n 1, 1) := by decide +kernel
theorem dX2_goBack_25 : decode cX2_goBack 25 = .ok (.putfield 30, 3) := by decide +kernel
theorem dX2_goBack_28 : decode cX2_goBack 28 = .ok (.aload_n 0, 1) := by decide +kernel
theorem dX2_goBack_29 : decode cX2_goBack 29 = .ok (.getfield 54, 3) := by decide +kernel
theorem dX2_goBack_32 : decode cX2_goBack 32 = .ok (.iload_n 1, 1) := by decide +kernel
theorem dX2_goBack_33 : decode cX2_goBack 33 = .ok (.invokevirtual 147, 3) := by decide +kernel
theorem dX2_goBack_36 : decode cX2_goBack 36 = .ok (.ireturn, 1) := by decide +kernel
theorem dX2_findSeat_0 : decode cX2_findSeat 0 = .ok (.aload_n 0, 1) := by decide +kernel
theorem dX2_findSeat_1 : decode cX2_findSeat 1 = .ok (.getfield 40, 3) := by decide +kernel
theorem dX2_findSeat_4 : decode cX2_findSeat 4 = .ok (.getfield 111, 3) := by decide +kernel
theorem dX2_findSeat_7 : decode cX2_findSeat 7 = .ok (.iload_n 1, 1) := by decide +kernel
theorem dX2_findSeat_8 : decode cX2_findSeat 8 = .ok (.iaload, 1) := by decide +kernel
theorem dX2_findSeat_9 : decode cX2_findSeat 9 = .ok (.iconst (-1), 1) := by decide +kernel
theorem dX2_findSeat_10 : decode cX2_findSeat 10 = .ok (.if_icmp .eq 5, 3) := by decide +kernel
theorem dX2_findSeat_13 : decode cX2_findSeat 13 = .ok (.iconst 1, 1) := by decide +kernel
theorem dX2_findSeat_14 : decode cX2_findSeat 14 = .ok (.ireturn, 1) := by decide +kernel
theorem dX2_findSeat_15 : decode cX2_findSeat 15 = .ok (.aload_n 0, 1) := by decide +kernel
theorem dX2_findSeat_16 : decode cX2_findSeat 16 = .ok (.dup, 1) := by decide +kernel
theorem dX2_findSeat_17 : decode cX2_findSeat 17 = .ok (.getfield 24, 3) := by decide +kernel
theorem dX2_findSeat_20 : decode cX2_findSeat 20 = .ok (.iconst 1, 1) := by decide +kernel
theorem dX2_findSeat_21 : decode cX2_findSeat 21 = .ok (.iadd, 1) := by decide +kernel
theorem dX2_findSeat_22 : decode cX2_findSeat 22 = .ok (.putfield 24, 3) := by decide +kernel
theorem dX2_findSeat_25 : decode cX2_findSeat 25 = .ok (.aload_n 0, 1) := by decide +kernel
theorem dX2_findSeat_26 : decode cX2_findSeat 26 = .ok (.iload_n 1, 1) := by decide +kernel
theorem dX2_findSeat_27 : decode cX2_findSeat 27 = .ok (.aload_n 0, 1) := by decide +kernel
theorem dX2_findSeat_28 : decode cX2_findSeat 28 = .ok (.getfield 40, 3) := by decide +kernel
theorem dX2_findSeat_31 : decode cX2_findSeat 31 = .ok (.getfield 150, 3) := by decide +kernel
theorem dX2_findSeat_34 : decode cX2_findSeat 34 = .ok (.iload_n 1, 1) := by decide +kernel
theorem dX2_findSeat_35 : decode cX2_findSeat 35 = .ok (.iaload, 1) := by decide +kernel
theorem dX2_findSeat_36 : decode cX2_findSeat 36 = .ok (.aload_n 0, 1) := by decide +kernel
theorem dX2_findSeat_37 : decode cX2_findSeat 37 = .ok (.getfield 15, 3) := by decide +kernel
theorem dX2_findSeat_40 : decode cX2_findSeat 40 = .ok (.aload_n 0, 1) := by decide +kernel
theorem dX2_findSeat_41 : decode cX2_findSeat 41 = .ok (.getfield 33, 3) := by decide +kernel
theorem dX2_findSeat_44 : decode cX2_findSeat 44 = .ok (.iconst 2, 1) := by decide +kernel
theorem dX2_findSeat_45 : decode cX2_findSeat 45 = .ok (.iaload, 1) := by decide +kernel
theorem dX2_findSeat_46 : decode cX2_findSeat 46 = .ok (.iadd, 1) := by decide +kernel
theorem dX2_findSeat_47 : decode cX2_findSeat 47 = .ok (.iload_n 2, 1) := by decide +kernel
theorem dX2_findSeat_48 : decode cX2_findSeat 48 = .ok (.iload_n 3, 1) := by decide +kernel
theorem dX2_findSeat_49 : decode cX2_findSeat 49 = .ok (.invokevirtual 114, 3) := by decide +kernel
theorem dX2_findSeat_52 : decode cX2_findSeat 52 = .ok (.ifCond .lt 7, 3) := by decide +kernel
theorem dX2_findSeat_55 : decode cX2_findSeat 55 = .ok (.iconst 1, 1) := by decide +kernel
theorem dX2_findSeat_56 : decode cX2_findSeat 56 = .ok (.goto 4, 3) := by decide +kernel
theorem dX2_findSeat_59 : decode cX2_findSeat 59 = .ok (.iconst 0, 1) := by decide +kernel
theorem dX2_findSeat_60 : decode cX2_findSeat 60 = .ok (.ireturn, 1) := by decide +kernel
theorem dX2_seat_0 : decode cX2_seat 0 = .ok (.aload_n 0, 1) := by decide +kernel
theorem dX2_seat_1 : decode cX2_seat 1 = .ok (.invokevirtual 153, 3) := by decide +kernel
theorem dX2_seat_4 : decode cX2_seat 4 = .ok (.istore 6, 2) := by decide +kernel
theorem dX2_seat_6 : decode cX2_seat 6 = .ok (.aload_n 0, 1) := by decide +kernel
theorem dX2_seat_7 : decode cX2_seat 7 = .ok (.getfield 40, 3) := by decide +kernel
theorem dX2_seat_10 : decode cX2_seat 10 = .ok (.invokevirtual 156, 3) := by decide +kernel
theorem dX2_seat_13 : decode cX2_seat 13 = .ok (.istore 7, 2) := by decide +kernel
theorem dX2_seat_15 : decode cX2_seat 15 = .ok (.aload_n 0, 1) := by decide +kernel
theorem dX2_seat_16 : decode cX2_seat 16 = .ok (.iload 6, 2) := by decide +kernel
theorem dX2_seat_18 : decode cX2_seat 18 = .ok (.iload 7, 2) := by decide +kernel
theorem dX2_seat_20 : decode cX2_seat 20 = .ok (.ior, 1) := by decide +kernel
theorem dX2_seat_21 : decode cX2_seat 21 = .ok (.invokevirtual 159, 3) := by decide +kernel
theorem dX2_seat_24 : decode cX2_seat 24 = .ok (.istore 8, 2) := by decide +kernel
theorem dX2_seat_26 : decode cX2_seat 26 = .ok (.iload 8, 2) := by decide +kernel
theorem dX2_seat_28 : decode cX2_seat 28 = .ok (.iconst (-1), 1) := by decide +kernel
theorem dX2_seat_29 : decode cX2_seat 29 = .ok (.if_icmp .ne 66, 3) := by decide +kernel
theorem dX2_seat_32 : decode cX2_seat 32 = .ok (.aload_n 0, 1) := by decide +kernel
theorem dX2_seat_33 : decode cX2_seat 33 = .ok (.getfield 40, 3) := by decide +kernel
theorem dX2_seat_36 : decode cX2_seat 36 = .ok (.iload 4, 2) := by decide +kernel
theorem dX2_seat_38 : decode cX2_seat 38 = .ok (.invokevirtual 162, 3) := by decide +kernel
theorem dX2_seat_41 : decode cX2_seat 41 = .ok (.aload_n 0, 1) := by decide +kernel
theorem dX2_seat_42 : decode cX2_seat 42 = .ok (.getfield 40, 3) := by decide +kernel
theorem dX2_seat_45 : decode cX2_seat 45 = .ok (.iload 5, 2) := by decide +kernel
theorem dX2_seat_47 : decode cX2_seat 47 = .ok (.invokevirtual 162, 3) := by decide +kernel
theorem dX2_seat_50 : decode cX2_seat 50 = .ok (.ior, 1) := by decide +kernel
theorem dX2_seat_51 : decode cX2_seat 51 = .ok (.istore 9, 2) := by decide +kernel
theorem dX2_seat_53 : decode cX2_seat 53 = .ok (.aload_n 0, 1) := by decide +kernel
theorem dX2_seat_54 : decode cX2_seat 54 = .ok (.iload 7, 2) := by decide +kernel
theorem dX2_seat_56 : decode cX2_seat 56 = .ok (.iload 6, 2) := by decide +kernel
theorem dX2_seat_58 : decode cX2_seat 58 = .ok (.iconst (-1), 1) := by decide +kernel
theorem dX2_seat_59 : decode cX2_seat 59 = .ok (.ixor, 1) := by decide +kernel
theorem dX2_seat_60 : decode cX2_seat 60 = .ok (.iand, 1) := by decide +kernel
theorem dX2_seat_61 : decode cX2_seat 61 = .ok (.iload 9, 2) := by decide +kernel
theorem dX2_seat_63 : decode cX2_seat 63 = .ok (.iconst (-1), 1) := by decide +kernel
theorem dX2_seat_64 : decode cX2_seat 64 = .ok (.ixor, 1) := by decide +kernel
theorem dX2_seat_65 : decode cX2_seat 65 = .ok (.iand, 1) := by decide +kernel
theorem dX2_seat_66 : decode cX2_seat 66 = .ok (.invokevirtual 165, 3) := by decide +kernel
theorem dX2_seat_69 : decode cX2_seat 69 = .ok (.istore 8, 2) := by decide +kernel
theorem dX2_seat_71 : decode cX2_seat 71 = .ok (.iload 8, 2) := by decide +kernel
theorem dX2_seat_73 : decode cX2_seat 73 = .ok (.iconst (-1), 1) := by decide +kernel
theorem dX2_seat_74 : decode cX2_seat 74 = .ok (.if_icmp .ne 6, 3) := by decide +kernel
theorem dX2_seat_77 : decode cX2_seat 77 = .ok (.bipush (-2), 2) := by decide +kernel
theorem dX2_seat_79 : decode cX2_seat 79 = .ok (.ireturn, 1) := by decide +kernel
theorem dX2_seat_80 : decode cX2_seat 80 = .ok (.aload_n 0, 1) := by decide +kernel
theorem dX2_seat_81 : decode cX2_seat 81 = .ok (.iload 8, 2) := by decide +kernel
theorem dX2_seat_83 : decode cX2_seat 83 = .ok (.aload_n 0, 1) := by decide +kernel
theorem dX2_seat_84 : decode cX2_seat 84 = .ok (.getfield 47, 3) := by decide +kernel
theorem dX2_seat_87 : decode cX2_seat 87 = .ok (.iload 8, 2) := by decide +kernel
theorem dX2_seat_89 : decode cX2_seat 89 = .ok (.invokevirtual 125, 3) := by decide +kernel
theorem dX2_seat_92 : decode cX2_seat 92 = .ok (.invokevirtual 168, 3) := by decide +kernel
theorem dX2_seat_95 : decode cX2_seat 95 = .ok (.aload_n 0, 1) := by decide +kernel
theorem dX2_seat_96 : decode cX2_seat 96 = .ok (.getfield 47, 3) := by decide +kernel
theorem dX2_seat_99 : decode cX2_seat 99 = .ok (.iload 8, 2) := by decide +kernel
theorem dX2_seat_101 : decode cX2_seat 101 = .ok (.iload_n 2, 1) := by decide +kernel
theorem dX2_seat_102 : decode cX2_seat 102 = .ok (.iload_n 3, 1) := by decide +kernel
theorem dX2_seat_103 : decode cX2_seat 103 = .ok (.aload_n 0, 1) := by decide +kernel
theorem dX2_seat_104 : decode cX2_seat 104 = .ok (.getfield 27, 3) := by decide +kernel
theorem dX2_seat_107 : decode cX2_seat 107 = .ok (.invokevirtual 171, 3) := by decide +kernel
theorem dX2_seat_110 : decode cX2_seat 110 = .ok (.aload_n 0, 1) := by decide +kernel
theorem dX2_seat_111 : decode cX2_seat 111 = .ok (.getfield 40, 3) := by decide +kernel
theorem dX2_seat_114 : decode cX2_seat 114 = .ok (.getfield 111, 3) := by decide +kernel
theorem dX2_seat_117 : decode cX2_seat 117 = .ok (.iload_n 1, 1) := by decide +kernel
theorem dX2_seat_118 : decode cX2_seat 118 = .ok (.iload 8, 2) := by decide +kernel
theorem dX2_seat_120 : decode cX2_seat 120 = .ok (.iastore, 1) := by decide +kernel
theorem dX2_seat_121 : decode cX2_seat 121 = .ok (.iload 8, 2) := by decide +kernel
theorem dX2_seat_123 : decode cX2_seat 123 = .ok (.ireturn, 1) := by decide +kernel
theorem dX2_sendOut_0 : decode cX2_sendOut 0 = .ok (.aload_n 0, 1) := by decide +kernel
theorem dX2_sendOut_1 : decode cX2_sendOut 1 = .ok (.dup, 1) := by decide +kernel
theorem dX2_sendOut_2 : decode cX2_sendOut 2 = .ok (.getfield 21, 3) := by decide +kernel
theorem dX2_sendOut_5 : decode cX2_sendOut 5 = .ok (.iconst 1, 1) := by decide +kernel
theorem dX2_sendOut_6 : decode cX2_sendOut 6 = .ok (.iadd, 1) := by decide +kernel
theorem dX2_sendOut_7 : decode cX2_sendOut 7 = .ok (.putfield 21, 3) := by decide +kernel
theorem dX2_sendOut_10 : decode cX2_sendOut 10 = .ok (.iconst 0, 1) := by decide +kernel
theorem dX2_sendOut_11 : decode cX2_sendOut 11 = .ok (.istore_n 3, 1) := by decide +kernel
theorem dX2_sendOut_12 : decode cX2_sendOut 12 = .ok (.iload_n 3, 1) := by decide +kernel
theorem dX2_sendOut_13 : decode cX2_sendOut 13 = .ok (.bipush 8, 2) := by decide +kernel
theorem dX2_sendOut_15 : decode cX2_sendOut 15 = .ok (.if_icmp .ge 42, 3) := by decide +kernel
theorem dX2_sendOut_18 : decode cX2_sendOut 18 = .ok (.aload_n 0, 1) := by decide +kernel
theorem dX2_sendOut_19 : decode cX2_sendOut 19 = .ok (.getfield 40, 3) := by decide +kernel
theorem dX2_sendOut_22 : decode cX2_sendOut 22 = .ok (.getfield 111, 3) := by decide +kernel
theorem dX2_sendOut_25 : decode cX2_sendOut 25 = .ok (.iload_n 3, 1) := by decide +kernel
theorem dX2_sendOut_26 : decode cX2_sendOut 26 = .ok (.iaload, 1) := by decide +kernel
theorem dX2_sendOut_27 : decode cX2_sendOut 27 = .ok (.iload_n 1, 1) := by decide +kernel
theorem dX2_sendOut_28 : decode cX2_sendOut 28 = .ok (.if_icmp .ne 23, 3) := by decide +kernel
theorem dX2_sendOut_31 : decode cX2_sendOut 31 = .ok (.aload_n 0, 1) := by decide +kernel
theorem dX2_sendOut_32 : decode cX2_sendOut 32 = .ok (.getfield 40, 3) := by decide +kernel
theorem dX2_sendOut_35 : decode cX2_sendOut 35 = .ok (.getfield 111, 3) := by decide +kernel
theorem dX2_sendOut_38 : decode cX2_sendOut 38 = .ok (.iload_n 3, 1) := by decide +kernel
theorem dX2_sendOut_39 : decode cX2_sendOut 39 = .ok (.iconst (-1), 1) := by decide +kernel
theorem dX2_sendOut_40 : decode cX2_sendOut 40 = .ok (.iastore, 1) := by decide +kernel
theorem dX2_sendOut_41 : decode cX2_sendOut 41 = .ok (.aload_n 0, 1) := by decide +kernel
theorem dX2_sendOut_42 : decode cX2_sendOut 42 = .ok (.getfield 40, 3) := by decide +kernel
theorem dX2_sendOut_45 : decode cX2_sendOut 45 = .ok (.getfield 150, 3) := by decide +kernel
theorem dX2_sendOut_48 : decode cX2_sendOut 48 = .ok (.iload_n 3, 1) := by decide +kernel
theorem dX2_sendOut_49 : decode cX2_sendOut 49 = .ok (.iload_n 2, 1) := by decide +kernel
theorem dX2_sendOut_50 : decode cX2_sendOut 50 = .ok (.iastore, 1) := by decide +kernel
theorem dX2_sendOut_51 : decode cX2_sendOut 51 = .ok (.iinc 3 1, 3) := by decide +kernel
theorem dX2_sendOut_54 : decode cX2_sendOut 54 = .ok (.goto (-42), 3) := by decide +kernel
theorem dX2_sendOut_57 : decode cX2_sendOut 57 = .ok (.return_, 1) := by decide +kernel
theorem dX2_result_0 : decode cX2_result 0 = .ok (.iload_n 0, 1) := by decide +kernel
theorem dX2_result_1 : decode cX2_result 1 = .ok (.lookupswitch 45 #[(0, 27), (1, 35)], 27) := by decide +kernel
theorem dX2_result_28 : decode cX2_result 28 = .ok (.iload_n 1, 1) := by decide +kernel
theorem dX2_result_29 : decode cX2_result 29 = .ok (.iload_n 2, 1) := by decide +kernel
theorem dX2_result_30 : decode cX2_result 30 = .ok (.iadd, 1) := by decide +kernel
theorem dX2_result_31 : decode cX2_result 31 = .ok (.sipush 10000, 3) := by decide +kernel
theorem dX2_result_34 : decode cX2_result 34 = .ok (.irem, 1) := by decide +kernel
theorem dX2_result_35 : decode cX2_result 35 = .ok (.ireturn, 1) := by decide +kernel
theorem dX2_result_36 : decode cX2_result 36 = .ok (.iload_n 1, 1) := by decide +kernel
theorem dX2_result_37 : decode cX2_result 37 = .ok (.iload_n 2, 1) := by decide +kernel
theorem dX2_result_38 : decode cX2_result 38 = .ok (.isub, 1) := by decide +kernel
theorem dX2_result_39 : decode cX2_result 39 = .ok (.sipush 10000, 3) := by decide +kernel
theorem dX2_result_42 : decode cX2_result 42 = .ok (.invokestatic 175, 3) := by decide +kernel
theorem dX2_result_45 : decode cX2_result 45 = .ok (.ireturn, 1) := by decide +kernel
theorem dX2_result_46 : decode cX2_result 46 = .ok (.iload_n 1, 1) := by decide +kernel
theorem dX2_result_47 : decode cX2_result 47 = .ok (.iload_n 2, 1) := by decide +kernel
theorem dX2_result_48 : decode cX2_result 48 = .ok (.imul, 1) := by decide +kernel
theorem dX2_result_49 : decode cX2_result 49 = .ok (.sipush 10000, 3) := by decide +kernel
theorem dX2_result_52 : decode cX2_result 52 = .ok (.irem, 1) := by decide +kernel
theorem dX2_result_53 : decode cX2_result 53 = .ok (.ireturn, 1) := by decide +kernel
theorem dX2_letTickGo_0 : decode cX2_letTickGo 0 = .ok (.aload_n 0, 1) := by decide +kernel
theorem dX2_letTickGo_1 : decode cX2_letTickGo 1 = .ok (.dup, 1) := by decide +kernel
theorem dX2_letTickGo_2 : decode cX2_letTickGo 2 = .ok (.getfield 15, 3) := by decide +kernel
theorem dX2_letTickGo_5 : decode cX2_letTickGo 5 = .ok (.iconst 1, 1) := by decide +kernel
theorem dX2_letTickGo_6 : decode cX2_letTickGo 6 = .ok (.iadd, 1) := by decide +kernel
theorem dX2_letTickGo_7 : decode cX2_letTickGo 7 = .ok (.putfield 15, 3) := by decide +kernel
theorem dX2_letTickGo_10 : decode cX2_letTickGo 10 = .ok (.aload_n 0, 1) := by decide +kernel
theorem dX2_letTickGo_11 : decode cX2_letTickGo 11 = .ok (.invokevirtual 180, 3) := by decide +kernel
theorem dX2_letTickGo_14 : decode cX2_letTickGo 14 = .ok (.aload_n 0, 1) := by decide +kernel
theorem dX2_letTickGo_15 : decode cX2_letTickGo 15 = .ok (.invokevirtual 183, 3) := by decide +kernel
theorem dX2_letTickGo_18 : decode cX2_letTickGo 18 = .ok (.return_, 1) := by decide +kernel
theorem dX2_finishOrders_0 : decode cX2_finishOrders 0 = .ok (.iconst 0, 1) := by decide +kernel
theorem dX2_finishOrders_1 : decode cX2_finishOrders 1 = .ok (.istore_n 1, 1) := by decide +kernel
theorem dX2_finishOrders_2 : decode cX2_finishOrders 2 = .ok (.aload_n 0, 1) := by decide +kernel
theorem dX2_finishOrders_3 : decode cX2_finishOrders 3 = .ok (.getfield 54, 3) := by decide +kernel
theorem dX2_finishOrders_6 : decode cX2_finishOrders 6 = .ok (.getfield 101, 3) := by decide +kernel
theorem dX2_finishOrders_9 : decode cX2_finishOrders 9 = .ok (.istore_n 2, 1) := by decide +kernel
theorem dX2_finishOrders_10 : decode cX2_finishOrders 10 = .ok (.iconst 0, 1) := by decide +kernel
theorem dX2_finishOrders_11 : decode cX2_finishOrders 11 = .ok (.istore_n 3, 1) := by decide +kernel
theorem dX2_finishOrders_12 : decode cX2_finishOrders 12 = .ok (.iload_n 3, 1) := by decide +kernel
theorem dX2_finishOrders_13 : decode cX2_finishOrders 13 = .ok (.iload_n 2, 1) := by decide +kernel
theorem dX2_finishOrders_14 : decode cX2_finishOrders 14 = .ok (.if_icmp .ge 50, 3) := by decide +kernel
theorem dX2_finishOrders_17 : decode cX2_finishOrders 17 = .ok (.iload_n 3, 1) := by decide +kernel
theorem dX2_finishOrders_18 : decode cX2_finishOrders 18 = .ok (.bipush 6, 2) := by decide +kernel
theorem dX2_finishOrders_20 : decode cX2_finishOrders 20 = .ok (.if_icmp .ge 44, 3) := by decide +kernel
theorem dX2_finishOrders_23 : decode cX2_finishOrders 23 = .ok (.aload_n 0, 1) := by decide +kernel
theorem dX2_finishOrders_24 : decode cX2_finishOrders 24 = .ok (.getfield 47, 3) := by decide +kernel
theorem dX2_finishOrders_27 : decode cX2_finishOrders 27 = .ok (.aload_n 0, 1) := by decide +kernel
theorem dX2_finishOrders_28 : decode cX2_finishOrders 28 = .ok (.getfield 54, 3) := by decide +kernel
theorem dX2_finishOrders_31 : decode cX2_finishOrders 31 = .ok (.getfield 186, 3) := by decide +kernel
theorem dX2_finishOrders_34 : decode cX2_finishOrders 34 = .ok (.iload_n 3, 1) := by decide +kernel
theorem dX2_finishOrders_35 : decode cX2_finishOrders 35 = .ok (.iaload, 1) := by decide +kernel
theorem dX2_finishOrders_36 : decode cX2_finishOrders 36 = .ok (.invokevirtual 187, 3) := by decide +kernel
theorem dX2_finishOrders_39 : decode cX2_finishOrders 39 = .ok (.aload_n 0, 1) := by decide +kernel
theorem dX2_finishOrders_40 : decode cX2_finishOrders 40 = .ok (.getfield 15, 3) := by decide +kernel
theorem dX2_finishOrders_43 : decode cX2_finishOrders 43 = .ok (.if_icmp .le 15, 3) := by decide +kernel
theorem dX2_finishOrders_46 : decode cX2_finishOrders 46 = .ok (.aload_n 0, 1) := by decide +kernel
theorem dX2_finishOrders_47 : decode cX2_finishOrders 47 = .ok (.getfield 54, 3) := by decide +kernel
theorem dX2_finishOrders_50 : decode cX2_finishOrders 50 = .ok (.iload_n 3, 1) := by decide +kernel
theorem dX2_finishOrders_51 : decode cX2_finishOrders 51 = .ok (.iload_n 1, 1) := by decide +kernel
theorem dX2_finishOrders_52 : decode cX2_finishOrders 52 = .ok (.invokevirtual 190, 3) := by decide +kernel
theorem dX2_finishOrders_55 : decode cX2_finishOrders 55 = .ok (.iinc 1 1, 3) := by decide +kernel
theorem dX2_finishOrders_58 : decode cX2_finishOrders 58 = .ok (.iinc 3 1, 3) := by decide +kernel
theorem dX2_finishOrders_61 : decode cX2_finishOrders 61 = .ok (.goto (-49), 3) := by decide +kernel
theorem dX2_finishOrders_64 : decode cX2_finishOrders 64 = .ok (.aload_n 0, 1) := by decide +kernel
theorem dX2_finishOrders_65 : decode cX2_finishOrders 65 = .ok (.getfield 54, 3) := by decide +kernel
theorem dX2_finishOrders_68 : decode cX2_finishOrders 68 = .ok (.iload_n 1, 1) := by decide +kernel
theorem dX2_finishOrders_69 : decode cX2_finishOrders 69 = .ok (.putfield 101, 3) := by decide +kernel
theorem dX2_finishOrders_72 : decode cX2_finishOrders 72 = .ok (.aload_n 0, 1) := by decide +kernel
theorem dX2_finishOrders_73 : decode cX2_finishOrders 73 = .ok (.dup, 1) := by decide +kernel
theorem dX2_finishOrders_74 : decode cX2_finishOrders 74 = .ok (.getfield 18, 3) := by decide +kernel
theorem dX2_finishOrders_77 : decode cX2_finishOrders 77 = .ok (.iload_n 2, 1) := by decide +kernel
theorem dX2_finishOrders_78 : decode cX2_finishOrders 78 = .ok (.iload_n 1, 1) := by decide +kernel
theorem dX2_finishOrders_79 : decode cX2_finishOrders 79 = .ok (.isub, 1) := by decide +kernel
theorem dX2_finishOrders_80 : decode cX2_finishOrders 80 = .ok (.iadd, 1) := by decide +kernel
theorem dX2_finishOrders_81 : decode cX2_finishOrders 81 = .ok (.putfield 18, 3) := by decide +kernel
theorem dX2_finishOrders_84 : decode cX2_finishOrders 84 = .ok (.return_, 1) := by decide +kernel
theorem dX2_beginOrders_0 : decode cX2_beginOrders 0 = .ok (.iconst 0, 1) := by decide +kernel
theorem dX2_beginOrders_1 : decode cX2_beginOrders 1 = .ok (.istore_n 1, 1) := by decide +kernel
theorem dX2_beginOrders_2 : decode cX2_beginOrders 2 = .ok (.iconst 0, 1) := by decide +kernel
theorem dX2_beginOrders_3 : decode cX2_beginOrders 3 = .ok (.istore_n 2, 1) := by decide +kernel
theorem dX2_beginOrders_4 : decode cX2_beginOrders 4 = .ok (.iload_n 2, 1) := by decide +kernel
theorem dX2_beginOrders_5 : decode cX2_beginOrders 5 = .ok (.aload_n 0, 1) := by decide +kernel
theorem dX2_beginOrders_6 : decode cX2_beginOrders 6 = .ok (.getfield 54, 3) := by decide +kernel
theorem dX2_beginOrders_9 : decode cX2_beginOrders 9 = .ok (.getfield 101, 3) := by decide +kernel
theorem dX2_beginOrders_12 : decode cX2_beginOrders 12 = .ok (.if_icmp .ge 157, 3) := by decide +kernel
theorem dX2_beginOrders_15 : decode cX2_beginOrders 15 = .ok (.iload_n 2, 1) := by decide +kernel
theorem dX2_beginOrders_16 : decode cX2_beginOrders 16 = .ok (.bipush 6, 2) := by decide +kernel
theorem dX2_beginOrders_18 : decode cX2_beginOrders 18 = .ok (.if_icmp .ge 151, 3) := by decide +kernel
theorem dX2_beginOrders_21 : decode cX2_beginOrders 21 = .ok (.aload_n 0, 1) := by decide +kernel
theorem dX2_beginOrders_22 : decode cX2_beginOrders 22 = .ok (.getfield 54, 3) := by decide +kernel
theorem dX2_beginOrders_25 : decode cX2_beginOrders 25 = .ok (.getfield 186, 3) := by decide +kernel
theorem dX2_beginOrders_28 : decode cX2_beginOrders 28 = .ok (.iload_n 2, 1) := by decide +kernel
theorem dX2_beginOrders_29 : decode cX2_beginOrders 29 = .ok (.iaload, 1) := by decide +kernel
theorem dX2_beginOrders_30 : decode cX2_beginOrders 30 = .ok (.istore_n 3, 1) := by decide +kernel
theorem dX2_beginOrders_31 : decode cX2_beginOrders 31 = .ok (.aload_n 0, 1) := by decide +kernel
theorem dX2_beginOrders_32 : decode cX2_beginOrders 32 = .ok (.getfield 47, 3) := by decide +kernel
theorem dX2_beginOrders_35 : decode cX2_beginOrders 35 = .ok (.aload_n 0, 1) := by decide +kernel
theorem dX2_beginOrders_36 : decode cX2_beginOrders 36 = .ok (.getfield 54, 3) := by decide +kernel
theorem dX2_beginOrders_39 : decode cX2_beginOrders 39 = .ok (.getfield 193, 3) := by decide +kernel
theorem dX2_beginOrders_42 : decode cX2_beginOrders 42 = .ok (.iload_n 2, 1) := by decide +kernel
theorem dX2_beginOrders_43 : decode cX2_beginOrders 43 = .ok (.iaload, 1) := by decide +kernel
theorem dX2_beginOrders_44 : decode cX2_beginOrders 44 = .ok (.invokevirtual 187, 3) := by decide +kernel
theorem dX2_beginOrders_47 : decode cX2_beginOrders 47 = .ok (.istore 4, 2) := by decide +kernel
theorem dX2_beginOrders_49 : decode cX2_beginOrders 49 = .ok (.aload_n 0, 1) := by decide +kernel
theorem dX2_beginOrders_50 : decode cX2_beginOrders 50 = .ok (.getfield 47, 3) := by decide +kernel
theorem dX2_beginOrders_53 : decode cX2_beginOrders 53 = .ok (.aload_n 0, 1) := by decide +kernel
theorem dX2_beginOrders_54 : decode cX2_beginOrders 54 = .ok (.getfield 54, 3) := by decide +kernel
theorem dX2_beginOrders_57 : decode cX2_beginOrders 57 = .ok (.getfield 196, 3) := by decide +kernel
theorem dX2_beginOrders_60 : decode cX2_beginOrders 60 = .ok (.iload_n 2, 1) := by decide +kernel
theorem dX2_beginOrders_61 : decode cX2_beginOrders 61 = .ok (.iaload, 1) := by decide +kernel
theorem dX2_beginOrders_62 : decode cX2_beginOrders 62 = .ok (.invokevirtual 187, 3) := by decide +kernel
theorem dX2_beginOrders_65 : decode cX2_beginOrders 65 = .ok (.istore 5, 2) := by decide +kernel
theorem dX2_beginOrders_67 : decode cX2_beginOrders 67 = .ok (.aload_n 0, 1) := by decide +kernel
theorem dX2_beginOrders_68 : decode cX2_beginOrders 68 = .ok (.getfield 47, 3) := by decide +kernel
theorem dX2_beginOrders_71 : decode cX2_beginOrders 71 = .ok (.iload_n 3, 1) := by decide +kernel
theorem dX2_beginOrders_72 : decode cX2_beginOrders 72 = .ok (.invokevirtual 187, 3) := by decide +kernel
theorem dX2_beginOrders_75 : decode cX2_beginOrders 75 = .ok (.ldc 132, 2) := by decide +kernel
theorem dX2_beginOrders_77 : decode cX2_beginOrders 77 = .ok (.if_icmp .ne 25, 3) := by decide +kernel
theorem dX2_beginOrders_80 : decode cX2_beginOrders 80 = .ok (.iload 4, 2) := by decide +kernel
theorem dX2_beginOrders_82 : decode cX2_beginOrders 82 = .ok (.aload_n 0, 1) := by decide +kernel
theorem dX2_beginOrders_83 : decode cX2_beginOrders 83 = .ok (.getfield 15, 3) := by decide +kernel
theorem dX2_beginOrders_86 : decode cX2_beginOrders 86 = .ok (.if_icmp .gt 16, 3) := by decide +kernel
theorem dX2_beginOrders_89 : decode cX2_beginOrders 89 = .ok (.iload 5, 2) := by decide +kernel
theorem dX2_beginOrders_91 : decode cX2_beginOrders 91 = .ok (.aload_n 0, 1) := by decide +kernel
theorem dX2_beginOrders_92 : decode cX2_beginOrders 92 = .ok (.getfield 15, 3) := by decide +kernel
theorem dX2_beginOrders_95 : decode cX2_beginOrders 95 = .ok (.if_icmp .gt 7, 3) := by decide +kernel
theorem dX2_beginOrders_98 : decode cX2_beginOrders 98 = .ok (.iconst 1, 1) := by decide +kernel
theorem dX2_beginOrders_99 : decode cX2_beginOrders 99 = .ok (.goto 4, 3) := by decide +kernel
theorem dX2_beginOrders_102 : decode cX2_beginOrders 102 = .ok (.iconst 0, 1) := by decide +kernel
theorem dX2_beginOrders_103 : decode cX2_beginOrders 103 = .ok (.istore 6, 2) := by decide +kernel
theorem dX2_beginOrders_105 : decode cX2_beginOrders 105 = .ok (.iload 6, 2) := by decide +kernel
theorem dX2_beginOrders_107 : decode cX2_beginOrders 107 = .ok (.ifCond .eq 56, 3) := by decide +kernel
theorem dX2_beginOrders_110 : decode cX2_beginOrders 110 = .ok (.iload_n 1, 1) := by decide +kernel
theorem dX2_beginOrders_111 : decode cX2_beginOrders 111 = .ok (.aload_n 0, 1) := by decide +kernel
theorem dX2_beginOrders_112 : decode cX2_beginOrders 112 = .ok (.getfield 33, 3) := by decide +kernel
theorem dX2_beginOrders_115 : decode cX2_beginOrders 115 = .ok (.iconst 3, 1) := by decide +kernel
theorem dX2_beginOrders_116 : decode cX2_beginOrders 116 = .ok (.iaload, 1) := by decide +kernel
theorem dX2_beginOrders_117 : decode cX2_beginOrders 117 = .ok (.if_icmp .ge 46, 3) := by decide +kernel
theorem dX2_beginOrders_120 : decode cX2_beginOrders 120 = .ok (.aload_n 0, 1) := by decide +kernel
theorem dX2_beginOrders_121 : decode cX2_beginOrders 121 = .ok (.getfield 33, 3) := by decide +kernel
theorem dX2_beginOrders_124 : decode cX2_beginOrders 124 = .ok (.aload_n 0, 1) := by decide +kernel
theorem dX2_beginOrders_125 : decode cX2_beginOrders 125 = .ok (.getfield 54, 3) := by decide +kernel
theorem dX2_beginOrders_128 : decode cX2_beginOrders 128 = .ok (.getfield 199, 3) := by decide +kernel
theorem dX2_beginOrders_131 : decode cX2_beginOrders 131 = .ok (.iload_n 2, 1) := by decide +kernel
theorem dX2_beginOrders_132 : decode cX2_beginOrders 132 = .ok (.iaload, 1) := by decide +kernel
theorem dX2_beginOrders_133 : decode cX2_beginOrders 133 = .ok (.iconst 2, 1) := by decide +kernel
theorem dX2_beginOrders_134 : decode cX2_beginOrders 134 = .ok (.if_icmp .ne 7, 3) := by decide +kernel
theorem dX2_beginOrders_137 : decode cX2_beginOrders 137 = .ok (.iconst 1, 1) := by decide +kernel
theorem dX2_beginOrders_138 : decode cX2_beginOrders 138 = .ok (.goto 4, 3) := by decide +kernel
theorem dX2_beginOrders_141 : decode cX2_beginOrders 141 = .ok (.iconst 0, 1) := by decide +kernel
theorem dX2_beginOrders_142 : decode cX2_beginOrders 142 = .ok (.iaload, 1) := by decide +kernel
theorem dX2_beginOrders_143 : decode cX2_beginOrders 143 = .ok (.istore 7, 2) := by decide +kernel
theorem dX2_beginOrders_145 : decode cX2_beginOrders 145 = .ok (.aload_n 0, 1) := by decide +kernel
theorem dX2_beginOrders_146 : decode cX2_beginOrders 146 = .ok (.getfield 47, 3) := by decide +kernel
theorem dX2_beginOrders_149 : decode cX2_beginOrders 149 = .ok (.iload_n 3, 1) := by decide +kernel
theorem dX2_beginOrders_150 : decode cX2_beginOrders 150 = .ok (.aload_n 0, 1) := by decide +kernel
theorem dX2_beginOrders_151 : decode cX2_beginOrders 151 = .ok (.getfield 15, 3) := by decide +kernel
theorem dX2_beginOrders_154 : decode cX2_beginOrders 154 = .ok (.iload 7, 2) := by decide +kernel
theorem dX2_beginOrders_156 : decode cX2_beginOrders 156 = .ok (.iadd, 1) := by decide +kernel
theorem dX2_beginOrders_157 : decode cX2_beginOrders 157 = .ok (.invokevirtual 202, 3) := by decide +kernel
theorem dX2_beginOrders_160 : decode cX2_beginOrders 160 = .ok (.iinc 1 1, 3) := by decide +kernel
theorem dX2_beginOrders_163 : decode cX2_beginOrders 163 = .ok (.iinc 2 1, 3) := by decide +kernel
theorem dX2_beginOrders_166 : decode cX2_beginOrders 166 = .ok (.goto (-162), 3) := by decide +kernel
theorem dX2_beginOrders_169 : decode cX2_beginOrders 169 = .ok (.return_, 1) := by decide +kernel
theorem dX2_ticksTillIdle_0 : decode cX2_ticksTillIdle 0 = .ok (.iconst 0, 1) := by decide +kernel
theorem dX2_ticksTillIdle_1 : decode cX2_ticksTillIdle 1 = .ok (.istore_n 1, 1) := by decide +kernel
theorem dX2_ticksTillIdle_2 : decode cX2_ticksTillIdle 2 = .ok (.aload_n 0, 1) := by decide +kernel
theorem dX2_ticksTillIdle_3 : decode cX2_ticksTillIdle 3 = .ok (.getfield 54, 3) := by decide +kernel
theorem dX2_ticksTillIdle_6 : decode cX2_ticksTillIdle 6 = .ok (.getfield 101, 3) := by decide +kernel
theorem dX2_ticksTillIdle_9 : decode cX2_ticksTillIdle 9 = .ok (.ifCond .le 20, 3) := by decide +kernel
theorem dX2_ticksTillIdle_12 : decode cX2_ticksTillIdle 12 = .ok (.iload_n 1, 1) := by decide +kernel
theorem dX2_ticksTillIdle_13 : decode cX2_ticksTillIdle 13 = .ok (.sipush 1000, 3) := by decide +kernel
theorem dX2_ticksTillIdle_16 : decode cX2_ticksTillIdle 16 = .ok (.if_icmp .ge 13, 3) := by decide +kernel
theorem dX2_ticksTillIdle_19 : decode cX2_ticksTillIdle 19 = .ok (.aload_n 0, 1) := by decide +kernel
theorem dX2_ticksTillIdle_20 : decode cX2_ticksTillIdle 20 = .ok (.invokevirtual 138, 3) := by decide +kernel
theorem dX2_ticksTillIdle_23 : decode cX2_ticksTillIdle 23 = .ok (.iinc 1 1, 3) := by decide +kernel
theorem dX2_ticksTillIdle_26 : decode cX2_ticksTillIdle 26 = .ok (.goto (-24), 3) := by decide +kernel
theorem dX2_ticksTillIdle_29 : decode cX2_ticksTillIdle 29 = .ok (.iload_n 1, 1) := by decide +kernel
theorem dX2_ticksTillIdle_30 : decode cX2_ticksTillIdle 30 = .ok (.ireturn, 1) := by decide +kernel
theorem dX2_ticksTillKnown_0 : decode cX2_ticksTillKnown 0 = .ok (.iconst 0, 1) := by decide +kernel
theorem dX2_ticksTillKnown_1 : decode cX2_ticksTillKnown 1 = .ok (.istore_n 2, 1) := by decide +kernel
theorem dX2_ticksTillKnown_2 : decode cX2_ticksTillKnown 2 = .ok (.iload_n 1, 1) := by decide +kernel
theorem dX2_ticksTillKnown_3 : decode cX2_ticksTillKnown 3 = .ok (.invokestatic 107, 3) := by decide +kernel
theorem dX2_ticksTillKnown_6 : decode cX2_ticksTillKnown 6 = .ok (.ifCond .eq 28, 3) := by decide +kernel
theorem dX2_ticksTillKnown_9 : decode cX2_ticksTillKnown 9 = .ok (.aload_n 0, 1) := by decide +kernel
theorem dX2_ticksTillKnown_10 : decode cX2_ticksTillKnown 10 = .ok (.iload_n 1, 1) := by decide +kernel
theorem dX2_ticksTillKnown_11 : decode cX2_ticksTillKnown 11 = .ok (.invokevirtual 205, 3) := by decide +kernel
theorem dX2_ticksTillKnown_14 : decode cX2_ticksTillKnown 14 = .ok (.ifCond .eq 20, 3) := by decide +kernel
theorem dX2_ticksTillKnown_17 : decode cX2_ticksTillKnown 17 = .ok (.iload_n 2, 1) := by decide +kernel
theorem dX2_ticksTillKnown_18 : decode cX2_ticksTillKnown 18 = .ok (.sipush 1000, 3) := by decide +kernel
theorem dX2_ticksTillKnown_21 : decode cX2_ticksTillKnown 21 = .ok (.if_icmp .ge 13, 3) := by decide +kernel
theorem dX2_ticksTillKnown_24 : decode cX2_ticksTillKnown 24 = .ok (.aload_n 0, 1) := by decide +kernel
theorem dX2_ticksTillKnown_25 : decode cX2_ticksTillKnown 25 = .ok (.invokevirtual 138, 3) := by decide +kernel
theorem dX2_ticksTillKnown_28 : decode cX2_ticksTillKnown 28 = .ok (.iinc 2 1, 3) := by decide +kernel
theorem dX2_ticksTillKnown_31 : decode cX2_ticksTillKnown 31 = .ok (.goto (-29), 3) := by decide +kernel
theorem dX2_ticksTillKnown_34 : decode cX2_ticksTillKnown 34 = .ok (.iload_n 2, 1) := by decide +kernel
theorem dX2_ticksTillKnown_35 : decode cX2_ticksTillKnown 35 = .ok (.ireturn, 1) := by decide +kernel
theorem dX2_tellMark_0 : decode cX2_tellMark 0 = .ok (.aload_n 0, 1) := by decide +kernel
theorem dX2_tellMark_1 : decode cX2_tellMark 1 = .ok (.iload_n 1, 1) := by decide +kernel
theorem dX2_tellMark_2 : decode cX2_tellMark 2 = .ok (.invokevirtual 144, 3) := by decide +kernel
theorem dX2_tellMark_5 : decode cX2_tellMark 5 = .ok (.ifCond .eq 19, 3) := by decide +kernel
theorem dX2_tellMark_8 : decode cX2_tellMark 8 = .ok (.iload_n 2, 1) := by decide +kernel
theorem dX2_tellMark_9 : decode cX2_tellMark 9 = .ok (.invokestatic 107, 3) := by decide +kernel
theorem dX2_tellMark_12 : decode cX2_tellMark 12 = .ok (.ifCond .eq 12, 3) := by decide +kernel
theorem dX2_tellMark_15 : decode cX2_tellMark 15 = .ok (.iload_n 3, 1) := by decide +kernel
theorem dX2_tellMark_16 : decode cX2_tellMark 16 = .ok (.iconst 0, 1) := by decide +kernel
theorem dX2_tellMark_17 : decode cX2_tellMark 17 = .ok (.iconst 1, 1) := by decide +kernel
theorem dX2_tellMark_18 : decode cX2_tellMark 18 = .ok (.invokestatic 97, 3) := by decide +kernel
theorem dX2_tellMark_21 : decode cX2_tellMark 21 = .ok (.ifCond .ne 5, 3) := by decide +kernel
theorem dX2_tellMark_24 : decode cX2_tellMark 24 = .ok (.iconst (-1), 1) := by decide +kernel
theorem dX2_tellMark_25 : decode cX2_tellMark 25 = .ok (.ireturn, 1) := by decide +kernel
theorem dX2_tellMark_26 : decode cX2_tellMark 26 = .ok (.iload_n 3, 1) := by decide +kernel
theorem dX2_tellMark_27 : decode cX2_tellMark 27 = .ok (.iconst 1, 1) := by decide +kernel
theorem dX2_tellMark_28 : decode cX2_tellMark 28 = .ok (.if_icmp .ne 15, 3) := by decide +kernel
theorem dX2_tellMark_31 : decode cX2_tellMark 31 = .ok (.aload_n 0, 1) := by decide +kernel
theorem dX2_tellMark_32 : decode cX2_tellMark 32 = .ok (.getfield 58, 3) := by decide +kernel
theorem dX2_tellMark_35 : decode cX2_tellMark 35 = .ok (.iload_n 1, 1) := by decide +kernel
theorem dX2_tellMark_36 : decode cX2_tellMark 36 = .ok (.aaload, 1) := by decide +kernel
theorem dX2_tellMark_37 : decode cX2_tellMark 37 = .ok (.getfield 150, 3) := by decide +kernel
theorem dX2_tellMark_40 : decode cX2_tellMark 40 = .ok (.iload_n 2, 1) := by decide +kernel
theorem dX2_tellMark_41 : decode cX2_tellMark 41 = .ok (.iaload, 1) := by decide +kernel
theorem dX2_tellMark_42 : decode cX2_tellMark 42 = .ok (.ireturn, 1) := by decide +kernel
theorem dX2_tellMark_43 : decode cX2_tellMark 43 = .ok (.aload_n 0, 1) := by decide +kernel
theorem dX2_tellMark_44 : decode cX2_tellMark 44 = .ok (.getfield 58, 3) := by decide +kernel
theorem dX2_tellMark_47 : decode cX2_tellMark 47 = .ok (.iload_n 1, 1) := by decide +kernel
theorem dX2_tellMark_48 : decode cX2_tellMark 48 = .ok (.aaload, 1) := by decide +kernel
theorem dX2_tellMark_49 : decode cX2_tellMark 49 = .ok (.getfield 111, 3) := by decide +kernel
theorem dX2_tellMark_52 : decode cX2_tellMark 52 = .ok (.iload_n 2, 1) := by decide +kernel
theorem dX2_tellMark_53 : decode cX2_tellMark 53 = .ok (.iaload, 1) := by decide +kernel
theorem dX2_tellMark_54 : decode cX2_tellMark 54 = .ok (.invokestatic 208, 3) := by decide +kernel
theorem dX2_tellMark_57 : decode cX2_tellMark 57 = .ok (.ireturn, 1) := by decide +kernel
theorem dX2_tellName_0 : decode cX2_tellName 0 = .ok (.iload_n 1, 1) := by decide +kernel
theorem dX2_tellName_1 : decode cX2_tellName 1 = .ok (.invokestatic 107, 3) := by decide +kernel
theorem dX2_tellName_4 : decode cX2_tellName 4 = .ok (.ifCond .ne 5, 3) := by decide +kernel
theorem dX2_tellName_7 : decode cX2_tellName 7 = .ok (.iconst (-1), 1) := by decide +kernel
theorem dX2_tellName_8 : decode cX2_tellName 8 = .ok (.ireturn, 1) := by decide +kernel
theorem dX2_tellName_9 : decode cX2_tellName 9 = .ok (.aload_n 0, 1) := by decide +kernel
theorem dX2_tellName_10 : decode cX2_tellName 10 = .ok (.getfield 40, 3) := by decide +kernel
theorem dX2_tellName_13 : decode cX2_tellName 13 = .ok (.getfield 111, 3) := by decide +kernel
theorem dX2_tellName_16 : decode cX2_tellName 16 = .ok (.iload_n 1, 1) := by decide +kernel
theorem dX2_tellName_17 : decode cX2_tellName 17 = .ok (.iaload, 1) := by decide +kernel
theorem dX2_tellName_18 : decode cX2_tellName 18 = .ok (.istore_n 3, 1) := by decide +kernel
theorem dX2_tellName_19 : decode cX2_tellName 19 = .ok (.aload_n 0, 1) := by decide +kernel
theorem dX2_tellName_20 : decode cX2_tellName 20 = .ok (.getfield 40, 3) := by decide +kernel
theorem dX2_tellName_23 : decode cX2_tellName 23 = .ok (.getfield 150, 3) := by decide +kernel
theorem dX2_tellName_26 : decode cX2_tellName 26 = .ok (.iload_n 1, 1) := by decide +kernel
theorem dX2_tellName_27 : decode cX2_tellName 27 = .ok (.iaload, 1) := by decide +kernel
theorem dX2_tellName_28 : decode cX2_tellName 28 = .ok (.istore 4, 2) := by decide +kernel
theorem dX2_tellName_30 : decode cX2_tellName 30 = .ok (.iload_n 3, 1) := by decide +kernel
theorem dX2_tellName_31 : decode cX2_tellName 31 = .ok (.iconst (-1), 1) := by decide +kernel
theorem dX2_tellName_32 : decode cX2_tellName 32 = .ok (.if_icmp .ne 8, 3) := by decide +kernel
theorem dX2_tellName_35 : decode cX2_tellName 35 = .ok (.iload 4, 2) := by decide +kernel
theorem dX2_tellName_37 : decode cX2_tellName 37 = .ok (.goto 11, 3) := by decide +kernel
theorem dX2_tellName_40 : decode cX2_tellName 40 = .ok (.aload_n 0, 1) := by decide +kernel
theorem dX2_tellName_41 : decode cX2_tellName 41 = .ok (.getfield 47, 3) := by decide +kernel
theorem dX2_tellName_44 : decode cX2_tellName 44 = .ok (.iload_n 3, 1) := by decide +kernel
theorem dX2_tellName_45 : decode cX2_tellName 45 = .ok (.invokevirtual 125, 3) := by decide +kernel
theorem dX2_tellName_48 : decode cX2_tellName 48 = .ok (.istore 5, 2) := by decide +kernel
theorem dX2_tellName_50 : decode cX2_tellName 50 = .ok (.iload_n 2, 1) := by decide +kernel
theorem dX2_tellName_51 : decode cX2_tellName 51 = .ok (.tableswitch 82 0 4 #[33, 49, 54, 57, 79], 33) := by decide +kernel
theorem dX2_tellName_84 : decode cX2_tellName 84 = .ok (.aload_n 0, 1) := by decide +kernel
theorem dX2_tellName_85 : decode cX2_tellName 85 = .ok (.iload_n 1, 1) := by decide +kernel
theorem dX2_tellName_86 : decode cX2_tellName 86 = .ok (.invokevirtual 205, 3) := by decide +kernel
theorem dX2_tellName_89 : decode cX2_tellName 89 = .ok (.ifCond .eq 8, 3) := by decide +kernel
theorem dX2_tellName_92 : decode cX2_tellName 92 = .ok (.bipush (-4), 2) := by decide +kernel
theorem dX2_tellName_94 : decode cX2_tellName 94 = .ok (.goto 5, 3) := by decide +kernel
theorem dX2_tellName_97 : decode cX2_tellName 97 = .ok (.iload 5, 2) := by decide +kernel
theorem dX2_tellName_99 : decode cX2_tellName 99 = .ok (.ireturn, 1) := by decide +kernel
theorem dX2_tellName_100 : decode cX2_tellName 100 = .ok (.iload_n 3, 1) := by decide +kernel
theorem dX2_tellName_101 : decode cX2_tellName 101 = .ok (.invokestatic 208, 3) := by decide +kernel
theorem dX2_tellName_104 : decode cX2_tellName 104 = .ok (.ireturn, 1) := by decide +kernel
theorem dX2_tellName_105 : decode cX2_tellName 105 = .ok (.iload 4, 2) := by decide +kernel
theorem dX2_tellName_107 : decode cX2_tellName 107 = .ok (.ireturn, 1) := by decide +kernel
theorem dX2_tellName_108 : decode cX2_tellName 108 = .ok (.iload_n 3, 1) := by decide +kernel
theorem dX2_tellName_109 : decode cX2_tellName 109 = .ok (.iconst (-1), 1) := by decide +kernel
theorem dX2_tellName_110 : decode cX2_tellName 110 = .ok (.if_icmp .ne 8, 3) := by decide +kernel
theorem dX2_tellName_113 : decode cX2_tellName 113 = .ok (.bipush (-4), 2) := by decide +kernel
theorem dX2_tellName_115 : decode cX2_tellName 115 = .ok (.goto 14, 3) := by decide +kernel
theorem dX2_tellName_118 : decode cX2_tellName 118 = .ok (.aload_n 0, 1) := by decide +kernel
theorem dX2_tellName_119 : decode cX2_tellName 119 = .ok (.getfield 40, 3) := by decide +kernel
theorem dX2_tellName_122 : decode cX2_tellName 122 = .ok (.iload_n 3, 1) := by decide +kernel
theorem dX2_tellName_123 : decode cX2_tellName 123 = .ok (.invokevirtual 211, 3) := by decide +kernel
theorem dX2_tellName_126 : decode cX2_tellName 126 = .ok (.invokestatic 214, 3) := by decide +kernel
theorem dX2_tellName_129 : decode cX2_tellName 129 = .ok (.ireturn, 1) := by decide +kernel
theorem dX2_tellName_130 : decode cX2_tellName 130 = .ok (.iload 5, 2) := by decide +kernel
theorem dX2_tellName_132 : decode cX2_tellName 132 = .ok (.ireturn, 1) := by decide +kernel
theorem dX2_tellName_133 : decode cX2_tellName 133 = .ok (.iconst (-1), 1) := by decide +kernel
theorem dX2_tellName_134 : decode cX2_tellName 134 = .ok (.ireturn, 1) := by decide +kernel
theorem dX2_tellChair_0 : decode cX2_tellChair 0 = .ok (.iload_n 1, 1) := by decide +kernel
theorem dX2_tellChair_1 : decode cX2_tellChair 1 = .ok (.iconst 0, 1) := by decide +kernel
theorem dX2_tellChair_2 : decode cX2_tellChair 2 = .ok (.aload_n 0, 1) := by decide +kernel
theorem dX2_tellChair_3 : decode cX2_tellChair 3 = .ok (.getfield 9, 3) := by decide +kernel
theorem dX2_tellChair_6 : decode cX2_tellChair 6 = .ok (.iconst 1, 1) := by decide +kernel
theorem dX2_tellChair_7 : decode cX2_tellChair 7 = .ok (.isub, 1) := by decide +kernel
theorem dX2_tellChair_8 : decode cX2_tellChair 8 = .ok (.invokestatic 97, 3) := by decide +kernel
theorem dX2_tellChair_11 : decode cX2_tellChair 11 = .ok (.ifCond .eq 12, 3) := by decide +kernel
theorem dX2_tellChair_14 : decode cX2_tellChair 14 = .ok (.iload_n 2, 1) := by decide +kernel
theorem dX2_tellChair_15 : decode cX2_tellChair 15 = .ok (.iconst 0, 1) := by decide +kernel
theorem dX2_tellChair_16 : decode cX2_tellChair 16 = .ok (.iconst 5, 1) := by decide +kernel
theorem dX2_tellChair_17 : decode cX2_tellChair 17 = .ok (.invokestatic 97, 3) := by decide +kernel
theorem dX2_tellChair_20 : decode cX2_tellChair 20 = .ok (.ifCond .ne 5, 3) := by decide +kernel
theorem dX2_tellChair_23 : decode cX2_tellChair 23 = .ok (.iconst (-1), 1) := by decide +kernel
theorem dX2_tellChair_24 : decode cX2_tellChair 24 = .ok (.ireturn, 1) := by decide +kernel
theorem dX2_tellChair_25 : decode cX2_tellChair 25 = .ok (.aload_n 0, 1) := by decide +kernel
theorem dX2_tellChair_26 : decode cX2_tellChair 26 = .ok (.invokevirtual 153, 3) := by decide +kernel
theorem dX2_tellChair_29 : decode cX2_tellChair 29 = .ok (.istore_n 3, 1) := by decide +kernel
theorem dX2_tellChair_30 : decode cX2_tellChair 30 = .ok (.aload_n 0, 1) := by decide +kernel
theorem dX2_tellChair_31 : decode cX2_tellChair 31 = .ok (.getfield 40, 3) := by decide +kernel
theorem dX2_tellChair_34 : decode cX2_tellChair 34 = .ok (.invokevirtual 156, 3) := by decide +kernel
theorem dX2_tellChair_37 : decode cX2_tellChair 37 = .ok (.istore 4, 2) := by decide +kernel
theorem dX2_tellChair_39 : decode cX2_tellChair 39 = .ok (.iload_n 3, 1) := by decide +kernel
theorem dX2_tellChair_40 : decode cX2_tellChair 40 = .ok (.iload 4, 2) := by decide +kernel
theorem dX2_tellChair_42 : decode cX2_tellChair 42 = .ok (.ior, 1) := by decide +kernel
theorem dX2_tellChair_43 : decode cX2_tellChair 43 = .ok (.iload_n 1, 1) := by decide +kernel
theorem dX2_tellChair_44 : decode cX2_tellChair 44 = .ok (.ishr, 1) := by decide +kernel
theorem dX2_tellChair_45 : decode cX2_tellChair 45 = .ok (.iconst 1, 1) := by decide +kernel
theorem dX2_tellChair_46 : decode cX2_tellChair 46 = .ok (.iand, 1) := by decide +kernel
theorem dX2_tellChair_47 : decode cX2_tellChair 47 = .ok (.ifCond .ne 6, 3) := by decide +kernel
theorem dX2_tellChair_50 : decode cX2_tellChair 50 = .ok (.bipush (-4), 2) := by decide +kernel
theorem dX2_tellChair_52 : decode cX2_tellChair 52 = .ok (.ireturn, 1) := by decide +kernel
theorem dX2_tellChair_53 : decode cX2_tellChair 53 = .ok (.iload_n 2, 1) := by decide +kernel
theorem dX2_tellChair_54 : decode cX2_tellChair 54 = .ok (.tableswitch 97 0 4 #[34, 56, 65, 71, 80], 34) := by decide +kernel
theorem dX2_tellChair_88 : decode cX2_tellChair 88 = .ok (.aload_n 0, 1) := by decide +kernel
theorem dX2_tellChair_89 : decode cX2_tellChair 89 = .ok (.iload_n 1, 1) := by decide +kernel
theorem dX2_tellChair_90 : decode cX2_tellChair 90 = .ok (.invokevirtual 219, 3) := by decide +kernel
theorem dX2_tellChair_93 : decode cX2_tellChair 93 = .ok (.ifCond .eq 14, 3) := by decide +kernel
theorem dX2_tellChair_96 : decode cX2_tellChair 96 = .ok (.aload_n 0, 1) := by decide +kernel
theorem dX2_tellChair_97 : decode cX2_tellChair 97 = .ok (.getfield 47, 3) := by decide +kernel
theorem dX2_tellChair_100 : decode cX2_tellChair 100 = .ok (.iload_n 1, 1) := by decide +kernel
theorem dX2_tellChair_101 : decode cX2_tellChair 101 = .ok (.invokevirtual 125, 3) := by decide +kernel
theorem dX2_tellChair_104 : decode cX2_tellChair 104 = .ok (.goto 5, 3) := by decide +kernel
theorem dX2_tellChair_107 : decode cX2_tellChair 107 = .ok (.bipush (-4), 2) := by decide +kernel
theorem dX2_tellChair_109 : decode cX2_tellChair 109 = .ok (.ireturn, 1) := by decide +kernel
theorem dX2_tellChair_110 : decode cX2_tellChair 110 = .ok (.aload_n 0, 1) := by decide +kernel
theorem dX2_tellChair_111 : decode cX2_tellChair 111 = .ok (.getfield 40, 3) := by decide +kernel
theorem dX2_tellChair_114 : decode cX2_tellChair 114 = .ok (.iload_n 1, 1) := by decide +kernel
theorem dX2_tellChair_115 : decode cX2_tellChair 115 = .ok (.invokevirtual 211, 3) := by decide +kernel
theorem dX2_tellChair_118 : decode cX2_tellChair 118 = .ok (.ireturn, 1) := by decide +kernel
theorem dX2_tellChair_119 : decode cX2_tellChair 119 = .ok (.aload_n 0, 1) := by decide +kernel
theorem dX2_tellChair_120 : decode cX2_tellChair 120 = .ok (.iload_n 1, 1) := by decide +kernel
theorem dX2_tellChair_121 : decode cX2_tellChair 121 = .ok (.invokevirtual 222, 3) := by decide +kernel
theorem dX2_tellChair_124 : decode cX2_tellChair 124 = .ok (.ireturn, 1) := by decide +kernel
theorem dX2_tellChair_125 : decode cX2_tellChair 125 = .ok (.aload_n 0, 1) := by decide +kernel
theorem dX2_tellChair_126 : decode cX2_tellChair 126 = .ok (.getfield 54, 3) := by decide +kernel
theorem dX2_tellChair_129 : decode cX2_tellChair 129 = .ok (.iload_n 1, 1) := by decide +kernel
theorem dX2_tellChair_130 : decode cX2_tellChair 130 = .ok (.invokevirtual 225, 3) := by decide +kernel
theorem dX2_tellChair_133 : decode cX2_tellChair 133 = .ok (.ireturn, 1) := by decide +kernel
theorem dX2_tellChair_134 : decode cX2_tellChair 134 = .ok (.aload_n 0, 1) := by decide +kernel
theorem dX2_tellChair_135 : decode cX2_tellChair 135 = .ok (.getfield 54, 3) := by decide +kernel
theorem dX2_tellChair_138 : decode cX2_tellChair 138 = .ok (.iload_n 1, 1) := by decide +kernel
theorem dX2_tellChair_139 : decode cX2_tellChair 139 = .ok (.invokevirtual 228, 3) := by decide +kernel
theorem dX2_tellChair_142 : decode cX2_tellChair 142 = .ok (.ifCond .eq 7, 3) := by decide +kernel
theorem dX2_tellChair_145 : decode cX2_tellChair 145 = .ok (.iconst 1, 1) := by decide +kernel
theorem dX2_tellChair_146 : decode cX2_tellChair 146 = .ok (.goto 4, 3) := by decide +kernel
theorem dX2_tellChair_149 : decode cX2_tellChair 149 = .ok (.iconst 0, 1) := by decide +kernel
theorem dX2_tellChair_150 : decode cX2_tellChair 150 = .ok (.ireturn, 1) := by decide +kernel
theorem dX2_tellChair_151 : decode cX2_tellChair 151 = .ok (.aload_n 0, 1) := by decide +kernel
theorem dX2_tellChair_152 : decode cX2_tellChair 152 = .ok (.iload 4, 2) := by decide +kernel
theorem dX2_tellChair_154 : decode cX2_tellChair 154 = .ok (.iload_n 3, 1) := by decide +kernel
theorem dX2_tellChair_155 : decode cX2_tellChair 155 = .ok (.iconst (-1), 1) := by decide +kernel
theorem dX2_tellChair_156 : decode cX2_tellChair 156 = .ok (.ixor, 1) := by decide +kernel
theorem dX2_tellChair_157 : decode cX2_tellChair 157 = .ok (.iand, 1) := by decide +kernel
theorem dX2_tellChair_158 : decode cX2_tellChair 158 = .ok (.invokevirtual 165, 3) := by decide +kernel
theorem dX2_tellChair_161 : decode cX2_tellChair 161 = .ok (.iload_n 1, 1) := by decide +kernel
theorem dX2_tellChair_162 : decode cX2_tellChair 162 = .ok (.if_icmp .ne 7, 3) := by decide +kernel
theorem dX2_tellChair_165 : decode cX2_tellChair 165 = .ok (.iconst 1, 1) := by decide +kernel
theorem dX2_tellChair_166 : decode cX2_tellChair 166 = .ok (.goto 4, 3) := by decide +kernel
theorem dX2_tellChair_169 : decode cX2_tellChair 169 = .ok (.iconst 0, 1) := by decide +kernel
theorem dX2_tellChair_170 : decode cX2_tellChair 170 = .ok (.ireturn, 1) := by decide +kernel
theorem dX2_tellOrder_0 : decode cX2_tellOrder 0 = .ok (.aload_n 0, 1) := by decide +kernel
theorem dX2_tellOrder_1 : decode cX2_tellOrder 1 = .ok (.getfield 54, 3) := by decide +kernel
theorem dX2_tellOrder_4 : decode cX2_tellOrder 4 = .ok (.iload_n 1, 1) := by decide +kernel
theorem dX2_tellOrder_5 : decode cX2_tellOrder 5 = .ok (.invokevirtual 231, 3) := by decide +kernel
theorem dX2_tellOrder_8 : decode cX2_tellOrder 8 = .ok (.ifCond .ne 5, 3) := by decide +kernel
theorem dX2_tellOrder_11 : decode cX2_tellOrder 11 = .ok (.iconst (-1), 1) := by decide +kernel
theorem dX2_tellOrder_12 : decode cX2_tellOrder 12 = .ok (.ireturn, 1) := by decide +kernel
theorem dX2_tellOrder_13 : decode cX2_tellOrder 13 = .ok (.iload_n 2, 1) := by decide +kernel
theorem dX2_tellOrder_14 : decode cX2_tellOrder 14 = .ok (.tableswitch 141 0 6 #[42, 52, 62, 72, 82, 96, 131], 42) := by decide +kernel
theorem dX2_tellOrder_56 : decode cX2_tellOrder 56 = .ok (.aload_n 0, 1) := by decide +kernel
theorem dX2_tellOrder_57 : decode cX2_tellOrder 57 = .ok (.getfield 54, 3) := by decide +kernel
theorem dX2_tellOrder_60 : decode cX2_tellOrder 60 = .ok (.getfield 199, 3) := by decide +kernel
theorem dX2_tellOrder_63 : decode cX2_tellOrder 63 = .ok (.iload_n 1, 1) := by decide +kernel
theorem dX2_tellOrder_64 : decode cX2_tellOrder 64 = .ok (.iaload, 1) := by decide +kernel
theorem dX2_tellOrder_65 : decode cX2_tellOrder 65 = .ok (.ireturn, 1) := by decide +kernel
theorem dX2_tellOrder_66 : decode cX2_tellOrder 66 = .ok (.aload_n 0, 1) := by decide +kernel
theorem dX2_tellOrder_67 : decode cX2_tellOrder 67 = .ok (.getfield 54, 3) := by decide +kernel
theorem dX2_tellOrder_70 : decode cX2_tellOrder 70 = .ok (.getfield 186, 3) := by decide +kernel
theorem dX2_tellOrder_73 : decode cX2_tellOrder 73 = .ok (.iload_n 1, 1) := by decide +kernel
theorem dX2_tellOrder_74 : decode cX2_tellOrder 74 = .ok (.iaload, 1) := by decide +kernel
theorem dX2_tellOrder_75 : decode cX2_tellOrder 75 = .ok (.ireturn, 1) := by decide +kernel
theorem dX2_tellOrder_76 : decode cX2_tellOrder 76 = .ok (.aload_n 0, 1) := by decide +kernel
theorem dX2_tellOrder_77 : decode cX2_tellOrder 77 = .ok (.getfield 54, 3) := by decide +kernel
theorem dX2_tellOrder_80 : decode cX2_tellOrder 80 = .ok (.getfield 193, 3) := by decide +kernel
theorem dX2_tellOrder_83 : decode cX2_tellOrder 83 = .ok (.iload_n 1, 1) := by decide +kernel
theorem dX2_tellOrder_84 : decode cX2_tellOrder 84 = .ok (.iaload, 1) := by decide +kernel
theorem dX2_tellOrder_85 : decode cX2_tellOrder 85 = .ok (.ireturn, 1) := by decide +kernel
theorem dX2_tellOrder_86 : decode cX2_tellOrder 86 = .ok (.aload_n 0, 1) := by decide +kernel
theorem dX2_tellOrder_87 : decode cX2_tellOrder 87 = .ok (.getfield 54, 3) := by decide +kernel
theorem dX2_tellOrder_90 : decode cX2_tellOrder 90 = .ok (.getfield 196, 3) := by decide +kernel
theorem dX2_tellOrder_93 : decode cX2_tellOrder 93 = .ok (.iload_n 1, 1) := by decide +kernel
theorem dX2_tellOrder_94 : decode cX2_tellOrder 94 = .ok (.iaload, 1) := by decide +kernel
theorem dX2_tellOrder_95 : decode cX2_tellOrder 95 = .ok (.ireturn, 1) := by decide +kernel
theorem dX2_tellOrder_96 : decode cX2_tellOrder 96 = .ok (.aload_n 0, 1) := by decide +kernel
theorem dX2_tellOrder_97 : decode cX2_tellOrder 97 = .ok (.iload_n 1, 1) := by decide +kernel
theorem dX2_tellOrder_98 : decode cX2_tellOrder 98 = .ok (.invokevirtual 234, 3) := by decide +kernel
theorem dX2_tellOrder_101 : decode cX2_tellOrder 101 = .ok (.ifCond .eq 7, 3) := by decide +kernel
theorem dX2_tellOrder_104 : decode cX2_tellOrder 104 = .ok (.iconst 1, 1) := by decide +kernel
theorem dX2_tellOrder_105 : decode cX2_tellOrder 105 = .ok (.goto 4, 3) := by decide +kernel
theorem dX2_tellOrder_108 : decode cX2_tellOrder 108 = .ok (.iconst 0, 1) := by decide +kernel
theorem dX2_tellOrder_109 : decode cX2_tellOrder 109 = .ok (.ireturn, 1) := by decide +kernel
theorem dX2_tellOrder_110 : decode cX2_tellOrder 110 = .ok (.aload_n 0, 1) := by decide +kernel
theorem dX2_tellOrder_111 : decode cX2_tellOrder 111 = .ok (.iload_n 1, 1) := by decide +kernel
theorem dX2_tellOrder_112 : decode cX2_tellOrder 112 = .ok (.invokevirtual 234, 3) := by decide +kernel
theorem dX2_tellOrder_115 : decode cX2_tellOrder 115 = .ok (.ifCond .eq 27, 3) := by decide +kernel
theorem dX2_tellOrder_118 : decode cX2_tellOrder 118 = .ok (.aload_n 0, 1) := by decide +kernel
theorem dX2_tellOrder_119 : decode cX2_tellOrder 119 = .ok (.getfield 47, 3) := by decide +kernel
theorem dX2_tellOrder_122 : decode cX2_tellOrder 122 = .ok (.aload_n 0, 1) := by decide +kernel
theorem dX2_tellOrder_123 : decode cX2_tellOrder 123 = .ok (.getfield 54, 3) := by decide +kernel
theorem dX2_tellOrder_126 : decode cX2_tellOrder 126 = .ok (.getfield 186, 3) := by decide +kernel
theorem dX2_tellOrder_129 : decode cX2_tellOrder 129 = .ok (.iload_n 1, 1) := by decide +kernel
theorem dX2_tellOrder_130 : decode cX2_tellOrder 130 = .ok (.iaload, 1) := by decide +kernel
theorem dX2_tellOrder_131 : decode cX2_tellOrder 131 = .ok (.invokevirtual 187, 3) := by decide +kernel
theorem dX2_tellOrder_134 : decode cX2_tellOrder 134 = .ok (.aload_n 0, 1) := by decide +kernel
theorem dX2_tellOrder_135 : decode cX2_tellOrder 135 = .ok (.getfield 15, 3) := by decide +kernel
theorem dX2_tellOrder_138 : decode cX2_tellOrder 138 = .ok (.isub, 1) := by decide +kernel
theorem dX2_tellOrder_139 : decode cX2_tellOrder 139 = .ok (.goto 5, 3) := by decide +kernel
theorem dX2_tellOrder_142 : decode cX2_tellOrder 142 = .ok (.bipush (-4), 2) := by decide +kernel
theorem dX2_tellOrder_144 : decode cX2_tellOrder 144 = .ok (.ireturn, 1) := by decide +kernel
theorem dX2_tellOrder_145 : decode cX2_tellOrder 145 = .ok (.aload_n 0, 1) := by decide +kernel
theorem dX2_tellOrder_146 : decode cX2_tellOrder 146 = .ok (.getfield 54, 3) := by decide +kernel
theorem dX2_tellOrder_149 : decode cX2_tellOrder 149 = .ok (.getfield 237, 3) := by decide +kernel
theorem dX2_tellOrder_152 : decode cX2_tellOrder 152 = .ok (.iload_n 1, 1) := by decide +kernel
theorem dX2_tellOrder_153 : decode cX2_tellOrder 153 = .ok (.iaload, 1) := by decide +kernel
theorem dX2_tellOrder_154 : decode cX2_tellOrder 154 = .ok (.ireturn, 1) := by decide +kernel
theorem dX2_tellOrder_155 : decode cX2_tellOrder 155 = .ok (.iconst (-1), 1) := by decide +kernel
theorem dX2_tellOrder_156 : decode cX2_tellOrder 156 = .ok (.ireturn, 1) := by decide +kernel
theorem dX2_tellNumber_0 : decode cX2_tellNumber 0 = .ok (.iload_n 1, 1) := by decide +kernel
theorem dX2_tellNumber_1 : decode cX2_tellNumber 1 = .ok (.tableswitch 134 0 9 #[55, 60, 81, 96, 104, 109, 114, 119, 124, 129], 55) := by decide +kernel
theorem dX2_tellNumber_56 : decode cX2_tellNumber 56 = .ok (.aload_n 0, 1) := by decide +kernel
theorem dX2_tellNumber_57 : decode cX2_tellNumber 57 = .ok (.getfield 9, 3) := by decide +kernel
theorem dX2_tellNumber_60 : decode cX2_tellNumber 60 = .ok (.ireturn, 1) := by decide +kernel
theorem dX2_tellNumber_61 : decode cX2_tellNumber 61 = .ok (.aload_n 0, 1) := by decide +kernel
theorem dX2_tellNumber_62 : decode cX2_tellNumber 62 = .ok (.getfield 9, 3) := by decide +kernel
theorem dX2_tellNumber_65 : decode cX2_tellNumber 65 = .ok (.aload_n 0, 1) := by decide +kernel
theorem dX2_tellNumber_66 : decode cX2_tellNumber 66 = .ok (.invokevirtual 153, 3) := by decide +kernel
theorem dX2_tellNumber_69 : decode cX2_tellNumber 69 = .ok (.aload_n 0, 1) := by decide +kernel
theorem dX2_tellNumber_70 : decode cX2_tellNumber 70 = .ok (.getfield 40, 3) := by decide +kernel
theorem dX2_tellNumber_73 : decode cX2_tellNumber 73 = .ok (.invokevirtual 156, 3) := by decide +kernel
theorem dX2_tellNumber_76 : decode cX2_tellNumber 76 = .ok (.ior, 1) := by decide +kernel
theorem dX2_tellNumber_77 : decode cX2_tellNumber 77 = .ok (.invokestatic 214, 3) := by decide +kernel
theorem dX2_tellNumber_80 : decode cX2_tellNumber 80 = .ok (.isub, 1) := by decide +kernel
theorem dX2_tellNumber_81 : decode cX2_tellNumber 81 = .ok (.ireturn, 1) := by decide +kernel
theorem dX2_tellNumber_82 : decode cX2_tellNumber 82 = .ok (.bipush 8, 2) := by decide +kernel
theorem dX2_tellNumber_84 : decode cX2_tellNumber 84 = .ok (.aload_n 0, 1) := by decide +kernel
theorem dX2_tellNumber_85 : decode cX2_tellNumber 85 = .ok (.getfield 40, 3) := by decide +kernel
theorem dX2_tellNumber_88 : decode cX2_tellNumber 88 = .ok (.iconst (-1), 1) := by decide +kernel
theorem dX2_tellNumber_89 : decode cX2_tellNumber 89 = .ok (.invokevirtual 211, 3) := by decide +kernel
theorem dX2_tellNumber_92 : decode cX2_tellNumber 92 = .ok (.invokestatic 214, 3) := by decide +kernel
theorem dX2_tellNumber_95 : decode cX2_tellNumber 95 = .ok (.isub, 1) := by decide +kernel
theorem dX2_tellNumber_96 : decode cX2_tellNumber 96 = .ok (.ireturn, 1) := by decide +kernel
theorem dX2_tellNumber_97 : decode cX2_tellNumber 97 = .ok (.aload_n 0, 1) := by decide +kernel
theorem dX2_tellNumber_98 : decode cX2_tellNumber 98 = .ok (.getfield 54, 3) := by decide +kernel
theorem dX2_tellNumber_101 : decode cX2_tellNumber 101 = .ok (.getfield 101, 3) := by decide +kernel
theorem dX2_tellNumber_104 : decode cX2_tellNumber 104 = .ok (.ireturn, 1) := by decide +kernel
theorem dX2_tellNumber_105 : decode cX2_tellNumber 105 = .ok (.aload_n 0, 1) := by decide +kernel
theorem dX2_tellNumber_106 : decode cX2_tellNumber 106 = .ok (.invokevirtual 239, 3) := by decide +kernel
theorem dX2_tellNumber_109 : decode cX2_tellNumber 109 = .ok (.ireturn, 1) := by decide +kernel
theorem dX2_tellNumber_110 : decode cX2_tellNumber 110 = .ok (.aload_n 0, 1) := by decide +kernel
theorem dX2_tellNumber_111 : decode cX2_tellNumber 111 = .ok (.getfield 18, 3) := by decide +kernel
theorem dX2_tellNumber_114 : decode cX2_tellNumber 114 = .ok (.ireturn, 1) := by decide +kernel
theorem dX2_tellNumber_115 : decode cX2_tellNumber 115 = .ok (.aload_n 0, 1) := by decide +kernel
theorem dX2_tellNumber_116 : decode cX2_tellNumber 116 = .ok (.getfield 15, 3) := by decide +kernel
theorem dX2_tellNumber_119 : decode cX2_tellNumber 119 = .ok (.ireturn, 1) := by decide +kernel
theorem dX2_tellNumber_120 : decode cX2_tellNumber 120 = .ok (.aload_n 0, 1) := by decide +kernel
theorem dX2_tellNumber_121 : decode cX2_tellNumber 121 = .ok (.getfield 30, 3) := by decide +kernel
theorem dX2_tellNumber_124 : decode cX2_tellNumber 124 = .ok (.ireturn, 1) := by decide +kernel
theorem dX2_tellNumber_125 : decode cX2_tellNumber 125 = .ok (.aload_n 0, 1) := by decide +kernel
theorem dX2_tellNumber_126 : decode cX2_tellNumber 126 = .ok (.getfield 21, 3) := by decide +kernel
theorem dX2_tellNumber_129 : decode cX2_tellNumber 129 = .ok (.ireturn, 1) := by decide +kernel
theorem dX2_tellNumber_130 : decode cX2_tellNumber 130 = .ok (.aload_n 0, 1) := by decide +kernel
theorem dX2_tellNumber_131 : decode cX2_tellNumber 131 = .ok (.getfield 24, 3) := by decide +kernel
theorem dX2_tellNumber_134 : decode cX2_tellNumber 134 = .ok (.ireturn, 1) := by decide +kernel
theorem dX2_tellNumber_135 : decode cX2_tellNumber 135 = .ok (.iload_n 1, 1) := by decide +kernel
theorem dX2_tellNumber_136 : decode cX2_tellNumber 136 = .ok (.bipush 20, 2) := by decide +kernel
theorem dX2_tellNumber_138 : decode cX2_tellNumber 138 = .ok (.bipush 23, 2) := by decide +kernel
theorem dX2_tellNumber_140 : decode cX2_tellNumber 140 = .ok (.invokestatic 97, 3) := by decide +kernel
theorem dX2_tellNumber_143 : decode cX2_tellNumber 143 = .ok (.ifCond .eq 15, 3) := by decide +kernel
theorem dX2_tellNumber_146 : decode cX2_tellNumber 146 = .ok (.aload_n 0, 1) := by decide +kernel
theorem dX2_tellNumber_147 : decode cX2_tellNumber 147 = .ok (.getfield 33, 3) := by decide +kernel
theorem dX2_tellNumber_150 : decode cX2_tellNumber 150 = .ok (.iload_n 1, 1) := by decide +kernel
theorem dX2_tellNumber_151 : decode cX2_tellNumber 151 = .ok (.bipush 20, 2) := by decide +kernel
theorem dX2_tellNumber_153 : decode cX2_tellNumber 153 = .ok (.isub, 1) := by decide +kernel
theorem dX2_tellNumber_154 : decode cX2_tellNumber 154 = .ok (.iaload, 1) := by decide +kernel
theorem dX2_tellNumber_155 : decode cX2_tellNumber 155 = .ok (.goto 4, 3) := by decide +kernel
theorem dX2_tellNumber_158 : decode cX2_tellNumber 158 = .ok (.iconst (-1), 1) := by decide +kernel
theorem dX2_tellNumber_159 : decode cX2_tellNumber 159 = .ok (.ireturn, 1) := by decide +kernel
theorem dX2_found_0 : decode cX2_found 0 = .ok (.iload_n 0, 1) := by decide +kernel
theorem dX2_found_1 : decode cX2_found 1 = .ok (.iconst (-1), 1) := by decide +kernel
theorem dX2_found_2 : decode cX2_found 2 = .ok (.if_icmp .ne 8, 3) := by decide +kernel
theorem dX2_found_5 : decode cX2_found 5 = .ok (.bipush (-4), 2) := by decide +kernel
theorem dX2_found_7 : decode cX2_found 7 = .ok (.goto 4, 3) := by decide +kernel
theorem dX2_found_10 : decode cX2_found 10 = .ok (.iload_n 0, 1) := by decide +kernel
theorem dX2_found_11 : decode cX2_found 11 = .ok (.ireturn, 1) := by decide +kernel
theorem dX2_isMark_0 : decode cX2_isMark 0 = .ok (.iload_n 1, 1) := by decide +kernel
theorem dX2_isMark_1 : decode cX2_isMark 1 = .ok (.ifCond .lt 20, 3) := by decide +kernel
theorem dX2_isMark_4 : decode cX2_isMark 4 = .ok (.iload_n 1, 1) := by decide +kernel
theorem dX2_isMark_5 : decode cX2_isMark 5 = .ok (.aload_n 0, 1) := by decide +kernel
theorem dX2_isMark_6 : decode cX2_isMark 6 = .ok (.getfield 30, 3) := by decide +kernel
theorem dX2_isMark_9 : decode cX2_isMark 9 = .ok (.if_icmp .ge 12, 3) := by decide +kernel
theorem dX2_isMark_12 : decode cX2_isMark 12 = .ok (.iload_n 1, 1) := by decide +kernel
theorem dX2_isMark_13 : decode cX2_isMark 13 = .ok (.iconst 3, 1) := by decide +kernel
theorem dX2_isMark_14 : decode cX2_isMark 14 = .ok (.if_icmp .ge 7, 3) := by decide +kernel
theorem dX2_isMark_17 : decode cX2_isMark 17 = .ok (.iconst 1, 1) := by decide +kernel
theorem dX2_isMark_18 : decode cX2_isMark 18 = .ok (.goto 4, 3) := by decide +kernel
theorem dX2_isMark_21 : decode cX2_isMark 21 = .ok (.iconst 0, 1) := by decide +kernel
theorem dX2_isMark_22 : decode cX2_isMark 22 = .ok (.ireturn, 1) := by decide +kernel
theorem dX2_isKnown_0 : decode cX2_isKnown 0 = .ok (.aload_n 0, 1) := by decide +kernel
theorem dX2_isKnown_1 : decode cX2_isKnown 1 = .ok (.getfield 47, 3) := by decide +kernel
theorem dX2_isKnown_4 : decode cX2_isKnown 4 = .ok (.iload_n 1, 1) := by decide +kernel
theorem dX2_isKnown_5 : decode cX2_isKnown 5 = .ok (.invokevirtual 187, 3) := by decide +kernel
theorem dX2_isKnown_8 : decode cX2_isKnown 8 = .ok (.aload_n 0, 1) := by decide +kernel
theorem dX2_isKnown_9 : decode cX2_isKnown 9 = .ok (.getfield 15, 3) := by decide +kernel
theorem dX2_isKnown_12 : decode cX2_isKnown 12 = .ok (.if_icmp .gt 7, 3) := by decide +kernel
theorem dX2_isKnown_15 : decode cX2_isKnown 15 = .ok (.iconst 1, 1) := by decide +kernel
theorem dX2_isKnown_16 : decode cX2_isKnown 16 = .ok (.goto 4, 3) := by decide +kernel
theorem dX2_isKnown_19 : decode cX2_isKnown 19 = .ok (.iconst 0, 1) := by decide +kernel
theorem dX2_isKnown_20 : decode cX2_isKnown 20 = .ok (.ireturn, 1) := by decide +kernel
theorem dX2_hidesValue_0 : decode cX2_hidesValue 0 = .ok (.aload_n 0, 1) := by decide +kernel
theorem dX2_hidesValue_1 : decode cX2_hidesValue 1 = .ok (.getfield 40, 3) := by decide +kernel
theorem dX2_hidesValue_4 : decode cX2_hidesValue 4 = .ok (.getfield 111, 3) := by decide +kernel
theorem dX2_hidesValue_7 : decode cX2_hidesValue 7 = .ok (.iload_n 1, 1) := by decide +kernel
theorem dX2_hidesValue_8 : decode cX2_hidesValue 8 = .ok (.iaload, 1) := by decide +kernel
theorem dX2_hidesValue_9 : decode cX2_hidesValue 9 = .ok (.iconst (-1), 1) := by decide +kernel
theorem dX2_hidesValue_10 : decode cX2_hidesValue 10 = .ok (.if_icmp .eq 23, 3) := by decide +kernel
theorem dX2_hidesValue_13 : decode cX2_hidesValue 13 = .ok (.aload_n 0, 1) := by decide +kernel
theorem dX2_hidesValue_14 : decode cX2_hidesValue 14 = .ok (.aload_n 0, 1) := by decide +kernel
theorem dX2_hidesValue_15 : decode cX2_hidesValue 15 = .ok (.getfield 40, 3) := by decide +kernel
theorem dX2_hidesValue_18 : decode cX2_hidesValue 18 = .ok (.getfield 111, 3) := by decide +kernel
theorem dX2_hidesValue_21 : decode cX2_hidesValue 21 = .ok (.iload_n 1, 1) := by decide +kernel
theorem dX2_hidesValue_22 : decode cX2_hidesValue 22 = .ok (.iaload, 1) := by decide +kernel
theorem dX2_hidesValue_23 : decode cX2_hidesValue 23 = .ok (.invokevirtual 219, 3) := by decide +kernel
theorem dX2_hidesValue_26 : decode cX2_hidesValue 26 = .ok (.ifCond .ne 7, 3) := by decide +kernel
theorem dX2_hidesValue_29 : decode cX2_hidesValue 29 = .ok (.iconst 1, 1) := by decide +kernel
theorem dX2_hidesValue_30 : decode cX2_hidesValue 30 = .ok (.goto 4, 3) := by decide +kernel
theorem dX2_hidesValue_33 : decode cX2_hidesValue 33 = .ok (.iconst 0, 1) := by decide +kernel
theorem dX2_hidesValue_34 : decode cX2_hidesValue 34 = .ok (.ireturn, 1) := by decide +kernel
theorem dX2_hasBegun_0 : decode cX2_hasBegun 0 = .ok (.aload_n 0, 1) := by decide +kernel
theorem dX2_hasBegun_1 : decode cX2_hasBegun 1 = .ok (.getfield 54, 3) := by decide +kernel
theorem dX2_hasBegun_4 : decode cX2_hasBegun 4 = .ok (.iload_n 1, 1) := by decide +kernel
theorem dX2_hasBegun_5 : decode cX2_hasBegun 5 = .ok (.invokevirtual 231, 3) := by decide +kernel
theorem dX2_hasBegun_8 : decode cX2_hasBegun 8 = .ok (.ifCond .eq 28, 3) := by decide +kernel
theorem dX2_hasBegun_11 : decode cX2_hasBegun 11 = .ok (.aload_n 0, 1) := by decide +kernel
theorem dX2_hasBegun_12 : decode cX2_hasBegun 12 = .ok (.getfield 47, 3) := by decide +kernel
theorem dX2_hasBegun_15 : decode cX2_hasBegun 15 = .ok (.aload_n 0, 1) := by decide +kernel
theorem dX2_hasBegun_16 : decode cX2_hasBegun 16 = .ok (.getfield 54, 3) := by decide +kernel
theorem dX2_hasBegun_19 : decode cX2_hasBegun 19 = .ok (.getfield 186, 3) := by decide +kernel
theorem dX2_hasBegun_22 : decode cX2_hasBegun 22 = .ok (.iload_n 1, 1) := by decide +kernel
theorem dX2_hasBegun_23 : decode cX2_hasBegun 23 = .ok (.iaload, 1) := by decide +kernel
theorem dX2_hasBegun_24 : decode cX2_hasBegun 24 = .ok (.invokevirtual 187, 3) := by decide +kernel
theorem dX2_hasBegun_27 : decode cX2_hasBegun 27 = .ok (.ldc 132, 2) := by decide +kernel
theorem dX2_hasBegun_29 : decode cX2_hasBegun 29 = .ok (.if_icmp .eq 7, 3) := by decide +kernel
theorem dX2_hasBegun_32 : decode cX2_hasBegun 32 = .ok (.iconst 1, 1) := by decide +kernel
theorem dX2_hasBegun_33 : decode cX2_hasBegun 33 = .ok (.goto 4, 3) := by decide +kernel
theorem dX2_hasBegun_36 : decode cX2_hasBegun 36 = .ok (.iconst 0, 1) := by decide +kernel
theorem dX2_hasBegun_37 : decode cX2_hasBegun 37 = .ok (.ireturn, 1) := by decide +kernel
theorem dX2_begunOrders_0 : decode cX2_begunOrders 0 = .ok (.iconst 0, 1) := by decide +kernel
theorem dX2_begunOrders_1 : decode cX2_begunOrders 1 = .ok (.istore_n 1, 1) := by decide +kernel
theorem dX2_begunOrders_2 : decode cX2_begunOrders 2 = .ok (.iconst 0, 1) := by decide +kernel
theorem dX2_begunOrders_3 : decode cX2_begunOrders 3 = .ok (.istore_n 2, 1) := by decide +kernel
theorem dX2_begunOrders_4 : decode cX2_begunOrders 4 = .ok (.iload_n 2, 1) := by decide +kernel
theorem dX2_begunOrders_5 : decode cX2_begunOrders 5 = .ok (.aload_n 0, 1) := by decide +kernel
theorem dX2_begunOrders_6 : decode cX2_begunOrders 6 = .ok (.getfield 54, 3) := by decide +kernel
theorem dX2_begunOrders_9 : decode cX2_begunOrders 9 = .ok (.getfield 101, 3) := by decide +kernel
theorem dX2_begunOrders_12 : decode cX2_begunOrders 12 = .ok (.if_icmp .ge 26, 3) := by decide +kernel
theorem dX2_begunOrders_15 : decode cX2_begunOrders 15 = .ok (.iload_n 2, 1) := by decide +kernel
theorem dX2_begunOrders_16 : decode cX2_begunOrders 16 = .ok (.bipush 6, 2) := by decide +kernel
theorem dX2_begunOrders_18 : decode cX2_begunOrders 18 = .ok (.if_icmp .ge 20, 3) := by decide +kernel
theorem dX2_begunOrders_21 : decode cX2_begunOrders 21 = .ok (.aload_n 0, 1) := by decide +kernel
theorem dX2_begunOrders_22 : decode cX2_begunOrders 22 = .ok (.iload_n 2, 1) := by decide +kernel
theorem dX2_begunOrders_23 : decode cX2_begunOrders 23 = .ok (.invokevirtual 234, 3) := by decide +kernel
theorem dX2_begunOrders_26 : decode cX2_begunOrders 26 = .ok (.ifCond .eq 6, 3) := by decide +kernel
theorem dX2_begunOrders_29 : decode cX2_begunOrders 29 = .ok (.iinc 1 1, 3) := by decide +kernel
theorem dX2_begunOrders_32 : decode cX2_begunOrders 32 = .ok (.iinc 2 1, 3) := by decide +kernel
theorem dX2_begunOrders_35 : decode cX2_begunOrders 35 = .ok (.goto (-31), 3) := by decide +kernel
theorem dX2_begunOrders_38 : decode cX2_begunOrders 38 = .ok (.iload_n 1, 1) := by decide +kernel
theorem dX2_begunOrders_39 : decode cX2_begunOrders 39 = .ok (.ireturn, 1) := by decide +kernel
theorem dX2_marksOn_0 : decode cX2_marksOn 0 = .ok (.iconst 0, 1) := by decide +kernel
theorem dX2_marksOn_1 : decode cX2_marksOn 1 = .ok (.istore_n 2, 1) := by decide +kernel
theorem dX2_marksOn_2 : decode cX2_marksOn 2 = .ok (.iconst 0, 1) := by decide +kernel
theorem dX2_marksOn_3 : decode cX2_marksOn 3 = .ok (.istore_n 3, 1) := by decide +kernel
theorem dX2_marksOn_4 : decode cX2_marksOn 4 = .ok (.iload_n 3, 1) := by decide +kernel
theorem dX2_marksOn_5 : decode cX2_marksOn 5 = .ok (.aload_n 0, 1) := by decide +kernel
theorem dX2_marksOn_6 : decode cX2_marksOn 6 = .ok (.getfield 30, 3) := by decide +kernel
theorem dX2_marksOn_9 : decode cX2_marksOn 9 = .ok (.if_icmp .ge 33, 3) := by decide +kernel
theorem dX2_marksOn_12 : decode cX2_marksOn 12 = .ok (.iload_n 3, 1) := by decide +kernel
theorem dX2_marksOn_13 : decode cX2_marksOn 13 = .ok (.iconst 3, 1) := by decide +kernel
theorem dX2_marksOn_14 : decode cX2_marksOn 14 = .ok (.if_icmp .ge 28, 3) := by decide +kernel
theorem dX2_marksOn_17 : decode cX2_marksOn 17 = .ok (.aload_n 0, 1) := by decide +kernel
theorem dX2_marksOn_18 : decode cX2_marksOn 18 = .ok (.getfield 58, 3) := by decide +kernel
theorem dX2_marksOn_21 : decode cX2_marksOn 21 = .ok (.iload_n 3, 1) := by decide +kernel
theorem dX2_marksOn_22 : decode cX2_marksOn 22 = .ok (.aaload, 1) := by decide +kernel
theorem dX2_marksOn_23 : decode cX2_marksOn 23 = .ok (.iload_n 1, 1) := by decide +kernel
theorem dX2_marksOn_24 : decode cX2_marksOn 24 = .ok (.invokevirtual 211, 3) := by decide +kernel
theorem dX2_marksOn_27 : decode cX2_marksOn 27 = .ok (.ifCond .eq 9, 3) := by decide +kernel
theorem dX2_marksOn_30 : decode cX2_marksOn 30 = .ok (.iload_n 2, 1) := by decide +kernel
theorem dX2_marksOn_31 : decode cX2_marksOn 31 = .ok (.iconst 1, 1) := by decide +kernel
theorem dX2_marksOn_32 : decode cX2_marksOn 32 = .ok (.iload_n 3, 1) := by decide +kernel
theorem dX2_marksOn_33 : decode cX2_marksOn 33 = .ok (.ishl, 1) := by decide +kernel
theorem dX2_marksOn_34 : decode cX2_marksOn 34 = .ok (.ior, 1) := by decide +kernel
theorem dX2_marksOn_35 : decode cX2_marksOn 35 = .ok (.istore_n 2, 1) := by decide +kernel
theorem dX2_marksOn_36 : decode cX2_marksOn 36 = .ok (.iinc 3 1, 3) := by decide +kernel
theorem dX2_marksOn_39 : decode cX2_marksOn 39 = .ok (.goto (-35), 3) := by decide +kernel
theorem dX2_marksOn_42 : decode cX2_marksOn 42 = .ok (.iload_n 2, 1) := by decide +kernel
theorem dX2_marksOn_43 : decode cX2_marksOn 43 = .ok (.ireturn, 1) := by decide +kernel
theorem dX2_pinnedChairs_0 : decode cX2_pinnedChairs 0 = .ok (.iconst 0, 1) := by decide +kernel
theorem dX2_pinnedChairs_1 : decode cX2_pinnedChairs 1 = .ok (.istore_n 1, 1) := by decide +kernel
theorem dX2_pinnedChairs_2 : decode cX2_pinnedChairs 2 = .ok (.iconst 0, 1) := by decide +kernel
theorem dX2_pinnedChairs_3 : decode cX2_pinnedChairs 3 = .ok (.istore_n 2, 1) := by decide +kernel
theorem dX2_pinnedChairs_4 : decode cX2_pinnedChairs 4 = .ok (.iload_n 2, 1) := by decide +kernel
theorem dX2_pinnedChairs_5 : decode cX2_pinnedChairs 5 = .ok (.aload_n 0, 1) := by decide +kernel
theorem dX2_pinnedChairs_6 : decode cX2_pinnedChairs 6 = .ok (.getfield 54, 3) := by decide +kernel
theorem dX2_pinnedChairs_9 : decode cX2_pinnedChairs 9 = .ok (.getfield 101, 3) := by decide +kernel
theorem dX2_pinnedChairs_12 : decode cX2_pinnedChairs 12 = .ok (.if_icmp .ge 53, 3) := by decide +kernel
theorem dX2_pinnedChairs_15 : decode cX2_pinnedChairs 15 = .ok (.iload_n 2, 1) := by decide +kernel
theorem dX2_pinnedChairs_16 : decode cX2_pinnedChairs 16 = .ok (.bipush 6, 2) := by decide +kernel
theorem dX2_pinnedChairs_18 : decode cX2_pinnedChairs 18 = .ok (.if_icmp .ge 47, 3) := by decide +kernel
theorem dX2_pinnedChairs_21 : decode cX2_pinnedChairs 21 = .ok (.iload_n 1, 1) := by decide +kernel
theorem dX2_pinnedChairs_22 : decode cX2_pinnedChairs 22 = .ok (.iconst 1, 1) := by decide +kernel
theorem dX2_pinnedChairs_23 : decode cX2_pinnedChairs 23 = .ok (.aload_n 0, 1) := by decide +kernel
theorem dX2_pinnedChairs_24 : decode cX2_pinnedChairs 24 = .ok (.getfield 54, 3) := by decide +kernel
theorem dX2_pinnedChairs_27 : decode cX2_pinnedChairs 27 = .ok (.getfield 186, 3) := by decide +kernel
theorem dX2_pinnedChairs_30 : decode cX2_pinnedChairs 30 = .ok (.iload_n 2, 1) := by decide +kernel
theorem dX2_pinnedChairs_31 : decode cX2_pinnedChairs 31 = .ok (.iaload, 1) := by decide +kernel
theorem dX2_pinnedChairs_32 : decode cX2_pinnedChairs 32 = .ok (.ishl, 1) := by decide +kernel
theorem dX2_pinnedChairs_33 : decode cX2_pinnedChairs 33 = .ok (.iconst 1, 1) := by decide +kernel
theorem dX2_pinnedChairs_34 : decode cX2_pinnedChairs 34 = .ok (.aload_n 0, 1) := by decide +kernel
theorem dX2_pinnedChairs_35 : decode cX2_pinnedChairs 35 = .ok (.getfield 54, 3) := by decide +kernel
theorem dX2_pinnedChairs_38 : decode cX2_pinnedChairs 38 = .ok (.getfield 193, 3) := by decide +kernel
theorem dX2_pinnedChairs_41 : decode cX2_pinnedChairs 41 = .ok (.iload_n 2, 1) := by decide +kernel
theorem dX2_pinnedChairs_42 : decode cX2_pinnedChairs 42 = .ok (.iaload, 1) := by decide +kernel
theorem dX2_pinnedChairs_43 : decode cX2_pinnedChairs 43 = .ok (.ishl, 1) := by decide +kernel
theorem dX2_pinnedChairs_44 : decode cX2_pinnedChairs 44 = .ok (.ior, 1) := by decide +kernel
theorem dX2_pinnedChairs_45 : decode cX2_pinnedChairs 45 = .ok (.iconst 1, 1) := by decide +kernel
theorem dX2_pinnedChairs_46 : decode cX2_pinnedChairs 46 = .ok (.aload_n 0, 1) := by decide +kernel
theorem dX2_pinnedChairs_47 : decode cX2_pinnedChairs 47 = .ok (.getfield 54, 3) := by decide +kernel
theorem dX2_pinnedChairs_50 : decode cX2_pinnedChairs 50 = .ok (.getfield 196, 3) := by decide +kernel
theorem dX2_pinnedChairs_53 : decode cX2_pinnedChairs 53 = .ok (.iload_n 2, 1) := by decide +kernel
theorem dX2_pinnedChairs_54 : decode cX2_pinnedChairs 54 = .ok (.iaload, 1) := by decide +kernel
theorem dX2_pinnedChairs_55 : decode cX2_pinnedChairs 55 = .ok (.ishl, 1) := by decide +kernel
theorem dX2_pinnedChairs_56 : decode cX2_pinnedChairs 56 = .ok (.ior, 1) := by decide +kernel
theorem dX2_pinnedChairs_57 : decode cX2_pinnedChairs 57 = .ok (.ior, 1) := by decide +kernel
theorem dX2_pinnedChairs_58 : decode cX2_pinnedChairs 58 = .ok (.istore_n 1, 1) := by decide +kernel
theorem dX2_pinnedChairs_59 : decode cX2_pinnedChairs 59 = .ok (.iinc 2 1, 3) := by decide +kernel
theorem dX2_pinnedChairs_62 : decode cX2_pinnedChairs 62 = .ok (.goto (-58), 3) := by decide +kernel
theorem dX2_pinnedChairs_65 : decode cX2_pinnedChairs 65 = .ok (.iconst 0, 1) := by decide +kernel
theorem dX2_pinnedChairs_66 : decode cX2_pinnedChairs 66 = .ok (.istore_n 2, 1) := by decide +kernel
theorem dX2_pinnedChairs_67 : decode cX2_pinnedChairs 67 = .ok (.iload_n 2, 1) := by decide +kernel
theorem dX2_pinnedChairs_68 : decode cX2_pinnedChairs 68 = .ok (.bipush 8, 2) := by decide +kernel
theorem dX2_pinnedChairs_70 : decode cX2_pinnedChairs 70 = .ok (.if_icmp .ge 61, 3) := by decide +kernel
theorem dX2_pinnedChairs_73 : decode cX2_pinnedChairs 73 = .ok (.iconst 0, 1) := by decide +kernel
theorem dX2_pinnedChairs_74 : decode cX2_pinnedChairs 74 = .ok (.istore_n 3, 1) := by decide +kernel
theorem dX2_pinnedChairs_75 : decode cX2_pinnedChairs 75 = .ok (.iload_n 3, 1) := by decide +kernel
theorem dX2_pinnedChairs_76 : decode cX2_pinnedChairs 76 = .ok (.aload_n 0, 1) := by decide +kernel
theorem dX2_pinnedChairs_77 : decode cX2_pinnedChairs 77 = .ok (.getfield 30, 3) := by decide +kernel
theorem dX2_pinnedChairs_80 : decode cX2_pinnedChairs 80 = .ok (.if_icmp .ge 45, 3) := by decide +kernel
theorem dX2_pinnedChairs_83 : decode cX2_pinnedChairs 83 = .ok (.iload_n 3, 1) := by decide +kernel
theorem dX2_pinnedChairs_84 : decode cX2_pinnedChairs 84 = .ok (.iconst 3, 1) := by decide +kernel
theorem dX2_pinnedChairs_85 : decode cX2_pinnedChairs 85 = .ok (.if_icmp .ge 40, 3) := by decide +kernel
theorem dX2_pinnedChairs_88 : decode cX2_pinnedChairs 88 = .ok (.aload_n 0, 1) := by decide +kernel
theorem dX2_pinnedChairs_89 : decode cX2_pinnedChairs 89 = .ok (.getfield 58, 3) := by decide +kernel
theorem dX2_pinnedChairs_92 : decode cX2_pinnedChairs 92 = .ok (.iload_n 3, 1) := by decide +kernel
theorem dX2_pinnedChairs_93 : decode cX2_pinnedChairs 93 = .ok (.aaload, 1) := by decide +kernel
theorem dX2_pinnedChairs_94 : decode cX2_pinnedChairs 94 = .ok (.getfield 111, 3) := by decide +kernel
theorem dX2_pinnedChairs_97 : decode cX2_pinnedChairs 97 = .ok (.iload_n 2, 1) := by decide +kernel
theorem dX2_pinnedChairs_98 : decode cX2_pinnedChairs 98 = .ok (.iaload, 1) := by decide +kernel
theorem dX2_pinnedChairs_99 : decode cX2_pinnedChairs 99 = .ok (.iconst (-1), 1) := by decide +kernel
theorem dX2_pinnedChairs_100 : decode cX2_pinnedChairs 100 = .ok (.if_icmp .eq 19, 3) := by decide +kernel
theorem dX2_pinnedChairs_103 : decode cX2_pinnedChairs 103 = .ok (.iload_n 1, 1) := by decide +kernel
theorem dX2_pinnedChairs_104 : decode cX2_pinnedChairs 104 = .ok (.iconst 1, 1) := by decide +kernel
theorem dX2_pinnedChairs_105 : decode cX2_pinnedChairs 105 = .ok (.aload_n 0, 1) := by decide +kernel
theorem dX2_pinnedChairs_106 : decode cX2_pinnedChairs 106 = .ok (.getfield 58, 3) := by decide +kernel
theorem dX2_pinnedChairs_109 : decode cX2_pinnedChairs 109 = .ok (.iload_n 3, 1) := by decide +kernel
theorem dX2_pinnedChairs_110 : decode cX2_pinnedChairs 110 = .ok (.aaload, 1) := by decide +kernel
theorem dX2_pinnedChairs_111 : decode cX2_pinnedChairs 111 = .ok (.getfield 111, 3) := by decide +kernel
theorem dX2_pinnedChairs_114 : decode cX2_pinnedChairs 114 = .ok (.iload_n 2, 1) := by decide +kernel
theorem dX2_pinnedChairs_115 : decode cX2_pinnedChairs 115 = .ok (.iaload, 1) := by decide +kernel
theorem dX2_pinnedChairs_116 : decode cX2_pinnedChairs 116 = .ok (.ishl, 1) := by decide +kernel
theorem dX2_pinnedChairs_117 : decode cX2_pinnedChairs 117 = .ok (.ior, 1) := by decide +kernel
theorem dX2_pinnedChairs_118 : decode cX2_pinnedChairs 118 = .ok (.istore_n 1, 1) := by decide +kernel
theorem dX2_pinnedChairs_119 : decode cX2_pinnedChairs 119 = .ok (.iinc 3 1, 3) := by decide +kernel
theorem dX2_pinnedChairs_122 : decode cX2_pinnedChairs 122 = .ok (.goto (-47), 3) := by decide +kernel
theorem dX2_pinnedChairs_125 : decode cX2_pinnedChairs 125 = .ok (.iinc 2 1, 3) := by decide +kernel
theorem dX2_pinnedChairs_128 : decode cX2_pinnedChairs 128 = .ok (.goto (-61), 3) := by decide +kernel
theorem dX2_pinnedChairs_131 : decode cX2_pinnedChairs 131 = .ok (.iload_n 1, 1) := by decide +kernel
theorem dX2_pinnedChairs_132 : decode cX2_pinnedChairs 132 = .ok (.ireturn, 1) := by decide +kernel
theorem dX2_lowestFreeChair_0 : decode cX2_lowestFreeChair 0 = .ok (.iconst 0, 1) := by decide +kernel
theorem dX2_lowestFreeChair_1 : decode cX2_lowestFreeChair 1 = .ok (.istore_n 2, 1) := by decide +kernel
theorem dX2_lowestFreeChair_2 : decode cX2_lowestFreeChair 2 = .ok (.iload_n 2, 1) := by decide +kernel
theorem dX2_lowestFreeChair_3 : decode cX2_lowestFreeChair 3 = .ok (.aload_n 0, 1) := by decide +kernel
theorem dX2_lowestFreeChair_4 : decode cX2_lowestFreeChair 4 = .ok (.getfield 9, 3) := by decide +kernel
theorem dX2_lowestFreeChair_7 : decode cX2_lowestFreeChair 7 = .ok (.if_icmp .ge 19, 3) := by decide +kernel
theorem dX2_lowestFreeChair_10 : decode cX2_lowestFreeChair 10 = .ok (.iload_n 1, 1) := by decide +kernel
theorem dX2_lowestFreeChair_11 : decode cX2_lowestFreeChair 11 = .ok (.iload_n 2, 1) := by decide +kernel
theorem dX2_lowestFreeChair_12 : decode cX2_lowestFreeChair 12 = .ok (.ishr, 1) := by decide +kernel
theorem dX2_lowestFreeChair_13 : decode cX2_lowestFreeChair 13 = .ok (.iconst 1, 1) := by decide +kernel
theorem dX2_lowestFreeChair_14 : decode cX2_lowestFreeChair 14 = .ok (.iand, 1) := by decide +kernel
theorem dX2_lowestFreeChair_15 : decode cX2_lowestFreeChair 15 = .ok (.ifCond .ne 5, 3) := by decide +kernel
theorem dX2_lowestFreeChair_18 : decode cX2_lowestFreeChair 18 = .ok (.iload_n 2, 1) := by decide +kernel
theorem dX2_lowestFreeChair_19 : decode cX2_lowestFreeChair 19 = .ok (.ireturn, 1) := by decide +kernel
theorem dX2_lowestFreeChair_20 : decode cX2_lowestFreeChair 20 = .ok (.iinc 2 1, 3) := by decide +kernel
theorem dX2_lowestFreeChair_23 : decode cX2_lowestFreeChair 23 = .ok (.goto (-21), 3) := by decide +kernel
theorem dX2_lowestFreeChair_26 : decode cX2_lowestFreeChair 26 = .ok (.iconst (-1), 1) := by decide +kernel
theorem dX2_lowestFreeChair_27 : decode cX2_lowestFreeChair 27 = .ok (.ireturn, 1) := by decide +kernel
theorem dX2_longestUnused_0 : decode cX2_longestUnused 0 = .ok (.iconst (-1), 1) := by decide +kernel
theorem dX2_longestUnused_1 : decode cX2_longestUnused 1 = .ok (.istore_n 2, 1) := by decide +kernel
theorem dX2_longestUnused_2 : decode cX2_longestUnused 2 = .ok (.iconst 0, 1) := by decide +kernel
theorem dX2_longestUnused_3 : decode cX2_longestUnused 3 = .ok (.istore_n 3, 1) := by decide +kernel
theorem dX2_longestUnused_4 : decode cX2_longestUnused 4 = .ok (.iload_n 3, 1) := by decide +kernel
theorem dX2_longestUnused_5 : decode cX2_longestUnused 5 = .ok (.aload_n 0, 1) := by decide +kernel
theorem dX2_longestUnused_6 : decode cX2_longestUnused 6 = .ok (.getfield 9, 3) := by decide +kernel
theorem dX2_longestUnused_9 : decode cX2_longestUnused 9 = .ok (.if_icmp .ge 80, 3) := by decide +kernel
theorem dX2_longestUnused_12 : decode cX2_longestUnused 12 = .ok (.iload_n 3, 1) := by decide +kernel
theorem dX2_longestUnused_13 : decode cX2_longestUnused 13 = .ok (.bipush 7, 2) := by decide +kernel
theorem dX2_longestUnused_15 : decode cX2_longestUnused 15 = .ok (.if_icmp .ge 74, 3) := by decide +kernel
theorem dX2_longestUnused_18 : decode cX2_longestUnused 18 = .ok (.iload_n 1, 1) := by decide +kernel
theorem dX2_longestUnused_19 : decode cX2_longestUnused 19 = .ok (.iload_n 3, 1) := by decide +kernel
theorem dX2_longestUnused_20 : decode cX2_longestUnused 20 = .ok (.ishr, 1) := by decide +kernel
theorem dX2_longestUnused_21 : decode cX2_longestUnused 21 = .ok (.iconst 1, 1) := by decide +kernel
theorem dX2_longestUnused_22 : decode cX2_longestUnused 22 = .ok (.iand, 1) := by decide +kernel
theorem dX2_longestUnused_23 : decode cX2_longestUnused 23 = .ok (.iconst 1, 1) := by decide +kernel
theorem dX2_longestUnused_24 : decode cX2_longestUnused 24 = .ok (.if_icmp .ne 23, 3) := by decide +kernel
theorem dX2_longestUnused_27 : decode cX2_longestUnused 27 = .ok (.aload_n 0, 1) := by decide +kernel
theorem dX2_longestUnused_28 : decode cX2_longestUnused 28 = .ok (.getfield 47, 3) := by decide +kernel
theorem dX2_longestUnused_31 : decode cX2_longestUnused 31 = .ok (.getfield 242, 3) := by decide +kernel
theorem dX2_longestUnused_34 : decode cX2_longestUnused 34 = .ok (.iload_n 3, 1) := by decide +kernel
theorem dX2_longestUnused_35 : decode cX2_longestUnused 35 = .ok (.iaload, 1) := by decide +kernel
theorem dX2_longestUnused_36 : decode cX2_longestUnused 36 = .ok (.aload_n 0, 1) := by decide +kernel
theorem dX2_longestUnused_37 : decode cX2_longestUnused 37 = .ok (.getfield 15, 3) := by decide +kernel
theorem dX2_longestUnused_40 : decode cX2_longestUnused 40 = .ok (.if_icmp .gt 7, 3) := by decide +kernel
theorem dX2_longestUnused_43 : decode cX2_longestUnused 43 = .ok (.iconst 1, 1) := by decide +kernel
theorem dX2_longestUnused_44 : decode cX2_longestUnused 44 = .ok (.goto 4, 3) := by decide +kernel
theorem dX2_longestUnused_47 : decode cX2_longestUnused 47 = .ok (.iconst 0, 1) := by decide +kernel
theorem dX2_longestUnused_48 : decode cX2_longestUnused 48 = .ok (.istore 4, 2) := by decide +kernel
theorem dX2_longestUnused_50 : decode cX2_longestUnused 50 = .ok (.iload 4, 2) := by decide +kernel
theorem dX2_longestUnused_52 : decode cX2_longestUnused 52 = .ok (.ifCond .eq 31, 3) := by decide +kernel
theorem dX2_longestUnused_55 : decode cX2_longestUnused 55 = .ok (.iload_n 2, 1) := by decide +kernel
theorem dX2_longestUnused_56 : decode cX2_longestUnused 56 = .ok (.iconst (-1), 1) := by decide +kernel
theorem dX2_longestUnused_57 : decode cX2_longestUnused 57 = .ok (.if_icmp .eq 24, 3) := by decide +kernel
theorem dX2_longestUnused_60 : decode cX2_longestUnused 60 = .ok (.aload_n 0, 1) := by decide +kernel
theorem dX2_longestUnused_61 : decode cX2_longestUnused 61 = .ok (.getfield 47, 3) := by decide +kernel
theorem dX2_longestUnused_64 : decode cX2_longestUnused 64 = .ok (.getfield 245, 3) := by decide +kernel
theorem dX2_longestUnused_67 : decode cX2_longestUnused 67 = .ok (.iload_n 3, 1) := by decide +kernel
theorem dX2_longestUnused_68 : decode cX2_longestUnused 68 = .ok (.iaload, 1) := by decide +kernel
theorem dX2_longestUnused_69 : decode cX2_longestUnused 69 = .ok (.aload_n 0, 1) := by decide +kernel
theorem dX2_longestUnused_70 : decode cX2_longestUnused 70 = .ok (.getfield 47, 3) := by decide +kernel
theorem dX2_longestUnused_73 : decode cX2_longestUnused 73 = .ok (.getfield 245, 3) := by decide +kernel
theorem dX2_longestUnused_76 : decode cX2_longestUnused 76 = .ok (.iload_n 2, 1) := by decide +kernel
theorem dX2_longestUnused_77 : decode cX2_longestUnused 77 = .ok (.iaload, 1) := by decide +kernel
theorem dX2_longestUnused_78 : decode cX2_longestUnused 78 = .ok (.if_icmp .ge 5, 3) := by decide +kernel
theorem dX2_longestUnused_81 : decode cX2_longestUnused 81 = .ok (.iload_n 3, 1) := by decide +kernel
theorem dX2_longestUnused_82 : decode cX2_longestUnused 82 = .ok (.istore_n 2, 1) := by decide +kernel
theorem dX2_longestUnused_83 : decode cX2_longestUnused 83 = .ok (.iinc 3 1, 3) := by decide +kernel
theorem dX2_longestUnused_86 : decode cX2_longestUnused 86 = .ok (.goto (-82), 3) := by decide +kernel
theorem dX2_longestUnused_89 : decode cX2_longestUnused 89 = .ok (.iload_n 2, 1) := by decide +kernel
theorem dX2_longestUnused_90 : decode cX2_longestUnused 90 = .ok (.ireturn, 1) := by decide +kernel
