theorem dX6_mark_29 : decode cX6_mark 29 = .ok (.aload_n 0, 1) := by decide +kernel
theorem dX6_mark_30 : decode cX6_mark 30 = .ok (.getfield 7, 3) := by decide +kernel
theorem dX6_mark_33 : decode cX6_mark 33 = .ok (.bipush 63, 2) := by decide +kernel
theorem dX6_mark_35 : decode cX6_mark 35 = .ok (.bipush 16, 2) := by decide +kernel
theorem dX6_mark_37 : decode cX6_mark 37 = .ok (.aload_n 0, 1) := by decide +kernel
theorem dX6_mark_38 : decode cX6_mark 38 = .ok (.getfield 7, 3) := by decide +kernel
theorem dX6_mark_41 : decode cX6_mark 41 = .ok (.iconst 2, 1) := by decide +kernel
theorem dX6_mark_42 : decode cX6_mark 42 = .ok (.iaload, 1) := by decide +kernel
theorem dX6_mark_43 : decode cX6_mark 43 = .ok (.imul, 1) := by decide +kernel
theorem dX6_mark_44 : decode cX6_mark 44 = .ok (.iadd, 1) := by decide +kernel
theorem dX6_mark_45 : decode cX6_mark 45 = .ok (.iload_n 1, 1) := by decide +kernel
theorem dX6_mark_46 : decode cX6_mark 46 = .ok (.iadd, 1) := by decide +kernel
theorem dX6_mark_47 : decode cX6_mark 47 = .ok (.aload_n 0, 1) := by decide +kernel
theorem dX6_mark_48 : decode cX6_mark 48 = .ok (.getfield 7, 3) := by decide +kernel
theorem dX6_mark_51 : decode cX6_mark 51 = .ok (.bipush 12, 2) := by decide +kernel
theorem dX6_mark_53 : decode cX6_mark 53 = .ok (.iload_n 1, 1) := by decide +kernel
theorem dX6_mark_54 : decode cX6_mark 54 = .ok (.iadd, 1) := by decide +kernel
theorem dX6_mark_55 : decode cX6_mark 55 = .ok (.iaload, 1) := by decide +kernel
theorem dX6_mark_56 : decode cX6_mark 56 = .ok (.iastore, 1) := by decide +kernel
theorem dX6_mark_57 : decode cX6_mark 57 = .ok (.iinc 1 1, 3) := by decide +kernel
theorem dX6_mark_60 : decode cX6_mark 60 = .ok (.goto (-37), 3) := by decide +kernel
theorem dX6_mark_63 : decode cX6_mark 63 = .ok (.aload_n 0, 1) := by decide +kernel
theorem dX6_mark_64 : decode cX6_mark 64 = .ok (.getfield 7, 3) := by decide +kernel
theorem dX6_mark_67 : decode cX6_mark 67 = .ok (.iconst 2, 1) := by decide +kernel
theorem dX6_mark_68 : decode cX6_mark 68 = .ok (.dup2, 1) := by decide +kernel
theorem dX6_mark_69 : decode cX6_mark 69 = .ok (.iaload, 1) := by decide +kernel
theorem dX6_mark_70 : decode cX6_mark 70 = .ok (.iconst 1, 1) := by decide +kernel
theorem dX6_mark_71 : decode cX6_mark 71 = .ok (.iadd, 1) := by decide +kernel
theorem dX6_mark_72 : decode cX6_mark 72 = .ok (.iastore, 1) := by decide +kernel
theorem dX6_mark_73 : decode cX6_mark 73 = .ok (.aload_n 0, 1) := by decide +kernel
theorem dX6_mark_74 : decode cX6_mark 74 = .ok (.getfield 7, 3) := by decide +kernel
theorem dX6_mark_77 : decode cX6_mark 77 = .ok (.iconst 2, 1) := by decide +kernel
theorem dX6_mark_78 : decode cX6_mark 78 = .ok (.iaload, 1) := by decide +kernel
theorem dX6_mark_79 : decode cX6_mark 79 = .ok (.iconst 1, 1) := by decide +kernel
theorem dX6_mark_80 : decode cX6_mark 80 = .ok (.isub, 1) := by decide +kernel
theorem dX6_mark_81 : decode cX6_mark 81 = .ok (.ireturn, 1) := by decide +kernel
theorem dX6_keep_0 : decode cX6_keep 0 = .ok (.aload_n 0, 1) := by decide +kernel
theorem dX6_keep_1 : decode cX6_keep 1 = .ok (.getfield 7, 3) := by decide +kernel
theorem dX6_keep_4 : decode cX6_keep 4 = .ok (.iconst 2, 1) := by decide +kernel
theorem dX6_keep_5 : decode cX6_keep 5 = .ok (.iaload, 1) := by decide +kernel
theorem dX6_keep_6 : decode cX6_keep 6 = .ok (.ifCond .ne 6, 3) := by decide +kernel
theorem dX6_keep_9 : decode cX6_keep 9 = .ok (.bipush (-2), 2) := by decide +kernel
theorem dX6_keep_11 : decode cX6_keep 11 = .ok (.ireturn, 1) := by decide +kernel
theorem dX6_keep_12 : decode cX6_keep 12 = .ok (.aload_n 0, 1) := by decide +kernel
theorem dX6_keep_13 : decode cX6_keep 13 = .ok (.aload_n 0, 1) := by decide +kernel
theorem dX6_keep_14 : decode cX6_keep 14 = .ok (.getfield 7, 3) := by decide +kernel
theorem dX6_keep_17 : decode cX6_keep 17 = .ok (.invokevirtual 81, 3) := by decide +kernel
theorem dX6_keep_20 : decode cX6_keep 20 = .ok (.aload_n 0, 1) := by decide +kernel
theorem dX6_keep_21 : decode cX6_keep 21 = .ok (.getfield 7, 3) := by decide +kernel
theorem dX6_keep_24 : decode cX6_keep 24 = .ok (.iconst 2, 1) := by decide +kernel
theorem dX6_keep_25 : decode cX6_keep 25 = .ok (.dup2, 1) := by decide +kernel
theorem dX6_keep_26 : decode cX6_keep 26 = .ok (.iaload, 1) := by decide +kernel
theorem dX6_keep_27 : decode cX6_keep 27 = .ok (.iconst 1, 1) := by decide +kernel
theorem dX6_keep_28 : decode cX6_keep 28 = .ok (.isub, 1) := by decide +kernel
theorem dX6_keep_29 : decode cX6_keep 29 = .ok (.iastore, 1) := by decide +kernel
theorem dX6_keep_30 : decode cX6_keep 30 = .ok (.bipush 63, 2) := by decide +kernel
theorem dX6_keep_32 : decode cX6_keep 32 = .ok (.istore_n 1, 1) := by decide +kernel
theorem dX6_keep_33 : decode cX6_keep 33 = .ok (.iload_n 1, 1) := by decide +kernel
theorem dX6_keep_34 : decode cX6_keep 34 = .ok (.bipush 63, 2) := by decide +kernel
theorem dX6_keep_36 : decode cX6_keep 36 = .ok (.bipush 16, 2) := by decide +kernel
theorem dX6_keep_38 : decode cX6_keep 38 = .ok (.aload_n 0, 1) := by decide +kernel
theorem dX6_keep_39 : decode cX6_keep 39 = .ok (.getfield 7, 3) := by decide +kernel
theorem dX6_keep_42 : decode cX6_keep 42 = .ok (.iconst 2, 1) := by decide +kernel
theorem dX6_keep_43 : decode cX6_keep 43 = .ok (.iaload, 1) := by decide +kernel
theorem dX6_keep_44 : decode cX6_keep 44 = .ok (.imul, 1) := by decide +kernel
theorem dX6_keep_45 : decode cX6_keep 45 = .ok (.iadd, 1) := by decide +kernel
theorem dX6_keep_46 : decode cX6_keep 46 = .ok (.if_icmp .ge 24, 3) := by decide +kernel
theorem dX6_keep_49 : decode cX6_keep 49 = .ok (.aload_n 0, 1) := by decide +kernel
theorem dX6_keep_50 : decode cX6_keep 50 = .ok (.getfield 7, 3) := by decide +kernel
theorem dX6_keep_53 : decode cX6_keep 53 = .ok (.iload_n 1, 1) := by decide +kernel
theorem dX6_keep_54 : decode cX6_keep 54 = .ok (.aload_n 0, 1) := by decide +kernel
theorem dX6_keep_55 : decode cX6_keep 55 = .ok (.getfield 7, 3) := by decide +kernel
theorem dX6_keep_58 : decode cX6_keep 58 = .ok (.iload_n 1, 1) := by decide +kernel
theorem dX6_keep_59 : decode cX6_keep 59 = .ok (.bipush 16, 2) := by decide +kernel
theorem dX6_keep_61 : decode cX6_keep 61 = .ok (.iadd, 1) := by decide +kernel
theorem dX6_keep_62 : decode cX6_keep 62 = .ok (.iaload, 1) := by decide +kernel
theorem dX6_keep_63 : decode cX6_keep 63 = .ok (.iastore, 1) := by decide +kernel
theorem dX6_keep_64 : decode cX6_keep 64 = .ok (.iinc 1 1, 3) := by decide +kernel
theorem dX6_keep_67 : decode cX6_keep 67 = .ok (.goto (-34), 3) := by decide +kernel
theorem dX6_keep_70 : decode cX6_keep 70 = .ok (.iconst 0, 1) := by decide +kernel
theorem dX6_keep_71 : decode cX6_keep 71 = .ok (.istore_n 1, 1) := by decide +kernel
theorem dX6_keep_72 : decode cX6_keep 72 = .ok (.iload_n 1, 1) := by decide +kernel
theorem dX6_keep_73 : decode cX6_keep 73 = .ok (.aload_n 0, 1) := by decide +kernel
theorem dX6_keep_74 : decode cX6_keep 74 = .ok (.getfield 7, 3) := by decide +kernel
theorem dX6_keep_77 : decode cX6_keep 77 = .ok (.iconst 3, 1) := by decide +kernel
theorem dX6_keep_78 : decode cX6_keep 78 = .ok (.iaload, 1) := by decide +kernel
theorem dX6_keep_79 : decode cX6_keep 79 = .ok (.if_icmp .ge 40, 3) := by decide +kernel
theorem dX6_keep_82 : decode cX6_keep 82 = .ok (.aload_n 0, 1) := by decide +kernel
theorem dX6_keep_83 : decode cX6_keep 83 = .ok (.getfield 7, 3) := by decide +kernel
theorem dX6_keep_86 : decode cX6_keep 86 = .ok (.iload_n 1, 1) := by decide +kernel
theorem dX6_keep_87 : decode cX6_keep 87 = .ok (.iconst 5, 1) := by decide +kernel
theorem dX6_keep_88 : decode cX6_keep 88 = .ok (.invokestatic 47, 3) := by decide +kernel
theorem dX6_keep_91 : decode cX6_keep 91 = .ok (.dup2, 1) := by decide +kernel
theorem dX6_keep_92 : decode cX6_keep 92 = .ok (.iaload, 1) := by decide +kernel
theorem dX6_keep_93 : decode cX6_keep 93 = .ok (.aload_n 0, 1) := by decide +kernel
theorem dX6_keep_94 : decode cX6_keep 94 = .ok (.getfield 7, 3) := by decide +kernel
theorem dX6_keep_97 : decode cX6_keep 97 = .ok (.iload_n 1, 1) := by decide +kernel
theorem dX6_keep_98 : decode cX6_keep 98 = .ok (.iconst 5, 1) := by decide +kernel
theorem dX6_keep_99 : decode cX6_keep 99 = .ok (.invokestatic 47, 3) := by decide +kernel
theorem dX6_keep_102 : decode cX6_keep 102 = .ok (.iaload, 1) := by decide +kernel
theorem dX6_keep_103 : decode cX6_keep 103 = .ok (.ifCond .le 7, 3) := by decide +kernel
theorem dX6_keep_106 : decode cX6_keep 106 = .ok (.iconst 1, 1) := by decide +kernel
theorem dX6_keep_107 : decode cX6_keep 107 = .ok (.goto 4, 3) := by decide +kernel
theorem dX6_keep_110 : decode cX6_keep 110 = .ok (.iconst 0, 1) := by decide +kernel
theorem dX6_keep_111 : decode cX6_keep 111 = .ok (.isub, 1) := by decide +kernel
theorem dX6_keep_112 : decode cX6_keep 112 = .ok (.iastore, 1) := by decide +kernel
theorem dX6_keep_113 : decode cX6_keep 113 = .ok (.iinc 1 1, 3) := by decide +kernel
theorem dX6_keep_116 : decode cX6_keep 116 = .ok (.goto (-44), 3) := by decide +kernel
theorem dX6_keep_119 : decode cX6_keep 119 = .ok (.aload_n 0, 1) := by decide +kernel
theorem dX6_keep_120 : decode cX6_keep 120 = .ok (.invokevirtual 68, 3) := by decide +kernel
theorem dX6_keep_123 : decode cX6_keep 123 = .ok (.aload_n 0, 1) := by decide +kernel
theorem dX6_keep_124 : decode cX6_keep 124 = .ok (.getfield 7, 3) := by decide +kernel
theorem dX6_keep_127 : decode cX6_keep 127 = .ok (.iconst 2, 1) := by decide +kernel
theorem dX6_keep_128 : decode cX6_keep 128 = .ok (.iaload, 1) := by decide +kernel
theorem dX6_keep_129 : decode cX6_keep 129 = .ok (.ireturn, 1) := by decide +kernel
theorem dX6_back_0 : decode cX6_back 0 = .ok (.aload_n 0, 1) := by decide +kernel
theorem dX6_back_1 : decode cX6_back 1 = .ok (.iload_n 1, 1) := by decide +kernel
theorem dX6_back_2 : decode cX6_back 2 = .ok (.invokevirtual 120, 3) := by decide +kernel
theorem dX6_back_5 : decode cX6_back 5 = .ok (.ifCond .ne 5, 3) := by decide +kernel
theorem dX6_back_8 : decode cX6_back 8 = .ok (.iconst (-1), 1) := by decide +kernel
theorem dX6_back_9 : decode cX6_back 9 = .ok (.ireturn, 1) := by decide +kernel
theorem dX6_back_10 : decode cX6_back 10 = .ok (.aload_n 0, 1) := by decide +kernel
theorem dX6_back_11 : decode cX6_back 11 = .ok (.aload_n 0, 1) := by decide +kernel
theorem dX6_back_12 : decode cX6_back 12 = .ok (.getfield 7, 3) := by decide +kernel
theorem dX6_back_15 : decode cX6_back 15 = .ok (.invokevirtual 81, 3) := by decide +kernel
theorem dX6_back_18 : decode cX6_back 18 = .ok (.iconst 0, 1) := by decide +kernel
theorem dX6_back_19 : decode cX6_back 19 = .ok (.istore_n 2, 1) := by decide +kernel
theorem dX6_back_20 : decode cX6_back 20 = .ok (.iload_n 2, 1) := by decide +kernel
theorem dX6_back_21 : decode cX6_back 21 = .ok (.bipush 16, 2) := by decide +kernel
theorem dX6_back_23 : decode cX6_back 23 = .ok (.if_icmp .ge 32, 3) := by decide +kernel
theorem dX6_back_26 : decode cX6_back 26 = .ok (.aload_n 0, 1) := by decide +kernel
theorem dX6_back_27 : decode cX6_back 27 = .ok (.getfield 7, 3) := by decide +kernel
theorem dX6_back_30 : decode cX6_back 30 = .ok (.bipush 12, 2) := by decide +kernel
theorem dX6_back_32 : decode cX6_back 32 = .ok (.iload_n 2, 1) := by decide +kernel
theorem dX6_back_33 : decode cX6_back 33 = .ok (.iadd, 1) := by decide +kernel
theorem dX6_back_34 : decode cX6_back 34 = .ok (.aload_n 0, 1) := by decide +kernel
theorem dX6_back_35 : decode cX6_back 35 = .ok (.getfield 7, 3) := by decide +kernel
theorem dX6_back_38 : decode cX6_back 38 = .ok (.bipush 63, 2) := by decide +kernel
theorem dX6_back_40 : decode cX6_back 40 = .ok (.bipush 16, 2) := by decide +kernel
theorem dX6_back_42 : decode cX6_back 42 = .ok (.iload_n 1, 1) := by decide +kernel
theorem dX6_back_43 : decode cX6_back 43 = .ok (.imul, 1) := by decide +kernel
theorem dX6_back_44 : decode cX6_back 44 = .ok (.iadd, 1) := by decide +kernel
theorem dX6_back_45 : decode cX6_back 45 = .ok (.iload_n 2, 1) := by decide +kernel
theorem dX6_back_46 : decode cX6_back 46 = .ok (.iadd, 1) := by decide +kernel
theorem dX6_back_47 : decode cX6_back 47 = .ok (.iaload, 1) := by decide +kernel
theorem dX6_back_48 : decode cX6_back 48 = .ok (.iastore, 1) := by decide +kernel
theorem dX6_back_49 : decode cX6_back 49 = .ok (.iinc 2 1, 3) := by decide +kernel
theorem dX6_back_52 : decode cX6_back 52 = .ok (.goto (-32), 3) := by decide +kernel
theorem dX6_back_55 : decode cX6_back 55 = .ok (.iconst 0, 1) := by decide +kernel
theorem dX6_back_56 : decode cX6_back 56 = .ok (.istore_n 2, 1) := by decide +kernel
theorem dX6_back_57 : decode cX6_back 57 = .ok (.iconst 0, 1) := by decide +kernel
theorem dX6_back_58 : decode cX6_back 58 = .ok (.istore_n 3, 1) := by decide +kernel
theorem dX6_back_59 : decode cX6_back 59 = .ok (.iload_n 3, 1) := by decide +kernel
theorem dX6_back_60 : decode cX6_back 60 = .ok (.aload_n 0, 1) := by decide +kernel
theorem dX6_back_61 : decode cX6_back 61 = .ok (.getfield 7, 3) := by decide +kernel
theorem dX6_back_64 : decode cX6_back 64 = .ok (.iconst 3, 1) := by decide +kernel
theorem dX6_back_65 : decode cX6_back 65 = .ok (.iaload, 1) := by decide +kernel
theorem dX6_back_66 : decode cX6_back 66 = .ok (.if_icmp .ge 34, 3) := by decide +kernel
theorem dX6_back_69 : decode cX6_back 69 = .ok (.aload_n 0, 1) := by decide +kernel
theorem dX6_back_70 : decode cX6_back 70 = .ok (.getfield 7, 3) := by decide +kernel
theorem dX6_back_73 : decode cX6_back 73 = .ok (.iload_n 3, 1) := by decide +kernel
theorem dX6_back_74 : decode cX6_back 74 = .ok (.iconst 5, 1) := by decide +kernel
theorem dX6_back_75 : decode cX6_back 75 = .ok (.invokestatic 47, 3) := by decide +kernel
theorem dX6_back_78 : decode cX6_back 78 = .ok (.iaload, 1) := by decide +kernel
theorem dX6_back_79 : decode cX6_back 79 = .ok (.iload_n 1, 1) := by decide +kernel
theorem dX6_back_80 : decode cX6_back 80 = .ok (.if_icmp .le 14, 3) := by decide +kernel
theorem dX6_back_83 : decode cX6_back 83 = .ok (.aload_n 0, 1) := by decide +kernel
theorem dX6_back_84 : decode cX6_back 84 = .ok (.iload_n 3, 1) := by decide +kernel
theorem dX6_back_85 : decode cX6_back 85 = .ok (.invokevirtual 110, 3) := by decide +kernel
theorem dX6_back_88 : decode cX6_back 88 = .ok (.iinc 2 1, 3) := by decide +kernel
theorem dX6_back_91 : decode cX6_back 91 = .ok (.goto (-32), 3) := by decide +kernel
theorem dX6_back_94 : decode cX6_back 94 = .ok (.iinc 3 1, 3) := by decide +kernel
theorem dX6_back_97 : decode cX6_back 97 = .ok (.goto (-38), 3) := by decide +kernel
theorem dX6_back_100 : decode cX6_back 100 = .ok (.aload_n 0, 1) := by decide +kernel
theorem dX6_back_101 : decode cX6_back 101 = .ok (.getfield 7, 3) := by decide +kernel
theorem dX6_back_104 : decode cX6_back 104 = .ok (.iconst 2, 1) := by decide +kernel
theorem dX6_back_105 : decode cX6_back 105 = .ok (.iload_n 1, 1) := by decide +kernel
theorem dX6_back_106 : decode cX6_back 106 = .ok (.iastore, 1) := by decide +kernel
theorem dX6_back_107 : decode cX6_back 107 = .ok (.aload_n 0, 1) := by decide +kernel
theorem dX6_back_108 : decode cX6_back 108 = .ok (.invokevirtual 68, 3) := by decide +kernel
theorem dX6_back_111 : decode cX6_back 111 = .ok (.iload_n 2, 1) := by decide +kernel
theorem dX6_back_112 : decode cX6_back 112 = .ok (.ireturn, 1) := by decide +kernel
theorem dX6_markOf_0 : decode cX6_markOf 0 = .ok (.aload_n 0, 1) := by decide +kernel
theorem dX6_markOf_1 : decode cX6_markOf 1 = .ok (.iload_n 1, 1) := by decide +kernel
theorem dX6_markOf_2 : decode cX6_markOf 2 = .ok (.invokevirtual 120, 3) := by decide +kernel
theorem dX6_markOf_5 : decode cX6_markOf 5 = .ok (.ifCond .eq 19, 3) := by decide +kernel
theorem dX6_markOf_8 : decode cX6_markOf 8 = .ok (.iload_n 2, 1) := by decide +kernel
theorem dX6_markOf_9 : decode cX6_markOf 9 = .ok (.invokestatic 85, 3) := by decide +kernel
theorem dX6_markOf_12 : decode cX6_markOf 12 = .ok (.ifCond .eq 12, 3) := by decide +kernel
theorem dX6_markOf_15 : decode cX6_markOf 15 = .ok (.iload_n 3, 1) := by decide +kernel
theorem dX6_markOf_16 : decode cX6_markOf 16 = .ok (.iconst 0, 1) := by decide +kernel
theorem dX6_markOf_17 : decode cX6_markOf 17 = .ok (.iconst 1, 1) := by decide +kernel
theorem dX6_markOf_18 : decode cX6_markOf 18 = .ok (.invokestatic 43, 3) := by decide +kernel
theorem dX6_markOf_21 : decode cX6_markOf 21 = .ok (.ifCond .ne 5, 3) := by decide +kernel
theorem dX6_markOf_24 : decode cX6_markOf 24 = .ok (.iconst (-1), 1) := by decide +kernel
theorem dX6_markOf_25 : decode cX6_markOf 25 = .ok (.ireturn, 1) := by decide +kernel
theorem dX6_markOf_26 : decode cX6_markOf 26 = .ok (.aload_n 0, 1) := by decide +kernel
theorem dX6_markOf_27 : decode cX6_markOf 27 = .ok (.getfield 7, 3) := by decide +kernel
theorem dX6_markOf_30 : decode cX6_markOf 30 = .ok (.bipush 63, 2) := by decide +kernel
theorem dX6_markOf_32 : decode cX6_markOf 32 = .ok (.bipush 16, 2) := by decide +kernel
theorem dX6_markOf_34 : decode cX6_markOf 34 = .ok (.iload_n 1, 1) := by decide +kernel
theorem dX6_markOf_35 : decode cX6_markOf 35 = .ok (.imul, 1) := by decide +kernel
theorem dX6_markOf_36 : decode cX6_markOf 36 = .ok (.iadd, 1) := by decide +kernel
theorem dX6_markOf_37 : decode cX6_markOf 37 = .ok (.bipush 8, 2) := by decide +kernel
theorem dX6_markOf_39 : decode cX6_markOf 39 = .ok (.iload_n 3, 1) := by decide +kernel
theorem dX6_markOf_40 : decode cX6_markOf 40 = .ok (.imul, 1) := by decide +kernel
theorem dX6_markOf_41 : decode cX6_markOf 41 = .ok (.iadd, 1) := by decide +kernel
theorem dX6_markOf_42 : decode cX6_markOf 42 = .ok (.iload_n 2, 1) := by decide +kernel
theorem dX6_markOf_43 : decode cX6_markOf 43 = .ok (.iadd, 1) := by decide +kernel
theorem dX6_markOf_44 : decode cX6_markOf 44 = .ok (.iaload, 1) := by decide +kernel
theorem dX6_markOf_45 : decode cX6_markOf 45 = .ok (.istore 4, 2) := by decide +kernel
theorem dX6_markOf_47 : decode cX6_markOf 47 = .ok (.iload_n 3, 1) := by decide +kernel
theorem dX6_markOf_48 : decode cX6_markOf 48 = .ok (.ifCond .ne 13, 3) := by decide +kernel
theorem dX6_markOf_51 : decode cX6_markOf 51 = .ok (.iload 4, 2) := by decide +kernel
theorem dX6_markOf_53 : decode cX6_markOf 53 = .ok (.ifCond .ge 8, 3) := by decide +kernel
theorem dX6_markOf_56 : decode cX6_markOf 56 = .ok (.bipush (-4), 2) := by decide +kernel
theorem dX6_markOf_58 : decode cX6_markOf 58 = .ok (.goto 5, 3) := by decide +kernel
theorem dX6_markOf_61 : decode cX6_markOf 61 = .ok (.iload 4, 2) := by decide +kernel
theorem dX6_markOf_63 : decode cX6_markOf 63 = .ok (.ireturn, 1) := by decide +kernel
theorem dX6_names_0 : decode cX6_names 0 = .ok (.iconst 0, 1) := by decide +kernel
theorem dX6_names_1 : decode cX6_names 1 = .ok (.istore_n 2, 1) := by decide +kernel
theorem dX6_names_2 : decode cX6_names 2 = .ok (.iconst 0, 1) := by decide +kernel
theorem dX6_names_3 : decode cX6_names 3 = .ok (.istore_n 3, 1) := by decide +kernel
theorem dX6_names_4 : decode cX6_names 4 = .ok (.iload_n 3, 1) := by decide +kernel
theorem dX6_names_5 : decode cX6_names 5 = .ok (.bipush 8, 2) := by decide +kernel
theorem dX6_names_7 : decode cX6_names 7 = .ok (.if_icmp .ge 32, 3) := by decide +kernel
theorem dX6_names_10 : decode cX6_names 10 = .ok (.iload_n 2, 1) := by decide +kernel
theorem dX6_names_11 : decode cX6_names 11 = .ok (.aload_n 0, 1) := by decide +kernel
theorem dX6_names_12 : decode cX6_names 12 = .ok (.getfield 7, 3) := by decide +kernel
theorem dX6_names_15 : decode cX6_names 15 = .ok (.bipush 12, 2) := by decide +kernel
theorem dX6_names_17 : decode cX6_names 17 = .ok (.iload_n 3, 1) := by decide +kernel
theorem dX6_names_18 : decode cX6_names 18 = .ok (.iadd, 1) := by decide +kernel
theorem dX6_names_19 : decode cX6_names 19 = .ok (.iaload, 1) := by decide +kernel
theorem dX6_names_20 : decode cX6_names 20 = .ok (.iload_n 1, 1) := by decide +kernel
theorem dX6_names_21 : decode cX6_names 21 = .ok (.if_icmp .ne 9, 3) := by decide +kernel
theorem dX6_names_24 : decode cX6_names 24 = .ok (.iconst 1, 1) := by decide +kernel
theorem dX6_names_25 : decode cX6_names 25 = .ok (.iload_n 3, 1) := by decide +kernel
theorem dX6_names_26 : decode cX6_names 26 = .ok (.ishl, 1) := by decide +kernel
theorem dX6_names_27 : decode cX6_names 27 = .ok (.goto 4, 3) := by decide +kernel
theorem dX6_names_30 : decode cX6_names 30 = .ok (.iconst 0, 1) := by decide +kernel
theorem dX6_names_31 : decode cX6_names 31 = .ok (.ior, 1) := by decide +kernel
theorem dX6_names_32 : decode cX6_names 32 = .ok (.istore_n 2, 1) := by decide +kernel
theorem dX6_names_33 : decode cX6_names 33 = .ok (.iinc 3 1, 3) := by decide +kernel
theorem dX6_names_36 : decode cX6_names 36 = .ok (.goto (-32), 3) := by decide +kernel
theorem dX6_names_39 : decode cX6_names 39 = .ok (.iload_n 2, 1) := by decide +kernel
theorem dX6_names_40 : decode cX6_names 40 = .ok (.ireturn, 1) := by decide +kernel
theorem dX6_ones_0 : decode cX6_ones 0 = .ok (.iconst 0, 1) := by decide +kernel
theorem dX6_ones_1 : decode cX6_ones 1 = .ok (.istore_n 1, 1) := by decide +kernel
theorem dX6_ones_2 : decode cX6_ones 2 = .ok (.iconst 0, 1) := by decide +kernel
theorem dX6_ones_3 : decode cX6_ones 3 = .ok (.istore_n 2, 1) := by decide +kernel
theorem dX6_ones_4 : decode cX6_ones 4 = .ok (.iload_n 2, 1) := by decide +kernel
theorem dX6_ones_5 : decode cX6_ones 5 = .ok (.bipush 8, 2) := by decide +kernel
theorem dX6_ones_7 : decode cX6_ones 7 = .ok (.if_icmp .ge 17, 3) := by decide +kernel
theorem dX6_ones_10 : decode cX6_ones 10 = .ok (.iload_n 1, 1) := by decide +kernel
theorem dX6_ones_11 : decode cX6_ones 11 = .ok (.iload_n 0, 1) := by decide +kernel
theorem dX6_ones_12 : decode cX6_ones 12 = .ok (.iload_n 2, 1) := by decide +kernel
theorem dX6_ones_13 : decode cX6_ones 13 = .ok (.ishr, 1) := by decide +kernel
theorem dX6_ones_14 : decode cX6_ones 14 = .ok (.iconst 1, 1) := by decide +kernel
theorem dX6_ones_15 : decode cX6_ones 15 = .ok (.iand, 1) := by decide +kernel
theorem dX6_ones_16 : decode cX6_ones 16 = .ok (.iadd, 1) := by decide +kernel
theorem dX6_ones_17 : decode cX6_ones 17 = .ok (.istore_n 1, 1) := by decide +kernel
theorem dX6_ones_18 : decode cX6_ones 18 = .ok (.iinc 2 1, 3) := by decide +kernel
theorem dX6_ones_21 : decode cX6_ones 21 = .ok (.goto (-17), 3) := by decide +kernel
theorem dX6_ones_24 : decode cX6_ones 24 = .ok (.iload_n 1, 1) := by decide +kernel
theorem dX6_ones_25 : decode cX6_ones 25 = .ok (.ireturn, 1) := by decide +kernel
theorem dX6_toCome_0 : decode cX6_toCome 0 = .ok (.iconst 0, 1) := by decide +kernel
theorem dX6_toCome_1 : decode cX6_toCome 1 = .ok (.istore_n 2, 1) := by decide +kernel
theorem dX6_toCome_2 : decode cX6_toCome 2 = .ok (.iload_n 2, 1) := by decide +kernel
theorem dX6_toCome_3 : decode cX6_toCome 3 = .ok (.aload_n 0, 1) := by decide +kernel
theorem dX6_toCome_4 : decode cX6_toCome 4 = .ok (.getfield 7, 3) := by decide +kernel
theorem dX6_toCome_7 : decode cX6_toCome 7 = .ok (.iconst 0, 1) := by decide +kernel
theorem dX6_toCome_8 : decode cX6_toCome 8 = .ok (.iaload, 1) := by decide +kernel
theorem dX6_toCome_9 : decode cX6_toCome 9 = .ok (.if_icmp .ge 25, 3) := by decide +kernel
theorem dX6_toCome_12 : decode cX6_toCome 12 = .ok (.aload_n 0, 1) := by decide +kernel
theorem dX6_toCome_13 : decode cX6_toCome 13 = .ok (.getfield 25, 3) := by decide +kernel
theorem dX6_toCome_16 : decode cX6_toCome 16 = .ok (.iload_n 2, 1) := by decide +kernel
theorem dX6_toCome_17 : decode cX6_toCome 17 = .ok (.aload_n 0, 1) := by decide +kernel
theorem dX6_toCome_18 : decode cX6_toCome 18 = .ok (.getfield 7, 3) := by decide +kernel
theorem dX6_toCome_21 : decode cX6_toCome 21 = .ok (.iload_n 2, 1) := by decide +kernel
theorem dX6_toCome_22 : decode cX6_toCome 22 = .ok (.iconst 1, 1) := by decide +kernel
theorem dX6_toCome_23 : decode cX6_toCome 23 = .ok (.invokestatic 65, 3) := by decide +kernel
theorem dX6_toCome_26 : decode cX6_toCome 26 = .ok (.iaload, 1) := by decide +kernel
theorem dX6_toCome_27 : decode cX6_toCome 27 = .ok (.iastore, 1) := by decide +kernel
theorem dX6_toCome_28 : decode cX6_toCome 28 = .ok (.iinc 2 1, 3) := by decide +kernel
theorem dX6_toCome_31 : decode cX6_toCome 31 = .ok (.goto (-29), 3) := by decide +kernel
theorem dX6_toCome_34 : decode cX6_toCome 34 = .ok (.iconst 0, 1) := by decide +kernel
theorem dX6_toCome_35 : decode cX6_toCome 35 = .ok (.istore_n 2, 1) := by decide +kernel
theorem dX6_toCome_36 : decode cX6_toCome 36 = .ok (.iload_n 2, 1) := by decide +kernel
theorem dX6_toCome_37 : decode cX6_toCome 37 = .ok (.aload_n 0, 1) := by decide +kernel
theorem dX6_toCome_38 : decode cX6_toCome 38 = .ok (.getfield 7, 3) := by decide +kernel
theorem dX6_toCome_41 : decode cX6_toCome 41 = .ok (.iconst 3, 1) := by decide +kernel
theorem dX6_toCome_42 : decode cX6_toCome 42 = .ok (.iaload, 1) := by decide +kernel
theorem dX6_toCome_43 : decode cX6_toCome 43 = .ok (.if_icmp .ge 67, 3) := by decide +kernel
theorem dX6_toCome_46 : decode cX6_toCome 46 = .ok (.aload_n 0, 1) := by decide +kernel
theorem dX6_toCome_47 : decode cX6_toCome 47 = .ok (.getfield 25, 3) := by decide +kernel
theorem dX6_toCome_50 : decode cX6_toCome 50 = .ok (.aload_n 0, 1) := by decide +kernel
theorem dX6_toCome_51 : decode cX6_toCome 51 = .ok (.getfield 7, 3) := by decide +kernel
theorem dX6_toCome_54 : decode cX6_toCome 54 = .ok (.iload_n 2, 1) := by decide +kernel
theorem dX6_toCome_55 : decode cX6_toCome 55 = .ok (.iconst 1, 1) := by decide +kernel
theorem dX6_toCome_56 : decode cX6_toCome 56 = .ok (.invokestatic 47, 3) := by decide +kernel
theorem dX6_toCome_59 : decode cX6_toCome 59 = .ok (.iaload, 1) := by decide +kernel
theorem dX6_toCome_60 : decode cX6_toCome 60 = .ok (.aload_n 0, 1) := by decide +kernel
theorem dX6_toCome_61 : decode cX6_toCome 61 = .ok (.getfield 7, 3) := by decide +kernel
theorem dX6_toCome_64 : decode cX6_toCome 64 = .ok (.iload_n 2, 1) := by decide +kernel
theorem dX6_toCome_65 : decode cX6_toCome 65 = .ok (.iconst 0, 1) := by decide +kernel
theorem dX6_toCome_66 : decode cX6_toCome 66 = .ok (.invokestatic 47, 3) := by decide +kernel
theorem dX6_toCome_69 : decode cX6_toCome 69 = .ok (.iaload, 1) := by decide +kernel
theorem dX6_toCome_70 : decode cX6_toCome 70 = .ok (.aload_n 0, 1) := by decide +kernel
theorem dX6_toCome_71 : decode cX6_toCome 71 = .ok (.getfield 25, 3) := by decide +kernel
theorem dX6_toCome_74 : decode cX6_toCome 74 = .ok (.aload_n 0, 1) := by decide +kernel
theorem dX6_toCome_75 : decode cX6_toCome 75 = .ok (.getfield 7, 3) := by decide +kernel
theorem dX6_toCome_78 : decode cX6_toCome 78 = .ok (.iload_n 2, 1) := by decide +kernel
theorem dX6_toCome_79 : decode cX6_toCome 79 = .ok (.iconst 2, 1) := by decide +kernel
theorem dX6_toCome_80 : decode cX6_toCome 80 = .ok (.invokestatic 47, 3) := by decide +kernel
theorem dX6_toCome_83 : decode cX6_toCome 83 = .ok (.iaload, 1) := by decide +kernel
theorem dX6_toCome_84 : decode cX6_toCome 84 = .ok (.iaload, 1) := by decide +kernel
theorem dX6_toCome_85 : decode cX6_toCome 85 = .ok (.aload_n 0, 1) := by decide +kernel
theorem dX6_toCome_86 : decode cX6_toCome 86 = .ok (.getfield 25, 3) := by decide +kernel
theorem dX6_toCome_89 : decode cX6_toCome 89 = .ok (.aload_n 0, 1) := by decide +kernel
theorem dX6_toCome_90 : decode cX6_toCome 90 = .ok (.getfield 7, 3) := by decide +kernel
theorem dX6_toCome_93 : decode cX6_toCome 93 = .ok (.iload_n 2, 1) := by decide +kernel
theorem dX6_toCome_94 : decode cX6_toCome 94 = .ok (.iconst 3, 1) := by decide +kernel
theorem dX6_toCome_95 : decode cX6_toCome 95 = .ok (.invokestatic 47, 3) := by decide +kernel
theorem dX6_toCome_98 : decode cX6_toCome 98 = .ok (.iaload, 1) := by decide +kernel
theorem dX6_toCome_99 : decode cX6_toCome 99 = .ok (.iaload, 1) := by decide +kernel
theorem dX6_toCome_100 : decode cX6_toCome 100 = .ok (.invokestatic 107, 3) := by decide +kernel
theorem dX6_toCome_103 : decode cX6_toCome 103 = .ok (.iastore, 1) := by decide +kernel
theorem dX6_toCome_104 : decode cX6_toCome 104 = .ok (.iinc 2 1, 3) := by decide +kernel
theorem dX6_toCome_107 : decode cX6_toCome 107 = .ok (.goto (-71), 3) := by decide +kernel
theorem dX6_toCome_110 : decode cX6_toCome 110 = .ok (.aload_n 0, 1) := by decide +kernel
theorem dX6_toCome_111 : decode cX6_toCome 111 = .ok (.getfield 25, 3) := by decide +kernel
theorem dX6_toCome_114 : decode cX6_toCome 114 = .ok (.iload_n 1, 1) := by decide +kernel
theorem dX6_toCome_115 : decode cX6_toCome 115 = .ok (.iaload, 1) := by decide +kernel
theorem dX6_toCome_116 : decode cX6_toCome 116 = .ok (.ireturn, 1) := by decide +kernel
theorem dX6_nameOf_0 : decode cX6_nameOf 0 = .ok (.iload_n 1, 1) := by decide +kernel
theorem dX6_nameOf_1 : decode cX6_nameOf 1 = .ok (.invokestatic 85, 3) := by decide +kernel
theorem dX6_nameOf_4 : decode cX6_nameOf 4 = .ok (.ifCond .eq 12, 3) := by decide +kernel
theorem dX6_nameOf_7 : decode cX6_nameOf 7 = .ok (.iload_n 2, 1) := by decide +kernel
theorem dX6_nameOf_8 : decode cX6_nameOf 8 = .ok (.iconst 0, 1) := by decide +kernel
theorem dX6_nameOf_9 : decode cX6_nameOf 9 = .ok (.iconst 4, 1) := by decide +kernel
theorem dX6_nameOf_10 : decode cX6_nameOf 10 = .ok (.invokestatic 43, 3) := by decide +kernel
theorem dX6_nameOf_13 : decode cX6_nameOf 13 = .ok (.ifCond .ne 5, 3) := by decide +kernel
theorem dX6_nameOf_16 : decode cX6_nameOf 16 = .ok (.iconst (-1), 1) := by decide +kernel
theorem dX6_nameOf_17 : decode cX6_nameOf 17 = .ok (.ireturn, 1) := by decide +kernel
theorem dX6_nameOf_18 : decode cX6_nameOf 18 = .ok (.aload_n 0, 1) := by decide +kernel
theorem dX6_nameOf_19 : decode cX6_nameOf 19 = .ok (.getfield 7, 3) := by decide +kernel
theorem dX6_nameOf_22 : decode cX6_nameOf 22 = .ok (.bipush 12, 2) := by decide +kernel
theorem dX6_nameOf_24 : decode cX6_nameOf 24 = .ok (.iload_n 1, 1) := by decide +kernel
theorem dX6_nameOf_25 : decode cX6_nameOf 25 = .ok (.iadd, 1) := by decide +kernel
theorem dX6_nameOf_26 : decode cX6_nameOf 26 = .ok (.iaload, 1) := by decide +kernel
theorem dX6_nameOf_27 : decode cX6_nameOf 27 = .ok (.istore_n 3, 1) := by decide +kernel
theorem dX6_nameOf_28 : decode cX6_nameOf 28 = .ok (.iload_n 2, 1) := by decide +kernel
theorem dX6_nameOf_29 : decode cX6_nameOf 29 = .ok (.iconst 2, 1) := by decide +kernel
theorem dX6_nameOf_30 : decode cX6_nameOf 30 = .ok (.if_icmp .eq 7, 3) := by decide +kernel
theorem dX6_nameOf_33 : decode cX6_nameOf 33 = .ok (.iload_n 3, 1) := by decide +kernel
theorem dX6_nameOf_34 : decode cX6_nameOf 34 = .ok (.ifCond .ge 28, 3) := by decide +kernel
theorem dX6_nameOf_37 : decode cX6_nameOf 37 = .ok (.iload_n 2, 1) := by decide +kernel
theorem dX6_nameOf_38 : decode cX6_nameOf 38 = .ok (.iconst 1, 1) := by decide +kernel
theorem dX6_nameOf_39 : decode cX6_nameOf 39 = .ok (.if_icmp .eq 8, 3) := by decide +kernel
theorem dX6_nameOf_42 : decode cX6_nameOf 42 = .ok (.iload_n 2, 1) := by decide +kernel
theorem dX6_nameOf_43 : decode cX6_nameOf 43 = .ok (.iconst 3, 1) := by decide +kernel
theorem dX6_nameOf_44 : decode cX6_nameOf 44 = .ok (.if_icmp .ne 8, 3) := by decide +kernel
theorem dX6_nameOf_47 : decode cX6_nameOf 47 = .ok (.bipush (-4), 2) := by decide +kernel
theorem dX6_nameOf_49 : decode cX6_nameOf 49 = .ok (.goto 12, 3) := by decide +kernel
theorem dX6_nameOf_52 : decode cX6_nameOf 52 = .ok (.aload_n 0, 1) := by decide +kernel
theorem dX6_nameOf_53 : decode cX6_nameOf 53 = .ok (.getfield 7, 3) := by decide +kernel
theorem dX6_nameOf_56 : decode cX6_nameOf 56 = .ok (.bipush 20, 2) := by decide +kernel
theorem dX6_nameOf_58 : decode cX6_nameOf 58 = .ok (.iload_n 1, 1) := by decide +kernel
theorem dX6_nameOf_59 : decode cX6_nameOf 59 = .ok (.iadd, 1) := by decide +kernel
theorem dX6_nameOf_60 : decode cX6_nameOf 60 = .ok (.iaload, 1) := by decide +kernel
theorem dX6_nameOf_61 : decode cX6_nameOf 61 = .ok (.ireturn, 1) := by decide +kernel
theorem dX6_nameOf_62 : decode cX6_nameOf 62 = .ok (.iload_n 2, 1) := by decide +kernel
theorem dX6_nameOf_63 : decode cX6_nameOf 63 = .ok (.ifCond .ne 33, 3) := by decide +kernel
theorem dX6_nameOf_66 : decode cX6_nameOf 66 = .ok (.aload_n 0, 1) := by decide +kernel
theorem dX6_nameOf_67 : decode cX6_nameOf 67 = .ok (.getfield 7, 3) := by decide +kernel
theorem dX6_nameOf_70 : decode cX6_nameOf 70 = .ok (.iload_n 3, 1) := by decide +kernel
theorem dX6_nameOf_71 : decode cX6_nameOf 71 = .ok (.iconst 2, 1) := by decide +kernel
theorem dX6_nameOf_72 : decode cX6_nameOf 72 = .ok (.invokestatic 65, 3) := by decide +kernel
theorem dX6_nameOf_75 : decode cX6_nameOf 75 = .ok (.iaload, 1) := by decide +kernel
theorem dX6_nameOf_76 : decode cX6_nameOf 76 = .ok (.iconst 1, 1) := by decide +kernel
theorem dX6_nameOf_77 : decode cX6_nameOf 77 = .ok (.if_icmp .ne 16, 3) := by decide +kernel
theorem dX6_nameOf_80 : decode cX6_nameOf 80 = .ok (.aload_n 0, 1) := by decide +kernel
theorem dX6_nameOf_81 : decode cX6_nameOf 81 = .ok (.getfield 7, 3) := by decide +kernel
theorem dX6_nameOf_84 : decode cX6_nameOf 84 = .ok (.iload_n 3, 1) := by decide +kernel
theorem dX6_nameOf_85 : decode cX6_nameOf 85 = .ok (.iconst 1, 1) := by decide +kernel
theorem dX6_nameOf_86 : decode cX6_nameOf 86 = .ok (.invokestatic 65, 3) := by decide +kernel
theorem dX6_nameOf_89 : decode cX6_nameOf 89 = .ok (.iaload, 1) := by decide +kernel
theorem dX6_nameOf_90 : decode cX6_nameOf 90 = .ok (.goto 5, 3) := by decide +kernel
theorem dX6_nameOf_93 : decode cX6_nameOf 93 = .ok (.bipush (-4), 2) := by decide +kernel
theorem dX6_nameOf_95 : decode cX6_nameOf 95 = .ok (.ireturn, 1) := by decide +kernel
theorem dX6_nameOf_96 : decode cX6_nameOf 96 = .ok (.iload_n 2, 1) := by decide +kernel
theorem dX6_nameOf_97 : decode cX6_nameOf 97 = .ok (.iconst 1, 1) := by decide +kernel
theorem dX6_nameOf_98 : decode cX6_nameOf 98 = .ok (.if_icmp .ne 7, 3) := by decide +kernel
theorem dX6_nameOf_101 : decode cX6_nameOf 101 = .ok (.iload_n 3, 1) := by decide +kernel
theorem dX6_nameOf_102 : decode cX6_nameOf 102 = .ok (.goto 24, 3) := by decide +kernel
theorem dX6_nameOf_105 : decode cX6_nameOf 105 = .ok (.iload_n 2, 1) := by decide +kernel
theorem dX6_nameOf_106 : decode cX6_nameOf 106 = .ok (.iconst 3, 1) := by decide +kernel
theorem dX6_nameOf_107 : decode cX6_nameOf 107 = .ok (.if_icmp .ne 14, 3) := by decide +kernel
theorem dX6_nameOf_110 : decode cX6_nameOf 110 = .ok (.aload_n 0, 1) := by decide +kernel
theorem dX6_nameOf_111 : decode cX6_nameOf 111 = .ok (.iload_n 3, 1) := by decide +kernel
theorem dX6_nameOf_112 : decode cX6_nameOf 112 = .ok (.invokevirtual 123, 3) := by decide +kernel
theorem dX6_nameOf_115 : decode cX6_nameOf 115 = .ok (.invokestatic 126, 3) := by decide +kernel
theorem dX6_nameOf_118 : decode cX6_nameOf 118 = .ok (.goto 8, 3) := by decide +kernel
theorem dX6_nameOf_121 : decode cX6_nameOf 121 = .ok (.aload_n 0, 1) := by decide +kernel
theorem dX6_nameOf_122 : decode cX6_nameOf 122 = .ok (.iload_n 3, 1) := by decide +kernel
theorem dX6_nameOf_123 : decode cX6_nameOf 123 = .ok (.invokevirtual 129, 3) := by decide +kernel
theorem dX6_nameOf_126 : decode cX6_nameOf 126 = .ok (.ireturn, 1) := by decide +kernel
theorem dX6_chairOf_0 : decode cX6_chairOf 0 = .ok (.iload_n 1, 1) := by decide +kernel
theorem dX6_chairOf_1 : decode cX6_chairOf 1 = .ok (.iconst 0, 1) := by decide +kernel
theorem dX6_chairOf_2 : decode cX6_chairOf 2 = .ok (.aload_n 0, 1) := by decide +kernel
theorem dX6_chairOf_3 : decode cX6_chairOf 3 = .ok (.getfield 7, 3) := by decide +kernel
theorem dX6_chairOf_6 : decode cX6_chairOf 6 = .ok (.iconst 0, 1) := by decide +kernel
theorem dX6_chairOf_7 : decode cX6_chairOf 7 = .ok (.iaload, 1) := by decide +kernel
theorem dX6_chairOf_8 : decode cX6_chairOf 8 = .ok (.iconst 1, 1) := by decide +kernel
theorem dX6_chairOf_9 : decode cX6_chairOf 9 = .ok (.isub, 1) := by decide +kernel
theorem dX6_chairOf_10 : decode cX6_chairOf 10 = .ok (.invokestatic 43, 3) := by decide +kernel
theorem dX6_chairOf_13 : decode cX6_chairOf 13 = .ok (.ifCond .eq 12, 3) := by decide +kernel
theorem dX6_chairOf_16 : decode cX6_chairOf 16 = .ok (.iload_n 2, 1) := by decide +kernel
theorem dX6_chairOf_17 : decode cX6_chairOf 17 = .ok (.iconst 0, 1) := by decide +kernel
theorem dX6_chairOf_18 : decode cX6_chairOf 18 = .ok (.iconst 5, 1) := by decide +kernel
theorem dX6_chairOf_19 : decode cX6_chairOf 19 = .ok (.invokestatic 43, 3) := by decide +kernel
theorem dX6_chairOf_22 : decode cX6_chairOf 22 = .ok (.ifCond .ne 5, 3) := by decide +kernel
theorem dX6_chairOf_25 : decode cX6_chairOf 25 = .ok (.iconst (-1), 1) := by decide +kernel
theorem dX6_chairOf_26 : decode cX6_chairOf 26 = .ok (.ireturn, 1) := by decide +kernel
theorem dX6_chairOf_27 : decode cX6_chairOf 27 = .ok (.aload_n 0, 1) := by decide +kernel
theorem dX6_chairOf_28 : decode cX6_chairOf 28 = .ok (.getfield 7, 3) := by decide +kernel
theorem dX6_chairOf_31 : decode cX6_chairOf 31 = .ok (.iload_n 1, 1) := by decide +kernel
theorem dX6_chairOf_32 : decode cX6_chairOf 32 = .ok (.iconst 0, 1) := by decide +kernel
theorem dX6_chairOf_33 : decode cX6_chairOf 33 = .ok (.invokestatic 65, 3) := by decide +kernel
theorem dX6_chairOf_36 : decode cX6_chairOf 36 = .ok (.iaload, 1) := by decide +kernel
theorem dX6_chairOf_37 : decode cX6_chairOf 37 = .ok (.ifCond .ne 6, 3) := by decide +kernel
theorem dX6_chairOf_40 : decode cX6_chairOf 40 = .ok (.bipush (-4), 2) := by decide +kernel
theorem dX6_chairOf_42 : decode cX6_chairOf 42 = .ok (.ireturn, 1) := by decide +kernel
theorem dX6_chairOf_43 : decode cX6_chairOf 43 = .ok (.iload_n 2, 1) := by decide +kernel
theorem dX6_chairOf_44 : decode cX6_chairOf 44 = .ok (.tableswitch 98 0 4 #[36, 66, 72, 78, 84], 36) := by decide +kernel
theorem dX6_chairOf_80 : decode cX6_chairOf 80 = .ok (.aload_n 0, 1) := by decide +kernel
theorem dX6_chairOf_81 : decode cX6_chairOf 81 = .ok (.getfield 7, 3) := by decide +kernel
theorem dX6_chairOf_84 : decode cX6_chairOf 84 = .ok (.iload_n 1, 1) := by decide +kernel
theorem dX6_chairOf_85 : decode cX6_chairOf 85 = .ok (.iconst 2, 1) := by decide +kernel
theorem dX6_chairOf_86 : decode cX6_chairOf 86 = .ok (.invokestatic 65, 3) := by decide +kernel
theorem dX6_chairOf_89 : decode cX6_chairOf 89 = .ok (.iaload, 1) := by decide +kernel
theorem dX6_chairOf_90 : decode cX6_chairOf 90 = .ok (.iconst 1, 1) := by decide +kernel
theorem dX6_chairOf_91 : decode cX6_chairOf 91 = .ok (.if_icmp .ne 16, 3) := by decide +kernel
theorem dX6_chairOf_94 : decode cX6_chairOf 94 = .ok (.aload_n 0, 1) := by decide +kernel
theorem dX6_chairOf_95 : decode cX6_chairOf 95 = .ok (.getfield 7, 3) := by decide +kernel
theorem dX6_chairOf_98 : decode cX6_chairOf 98 = .ok (.iload_n 1, 1) := by decide +kernel
theorem dX6_chairOf_99 : decode cX6_chairOf 99 = .ok (.iconst 1, 1) := by decide +kernel
theorem dX6_chairOf_100 : decode cX6_chairOf 100 = .ok (.invokestatic 65, 3) := by decide +kernel
theorem dX6_chairOf_103 : decode cX6_chairOf 103 = .ok (.iaload, 1) := by decide +kernel
theorem dX6_chairOf_104 : decode cX6_chairOf 104 = .ok (.goto 5, 3) := by decide +kernel
theorem dX6_chairOf_107 : decode cX6_chairOf 107 = .ok (.bipush (-4), 2) := by decide +kernel
theorem dX6_chairOf_109 : decode cX6_chairOf 109 = .ok (.ireturn, 1) := by decide +kernel
theorem dX6_chairOf_110 : decode cX6_chairOf 110 = .ok (.aload_n 0, 1) := by decide +kernel
theorem dX6_chairOf_111 : decode cX6_chairOf 111 = .ok (.iload_n 1, 1) := by decide +kernel
theorem dX6_chairOf_112 : decode cX6_chairOf 112 = .ok (.invokevirtual 123, 3) := by decide +kernel
theorem dX6_chairOf_115 : decode cX6_chairOf 115 = .ok (.ireturn, 1) := by decide +kernel
theorem dX6_chairOf_116 : decode cX6_chairOf 116 = .ok (.aload_n 0, 1) := by decide +kernel
theorem dX6_chairOf_117 : decode cX6_chairOf 117 = .ok (.iload_n 1, 1) := by decide +kernel
theorem dX6_chairOf_118 : decode cX6_chairOf 118 = .ok (.invokevirtual 55, 3) := by decide +kernel
theorem dX6_chairOf_121 : decode cX6_chairOf 121 = .ok (.ireturn, 1) := by decide +kernel
theorem dX6_chairOf_122 : decode cX6_chairOf 122 = .ok (.aload_n 0, 1) := by decide +kernel
theorem dX6_chairOf_123 : decode cX6_chairOf 123 = .ok (.iload_n 1, 1) := by decide +kernel
theorem dX6_chairOf_124 : decode cX6_chairOf 124 = .ok (.invokevirtual 59, 3) := by decide +kernel
theorem dX6_chairOf_127 : decode cX6_chairOf 127 = .ok (.ireturn, 1) := by decide +kernel
theorem dX6_chairOf_128 : decode cX6_chairOf 128 = .ok (.aload_n 0, 1) := by decide +kernel
theorem dX6_chairOf_129 : decode cX6_chairOf 129 = .ok (.iload_n 1, 1) := by decide +kernel
theorem dX6_chairOf_130 : decode cX6_chairOf 130 = .ok (.invokevirtual 62, 3) := by decide +kernel
theorem dX6_chairOf_133 : decode cX6_chairOf 133 = .ok (.ifCond .eq 7, 3) := by decide +kernel
theorem dX6_chairOf_136 : decode cX6_chairOf 136 = .ok (.iconst 1, 1) := by decide +kernel
theorem dX6_chairOf_137 : decode cX6_chairOf 137 = .ok (.goto 4, 3) := by decide +kernel
theorem dX6_chairOf_140 : decode cX6_chairOf 140 = .ok (.iconst 0, 1) := by decide +kernel
theorem dX6_chairOf_141 : decode cX6_chairOf 141 = .ok (.ireturn, 1) := by decide +kernel
theorem dX6_chairOf_142 : decode cX6_chairOf 142 = .ok (.aload_n 0, 1) := by decide +kernel
theorem dX6_chairOf_143 : decode cX6_chairOf 143 = .ok (.iconst (-1), 1) := by decide +kernel
theorem dX6_chairOf_144 : decode cX6_chairOf 144 = .ok (.iconst (-1), 1) := by decide +kernel
theorem dX6_chairOf_145 : decode cX6_chairOf 145 = .ok (.invokevirtual 71, 3) := by decide +kernel
theorem dX6_chairOf_148 : decode cX6_chairOf 148 = .ok (.iload_n 1, 1) := by decide +kernel
theorem dX6_chairOf_149 : decode cX6_chairOf 149 = .ok (.if_icmp .ne 7, 3) := by decide +kernel
theorem dX6_chairOf_152 : decode cX6_chairOf 152 = .ok (.iconst 1, 1) := by decide +kernel
theorem dX6_chairOf_153 : decode cX6_chairOf 153 = .ok (.goto 4, 3) := by decide +kernel
theorem dX6_chairOf_156 : decode cX6_chairOf 156 = .ok (.iconst 0, 1) := by decide +kernel
theorem dX6_chairOf_157 : decode cX6_chairOf 157 = .ok (.ireturn, 1) := by decide +kernel
theorem dX6_orderOf_0 : decode cX6_orderOf 0 = .ok (.iload_n 1, 1) := by decide +kernel
theorem dX6_orderOf_1 : decode cX6_orderOf 1 = .ok (.ifCond .lt 23, 3) := by decide +kernel
theorem dX6_orderOf_4 : decode cX6_orderOf 4 = .ok (.iload_n 1, 1) := by decide +kernel
theorem dX6_orderOf_5 : decode cX6_orderOf 5 = .ok (.aload_n 0, 1) := by decide +kernel
theorem dX6_orderOf_6 : decode cX6_orderOf 6 = .ok (.getfield 7, 3) := by decide +kernel
theorem dX6_orderOf_9 : decode cX6_orderOf 9 = .ok (.iconst 3, 1) := by decide +kernel
theorem dX6_orderOf_10 : decode cX6_orderOf 10 = .ok (.iaload, 1) := by decide +kernel
theorem dX6_orderOf_11 : decode cX6_orderOf 11 = .ok (.if_icmp .ge 13, 3) := by decide +kernel
theorem dX6_orderOf_14 : decode cX6_orderOf 14 = .ok (.iload_n 2, 1) := by decide +kernel
theorem dX6_orderOf_15 : decode cX6_orderOf 15 = .ok (.iconst 0, 1) := by decide +kernel
theorem dX6_orderOf_16 : decode cX6_orderOf 16 = .ok (.bipush 6, 2) := by decide +kernel
theorem dX6_orderOf_18 : decode cX6_orderOf 18 = .ok (.invokestatic 43, 3) := by decide +kernel
theorem dX6_orderOf_21 : decode cX6_orderOf 21 = .ok (.ifCond .ne 5, 3) := by decide +kernel
theorem dX6_orderOf_24 : decode cX6_orderOf 24 = .ok (.iconst (-1), 1) := by decide +kernel
theorem dX6_orderOf_25 : decode cX6_orderOf 25 = .ok (.ireturn, 1) := by decide +kernel
theorem dX6_orderOf_26 : decode cX6_orderOf 26 = .ok (.aload_n 0, 1) := by decide +kernel
theorem dX6_orderOf_27 : decode cX6_orderOf 27 = .ok (.getfield 7, 3) := by decide +kernel
theorem dX6_orderOf_30 : decode cX6_orderOf 30 = .ok (.iload_n 1, 1) := by decide +kernel
theorem dX6_orderOf_31 : decode cX6_orderOf 31 = .ok (.iconst 4, 1) := by decide +kernel
theorem dX6_orderOf_32 : decode cX6_orderOf 32 = .ok (.invokestatic 47, 3) := by decide +kernel
theorem dX6_orderOf_35 : decode cX6_orderOf 35 = .ok (.iaload, 1) := by decide +kernel
theorem dX6_orderOf_36 : decode cX6_orderOf 36 = .ok (.istore_n 3, 1) := by decide +kernel
theorem dX6_orderOf_37 : decode cX6_orderOf 37 = .ok (.iload_n 2, 1) := by decide +kernel
theorem dX6_orderOf_38 : decode cX6_orderOf 38 = .ok (.iconst 4, 1) := by decide +kernel
theorem dX6_orderOf_39 : decode cX6_orderOf 39 = .ok (.if_icmp .ge 14, 3) := by decide +kernel
theorem dX6_orderOf_42 : decode cX6_orderOf 42 = .ok (.aload_n 0, 1) := by decide +kernel
theorem dX6_orderOf_43 : decode cX6_orderOf 43 = .ok (.getfield 7, 3) := by decide +kernel
theorem dX6_orderOf_46 : decode cX6_orderOf 46 = .ok (.iload_n 1, 1) := by decide +kernel
theorem dX6_orderOf_47 : decode cX6_orderOf 47 = .ok (.iload_n 2, 1) := by decide +kernel
theorem dX6_orderOf_48 : decode cX6_orderOf 48 = .ok (.invokestatic 47, 3) := by decide +kernel
theorem dX6_orderOf_51 : decode cX6_orderOf 51 = .ok (.iaload, 1) := by decide +kernel
theorem dX6_orderOf_52 : decode cX6_orderOf 52 = .ok (.ireturn, 1) := by decide +kernel
theorem dX6_orderOf_53 : decode cX6_orderOf 53 = .ok (.iload_n 2, 1) := by decide +kernel
theorem dX6_orderOf_54 : decode cX6_orderOf 54 = .ok (.iconst 4, 1) := by decide +kernel
theorem dX6_orderOf_55 : decode cX6_orderOf 55 = .ok (.if_icmp .ne 15, 3) := by decide +kernel
theorem dX6_orderOf_58 : decode cX6_orderOf 58 = .ok (.iload_n 3, 1) := by decide +kernel
theorem dX6_orderOf_59 : decode cX6_orderOf 59 = .ok (.ifCond .ge 7, 3) := by decide +kernel
theorem dX6_orderOf_62 : decode cX6_orderOf 62 = .ok (.iconst 0, 1) := by decide +kernel
theorem dX6_orderOf_63 : decode cX6_orderOf 63 = .ok (.goto 42, 3) := by decide +kernel
theorem dX6_orderOf_66 : decode cX6_orderOf 66 = .ok (.iconst 1, 1) := by decide +kernel
theorem dX6_orderOf_67 : decode cX6_orderOf 67 = .ok (.goto 38, 3) := by decide +kernel
theorem dX6_orderOf_70 : decode cX6_orderOf 70 = .ok (.iload_n 2, 1) := by decide +kernel
theorem dX6_orderOf_71 : decode cX6_orderOf 71 = .ok (.iconst 5, 1) := by decide +kernel
theorem dX6_orderOf_72 : decode cX6_orderOf 72 = .ok (.if_icmp .ne 23, 3) := by decide +kernel
theorem dX6_orderOf_75 : decode cX6_orderOf 75 = .ok (.iload_n 3, 1) := by decide +kernel
theorem dX6_orderOf_76 : decode cX6_orderOf 76 = .ok (.ifCond .ge 8, 3) := by decide +kernel
theorem dX6_orderOf_79 : decode cX6_orderOf 79 = .ok (.bipush (-4), 2) := by decide +kernel
theorem dX6_orderOf_81 : decode cX6_orderOf 81 = .ok (.goto 24, 3) := by decide +kernel
theorem dX6_orderOf_84 : decode cX6_orderOf 84 = .ok (.iload_n 3, 1) := by decide +kernel
theorem dX6_orderOf_85 : decode cX6_orderOf 85 = .ok (.aload_n 0, 1) := by decide +kernel
theorem dX6_orderOf_86 : decode cX6_orderOf 86 = .ok (.getfield 7, 3) := by decide +kernel
theorem dX6_orderOf_89 : decode cX6_orderOf 89 = .ok (.iconst 1, 1) := by decide +kernel
theorem dX6_orderOf_90 : decode cX6_orderOf 90 = .ok (.iaload, 1) := by decide +kernel
theorem dX6_orderOf_91 : decode cX6_orderOf 91 = .ok (.isub, 1) := by decide +kernel
theorem dX6_orderOf_92 : decode cX6_orderOf 92 = .ok (.goto 13, 3) := by decide +kernel
theorem dX6_orderOf_95 : decode cX6_orderOf 95 = .ok (.aload_n 0, 1) := by decide +kernel
theorem dX6_orderOf_96 : decode cX6_orderOf 96 = .ok (.getfield 7, 3) := by decide +kernel
theorem dX6_orderOf_99 : decode cX6_orderOf 99 = .ok (.iload_n 1, 1) := by decide +kernel
theorem dX6_orderOf_100 : decode cX6_orderOf 100 = .ok (.iconst 5, 1) := by decide +kernel
theorem dX6_orderOf_101 : decode cX6_orderOf 101 = .ok (.invokestatic 47, 3) := by decide +kernel
theorem dX6_orderOf_104 : decode cX6_orderOf 104 = .ok (.iaload, 1) := by decide +kernel
theorem dX6_orderOf_105 : decode cX6_orderOf 105 = .ok (.ireturn, 1) := by decide +kernel
theorem dX6_many_0 : decode cX6_many 0 = .ok (.iconst 0, 1) := by decide +kernel
theorem dX6_many_1 : decode cX6_many 1 = .ok (.istore_n 2, 1) := by decide +kernel
theorem dX6_many_2 : decode cX6_many 2 = .ok (.iconst 0, 1) := by decide +kernel
theorem dX6_many_3 : decode cX6_many 3 = .ok (.istore_n 3, 1) := by decide +kernel
theorem dX6_many_4 : decode cX6_many 4 = .ok (.iload_n 3, 1) := by decide +kernel
theorem dX6_many_5 : decode cX6_many 5 = .ok (.bipush 8, 2) := by decide +kernel
theorem dX6_many_7 : decode cX6_many 7 = .ok (.if_icmp .ge 101, 3) := by decide +kernel
theorem dX6_many_10 : decode cX6_many 10 = .ok (.iload_n 2, 1) := by decide +kernel
theorem dX6_many_11 : decode cX6_many 11 = .ok (.iload_n 1, 1) := by decide +kernel
theorem dX6_many_12 : decode cX6_many 12 = .ok (.iconst 1, 1) := by decide +kernel
theorem dX6_many_13 : decode cX6_many 13 = .ok (.if_icmp .ne 34, 3) := by decide +kernel
theorem dX6_many_16 : decode cX6_many 16 = .ok (.iload_n 3, 1) := by decide +kernel
theorem dX6_many_17 : decode cX6_many 17 = .ok (.aload_n 0, 1) := by decide +kernel
theorem dX6_many_18 : decode cX6_many 18 = .ok (.getfield 7, 3) := by decide +kernel
theorem dX6_many_21 : decode cX6_many 21 = .ok (.iconst 0, 1) := by decide +kernel
theorem dX6_many_22 : decode cX6_many 22 = .ok (.iaload, 1) := by decide +kernel
theorem dX6_many_23 : decode cX6_many 23 = .ok (.if_icmp .ge 20, 3) := by decide +kernel
theorem dX6_many_26 : decode cX6_many 26 = .ok (.aload_n 0, 1) := by decide +kernel
theorem dX6_many_27 : decode cX6_many 27 = .ok (.getfield 7, 3) := by decide +kernel
theorem dX6_many_30 : decode cX6_many 30 = .ok (.iload_n 3, 1) := by decide +kernel
theorem dX6_many_31 : decode cX6_many 31 = .ok (.iconst 0, 1) := by decide +kernel
theorem dX6_many_32 : decode cX6_many 32 = .ok (.invokestatic 65, 3) := by decide +kernel
theorem dX6_many_35 : decode cX6_many 35 = .ok (.iaload, 1) := by decide +kernel
theorem dX6_many_36 : decode cX6_many 36 = .ok (.ifCond .ne 7, 3) := by decide +kernel
theorem dX6_many_39 : decode cX6_many 39 = .ok (.iconst 1, 1) := by decide +kernel
theorem dX6_many_40 : decode cX6_many 40 = .ok (.goto 60, 3) := by decide +kernel
theorem dX6_many_43 : decode cX6_many 43 = .ok (.iconst 0, 1) := by decide +kernel
theorem dX6_many_44 : decode cX6_many 44 = .ok (.goto 56, 3) := by decide +kernel
theorem dX6_many_47 : decode cX6_many 47 = .ok (.iload_n 1, 1) := by decide +kernel
theorem dX6_many_48 : decode cX6_many 48 = .ok (.iconst 2, 1) := by decide +kernel
theorem dX6_many_49 : decode cX6_many 49 = .ok (.if_icmp .ne 23, 3) := by decide +kernel
theorem dX6_many_52 : decode cX6_many 52 = .ok (.aload_n 0, 1) := by decide +kernel
theorem dX6_many_53 : decode cX6_many 53 = .ok (.getfield 7, 3) := by decide +kernel
theorem dX6_many_56 : decode cX6_many 56 = .ok (.bipush 12, 2) := by decide +kernel
theorem dX6_many_58 : decode cX6_many 58 = .ok (.iload_n 3, 1) := by decide +kernel
theorem dX6_many_59 : decode cX6_many 59 = .ok (.iadd, 1) := by decide +kernel
theorem dX6_many_60 : decode cX6_many 60 = .ok (.iaload, 1) := by decide +kernel
theorem dX6_many_61 : decode cX6_many 61 = .ok (.ifCond .lt 7, 3) := by decide +kernel
theorem dX6_many_64 : decode cX6_many 64 = .ok (.iconst 1, 1) := by decide +kernel
theorem dX6_many_65 : decode cX6_many 65 = .ok (.goto 35, 3) := by decide +kernel
theorem dX6_many_68 : decode cX6_many 68 = .ok (.iconst 0, 1) := by decide +kernel
theorem dX6_many_69 : decode cX6_many 69 = .ok (.goto 31, 3) := by decide +kernel
theorem dX6_many_72 : decode cX6_many 72 = .ok (.iload_n 3, 1) := by decide +kernel
theorem dX6_many_73 : decode cX6_many 73 = .ok (.aload_n 0, 1) := by decide +kernel
theorem dX6_many_74 : decode cX6_many 74 = .ok (.getfield 7, 3) := by decide +kernel
theorem dX6_many_77 : decode cX6_many 77 = .ok (.iconst 3, 1) := by decide +kernel
theorem dX6_many_78 : decode cX6_many 78 = .ok (.iaload, 1) := by decide +kernel
theorem dX6_many_79 : decode cX6_many 79 = .ok (.if_icmp .ge 20, 3) := by decide +kernel
theorem dX6_many_82 : decode cX6_many 82 = .ok (.aload_n 0, 1) := by decide +kernel
theorem dX6_many_83 : decode cX6_many 83 = .ok (.getfield 7, 3) := by decide +kernel
theorem dX6_many_86 : decode cX6_many 86 = .ok (.iload_n 3, 1) := by decide +kernel
theorem dX6_many_87 : decode cX6_many 87 = .ok (.iconst 4, 1) := by decide +kernel
theorem dX6_many_88 : decode cX6_many 88 = .ok (.invokestatic 47, 3) := by decide +kernel
theorem dX6_many_91 : decode cX6_many 91 = .ok (.iaload, 1) := by decide +kernel
theorem dX6_many_92 : decode cX6_many 92 = .ok (.ifCond .lt 7, 3) := by decide +kernel
theorem dX6_many_95 : decode cX6_many 95 = .ok (.iconst 1, 1) := by decide +kernel
theorem dX6_many_96 : decode cX6_many 96 = .ok (.goto 4, 3) := by decide +kernel
theorem dX6_many_99 : decode cX6_many 99 = .ok (.iconst 0, 1) := by decide +kernel
theorem dX6_many_100 : decode cX6_many 100 = .ok (.iadd, 1) := by decide +kernel
theorem dX6_many_101 : decode cX6_many 101 = .ok (.istore_n 2, 1) := by decide +kernel
theorem dX6_many_102 : decode cX6_many 102 = .ok (.iinc 3 1, 3) := by decide +kernel
theorem dX6_many_105 : decode cX6_many 105 = .ok (.goto (-101), 3) := by decide +kernel
theorem dX6_many_108 : decode cX6_many 108 = .ok (.iload_n 2, 1) := by decide +kernel
theorem dX6_many_109 : decode cX6_many 109 = .ok (.ireturn, 1) := by decide +kernel
theorem dX6_count_0 : decode cX6_count 0 = .ok (.iload_n 1, 1) := by decide +kernel
theorem dX6_count_1 : decode cX6_count 1 = .ok (.tableswitch 190 0 23 #[111, 118, 118, 124, 118, 131, 138, 145, 152, 159, 167, 172, 190, 190, 190, 190, 190, 190, 190, 190, 177, 177, 177, 177], 111) := by decide +kernel
theorem dX6_count_112 : decode cX6_count 112 = .ok (.aload_n 0, 1) := by decide +kernel
theorem dX6_count_113 : decode cX6_count 113 = .ok (.getfield 7, 3) := by decide +kernel
theorem dX6_count_116 : decode cX6_count 116 = .ok (.iconst 0, 1) := by decide +kernel
theorem dX6_count_117 : decode cX6_count 117 = .ok (.iaload, 1) := by decide +kernel
theorem dX6_count_118 : decode cX6_count 118 = .ok (.ireturn, 1) := by decide +kernel
theorem dX6_count_119 : decode cX6_count 119 = .ok (.aload_n 0, 1) := by decide +kernel
theorem dX6_count_120 : decode cX6_count 120 = .ok (.iload_n 1, 1) := by decide +kernel
theorem dX6_count_121 : decode cX6_count 121 = .ok (.invokevirtual 132, 3) := by decide +kernel
theorem dX6_count_124 : decode cX6_count 124 = .ok (.ireturn, 1) := by decide +kernel
theorem dX6_count_125 : decode cX6_count 125 = .ok (.aload_n 0, 1) := by decide +kernel
theorem dX6_count_126 : decode cX6_count 126 = .ok (.getfield 7, 3) := by decide +kernel
theorem dX6_count_129 : decode cX6_count 129 = .ok (.iconst 3, 1) := by decide +kernel
theorem dX6_count_130 : decode cX6_count 130 = .ok (.iaload, 1) := by decide +kernel
theorem dX6_count_131 : decode cX6_count 131 = .ok (.ireturn, 1) := by decide +kernel
theorem dX6_count_132 : decode cX6_count 132 = .ok (.aload_n 0, 1) := by decide +kernel
theorem dX6_count_133 : decode cX6_count 133 = .ok (.getfield 7, 3) := by decide +kernel
theorem dX6_count_136 : decode cX6_count 136 = .ok (.iconst 4, 1) := by decide +kernel
theorem dX6_count_137 : decode cX6_count 137 = .ok (.iaload, 1) := by decide +kernel
theorem dX6_count_138 : decode cX6_count 138 = .ok (.ireturn, 1) := by decide +kernel
theorem dX6_count_139 : decode cX6_count 139 = .ok (.aload_n 0, 1) := by decide +kernel
theorem dX6_count_140 : decode cX6_count 140 = .ok (.getfield 7, 3) := by decide +kernel
theorem dX6_count_143 : decode cX6_count 143 = .ok (.iconst 1, 1) := by decide +kernel
theorem dX6_count_144 : decode cX6_count 144 = .ok (.iaload, 1) := by decide +kernel
theorem dX6_count_145 : decode cX6_count 145 = .ok (.ireturn, 1) := by decide +kernel
theorem dX6_count_146 : decode cX6_count 146 = .ok (.aload_n 0, 1) := by decide +kernel
theorem dX6_count_147 : decode cX6_count 147 = .ok (.getfield 7, 3) := by decide +kernel
theorem dX6_count_150 : decode cX6_count 150 = .ok (.iconst 2, 1) := by decide +kernel
theorem dX6_count_151 : decode cX6_count 151 = .ok (.iaload, 1) := by decide +kernel
theorem dX6_count_152 : decode cX6_count 152 = .ok (.ireturn, 1) := by decide +kernel
theorem dX6_count_153 : decode cX6_count 153 = .ok (.aload_n 0, 1) := by decide +kernel
theorem dX6_count_154 : decode cX6_count 154 = .ok (.getfield 7, 3) := by decide +kernel
theorem dX6_count_157 : decode cX6_count 157 = .ok (.iconst 5, 1) := by decide +kernel
theorem dX6_count_158 : decode cX6_count 158 = .ok (.iaload, 1) := by decide +kernel
theorem dX6_count_159 : decode cX6_count 159 = .ok (.ireturn, 1) := by decide +kernel
theorem dX6_count_160 : decode cX6_count 160 = .ok (.aload_n 0, 1) := by decide +kernel
theorem dX6_count_161 : decode cX6_count 161 = .ok (.getfield 7, 3) := by decide +kernel
theorem dX6_count_164 : decode cX6_count 164 = .ok (.bipush 6, 2) := by decide +kernel
theorem dX6_count_166 : decode cX6_count 166 = .ok (.iaload, 1) := by decide +kernel
theorem dX6_count_167 : decode cX6_count 167 = .ok (.ireturn, 1) := by decide +kernel
theorem dX6_count_168 : decode cX6_count 168 = .ok (.aload_n 0, 1) := by decide +kernel
theorem dX6_count_169 : decode cX6_count 169 = .ok (.getfield 39, 3) := by decide +kernel
theorem dX6_count_172 : decode cX6_count 172 = .ok (.ireturn, 1) := by decide +kernel
theorem dX6_count_173 : decode cX6_count 173 = .ok (.aload_n 0, 1) := by decide +kernel
theorem dX6_count_174 : decode cX6_count 174 = .ok (.getfield 135, 3) := by decide +kernel
theorem dX6_count_177 : decode cX6_count 177 = .ok (.ireturn, 1) := by decide +kernel
theorem dX6_count_178 : decode cX6_count 178 = .ok (.aload_n 0, 1) := by decide +kernel
theorem dX6_count_179 : decode cX6_count 179 = .ok (.getfield 7, 3) := by decide +kernel
theorem dX6_count_182 : decode cX6_count 182 = .ok (.bipush 8, 2) := by decide +kernel
theorem dX6_count_184 : decode cX6_count 184 = .ok (.iload_n 1, 1) := by decide +kernel
theorem dX6_count_185 : decode cX6_count 185 = .ok (.iadd, 1) := by decide +kernel
theorem dX6_count_186 : decode cX6_count 186 = .ok (.bipush 20, 2) := by decide +kernel
theorem dX6_count_188 : decode cX6_count 188 = .ok (.isub, 1) := by decide +kernel
theorem dX6_count_189 : decode cX6_count 189 = .ok (.iaload, 1) := by decide +kernel
theorem dX6_count_190 : decode cX6_count 190 = .ok (.ireturn, 1) := by decide +kernel
theorem dX6_count_191 : decode cX6_count 191 = .ok (.iconst (-1), 1) := by decide +kernel
theorem dX6_count_192 : decode cX6_count 192 = .ok (.ireturn, 1) := by decide +kernel
theorem dX6_sends_0 : decode cX6_sends 0 = .ok (.iload_n 1, 1) := by decide +kernel
theorem dX6_sends_1 : decode cX6_sends 1 = .ok (.invokestatic 85, 3) := by decide +kernel
theorem dX6_sends_4 : decode cX6_sends 4 = .ok (.ifCond .eq 17, 3) := by decide +kernel
theorem dX6_sends_7 : decode cX6_sends 7 = .ok (.iload_n 2, 1) := by decide +kernel
theorem dX6_sends_8 : decode cX6_sends 8 = .ok (.invokestatic 85, 3) := by decide +kernel
theorem dX6_sends_11 : decode cX6_sends 11 = .ok (.ifCond .eq 10, 3) := by decide +kernel
theorem dX6_sends_14 : decode cX6_sends 14 = .ok (.iload_n 3, 1) := by decide +kernel
theorem dX6_sends_15 : decode cX6_sends 15 = .ok (.invokestatic 85, 3) := by decide +kernel
theorem dX6_sends_18 : decode cX6_sends 18 = .ok (.ifCond .ne 5, 3) := by decide +kernel
theorem dX6_sends_21 : decode cX6_sends 21 = .ok (.iconst (-1), 1) := by decide +kernel
theorem dX6_sends_22 : decode cX6_sends 22 = .ok (.ireturn, 1) := by decide +kernel
theorem dX6_sends_23 : decode cX6_sends 23 = .ok (.aload_n 0, 1) := by decide +kernel
theorem dX6_sends_24 : decode cX6_sends 24 = .ok (.getfield 7, 3) := by decide +kernel
theorem dX6_sends_27 : decode cX6_sends 27 = .ok (.aload_n 0, 1) := by decide +kernel
theorem dX6_sends_28 : decode cX6_sends 28 = .ok (.getfield 19, 3) := by decide +kernel
theorem dX6_sends_31 : decode cX6_sends 31 = .ok (.invokestatic 88, 3) := by decide +kernel
theorem dX6_sends_34 : decode cX6_sends 34 = .ok (.aload_n 0, 1) := by decide +kernel
theorem dX6_sends_35 : decode cX6_sends 35 = .ok (.iload_n 1, 1) := by decide +kernel
theorem dX6_sends_36 : decode cX6_sends 36 = .ok (.iload_n 2, 1) := by decide +kernel
theorem dX6_sends_37 : decode cX6_sends 37 = .ok (.iload_n 3, 1) := by decide +kernel
theorem dX6_sends_38 : decode cX6_sends 38 = .ok (.invokevirtual 102, 3) := by decide +kernel
theorem dX6_sends_41 : decode cX6_sends 41 = .ok (.istore 4, 2) := by decide +kernel
theorem dX6_sends_43 : decode cX6_sends 43 = .ok (.aload_n 0, 1) := by decide +kernel
theorem dX6_sends_44 : decode cX6_sends 44 = .ok (.getfield 7, 3) := by decide +kernel
theorem dX6_sends_47 : decode cX6_sends 47 = .ok (.iconst 5, 1) := by decide +kernel
theorem dX6_sends_48 : decode cX6_sends 48 = .ok (.iaload, 1) := by decide +kernel
theorem dX6_sends_49 : decode cX6_sends 49 = .ok (.aload_n 0, 1) := by decide +kernel
theorem dX6_sends_50 : decode cX6_sends 50 = .ok (.getfield 19, 3) := by decide +kernel
theorem dX6_sends_53 : decode cX6_sends 53 = .ok (.iconst 5, 1) := by decide +kernel
theorem dX6_sends_54 : decode cX6_sends 54 = .ok (.iaload, 1) := by decide +kernel
theorem dX6_sends_55 : decode cX6_sends 55 = .ok (.isub, 1) := by decide +kernel
theorem dX6_sends_56 : decode cX6_sends 56 = .ok (.istore 5, 2) := by decide +kernel
theorem dX6_sends_58 : decode cX6_sends 58 = .ok (.aload_n 0, 1) := by decide +kernel
theorem dX6_sends_59 : decode cX6_sends 59 = .ok (.getfield 19, 3) := by decide +kernel
theorem dX6_sends_62 : decode cX6_sends 62 = .ok (.aload_n 0, 1) := by decide +kernel
theorem dX6_sends_63 : decode cX6_sends 63 = .ok (.getfield 7, 3) := by decide +kernel
theorem dX6_sends_66 : decode cX6_sends 66 = .ok (.invokestatic 88, 3) := by decide +kernel
theorem dX6_sends_69 : decode cX6_sends 69 = .ok (.iload 4, 2) := by decide +kernel
theorem dX6_sends_71 : decode cX6_sends 71 = .ok (.ifCond .ge 8, 3) := by decide +kernel
theorem dX6_sends_74 : decode cX6_sends 74 = .ok (.bipush (-2), 2) := by decide +kernel
theorem dX6_sends_76 : decode cX6_sends 76 = .ok (.goto 5, 3) := by decide +kernel
theorem dX6_sends_79 : decode cX6_sends 79 = .ok (.iload 5, 2) := by decide +kernel
theorem dX6_sends_81 : decode cX6_sends 81 = .ok (.ireturn, 1) := by decide +kernel
theorem dX6_idleIn_0 : decode cX6_idleIn 0 = .ok (.aload_n 0, 1) := by decide +kernel
theorem dX6_idleIn_1 : decode cX6_idleIn 1 = .ok (.getfield 7, 3) := by decide +kernel
theorem dX6_idleIn_4 : decode cX6_idleIn 4 = .ok (.aload_n 0, 1) := by decide +kernel
theorem dX6_idleIn_5 : decode cX6_idleIn 5 = .ok (.getfield 19, 3) := by decide +kernel
theorem dX6_idleIn_8 : decode cX6_idleIn 8 = .ok (.invokestatic 88, 3) := by decide +kernel
theorem dX6_idleIn_11 : decode cX6_idleIn 11 = .ok (.iconst 0, 1) := by decide +kernel
theorem dX6_idleIn_12 : decode cX6_idleIn 12 = .ok (.istore_n 1, 1) := by decide +kernel
theorem dX6_idleIn_13 : decode cX6_idleIn 13 = .ok (.aload_n 0, 1) := by decide +kernel
theorem dX6_idleIn_14 : decode cX6_idleIn 14 = .ok (.getfield 7, 3) := by decide +kernel
theorem dX6_idleIn_17 : decode cX6_idleIn 17 = .ok (.iconst 3, 1) := by decide +kernel
theorem dX6_idleIn_18 : decode cX6_idleIn 18 = .ok (.iaload, 1) := by decide +kernel
theorem dX6_idleIn_19 : decode cX6_idleIn 19 = .ok (.ifCond .le 13, 3) := by decide +kernel
theorem dX6_idleIn_22 : decode cX6_idleIn 22 = .ok (.aload_n 0, 1) := by decide +kernel
theorem dX6_idleIn_23 : decode cX6_idleIn 23 = .ok (.invokevirtual 117, 3) := by decide +kernel
theorem dX6_idleIn_26 : decode cX6_idleIn 26 = .ok (.iinc 1 1, 3) := by decide +kernel
theorem dX6_idleIn_29 : decode cX6_idleIn 29 = .ok (.goto (-16), 3) := by decide +kernel
theorem dX6_idleIn_32 : decode cX6_idleIn 32 = .ok (.aload_n 0, 1) := by decide +kernel
theorem dX6_idleIn_33 : decode cX6_idleIn 33 = .ok (.getfield 19, 3) := by decide +kernel
theorem dX6_idleIn_36 : decode cX6_idleIn 36 = .ok (.aload_n 0, 1) := by decide +kernel
theorem dX6_idleIn_37 : decode cX6_idleIn 37 = .ok (.getfield 7, 3) := by decide +kernel
theorem dX6_idleIn_40 : decode cX6_idleIn 40 = .ok (.invokestatic 88, 3) := by decide +kernel
theorem dX6_idleIn_43 : decode cX6_idleIn 43 = .ok (.iload_n 1, 1) := by decide +kernel
theorem dX6_idleIn_44 : decode cX6_idleIn 44 = .ok (.ireturn, 1) := by decide +kernel
theorem dX6_knownIn_0 : decode cX6_knownIn 0 = .ok (.iload_n 1, 1) := by decide +kernel
theorem dX6_knownIn_1 : decode cX6_knownIn 1 = .ok (.invokestatic 85, 3) := by decide +kernel
theorem dX6_knownIn_4 : decode cX6_knownIn 4 = .ok (.ifCond .ne 5, 3) := by decide +kernel
theorem dX6_knownIn_7 : decode cX6_knownIn 7 = .ok (.iconst (-1), 1) := by decide +kernel
theorem dX6_knownIn_8 : decode cX6_knownIn 8 = .ok (.ireturn, 1) := by decide +kernel
theorem dX6_knownIn_9 : decode cX6_knownIn 9 = .ok (.aload_n 0, 1) := by decide +kernel
theorem dX6_knownIn_10 : decode cX6_knownIn 10 = .ok (.getfield 7, 3) := by decide +kernel
theorem dX6_knownIn_13 : decode cX6_knownIn 13 = .ok (.aload_n 0, 1) := by decide +kernel
theorem dX6_knownIn_14 : decode cX6_knownIn 14 = .ok (.getfield 19, 3) := by decide +kernel
theorem dX6_knownIn_17 : decode cX6_knownIn 17 = .ok (.invokestatic 88, 3) := by decide +kernel
theorem dX6_knownIn_20 : decode cX6_knownIn 20 = .ok (.aload_n 0, 1) := by decide +kernel
theorem dX6_knownIn_21 : decode cX6_knownIn 21 = .ok (.getfield 7, 3) := by decide +kernel
theorem dX6_knownIn_24 : decode cX6_knownIn 24 = .ok (.bipush 12, 2) := by decide +kernel
theorem dX6_knownIn_26 : decode cX6_knownIn 26 = .ok (.iload_n 1, 1) := by decide +kernel
theorem dX6_knownIn_27 : decode cX6_knownIn 27 = .ok (.iadd, 1) := by decide +kernel
theorem dX6_knownIn_28 : decode cX6_knownIn 28 = .ok (.iaload, 1) := by decide +kernel
theorem dX6_knownIn_29 : decode cX6_knownIn 29 = .ok (.istore_n 2, 1) := by decide +kernel
theorem dX6_knownIn_30 : decode cX6_knownIn 30 = .ok (.iconst 0, 1) := by decide +kernel
theorem dX6_knownIn_31 : decode cX6_knownIn 31 = .ok (.istore_n 3, 1) := by decide +kernel
theorem dX6_knownIn_32 : decode cX6_knownIn 32 = .ok (.iload_n 2, 1) := by decide +kernel
theorem dX6_knownIn_33 : decode cX6_knownIn 33 = .ok (.ifCond .lt 26, 3) := by decide +kernel
theorem dX6_knownIn_36 : decode cX6_knownIn 36 = .ok (.aload_n 0, 1) := by decide +kernel
theorem dX6_knownIn_37 : decode cX6_knownIn 37 = .ok (.getfield 7, 3) := by decide +kernel
theorem dX6_knownIn_40 : decode cX6_knownIn 40 = .ok (.iload_n 2, 1) := by decide +kernel
theorem dX6_knownIn_41 : decode cX6_knownIn 41 = .ok (.iconst 2, 1) := by decide +kernel
theorem dX6_knownIn_42 : decode cX6_knownIn 42 = .ok (.invokestatic 65, 3) := by decide +kernel
theorem dX6_knownIn_45 : decode cX6_knownIn 45 = .ok (.iaload, 1) := by decide +kernel
theorem dX6_knownIn_46 : decode cX6_knownIn 46 = .ok (.ifCond .ne 13, 3) := by decide +kernel
theorem dX6_knownIn_49 : decode cX6_knownIn 49 = .ok (.aload_n 0, 1) := by decide +kernel
theorem dX6_knownIn_50 : decode cX6_knownIn 50 = .ok (.invokevirtual 117, 3) := by decide +kernel
theorem dX6_knownIn_53 : decode cX6_knownIn 53 = .ok (.iinc 3 1, 3) := by decide +kernel
theorem dX6_knownIn_56 : decode cX6_knownIn 56 = .ok (.goto (-24), 3) := by decide +kernel
theorem dX6_knownIn_59 : decode cX6_knownIn 59 = .ok (.aload_n 0, 1) := by decide +kernel
theorem dX6_knownIn_60 : decode cX6_knownIn 60 = .ok (.getfield 19, 3) := by decide +kernel
theorem dX6_knownIn_63 : decode cX6_knownIn 63 = .ok (.aload_n 0, 1) := by decide +kernel
theorem dX6_knownIn_64 : decode cX6_knownIn 64 = .ok (.getfield 7, 3) := by decide +kernel
theorem dX6_knownIn_67 : decode cX6_knownIn 67 = .ok (.invokestatic 88, 3) := by decide +kernel
theorem dX6_knownIn_70 : decode cX6_knownIn 70 = .ok (.iload_n 3, 1) := by decide +kernel
theorem dX6_knownIn_71 : decode cX6_knownIn 71 = .ok (.ireturn, 1) := by decide +kernel
theorem dX6_undo_0 : decode cX6_undo 0 = .ok (.aload_n 0, 1) := by decide +kernel
theorem dX6_undo_1 : decode cX6_undo 1 = .ok (.getfield 39, 3) := by decide +kernel
theorem dX6_undo_4 : decode cX6_undo 4 = .ok (.ifCond .ne 6, 3) := by decide +kernel
theorem dX6_undo_7 : decode cX6_undo 7 = .ok (.bipush (-2), 2) := by decide +kernel
theorem dX6_undo_9 : decode cX6_undo 9 = .ok (.ireturn, 1) := by decide +kernel
theorem dX6_undo_10 : decode cX6_undo 10 = .ok (.aload_n 0, 1) := by decide +kernel
theorem dX6_undo_11 : decode cX6_undo 11 = .ok (.dup, 1) := by decide +kernel
theorem dX6_undo_12 : decode cX6_undo 12 = .ok (.getfield 39, 3) := by decide +kernel
theorem dX6_undo_15 : decode cX6_undo 15 = .ok (.iconst 1, 1) := by decide +kernel
theorem dX6_undo_16 : decode cX6_undo 16 = .ok (.isub, 1) := by decide +kernel
theorem dX6_undo_17 : decode cX6_undo 17 = .ok (.putfield 39, 3) := by decide +kernel
theorem dX6_undo_20 : decode cX6_undo 20 = .ok (.iconst 0, 1) := by decide +kernel
theorem dX6_undo_21 : decode cX6_undo 21 = .ok (.istore_n 1, 1) := by decide +kernel
theorem dX6_undo_22 : decode cX6_undo 22 = .ok (.iload_n 1, 1) := by decide +kernel
theorem dX6_undo_23 : decode cX6_undo 23 = .ok (.sipush 153, 3) := by decide +kernel
theorem dX6_undo_26 : decode cX6_undo 26 = .ok (.if_icmp .ge 30, 3) := by decide +kernel
theorem dX6_undo_29 : decode cX6_undo 29 = .ok (.aload_n 0, 1) := by decide +kernel
theorem dX6_undo_30 : decode cX6_undo 30 = .ok (.getfield 7, 3) := by decide +kernel
theorem dX6_undo_33 : decode cX6_undo 33 = .ok (.iload_n 1, 1) := by decide +kernel
theorem dX6_undo_34 : decode cX6_undo 34 = .ok (.aload_n 0, 1) := by decide +kernel
theorem dX6_undo_35 : decode cX6_undo 35 = .ok (.getfield 13, 3) := by decide +kernel
theorem dX6_undo_38 : decode cX6_undo 38 = .ok (.sipush 153, 3) := by decide +kernel
theorem dX6_undo_41 : decode cX6_undo 41 = .ok (.aload_n 0, 1) := by decide +kernel
theorem dX6_undo_42 : decode cX6_undo 42 = .ok (.getfield 39, 3) := by decide +kernel
theorem dX6_undo_45 : decode cX6_undo 45 = .ok (.imul, 1) := by decide +kernel
theorem dX6_undo_46 : decode cX6_undo 46 = .ok (.iload_n 1, 1) := by decide +kernel
theorem dX6_undo_47 : decode cX6_undo 47 = .ok (.iadd, 1) := by decide +kernel
theorem dX6_undo_48 : decode cX6_undo 48 = .ok (.iaload, 1) := by decide +kernel
theorem dX6_undo_49 : decode cX6_undo 49 = .ok (.iastore, 1) := by decide +kernel
theorem dX6_undo_50 : decode cX6_undo 50 = .ok (.iinc 1 1, 3) := by decide +kernel
theorem dX6_undo_53 : decode cX6_undo 53 = .ok (.goto (-31), 3) := by decide +kernel
theorem dX6_undo_56 : decode cX6_undo 56 = .ok (.aload_n 0, 1) := by decide +kernel
theorem dX6_undo_57 : decode cX6_undo 57 = .ok (.getfield 39, 3) := by decide +kernel
theorem dX6_undo_60 : decode cX6_undo 60 = .ok (.ireturn, 1) := by decide +kernel
theorem dX6_type_0 : decode cX6_type 0 = .ok (.iload_n 1, 1) := by decide +kernel
theorem dX6_type_1 : decode cX6_type 1 = .ok (.bipush 32, 2) := by decide +kernel
theorem dX6_type_3 : decode cX6_type 3 = .ok (.bipush 126, 2) := by decide +kernel
theorem dX6_type_5 : decode cX6_type 5 = .ok (.invokestatic 43, 3) := by decide +kernel
theorem dX6_type_8 : decode cX6_type 8 = .ok (.ifCond .ne 5, 3) := by decide +kernel
theorem dX6_type_11 : decode cX6_type 11 = .ok (.iconst (-1), 1) := by decide +kernel
theorem dX6_type_12 : decode cX6_type 12 = .ok (.ireturn, 1) := by decide +kernel
theorem dX6_type_13 : decode cX6_type 13 = .ok (.aload_n 0, 1) := by decide +kernel
theorem dX6_type_14 : decode cX6_type 14 = .ok (.getfield 135, 3) := by decide +kernel
theorem dX6_type_17 : decode cX6_type 17 = .ok (.bipush 80, 2) := by decide +kernel
theorem dX6_type_19 : decode cX6_type 19 = .ok (.if_icmp .ne 6, 3) := by decide +kernel
theorem dX6_type_22 : decode cX6_type 22 = .ok (.bipush (-3), 2) := by decide +kernel
theorem dX6_type_24 : decode cX6_type 24 = .ok (.ireturn, 1) := by decide +kernel
theorem dX6_type_25 : decode cX6_type 25 = .ok (.aload_n 0, 1) := by decide +kernel
theorem dX6_type_26 : decode cX6_type 26 = .ok (.getfield 22, 3) := by decide +kernel
theorem dX6_type_29 : decode cX6_type 29 = .ok (.aload_n 0, 1) := by decide +kernel
theorem dX6_type_30 : decode cX6_type 30 = .ok (.getfield 135, 3) := by decide +kernel
theorem dX6_type_33 : decode cX6_type 33 = .ok (.iload_n 1, 1) := by decide +kernel
theorem dX6_type_34 : decode cX6_type 34 = .ok (.iastore, 1) := by decide +kernel
theorem dX6_type_35 : decode cX6_type 35 = .ok (.aload_n 0, 1) := by decide +kernel
theorem dX6_type_36 : decode cX6_type 36 = .ok (.dup, 1) := by decide +kernel
theorem dX6_type_37 : decode cX6_type 37 = .ok (.getfield 135, 3) := by decide +kernel
theorem dX6_type_40 : decode cX6_type 40 = .ok (.iconst 1, 1) := by decide +kernel
theorem dX6_type_41 : decode cX6_type 41 = .ok (.iadd, 1) := by decide +kernel
theorem dX6_type_42 : decode cX6_type 42 = .ok (.putfield 135, 3) := by decide +kernel
theorem dX6_type_45 : decode cX6_type 45 = .ok (.aload_n 0, 1) := by decide +kernel
theorem dX6_type_46 : decode cX6_type 46 = .ok (.getfield 135, 3) := by decide +kernel
theorem dX6_type_49 : decode cX6_type 49 = .ok (.ireturn, 1) := by decide +kernel
theorem dX6_clearText_0 : decode cX6_clearText 0 = .ok (.aload_n 0, 1) := by decide +kernel
theorem dX6_clearText_1 : decode cX6_clearText 1 = .ok (.getfield 135, 3) := by decide +kernel
theorem dX6_clearText_4 : decode cX6_clearText 4 = .ok (.istore_n 1, 1) := by decide +kernel
theorem dX6_clearText_5 : decode cX6_clearText 5 = .ok (.aload_n 0, 1) := by decide +kernel
theorem dX6_clearText_6 : decode cX6_clearText 6 = .ok (.iconst 0, 1) := by decide +kernel
theorem dX6_clearText_7 : decode cX6_clearText 7 = .ok (.putfield 135, 3) := by decide +kernel
theorem dX6_clearText_10 : decode cX6_clearText 10 = .ok (.iload_n 1, 1) := by decide +kernel
theorem dX6_clearText_11 : decode cX6_clearText 11 = .ok (.ireturn, 1) := by decide +kernel
theorem dX6_isAt_0 : decode cX6_isAt 0 = .ok (.aload_n 0, 1) := by decide +kernel
theorem dX6_isAt_1 : decode cX6_isAt 1 = .ok (.getfield 138, 3) := by decide +kernel
theorem dX6_isAt_4 : decode cX6_isAt 4 = .ok (.aload_n 0, 1) := by decide +kernel
theorem dX6_isAt_5 : decode cX6_isAt 5 = .ok (.getfield 135, 3) := by decide +kernel
theorem dX6_isAt_8 : decode cX6_isAt 8 = .ok (.if_icmp .ge 24, 3) := by decide +kernel
theorem dX6_isAt_11 : decode cX6_isAt 11 = .ok (.aload_n 0, 1) := by decide +kernel
theorem dX6_isAt_12 : decode cX6_isAt 12 = .ok (.getfield 22, 3) := by decide +kernel
theorem dX6_isAt_15 : decode cX6_isAt 15 = .ok (.aload_n 0, 1) := by decide +kernel
theorem dX6_isAt_16 : decode cX6_isAt 16 = .ok (.getfield 138, 3) := by decide +kernel
theorem dX6_isAt_19 : decode cX6_isAt 19 = .ok (.iaload, 1) := by decide +kernel
theorem dX6_isAt_20 : decode cX6_isAt 20 = .ok (.iload_n 1, 1) := by decide +kernel
theorem dX6_isAt_21 : decode cX6_isAt 21 = .ok (.iload_n 2, 1) := by decide +kernel
theorem dX6_isAt_22 : decode cX6_isAt 22 = .ok (.invokestatic 43, 3) := by decide +kernel
theorem dX6_isAt_25 : decode cX6_isAt 25 = .ok (.ifCond .eq 7, 3) := by decide +kernel
theorem dX6_isAt_28 : decode cX6_isAt 28 = .ok (.iconst 1, 1) := by decide +kernel
theorem dX6_isAt_29 : decode cX6_isAt 29 = .ok (.goto 4, 3) := by decide +kernel
theorem dX6_isAt_32 : decode cX6_isAt 32 = .ok (.iconst 0, 1) := by decide +kernel
theorem dX6_isAt_33 : decode cX6_isAt 33 = .ok (.ireturn, 1) := by decide +kernel
theorem dX6_isWord_0 : decode cX6_isWord 0 = .ok (.aload_n 0, 1) := by decide +kernel
theorem dX6_isWord_1 : decode cX6_isWord 1 = .ok (.getfield 138, 3) := by decide +kernel
theorem dX6_isWord_4 : decode cX6_isWord 4 = .ok (.iload_n 1, 1) := by decide +kernel
theorem dX6_isWord_5 : decode cX6_isWord 5 = .ok (.isub, 1) := by decide +kernel
theorem dX6_isWord_6 : decode cX6_isWord 6 = .ok (.iload 5, 2) := by decide +kernel
theorem dX6_isWord_8 : decode cX6_isWord 8 = .ok (.ifCond .le 7, 3) := by decide +kernel
theorem dX6_isWord_11 : decode cX6_isWord 11 = .ok (.iconst 4, 1) := by decide +kernel
theorem dX6_isWord_12 : decode cX6_isWord 12 = .ok (.goto 4, 3) := by decide +kernel
theorem dX6_isWord_15 : decode cX6_isWord 15 = .ok (.iconst 3, 1) := by decide +kernel
theorem dX6_isWord_16 : decode cX6_isWord 16 = .ok (.if_icmp .ne 42, 3) := by decide +kernel
theorem dX6_isWord_19 : decode cX6_isWord 19 = .ok (.aload_n 0, 1) := by decide +kernel
theorem dX6_isWord_20 : decode cX6_isWord 20 = .ok (.getfield 22, 3) := by decide +kernel
theorem dX6_isWord_23 : decode cX6_isWord 23 = .ok (.iload_n 1, 1) := by decide +kernel
theorem dX6_isWord_24 : decode cX6_isWord 24 = .ok (.iaload, 1) := by decide +kernel
theorem dX6_isWord_25 : decode cX6_isWord 25 = .ok (.iload_n 2, 1) := by decide +kernel
theorem dX6_isWord_26 : decode cX6_isWord 26 = .ok (.if_icmp .ne 32, 3) := by decide +kernel
theorem dX6_isWord_29 : decode cX6_isWord 29 = .ok (.aload_n 0, 1) := by decide +kernel
theorem dX6_isWord_30 : decode cX6_isWord 30 = .ok (.getfield 22, 3) := by decide +kernel
theorem dX6_isWord_33 : decode cX6_isWord 33 = .ok (.iload_n 1, 1) := by decide +kernel
theorem dX6_isWord_34 : decode cX6_isWord 34 = .ok (.iconst 1, 1) := by decide +kernel
theorem dX6_isWord_35 : decode cX6_isWord 35 = .ok (.iadd, 1) := by decide +kernel
theorem dX6_isWord_36 : decode cX6_isWord 36 = .ok (.iaload, 1) := by decide +kernel
theorem dX6_isWord_37 : decode cX6_isWord 37 = .ok (.iload_n 3, 1) := by decide +kernel
theorem dX6_isWord_38 : decode cX6_isWord 38 = .ok (.if_icmp .ne 20, 3) := by decide +kernel
theorem dX6_isWord_41 : decode cX6_isWord 41 = .ok (.aload_n 0, 1) := by decide +kernel
theorem dX6_isWord_42 : decode cX6_isWord 42 = .ok (.getfield 22, 3) := by decide +kernel
theorem dX6_isWord_45 : decode cX6_isWord 45 = .ok (.iload_n 1, 1) := by decide +kernel
theorem dX6_isWord_46 : decode cX6_isWord 46 = .ok (.iconst 2, 1) := by decide +kernel
theorem dX6_isWord_47 : decode cX6_isWord 47 = .ok (.iadd, 1) := by decide +kernel
theorem dX6_isWord_48 : decode cX6_isWord 48 = .ok (.iaload, 1) := by decide +kernel
theorem dX6_isWord_49 : decode cX6_isWord 49 = .ok (.iload 4, 2) := by decide +kernel
theorem dX6_isWord_51 : decode cX6_isWord 51 = .ok (.if_icmp .ne 7, 3) := by decide +kernel
theorem dX6_isWord_54 : decode cX6_isWord 54 = .ok (.iconst 1, 1) := by decide +kernel
theorem dX6_isWord_55 : decode cX6_isWord 55 = .ok (.goto 4, 3) := by decide +kernel
theorem dX6_isWord_58 : decode cX6_isWord 58 = .ok (.iconst 0, 1) := by decide +kernel
theorem dX6_isWord_59 : decode cX6_isWord 59 = .ok (.istore 6, 2) := by decide +kernel
theorem dX6_isWord_61 : decode cX6_isWord 61 = .ok (.iload 6, 2) := by decide +kernel
theorem dX6_isWord_63 : decode cX6_isWord 63 = .ok (.ifCond .eq 25, 3) := by decide +kernel
theorem dX6_isWord_66 : decode cX6_isWord 66 = .ok (.iload 5, 2) := by decide +kernel
theorem dX6_isWord_68 : decode cX6_isWord 68 = .ok (.ifCond .eq 16, 3) := by decide +kernel
theorem dX6_isWord_71 : decode cX6_isWord 71 = .ok (.aload_n 0, 1) := by decide +kernel
theorem dX6_isWord_72 : decode cX6_isWord 72 = .ok (.getfield 22, 3) := by decide +kernel
theorem dX6_isWord_75 : decode cX6_isWord 75 = .ok (.iload_n 1, 1) := by decide +kernel
theorem dX6_isWord_76 : decode cX6_isWord 76 = .ok (.iconst 3, 1) := by decide +kernel
theorem dX6_isWord_77 : decode cX6_isWord 77 = .ok (.iadd, 1) := by decide +kernel
theorem dX6_isWord_78 : decode cX6_isWord 78 = .ok (.iaload, 1) := by decide +kernel
theorem dX6_isWord_79 : decode cX6_isWord 79 = .ok (.iload 5, 2) := by decide +kernel
theorem dX6_isWord_81 : decode cX6_isWord 81 = .ok (.if_icmp .ne 7, 3) := by decide +kernel
theorem dX6_isWord_84 : decode cX6_isWord 84 = .ok (.iconst 1, 1) := by decide +kernel
theorem dX6_isWord_85 : decode cX6_isWord 85 = .ok (.goto 4, 3) := by decide +kernel
theorem dX6_isWord_88 : decode cX6_isWord 88 = .ok (.iconst 0, 1) := by decide +kernel
theorem dX6_isWord_89 : decode cX6_isWord 89 = .ok (.ireturn, 1) := by decide +kernel
theorem dX6_wordAt_0 : decode cX6_wordAt 0 = .ok (.aload_n 0, 1) := by decide +kernel
theorem dX6_wordAt_1 : decode cX6_wordAt 1 = .ok (.iload_n 1, 1) := by decide +kernel
theorem dX6_wordAt_2 : decode cX6_wordAt 2 = .ok (.bipush 97, 2) := by decide +kernel
theorem dX6_wordAt_4 : decode cX6_wordAt 4 = .ok (.bipush 100, 2) := by decide +kernel
theorem dX6_wordAt_6 : decode cX6_wordAt 6 = .ok (.bipush 100, 2) := by decide +kernel
theorem dX6_wordAt_8 : decode cX6_wordAt 8 = .ok (.iconst 0, 1) := by decide +kernel
theorem dX6_wordAt_9 : decode cX6_wordAt 9 = .ok (.invokevirtual 141, 3) := by decide +kernel
theorem dX6_wordAt_12 : decode cX6_wordAt 12 = .ok (.ifCond .eq 5, 3) := by decide +kernel
theorem dX6_wordAt_15 : decode cX6_wordAt 15 = .ok (.iconst 0, 1) := by decide +kernel
theorem dX6_wordAt_16 : decode cX6_wordAt 16 = .ok (.ireturn, 1) := by decide +kernel
theorem dX6_wordAt_17 : decode cX6_wordAt 17 = .ok (.aload_n 0, 1) := by decide +kernel
theorem dX6_wordAt_18 : decode cX6_wordAt 18 = .ok (.iload_n 1, 1) := by decide +kernel
theorem dX6_wordAt_19 : decode cX6_wordAt 19 = .ok (.bipush 115, 2) := by decide +kernel
theorem dX6_wordAt_21 : decode cX6_wordAt 21 = .ok (.bipush 117, 2) := by decide +kernel
theorem dX6_wordAt_23 : decode cX6_wordAt 23 = .ok (.bipush 98, 2) := by decide +kernel
theorem dX6_wordAt_25 : decode cX6_wordAt 25 = .ok (.iconst 0, 1) := by decide +kernel
theorem dX6_wordAt_26 : decode cX6_wordAt 26 = .ok (.invokevirtual 141, 3) := by decide +kernel
theorem dX6_wordAt_29 : decode cX6_wordAt 29 = .ok (.ifCond .eq 5, 3) := by decide +kernel
theorem dX6_wordAt_32 : decode cX6_wordAt 32 = .ok (.iconst 1, 1) := by decide +kernel
theorem dX6_wordAt_33 : decode cX6_wordAt 33 = .ok (.ireturn, 1) := by decide +kernel
theorem dX6_wordAt_34 : decode cX6_wordAt 34 = .ok (.aload_n 0, 1) := by decide +kernel
theorem dX6_wordAt_35 : decode cX6_wordAt 35 = .ok (.iload_n 1, 1) := by decide +kernel
theorem dX6_wordAt_36 : decode cX6_wordAt 36 = .ok (.bipush 109, 2) := by decide +kernel
theorem dX6_wordAt_38 : decode cX6_wordAt 38 = .ok (.bipush 117, 2) := by decide +kernel
theorem dX6_wordAt_40 : decode cX6_wordAt 40 = .ok (.bipush 108, 2) := by decide +kernel
theorem dX6_wordAt_42 : decode cX6_wordAt 42 = .ok (.iconst 0, 1) := by decide +kernel
theorem dX6_wordAt_43 : decode cX6_wordAt 43 = .ok (.invokevirtual 141, 3) := by decide +kernel
theorem dX6_wordAt_46 : decode cX6_wordAt 46 = .ok (.ifCond .eq 5, 3) := by decide +kernel
theorem dX6_wordAt_49 : decode cX6_wordAt 49 = .ok (.iconst 2, 1) := by decide +kernel
theorem dX6_wordAt_50 : decode cX6_wordAt 50 = .ok (.ireturn, 1) := by decide +kernel
theorem dX6_wordAt_51 : decode cX6_wordAt 51 = .ok (.aload_n 0, 1) := by decide +kernel
theorem dX6_wordAt_52 : decode cX6_wordAt 52 = .ok (.iload_n 1, 1) := by decide +kernel
theorem dX6_wordAt_53 : decode cX6_wordAt 53 = .ok (.bipush 112, 2) := by decide +kernel
theorem dX6_wordAt_55 : decode cX6_wordAt 55 = .ok (.bipush 117, 2) := by decide +kernel
theorem dX6_wordAt_57 : decode cX6_wordAt 57 = .ok (.bipush 116, 2) := by decide +kernel
theorem dX6_wordAt_59 : decode cX6_wordAt 59 = .ok (.iconst 0, 1) := by decide +kernel
theorem dX6_wordAt_60 : decode cX6_wordAt 60 = .ok (.invokevirtual 141, 3) := by decide +kernel
theorem dX6_wordAt_63 : decode cX6_wordAt 63 = .ok (.ifCond .eq 5, 3) := by decide +kernel
theorem dX6_wordAt_66 : decode cX6_wordAt 66 = .ok (.iconst 3, 1) := by decide +kernel
theorem dX6_wordAt_67 : decode cX6_wordAt 67 = .ok (.ireturn, 1) := by decide +kernel
theorem dX6_wordAt_68 : decode cX6_wordAt 68 = .ok (.aload_n 0, 1) := by decide +kernel
theorem dX6_wordAt_69 : decode cX6_wordAt 69 = .ok (.iload_n 1, 1) := by decide +kernel
theorem dX6_wordAt_70 : decode cX6_wordAt 70 = .ok (.bipush 99, 2) := by decide +kernel
theorem dX6_wordAt_72 : decode cX6_wordAt 72 = .ok (.bipush 111, 2) := by decide +kernel
theorem dX6_wordAt_74 : decode cX6_wordAt 74 = .ok (.bipush 112, 2) := by decide +kernel
theorem dX6_wordAt_76 : decode cX6_wordAt 76 = .ok (.bipush 121, 2) := by decide +kernel
theorem dX6_wordAt_78 : decode cX6_wordAt 78 = .ok (.invokevirtual 141, 3) := by decide +kernel
theorem dX6_wordAt_81 : decode cX6_wordAt 81 = .ok (.ifCond .eq 5, 3) := by decide +kernel
theorem dX6_wordAt_84 : decode cX6_wordAt 84 = .ok (.iconst 4, 1) := by decide +kernel
theorem dX6_wordAt_85 : decode cX6_wordAt 85 = .ok (.ireturn, 1) := by decide +kernel
theorem dX6_wordAt_86 : decode cX6_wordAt 86 = .ok (.aload_n 0, 1) := by decide +kernel
theorem dX6_wordAt_87 : decode cX6_wordAt 87 = .ok (.iload_n 1, 1) := by decide +kernel
theorem dX6_wordAt_88 : decode cX6_wordAt 88 = .ok (.bipush 116, 2) := by decide +kernel
theorem dX6_wordAt_90 : decode cX6_wordAt 90 = .ok (.bipush 105, 2) := by decide +kernel
theorem dX6_wordAt_92 : decode cX6_wordAt 92 = .ok (.bipush 99, 2) := by decide +kernel
theorem dX6_wordAt_94 : decode cX6_wordAt 94 = .ok (.bipush 107, 2) := by decide +kernel
theorem dX6_wordAt_96 : decode cX6_wordAt 96 = .ok (.invokevirtual 141, 3) := by decide +kernel
theorem dX6_wordAt_99 : decode cX6_wordAt 99 = .ok (.ifCond .eq 5, 3) := by decide +kernel
theorem dX6_wordAt_102 : decode cX6_wordAt 102 = .ok (.iconst 5, 1) := by decide +kernel
theorem dX6_wordAt_103 : decode cX6_wordAt 103 = .ok (.ireturn, 1) := by decide +kernel
theorem dX6_wordAt_104 : decode cX6_wordAt 104 = .ok (.aload_n 0, 1) := by decide +kernel
theorem dX6_wordAt_105 : decode cX6_wordAt 105 = .ok (.iload_n 1, 1) := by decide +kernel
theorem dX6_wordAt_106 : decode cX6_wordAt 106 = .ok (.bipush 109, 2) := by decide +kernel
theorem dX6_wordAt_108 : decode cX6_wordAt 108 = .ok (.bipush 97, 2) := by decide +kernel
theorem dX6_wordAt_110 : decode cX6_wordAt 110 = .ok (.bipush 114, 2) := by decide +kernel
theorem dX6_wordAt_112 : decode cX6_wordAt 112 = .ok (.bipush 107, 2) := by decide +kernel
theorem dX6_wordAt_114 : decode cX6_wordAt 114 = .ok (.invokevirtual 141, 3) := by decide +kernel
theorem dX6_wordAt_117 : decode cX6_wordAt 117 = .ok (.ifCond .eq 8, 3) := by decide +kernel
theorem dX6_wordAt_120 : decode cX6_wordAt 120 = .ok (.bipush 6, 2) := by decide +kernel
theorem dX6_wordAt_122 : decode cX6_wordAt 122 = .ok (.goto 47, 3) := by decide +kernel
theorem dX6_wordAt_125 : decode cX6_wordAt 125 = .ok (.aload_n 0, 1) := by decide +kernel
theorem dX6_wordAt_126 : decode cX6_wordAt 126 = .ok (.iload_n 1, 1) := by decide +kernel
theorem dX6_wordAt_127 : decode cX6_wordAt 127 = .ok (.bipush 107, 2) := by decide +kernel
theorem dX6_wordAt_129 : decode cX6_wordAt 129 = .ok (.bipush 101, 2) := by decide +kernel
theorem dX6_wordAt_131 : decode cX6_wordAt 131 = .ok (.bipush 101, 2) := by decide +kernel
theorem dX6_wordAt_133 : decode cX6_wordAt 133 = .ok (.bipush 112, 2) := by decide +kernel
theorem dX6_wordAt_135 : decode cX6_wordAt 135 = .ok (.invokevirtual 141, 3) := by decide +kernel
theorem dX6_wordAt_138 : decode cX6_wordAt 138 = .ok (.ifCond .eq 8, 3) := by decide +kernel
theorem dX6_wordAt_141 : decode cX6_wordAt 141 = .ok (.bipush 7, 2) := by decide +kernel
theorem dX6_wordAt_143 : decode cX6_wordAt 143 = .ok (.goto 26, 3) := by decide +kernel
theorem dX6_wordAt_146 : decode cX6_wordAt 146 = .ok (.aload_n 0, 1) := by decide +kernel
theorem dX6_wordAt_147 : decode cX6_wordAt 147 = .ok (.iload_n 1, 1) := by decide +kernel
theorem dX6_wordAt_148 : decode cX6_wordAt 148 = .ok (.bipush 98, 2) := by decide +kernel
theorem dX6_wordAt_150 : decode cX6_wordAt 150 = .ok (.bipush 97, 2) := by decide +kernel
theorem dX6_wordAt_152 : decode cX6_wordAt 152 = .ok (.bipush 99, 2) := by decide +kernel
theorem dX6_wordAt_154 : decode cX6_wordAt 154 = .ok (.bipush 107, 2) := by decide +kernel
theorem dX6_wordAt_156 : decode cX6_wordAt 156 = .ok (.invokevirtual 141, 3) := by decide +kernel
theorem dX6_wordAt_159 : decode cX6_wordAt 159 = .ok (.ifCond .eq 8, 3) := by decide +kernel
theorem dX6_wordAt_162 : decode cX6_wordAt 162 = .ok (.bipush 8, 2) := by decide +kernel
theorem dX6_wordAt_164 : decode cX6_wordAt 164 = .ok (.goto 5, 3) := by decide +kernel
theorem dX6_wordAt_167 : decode cX6_wordAt 167 = .ok (.bipush (-4), 2) := by decide +kernel
theorem dX6_wordAt_169 : decode cX6_wordAt 169 = .ok (.ireturn, 1) := by decide +kernel
theorem dX6_passes_0 : decode cX6_passes 0 = .ok (.aload_n 0, 1) := by decide +kernel
theorem dX6_passes_1 : decode cX6_passes 1 = .ok (.iload_n 1, 1) := by decide +kernel
theorem dX6_passes_2 : decode cX6_passes 2 = .ok (.iload_n 1, 1) := by decide +kernel
theorem dX6_passes_3 : decode cX6_passes 3 = .ok (.invokevirtual 145, 3) := by decide +kernel
theorem dX6_passes_6 : decode cX6_passes 6 = .ok (.istore_n 2, 1) := by decide +kernel
theorem dX6_passes_7 : decode cX6_passes 7 = .ok (.aload_n 0, 1) := by decide +kernel
theorem dX6_passes_8 : decode cX6_passes 8 = .ok (.dup, 1) := by decide +kernel
theorem dX6_passes_9 : decode cX6_passes 9 = .ok (.getfield 138, 3) := by decide +kernel
theorem dX6_passes_12 : decode cX6_passes 12 = .ok (.iload_n 2, 1) := by decide +kernel
theorem dX6_passes_13 : decode cX6_passes 13 = .ok (.ifCond .eq 7, 3) := by decide +kernel
theorem dX6_passes_16 : decode cX6_passes 16 = .ok (.iconst 1, 1) := by decide +kernel
theorem dX6_passes_17 : decode cX6_passes 17 = .ok (.goto 4, 3) := by decide +kernel
theorem dX6_passes_20 : decode cX6_passes 20 = .ok (.iconst 0, 1) := by decide +kernel
theorem dX6_passes_21 : decode cX6_passes 21 = .ok (.iadd, 1) := by decide +kernel
theorem dX6_passes_22 : decode cX6_passes 22 = .ok (.putfield 138, 3) := by decide +kernel
theorem dX6_passes_25 : decode cX6_passes 25 = .ok (.iload_n 2, 1) := by decide +kernel
theorem dX6_passes_26 : decode cX6_passes 26 = .ok (.ireturn, 1) := by decide +kernel
theorem dX6_readsName_0 : decode cX6_readsName 0 = .ok (.aload_n 0, 1) := by decide +kernel
theorem dX6_readsName_1 : decode cX6_readsName 1 = .ok (.bipush 32, 2) := by decide +kernel
theorem dX6_readsName_3 : decode cX6_readsName 3 = .ok (.invokevirtual 149, 3) := by decide +kernel
theorem dX6_readsName_6 : decode cX6_readsName 6 = .ok (.ifCond .eq 14, 3) := by decide +kernel
theorem dX6_readsName_9 : decode cX6_readsName 9 = .ok (.aload_n 0, 1) := by decide +kernel
theorem dX6_readsName_10 : decode cX6_readsName 10 = .ok (.bipush 97, 2) := by decide +kernel
theorem dX6_readsName_12 : decode cX6_readsName 12 = .ok (.bipush 104, 2) := by decide +kernel
theorem dX6_readsName_14 : decode cX6_readsName 14 = .ok (.invokevirtual 145, 3) := by decide +kernel
theorem dX6_readsName_17 : decode cX6_readsName 17 = .ok (.ifCond .ne 5, 3) := by decide +kernel
theorem dX6_readsName_20 : decode cX6_readsName 20 = .ok (.iconst 0, 1) := by decide +kernel
theorem dX6_readsName_21 : decode cX6_readsName 21 = .ok (.ireturn, 1) := by decide +kernel
theorem dX6_readsName_22 : decode cX6_readsName 22 = .ok (.aload_n 0, 1) := by decide +kernel
theorem dX6_readsName_23 : decode cX6_readsName 23 = .ok (.getfield 28, 3) := by decide +kernel
theorem dX6_readsName_26 : decode cX6_readsName 26 = .ok (.iload_n 1, 1) := by decide +kernel
theorem dX6_readsName_27 : decode cX6_readsName 27 = .ok (.aload_n 0, 1) := by decide +kernel
theorem dX6_readsName_28 : decode cX6_readsName 28 = .ok (.getfield 22, 3) := by decide +kernel
theorem dX6_readsName_31 : decode cX6_readsName 31 = .ok (.aload_n 0, 1) := by decide +kernel
theorem dX6_readsName_32 : decode cX6_readsName 32 = .ok (.getfield 138, 3) := by decide +kernel
theorem dX6_readsName_35 : decode cX6_readsName 35 = .ok (.iaload, 1) := by decide +kernel
theorem dX6_readsName_36 : decode cX6_readsName 36 = .ok (.bipush 97, 2) := by decide +kernel
theorem dX6_readsName_38 : decode cX6_readsName 38 = .ok (.isub, 1) := by decide +kernel
theorem dX6_readsName_39 : decode cX6_readsName 39 = .ok (.iastore, 1) := by decide +kernel
theorem dX6_readsName_40 : decode cX6_readsName 40 = .ok (.aload_n 0, 1) := by decide +kernel
theorem dX6_readsName_41 : decode cX6_readsName 41 = .ok (.dup, 1) := by decide +kernel
theorem dX6_readsName_42 : decode cX6_readsName 42 = .ok (.getfield 138, 3) := by decide +kernel
theorem dX6_readsName_45 : decode cX6_readsName 45 = .ok (.iconst 1, 1) := by decide +kernel
theorem dX6_readsName_46 : decode cX6_readsName 46 = .ok (.iadd, 1) := by decide +kernel
theorem dX6_readsName_47 : decode cX6_readsName 47 = .ok (.putfield 138, 3) := by decide +kernel
theorem dX6_readsName_50 : decode cX6_readsName 50 = .ok (.iconst 1, 1) := by decide +kernel
theorem dX6_readsName_51 : decode cX6_readsName 51 = .ok (.ireturn, 1) := by decide +kernel
theorem dX6_readsNumber_0 : decode cX6_readsNumber 0 = .ok (.aload_n 0, 1) := by decide +kernel
theorem dX6_readsNumber_1 : decode cX6_readsNumber 1 = .ok (.bipush 32, 2) := by decide +kernel
theorem dX6_readsNumber_3 : decode cX6_readsNumber 3 = .ok (.invokevirtual 149, 3) := by decide +kernel
theorem dX6_readsNumber_6 : decode cX6_readsNumber 6 = .ok (.ifCond .ne 5, 3) := by decide +kernel
theorem dX6_readsNumber_9 : decode cX6_readsNumber 9 = .ok (.iconst 0, 1) := by decide +kernel
theorem dX6_readsNumber_10 : decode cX6_readsNumber 10 = .ok (.ireturn, 1) := by decide +kernel
theorem dX6_readsNumber_11 : decode cX6_readsNumber 11 = .ok (.aload_n 0, 1) := by decide +kernel
theorem dX6_readsNumber_12 : decode cX6_readsNumber 12 = .ok (.getfield 138, 3) := by decide +kernel
theorem dX6_readsNumber_15 : decode cX6_readsNumber 15 = .ok (.istore_n 2, 1) := by decide +kernel
theorem dX6_readsNumber_16 : decode cX6_readsNumber 16 = .ok (.aload_n 0, 1) := by decide +kernel
theorem dX6_readsNumber_17 : decode cX6_readsNumber 17 = .ok (.getfield 28, 3) := by decide +kernel
theorem dX6_readsNumber_20 : decode cX6_readsNumber 20 = .ok (.iload_n 1, 1) := by decide +kernel
theorem dX6_readsNumber_21 : decode cX6_readsNumber 21 = .ok (.iconst 0, 1) := by decide +kernel
theorem dX6_readsNumber_22 : decode cX6_readsNumber 22 = .ok (.iastore, 1) := by decide +kernel
theorem dX6_readsNumber_23 : decode cX6_readsNumber 23 = .ok (.aload_n 0, 1) := by decide +kernel
theorem dX6_readsNumber_24 : decode cX6_readsNumber 24 = .ok (.bipush 48, 2) := by decide +kernel
theorem dX6_readsNumber_26 : decode cX6_readsNumber 26 = .ok (.bipush 57, 2) := by decide +kernel
theorem dX6_readsNumber_28 : decode cX6_readsNumber 28 = .ok (.invokevirtual 145, 3) := by decide +kernel
theorem dX6_readsNumber_31 : decode cX6_readsNumber 31 = .ok (.ifCond .eq 54, 3) := by decide +kernel
theorem dX6_readsNumber_34 : decode cX6_readsNumber 34 = .ok (.aload_n 0, 1) := by decide +kernel
theorem dX6_readsNumber_35 : decode cX6_readsNumber 35 = .ok (.getfield 138, 3) := by decide +kernel
theorem dX6_readsNumber_38 : decode cX6_readsNumber 38 = .ok (.iload_n 2, 1) := by decide +kernel
theorem dX6_readsNumber_39 : decode cX6_readsNumber 39 = .ok (.isub, 1) := by decide +kernel
theorem dX6_readsNumber_40 : decode cX6_readsNumber 40 = .ok (.iconst 4, 1) := by decide +kernel
theorem dX6_readsNumber_41 : decode cX6_readsNumber 41 = .ok (.if_icmp .ge 44, 3) := by decide +kernel
theorem dX6_readsNumber_44 : decode cX6_readsNumber 44 = .ok (.aload_n 0, 1) := by decide +kernel
theorem dX6_readsNumber_45 : decode cX6_readsNumber 45 = .ok (.getfield 28, 3) := by decide +kernel
theorem dX6_readsNumber_48 : decode cX6_readsNumber 48 = .ok (.iload_n 1, 1) := by decide +kernel
theorem dX6_readsNumber_49 : decode cX6_readsNumber 49 = .ok (.bipush 10, 2) := by decide +kernel
theorem dX6_readsNumber_51 : decode cX6_readsNumber 51 = .ok (.aload_n 0, 1) := by decide +kernel
theorem dX6_readsNumber_52 : decode cX6_readsNumber 52 = .ok (.getfield 28, 3) := by decide +kernel
theorem dX6_readsNumber_55 : decode cX6_readsNumber 55 = .ok (.iload_n 1, 1) := by decide +kernel
theorem dX6_readsNumber_56 : decode cX6_readsNumber 56 = .ok (.iaload, 1) := by decide +kernel
theorem dX6_readsNumber_57 : decode cX6_readsNumber 57 = .ok (.imul, 1) := by decide +kernel
theorem dX6_readsNumber_58 : decode cX6_readsNumber 58 = .ok (.aload_n 0, 1) := by decide +kernel
theorem dX6_readsNumber_59 : decode cX6_readsNumber 59 = .ok (.getfield 22, 3) := by decide +kernel
theorem dX6_readsNumber_62 : decode cX6_readsNumber 62 = .ok (.aload_n 0, 1) := by decide +kernel
theorem dX6_readsNumber_63 : decode cX6_readsNumber 63 = .ok (.getfield 138, 3) := by decide +kernel
theorem dX6_readsNumber_66 : decode cX6_readsNumber 66 = .ok (.iaload, 1) := by decide +kernel
theorem dX6_readsNumber_67 : decode cX6_readsNumber 67 = .ok (.iadd, 1) := by decide +kernel
theorem dX6_readsNumber_68 : decode cX6_readsNumber 68 = .ok (.bipush 48, 2) := by decide +kernel
theorem dX6_readsNumber_70 : decode cX6_readsNumber 70 = .ok (.isub, 1) := by decide +kernel
theorem dX6_readsNumber_71 : decode cX6_readsNumber 71 = .ok (.iastore, 1) := by decide +kernel
theorem dX6_readsNumber_72 : decode cX6_readsNumber 72 = .ok (.aload_n 0, 1) := by decide +kernel
theorem dX6_readsNumber_73 : decode cX6_readsNumber 73 = .ok (.dup, 1) := by decide +kernel
theorem dX6_readsNumber_74 : decode cX6_readsNumber 74 = .ok (.getfield 138, 3) := by decide +kernel
theorem dX6_readsNumber_77 : decode cX6_readsNumber 77 = .ok (.iconst 1, 1) := by decide +kernel
theorem dX6_readsNumber_78 : decode cX6_readsNumber 78 = .ok (.iadd, 1) := by decide +kernel
theorem dX6_readsNumber_79 : decode cX6_readsNumber 79 = .ok (.putfield 138, 3) := by decide +kernel
theorem dX6_readsNumber_82 : decode cX6_readsNumber 82 = .ok (.goto (-59), 3) := by decide +kernel
theorem dX6_readsNumber_85 : decode cX6_readsNumber 85 = .ok (.aload_n 0, 1) := by decide +kernel
theorem dX6_readsNumber_86 : decode cX6_readsNumber 86 = .ok (.getfield 138, 3) := by decide +kernel
theorem dX6_readsNumber_89 : decode cX6_readsNumber 89 = .ok (.iload_n 2, 1) := by decide +kernel
theorem dX6_readsNumber_90 : decode cX6_readsNumber 90 = .ok (.if_icmp .le 7, 3) := by decide +kernel
theorem dX6_readsNumber_93 : decode cX6_readsNumber 93 = .ok (.iconst 1, 1) := by decide +kernel
theorem dX6_readsNumber_94 : decode cX6_readsNumber 94 = .ok (.goto 4, 3) := by decide +kernel
theorem dX6_readsNumber_97 : decode cX6_readsNumber 97 = .ok (.iconst 0, 1) := by decide +kernel
theorem dX6_readsNumber_98 : decode cX6_readsNumber 98 = .ok (.ireturn, 1) := by decide +kernel
theorem dX6_isForm_0 : decode cX6_isForm 0 = .ok (.iload_n 1, 1) := by decide +kernel
theorem dX6_isForm_1 : decode cX6_isForm 1 = .ok (.bipush 6, 2) := by decide +kernel
theorem dX6_isForm_3 : decode cX6_isForm 3 = .ok (.if_icmp .eq 9, 3) := by decide +kernel
theorem dX6_isForm_6 : decode cX6_isForm 6 = .ok (.iload_n 1, 1) := by decide +kernel
theorem dX6_isForm_7 : decode cX6_isForm 7 = .ok (.bipush 7, 2) := by decide +kernel
theorem dX6_isForm_9 : decode cX6_isForm 9 = .ok (.if_icmp .ne 7, 3) := by decide +kernel
theorem dX6_isForm_12 : decode cX6_isForm 12 = .ok (.iconst 1, 1) := by decide +kernel
theorem dX6_isForm_13 : decode cX6_isForm 13 = .ok (.goto 4, 3) := by decide +kernel
theorem dX6_isForm_16 : decode cX6_isForm 16 = .ok (.iconst 0, 1) := by decide +kernel
theorem dX6_isForm_17 : decode cX6_isForm 17 = .ok (.istore_n 2, 1) := by decide +kernel
theorem dX6_isForm_18 : decode cX6_isForm 18 = .ok (.iload_n 1, 1) := by decide +kernel
theorem dX6_isForm_19 : decode cX6_isForm 19 = .ok (.iconst 3, 1) := by decide +kernel
theorem dX6_isForm_20 : decode cX6_isForm 20 = .ok (.if_icmp .ge 36, 3) := by decide +kernel
theorem dX6_isForm_23 : decode cX6_isForm 23 = .ok (.aload_n 0, 1) := by decide +kernel
theorem dX6_isForm_24 : decode cX6_isForm 24 = .ok (.iconst 0, 1) := by decide +kernel
theorem dX6_isForm_25 : decode cX6_isForm 25 = .ok (.invokevirtual 152, 3) := by decide +kernel
theorem dX6_isForm_28 : decode cX6_isForm 28 = .ok (.ifCond .eq 23, 3) := by decide +kernel
theorem dX6_isForm_31 : decode cX6_isForm 31 = .ok (.aload_n 0, 1) := by decide +kernel
theorem dX6_isForm_32 : decode cX6_isForm 32 = .ok (.iconst 1, 1) := by decide +kernel
theorem dX6_isForm_33 : decode cX6_isForm 33 = .ok (.invokevirtual 152, 3) := by decide +kernel
theorem dX6_isForm_36 : decode cX6_isForm 36 = .ok (.ifCond .eq 15, 3) := by decide +kernel
theorem dX6_isForm_39 : decode cX6_isForm 39 = .ok (.aload_n 0, 1) := by decide +kernel
theorem dX6_isForm_40 : decode cX6_isForm 40 = .ok (.iconst 2, 1) := by decide +kernel
theorem dX6_isForm_41 : decode cX6_isForm 41 = .ok (.invokevirtual 152, 3) := by decide +kernel
theorem dX6_isForm_44 : decode cX6_isForm 44 = .ok (.ifCond .eq 7, 3) := by decide +kernel
theorem dX6_isForm_47 : decode cX6_isForm 47 = .ok (.iconst 1, 1) := by decide +kernel
theorem dX6_isForm_48 : decode cX6_isForm 48 = .ok (.goto 4, 3) := by decide +kernel
theorem dX6_isForm_51 : decode cX6_isForm 51 = .ok (.iconst 0, 1) := by decide +kernel
theorem dX6_isForm_52 : decode cX6_isForm 52 = .ok (.istore_n 2, 1) := by decide +kernel
theorem dX6_isForm_53 : decode cX6_isForm 53 = .ok (.goto 59, 3) := by decide +kernel
theorem dX6_isForm_56 : decode cX6_isForm 56 = .ok (.iload_n 1, 1) := by decide +kernel
theorem dX6_isForm_57 : decode cX6_isForm 57 = .ok (.iconst 5, 1) := by decide +kernel
theorem dX6_isForm_58 : decode cX6_isForm 58 = .ok (.if_icmp .ge 44, 3) := by decide +kernel
theorem dX6_isForm_61 : decode cX6_isForm 61 = .ok (.aload_n 0, 1) := by decide +kernel
theorem dX6_isForm_62 : decode cX6_isForm 62 = .ok (.iconst 0, 1) := by decide +kernel
theorem dX6_isForm_63 : decode cX6_isForm 63 = .ok (.invokevirtual 152, 3) := by decide +kernel
theorem dX6_isForm_66 : decode cX6_isForm 66 = .ok (.ifCond .eq 31, 3) := by decide +kernel
theorem dX6_isForm_69 : decode cX6_isForm 69 = .ok (.iload_n 1, 1) := by decide +kernel
theorem dX6_isForm_70 : decode cX6_isForm 70 = .ok (.iconst 3, 1) := by decide +kernel
theorem dX6_isForm_71 : decode cX6_isForm 71 = .ok (.if_icmp .ne 14, 3) := by decide +kernel
theorem dX6_isForm_74 : decode cX6_isForm 74 = .ok (.aload_n 0, 1) := by decide +kernel
theorem dX6_isForm_75 : decode cX6_isForm 75 = .ok (.iconst 1, 1) := by decide +kernel
theorem dX6_isForm_76 : decode cX6_isForm 76 = .ok (.invokevirtual 155, 3) := by decide +kernel
theorem dX6_isForm_79 : decode cX6_isForm 79 = .ok (.ifCond .eq 18, 3) := by decide +kernel
theorem dX6_isForm_82 : decode cX6_isForm 82 = .ok (.goto 11, 3) := by decide +kernel
theorem dX6_isForm_85 : decode cX6_isForm 85 = .ok (.aload_n 0, 1) := by decide +kernel
theorem dX6_isForm_86 : decode cX6_isForm 86 = .ok (.iconst 1, 1) := by decide +kernel
theorem dX6_isForm_87 : decode cX6_isForm 87 = .ok (.invokevirtual 152, 3) := by decide +kernel
theorem dX6_isForm_90 : decode cX6_isForm 90 = .ok (.ifCond .eq 7, 3) := by decide +kernel
theorem dX6_isForm_93 : decode cX6_isForm 93 = .ok (.iconst 1, 1) := by decide +kernel
theorem dX6_isForm_94 : decode cX6_isForm 94 = .ok (.goto 4, 3) := by decide +kernel
theorem dX6_isForm_97 : decode cX6_isForm 97 = .ok (.iconst 0, 1) := by decide +kernel
theorem dX6_isForm_98 : decode cX6_isForm 98 = .ok (.istore_n 2, 1) := by decide +kernel
theorem dX6_isForm_99 : decode cX6_isForm 99 = .ok (.goto 13, 3) := by decide +kernel
theorem dX6_isForm_102 : decode cX6_isForm 102 = .ok (.iload_n 2, 1) := by decide +kernel
theorem dX6_isForm_103 : decode cX6_isForm 103 = .ok (.ifCond .ne 9, 3) := by decide +kernel
theorem dX6_isForm_106 : decode cX6_isForm 106 = .ok (.aload_n 0, 1) := by decide +kernel
theorem dX6_isForm_107 : decode cX6_isForm 107 = .ok (.iconst 0, 1) := by decide +kernel
theorem dX6_isForm_108 : decode cX6_isForm 108 = .ok (.invokevirtual 155, 3) := by decide +kernel
theorem dX6_isForm_111 : decode cX6_isForm 111 = .ok (.istore_n 2, 1) := by decide +kernel
theorem dX6_isForm_112 : decode cX6_isForm 112 = .ok (.iload_n 2, 1) := by decide +kernel
theorem dX6_isForm_113 : decode cX6_isForm 113 = .ok (.ifCond .eq 16, 3) := by decide +kernel
theorem dX6_isForm_116 : decode cX6_isForm 116 = .ok (.aload_n 0, 1) := by decide +kernel
theorem dX6_isForm_117 : decode cX6_isForm 117 = .ok (.bipush 59, 2) := by decide +kernel
theorem dX6_isForm_119 : decode cX6_isForm 119 = .ok (.invokevirtual 149, 3) := by decide +kernel
theorem dX6_isForm_122 : decode cX6_isForm 122 = .ok (.ifCond .eq 7, 3) := by decide +kernel
theorem dX6_isForm_125 : decode cX6_isForm 125 = .ok (.iconst 1, 1) := by decide +kernel
theorem dX6_isForm_126 : decode cX6_isForm 126 = .ok (.goto 4, 3) := by decide +kernel
theorem dX6_isForm_129 : decode cX6_isForm 129 = .ok (.iconst 0, 1) := by decide +kernel
theorem dX6_isForm_130 : decode cX6_isForm 130 = .ok (.ireturn, 1) := by decide +kernel
theorem dX6_does_0 : decode cX6_does 0 = .ok (.iload_n 1, 1) := by decide +kernel
theorem dX6_does_1 : decode cX6_does 1 = .ok (.tableswitch 105 3 8 #[39, 56, 73, 84, 89, 94], 39) := by decide +kernel
theorem dX6_does_40 : decode cX6_does 40 = .ok (.aload_n 0, 1) := by decide +kernel
theorem dX6_does_41 : decode cX6_does 41 = .ok (.aload_n 0, 1) := by decide +kernel
theorem dX6_does_42 : decode cX6_does 42 = .ok (.getfield 28, 3) := by decide +kernel
theorem dX6_does_45 : decode cX6_does 45 = .ok (.iconst 0, 1) := by decide +kernel
theorem dX6_does_46 : decode cX6_does 46 = .ok (.iaload, 1) := by decide +kernel
theorem dX6_does_47 : decode cX6_does 47 = .ok (.aload_n 0, 1) := by decide +kernel
theorem dX6_does_48 : decode cX6_does 48 = .ok (.getfield 28, 3) := by decide +kernel
theorem dX6_does_51 : decode cX6_does 51 = .ok (.iconst 1, 1) := by decide +kernel
theorem dX6_does_52 : decode cX6_does 52 = .ok (.iaload, 1) := by decide +kernel
theorem dX6_does_53 : decode cX6_does 53 = .ok (.invokevirtual 158, 3) := by decide +kernel
theorem dX6_does_56 : decode cX6_does 56 = .ok (.ireturn, 1) := by decide +kernel
theorem dX6_does_57 : decode cX6_does 57 = .ok (.aload_n 0, 1) := by decide +kernel
theorem dX6_does_58 : decode cX6_does 58 = .ok (.aload_n 0, 1) := by decide +kernel
theorem dX6_does_59 : decode cX6_does 59 = .ok (.getfield 28, 3) := by decide +kernel
theorem dX6_does_62 : decode cX6_does 62 = .ok (.iconst 0, 1) := by decide +kernel
theorem dX6_does_63 : decode cX6_does 63 = .ok (.iaload, 1) := by decide +kernel
theorem dX6_does_64 : decode cX6_does 64 = .ok (.aload_n 0, 1) := by decide +kernel
theorem dX6_does_65 : decode cX6_does 65 = .ok (.getfield 28, 3) := by decide +kernel
theorem dX6_does_68 : decode cX6_does 68 = .ok (.iconst 1, 1) := by decide +kernel
theorem dX6_does_69 : decode cX6_does 69 = .ok (.iaload, 1) := by decide +kernel
theorem dX6_does_70 : decode cX6_does 70 = .ok (.invokevirtual 161, 3) := by decide +kernel
theorem dX6_does_73 : decode cX6_does 73 = .ok (.ireturn, 1) := by decide +kernel
theorem dX6_does_74 : decode cX6_does 74 = .ok (.aload_n 0, 1) := by decide +kernel
theorem dX6_does_75 : decode cX6_does 75 = .ok (.aload_n 0, 1) := by decide +kernel
theorem dX6_does_76 : decode cX6_does 76 = .ok (.getfield 28, 3) := by decide +kernel
theorem dX6_does_79 : decode cX6_does 79 = .ok (.iconst 0, 1) := by decide +kernel
theorem dX6_does_80 : decode cX6_does 80 = .ok (.iaload, 1) := by decide +kernel
theorem dX6_does_81 : decode cX6_does 81 = .ok (.invokevirtual 164, 3) := by decide +kernel
theorem dX6_does_84 : decode cX6_does 84 = .ok (.ireturn, 1) := by decide +kernel
theorem dX6_does_85 : decode cX6_does 85 = .ok (.aload_n 0, 1) := by decide +kernel
theorem dX6_does_86 : decode cX6_does 86 = .ok (.invokevirtual 167, 3) := by decide +kernel
theorem dX6_does_89 : decode cX6_does 89 = .ok (.ireturn, 1) := by decide +kernel
theorem dX6_does_90 : decode cX6_does 90 = .ok (.aload_n 0, 1) := by decide +kernel
theorem dX6_does_91 : decode cX6_does 91 = .ok (.invokevirtual 171, 3) := by decide +kernel
theorem dX6_does_94 : decode cX6_does 94 = .ok (.ireturn, 1) := by decide +kernel
theorem dX6_does_95 : decode cX6_does 95 = .ok (.aload_n 0, 1) := by decide +kernel
theorem dX6_does_96 : decode cX6_does 96 = .ok (.aload_n 0, 1) := by decide +kernel
theorem dX6_does_97 : decode cX6_does 97 = .ok (.getfield 28, 3) := by decide +kernel
theorem dX6_does_100 : decode cX6_does 100 = .ok (.iconst 0, 1) := by decide +kernel
theorem dX6_does_101 : decode cX6_does 101 = .ok (.iaload, 1) := by decide +kernel
theorem dX6_does_102 : decode cX6_does 102 = .ok (.invokevirtual 174, 3) := by decide +kernel
theorem dX6_does_105 : decode cX6_does 105 = .ok (.ireturn, 1) := by decide +kernel
theorem dX6_does_106 : decode cX6_does 106 = .ok (.aload_n 0, 1) := by decide +kernel
theorem dX6_does_107 : decode cX6_does 107 = .ok (.iload_n 1, 1) := by decide +kernel
theorem dX6_does_108 : decode cX6_does 108 = .ok (.aload_n 0, 1) := by decide +kernel
theorem dX6_does_109 : decode cX6_does 109 = .ok (.getfield 28, 3) := by decide +kernel
theorem dX6_does_112 : decode cX6_does 112 = .ok (.iconst 0, 1) := by decide +kernel
theorem dX6_does_113 : decode cX6_does 113 = .ok (.iaload, 1) := by decide +kernel
theorem dX6_does_114 : decode cX6_does 114 = .ok (.aload_n 0, 1) := by decide +kernel
theorem dX6_does_115 : decode cX6_does 115 = .ok (.getfield 28, 3) := by decide +kernel
theorem dX6_does_118 : decode cX6_does 118 = .ok (.iconst 1, 1) := by decide +kernel
theorem dX6_does_119 : decode cX6_does 119 = .ok (.iaload, 1) := by decide +kernel
theorem dX6_does_120 : decode cX6_does 120 = .ok (.aload_n 0, 1) := by decide +kernel
theorem dX6_does_121 : decode cX6_does 121 = .ok (.getfield 28, 3) := by decide +kernel
theorem dX6_does_124 : decode cX6_does 124 = .ok (.iconst 2, 1) := by decide +kernel
theorem dX6_does_125 : decode cX6_does 125 = .ok (.iaload, 1) := by decide +kernel
theorem dX6_does_126 : decode cX6_does 126 = .ok (.invokevirtual 177, 3) := by decide +kernel
theorem dX6_does_129 : decode cX6_does 129 = .ok (.ireturn, 1) := by decide +kernel
theorem dX6_plays_0 : decode cX6_plays 0 = .ok (.aload_n 0, 1) := by decide +kernel
theorem dX6_plays_1 : decode cX6_plays 1 = .ok (.iconst 1, 1) := by decide +kernel
theorem dX6_plays_2 : decode cX6_plays 2 = .ok (.putfield 35, 3) := by decide +kernel
theorem dX6_plays_5 : decode cX6_plays 5 = .ok (.aload_n 0, 1) := by decide +kernel
theorem dX6_plays_6 : decode cX6_plays 6 = .ok (.iconst 0, 1) := by decide +kernel
theorem dX6_plays_7 : decode cX6_plays 7 = .ok (.putfield 138, 3) := by decide +kernel
theorem dX6_plays_10 : decode cX6_plays 10 = .ok (.aload_n 0, 1) := by decide +kernel
theorem dX6_plays_11 : decode cX6_plays 11 = .ok (.iconst 0, 1) := by decide +kernel
theorem dX6_plays_12 : decode cX6_plays 12 = .ok (.putfield 181, 3) := by decide +kernel
theorem dX6_plays_15 : decode cX6_plays 15 = .ok (.aload_n 0, 1) := by decide +kernel
theorem dX6_plays_16 : decode cX6_plays 16 = .ok (.iconst 0, 1) := by decide +kernel
theorem dX6_plays_17 : decode cX6_plays 17 = .ok (.putfield 184, 3) := by decide +kernel
theorem dX6_plays_20 : decode cX6_plays 20 = .ok (.iconst 0, 1) := by decide +kernel
theorem dX6_plays_21 : decode cX6_plays 21 = .ok (.istore_n 1, 1) := by decide +kernel
theorem dX6_plays_22 : decode cX6_plays 22 = .ok (.aload_n 0, 1) := by decide +kernel
theorem dX6_plays_23 : decode cX6_plays 23 = .ok (.getfield 138, 3) := by decide +kernel
theorem dX6_plays_26 : decode cX6_plays 26 = .ok (.aload_n 0, 1) := by decide +kernel
theorem dX6_plays_27 : decode cX6_plays 27 = .ok (.getfield 135, 3) := by decide +kernel
theorem dX6_plays_30 : decode cX6_plays 30 = .ok (.if_icmp .ge 94, 3) := by decide +kernel
theorem dX6_plays_33 : decode cX6_plays 33 = .ok (.aload_n 0, 1) := by decide +kernel
theorem dX6_plays_34 : decode cX6_plays 34 = .ok (.getfield 184, 3) := by decide +kernel
theorem dX6_plays_37 : decode cX6_plays 37 = .ok (.ifCond .ne 87, 3) := by decide +kernel
theorem dX6_plays_40 : decode cX6_plays 40 = .ok (.aload_n 0, 1) := by decide +kernel
theorem dX6_plays_41 : decode cX6_plays 41 = .ok (.getfield 138, 3) := by decide +kernel
theorem dX6_plays_44 : decode cX6_plays 44 = .ok (.istore_n 1, 1) := by decide +kernel
theorem dX6_plays_45 : decode cX6_plays 45 = .ok (.aload_n 0, 1) := by decide +kernel
theorem dX6_plays_46 : decode cX6_plays 46 = .ok (.bipush 97, 2) := by decide +kernel
theorem dX6_plays_48 : decode cX6_plays 48 = .ok (.bipush 122, 2) := by decide +kernel
theorem dX6_plays_50 : decode cX6_plays 50 = .ok (.invokevirtual 145, 3) := by decide +kernel
theorem dX6_plays_53 : decode cX6_plays 53 = .ok (.ifCond .eq 16, 3) := by decide +kernel
theorem dX6_plays_56 : decode cX6_plays 56 = .ok (.aload_n 0, 1) := by decide +kernel
theorem dX6_plays_57 : decode cX6_plays 57 = .ok (.dup, 1) := by decide +kernel
theorem dX6_plays_58 : decode cX6_plays 58 = .ok (.getfield 138, 3) := by decide +kernel
theorem dX6_plays_61 : decode cX6_plays 61 = .ok (.iconst 1, 1) := by decide +kernel
theorem dX6_plays_62 : decode cX6_plays 62 = .ok (.iadd, 1) := by decide +kernel
theorem dX6_plays_63 : decode cX6_plays 63 = .ok (.putfield 138, 3) := by decide +kernel
theorem dX6_plays_66 : decode cX6_plays 66 = .ok (.goto (-21), 3) := by decide +kernel
theorem dX6_plays_69 : decode cX6_plays 69 = .ok (.aload_n 0, 1) := by decide +kernel
theorem dX6_plays_70 : decode cX6_plays 70 = .ok (.iload_n 1, 1) := by decide +kernel
theorem dX6_plays_71 : decode cX6_plays 71 = .ok (.invokevirtual 187, 3) := by decide +kernel
theorem dX6_plays_74 : decode cX6_plays 74 = .ok (.istore_n 2, 1) := by decide +kernel
theorem dX6_plays_75 : decode cX6_plays 75 = .ok (.iload_n 2, 1) := by decide +kernel
theorem dX6_plays_76 : decode cX6_plays 76 = .ok (.ifCond .lt 11, 3) := by decide +kernel
theorem dX6_plays_79 : decode cX6_plays 79 = .ok (.aload_n 0, 1) := by decide +kernel
theorem dX6_plays_80 : decode cX6_plays 80 = .ok (.iload_n 2, 1) := by decide +kernel
theorem dX6_plays_81 : decode cX6_plays 81 = .ok (.invokevirtual 190, 3) := by decide +kernel
theorem dX6_plays_84 : decode cX6_plays 84 = .ok (.ifCond .ne 8, 3) := by decide +kernel
theorem dX6_plays_87 : decode cX6_plays 87 = .ok (.bipush (-4), 2) := by decide +kernel
theorem dX6_plays_89 : decode cX6_plays 89 = .ok (.goto 8, 3) := by decide +kernel
theorem dX6_plays_92 : decode cX6_plays 92 = .ok (.aload_n 0, 1) := by decide +kernel
theorem dX6_plays_93 : decode cX6_plays 93 = .ok (.iload_n 2, 1) := by decide +kernel
theorem dX6_plays_94 : decode cX6_plays 94 = .ok (.invokevirtual 193, 3) := by decide +kernel
theorem dX6_plays_97 : decode cX6_plays 97 = .ok (.istore_n 3, 1) := by decide +kernel
theorem dX6_plays_98 : decode cX6_plays 98 = .ok (.aload_n 0, 1) := by decide +kernel
theorem dX6_plays_99 : decode cX6_plays 99 = .ok (.iload_n 3, 1) := by decide +kernel
theorem dX6_plays_100 : decode cX6_plays 100 = .ok (.ifCond .ge 7, 3) := by decide +kernel
theorem dX6_plays_103 : decode cX6_plays 103 = .ok (.iload_n 3, 1) := by decide +kernel
theorem dX6_plays_104 : decode cX6_plays 104 = .ok (.goto 4, 3) := by decide +kernel
theorem dX6_plays_107 : decode cX6_plays 107 = .ok (.iconst 0, 1) := by decide +kernel
theorem dX6_plays_108 : decode cX6_plays 108 = .ok (.putfield 184, 3) := by decide +kernel
theorem dX6_plays_111 : decode cX6_plays 111 = .ok (.aload_n 0, 1) := by decide +kernel
theorem dX6_plays_112 : decode cX6_plays 112 = .ok (.dup, 1) := by decide +kernel
theorem dX6_plays_113 : decode cX6_plays 113 = .ok (.getfield 181, 3) := by decide +kernel
theorem dX6_plays_116 : decode cX6_plays 116 = .ok (.iconst 1, 1) := by decide +kernel
theorem dX6_plays_117 : decode cX6_plays 117 = .ok (.iadd, 1) := by decide +kernel
theorem dX6_plays_118 : decode cX6_plays 118 = .ok (.putfield 181, 3) := by decide +kernel
theorem dX6_plays_121 : decode cX6_plays 121 = .ok (.goto (-99), 3) := by decide +kernel
theorem dX6_plays_124 : decode cX6_plays 124 = .ok (.aload_n 0, 1) := by decide +kernel
theorem dX6_plays_125 : decode cX6_plays 125 = .ok (.iconst 0, 1) := by decide +kernel
theorem dX6_plays_126 : decode cX6_plays 126 = .ok (.putfield 35, 3) := by decide +kernel
theorem dX6_plays_129 : decode cX6_plays 129 = .ok (.aload_n 0, 1) := by decide +kernel
theorem dX6_plays_130 : decode cX6_plays 130 = .ok (.getfield 184, 3) := by decide +kernel
theorem dX6_plays_133 : decode cX6_plays 133 = .ok (.ifCond .ne 8, 3) := by decide +kernel
theorem dX6_plays_136 : decode cX6_plays 136 = .ok (.bipush (-4), 2) := by decide +kernel
theorem dX6_plays_138 : decode cX6_plays 138 = .ok (.goto 4, 3) := by decide +kernel
theorem dX6_plays_141 : decode cX6_plays 141 = .ok (.iload_n 1, 1) := by decide +kernel
theorem dX6_plays_142 : decode cX6_plays 142 = .ok (.ireturn, 1) := by decide +kernel
theorem dX6_fault_0 : decode cX6_fault 0 = .ok (.iload_n 1, 1) := by decide +kernel
theorem dX6_fault_1 : decode cX6_fault 1 = .ok (.iconst 0, 1) := by decide +kernel
theorem dX6_fault_2 : decode cX6_fault 2 = .ok (.iconst 2, 1) := by decide +kernel
theorem dX6_fault_3 : decode cX6_fault 3 = .ok (.invokestatic 43, 3) := by decide +kernel
theorem dX6_fault_6 : decode cX6_fault 6 = .ok (.ifCond .ne 5, 3) := by decide +kernel
theorem dX6_fault_9 : decode cX6_fault 9 = .ok (.iconst (-1), 1) := by decide +kernel
theorem dX6_fault_10 : decode cX6_fault 10 = .ok (.ireturn, 1) := by decide +kernel
theorem dX6_fault_11 : decode cX6_fault 11 = .ok (.aload_n 0, 1) := by decide +kernel
theorem dX6_fault_12 : decode cX6_fault 12 = .ok (.getfield 7, 3) := by decide +kernel
theorem dX6_fault_15 : decode cX6_fault 15 = .ok (.aload_n 0, 1) := by decide +kernel
theorem dX6_fault_16 : decode cX6_fault 16 = .ok (.getfield 16, 3) := by decide +kernel
theorem dX6_fault_19 : decode cX6_fault 19 = .ok (.invokestatic 88, 3) := by decide +kernel
theorem dX6_fault_22 : decode cX6_fault 22 = .ok (.aload_n 0, 1) := by decide +kernel
theorem dX6_fault_23 : decode cX6_fault 23 = .ok (.invokevirtual 196, 3) := by decide +kernel
theorem dX6_fault_26 : decode cX6_fault 26 = .ok (.istore_n 2, 1) := by decide +kernel
theorem dX6_fault_27 : decode cX6_fault 27 = .ok (.aload_n 0, 1) := by decide +kernel
theorem dX6_fault_28 : decode cX6_fault 28 = .ok (.getfield 16, 3) := by decide +kernel
theorem dX6_fault_31 : decode cX6_fault 31 = .ok (.aload_n 0, 1) := by decide +kernel
theorem dX6_fault_32 : decode cX6_fault 32 = .ok (.getfield 7, 3) := by decide +kernel
theorem dX6_fault_35 : decode cX6_fault 35 = .ok (.invokestatic 88, 3) := by decide +kernel
theorem dX6_fault_38 : decode cX6_fault 38 = .ok (.iload_n 2, 1) := by decide +kernel
theorem dX6_fault_39 : decode cX6_fault 39 = .ok (.bipush (-4), 2) := by decide +kernel
theorem dX6_fault_41 : decode cX6_fault 41 = .ok (.if_icmp .eq 7, 3) := by decide +kernel
theorem dX6_fault_44 : decode cX6_fault 44 = .ok (.iload_n 1, 1) := by decide +kernel
theorem dX6_fault_45 : decode cX6_fault 45 = .ok (.ifCond .ne 7, 3) := by decide +kernel
theorem dX6_fault_48 : decode cX6_fault 48 = .ok (.iload_n 2, 1) := by decide +kernel
theorem dX6_fault_49 : decode cX6_fault 49 = .ok (.goto 29, 3) := by decide +kernel
theorem dX6_fault_52 : decode cX6_fault 52 = .ok (.iload_n 1, 1) := by decide +kernel
theorem dX6_fault_53 : decode cX6_fault 53 = .ok (.iconst 2, 1) := by decide +kernel
theorem dX6_fault_54 : decode cX6_fault 54 = .ok (.if_icmp .ne 10, 3) := by decide +kernel
theorem dX6_fault_57 : decode cX6_fault 57 = .ok (.aload_n 0, 1) := by decide +kernel
theorem dX6_fault_58 : decode cX6_fault 58 = .ok (.getfield 184, 3) := by decide +kernel
theorem dX6_fault_61 : decode cX6_fault 61 = .ok (.goto 17, 3) := by decide +kernel
theorem dX6_fault_64 : decode cX6_fault 64 = .ok (.aload_n 0, 1) := by decide +kernel
theorem dX6_fault_65 : decode cX6_fault 65 = .ok (.getfield 184, 3) := by decide +kernel
theorem dX6_fault_68 : decode cX6_fault 68 = .ok (.bipush (-4), 2) := by decide +kernel
theorem dX6_fault_70 : decode cX6_fault 70 = .ok (.if_icmp .ne 7, 3) := by decide +kernel
theorem dX6_fault_73 : decode cX6_fault 73 = .ok (.iconst 1, 1) := by decide +kernel
theorem dX6_fault_74 : decode cX6_fault 74 = .ok (.goto 4, 3) := by decide +kernel
theorem dX6_fault_77 : decode cX6_fault 77 = .ok (.iconst 2, 1) := by decide +kernel
theorem dX6_fault_78 : decode cX6_fault 78 = .ok (.ireturn, 1) := by decide +kernel
theorem dX6_play_0 : decode cX6_play 0 = .ok (.aload_n 0, 1) := by decide +kernel
theorem dX6_play_1 : decode cX6_play 1 = .ok (.getfield 7, 3) := by decide +kernel
theorem dX6_play_4 : decode cX6_play 4 = .ok (.aload_n 0, 1) := by decide +kernel
theorem dX6_play_5 : decode cX6_play 5 = .ok (.getfield 16, 3) := by decide +kernel
theorem dX6_play_8 : decode cX6_play 8 = .ok (.invokestatic 88, 3) := by decide +kernel
theorem dX6_play_11 : decode cX6_play 11 = .ok (.aload_n 0, 1) := by decide +kernel
theorem dX6_play_12 : decode cX6_play 12 = .ok (.invokevirtual 196, 3) := by decide +kernel
theorem dX6_play_15 : decode cX6_play 15 = .ok (.istore_n 1, 1) := by decide +kernel
theorem dX6_play_16 : decode cX6_play 16 = .ok (.aload_n 0, 1) := by decide +kernel
theorem dX6_play_17 : decode cX6_play 17 = .ok (.getfield 16, 3) := by decide +kernel
theorem dX6_play_20 : decode cX6_play 20 = .ok (.aload_n 0, 1) := by decide +kernel
theorem dX6_play_21 : decode cX6_play 21 = .ok (.getfield 7, 3) := by decide +kernel
theorem dX6_play_24 : decode cX6_play 24 = .ok (.invokestatic 88, 3) := by decide +kernel
theorem dX6_play_27 : decode cX6_play 27 = .ok (.iload_n 1, 1) := by decide +kernel
theorem dX6_play_28 : decode cX6_play 28 = .ok (.bipush (-4), 2) := by decide +kernel
theorem dX6_play_30 : decode cX6_play 30 = .ok (.if_icmp .eq 6, 3) := by decide +kernel
theorem dX6_play_33 : decode cX6_play 33 = .ok (.bipush (-2), 2) := by decide +kernel
theorem dX6_play_35 : decode cX6_play 35 = .ok (.ireturn, 1) := by decide +kernel
theorem dX6_play_36 : decode cX6_play 36 = .ok (.aload_n 0, 1) := by decide +kernel
theorem dX6_play_37 : decode cX6_play 37 = .ok (.aload_n 0, 1) := by decide +kernel
theorem dX6_play_38 : decode cX6_play 38 = .ok (.getfield 7, 3) := by decide +kernel
theorem dX6_play_41 : decode cX6_play 41 = .ok (.invokevirtual 81, 3) := by decide +kernel
theorem dX6_play_44 : decode cX6_play 44 = .ok (.aload_n 0, 1) := by decide +kernel
theorem dX6_play_45 : decode cX6_play 45 = .ok (.invokevirtual 196, 3) := by decide +kernel
theorem dX6_play_48 : decode cX6_play 48 = .ok (.bipush (-4), 2) := by decide +kernel
theorem dX6_play_50 : decode cX6_play 50 = .ok (.if_icmp .ne 10, 3) := by decide +kernel
theorem dX6_play_53 : decode cX6_play 53 = .ok (.aload_n 0, 1) := by decide +kernel
theorem dX6_play_54 : decode cX6_play 54 = .ok (.getfield 181, 3) := by decide +kernel
theorem dX6_play_57 : decode cX6_play 57 = .ok (.goto 5, 3) := by decide +kernel
theorem dX6_play_60 : decode cX6_play 60 = .ok (.bipush (-4), 2) := by decide +kernel
theorem dX6_play_62 : decode cX6_play 62 = .ok (.ireturn, 1) := by decide +kernel
