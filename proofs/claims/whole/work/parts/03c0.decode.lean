theorem dX6_init_0 : decode cX6_init 0 = .ok (.aload_n 0, 1) := by decide +kernel
theorem dX6_init_1 : decode cX6_init 1 = .ok (.invokespecial 1, 3) := by decide +kernel
theorem dX6_init_4 : decode cX6_init 4 = .ok (.aload_n 0, 1) := by decide +kernel
theorem dX6_init_5 : decode cX6_init 5 = .ok (.sipush 153, 3) := by decide +kernel
theorem dX6_init_8 : decode cX6_init 8 = .ok (.newarray .int, 2) := by decide +kernel
theorem dX6_init_10 : decode cX6_init 10 = .ok (.putfield 7, 3) := by decide +kernel
theorem dX6_init_13 : decode cX6_init 13 = .ok (.aload_n 0, 1) := by decide +kernel
theorem dX6_init_14 : decode cX6_init 14 = .ok (.sipush 612, 3) := by decide +kernel
theorem dX6_init_17 : decode cX6_init 17 = .ok (.newarray .int, 2) := by decide +kernel
theorem dX6_init_19 : decode cX6_init 19 = .ok (.putfield 13, 3) := by decide +kernel
theorem dX6_init_22 : decode cX6_init 22 = .ok (.aload_n 0, 1) := by decide +kernel
theorem dX6_init_23 : decode cX6_init 23 = .ok (.sipush 153, 3) := by decide +kernel
theorem dX6_init_26 : decode cX6_init 26 = .ok (.newarray .int, 2) := by decide +kernel
theorem dX6_init_28 : decode cX6_init 28 = .ok (.putfield 16, 3) := by decide +kernel
theorem dX6_init_31 : decode cX6_init 31 = .ok (.aload_n 0, 1) := by decide +kernel
theorem dX6_init_32 : decode cX6_init 32 = .ok (.sipush 153, 3) := by decide +kernel
theorem dX6_init_35 : decode cX6_init 35 = .ok (.newarray .int, 2) := by decide +kernel
theorem dX6_init_37 : decode cX6_init 37 = .ok (.putfield 19, 3) := by decide +kernel
theorem dX6_init_40 : decode cX6_init 40 = .ok (.aload_n 0, 1) := by decide +kernel
theorem dX6_init_41 : decode cX6_init 41 = .ok (.bipush 80, 2) := by decide +kernel
theorem dX6_init_43 : decode cX6_init 43 = .ok (.newarray .int, 2) := by decide +kernel
theorem dX6_init_45 : decode cX6_init 45 = .ok (.putfield 22, 3) := by decide +kernel
theorem dX6_init_48 : decode cX6_init 48 = .ok (.aload_n 0, 1) := by decide +kernel
theorem dX6_init_49 : decode cX6_init 49 = .ok (.bipush 7, 2) := by decide +kernel
theorem dX6_init_51 : decode cX6_init 51 = .ok (.newarray .int, 2) := by decide +kernel
theorem dX6_init_53 : decode cX6_init 53 = .ok (.putfield 25, 3) := by decide +kernel
theorem dX6_init_56 : decode cX6_init 56 = .ok (.aload_n 0, 1) := by decide +kernel
theorem dX6_init_57 : decode cX6_init 57 = .ok (.iconst 3, 1) := by decide +kernel
theorem dX6_init_58 : decode cX6_init 58 = .ok (.newarray .int, 2) := by decide +kernel
theorem dX6_init_60 : decode cX6_init 60 = .ok (.putfield 28, 3) := by decide +kernel
theorem dX6_init_63 : decode cX6_init 63 = .ok (.aload_n 0, 1) := by decide +kernel
theorem dX6_init_64 : decode cX6_init 64 = .ok (.getfield 7, 3) := by decide +kernel
theorem dX6_init_67 : decode cX6_init 67 = .ok (.bipush 8, 2) := by decide +kernel
theorem dX6_init_69 : decode cX6_init 69 = .ok (.iconst 1, 1) := by decide +kernel
theorem dX6_init_70 : decode cX6_init 70 = .ok (.iastore, 1) := by decide +kernel
theorem dX6_init_71 : decode cX6_init 71 = .ok (.aload_n 0, 1) := by decide +kernel
theorem dX6_init_72 : decode cX6_init 72 = .ok (.getfield 7, 3) := by decide +kernel
theorem dX6_init_75 : decode cX6_init 75 = .ok (.bipush 9, 2) := by decide +kernel
theorem dX6_init_77 : decode cX6_init 77 = .ok (.iconst 3, 1) := by decide +kernel
theorem dX6_init_78 : decode cX6_init 78 = .ok (.iastore, 1) := by decide +kernel
theorem dX6_init_79 : decode cX6_init 79 = .ok (.aload_n 0, 1) := by decide +kernel
theorem dX6_init_80 : decode cX6_init 80 = .ok (.getfield 7, 3) := by decide +kernel
theorem dX6_init_83 : decode cX6_init 83 = .ok (.bipush 10, 2) := by decide +kernel
theorem dX6_init_85 : decode cX6_init 85 = .ok (.iconst 2, 1) := by decide +kernel
theorem dX6_init_86 : decode cX6_init 86 = .ok (.iastore, 1) := by decide +kernel
theorem dX6_init_87 : decode cX6_init 87 = .ok (.aload_n 0, 1) := by decide +kernel
theorem dX6_init_88 : decode cX6_init 88 = .ok (.getfield 7, 3) := by decide +kernel
theorem dX6_init_91 : decode cX6_init 91 = .ok (.bipush 11, 2) := by decide +kernel
theorem dX6_init_93 : decode cX6_init 93 = .ok (.iconst 2, 1) := by decide +kernel
theorem dX6_init_94 : decode cX6_init 94 = .ok (.iastore, 1) := by decide +kernel
theorem dX6_init_95 : decode cX6_init 95 = .ok (.aload_n 0, 1) := by decide +kernel
theorem dX6_init_96 : decode cX6_init 96 = .ok (.iconst 5, 1) := by decide +kernel
theorem dX6_init_97 : decode cX6_init 97 = .ok (.invokevirtual 31, 3) := by decide +kernel
theorem dX6_init_100 : decode cX6_init 100 = .ok (.return_, 1) := by decide +kernel
theorem dX6_in_0 : decode cX6_in 0 = .ok (.iload_n 0, 1) := by decide +kernel
theorem dX6_in_1 : decode cX6_in 1 = .ok (.iload_n 1, 1) := by decide +kernel
theorem dX6_in_2 : decode cX6_in 2 = .ok (.if_icmp .lt 12, 3) := by decide +kernel
theorem dX6_in_5 : decode cX6_in 5 = .ok (.iload_n 0, 1) := by decide +kernel
theorem dX6_in_6 : decode cX6_in 6 = .ok (.iload_n 2, 1) := by decide +kernel
theorem dX6_in_7 : decode cX6_in 7 = .ok (.if_icmp .gt 7, 3) := by decide +kernel
theorem dX6_in_10 : decode cX6_in 10 = .ok (.iconst 1, 1) := by decide +kernel
theorem dX6_in_11 : decode cX6_in 11 = .ok (.goto 4, 3) := by decide +kernel
theorem dX6_in_14 : decode cX6_in 14 = .ok (.iconst 0, 1) := by decide +kernel
theorem dX6_in_15 : decode cX6_in 15 = .ok (.ireturn, 1) := by decide +kernel
theorem dX6_copies_0 : decode cX6_copies 0 = .ok (.iconst 0, 1) := by decide +kernel
theorem dX6_copies_1 : decode cX6_copies 1 = .ok (.istore_n 2, 1) := by decide +kernel
theorem dX6_copies_2 : decode cX6_copies 2 = .ok (.iload_n 2, 1) := by decide +kernel
theorem dX6_copies_3 : decode cX6_copies 3 = .ok (.sipush 153, 3) := by decide +kernel
theorem dX6_copies_6 : decode cX6_copies 6 = .ok (.if_icmp .ge 15, 3) := by decide +kernel
theorem dX6_copies_9 : decode cX6_copies 9 = .ok (.aload_n 1, 1) := by decide +kernel
theorem dX6_copies_10 : decode cX6_copies 10 = .ok (.iload_n 2, 1) := by decide +kernel
theorem dX6_copies_11 : decode cX6_copies 11 = .ok (.aload_n 0, 1) := by decide +kernel
theorem dX6_copies_12 : decode cX6_copies 12 = .ok (.iload_n 2, 1) := by decide +kernel
theorem dX6_copies_13 : decode cX6_copies 13 = .ok (.iaload, 1) := by decide +kernel
theorem dX6_copies_14 : decode cX6_copies 14 = .ok (.iastore, 1) := by decide +kernel
theorem dX6_copies_15 : decode cX6_copies 15 = .ok (.iinc 2 1, 3) := by decide +kernel
theorem dX6_copies_18 : decode cX6_copies 18 = .ok (.goto (-16), 3) := by decide +kernel
theorem dX6_copies_21 : decode cX6_copies 21 = .ok (.return_, 1) := by decide +kernel
theorem dX6_changes_0 : decode cX6_changes 0 = .ok (.aload_n 0, 1) := by decide +kernel
theorem dX6_changes_1 : decode cX6_changes 1 = .ok (.getfield 35, 3) := by decide +kernel
theorem dX6_changes_4 : decode cX6_changes 4 = .ok (.ifCond .eq 4, 3) := by decide +kernel
theorem dX6_changes_7 : decode cX6_changes 7 = .ok (.return_, 1) := by decide +kernel
theorem dX6_changes_8 : decode cX6_changes 8 = .ok (.aload_n 0, 1) := by decide +kernel
theorem dX6_changes_9 : decode cX6_changes 9 = .ok (.getfield 39, 3) := by decide +kernel
theorem dX6_changes_12 : decode cX6_changes 12 = .ok (.iconst 4, 1) := by decide +kernel
theorem dX6_changes_13 : decode cX6_changes 13 = .ok (.if_icmp .ne 44, 3) := by decide +kernel
theorem dX6_changes_16 : decode cX6_changes 16 = .ok (.iconst 0, 1) := by decide +kernel
theorem dX6_changes_17 : decode cX6_changes 17 = .ok (.istore_n 2, 1) := by decide +kernel
theorem dX6_changes_18 : decode cX6_changes 18 = .ok (.iload_n 2, 1) := by decide +kernel
theorem dX6_changes_19 : decode cX6_changes 19 = .ok (.sipush 459, 3) := by decide +kernel
theorem dX6_changes_22 : decode cX6_changes 22 = .ok (.if_icmp .ge 25, 3) := by decide +kernel
theorem dX6_changes_25 : decode cX6_changes 25 = .ok (.aload_n 0, 1) := by decide +kernel
theorem dX6_changes_26 : decode cX6_changes 26 = .ok (.getfield 13, 3) := by decide +kernel
theorem dX6_changes_29 : decode cX6_changes 29 = .ok (.iload_n 2, 1) := by decide +kernel
theorem dX6_changes_30 : decode cX6_changes 30 = .ok (.aload_n 0, 1) := by decide +kernel
theorem dX6_changes_31 : decode cX6_changes 31 = .ok (.getfield 13, 3) := by decide +kernel
theorem dX6_changes_34 : decode cX6_changes 34 = .ok (.iload_n 2, 1) := by decide +kernel
theorem dX6_changes_35 : decode cX6_changes 35 = .ok (.sipush 153, 3) := by decide +kernel
theorem dX6_changes_38 : decode cX6_changes 38 = .ok (.iadd, 1) := by decide +kernel
theorem dX6_changes_39 : decode cX6_changes 39 = .ok (.iaload, 1) := by decide +kernel
theorem dX6_changes_40 : decode cX6_changes 40 = .ok (.iastore, 1) := by decide +kernel
theorem dX6_changes_41 : decode cX6_changes 41 = .ok (.iinc 2 1, 3) := by decide +kernel
theorem dX6_changes_44 : decode cX6_changes 44 = .ok (.goto (-26), 3) := by decide +kernel
theorem dX6_changes_47 : decode cX6_changes 47 = .ok (.aload_n 0, 1) := by decide +kernel
theorem dX6_changes_48 : decode cX6_changes 48 = .ok (.dup, 1) := by decide +kernel
theorem dX6_changes_49 : decode cX6_changes 49 = .ok (.getfield 39, 3) := by decide +kernel
theorem dX6_changes_52 : decode cX6_changes 52 = .ok (.iconst 1, 1) := by decide +kernel
theorem dX6_changes_53 : decode cX6_changes 53 = .ok (.isub, 1) := by decide +kernel
theorem dX6_changes_54 : decode cX6_changes 54 = .ok (.putfield 39, 3) := by decide +kernel
theorem dX6_changes_57 : decode cX6_changes 57 = .ok (.iconst 0, 1) := by decide +kernel
theorem dX6_changes_58 : decode cX6_changes 58 = .ok (.istore_n 2, 1) := by decide +kernel
theorem dX6_changes_59 : decode cX6_changes 59 = .ok (.iload_n 2, 1) := by decide +kernel
theorem dX6_changes_60 : decode cX6_changes 60 = .ok (.sipush 153, 3) := by decide +kernel
theorem dX6_changes_63 : decode cX6_changes 63 = .ok (.if_icmp .ge 27, 3) := by decide +kernel
theorem dX6_changes_66 : decode cX6_changes 66 = .ok (.aload_n 0, 1) := by decide +kernel
theorem dX6_changes_67 : decode cX6_changes 67 = .ok (.getfield 13, 3) := by decide +kernel
theorem dX6_changes_70 : decode cX6_changes 70 = .ok (.sipush 153, 3) := by decide +kernel
theorem dX6_changes_73 : decode cX6_changes 73 = .ok (.aload_n 0, 1) := by decide +kernel
theorem dX6_changes_74 : decode cX6_changes 74 = .ok (.getfield 39, 3) := by decide +kernel
theorem dX6_changes_77 : decode cX6_changes 77 = .ok (.imul, 1) := by decide +kernel
theorem dX6_changes_78 : decode cX6_changes 78 = .ok (.iload_n 2, 1) := by decide +kernel
theorem dX6_changes_79 : decode cX6_changes 79 = .ok (.iadd, 1) := by decide +kernel
theorem dX6_changes_80 : decode cX6_changes 80 = .ok (.aload_n 1, 1) := by decide +kernel
theorem dX6_changes_81 : decode cX6_changes 81 = .ok (.iload_n 2, 1) := by decide +kernel
theorem dX6_changes_82 : decode cX6_changes 82 = .ok (.iaload, 1) := by decide +kernel
theorem dX6_changes_83 : decode cX6_changes 83 = .ok (.iastore, 1) := by decide +kernel
theorem dX6_changes_84 : decode cX6_changes 84 = .ok (.iinc 2 1, 3) := by decide +kernel
theorem dX6_changes_87 : decode cX6_changes 87 = .ok (.goto (-28), 3) := by decide +kernel
theorem dX6_changes_90 : decode cX6_changes 90 = .ok (.aload_n 0, 1) := by decide +kernel
theorem dX6_changes_91 : decode cX6_changes 91 = .ok (.dup, 1) := by decide +kernel
theorem dX6_changes_92 : decode cX6_changes 92 = .ok (.getfield 39, 3) := by decide +kernel
theorem dX6_changes_95 : decode cX6_changes 95 = .ok (.iconst 1, 1) := by decide +kernel
theorem dX6_changes_96 : decode cX6_changes 96 = .ok (.iadd, 1) := by decide +kernel
theorem dX6_changes_97 : decode cX6_changes 97 = .ok (.putfield 39, 3) := by decide +kernel
theorem dX6_changes_100 : decode cX6_changes 100 = .ok (.return_, 1) := by decide +kernel
theorem dX6_clears_0 : decode cX6_clears 0 = .ok (.iconst 0, 1) := by decide +kernel
theorem dX6_clears_1 : decode cX6_clears 1 = .ok (.istore_n 2, 1) := by decide +kernel
theorem dX6_clears_2 : decode cX6_clears 2 = .ok (.iload_n 2, 1) := by decide +kernel
theorem dX6_clears_3 : decode cX6_clears 3 = .ok (.sipush 153, 3) := by decide +kernel
theorem dX6_clears_6 : decode cX6_clears 6 = .ok (.if_icmp .ge 51, 3) := by decide +kernel
theorem dX6_clears_9 : decode cX6_clears 9 = .ok (.aload_n 0, 1) := by decide +kernel
theorem dX6_clears_10 : decode cX6_clears 10 = .ok (.getfield 7, 3) := by decide +kernel
theorem dX6_clears_13 : decode cX6_clears 13 = .ok (.iload_n 2, 1) := by decide +kernel
theorem dX6_clears_14 : decode cX6_clears 14 = .ok (.iload_n 2, 1) := by decide +kernel
theorem dX6_clears_15 : decode cX6_clears 15 = .ok (.bipush 8, 2) := by decide +kernel
theorem dX6_clears_17 : decode cX6_clears 17 = .ok (.bipush 11, 2) := by decide +kernel
theorem dX6_clears_19 : decode cX6_clears 19 = .ok (.invokestatic 43, 3) := by decide +kernel
theorem dX6_clears_22 : decode cX6_clears 22 = .ok (.ifCond .eq 12, 3) := by decide +kernel
theorem dX6_clears_25 : decode cX6_clears 25 = .ok (.aload_n 0, 1) := by decide +kernel
theorem dX6_clears_26 : decode cX6_clears 26 = .ok (.getfield 7, 3) := by decide +kernel
theorem dX6_clears_29 : decode cX6_clears 29 = .ok (.iload_n 2, 1) := by decide +kernel
theorem dX6_clears_30 : decode cX6_clears 30 = .ok (.iaload, 1) := by decide +kernel
theorem dX6_clears_31 : decode cX6_clears 31 = .ok (.goto 19, 3) := by decide +kernel
theorem dX6_clears_34 : decode cX6_clears 34 = .ok (.iload_n 2, 1) := by decide +kernel
theorem dX6_clears_35 : decode cX6_clears 35 = .ok (.bipush 12, 2) := by decide +kernel
theorem dX6_clears_37 : decode cX6_clears 37 = .ok (.bipush 19, 2) := by decide +kernel
theorem dX6_clears_39 : decode cX6_clears 39 = .ok (.invokestatic 43, 3) := by decide +kernel
theorem dX6_clears_42 : decode cX6_clears 42 = .ok (.ifCond .eq 7, 3) := by decide +kernel
theorem dX6_clears_45 : decode cX6_clears 45 = .ok (.iconst (-1), 1) := by decide +kernel
theorem dX6_clears_46 : decode cX6_clears 46 = .ok (.goto 4, 3) := by decide +kernel
theorem dX6_clears_49 : decode cX6_clears 49 = .ok (.iconst 0, 1) := by decide +kernel
theorem dX6_clears_50 : decode cX6_clears 50 = .ok (.iastore, 1) := by decide +kernel
theorem dX6_clears_51 : decode cX6_clears 51 = .ok (.iinc 2 1, 3) := by decide +kernel
theorem dX6_clears_54 : decode cX6_clears 54 = .ok (.goto (-52), 3) := by decide +kernel
theorem dX6_clears_57 : decode cX6_clears 57 = .ok (.aload_n 0, 1) := by decide +kernel
theorem dX6_clears_58 : decode cX6_clears 58 = .ok (.getfield 7, 3) := by decide +kernel
theorem dX6_clears_61 : decode cX6_clears 61 = .ok (.iconst 0, 1) := by decide +kernel
theorem dX6_clears_62 : decode cX6_clears 62 = .ok (.iload_n 1, 1) := by decide +kernel
theorem dX6_clears_63 : decode cX6_clears 63 = .ok (.iastore, 1) := by decide +kernel
theorem dX6_clears_64 : decode cX6_clears 64 = .ok (.return_, 1) := by decide +kernel
theorem dX6_isName_0 : decode cX6_isName 0 = .ok (.iload_n 0, 1) := by decide +kernel
theorem dX6_isName_1 : decode cX6_isName 1 = .ok (.iconst 0, 1) := by decide +kernel
theorem dX6_isName_2 : decode cX6_isName 2 = .ok (.bipush 7, 2) := by decide +kernel
theorem dX6_isName_4 : decode cX6_isName 4 = .ok (.invokestatic 43, 3) := by decide +kernel
theorem dX6_isName_7 : decode cX6_isName 7 = .ok (.ireturn, 1) := by decide +kernel
theorem dX6_at_0 : decode cX6_at 0 = .ok (.bipush 28, 2) := by decide +kernel
theorem dX6_at_2 : decode cX6_at 2 = .ok (.iconst 5, 1) := by decide +kernel
theorem dX6_at_3 : decode cX6_at 3 = .ok (.iload_n 0, 1) := by decide +kernel
theorem dX6_at_4 : decode cX6_at 4 = .ok (.imul, 1) := by decide +kernel
theorem dX6_at_5 : decode cX6_at 5 = .ok (.iadd, 1) := by decide +kernel
theorem dX6_at_6 : decode cX6_at 6 = .ok (.iload_n 1, 1) := by decide +kernel
theorem dX6_at_7 : decode cX6_at 7 = .ok (.iadd, 1) := by decide +kernel
theorem dX6_at_8 : decode cX6_at 8 = .ok (.ireturn, 1) := by decide +kernel
theorem dX6_ofOrder_0 : decode cX6_ofOrder 0 = .ok (.bipush 111, 2) := by decide +kernel
theorem dX6_ofOrder_2 : decode cX6_ofOrder 2 = .ok (.bipush 7, 2) := by decide +kernel
theorem dX6_ofOrder_4 : decode cX6_ofOrder 4 = .ok (.iload_n 0, 1) := by decide +kernel
theorem dX6_ofOrder_5 : decode cX6_ofOrder 5 = .ok (.imul, 1) := by decide +kernel
theorem dX6_ofOrder_6 : decode cX6_ofOrder 6 = .ok (.iadd, 1) := by decide +kernel
theorem dX6_ofOrder_7 : decode cX6_ofOrder 7 = .ok (.iload_n 1, 1) := by decide +kernel
theorem dX6_ofOrder_8 : decode cX6_ofOrder 8 = .ok (.iadd, 1) := by decide +kernel
theorem dX6_ofOrder_9 : decode cX6_ofOrder 9 = .ok (.ireturn, 1) := by decide +kernel
theorem dX6_isMark_0 : decode cX6_isMark 0 = .ok (.iload_n 1, 1) := by decide +kernel
theorem dX6_isMark_1 : decode cX6_isMark 1 = .ok (.ifCond .lt 17, 3) := by decide +kernel
theorem dX6_isMark_4 : decode cX6_isMark 4 = .ok (.iload_n 1, 1) := by decide +kernel
theorem dX6_isMark_5 : decode cX6_isMark 5 = .ok (.aload_n 0, 1) := by decide +kernel
theorem dX6_isMark_6 : decode cX6_isMark 6 = .ok (.getfield 7, 3) := by decide +kernel
theorem dX6_isMark_9 : decode cX6_isMark 9 = .ok (.iconst 2, 1) := by decide +kernel
theorem dX6_isMark_10 : decode cX6_isMark 10 = .ok (.iaload, 1) := by decide +kernel
theorem dX6_isMark_11 : decode cX6_isMark 11 = .ok (.if_icmp .ge 7, 3) := by decide +kernel
theorem dX6_isMark_14 : decode cX6_isMark 14 = .ok (.iconst 1, 1) := by decide +kernel
theorem dX6_isMark_15 : decode cX6_isMark 15 = .ok (.goto 4, 3) := by decide +kernel
theorem dX6_isMark_18 : decode cX6_isMark 18 = .ok (.iconst 0, 1) := by decide +kernel
theorem dX6_isMark_19 : decode cX6_isMark 19 = .ok (.ireturn, 1) := by decide +kernel
theorem dX6_isHad_0 : decode cX6_isHad 0 = .ok (.iconst 0, 1) := by decide +kernel
theorem dX6_isHad_1 : decode cX6_isHad 1 = .ok (.istore_n 2, 1) := by decide +kernel
theorem dX6_isHad_2 : decode cX6_isHad 2 = .ok (.iconst 0, 1) := by decide +kernel
theorem dX6_isHad_3 : decode cX6_isHad 3 = .ok (.istore_n 3, 1) := by decide +kernel
theorem dX6_isHad_4 : decode cX6_isHad 4 = .ok (.iload_n 3, 1) := by decide +kernel
theorem dX6_isHad_5 : decode cX6_isHad 5 = .ok (.bipush 8, 2) := by decide +kernel
theorem dX6_isHad_7 : decode cX6_isHad 7 = .ok (.if_icmp .ge 32, 3) := by decide +kernel
theorem dX6_isHad_10 : decode cX6_isHad 10 = .ok (.iload_n 2, 1) := by decide +kernel
theorem dX6_isHad_11 : decode cX6_isHad 11 = .ok (.ifCond .ne 16, 3) := by decide +kernel
theorem dX6_isHad_14 : decode cX6_isHad 14 = .ok (.aload_n 0, 1) := by decide +kernel
theorem dX6_isHad_15 : decode cX6_isHad 15 = .ok (.getfield 7, 3) := by decide +kernel
theorem dX6_isHad_18 : decode cX6_isHad 18 = .ok (.bipush 12, 2) := by decide +kernel
theorem dX6_isHad_20 : decode cX6_isHad 20 = .ok (.iload_n 3, 1) := by decide +kernel
theorem dX6_isHad_21 : decode cX6_isHad 21 = .ok (.iadd, 1) := by decide +kernel
theorem dX6_isHad_22 : decode cX6_isHad 22 = .ok (.iaload, 1) := by decide +kernel
theorem dX6_isHad_23 : decode cX6_isHad 23 = .ok (.iload_n 1, 1) := by decide +kernel
theorem dX6_isHad_24 : decode cX6_isHad 24 = .ok (.if_icmp .ne 7, 3) := by decide +kernel
theorem dX6_isHad_27 : decode cX6_isHad 27 = .ok (.iconst 1, 1) := by decide +kernel
theorem dX6_isHad_28 : decode cX6_isHad 28 = .ok (.goto 4, 3) := by decide +kernel
theorem dX6_isHad_31 : decode cX6_isHad 31 = .ok (.iconst 0, 1) := by decide +kernel
theorem dX6_isHad_32 : decode cX6_isHad 32 = .ok (.istore_n 2, 1) := by decide +kernel
theorem dX6_isHad_33 : decode cX6_isHad 33 = .ok (.iinc 3 1, 3) := by decide +kernel
theorem dX6_isHad_36 : decode cX6_isHad 36 = .ok (.goto (-32), 3) := by decide +kernel
theorem dX6_isHad_39 : decode cX6_isHad 39 = .ok (.iload_n 2, 1) := by decide +kernel
theorem dX6_isHad_40 : decode cX6_isHad 40 = .ok (.ireturn, 1) := by decide +kernel
theorem dX6_marksOf_0 : decode cX6_marksOf 0 = .ok (.iconst 0, 1) := by decide +kernel
theorem dX6_marksOf_1 : decode cX6_marksOf 1 = .ok (.istore_n 2, 1) := by decide +kernel
theorem dX6_marksOf_2 : decode cX6_marksOf 2 = .ok (.iconst 0, 1) := by decide +kernel
theorem dX6_marksOf_3 : decode cX6_marksOf 3 = .ok (.istore_n 3, 1) := by decide +kernel
theorem dX6_marksOf_4 : decode cX6_marksOf 4 = .ok (.iload_n 3, 1) := by decide +kernel
theorem dX6_marksOf_5 : decode cX6_marksOf 5 = .ok (.aload_n 0, 1) := by decide +kernel
theorem dX6_marksOf_6 : decode cX6_marksOf 6 = .ok (.getfield 7, 3) := by decide +kernel
theorem dX6_marksOf_9 : decode cX6_marksOf 9 = .ok (.iconst 2, 1) := by decide +kernel
theorem dX6_marksOf_10 : decode cX6_marksOf 10 = .ok (.iaload, 1) := by decide +kernel
theorem dX6_marksOf_11 : decode cX6_marksOf 11 = .ok (.if_icmp .ge 54, 3) := by decide +kernel
theorem dX6_marksOf_14 : decode cX6_marksOf 14 = .ok (.iconst 0, 1) := by decide +kernel
theorem dX6_marksOf_15 : decode cX6_marksOf 15 = .ok (.istore 4, 2) := by decide +kernel
theorem dX6_marksOf_17 : decode cX6_marksOf 17 = .ok (.iload 4, 2) := by decide +kernel
theorem dX6_marksOf_19 : decode cX6_marksOf 19 = .ok (.bipush 8, 2) := by decide +kernel
theorem dX6_marksOf_21 : decode cX6_marksOf 21 = .ok (.if_icmp .ge 38, 3) := by decide +kernel
theorem dX6_marksOf_24 : decode cX6_marksOf 24 = .ok (.iload_n 2, 1) := by decide +kernel
theorem dX6_marksOf_25 : decode cX6_marksOf 25 = .ok (.aload_n 0, 1) := by decide +kernel
theorem dX6_marksOf_26 : decode cX6_marksOf 26 = .ok (.getfield 7, 3) := by decide +kernel
theorem dX6_marksOf_29 : decode cX6_marksOf 29 = .ok (.bipush 63, 2) := by decide +kernel
theorem dX6_marksOf_31 : decode cX6_marksOf 31 = .ok (.bipush 16, 2) := by decide +kernel
theorem dX6_marksOf_33 : decode cX6_marksOf 33 = .ok (.iload_n 3, 1) := by decide +kernel
theorem dX6_marksOf_34 : decode cX6_marksOf 34 = .ok (.imul, 1) := by decide +kernel
theorem dX6_marksOf_35 : decode cX6_marksOf 35 = .ok (.iadd, 1) := by decide +kernel
theorem dX6_marksOf_36 : decode cX6_marksOf 36 = .ok (.iload 4, 2) := by decide +kernel
theorem dX6_marksOf_38 : decode cX6_marksOf 38 = .ok (.iadd, 1) := by decide +kernel
theorem dX6_marksOf_39 : decode cX6_marksOf 39 = .ok (.iaload, 1) := by decide +kernel
theorem dX6_marksOf_40 : decode cX6_marksOf 40 = .ok (.iload_n 1, 1) := by decide +kernel
theorem dX6_marksOf_41 : decode cX6_marksOf 41 = .ok (.if_icmp .ne 9, 3) := by decide +kernel
theorem dX6_marksOf_44 : decode cX6_marksOf 44 = .ok (.iconst 1, 1) := by decide +kernel
theorem dX6_marksOf_45 : decode cX6_marksOf 45 = .ok (.iload_n 3, 1) := by decide +kernel
theorem dX6_marksOf_46 : decode cX6_marksOf 46 = .ok (.ishl, 1) := by decide +kernel
theorem dX6_marksOf_47 : decode cX6_marksOf 47 = .ok (.goto 4, 3) := by decide +kernel
theorem dX6_marksOf_50 : decode cX6_marksOf 50 = .ok (.iconst 0, 1) := by decide +kernel
theorem dX6_marksOf_51 : decode cX6_marksOf 51 = .ok (.ior, 1) := by decide +kernel
theorem dX6_marksOf_52 : decode cX6_marksOf 52 = .ok (.istore_n 2, 1) := by decide +kernel
theorem dX6_marksOf_53 : decode cX6_marksOf 53 = .ok (.iinc 4 1, 3) := by decide +kernel
theorem dX6_marksOf_56 : decode cX6_marksOf 56 = .ok (.goto (-39), 3) := by decide +kernel
theorem dX6_marksOf_59 : decode cX6_marksOf 59 = .ok (.iinc 3 1, 3) := by decide +kernel
theorem dX6_marksOf_62 : decode cX6_marksOf 62 = .ok (.goto (-58), 3) := by decide +kernel
theorem dX6_marksOf_65 : decode cX6_marksOf 65 = .ok (.iload_n 2, 1) := by decide +kernel
theorem dX6_marksOf_66 : decode cX6_marksOf 66 = .ok (.ireturn, 1) := by decide +kernel
theorem dX6_readers_0 : decode cX6_readers 0 = .ok (.iconst 0, 1) := by decide +kernel
theorem dX6_readers_1 : decode cX6_readers 1 = .ok (.istore_n 2, 1) := by decide +kernel
theorem dX6_readers_2 : decode cX6_readers 2 = .ok (.iconst 0, 1) := by decide +kernel
theorem dX6_readers_3 : decode cX6_readers 3 = .ok (.istore_n 3, 1) := by decide +kernel
theorem dX6_readers_4 : decode cX6_readers 4 = .ok (.iload_n 3, 1) := by decide +kernel
theorem dX6_readers_5 : decode cX6_readers 5 = .ok (.aload_n 0, 1) := by decide +kernel
theorem dX6_readers_6 : decode cX6_readers 6 = .ok (.getfield 7, 3) := by decide +kernel
theorem dX6_readers_9 : decode cX6_readers 9 = .ok (.iconst 3, 1) := by decide +kernel
theorem dX6_readers_10 : decode cX6_readers 10 = .ok (.iaload, 1) := by decide +kernel
theorem dX6_readers_11 : decode cX6_readers 11 = .ok (.if_icmp .ge 45, 3) := by decide +kernel
theorem dX6_readers_14 : decode cX6_readers 14 = .ok (.iload_n 2, 1) := by decide +kernel
theorem dX6_readers_15 : decode cX6_readers 15 = .ok (.aload_n 0, 1) := by decide +kernel
theorem dX6_readers_16 : decode cX6_readers 16 = .ok (.getfield 7, 3) := by decide +kernel
theorem dX6_readers_19 : decode cX6_readers 19 = .ok (.iload_n 3, 1) := by decide +kernel
theorem dX6_readers_20 : decode cX6_readers 20 = .ok (.iconst 2, 1) := by decide +kernel
theorem dX6_readers_21 : decode cX6_readers 21 = .ok (.invokestatic 47, 3) := by decide +kernel
theorem dX6_readers_24 : decode cX6_readers 24 = .ok (.iaload, 1) := by decide +kernel
theorem dX6_readers_25 : decode cX6_readers 25 = .ok (.iload_n 1, 1) := by decide +kernel
theorem dX6_readers_26 : decode cX6_readers 26 = .ok (.if_icmp .eq 17, 3) := by decide +kernel
theorem dX6_readers_29 : decode cX6_readers 29 = .ok (.aload_n 0, 1) := by decide +kernel
theorem dX6_readers_30 : decode cX6_readers 30 = .ok (.getfield 7, 3) := by decide +kernel
theorem dX6_readers_33 : decode cX6_readers 33 = .ok (.iload_n 3, 1) := by decide +kernel
theorem dX6_readers_34 : decode cX6_readers 34 = .ok (.iconst 3, 1) := by decide +kernel
theorem dX6_readers_35 : decode cX6_readers 35 = .ok (.invokestatic 47, 3) := by decide +kernel
theorem dX6_readers_38 : decode cX6_readers 38 = .ok (.iaload, 1) := by decide +kernel
theorem dX6_readers_39 : decode cX6_readers 39 = .ok (.iload_n 1, 1) := by decide +kernel
theorem dX6_readers_40 : decode cX6_readers 40 = .ok (.if_icmp .ne 7, 3) := by decide +kernel
theorem dX6_readers_43 : decode cX6_readers 43 = .ok (.iconst 1, 1) := by decide +kernel
theorem dX6_readers_44 : decode cX6_readers 44 = .ok (.goto 4, 3) := by decide +kernel
theorem dX6_readers_47 : decode cX6_readers 47 = .ok (.iconst 0, 1) := by decide +kernel
theorem dX6_readers_48 : decode cX6_readers 48 = .ok (.iadd, 1) := by decide +kernel
theorem dX6_readers_49 : decode cX6_readers 49 = .ok (.istore_n 2, 1) := by decide +kernel
theorem dX6_readers_50 : decode cX6_readers 50 = .ok (.iinc 3 1, 3) := by decide +kernel
theorem dX6_readers_53 : decode cX6_readers 53 = .ok (.goto (-49), 3) := by decide +kernel
theorem dX6_readers_56 : decode cX6_readers 56 = .ok (.iload_n 2, 1) := by decide +kernel
theorem dX6_readers_57 : decode cX6_readers 57 = .ok (.ireturn, 1) := by decide +kernel
theorem dX6_isOfOrder_0 : decode cX6_isOfOrder 0 = .ok (.iconst 0, 1) := by decide +kernel
theorem dX6_isOfOrder_1 : decode cX6_isOfOrder 1 = .ok (.istore_n 2, 1) := by decide +kernel
theorem dX6_isOfOrder_2 : decode cX6_isOfOrder 2 = .ok (.iconst 0, 1) := by decide +kernel
theorem dX6_isOfOrder_3 : decode cX6_isOfOrder 3 = .ok (.istore_n 3, 1) := by decide +kernel
theorem dX6_isOfOrder_4 : decode cX6_isOfOrder 4 = .ok (.iload_n 3, 1) := by decide +kernel
theorem dX6_isOfOrder_5 : decode cX6_isOfOrder 5 = .ok (.aload_n 0, 1) := by decide +kernel
theorem dX6_isOfOrder_6 : decode cX6_isOfOrder 6 = .ok (.getfield 7, 3) := by decide +kernel
theorem dX6_isOfOrder_9 : decode cX6_isOfOrder 9 = .ok (.iconst 3, 1) := by decide +kernel
theorem dX6_isOfOrder_10 : decode cX6_isOfOrder 10 = .ok (.iaload, 1) := by decide +kernel
theorem dX6_isOfOrder_11 : decode cX6_isOfOrder 11 = .ok (.if_icmp .ge 33, 3) := by decide +kernel
theorem dX6_isOfOrder_14 : decode cX6_isOfOrder 14 = .ok (.iload_n 2, 1) := by decide +kernel
theorem dX6_isOfOrder_15 : decode cX6_isOfOrder 15 = .ok (.ifCond .ne 17, 3) := by decide +kernel
theorem dX6_isOfOrder_18 : decode cX6_isOfOrder 18 = .ok (.aload_n 0, 1) := by decide +kernel
theorem dX6_isOfOrder_19 : decode cX6_isOfOrder 19 = .ok (.getfield 7, 3) := by decide +kernel
theorem dX6_isOfOrder_22 : decode cX6_isOfOrder 22 = .ok (.iload_n 3, 1) := by decide +kernel
theorem dX6_isOfOrder_23 : decode cX6_isOfOrder 23 = .ok (.iconst 1, 1) := by decide +kernel
theorem dX6_isOfOrder_24 : decode cX6_isOfOrder 24 = .ok (.invokestatic 47, 3) := by decide +kernel
theorem dX6_isOfOrder_27 : decode cX6_isOfOrder 27 = .ok (.iaload, 1) := by decide +kernel
theorem dX6_isOfOrder_28 : decode cX6_isOfOrder 28 = .ok (.iload_n 1, 1) := by decide +kernel
theorem dX6_isOfOrder_29 : decode cX6_isOfOrder 29 = .ok (.if_icmp .ne 7, 3) := by decide +kernel
theorem dX6_isOfOrder_32 : decode cX6_isOfOrder 32 = .ok (.iconst 1, 1) := by decide +kernel
theorem dX6_isOfOrder_33 : decode cX6_isOfOrder 33 = .ok (.goto 4, 3) := by decide +kernel
theorem dX6_isOfOrder_36 : decode cX6_isOfOrder 36 = .ok (.iconst 0, 1) := by decide +kernel
theorem dX6_isOfOrder_37 : decode cX6_isOfOrder 37 = .ok (.istore_n 2, 1) := by decide +kernel
theorem dX6_isOfOrder_38 : decode cX6_isOfOrder 38 = .ok (.iinc 3 1, 3) := by decide +kernel
theorem dX6_isOfOrder_41 : decode cX6_isOfOrder 41 = .ok (.goto (-37), 3) := by decide +kernel
theorem dX6_isOfOrder_44 : decode cX6_isOfOrder 44 = .ok (.iload_n 2, 1) := by decide +kernel
theorem dX6_isOfOrder_45 : decode cX6_isOfOrder 45 = .ok (.ireturn, 1) := by decide +kernel
theorem dX6_frees_0 : decode cX6_frees 0 = .ok (.iconst 0, 1) := by decide +kernel
theorem dX6_frees_1 : decode cX6_frees 1 = .ok (.istore_n 1, 1) := by decide +kernel
theorem dX6_frees_2 : decode cX6_frees 2 = .ok (.iload_n 1, 1) := by decide +kernel
theorem dX6_frees_3 : decode cX6_frees 3 = .ok (.aload_n 0, 1) := by decide +kernel
theorem dX6_frees_4 : decode cX6_frees 4 = .ok (.getfield 7, 3) := by decide +kernel
theorem dX6_frees_7 : decode cX6_frees 7 = .ok (.iconst 0, 1) := by decide +kernel
theorem dX6_frees_8 : decode cX6_frees 8 = .ok (.iaload, 1) := by decide +kernel
theorem dX6_frees_9 : decode cX6_frees 9 = .ok (.if_icmp .ge 75, 3) := by decide +kernel
theorem dX6_frees_12 : decode cX6_frees 12 = .ok (.aload_n 0, 1) := by decide +kernel
theorem dX6_frees_13 : decode cX6_frees 13 = .ok (.iload_n 1, 1) := by decide +kernel
theorem dX6_frees_14 : decode cX6_frees 14 = .ok (.invokevirtual 51, 3) := by decide +kernel
theorem dX6_frees_17 : decode cX6_frees 17 = .ok (.ifCond .ne 27, 3) := by decide +kernel
theorem dX6_frees_20 : decode cX6_frees 20 = .ok (.aload_n 0, 1) := by decide +kernel
theorem dX6_frees_21 : decode cX6_frees 21 = .ok (.iload_n 1, 1) := by decide +kernel
theorem dX6_frees_22 : decode cX6_frees 22 = .ok (.invokevirtual 55, 3) := by decide +kernel
theorem dX6_frees_25 : decode cX6_frees 25 = .ok (.ifCond .gt 19, 3) := by decide +kernel
theorem dX6_frees_28 : decode cX6_frees 28 = .ok (.aload_n 0, 1) := by decide +kernel
theorem dX6_frees_29 : decode cX6_frees 29 = .ok (.iload_n 1, 1) := by decide +kernel
theorem dX6_frees_30 : decode cX6_frees 30 = .ok (.invokevirtual 59, 3) := by decide +kernel
theorem dX6_frees_33 : decode cX6_frees 33 = .ok (.ifCond .gt 11, 3) := by decide +kernel
theorem dX6_frees_36 : decode cX6_frees 36 = .ok (.aload_n 0, 1) := by decide +kernel
theorem dX6_frees_37 : decode cX6_frees 37 = .ok (.iload_n 1, 1) := by decide +kernel
theorem dX6_frees_38 : decode cX6_frees 38 = .ok (.invokevirtual 62, 3) := by decide +kernel
theorem dX6_frees_41 : decode cX6_frees 41 = .ok (.ifCond .eq 7, 3) := by decide +kernel
theorem dX6_frees_44 : decode cX6_frees 44 = .ok (.iconst 1, 1) := by decide +kernel
theorem dX6_frees_45 : decode cX6_frees 45 = .ok (.goto 4, 3) := by decide +kernel
theorem dX6_frees_48 : decode cX6_frees 48 = .ok (.iconst 0, 1) := by decide +kernel
theorem dX6_frees_49 : decode cX6_frees 49 = .ok (.istore_n 2, 1) := by decide +kernel
theorem dX6_frees_50 : decode cX6_frees 50 = .ok (.aload_n 0, 1) := by decide +kernel
theorem dX6_frees_51 : decode cX6_frees 51 = .ok (.getfield 7, 3) := by decide +kernel
theorem dX6_frees_54 : decode cX6_frees 54 = .ok (.iload_n 1, 1) := by decide +kernel
theorem dX6_frees_55 : decode cX6_frees 55 = .ok (.iconst 0, 1) := by decide +kernel
theorem dX6_frees_56 : decode cX6_frees 56 = .ok (.invokestatic 65, 3) := by decide +kernel
theorem dX6_frees_59 : decode cX6_frees 59 = .ok (.iload_n 2, 1) := by decide +kernel
theorem dX6_frees_60 : decode cX6_frees 60 = .ok (.ifCond .eq 16, 3) := by decide +kernel
theorem dX6_frees_63 : decode cX6_frees 63 = .ok (.aload_n 0, 1) := by decide +kernel
theorem dX6_frees_64 : decode cX6_frees 64 = .ok (.getfield 7, 3) := by decide +kernel
theorem dX6_frees_67 : decode cX6_frees 67 = .ok (.iload_n 1, 1) := by decide +kernel
theorem dX6_frees_68 : decode cX6_frees 68 = .ok (.iconst 0, 1) := by decide +kernel
theorem dX6_frees_69 : decode cX6_frees 69 = .ok (.invokestatic 65, 3) := by decide +kernel
theorem dX6_frees_72 : decode cX6_frees 72 = .ok (.iaload, 1) := by decide +kernel
theorem dX6_frees_73 : decode cX6_frees 73 = .ok (.goto 4, 3) := by decide +kernel
theorem dX6_frees_76 : decode cX6_frees 76 = .ok (.iconst 0, 1) := by decide +kernel
theorem dX6_frees_77 : decode cX6_frees 77 = .ok (.iastore, 1) := by decide +kernel
theorem dX6_frees_78 : decode cX6_frees 78 = .ok (.iinc 1 1, 3) := by decide +kernel
theorem dX6_frees_81 : decode cX6_frees 81 = .ok (.goto (-79), 3) := by decide +kernel
theorem dX6_frees_84 : decode cX6_frees 84 = .ok (.return_, 1) := by decide +kernel
theorem dX6_givesUp_0 : decode cX6_givesUp 0 = .ok (.aload_n 0, 1) := by decide +kernel
theorem dX6_givesUp_1 : decode cX6_givesUp 1 = .ok (.getfield 7, 3) := by decide +kernel
theorem dX6_givesUp_4 : decode cX6_givesUp 4 = .ok (.bipush 12, 2) := by decide +kernel
theorem dX6_givesUp_6 : decode cX6_givesUp 6 = .ok (.iload_n 1, 1) := by decide +kernel
theorem dX6_givesUp_7 : decode cX6_givesUp 7 = .ok (.iadd, 1) := by decide +kernel
theorem dX6_givesUp_8 : decode cX6_givesUp 8 = .ok (.iconst (-1), 1) := by decide +kernel
theorem dX6_givesUp_9 : decode cX6_givesUp 9 = .ok (.iastore, 1) := by decide +kernel
theorem dX6_givesUp_10 : decode cX6_givesUp 10 = .ok (.aload_n 0, 1) := by decide +kernel
theorem dX6_givesUp_11 : decode cX6_givesUp 11 = .ok (.invokevirtual 68, 3) := by decide +kernel
theorem dX6_givesUp_14 : decode cX6_givesUp 14 = .ok (.return_, 1) := by decide +kernel
theorem dX6_next_0 : decode cX6_next 0 = .ok (.bipush (-4), 2) := by decide +kernel
theorem dX6_next_2 : decode cX6_next 2 = .ok (.istore_n 3, 1) := by decide +kernel
theorem dX6_next_3 : decode cX6_next 3 = .ok (.iconst 0, 1) := by decide +kernel
theorem dX6_next_4 : decode cX6_next 4 = .ok (.istore 4, 2) := by decide +kernel
theorem dX6_next_6 : decode cX6_next 6 = .ok (.iload 4, 2) := by decide +kernel
theorem dX6_next_8 : decode cX6_next 8 = .ok (.aload_n 0, 1) := by decide +kernel
theorem dX6_next_9 : decode cX6_next 9 = .ok (.getfield 7, 3) := by decide +kernel
theorem dX6_next_12 : decode cX6_next 12 = .ok (.iconst 0, 1) := by decide +kernel
theorem dX6_next_13 : decode cX6_next 13 = .ok (.iaload, 1) := by decide +kernel
theorem dX6_next_14 : decode cX6_next 14 = .ok (.if_icmp .ge 157, 3) := by decide +kernel
theorem dX6_next_17 : decode cX6_next 17 = .ok (.iload_n 1, 1) := by decide +kernel
theorem dX6_next_18 : decode cX6_next 18 = .ok (.ifCond .lt 35, 3) := by decide +kernel
theorem dX6_next_21 : decode cX6_next 21 = .ok (.aload_n 0, 1) := by decide +kernel
theorem dX6_next_22 : decode cX6_next 22 = .ok (.getfield 7, 3) := by decide +kernel
theorem dX6_next_25 : decode cX6_next 25 = .ok (.bipush 12, 2) := by decide +kernel
theorem dX6_next_27 : decode cX6_next 27 = .ok (.iload_n 1, 1) := by decide +kernel
theorem dX6_next_28 : decode cX6_next 28 = .ok (.iadd, 1) := by decide +kernel
theorem dX6_next_29 : decode cX6_next 29 = .ok (.iaload, 1) := by decide +kernel
theorem dX6_next_30 : decode cX6_next 30 = .ok (.iload 4, 2) := by decide +kernel
theorem dX6_next_32 : decode cX6_next 32 = .ok (.if_icmp .eq 17, 3) := by decide +kernel
theorem dX6_next_35 : decode cX6_next 35 = .ok (.aload_n 0, 1) := by decide +kernel
theorem dX6_next_36 : decode cX6_next 36 = .ok (.getfield 7, 3) := by decide +kernel
theorem dX6_next_39 : decode cX6_next 39 = .ok (.bipush 12, 2) := by decide +kernel
theorem dX6_next_41 : decode cX6_next 41 = .ok (.iload_n 2, 1) := by decide +kernel
theorem dX6_next_42 : decode cX6_next 42 = .ok (.iadd, 1) := by decide +kernel
theorem dX6_next_43 : decode cX6_next 43 = .ok (.iaload, 1) := by decide +kernel
theorem dX6_next_44 : decode cX6_next 44 = .ok (.iload 4, 2) := by decide +kernel
theorem dX6_next_46 : decode cX6_next 46 = .ok (.if_icmp .ne 7, 3) := by decide +kernel
theorem dX6_next_49 : decode cX6_next 49 = .ok (.iconst 1, 1) := by decide +kernel
theorem dX6_next_50 : decode cX6_next 50 = .ok (.goto 4, 3) := by decide +kernel
theorem dX6_next_53 : decode cX6_next 53 = .ok (.iconst 0, 1) := by decide +kernel
theorem dX6_next_54 : decode cX6_next 54 = .ok (.istore 5, 2) := by decide +kernel
theorem dX6_next_56 : decode cX6_next 56 = .ok (.aload_n 0, 1) := by decide +kernel
theorem dX6_next_57 : decode cX6_next 57 = .ok (.getfield 7, 3) := by decide +kernel
theorem dX6_next_60 : decode cX6_next 60 = .ok (.iload 4, 2) := by decide +kernel
theorem dX6_next_62 : decode cX6_next 62 = .ok (.iconst 0, 1) := by decide +kernel
theorem dX6_next_63 : decode cX6_next 63 = .ok (.invokestatic 65, 3) := by decide +kernel
theorem dX6_next_66 : decode cX6_next 66 = .ok (.iaload, 1) := by decide +kernel
theorem dX6_next_67 : decode cX6_next 67 = .ok (.iconst 1, 1) := by decide +kernel
theorem dX6_next_68 : decode cX6_next 68 = .ok (.if_icmp .ne 54, 3) := by decide +kernel
theorem dX6_next_71 : decode cX6_next 71 = .ok (.aload_n 0, 1) := by decide +kernel
theorem dX6_next_72 : decode cX6_next 72 = .ok (.getfield 7, 3) := by decide +kernel
theorem dX6_next_75 : decode cX6_next 75 = .ok (.iload 4, 2) := by decide +kernel
theorem dX6_next_77 : decode cX6_next 77 = .ok (.iconst 2, 1) := by decide +kernel
theorem dX6_next_78 : decode cX6_next 78 = .ok (.invokestatic 65, 3) := by decide +kernel
theorem dX6_next_81 : decode cX6_next 81 = .ok (.iaload, 1) := by decide +kernel
theorem dX6_next_82 : decode cX6_next 82 = .ok (.iconst 1, 1) := by decide +kernel
theorem dX6_next_83 : decode cX6_next 83 = .ok (.if_icmp .ne 39, 3) := by decide +kernel
theorem dX6_next_86 : decode cX6_next 86 = .ok (.aload_n 0, 1) := by decide +kernel
theorem dX6_next_87 : decode cX6_next 87 = .ok (.iload 4, 2) := by decide +kernel
theorem dX6_next_89 : decode cX6_next 89 = .ok (.invokevirtual 55, 3) := by decide +kernel
theorem dX6_next_92 : decode cX6_next 92 = .ok (.ifCond .ne 30, 3) := by decide +kernel
theorem dX6_next_95 : decode cX6_next 95 = .ok (.aload_n 0, 1) := by decide +kernel
theorem dX6_next_96 : decode cX6_next 96 = .ok (.iload 4, 2) := by decide +kernel
theorem dX6_next_98 : decode cX6_next 98 = .ok (.invokevirtual 59, 3) := by decide +kernel
theorem dX6_next_101 : decode cX6_next 101 = .ok (.ifCond .ne 21, 3) := by decide +kernel
theorem dX6_next_104 : decode cX6_next 104 = .ok (.aload_n 0, 1) := by decide +kernel
theorem dX6_next_105 : decode cX6_next 105 = .ok (.iload 4, 2) := by decide +kernel
theorem dX6_next_107 : decode cX6_next 107 = .ok (.invokevirtual 62, 3) := by decide +kernel
theorem dX6_next_110 : decode cX6_next 110 = .ok (.ifCond .ne 12, 3) := by decide +kernel
theorem dX6_next_113 : decode cX6_next 113 = .ok (.iload 5, 2) := by decide +kernel
theorem dX6_next_115 : decode cX6_next 115 = .ok (.ifCond .ne 7, 3) := by decide +kernel
theorem dX6_next_118 : decode cX6_next 118 = .ok (.iconst 1, 1) := by decide +kernel
theorem dX6_next_119 : decode cX6_next 119 = .ok (.goto 4, 3) := by decide +kernel
theorem dX6_next_122 : decode cX6_next 122 = .ok (.iconst 0, 1) := by decide +kernel
theorem dX6_next_123 : decode cX6_next 123 = .ok (.istore 6, 2) := by decide +kernel
theorem dX6_next_125 : decode cX6_next 125 = .ok (.iload 6, 2) := by decide +kernel
theorem dX6_next_127 : decode cX6_next 127 = .ok (.ifCond .eq 36, 3) := by decide +kernel
theorem dX6_next_130 : decode cX6_next 130 = .ok (.iload_n 3, 1) := by decide +kernel
theorem dX6_next_131 : decode cX6_next 131 = .ok (.ifCond .lt 27, 3) := by decide +kernel
theorem dX6_next_134 : decode cX6_next 134 = .ok (.aload_n 0, 1) := by decide +kernel
theorem dX6_next_135 : decode cX6_next 135 = .ok (.getfield 7, 3) := by decide +kernel
theorem dX6_next_138 : decode cX6_next 138 = .ok (.iload 4, 2) := by decide +kernel
theorem dX6_next_140 : decode cX6_next 140 = .ok (.iconst 4, 1) := by decide +kernel
theorem dX6_next_141 : decode cX6_next 141 = .ok (.invokestatic 65, 3) := by decide +kernel
theorem dX6_next_144 : decode cX6_next 144 = .ok (.iaload, 1) := by decide +kernel
theorem dX6_next_145 : decode cX6_next 145 = .ok (.aload_n 0, 1) := by decide +kernel
theorem dX6_next_146 : decode cX6_next 146 = .ok (.getfield 7, 3) := by decide +kernel
theorem dX6_next_149 : decode cX6_next 149 = .ok (.iload_n 3, 1) := by decide +kernel
theorem dX6_next_150 : decode cX6_next 150 = .ok (.iconst 4, 1) := by decide +kernel
theorem dX6_next_151 : decode cX6_next 151 = .ok (.invokestatic 65, 3) := by decide +kernel
theorem dX6_next_154 : decode cX6_next 154 = .ok (.iaload, 1) := by decide +kernel
theorem dX6_next_155 : decode cX6_next 155 = .ok (.if_icmp .ge 8, 3) := by decide +kernel
theorem dX6_next_158 : decode cX6_next 158 = .ok (.iload 4, 2) := by decide +kernel
theorem dX6_next_160 : decode cX6_next 160 = .ok (.goto 4, 3) := by decide +kernel
theorem dX6_next_163 : decode cX6_next 163 = .ok (.iload_n 3, 1) := by decide +kernel
theorem dX6_next_164 : decode cX6_next 164 = .ok (.istore_n 3, 1) := by decide +kernel
theorem dX6_next_165 : decode cX6_next 165 = .ok (.iinc 4 1, 3) := by decide +kernel
theorem dX6_next_168 : decode cX6_next 168 = .ok (.goto (-162), 3) := by decide +kernel
theorem dX6_next_171 : decode cX6_next 171 = .ok (.iload_n 3, 1) := by decide +kernel
theorem dX6_next_172 : decode cX6_next 172 = .ok (.ireturn, 1) := by decide +kernel
theorem dX6_chairFor_0 : decode cX6_chairFor 0 = .ok (.iconst 0, 1) := by decide +kernel
theorem dX6_chairFor_1 : decode cX6_chairFor 1 = .ok (.istore_n 3, 1) := by decide +kernel
theorem dX6_chairFor_2 : decode cX6_chairFor 2 = .ok (.iload_n 3, 1) := by decide +kernel
theorem dX6_chairFor_3 : decode cX6_chairFor 3 = .ok (.aload_n 0, 1) := by decide +kernel
theorem dX6_chairFor_4 : decode cX6_chairFor 4 = .ok (.getfield 7, 3) := by decide +kernel
theorem dX6_chairFor_7 : decode cX6_chairFor 7 = .ok (.iconst 0, 1) := by decide +kernel
theorem dX6_chairFor_8 : decode cX6_chairFor 8 = .ok (.iaload, 1) := by decide +kernel
theorem dX6_chairFor_9 : decode cX6_chairFor 9 = .ok (.if_icmp .ge 24, 3) := by decide +kernel
theorem dX6_chairFor_12 : decode cX6_chairFor 12 = .ok (.aload_n 0, 1) := by decide +kernel
theorem dX6_chairFor_13 : decode cX6_chairFor 13 = .ok (.getfield 7, 3) := by decide +kernel
theorem dX6_chairFor_16 : decode cX6_chairFor 16 = .ok (.iload_n 3, 1) := by decide +kernel
theorem dX6_chairFor_17 : decode cX6_chairFor 17 = .ok (.iconst 0, 1) := by decide +kernel
theorem dX6_chairFor_18 : decode cX6_chairFor 18 = .ok (.invokestatic 65, 3) := by decide +kernel
theorem dX6_chairFor_21 : decode cX6_chairFor 21 = .ok (.iaload, 1) := by decide +kernel
theorem dX6_chairFor_22 : decode cX6_chairFor 22 = .ok (.ifCond .ne 5, 3) := by decide +kernel
theorem dX6_chairFor_25 : decode cX6_chairFor 25 = .ok (.iload_n 3, 1) := by decide +kernel
theorem dX6_chairFor_26 : decode cX6_chairFor 26 = .ok (.ireturn, 1) := by decide +kernel
theorem dX6_chairFor_27 : decode cX6_chairFor 27 = .ok (.iinc 3 1, 3) := by decide +kernel
theorem dX6_chairFor_30 : decode cX6_chairFor 30 = .ok (.goto (-28), 3) := by decide +kernel
theorem dX6_chairFor_33 : decode cX6_chairFor 33 = .ok (.aload_n 0, 1) := by decide +kernel
theorem dX6_chairFor_34 : decode cX6_chairFor 34 = .ok (.iload_n 1, 1) := by decide +kernel
theorem dX6_chairFor_35 : decode cX6_chairFor 35 = .ok (.iload_n 2, 1) := by decide +kernel
theorem dX6_chairFor_36 : decode cX6_chairFor 36 = .ok (.invokevirtual 71, 3) := by decide +kernel
theorem dX6_chairFor_39 : decode cX6_chairFor 39 = .ok (.istore_n 3, 1) := by decide +kernel
theorem dX6_chairFor_40 : decode cX6_chairFor 40 = .ok (.iconst 0, 1) := by decide +kernel
theorem dX6_chairFor_41 : decode cX6_chairFor 41 = .ok (.istore 4, 2) := by decide +kernel
theorem dX6_chairFor_43 : decode cX6_chairFor 43 = .ok (.iload 4, 2) := by decide +kernel
theorem dX6_chairFor_45 : decode cX6_chairFor 45 = .ok (.bipush 8, 2) := by decide +kernel
theorem dX6_chairFor_47 : decode cX6_chairFor 47 = .ok (.if_icmp .ge 58, 3) := by decide +kernel
theorem dX6_chairFor_50 : decode cX6_chairFor 50 = .ok (.iload_n 3, 1) := by decide +kernel
theorem dX6_chairFor_51 : decode cX6_chairFor 51 = .ok (.ifCond .lt 54, 3) := by decide +kernel
theorem dX6_chairFor_54 : decode cX6_chairFor 54 = .ok (.aload_n 0, 1) := by decide +kernel
theorem dX6_chairFor_55 : decode cX6_chairFor 55 = .ok (.getfield 7, 3) := by decide +kernel
theorem dX6_chairFor_58 : decode cX6_chairFor 58 = .ok (.bipush 12, 2) := by decide +kernel
theorem dX6_chairFor_60 : decode cX6_chairFor 60 = .ok (.iload 4, 2) := by decide +kernel
theorem dX6_chairFor_62 : decode cX6_chairFor 62 = .ok (.iadd, 1) := by decide +kernel
theorem dX6_chairFor_63 : decode cX6_chairFor 63 = .ok (.iaload, 1) := by decide +kernel
theorem dX6_chairFor_64 : decode cX6_chairFor 64 = .ok (.iload_n 3, 1) := by decide +kernel
theorem dX6_chairFor_65 : decode cX6_chairFor 65 = .ok (.if_icmp .ne 34, 3) := by decide +kernel
theorem dX6_chairFor_68 : decode cX6_chairFor 68 = .ok (.aload_n 0, 1) := by decide +kernel
theorem dX6_chairFor_69 : decode cX6_chairFor 69 = .ok (.getfield 7, 3) := by decide +kernel
theorem dX6_chairFor_72 : decode cX6_chairFor 72 = .ok (.bipush 12, 2) := by decide +kernel
theorem dX6_chairFor_74 : decode cX6_chairFor 74 = .ok (.iload 4, 2) := by decide +kernel
theorem dX6_chairFor_76 : decode cX6_chairFor 76 = .ok (.iadd, 1) := by decide +kernel
theorem dX6_chairFor_77 : decode cX6_chairFor 77 = .ok (.iconst (-1), 1) := by decide +kernel
theorem dX6_chairFor_78 : decode cX6_chairFor 78 = .ok (.iastore, 1) := by decide +kernel
theorem dX6_chairFor_79 : decode cX6_chairFor 79 = .ok (.aload_n 0, 1) := by decide +kernel
theorem dX6_chairFor_80 : decode cX6_chairFor 80 = .ok (.getfield 7, 3) := by decide +kernel
theorem dX6_chairFor_83 : decode cX6_chairFor 83 = .ok (.bipush 20, 2) := by decide +kernel
theorem dX6_chairFor_85 : decode cX6_chairFor 85 = .ok (.iload 4, 2) := by decide +kernel
theorem dX6_chairFor_87 : decode cX6_chairFor 87 = .ok (.iadd, 1) := by decide +kernel
theorem dX6_chairFor_88 : decode cX6_chairFor 88 = .ok (.aload_n 0, 1) := by decide +kernel
theorem dX6_chairFor_89 : decode cX6_chairFor 89 = .ok (.getfield 7, 3) := by decide +kernel
theorem dX6_chairFor_92 : decode cX6_chairFor 92 = .ok (.iload_n 3, 1) := by decide +kernel
theorem dX6_chairFor_93 : decode cX6_chairFor 93 = .ok (.iconst 1, 1) := by decide +kernel
theorem dX6_chairFor_94 : decode cX6_chairFor 94 = .ok (.invokestatic 65, 3) := by decide +kernel
theorem dX6_chairFor_97 : decode cX6_chairFor 97 = .ok (.iaload, 1) := by decide +kernel
theorem dX6_chairFor_98 : decode cX6_chairFor 98 = .ok (.iastore, 1) := by decide +kernel
theorem dX6_chairFor_99 : decode cX6_chairFor 99 = .ok (.iinc 4 1, 3) := by decide +kernel
theorem dX6_chairFor_102 : decode cX6_chairFor 102 = .ok (.goto (-59), 3) := by decide +kernel
theorem dX6_chairFor_105 : decode cX6_chairFor 105 = .ok (.aload_n 0, 1) := by decide +kernel
theorem dX6_chairFor_106 : decode cX6_chairFor 106 = .ok (.getfield 7, 3) := by decide +kernel
theorem dX6_chairFor_109 : decode cX6_chairFor 109 = .ok (.iconst 5, 1) := by decide +kernel
theorem dX6_chairFor_110 : decode cX6_chairFor 110 = .ok (.dup2, 1) := by decide +kernel
theorem dX6_chairFor_111 : decode cX6_chairFor 111 = .ok (.iaload, 1) := by decide +kernel
theorem dX6_chairFor_112 : decode cX6_chairFor 112 = .ok (.iload_n 3, 1) := by decide +kernel
theorem dX6_chairFor_113 : decode cX6_chairFor 113 = .ok (.ifCond .lt 7, 3) := by decide +kernel
theorem dX6_chairFor_116 : decode cX6_chairFor 116 = .ok (.iconst 1, 1) := by decide +kernel
theorem dX6_chairFor_117 : decode cX6_chairFor 117 = .ok (.goto 4, 3) := by decide +kernel
theorem dX6_chairFor_120 : decode cX6_chairFor 120 = .ok (.iconst 0, 1) := by decide +kernel
theorem dX6_chairFor_121 : decode cX6_chairFor 121 = .ok (.iadd, 1) := by decide +kernel
theorem dX6_chairFor_122 : decode cX6_chairFor 122 = .ok (.iastore, 1) := by decide +kernel
theorem dX6_chairFor_123 : decode cX6_chairFor 123 = .ok (.iload_n 3, 1) := by decide +kernel
theorem dX6_chairFor_124 : decode cX6_chairFor 124 = .ok (.ireturn, 1) := by decide +kernel
theorem dX6_gets_0 : decode cX6_gets 0 = .ok (.aload_n 0, 1) := by decide +kernel
theorem dX6_gets_1 : decode cX6_gets 1 = .ok (.iload_n 2, 1) := by decide +kernel
theorem dX6_gets_2 : decode cX6_gets 2 = .ok (.iload_n 3, 1) := by decide +kernel
theorem dX6_gets_3 : decode cX6_gets 3 = .ok (.invokevirtual 74, 3) := by decide +kernel
theorem dX6_gets_6 : decode cX6_gets 6 = .ok (.istore 4, 2) := by decide +kernel
theorem dX6_gets_8 : decode cX6_gets 8 = .ok (.iload 4, 2) := by decide +kernel
theorem dX6_gets_10 : decode cX6_gets 10 = .ok (.ifCond .ge 6, 3) := by decide +kernel
theorem dX6_gets_13 : decode cX6_gets 13 = .ok (.bipush (-4), 2) := by decide +kernel
theorem dX6_gets_15 : decode cX6_gets 15 = .ok (.ireturn, 1) := by decide +kernel
theorem dX6_gets_16 : decode cX6_gets 16 = .ok (.aload_n 0, 1) := by decide +kernel
theorem dX6_gets_17 : decode cX6_gets 17 = .ok (.getfield 7, 3) := by decide +kernel
theorem dX6_gets_20 : decode cX6_gets 20 = .ok (.bipush 12, 2) := by decide +kernel
theorem dX6_gets_22 : decode cX6_gets 22 = .ok (.iload_n 1, 1) := by decide +kernel
theorem dX6_gets_23 : decode cX6_gets 23 = .ok (.iadd, 1) := by decide +kernel
theorem dX6_gets_24 : decode cX6_gets 24 = .ok (.iload 4, 2) := by decide +kernel
theorem dX6_gets_26 : decode cX6_gets 26 = .ok (.iastore, 1) := by decide +kernel
theorem dX6_gets_27 : decode cX6_gets 27 = .ok (.aload_n 0, 1) := by decide +kernel
theorem dX6_gets_28 : decode cX6_gets 28 = .ok (.getfield 7, 3) := by decide +kernel
theorem dX6_gets_31 : decode cX6_gets 31 = .ok (.iload 4, 2) := by decide +kernel
theorem dX6_gets_33 : decode cX6_gets 33 = .ok (.iconst 0, 1) := by decide +kernel
theorem dX6_gets_34 : decode cX6_gets 34 = .ok (.invokestatic 65, 3) := by decide +kernel
theorem dX6_gets_37 : decode cX6_gets 37 = .ok (.iconst 1, 1) := by decide +kernel
theorem dX6_gets_38 : decode cX6_gets 38 = .ok (.iastore, 1) := by decide +kernel
theorem dX6_gets_39 : decode cX6_gets 39 = .ok (.aload_n 0, 1) := by decide +kernel
theorem dX6_gets_40 : decode cX6_gets 40 = .ok (.getfield 7, 3) := by decide +kernel
theorem dX6_gets_43 : decode cX6_gets 43 = .ok (.iload 4, 2) := by decide +kernel
theorem dX6_gets_45 : decode cX6_gets 45 = .ok (.iconst 1, 1) := by decide +kernel
theorem dX6_gets_46 : decode cX6_gets 46 = .ok (.invokestatic 65, 3) := by decide +kernel
theorem dX6_gets_49 : decode cX6_gets 49 = .ok (.iconst 0, 1) := by decide +kernel
theorem dX6_gets_50 : decode cX6_gets 50 = .ok (.iastore, 1) := by decide +kernel
theorem dX6_gets_51 : decode cX6_gets 51 = .ok (.aload_n 0, 1) := by decide +kernel
theorem dX6_gets_52 : decode cX6_gets 52 = .ok (.getfield 7, 3) := by decide +kernel
theorem dX6_gets_55 : decode cX6_gets 55 = .ok (.iload 4, 2) := by decide +kernel
theorem dX6_gets_57 : decode cX6_gets 57 = .ok (.iconst 2, 1) := by decide +kernel
theorem dX6_gets_58 : decode cX6_gets 58 = .ok (.invokestatic 65, 3) := by decide +kernel
theorem dX6_gets_61 : decode cX6_gets 61 = .ok (.iconst 0, 1) := by decide +kernel
theorem dX6_gets_62 : decode cX6_gets 62 = .ok (.iastore, 1) := by decide +kernel
theorem dX6_gets_63 : decode cX6_gets 63 = .ok (.aload_n 0, 1) := by decide +kernel
theorem dX6_gets_64 : decode cX6_gets 64 = .ok (.getfield 7, 3) := by decide +kernel
theorem dX6_gets_67 : decode cX6_gets 67 = .ok (.iload 4, 2) := by decide +kernel
theorem dX6_gets_69 : decode cX6_gets 69 = .ok (.iconst 3, 1) := by decide +kernel
theorem dX6_gets_70 : decode cX6_gets 70 = .ok (.invokestatic 65, 3) := by decide +kernel
theorem dX6_gets_73 : decode cX6_gets 73 = .ok (.iconst (-1), 1) := by decide +kernel
theorem dX6_gets_74 : decode cX6_gets 74 = .ok (.iastore, 1) := by decide +kernel
theorem dX6_gets_75 : decode cX6_gets 75 = .ok (.aload_n 0, 1) := by decide +kernel
theorem dX6_gets_76 : decode cX6_gets 76 = .ok (.getfield 7, 3) := by decide +kernel
theorem dX6_gets_79 : decode cX6_gets 79 = .ok (.iload 4, 2) := by decide +kernel
theorem dX6_gets_81 : decode cX6_gets 81 = .ok (.iconst 4, 1) := by decide +kernel
theorem dX6_gets_82 : decode cX6_gets 82 = .ok (.invokestatic 65, 3) := by decide +kernel
theorem dX6_gets_85 : decode cX6_gets 85 = .ok (.aload_n 0, 1) := by decide +kernel
theorem dX6_gets_86 : decode cX6_gets 86 = .ok (.getfield 7, 3) := by decide +kernel
theorem dX6_gets_89 : decode cX6_gets 89 = .ok (.bipush 7, 2) := by decide +kernel
theorem dX6_gets_91 : decode cX6_gets 91 = .ok (.iaload, 1) := by decide +kernel
theorem dX6_gets_92 : decode cX6_gets 92 = .ok (.iastore, 1) := by decide +kernel
theorem dX6_gets_93 : decode cX6_gets 93 = .ok (.iload 4, 2) := by decide +kernel
theorem dX6_gets_95 : decode cX6_gets 95 = .ok (.ireturn, 1) := by decide +kernel
theorem dX6_isKnown_0 : decode cX6_isKnown 0 = .ok (.aload_n 0, 1) := by decide +kernel
theorem dX6_isKnown_1 : decode cX6_isKnown 1 = .ok (.getfield 7, 3) := by decide +kernel
theorem dX6_isKnown_4 : decode cX6_isKnown 4 = .ok (.iload_n 1, 1) := by decide +kernel
theorem dX6_isKnown_5 : decode cX6_isKnown 5 = .ok (.iconst 1, 1) := by decide +kernel
theorem dX6_isKnown_6 : decode cX6_isKnown 6 = .ok (.invokestatic 65, 3) := by decide +kernel
theorem dX6_isKnown_9 : decode cX6_isKnown 9 = .ok (.iload_n 2, 1) := by decide +kernel
theorem dX6_isKnown_10 : decode cX6_isKnown 10 = .ok (.iastore, 1) := by decide +kernel
theorem dX6_isKnown_11 : decode cX6_isKnown 11 = .ok (.aload_n 0, 1) := by decide +kernel
theorem dX6_isKnown_12 : decode cX6_isKnown 12 = .ok (.getfield 7, 3) := by decide +kernel
theorem dX6_isKnown_15 : decode cX6_isKnown 15 = .ok (.iload_n 1, 1) := by decide +kernel
theorem dX6_isKnown_16 : decode cX6_isKnown 16 = .ok (.iconst 2, 1) := by decide +kernel
theorem dX6_isKnown_17 : decode cX6_isKnown 17 = .ok (.invokestatic 65, 3) := by decide +kernel
theorem dX6_isKnown_20 : decode cX6_isKnown 20 = .ok (.iconst 1, 1) := by decide +kernel
theorem dX6_isKnown_21 : decode cX6_isKnown 21 = .ok (.iastore, 1) := by decide +kernel
theorem dX6_isKnown_22 : decode cX6_isKnown 22 = .ok (.aload_n 0, 1) := by decide +kernel
theorem dX6_isKnown_23 : decode cX6_isKnown 23 = .ok (.getfield 7, 3) := by decide +kernel
theorem dX6_isKnown_26 : decode cX6_isKnown 26 = .ok (.iload_n 1, 1) := by decide +kernel
theorem dX6_isKnown_27 : decode cX6_isKnown 27 = .ok (.iconst 3, 1) := by decide +kernel
theorem dX6_isKnown_28 : decode cX6_isKnown 28 = .ok (.invokestatic 65, 3) := by decide +kernel
theorem dX6_isKnown_31 : decode cX6_isKnown 31 = .ok (.iconst (-1), 1) := by decide +kernel
theorem dX6_isKnown_32 : decode cX6_isKnown 32 = .ok (.iastore, 1) := by decide +kernel
theorem dX6_isKnown_33 : decode cX6_isKnown 33 = .ok (.return_, 1) := by decide +kernel
theorem dX6_sits_0 : decode cX6_sits 0 = .ok (.aload_n 0, 1) := by decide +kernel
theorem dX6_sits_1 : decode cX6_sits 1 = .ok (.getfield 7, 3) := by decide +kernel
theorem dX6_sits_4 : decode cX6_sits 4 = .ok (.bipush 12, 2) := by decide +kernel
theorem dX6_sits_6 : decode cX6_sits 6 = .ok (.iload_n 1, 1) := by decide +kernel
theorem dX6_sits_7 : decode cX6_sits 7 = .ok (.iadd, 1) := by decide +kernel
theorem dX6_sits_8 : decode cX6_sits 8 = .ok (.iaload, 1) := by decide +kernel
theorem dX6_sits_9 : decode cX6_sits 9 = .ok (.ifCond .lt 5, 3) := by decide +kernel
theorem dX6_sits_12 : decode cX6_sits 12 = .ok (.iconst 1, 1) := by decide +kernel
theorem dX6_sits_13 : decode cX6_sits 13 = .ok (.ireturn, 1) := by decide +kernel
theorem dX6_sits_14 : decode cX6_sits 14 = .ok (.aload_n 0, 1) := by decide +kernel
theorem dX6_sits_15 : decode cX6_sits 15 = .ok (.iload_n 1, 1) := by decide +kernel
theorem dX6_sits_16 : decode cX6_sits 16 = .ok (.iload_n 2, 1) := by decide +kernel
theorem dX6_sits_17 : decode cX6_sits 17 = .ok (.iload_n 3, 1) := by decide +kernel
theorem dX6_sits_18 : decode cX6_sits 18 = .ok (.invokevirtual 77, 3) := by decide +kernel
theorem dX6_sits_21 : decode cX6_sits 21 = .ok (.istore 4, 2) := by decide +kernel
theorem dX6_sits_23 : decode cX6_sits 23 = .ok (.iload 4, 2) := by decide +kernel
theorem dX6_sits_25 : decode cX6_sits 25 = .ok (.ifCond .ge 5, 3) := by decide +kernel
theorem dX6_sits_28 : decode cX6_sits 28 = .ok (.iconst 0, 1) := by decide +kernel
theorem dX6_sits_29 : decode cX6_sits 29 = .ok (.ireturn, 1) := by decide +kernel
theorem dX6_sits_30 : decode cX6_sits 30 = .ok (.aload_n 0, 1) := by decide +kernel
theorem dX6_sits_31 : decode cX6_sits 31 = .ok (.getfield 7, 3) := by decide +kernel
theorem dX6_sits_34 : decode cX6_sits 34 = .ok (.bipush 10, 2) := by decide +kernel
theorem dX6_sits_36 : decode cX6_sits 36 = .ok (.iaload, 1) := by decide +kernel
theorem dX6_sits_37 : decode cX6_sits 37 = .ok (.istore 5, 2) := by decide +kernel
theorem dX6_sits_39 : decode cX6_sits 39 = .ok (.aload_n 0, 1) := by decide +kernel
theorem dX6_sits_40 : decode cX6_sits 40 = .ok (.getfield 7, 3) := by decide +kernel
theorem dX6_sits_43 : decode cX6_sits 43 = .ok (.bipush 6, 2) := by decide +kernel
theorem dX6_sits_45 : decode cX6_sits 45 = .ok (.dup2, 1) := by decide +kernel
theorem dX6_sits_46 : decode cX6_sits 46 = .ok (.iaload, 1) := by decide +kernel
theorem dX6_sits_47 : decode cX6_sits 47 = .ok (.iconst 1, 1) := by decide +kernel
theorem dX6_sits_48 : decode cX6_sits 48 = .ok (.iadd, 1) := by decide +kernel
theorem dX6_sits_49 : decode cX6_sits 49 = .ok (.iastore, 1) := by decide +kernel
theorem dX6_sits_50 : decode cX6_sits 50 = .ok (.aload_n 0, 1) := by decide +kernel
theorem dX6_sits_51 : decode cX6_sits 51 = .ok (.getfield 7, 3) := by decide +kernel
theorem dX6_sits_54 : decode cX6_sits 54 = .ok (.iload 4, 2) := by decide +kernel
theorem dX6_sits_56 : decode cX6_sits 56 = .ok (.iconst 1, 1) := by decide +kernel
theorem dX6_sits_57 : decode cX6_sits 57 = .ok (.invokestatic 65, 3) := by decide +kernel
theorem dX6_sits_60 : decode cX6_sits 60 = .ok (.aload_n 0, 1) := by decide +kernel
theorem dX6_sits_61 : decode cX6_sits 61 = .ok (.getfield 7, 3) := by decide +kernel
theorem dX6_sits_64 : decode cX6_sits 64 = .ok (.bipush 20, 2) := by decide +kernel
theorem dX6_sits_66 : decode cX6_sits 66 = .ok (.iload_n 1, 1) := by decide +kernel
theorem dX6_sits_67 : decode cX6_sits 67 = .ok (.iadd, 1) := by decide +kernel
theorem dX6_sits_68 : decode cX6_sits 68 = .ok (.iaload, 1) := by decide +kernel
theorem dX6_sits_69 : decode cX6_sits 69 = .ok (.iastore, 1) := by decide +kernel
theorem dX6_sits_70 : decode cX6_sits 70 = .ok (.aload_n 0, 1) := by decide +kernel
theorem dX6_sits_71 : decode cX6_sits 71 = .ok (.getfield 7, 3) := by decide +kernel
theorem dX6_sits_74 : decode cX6_sits 74 = .ok (.iload 4, 2) := by decide +kernel
theorem dX6_sits_76 : decode cX6_sits 76 = .ok (.iconst 2, 1) := by decide +kernel
theorem dX6_sits_77 : decode cX6_sits 77 = .ok (.invokestatic 65, 3) := by decide +kernel
theorem dX6_sits_80 : decode cX6_sits 80 = .ok (.iload 5, 2) := by decide +kernel
theorem dX6_sits_82 : decode cX6_sits 82 = .ok (.ifCond .ne 7, 3) := by decide +kernel
theorem dX6_sits_85 : decode cX6_sits 85 = .ok (.iconst 1, 1) := by decide +kernel
theorem dX6_sits_86 : decode cX6_sits 86 = .ok (.goto 4, 3) := by decide +kernel
theorem dX6_sits_89 : decode cX6_sits 89 = .ok (.iconst 0, 1) := by decide +kernel
theorem dX6_sits_90 : decode cX6_sits 90 = .ok (.iastore, 1) := by decide +kernel
theorem dX6_sits_91 : decode cX6_sits 91 = .ok (.aload_n 0, 1) := by decide +kernel
theorem dX6_sits_92 : decode cX6_sits 92 = .ok (.getfield 7, 3) := by decide +kernel
theorem dX6_sits_95 : decode cX6_sits 95 = .ok (.iload 4, 2) := by decide +kernel
theorem dX6_sits_97 : decode cX6_sits 97 = .ok (.iconst 3, 1) := by decide +kernel
theorem dX6_sits_98 : decode cX6_sits 98 = .ok (.invokestatic 65, 3) := by decide +kernel
theorem dX6_sits_101 : decode cX6_sits 101 = .ok (.iload 5, 2) := by decide +kernel
theorem dX6_sits_103 : decode cX6_sits 103 = .ok (.ifCond .ne 7, 3) := by decide +kernel
theorem dX6_sits_106 : decode cX6_sits 106 = .ok (.iconst (-1), 1) := by decide +kernel
theorem dX6_sits_107 : decode cX6_sits 107 = .ok (.goto 12, 3) := by decide +kernel
theorem dX6_sits_110 : decode cX6_sits 110 = .ok (.aload_n 0, 1) := by decide +kernel
theorem dX6_sits_111 : decode cX6_sits 111 = .ok (.getfield 7, 3) := by decide +kernel
theorem dX6_sits_114 : decode cX6_sits 114 = .ok (.iconst 1, 1) := by decide +kernel
theorem dX6_sits_115 : decode cX6_sits 115 = .ok (.iaload, 1) := by decide +kernel
theorem dX6_sits_116 : decode cX6_sits 116 = .ok (.iload 5, 2) := by decide +kernel
theorem dX6_sits_118 : decode cX6_sits 118 = .ok (.iadd, 1) := by decide +kernel
theorem dX6_sits_119 : decode cX6_sits 119 = .ok (.iastore, 1) := by decide +kernel
theorem dX6_sits_120 : decode cX6_sits 120 = .ok (.iconst 1, 1) := by decide +kernel
theorem dX6_sits_121 : decode cX6_sits 121 = .ok (.ireturn, 1) := by decide +kernel
theorem dX6_begin_0 : decode cX6_begin 0 = .ok (.iload_n 1, 1) := by decide +kernel
theorem dX6_begin_1 : decode cX6_begin 1 = .ok (.iconst 3, 1) := by decide +kernel
theorem dX6_begin_2 : decode cX6_begin 2 = .ok (.bipush 7, 2) := by decide +kernel
theorem dX6_begin_4 : decode cX6_begin 4 = .ok (.invokestatic 43, 3) := by decide +kernel
theorem dX6_begin_7 : decode cX6_begin 7 = .ok (.ifCond .ne 5, 3) := by decide +kernel
theorem dX6_begin_10 : decode cX6_begin 10 = .ok (.iconst (-1), 1) := by decide +kernel
theorem dX6_begin_11 : decode cX6_begin 11 = .ok (.ireturn, 1) := by decide +kernel
theorem dX6_begin_12 : decode cX6_begin 12 = .ok (.aload_n 0, 1) := by decide +kernel
theorem dX6_begin_13 : decode cX6_begin 13 = .ok (.aload_n 0, 1) := by decide +kernel
theorem dX6_begin_14 : decode cX6_begin 14 = .ok (.getfield 7, 3) := by decide +kernel
theorem dX6_begin_17 : decode cX6_begin 17 = .ok (.invokevirtual 81, 3) := by decide +kernel
theorem dX6_begin_20 : decode cX6_begin 20 = .ok (.aload_n 0, 1) := by decide +kernel
theorem dX6_begin_21 : decode cX6_begin 21 = .ok (.getfield 7, 3) := by decide +kernel
theorem dX6_begin_24 : decode cX6_begin 24 = .ok (.iconst 0, 1) := by decide +kernel
theorem dX6_begin_25 : decode cX6_begin 25 = .ok (.iaload, 1) := by decide +kernel
theorem dX6_begin_26 : decode cX6_begin 26 = .ok (.istore_n 2, 1) := by decide +kernel
theorem dX6_begin_27 : decode cX6_begin 27 = .ok (.aload_n 0, 1) := by decide +kernel
theorem dX6_begin_28 : decode cX6_begin 28 = .ok (.iload_n 1, 1) := by decide +kernel
theorem dX6_begin_29 : decode cX6_begin 29 = .ok (.invokevirtual 31, 3) := by decide +kernel
theorem dX6_begin_32 : decode cX6_begin 32 = .ok (.iload_n 2, 1) := by decide +kernel
theorem dX6_begin_33 : decode cX6_begin 33 = .ok (.ireturn, 1) := by decide +kernel
theorem dX6_put_0 : decode cX6_put 0 = .ok (.iload_n 1, 1) := by decide +kernel
theorem dX6_put_1 : decode cX6_put 1 = .ok (.invokestatic 85, 3) := by decide +kernel
theorem dX6_put_4 : decode cX6_put 4 = .ok (.ifCond .eq 14, 3) := by decide +kernel
theorem dX6_put_7 : decode cX6_put 7 = .ok (.iload_n 2, 1) := by decide +kernel
theorem dX6_put_8 : decode cX6_put 8 = .ok (.iconst 0, 1) := by decide +kernel
theorem dX6_put_9 : decode cX6_put 9 = .ok (.sipush 9999, 3) := by decide +kernel
theorem dX6_put_12 : decode cX6_put 12 = .ok (.invokestatic 43, 3) := by decide +kernel
theorem dX6_put_15 : decode cX6_put 15 = .ok (.ifCond .ne 5, 3) := by decide +kernel
theorem dX6_put_18 : decode cX6_put 18 = .ok (.iconst (-1), 1) := by decide +kernel
theorem dX6_put_19 : decode cX6_put 19 = .ok (.ireturn, 1) := by decide +kernel
theorem dX6_put_20 : decode cX6_put 20 = .ok (.aload_n 0, 1) := by decide +kernel
theorem dX6_put_21 : decode cX6_put 21 = .ok (.getfield 7, 3) := by decide +kernel
theorem dX6_put_24 : decode cX6_put 24 = .ok (.aload_n 0, 1) := by decide +kernel
theorem dX6_put_25 : decode cX6_put 25 = .ok (.getfield 19, 3) := by decide +kernel
theorem dX6_put_28 : decode cX6_put 28 = .ok (.invokestatic 88, 3) := by decide +kernel
theorem dX6_put_31 : decode cX6_put 31 = .ok (.aload_n 0, 1) := by decide +kernel
theorem dX6_put_32 : decode cX6_put 32 = .ok (.getfield 7, 3) := by decide +kernel
theorem dX6_put_35 : decode cX6_put 35 = .ok (.bipush 7, 2) := by decide +kernel
theorem dX6_put_37 : decode cX6_put 37 = .ok (.dup2, 1) := by decide +kernel
theorem dX6_put_38 : decode cX6_put 38 = .ok (.iaload, 1) := by decide +kernel
theorem dX6_put_39 : decode cX6_put 39 = .ok (.iconst 1, 1) := by decide +kernel
theorem dX6_put_40 : decode cX6_put 40 = .ok (.iadd, 1) := by decide +kernel
theorem dX6_put_41 : decode cX6_put 41 = .ok (.iastore, 1) := by decide +kernel
theorem dX6_put_42 : decode cX6_put 42 = .ok (.aload_n 0, 1) := by decide +kernel
theorem dX6_put_43 : decode cX6_put 43 = .ok (.iload_n 1, 1) := by decide +kernel
theorem dX6_put_44 : decode cX6_put 44 = .ok (.invokevirtual 92, 3) := by decide +kernel
theorem dX6_put_47 : decode cX6_put 47 = .ok (.aload_n 0, 1) := by decide +kernel
theorem dX6_put_48 : decode cX6_put 48 = .ok (.iload_n 1, 1) := by decide +kernel
theorem dX6_put_49 : decode cX6_put 49 = .ok (.iconst (-1), 1) := by decide +kernel
theorem dX6_put_50 : decode cX6_put 50 = .ok (.iconst (-1), 1) := by decide +kernel
theorem dX6_put_51 : decode cX6_put 51 = .ok (.invokevirtual 77, 3) := by decide +kernel
theorem dX6_put_54 : decode cX6_put 54 = .ok (.istore_n 3, 1) := by decide +kernel
theorem dX6_put_55 : decode cX6_put 55 = .ok (.iload_n 3, 1) := by decide +kernel
theorem dX6_put_56 : decode cX6_put 56 = .ok (.ifCond .ge 17, 3) := by decide +kernel
theorem dX6_put_59 : decode cX6_put 59 = .ok (.aload_n 0, 1) := by decide +kernel
theorem dX6_put_60 : decode cX6_put 60 = .ok (.getfield 19, 3) := by decide +kernel
theorem dX6_put_63 : decode cX6_put 63 = .ok (.aload_n 0, 1) := by decide +kernel
theorem dX6_put_64 : decode cX6_put 64 = .ok (.getfield 7, 3) := by decide +kernel
theorem dX6_put_67 : decode cX6_put 67 = .ok (.invokestatic 88, 3) := by decide +kernel
theorem dX6_put_70 : decode cX6_put 70 = .ok (.bipush (-2), 2) := by decide +kernel
theorem dX6_put_72 : decode cX6_put 72 = .ok (.ireturn, 1) := by decide +kernel
theorem dX6_put_73 : decode cX6_put 73 = .ok (.aload_n 0, 1) := by decide +kernel
theorem dX6_put_74 : decode cX6_put 74 = .ok (.aload_n 0, 1) := by decide +kernel
theorem dX6_put_75 : decode cX6_put 75 = .ok (.getfield 19, 3) := by decide +kernel
theorem dX6_put_78 : decode cX6_put 78 = .ok (.invokevirtual 81, 3) := by decide +kernel
theorem dX6_put_81 : decode cX6_put 81 = .ok (.aload_n 0, 1) := by decide +kernel
theorem dX6_put_82 : decode cX6_put 82 = .ok (.iload_n 3, 1) := by decide +kernel
theorem dX6_put_83 : decode cX6_put 83 = .ok (.iload_n 2, 1) := by decide +kernel
theorem dX6_put_84 : decode cX6_put 84 = .ok (.invokevirtual 95, 3) := by decide +kernel
theorem dX6_put_87 : decode cX6_put 87 = .ok (.iload_n 3, 1) := by decide +kernel
theorem dX6_put_88 : decode cX6_put 88 = .ok (.ireturn, 1) := by decide +kernel
theorem dX6_copy_0 : decode cX6_copy 0 = .ok (.iload_n 1, 1) := by decide +kernel
theorem dX6_copy_1 : decode cX6_copy 1 = .ok (.invokestatic 85, 3) := by decide +kernel
theorem dX6_copy_4 : decode cX6_copy 4 = .ok (.ifCond .eq 15, 3) := by decide +kernel
theorem dX6_copy_7 : decode cX6_copy 7 = .ok (.iload_n 2, 1) := by decide +kernel
theorem dX6_copy_8 : decode cX6_copy 8 = .ok (.invokestatic 85, 3) := by decide +kernel
theorem dX6_copy_11 : decode cX6_copy 11 = .ok (.ifCond .eq 8, 3) := by decide +kernel
theorem dX6_copy_14 : decode cX6_copy 14 = .ok (.iload_n 1, 1) := by decide +kernel
theorem dX6_copy_15 : decode cX6_copy 15 = .ok (.iload_n 2, 1) := by decide +kernel
theorem dX6_copy_16 : decode cX6_copy 16 = .ok (.if_icmp .ne 5, 3) := by decide +kernel
theorem dX6_copy_19 : decode cX6_copy 19 = .ok (.iconst (-1), 1) := by decide +kernel
theorem dX6_copy_20 : decode cX6_copy 20 = .ok (.ireturn, 1) := by decide +kernel
theorem dX6_copy_21 : decode cX6_copy 21 = .ok (.aload_n 0, 1) := by decide +kernel
theorem dX6_copy_22 : decode cX6_copy 22 = .ok (.getfield 7, 3) := by decide +kernel
theorem dX6_copy_25 : decode cX6_copy 25 = .ok (.aload_n 0, 1) := by decide +kernel
theorem dX6_copy_26 : decode cX6_copy 26 = .ok (.getfield 19, 3) := by decide +kernel
theorem dX6_copy_29 : decode cX6_copy 29 = .ok (.invokestatic 88, 3) := by decide +kernel
theorem dX6_copy_32 : decode cX6_copy 32 = .ok (.aload_n 0, 1) := by decide +kernel
theorem dX6_copy_33 : decode cX6_copy 33 = .ok (.getfield 7, 3) := by decide +kernel
theorem dX6_copy_36 : decode cX6_copy 36 = .ok (.bipush 7, 2) := by decide +kernel
theorem dX6_copy_38 : decode cX6_copy 38 = .ok (.dup2, 1) := by decide +kernel
theorem dX6_copy_39 : decode cX6_copy 39 = .ok (.iaload, 1) := by decide +kernel
theorem dX6_copy_40 : decode cX6_copy 40 = .ok (.iconst 1, 1) := by decide +kernel
theorem dX6_copy_41 : decode cX6_copy 41 = .ok (.iadd, 1) := by decide +kernel
theorem dX6_copy_42 : decode cX6_copy 42 = .ok (.iastore, 1) := by decide +kernel
theorem dX6_copy_43 : decode cX6_copy 43 = .ok (.aload_n 0, 1) := by decide +kernel
theorem dX6_copy_44 : decode cX6_copy 44 = .ok (.iload_n 2, 1) := by decide +kernel
theorem dX6_copy_45 : decode cX6_copy 45 = .ok (.iconst (-1), 1) := by decide +kernel
theorem dX6_copy_46 : decode cX6_copy 46 = .ok (.iconst (-1), 1) := by decide +kernel
theorem dX6_copy_47 : decode cX6_copy 47 = .ok (.invokevirtual 99, 3) := by decide +kernel
theorem dX6_copy_50 : decode cX6_copy 50 = .ok (.ifCond .ne 17, 3) := by decide +kernel
theorem dX6_copy_53 : decode cX6_copy 53 = .ok (.aload_n 0, 1) := by decide +kernel
theorem dX6_copy_54 : decode cX6_copy 54 = .ok (.getfield 19, 3) := by decide +kernel
theorem dX6_copy_57 : decode cX6_copy 57 = .ok (.aload_n 0, 1) := by decide +kernel
theorem dX6_copy_58 : decode cX6_copy 58 = .ok (.getfield 7, 3) := by decide +kernel
theorem dX6_copy_61 : decode cX6_copy 61 = .ok (.invokestatic 88, 3) := by decide +kernel
theorem dX6_copy_64 : decode cX6_copy 64 = .ok (.bipush (-2), 2) := by decide +kernel
theorem dX6_copy_66 : decode cX6_copy 66 = .ok (.ireturn, 1) := by decide +kernel
theorem dX6_copy_67 : decode cX6_copy 67 = .ok (.aload_n 0, 1) := by decide +kernel
theorem dX6_copy_68 : decode cX6_copy 68 = .ok (.aload_n 0, 1) := by decide +kernel
theorem dX6_copy_69 : decode cX6_copy 69 = .ok (.getfield 19, 3) := by decide +kernel
theorem dX6_copy_72 : decode cX6_copy 72 = .ok (.invokevirtual 81, 3) := by decide +kernel
theorem dX6_copy_75 : decode cX6_copy 75 = .ok (.aload_n 0, 1) := by decide +kernel
theorem dX6_copy_76 : decode cX6_copy 76 = .ok (.getfield 7, 3) := by decide +kernel
theorem dX6_copy_79 : decode cX6_copy 79 = .ok (.bipush 12, 2) := by decide +kernel
theorem dX6_copy_81 : decode cX6_copy 81 = .ok (.iload_n 2, 1) := by decide +kernel
theorem dX6_copy_82 : decode cX6_copy 82 = .ok (.iadd, 1) := by decide +kernel
theorem dX6_copy_83 : decode cX6_copy 83 = .ok (.iaload, 1) := by decide +kernel
theorem dX6_copy_84 : decode cX6_copy 84 = .ok (.istore_n 3, 1) := by decide +kernel
theorem dX6_copy_85 : decode cX6_copy 85 = .ok (.aload_n 0, 1) := by decide +kernel
theorem dX6_copy_86 : decode cX6_copy 86 = .ok (.iload_n 1, 1) := by decide +kernel
theorem dX6_copy_87 : decode cX6_copy 87 = .ok (.invokevirtual 92, 3) := by decide +kernel
theorem dX6_copy_90 : decode cX6_copy 90 = .ok (.aload_n 0, 1) := by decide +kernel
theorem dX6_copy_91 : decode cX6_copy 91 = .ok (.getfield 7, 3) := by decide +kernel
theorem dX6_copy_94 : decode cX6_copy 94 = .ok (.bipush 12, 2) := by decide +kernel
theorem dX6_copy_96 : decode cX6_copy 96 = .ok (.iload_n 1, 1) := by decide +kernel
theorem dX6_copy_97 : decode cX6_copy 97 = .ok (.iadd, 1) := by decide +kernel
theorem dX6_copy_98 : decode cX6_copy 98 = .ok (.iload_n 3, 1) := by decide +kernel
theorem dX6_copy_99 : decode cX6_copy 99 = .ok (.iastore, 1) := by decide +kernel
theorem dX6_copy_100 : decode cX6_copy 100 = .ok (.aload_n 0, 1) := by decide +kernel
theorem dX6_copy_101 : decode cX6_copy 101 = .ok (.getfield 7, 3) := by decide +kernel
theorem dX6_copy_104 : decode cX6_copy 104 = .ok (.iload_n 3, 1) := by decide +kernel
theorem dX6_copy_105 : decode cX6_copy 105 = .ok (.iconst 4, 1) := by decide +kernel
theorem dX6_copy_106 : decode cX6_copy 106 = .ok (.invokestatic 65, 3) := by decide +kernel
theorem dX6_copy_109 : decode cX6_copy 109 = .ok (.aload_n 0, 1) := by decide +kernel
theorem dX6_copy_110 : decode cX6_copy 110 = .ok (.getfield 7, 3) := by decide +kernel
theorem dX6_copy_113 : decode cX6_copy 113 = .ok (.bipush 7, 2) := by decide +kernel
theorem dX6_copy_115 : decode cX6_copy 115 = .ok (.iaload, 1) := by decide +kernel
theorem dX6_copy_116 : decode cX6_copy 116 = .ok (.iastore, 1) := by decide +kernel
theorem dX6_copy_117 : decode cX6_copy 117 = .ok (.iload_n 3, 1) := by decide +kernel
theorem dX6_copy_118 : decode cX6_copy 118 = .ok (.ireturn, 1) := by decide +kernel
theorem dX6_gives_0 : decode cX6_gives 0 = .ok (.aload_n 0, 1) := by decide +kernel
theorem dX6_gives_1 : decode cX6_gives 1 = .ok (.getfield 7, 3) := by decide +kernel
theorem dX6_gives_4 : decode cX6_gives 4 = .ok (.bipush 7, 2) := by decide +kernel
theorem dX6_gives_6 : decode cX6_gives 6 = .ok (.dup2, 1) := by decide +kernel
theorem dX6_gives_7 : decode cX6_gives 7 = .ok (.iaload, 1) := by decide +kernel
theorem dX6_gives_8 : decode cX6_gives 8 = .ok (.iconst 1, 1) := by decide +kernel
theorem dX6_gives_9 : decode cX6_gives 9 = .ok (.iadd, 1) := by decide +kernel
theorem dX6_gives_10 : decode cX6_gives 10 = .ok (.iastore, 1) := by decide +kernel
theorem dX6_gives_11 : decode cX6_gives 11 = .ok (.iload_n 1, 1) := by decide +kernel
theorem dX6_gives_12 : decode cX6_gives 12 = .ok (.iload_n 2, 1) := by decide +kernel
theorem dX6_gives_13 : decode cX6_gives 13 = .ok (.if_icmp .eq 13, 3) := by decide +kernel
theorem dX6_gives_16 : decode cX6_gives 16 = .ok (.iload_n 1, 1) := by decide +kernel
theorem dX6_gives_17 : decode cX6_gives 17 = .ok (.iload_n 3, 1) := by decide +kernel
theorem dX6_gives_18 : decode cX6_gives 18 = .ok (.if_icmp .eq 8, 3) := by decide +kernel
theorem dX6_gives_21 : decode cX6_gives 21 = .ok (.aload_n 0, 1) := by decide +kernel
theorem dX6_gives_22 : decode cX6_gives 22 = .ok (.iload_n 1, 1) := by decide +kernel
theorem dX6_gives_23 : decode cX6_gives 23 = .ok (.invokevirtual 92, 3) := by decide +kernel
theorem dX6_gives_26 : decode cX6_gives 26 = .ok (.aload_n 0, 1) := by decide +kernel
theorem dX6_gives_27 : decode cX6_gives 27 = .ok (.iload_n 2, 1) := by decide +kernel
theorem dX6_gives_28 : decode cX6_gives 28 = .ok (.iload_n 2, 1) := by decide +kernel
theorem dX6_gives_29 : decode cX6_gives 29 = .ok (.iload_n 3, 1) := by decide +kernel
theorem dX6_gives_30 : decode cX6_gives 30 = .ok (.invokevirtual 99, 3) := by decide +kernel
theorem dX6_gives_33 : decode cX6_gives 33 = .ok (.ifCond .eq 13, 3) := by decide +kernel
theorem dX6_gives_36 : decode cX6_gives 36 = .ok (.aload_n 0, 1) := by decide +kernel
theorem dX6_gives_37 : decode cX6_gives 37 = .ok (.iload_n 3, 1) := by decide +kernel
theorem dX6_gives_38 : decode cX6_gives 38 = .ok (.iload_n 2, 1) := by decide +kernel
theorem dX6_gives_39 : decode cX6_gives 39 = .ok (.iload_n 3, 1) := by decide +kernel
theorem dX6_gives_40 : decode cX6_gives 40 = .ok (.invokevirtual 99, 3) := by decide +kernel
theorem dX6_gives_43 : decode cX6_gives 43 = .ok (.ifCond .ne 6, 3) := by decide +kernel
theorem dX6_gives_46 : decode cX6_gives 46 = .ok (.bipush (-4), 2) := by decide +kernel
theorem dX6_gives_48 : decode cX6_gives 48 = .ok (.ireturn, 1) := by decide +kernel
theorem dX6_gives_49 : decode cX6_gives 49 = .ok (.aload_n 0, 1) := by decide +kernel
theorem dX6_gives_50 : decode cX6_gives 50 = .ok (.getfield 7, 3) := by decide +kernel
theorem dX6_gives_53 : decode cX6_gives 53 = .ok (.iconst 3, 1) := by decide +kernel
theorem dX6_gives_54 : decode cX6_gives 54 = .ok (.iaload, 1) := by decide +kernel
theorem dX6_gives_55 : decode cX6_gives 55 = .ok (.istore 4, 2) := by decide +kernel
theorem dX6_gives_57 : decode cX6_gives 57 = .ok (.iload 4, 2) := by decide +kernel
theorem dX6_gives_59 : decode cX6_gives 59 = .ok (.bipush 6, 2) := by decide +kernel
theorem dX6_gives_61 : decode cX6_gives 61 = .ok (.if_icmp .ge 43, 3) := by decide +kernel
theorem dX6_gives_64 : decode cX6_gives 64 = .ok (.aload_n 0, 1) := by decide +kernel
theorem dX6_gives_65 : decode cX6_gives 65 = .ok (.getfield 7, 3) := by decide +kernel
theorem dX6_gives_68 : decode cX6_gives 68 = .ok (.iload 4, 2) := by decide +kernel
theorem dX6_gives_70 : decode cX6_gives 70 = .ok (.iconst 2, 1) := by decide +kernel
theorem dX6_gives_71 : decode cX6_gives 71 = .ok (.invokestatic 47, 3) := by decide +kernel
theorem dX6_gives_74 : decode cX6_gives 74 = .ok (.aload_n 0, 1) := by decide +kernel
theorem dX6_gives_75 : decode cX6_gives 75 = .ok (.getfield 7, 3) := by decide +kernel
theorem dX6_gives_78 : decode cX6_gives 78 = .ok (.bipush 12, 2) := by decide +kernel
theorem dX6_gives_80 : decode cX6_gives 80 = .ok (.iload_n 2, 1) := by decide +kernel
theorem dX6_gives_81 : decode cX6_gives 81 = .ok (.iadd, 1) := by decide +kernel
theorem dX6_gives_82 : decode cX6_gives 82 = .ok (.iaload, 1) := by decide +kernel
theorem dX6_gives_83 : decode cX6_gives 83 = .ok (.iastore, 1) := by decide +kernel
theorem dX6_gives_84 : decode cX6_gives 84 = .ok (.aload_n 0, 1) := by decide +kernel
theorem dX6_gives_85 : decode cX6_gives 85 = .ok (.getfield 7, 3) := by decide +kernel
theorem dX6_gives_88 : decode cX6_gives 88 = .ok (.iload 4, 2) := by decide +kernel
theorem dX6_gives_90 : decode cX6_gives 90 = .ok (.iconst 3, 1) := by decide +kernel
theorem dX6_gives_91 : decode cX6_gives 91 = .ok (.invokestatic 47, 3) := by decide +kernel
theorem dX6_gives_94 : decode cX6_gives 94 = .ok (.aload_n 0, 1) := by decide +kernel
theorem dX6_gives_95 : decode cX6_gives 95 = .ok (.getfield 7, 3) := by decide +kernel
theorem dX6_gives_98 : decode cX6_gives 98 = .ok (.bipush 12, 2) := by decide +kernel
theorem dX6_gives_100 : decode cX6_gives 100 = .ok (.iload_n 3, 1) := by decide +kernel
theorem dX6_gives_101 : decode cX6_gives 101 = .ok (.iadd, 1) := by decide +kernel
theorem dX6_gives_102 : decode cX6_gives 102 = .ok (.iaload, 1) := by decide +kernel
theorem dX6_gives_103 : decode cX6_gives 103 = .ok (.iastore, 1) := by decide +kernel
theorem dX6_gives_104 : decode cX6_gives 104 = .ok (.aload_n 0, 1) := by decide +kernel
theorem dX6_gives_105 : decode cX6_gives 105 = .ok (.getfield 7, 3) := by decide +kernel
theorem dX6_gives_108 : decode cX6_gives 108 = .ok (.bipush 12, 2) := by decide +kernel
theorem dX6_gives_110 : decode cX6_gives 110 = .ok (.iload_n 2, 1) := by decide +kernel
theorem dX6_gives_111 : decode cX6_gives 111 = .ok (.iadd, 1) := by decide +kernel
theorem dX6_gives_112 : decode cX6_gives 112 = .ok (.iaload, 1) := by decide +kernel
theorem dX6_gives_113 : decode cX6_gives 113 = .ok (.istore 5, 2) := by decide +kernel
theorem dX6_gives_115 : decode cX6_gives 115 = .ok (.aload_n 0, 1) := by decide +kernel
theorem dX6_gives_116 : decode cX6_gives 116 = .ok (.getfield 7, 3) := by decide +kernel
theorem dX6_gives_119 : decode cX6_gives 119 = .ok (.bipush 12, 2) := by decide +kernel
theorem dX6_gives_121 : decode cX6_gives 121 = .ok (.iload_n 3, 1) := by decide +kernel
theorem dX6_gives_122 : decode cX6_gives 122 = .ok (.iadd, 1) := by decide +kernel
theorem dX6_gives_123 : decode cX6_gives 123 = .ok (.iaload, 1) := by decide +kernel
theorem dX6_gives_124 : decode cX6_gives 124 = .ok (.istore 6, 2) := by decide +kernel
theorem dX6_gives_126 : decode cX6_gives 126 = .ok (.aload_n 0, 1) := by decide +kernel
theorem dX6_gives_127 : decode cX6_gives 127 = .ok (.iload_n 2, 1) := by decide +kernel
theorem dX6_gives_128 : decode cX6_gives 128 = .ok (.iload_n 3, 1) := by decide +kernel
theorem dX6_gives_129 : decode cX6_gives 129 = .ok (.invokevirtual 74, 3) := by decide +kernel
theorem dX6_gives_132 : decode cX6_gives 132 = .ok (.istore 7, 2) := by decide +kernel
theorem dX6_gives_134 : decode cX6_gives 134 = .ok (.iload 7, 2) := by decide +kernel
theorem dX6_gives_136 : decode cX6_gives 136 = .ok (.ifCond .ge 6, 3) := by decide +kernel
theorem dX6_gives_139 : decode cX6_gives 139 = .ok (.bipush (-4), 2) := by decide +kernel
theorem dX6_gives_141 : decode cX6_gives 141 = .ok (.ireturn, 1) := by decide +kernel
theorem dX6_gives_142 : decode cX6_gives 142 = .ok (.aload_n 0, 1) := by decide +kernel
theorem dX6_gives_143 : decode cX6_gives 143 = .ok (.getfield 7, 3) := by decide +kernel
theorem dX6_gives_146 : decode cX6_gives 146 = .ok (.iload 5, 2) := by decide +kernel
theorem dX6_gives_148 : decode cX6_gives 148 = .ok (.iconst 4, 1) := by decide +kernel
theorem dX6_gives_149 : decode cX6_gives 149 = .ok (.invokestatic 65, 3) := by decide +kernel
theorem dX6_gives_152 : decode cX6_gives 152 = .ok (.aload_n 0, 1) := by decide +kernel
theorem dX6_gives_153 : decode cX6_gives 153 = .ok (.getfield 7, 3) := by decide +kernel
theorem dX6_gives_156 : decode cX6_gives 156 = .ok (.bipush 7, 2) := by decide +kernel
theorem dX6_gives_158 : decode cX6_gives 158 = .ok (.iaload, 1) := by decide +kernel
theorem dX6_gives_159 : decode cX6_gives 159 = .ok (.iastore, 1) := by decide +kernel
theorem dX6_gives_160 : decode cX6_gives 160 = .ok (.aload_n 0, 1) := by decide +kernel
theorem dX6_gives_161 : decode cX6_gives 161 = .ok (.getfield 7, 3) := by decide +kernel
theorem dX6_gives_164 : decode cX6_gives 164 = .ok (.iload 6, 2) := by decide +kernel
theorem dX6_gives_166 : decode cX6_gives 166 = .ok (.iconst 4, 1) := by decide +kernel
theorem dX6_gives_167 : decode cX6_gives 167 = .ok (.invokestatic 65, 3) := by decide +kernel
theorem dX6_gives_170 : decode cX6_gives 170 = .ok (.aload_n 0, 1) := by decide +kernel
theorem dX6_gives_171 : decode cX6_gives 171 = .ok (.getfield 7, 3) := by decide +kernel
theorem dX6_gives_174 : decode cX6_gives 174 = .ok (.bipush 7, 2) := by decide +kernel
theorem dX6_gives_176 : decode cX6_gives 176 = .ok (.iaload, 1) := by decide +kernel
theorem dX6_gives_177 : decode cX6_gives 177 = .ok (.iastore, 1) := by decide +kernel
theorem dX6_gives_178 : decode cX6_gives 178 = .ok (.aload_n 0, 1) := by decide +kernel
theorem dX6_gives_179 : decode cX6_gives 179 = .ok (.getfield 7, 3) := by decide +kernel
theorem dX6_gives_182 : decode cX6_gives 182 = .ok (.bipush 12, 2) := by decide +kernel
theorem dX6_gives_184 : decode cX6_gives 184 = .ok (.iload_n 1, 1) := by decide +kernel
theorem dX6_gives_185 : decode cX6_gives 185 = .ok (.iadd, 1) := by decide +kernel
theorem dX6_gives_186 : decode cX6_gives 186 = .ok (.iload 7, 2) := by decide +kernel
theorem dX6_gives_188 : decode cX6_gives 188 = .ok (.iastore, 1) := by decide +kernel
theorem dX6_gives_189 : decode cX6_gives 189 = .ok (.aload_n 0, 1) := by decide +kernel
theorem dX6_gives_190 : decode cX6_gives 190 = .ok (.getfield 7, 3) := by decide +kernel
theorem dX6_gives_193 : decode cX6_gives 193 = .ok (.iload 7, 2) := by decide +kernel
theorem dX6_gives_195 : decode cX6_gives 195 = .ok (.iconst 0, 1) := by decide +kernel
theorem dX6_gives_196 : decode cX6_gives 196 = .ok (.invokestatic 65, 3) := by decide +kernel
theorem dX6_gives_199 : decode cX6_gives 199 = .ok (.iconst 1, 1) := by decide +kernel
theorem dX6_gives_200 : decode cX6_gives 200 = .ok (.iastore, 1) := by decide +kernel
theorem dX6_gives_201 : decode cX6_gives 201 = .ok (.aload_n 0, 1) := by decide +kernel
theorem dX6_gives_202 : decode cX6_gives 202 = .ok (.getfield 7, 3) := by decide +kernel
theorem dX6_gives_205 : decode cX6_gives 205 = .ok (.iload 7, 2) := by decide +kernel
theorem dX6_gives_207 : decode cX6_gives 207 = .ok (.iconst 1, 1) := by decide +kernel
theorem dX6_gives_208 : decode cX6_gives 208 = .ok (.invokestatic 65, 3) := by decide +kernel
theorem dX6_gives_211 : decode cX6_gives 211 = .ok (.iconst 0, 1) := by decide +kernel
theorem dX6_gives_212 : decode cX6_gives 212 = .ok (.iastore, 1) := by decide +kernel
theorem dX6_gives_213 : decode cX6_gives 213 = .ok (.aload_n 0, 1) := by decide +kernel
theorem dX6_gives_214 : decode cX6_gives 214 = .ok (.getfield 7, 3) := by decide +kernel
theorem dX6_gives_217 : decode cX6_gives 217 = .ok (.iload 7, 2) := by decide +kernel
theorem dX6_gives_219 : decode cX6_gives 219 = .ok (.iconst 2, 1) := by decide +kernel
theorem dX6_gives_220 : decode cX6_gives 220 = .ok (.invokestatic 65, 3) := by decide +kernel
theorem dX6_gives_223 : decode cX6_gives 223 = .ok (.iconst 0, 1) := by decide +kernel
theorem dX6_gives_224 : decode cX6_gives 224 = .ok (.iastore, 1) := by decide +kernel
theorem dX6_gives_225 : decode cX6_gives 225 = .ok (.aload_n 0, 1) := by decide +kernel
theorem dX6_gives_226 : decode cX6_gives 226 = .ok (.getfield 7, 3) := by decide +kernel
theorem dX6_gives_229 : decode cX6_gives 229 = .ok (.iload 7, 2) := by decide +kernel
theorem dX6_gives_231 : decode cX6_gives 231 = .ok (.iconst 3, 1) := by decide +kernel
theorem dX6_gives_232 : decode cX6_gives 232 = .ok (.invokestatic 65, 3) := by decide +kernel
theorem dX6_gives_235 : decode cX6_gives 235 = .ok (.iconst (-1), 1) := by decide +kernel
theorem dX6_gives_236 : decode cX6_gives 236 = .ok (.iastore, 1) := by decide +kernel
theorem dX6_gives_237 : decode cX6_gives 237 = .ok (.aload_n 0, 1) := by decide +kernel
theorem dX6_gives_238 : decode cX6_gives 238 = .ok (.getfield 7, 3) := by decide +kernel
theorem dX6_gives_241 : decode cX6_gives 241 = .ok (.iload 7, 2) := by decide +kernel
theorem dX6_gives_243 : decode cX6_gives 243 = .ok (.iconst 4, 1) := by decide +kernel
theorem dX6_gives_244 : decode cX6_gives 244 = .ok (.invokestatic 65, 3) := by decide +kernel
theorem dX6_gives_247 : decode cX6_gives 247 = .ok (.aload_n 0, 1) := by decide +kernel
theorem dX6_gives_248 : decode cX6_gives 248 = .ok (.getfield 7, 3) := by decide +kernel
theorem dX6_gives_251 : decode cX6_gives 251 = .ok (.bipush 7, 2) := by decide +kernel
theorem dX6_gives_253 : decode cX6_gives 253 = .ok (.iaload, 1) := by decide +kernel
theorem dX6_gives_254 : decode cX6_gives 254 = .ok (.iastore, 1) := by decide +kernel
theorem dX6_gives_255 : decode cX6_gives 255 = .ok (.iload 7, 2) := by decide +kernel
theorem dX6_gives_257 : decode cX6_gives 257 = .ok (.ireturn, 1) := by decide +kernel
theorem dX6_order_0 : decode cX6_order 0 = .ok (.iload_n 1, 1) := by decide +kernel
theorem dX6_order_1 : decode cX6_order 1 = .ok (.iconst 0, 1) := by decide +kernel
theorem dX6_order_2 : decode cX6_order 2 = .ok (.iconst 2, 1) := by decide +kernel
theorem dX6_order_3 : decode cX6_order 3 = .ok (.invokestatic 43, 3) := by decide +kernel
theorem dX6_order_6 : decode cX6_order 6 = .ok (.ifCond .eq 25, 3) := by decide +kernel
theorem dX6_order_9 : decode cX6_order 9 = .ok (.iload_n 2, 1) := by decide +kernel
theorem dX6_order_10 : decode cX6_order 10 = .ok (.invokestatic 85, 3) := by decide +kernel
theorem dX6_order_13 : decode cX6_order 13 = .ok (.ifCond .eq 18, 3) := by decide +kernel
theorem dX6_order_16 : decode cX6_order 16 = .ok (.iload_n 3, 1) := by decide +kernel
theorem dX6_order_17 : decode cX6_order 17 = .ok (.invokestatic 85, 3) := by decide +kernel
theorem dX6_order_20 : decode cX6_order 20 = .ok (.ifCond .eq 11, 3) := by decide +kernel
theorem dX6_order_23 : decode cX6_order 23 = .ok (.iload 4, 2) := by decide +kernel
theorem dX6_order_25 : decode cX6_order 25 = .ok (.invokestatic 85, 3) := by decide +kernel
theorem dX6_order_28 : decode cX6_order 28 = .ok (.ifCond .ne 5, 3) := by decide +kernel
theorem dX6_order_31 : decode cX6_order 31 = .ok (.iconst (-1), 1) := by decide +kernel
theorem dX6_order_32 : decode cX6_order 32 = .ok (.ireturn, 1) := by decide +kernel
theorem dX6_order_33 : decode cX6_order 33 = .ok (.aload_n 0, 1) := by decide +kernel
theorem dX6_order_34 : decode cX6_order 34 = .ok (.getfield 7, 3) := by decide +kernel
theorem dX6_order_37 : decode cX6_order 37 = .ok (.aload_n 0, 1) := by decide +kernel
theorem dX6_order_38 : decode cX6_order 38 = .ok (.getfield 19, 3) := by decide +kernel
theorem dX6_order_41 : decode cX6_order 41 = .ok (.invokestatic 88, 3) := by decide +kernel
theorem dX6_order_44 : decode cX6_order 44 = .ok (.aload_n 0, 1) := by decide +kernel
theorem dX6_order_45 : decode cX6_order 45 = .ok (.iload_n 2, 1) := by decide +kernel
theorem dX6_order_46 : decode cX6_order 46 = .ok (.iload_n 3, 1) := by decide +kernel
theorem dX6_order_47 : decode cX6_order 47 = .ok (.iload 4, 2) := by decide +kernel
theorem dX6_order_49 : decode cX6_order 49 = .ok (.invokevirtual 102, 3) := by decide +kernel
theorem dX6_order_52 : decode cX6_order 52 = .ok (.istore 5, 2) := by decide +kernel
theorem dX6_order_54 : decode cX6_order 54 = .ok (.iload 5, 2) := by decide +kernel
theorem dX6_order_56 : decode cX6_order 56 = .ok (.ifCond .lt 14, 3) := by decide +kernel
theorem dX6_order_59 : decode cX6_order 59 = .ok (.aload_n 0, 1) := by decide +kernel
theorem dX6_order_60 : decode cX6_order 60 = .ok (.getfield 7, 3) := by decide +kernel
theorem dX6_order_63 : decode cX6_order 63 = .ok (.iconst 3, 1) := by decide +kernel
theorem dX6_order_64 : decode cX6_order 64 = .ok (.iaload, 1) := by decide +kernel
theorem dX6_order_65 : decode cX6_order 65 = .ok (.bipush 6, 2) := by decide +kernel
theorem dX6_order_67 : decode cX6_order 67 = .ok (.if_icmp .ne 27, 3) := by decide +kernel
theorem dX6_order_70 : decode cX6_order 70 = .ok (.aload_n 0, 1) := by decide +kernel
theorem dX6_order_71 : decode cX6_order 71 = .ok (.getfield 19, 3) := by decide +kernel
theorem dX6_order_74 : decode cX6_order 74 = .ok (.aload_n 0, 1) := by decide +kernel
theorem dX6_order_75 : decode cX6_order 75 = .ok (.getfield 7, 3) := by decide +kernel
theorem dX6_order_78 : decode cX6_order 78 = .ok (.invokestatic 88, 3) := by decide +kernel
theorem dX6_order_81 : decode cX6_order 81 = .ok (.iload 5, 2) := by decide +kernel
theorem dX6_order_83 : decode cX6_order 83 = .ok (.ifCond .ge 8, 3) := by decide +kernel
theorem dX6_order_86 : decode cX6_order 86 = .ok (.bipush (-2), 2) := by decide +kernel
theorem dX6_order_88 : decode cX6_order 88 = .ok (.goto 5, 3) := by decide +kernel
theorem dX6_order_91 : decode cX6_order 91 = .ok (.bipush (-3), 2) := by decide +kernel
theorem dX6_order_93 : decode cX6_order 93 = .ok (.ireturn, 1) := by decide +kernel
theorem dX6_order_94 : decode cX6_order 94 = .ok (.aload_n 0, 1) := by decide +kernel
theorem dX6_order_95 : decode cX6_order 95 = .ok (.aload_n 0, 1) := by decide +kernel
theorem dX6_order_96 : decode cX6_order 96 = .ok (.getfield 19, 3) := by decide +kernel
theorem dX6_order_99 : decode cX6_order 99 = .ok (.invokevirtual 81, 3) := by decide +kernel
theorem dX6_order_102 : decode cX6_order 102 = .ok (.aload_n 0, 1) := by decide +kernel
theorem dX6_order_103 : decode cX6_order 103 = .ok (.getfield 7, 3) := by decide +kernel
theorem dX6_order_106 : decode cX6_order 106 = .ok (.iconst 3, 1) := by decide +kernel
theorem dX6_order_107 : decode cX6_order 107 = .ok (.iaload, 1) := by decide +kernel
theorem dX6_order_108 : decode cX6_order 108 = .ok (.istore 6, 2) := by decide +kernel
theorem dX6_order_110 : decode cX6_order 110 = .ok (.aload_n 0, 1) := by decide +kernel
theorem dX6_order_111 : decode cX6_order 111 = .ok (.getfield 7, 3) := by decide +kernel
theorem dX6_order_114 : decode cX6_order 114 = .ok (.iload 6, 2) := by decide +kernel
theorem dX6_order_116 : decode cX6_order 116 = .ok (.iconst 0, 1) := by decide +kernel
theorem dX6_order_117 : decode cX6_order 117 = .ok (.invokestatic 47, 3) := by decide +kernel
theorem dX6_order_120 : decode cX6_order 120 = .ok (.iload_n 1, 1) := by decide +kernel
theorem dX6_order_121 : decode cX6_order 121 = .ok (.iastore, 1) := by decide +kernel
theorem dX6_order_122 : decode cX6_order 122 = .ok (.aload_n 0, 1) := by decide +kernel
theorem dX6_order_123 : decode cX6_order 123 = .ok (.getfield 7, 3) := by decide +kernel
theorem dX6_order_126 : decode cX6_order 126 = .ok (.iload 6, 2) := by decide +kernel
theorem dX6_order_128 : decode cX6_order 128 = .ok (.iconst 1, 1) := by decide +kernel
theorem dX6_order_129 : decode cX6_order 129 = .ok (.invokestatic 47, 3) := by decide +kernel
theorem dX6_order_132 : decode cX6_order 132 = .ok (.iload 5, 2) := by decide +kernel
theorem dX6_order_134 : decode cX6_order 134 = .ok (.iastore, 1) := by decide +kernel
theorem dX6_order_135 : decode cX6_order 135 = .ok (.aload_n 0, 1) := by decide +kernel
theorem dX6_order_136 : decode cX6_order 136 = .ok (.getfield 7, 3) := by decide +kernel
theorem dX6_order_139 : decode cX6_order 139 = .ok (.iload 6, 2) := by decide +kernel
theorem dX6_order_141 : decode cX6_order 141 = .ok (.iconst 4, 1) := by decide +kernel
theorem dX6_order_142 : decode cX6_order 142 = .ok (.invokestatic 47, 3) := by decide +kernel
theorem dX6_order_145 : decode cX6_order 145 = .ok (.iconst (-1), 1) := by decide +kernel
theorem dX6_order_146 : decode cX6_order 146 = .ok (.iastore, 1) := by decide +kernel
theorem dX6_order_147 : decode cX6_order 147 = .ok (.aload_n 0, 1) := by decide +kernel
theorem dX6_order_148 : decode cX6_order 148 = .ok (.getfield 7, 3) := by decide +kernel
theorem dX6_order_151 : decode cX6_order 151 = .ok (.iload 6, 2) := by decide +kernel
theorem dX6_order_153 : decode cX6_order 153 = .ok (.iconst 5, 1) := by decide +kernel
theorem dX6_order_154 : decode cX6_order 154 = .ok (.invokestatic 47, 3) := by decide +kernel
theorem dX6_order_157 : decode cX6_order 157 = .ok (.aload_n 0, 1) := by decide +kernel
theorem dX6_order_158 : decode cX6_order 158 = .ok (.getfield 7, 3) := by decide +kernel
theorem dX6_order_161 : decode cX6_order 161 = .ok (.iconst 2, 1) := by decide +kernel
theorem dX6_order_162 : decode cX6_order 162 = .ok (.iaload, 1) := by decide +kernel
theorem dX6_order_163 : decode cX6_order 163 = .ok (.iastore, 1) := by decide +kernel
theorem dX6_order_164 : decode cX6_order 164 = .ok (.aload_n 0, 1) := by decide +kernel
theorem dX6_order_165 : decode cX6_order 165 = .ok (.getfield 7, 3) := by decide +kernel
theorem dX6_order_168 : decode cX6_order 168 = .ok (.iconst 3, 1) := by decide +kernel
theorem dX6_order_169 : decode cX6_order 169 = .ok (.dup2, 1) := by decide +kernel
theorem dX6_order_170 : decode cX6_order 170 = .ok (.iaload, 1) := by decide +kernel
theorem dX6_order_171 : decode cX6_order 171 = .ok (.iconst 1, 1) := by decide +kernel
theorem dX6_order_172 : decode cX6_order 172 = .ok (.iadd, 1) := by decide +kernel
theorem dX6_order_173 : decode cX6_order 173 = .ok (.iastore, 1) := by decide +kernel
theorem dX6_order_174 : decode cX6_order 174 = .ok (.iload 5, 2) := by decide +kernel
theorem dX6_order_176 : decode cX6_order 176 = .ok (.ireturn, 1) := by decide +kernel
theorem dX6_drops_0 : decode cX6_drops 0 = .ok (.aload_n 0, 1) := by decide +kernel
theorem dX6_drops_1 : decode cX6_drops 1 = .ok (.getfield 7, 3) := by decide +kernel
theorem dX6_drops_4 : decode cX6_drops 4 = .ok (.iconst 3, 1) := by decide +kernel
theorem dX6_drops_5 : decode cX6_drops 5 = .ok (.dup2, 1) := by decide +kernel
theorem dX6_drops_6 : decode cX6_drops 6 = .ok (.iaload, 1) := by decide +kernel
theorem dX6_drops_7 : decode cX6_drops 7 = .ok (.iconst 1, 1) := by decide +kernel
theorem dX6_drops_8 : decode cX6_drops 8 = .ok (.isub, 1) := by decide +kernel
theorem dX6_drops_9 : decode cX6_drops 9 = .ok (.iastore, 1) := by decide +kernel
theorem dX6_drops_10 : decode cX6_drops 10 = .ok (.iload_n 1, 1) := by decide +kernel
theorem dX6_drops_11 : decode cX6_drops 11 = .ok (.iconst 0, 1) := by decide +kernel
theorem dX6_drops_12 : decode cX6_drops 12 = .ok (.invokestatic 47, 3) := by decide +kernel
theorem dX6_drops_15 : decode cX6_drops 15 = .ok (.istore_n 2, 1) := by decide +kernel
theorem dX6_drops_16 : decode cX6_drops 16 = .ok (.iload_n 2, 1) := by decide +kernel
theorem dX6_drops_17 : decode cX6_drops 17 = .ok (.aload_n 0, 1) := by decide +kernel
theorem dX6_drops_18 : decode cX6_drops 18 = .ok (.getfield 7, 3) := by decide +kernel
theorem dX6_drops_21 : decode cX6_drops 21 = .ok (.iconst 3, 1) := by decide +kernel
theorem dX6_drops_22 : decode cX6_drops 22 = .ok (.iaload, 1) := by decide +kernel
theorem dX6_drops_23 : decode cX6_drops 23 = .ok (.iconst 0, 1) := by decide +kernel
theorem dX6_drops_24 : decode cX6_drops 24 = .ok (.invokestatic 47, 3) := by decide +kernel
theorem dX6_drops_27 : decode cX6_drops 27 = .ok (.if_icmp .ge 24, 3) := by decide +kernel
theorem dX6_drops_30 : decode cX6_drops 30 = .ok (.aload_n 0, 1) := by decide +kernel
theorem dX6_drops_31 : decode cX6_drops 31 = .ok (.getfield 7, 3) := by decide +kernel
theorem dX6_drops_34 : decode cX6_drops 34 = .ok (.iload_n 2, 1) := by decide +kernel
theorem dX6_drops_35 : decode cX6_drops 35 = .ok (.aload_n 0, 1) := by decide +kernel
theorem dX6_drops_36 : decode cX6_drops 36 = .ok (.getfield 7, 3) := by decide +kernel
theorem dX6_drops_39 : decode cX6_drops 39 = .ok (.iload_n 2, 1) := by decide +kernel
theorem dX6_drops_40 : decode cX6_drops 40 = .ok (.bipush 7, 2) := by decide +kernel
theorem dX6_drops_42 : decode cX6_drops 42 = .ok (.iadd, 1) := by decide +kernel
theorem dX6_drops_43 : decode cX6_drops 43 = .ok (.iaload, 1) := by decide +kernel
theorem dX6_drops_44 : decode cX6_drops 44 = .ok (.iastore, 1) := by decide +kernel
theorem dX6_drops_45 : decode cX6_drops 45 = .ok (.iinc 2 1, 3) := by decide +kernel
theorem dX6_drops_48 : decode cX6_drops 48 = .ok (.goto (-32), 3) := by decide +kernel
theorem dX6_drops_51 : decode cX6_drops 51 = .ok (.return_, 1) := by decide +kernel
theorem dX6_result_0 : decode cX6_result 0 = .ok (.iload_n 0, 1) := by decide +kernel
theorem dX6_result_1 : decode cX6_result 1 = .ok (.ifCond .ne 9, 3) := by decide +kernel
theorem dX6_result_4 : decode cX6_result 4 = .ok (.iload_n 1, 1) := by decide +kernel
theorem dX6_result_5 : decode cX6_result 5 = .ok (.iload_n 2, 1) := by decide +kernel
theorem dX6_result_6 : decode cX6_result 6 = .ok (.iadd, 1) := by decide +kernel
theorem dX6_result_7 : decode cX6_result 7 = .ok (.goto 24, 3) := by decide +kernel
theorem dX6_result_10 : decode cX6_result 10 = .ok (.iload_n 0, 1) := by decide +kernel
theorem dX6_result_11 : decode cX6_result 11 = .ok (.iconst 1, 1) := by decide +kernel
theorem dX6_result_12 : decode cX6_result 12 = .ok (.if_icmp .ne 9, 3) := by decide +kernel
theorem dX6_result_15 : decode cX6_result 15 = .ok (.iload_n 1, 1) := by decide +kernel
theorem dX6_result_16 : decode cX6_result 16 = .ok (.iload_n 2, 1) := by decide +kernel
theorem dX6_result_17 : decode cX6_result 17 = .ok (.isub, 1) := by decide +kernel
theorem dX6_result_18 : decode cX6_result 18 = .ok (.goto 13, 3) := by decide +kernel
theorem dX6_result_21 : decode cX6_result 21 = .ok (.iload_n 1, 1) := by decide +kernel
theorem dX6_result_22 : decode cX6_result 22 = .ok (.i2l, 1) := by decide +kernel
theorem dX6_result_23 : decode cX6_result 23 = .ok (.iload_n 2, 1) := by decide +kernel
theorem dX6_result_24 : decode cX6_result 24 = .ok (.i2l, 1) := by decide +kernel
theorem dX6_result_25 : decode cX6_result 25 = .ok (.lmul, 1) := by decide +kernel
theorem dX6_result_26 : decode cX6_result 26 = .ok (.ldc2_w 105, 3) := by decide +kernel
theorem dX6_result_29 : decode cX6_result 29 = .ok (.lrem, 1) := by decide +kernel
theorem dX6_result_30 : decode cX6_result 30 = .ok (.l2i, 1) := by decide +kernel
theorem dX6_result_31 : decode cX6_result 31 = .ok (.istore_n 3, 1) := by decide +kernel
theorem dX6_result_32 : decode cX6_result 32 = .ok (.iload_n 3, 1) := by decide +kernel
theorem dX6_result_33 : decode cX6_result 33 = .ok (.ifCond .ge 11, 3) := by decide +kernel
theorem dX6_result_36 : decode cX6_result 36 = .ok (.iload_n 3, 1) := by decide +kernel
theorem dX6_result_37 : decode cX6_result 37 = .ok (.sipush 10000, 3) := by decide +kernel
theorem dX6_result_40 : decode cX6_result 40 = .ok (.iadd, 1) := by decide +kernel
theorem dX6_result_41 : decode cX6_result 41 = .ok (.goto 8, 3) := by decide +kernel
theorem dX6_result_44 : decode cX6_result 44 = .ok (.iload_n 3, 1) := by decide +kernel
theorem dX6_result_45 : decode cX6_result 45 = .ok (.sipush 10000, 3) := by decide +kernel
theorem dX6_result_48 : decode cX6_result 48 = .ok (.irem, 1) := by decide +kernel
theorem dX6_result_49 : decode cX6_result 49 = .ok (.ireturn, 1) := by decide +kernel
theorem dX6_dones_0 : decode cX6_dones 0 = .ok (.iconst 0, 1) := by decide +kernel
theorem dX6_dones_1 : decode cX6_dones 1 = .ok (.istore_n 1, 1) := by decide +kernel
theorem dX6_dones_2 : decode cX6_dones 2 = .ok (.iload_n 1, 1) := by decide +kernel
theorem dX6_dones_3 : decode cX6_dones 3 = .ok (.aload_n 0, 1) := by decide +kernel
theorem dX6_dones_4 : decode cX6_dones 4 = .ok (.getfield 7, 3) := by decide +kernel
theorem dX6_dones_7 : decode cX6_dones 7 = .ok (.iconst 3, 1) := by decide +kernel
theorem dX6_dones_8 : decode cX6_dones 8 = .ok (.iaload, 1) := by decide +kernel
theorem dX6_dones_9 : decode cX6_dones 9 = .ok (.if_icmp .ge 128, 3) := by decide +kernel
theorem dX6_dones_12 : decode cX6_dones 12 = .ok (.aload_n 0, 1) := by decide +kernel
theorem dX6_dones_13 : decode cX6_dones 13 = .ok (.getfield 7, 3) := by decide +kernel
theorem dX6_dones_16 : decode cX6_dones 16 = .ok (.iload_n 1, 1) := by decide +kernel
theorem dX6_dones_17 : decode cX6_dones 17 = .ok (.iconst 4, 1) := by decide +kernel
theorem dX6_dones_18 : decode cX6_dones 18 = .ok (.invokestatic 47, 3) := by decide +kernel
theorem dX6_dones_21 : decode cX6_dones 21 = .ok (.iaload, 1) := by decide +kernel
theorem dX6_dones_22 : decode cX6_dones 22 = .ok (.ifCond .lt 109, 3) := by decide +kernel
theorem dX6_dones_25 : decode cX6_dones 25 = .ok (.aload_n 0, 1) := by decide +kernel
theorem dX6_dones_26 : decode cX6_dones 26 = .ok (.getfield 7, 3) := by decide +kernel
theorem dX6_dones_29 : decode cX6_dones 29 = .ok (.iload_n 1, 1) := by decide +kernel
theorem dX6_dones_30 : decode cX6_dones 30 = .ok (.iconst 4, 1) := by decide +kernel
theorem dX6_dones_31 : decode cX6_dones 31 = .ok (.invokestatic 47, 3) := by decide +kernel
theorem dX6_dones_34 : decode cX6_dones 34 = .ok (.iaload, 1) := by decide +kernel
theorem dX6_dones_35 : decode cX6_dones 35 = .ok (.aload_n 0, 1) := by decide +kernel
theorem dX6_dones_36 : decode cX6_dones 36 = .ok (.getfield 7, 3) := by decide +kernel
theorem dX6_dones_39 : decode cX6_dones 39 = .ok (.iconst 1, 1) := by decide +kernel
theorem dX6_dones_40 : decode cX6_dones 40 = .ok (.iaload, 1) := by decide +kernel
theorem dX6_dones_41 : decode cX6_dones 41 = .ok (.if_icmp .gt 90, 3) := by decide +kernel
theorem dX6_dones_44 : decode cX6_dones 44 = .ok (.aload_n 0, 1) := by decide +kernel
theorem dX6_dones_45 : decode cX6_dones 45 = .ok (.getfield 7, 3) := by decide +kernel
theorem dX6_dones_48 : decode cX6_dones 48 = .ok (.aload_n 0, 1) := by decide +kernel
theorem dX6_dones_49 : decode cX6_dones 49 = .ok (.getfield 7, 3) := by decide +kernel
theorem dX6_dones_52 : decode cX6_dones 52 = .ok (.iload_n 1, 1) := by decide +kernel
theorem dX6_dones_53 : decode cX6_dones 53 = .ok (.iconst 2, 1) := by decide +kernel
theorem dX6_dones_54 : decode cX6_dones 54 = .ok (.invokestatic 47, 3) := by decide +kernel
theorem dX6_dones_57 : decode cX6_dones 57 = .ok (.iaload, 1) := by decide +kernel
theorem dX6_dones_58 : decode cX6_dones 58 = .ok (.iconst 1, 1) := by decide +kernel
theorem dX6_dones_59 : decode cX6_dones 59 = .ok (.invokestatic 65, 3) := by decide +kernel
theorem dX6_dones_62 : decode cX6_dones 62 = .ok (.iaload, 1) := by decide +kernel
theorem dX6_dones_63 : decode cX6_dones 63 = .ok (.istore_n 2, 1) := by decide +kernel
theorem dX6_dones_64 : decode cX6_dones 64 = .ok (.aload_n 0, 1) := by decide +kernel
theorem dX6_dones_65 : decode cX6_dones 65 = .ok (.getfield 7, 3) := by decide +kernel
theorem dX6_dones_68 : decode cX6_dones 68 = .ok (.aload_n 0, 1) := by decide +kernel
theorem dX6_dones_69 : decode cX6_dones 69 = .ok (.getfield 7, 3) := by decide +kernel
theorem dX6_dones_72 : decode cX6_dones 72 = .ok (.iload_n 1, 1) := by decide +kernel
theorem dX6_dones_73 : decode cX6_dones 73 = .ok (.iconst 3, 1) := by decide +kernel
theorem dX6_dones_74 : decode cX6_dones 74 = .ok (.invokestatic 47, 3) := by decide +kernel
theorem dX6_dones_77 : decode cX6_dones 77 = .ok (.iaload, 1) := by decide +kernel
theorem dX6_dones_78 : decode cX6_dones 78 = .ok (.iconst 1, 1) := by decide +kernel
theorem dX6_dones_79 : decode cX6_dones 79 = .ok (.invokestatic 65, 3) := by decide +kernel
theorem dX6_dones_82 : decode cX6_dones 82 = .ok (.iaload, 1) := by decide +kernel
theorem dX6_dones_83 : decode cX6_dones 83 = .ok (.istore_n 3, 1) := by decide +kernel
theorem dX6_dones_84 : decode cX6_dones 84 = .ok (.aload_n 0, 1) := by decide +kernel
theorem dX6_dones_85 : decode cX6_dones 85 = .ok (.aload_n 0, 1) := by decide +kernel
theorem dX6_dones_86 : decode cX6_dones 86 = .ok (.getfield 7, 3) := by decide +kernel
theorem dX6_dones_89 : decode cX6_dones 89 = .ok (.iload_n 1, 1) := by decide +kernel
theorem dX6_dones_90 : decode cX6_dones 90 = .ok (.iconst 1, 1) := by decide +kernel
theorem dX6_dones_91 : decode cX6_dones 91 = .ok (.invokestatic 47, 3) := by decide +kernel
theorem dX6_dones_94 : decode cX6_dones 94 = .ok (.iaload, 1) := by decide +kernel
theorem dX6_dones_95 : decode cX6_dones 95 = .ok (.aload_n 0, 1) := by decide +kernel
theorem dX6_dones_96 : decode cX6_dones 96 = .ok (.getfield 7, 3) := by decide +kernel
theorem dX6_dones_99 : decode cX6_dones 99 = .ok (.iload_n 1, 1) := by decide +kernel
theorem dX6_dones_100 : decode cX6_dones 100 = .ok (.iconst 0, 1) := by decide +kernel
theorem dX6_dones_101 : decode cX6_dones 101 = .ok (.invokestatic 47, 3) := by decide +kernel
theorem dX6_dones_104 : decode cX6_dones 104 = .ok (.iaload, 1) := by decide +kernel
theorem dX6_dones_105 : decode cX6_dones 105 = .ok (.iload_n 2, 1) := by decide +kernel
theorem dX6_dones_106 : decode cX6_dones 106 = .ok (.iload_n 3, 1) := by decide +kernel
theorem dX6_dones_107 : decode cX6_dones 107 = .ok (.invokestatic 107, 3) := by decide +kernel
theorem dX6_dones_110 : decode cX6_dones 110 = .ok (.invokevirtual 95, 3) := by decide +kernel
theorem dX6_dones_113 : decode cX6_dones 113 = .ok (.aload_n 0, 1) := by decide +kernel
theorem dX6_dones_114 : decode cX6_dones 114 = .ok (.iload_n 1, 1) := by decide +kernel
theorem dX6_dones_115 : decode cX6_dones 115 = .ok (.invokevirtual 110, 3) := by decide +kernel
theorem dX6_dones_118 : decode cX6_dones 118 = .ok (.aload_n 0, 1) := by decide +kernel
theorem dX6_dones_119 : decode cX6_dones 119 = .ok (.getfield 7, 3) := by decide +kernel
theorem dX6_dones_122 : decode cX6_dones 122 = .ok (.iconst 4, 1) := by decide +kernel
theorem dX6_dones_123 : decode cX6_dones 123 = .ok (.dup2, 1) := by decide +kernel
theorem dX6_dones_124 : decode cX6_dones 124 = .ok (.iaload, 1) := by decide +kernel
theorem dX6_dones_125 : decode cX6_dones 125 = .ok (.iconst 1, 1) := by decide +kernel
theorem dX6_dones_126 : decode cX6_dones 126 = .ok (.iadd, 1) := by decide +kernel
theorem dX6_dones_127 : decode cX6_dones 127 = .ok (.iastore, 1) := by decide +kernel
theorem dX6_dones_128 : decode cX6_dones 128 = .ok (.goto (-126), 3) := by decide +kernel
theorem dX6_dones_131 : decode cX6_dones 131 = .ok (.iinc 1 1, 3) := by decide +kernel
theorem dX6_dones_134 : decode cX6_dones 134 = .ok (.goto (-132), 3) := by decide +kernel
theorem dX6_dones_137 : decode cX6_dones 137 = .ok (.aload_n 0, 1) := by decide +kernel
theorem dX6_dones_138 : decode cX6_dones 138 = .ok (.invokevirtual 68, 3) := by decide +kernel
theorem dX6_dones_141 : decode cX6_dones 141 = .ok (.return_, 1) := by decide +kernel
theorem dX6_ticks_0 : decode cX6_ticks 0 = .ok (.aload_n 0, 1) := by decide +kernel
theorem dX6_ticks_1 : decode cX6_ticks 1 = .ok (.getfield 7, 3) := by decide +kernel
theorem dX6_ticks_4 : decode cX6_ticks 4 = .ok (.iconst 1, 1) := by decide +kernel
theorem dX6_ticks_5 : decode cX6_ticks 5 = .ok (.dup2, 1) := by decide +kernel
theorem dX6_ticks_6 : decode cX6_ticks 6 = .ok (.iaload, 1) := by decide +kernel
theorem dX6_ticks_7 : decode cX6_ticks 7 = .ok (.iconst 1, 1) := by decide +kernel
theorem dX6_ticks_8 : decode cX6_ticks 8 = .ok (.iadd, 1) := by decide +kernel
theorem dX6_ticks_9 : decode cX6_ticks 9 = .ok (.iastore, 1) := by decide +kernel
theorem dX6_ticks_10 : decode cX6_ticks 10 = .ok (.iconst 0, 1) := by decide +kernel
theorem dX6_ticks_11 : decode cX6_ticks 11 = .ok (.istore_n 1, 1) := by decide +kernel
theorem dX6_ticks_12 : decode cX6_ticks 12 = .ok (.iload_n 1, 1) := by decide +kernel
theorem dX6_ticks_13 : decode cX6_ticks 13 = .ok (.aload_n 0, 1) := by decide +kernel
theorem dX6_ticks_14 : decode cX6_ticks 14 = .ok (.getfield 7, 3) := by decide +kernel
theorem dX6_ticks_17 : decode cX6_ticks 17 = .ok (.iconst 0, 1) := by decide +kernel
theorem dX6_ticks_18 : decode cX6_ticks 18 = .ok (.iaload, 1) := by decide +kernel
theorem dX6_ticks_19 : decode cX6_ticks 19 = .ok (.if_icmp .ge 70, 3) := by decide +kernel
theorem dX6_ticks_22 : decode cX6_ticks 22 = .ok (.aload_n 0, 1) := by decide +kernel
theorem dX6_ticks_23 : decode cX6_ticks 23 = .ok (.getfield 7, 3) := by decide +kernel
theorem dX6_ticks_26 : decode cX6_ticks 26 = .ok (.iload_n 1, 1) := by decide +kernel
theorem dX6_ticks_27 : decode cX6_ticks 27 = .ok (.iconst 0, 1) := by decide +kernel
theorem dX6_ticks_28 : decode cX6_ticks 28 = .ok (.invokestatic 65, 3) := by decide +kernel
theorem dX6_ticks_31 : decode cX6_ticks 31 = .ok (.iaload, 1) := by decide +kernel
theorem dX6_ticks_32 : decode cX6_ticks 32 = .ok (.iconst 1, 1) := by decide +kernel
theorem dX6_ticks_33 : decode cX6_ticks 33 = .ok (.if_icmp .ne 50, 3) := by decide +kernel
theorem dX6_ticks_36 : decode cX6_ticks 36 = .ok (.aload_n 0, 1) := by decide +kernel
theorem dX6_ticks_37 : decode cX6_ticks 37 = .ok (.getfield 7, 3) := by decide +kernel
theorem dX6_ticks_40 : decode cX6_ticks 40 = .ok (.iload_n 1, 1) := by decide +kernel
theorem dX6_ticks_41 : decode cX6_ticks 41 = .ok (.iconst 3, 1) := by decide +kernel
theorem dX6_ticks_42 : decode cX6_ticks 42 = .ok (.invokestatic 65, 3) := by decide +kernel
theorem dX6_ticks_45 : decode cX6_ticks 45 = .ok (.iaload, 1) := by decide +kernel
theorem dX6_ticks_46 : decode cX6_ticks 46 = .ok (.ifCond .lt 37, 3) := by decide +kernel
theorem dX6_ticks_49 : decode cX6_ticks 49 = .ok (.aload_n 0, 1) := by decide +kernel
theorem dX6_ticks_50 : decode cX6_ticks 50 = .ok (.getfield 7, 3) := by decide +kernel
theorem dX6_ticks_53 : decode cX6_ticks 53 = .ok (.iload_n 1, 1) := by decide +kernel
theorem dX6_ticks_54 : decode cX6_ticks 54 = .ok (.iconst 3, 1) := by decide +kernel
theorem dX6_ticks_55 : decode cX6_ticks 55 = .ok (.invokestatic 65, 3) := by decide +kernel
theorem dX6_ticks_58 : decode cX6_ticks 58 = .ok (.iaload, 1) := by decide +kernel
theorem dX6_ticks_59 : decode cX6_ticks 59 = .ok (.aload_n 0, 1) := by decide +kernel
theorem dX6_ticks_60 : decode cX6_ticks 60 = .ok (.getfield 7, 3) := by decide +kernel
theorem dX6_ticks_63 : decode cX6_ticks 63 = .ok (.iconst 1, 1) := by decide +kernel
theorem dX6_ticks_64 : decode cX6_ticks 64 = .ok (.iaload, 1) := by decide +kernel
theorem dX6_ticks_65 : decode cX6_ticks 65 = .ok (.if_icmp .gt 18, 3) := by decide +kernel
theorem dX6_ticks_68 : decode cX6_ticks 68 = .ok (.aload_n 0, 1) := by decide +kernel
theorem dX6_ticks_69 : decode cX6_ticks 69 = .ok (.iload_n 1, 1) := by decide +kernel
theorem dX6_ticks_70 : decode cX6_ticks 70 = .ok (.aload_n 0, 1) := by decide +kernel
theorem dX6_ticks_71 : decode cX6_ticks 71 = .ok (.getfield 7, 3) := by decide +kernel
theorem dX6_ticks_74 : decode cX6_ticks 74 = .ok (.iload_n 1, 1) := by decide +kernel
theorem dX6_ticks_75 : decode cX6_ticks 75 = .ok (.iconst 1, 1) := by decide +kernel
theorem dX6_ticks_76 : decode cX6_ticks 76 = .ok (.invokestatic 65, 3) := by decide +kernel
theorem dX6_ticks_79 : decode cX6_ticks 79 = .ok (.iaload, 1) := by decide +kernel
theorem dX6_ticks_80 : decode cX6_ticks 80 = .ok (.invokevirtual 95, 3) := by decide +kernel
theorem dX6_ticks_83 : decode cX6_ticks 83 = .ok (.iinc 1 1, 3) := by decide +kernel
theorem dX6_ticks_86 : decode cX6_ticks 86 = .ok (.goto (-74), 3) := by decide +kernel
theorem dX6_ticks_89 : decode cX6_ticks 89 = .ok (.aload_n 0, 1) := by decide +kernel
theorem dX6_ticks_90 : decode cX6_ticks 90 = .ok (.invokevirtual 113, 3) := by decide +kernel
theorem dX6_ticks_93 : decode cX6_ticks 93 = .ok (.iconst 0, 1) := by decide +kernel
theorem dX6_ticks_94 : decode cX6_ticks 94 = .ok (.istore_n 1, 1) := by decide +kernel
theorem dX6_ticks_95 : decode cX6_ticks 95 = .ok (.iconst 0, 1) := by decide +kernel
theorem dX6_ticks_96 : decode cX6_ticks 96 = .ok (.istore_n 2, 1) := by decide +kernel
theorem dX6_ticks_97 : decode cX6_ticks 97 = .ok (.iload_n 2, 1) := by decide +kernel
theorem dX6_ticks_98 : decode cX6_ticks 98 = .ok (.aload_n 0, 1) := by decide +kernel
theorem dX6_ticks_99 : decode cX6_ticks 99 = .ok (.getfield 7, 3) := by decide +kernel
theorem dX6_ticks_102 : decode cX6_ticks 102 = .ok (.iconst 3, 1) := by decide +kernel
theorem dX6_ticks_103 : decode cX6_ticks 103 = .ok (.iaload, 1) := by decide +kernel
theorem dX6_ticks_104 : decode cX6_ticks 104 = .ok (.if_icmp .ge 136, 3) := by decide +kernel
theorem dX6_ticks_107 : decode cX6_ticks 107 = .ok (.iload_n 1, 1) := by decide +kernel
theorem dX6_ticks_108 : decode cX6_ticks 108 = .ok (.aload_n 0, 1) := by decide +kernel
theorem dX6_ticks_109 : decode cX6_ticks 109 = .ok (.getfield 7, 3) := by decide +kernel
theorem dX6_ticks_112 : decode cX6_ticks 112 = .ok (.bipush 11, 2) := by decide +kernel
theorem dX6_ticks_114 : decode cX6_ticks 114 = .ok (.iaload, 1) := by decide +kernel
theorem dX6_ticks_115 : decode cX6_ticks 115 = .ok (.if_icmp .ge 125, 3) := by decide +kernel
theorem dX6_ticks_118 : decode cX6_ticks 118 = .ok (.aload_n 0, 1) := by decide +kernel
theorem dX6_ticks_119 : decode cX6_ticks 119 = .ok (.getfield 7, 3) := by decide +kernel
theorem dX6_ticks_122 : decode cX6_ticks 122 = .ok (.iload_n 2, 1) := by decide +kernel
theorem dX6_ticks_123 : decode cX6_ticks 123 = .ok (.iconst 4, 1) := by decide +kernel
theorem dX6_ticks_124 : decode cX6_ticks 124 = .ok (.invokestatic 47, 3) := by decide +kernel
theorem dX6_ticks_127 : decode cX6_ticks 127 = .ok (.iaload, 1) := by decide +kernel
theorem dX6_ticks_128 : decode cX6_ticks 128 = .ok (.ifCond .ge 53, 3) := by decide +kernel
theorem dX6_ticks_131 : decode cX6_ticks 131 = .ok (.aload_n 0, 1) := by decide +kernel
theorem dX6_ticks_132 : decode cX6_ticks 132 = .ok (.getfield 7, 3) := by decide +kernel
theorem dX6_ticks_135 : decode cX6_ticks 135 = .ok (.aload_n 0, 1) := by decide +kernel
theorem dX6_ticks_136 : decode cX6_ticks 136 = .ok (.getfield 7, 3) := by decide +kernel
theorem dX6_ticks_139 : decode cX6_ticks 139 = .ok (.iload_n 2, 1) := by decide +kernel
theorem dX6_ticks_140 : decode cX6_ticks 140 = .ok (.iconst 2, 1) := by decide +kernel
theorem dX6_ticks_141 : decode cX6_ticks 141 = .ok (.invokestatic 47, 3) := by decide +kernel
theorem dX6_ticks_144 : decode cX6_ticks 144 = .ok (.iaload, 1) := by decide +kernel
theorem dX6_ticks_145 : decode cX6_ticks 145 = .ok (.iconst 2, 1) := by decide +kernel
theorem dX6_ticks_146 : decode cX6_ticks 146 = .ok (.invokestatic 65, 3) := by decide +kernel
theorem dX6_ticks_149 : decode cX6_ticks 149 = .ok (.iaload, 1) := by decide +kernel
theorem dX6_ticks_150 : decode cX6_ticks 150 = .ok (.iconst 1, 1) := by decide +kernel
theorem dX6_ticks_151 : decode cX6_ticks 151 = .ok (.if_icmp .ne 30, 3) := by decide +kernel
theorem dX6_ticks_154 : decode cX6_ticks 154 = .ok (.aload_n 0, 1) := by decide +kernel
theorem dX6_ticks_155 : decode cX6_ticks 155 = .ok (.getfield 7, 3) := by decide +kernel
theorem dX6_ticks_158 : decode cX6_ticks 158 = .ok (.aload_n 0, 1) := by decide +kernel
theorem dX6_ticks_159 : decode cX6_ticks 159 = .ok (.getfield 7, 3) := by decide +kernel
theorem dX6_ticks_162 : decode cX6_ticks 162 = .ok (.iload_n 2, 1) := by decide +kernel
theorem dX6_ticks_163 : decode cX6_ticks 163 = .ok (.iconst 3, 1) := by decide +kernel
theorem dX6_ticks_164 : decode cX6_ticks 164 = .ok (.invokestatic 47, 3) := by decide +kernel
theorem dX6_ticks_167 : decode cX6_ticks 167 = .ok (.iaload, 1) := by decide +kernel
theorem dX6_ticks_168 : decode cX6_ticks 168 = .ok (.iconst 2, 1) := by decide +kernel
theorem dX6_ticks_169 : decode cX6_ticks 169 = .ok (.invokestatic 65, 3) := by decide +kernel
theorem dX6_ticks_172 : decode cX6_ticks 172 = .ok (.iaload, 1) := by decide +kernel
theorem dX6_ticks_173 : decode cX6_ticks 173 = .ok (.iconst 1, 1) := by decide +kernel
theorem dX6_ticks_174 : decode cX6_ticks 174 = .ok (.if_icmp .ne 7, 3) := by decide +kernel
theorem dX6_ticks_177 : decode cX6_ticks 177 = .ok (.iconst 1, 1) := by decide +kernel
theorem dX6_ticks_178 : decode cX6_ticks 178 = .ok (.goto 4, 3) := by decide +kernel
theorem dX6_ticks_181 : decode cX6_ticks 181 = .ok (.iconst 0, 1) := by decide +kernel
theorem dX6_ticks_182 : decode cX6_ticks 182 = .ok (.istore_n 3, 1) := by decide +kernel
theorem dX6_ticks_183 : decode cX6_ticks 183 = .ok (.iload_n 3, 1) := by decide +kernel
theorem dX6_ticks_184 : decode cX6_ticks 184 = .ok (.ifCond .eq 50, 3) := by decide +kernel
theorem dX6_ticks_187 : decode cX6_ticks 187 = .ok (.aload_n 0, 1) := by decide +kernel
theorem dX6_ticks_188 : decode cX6_ticks 188 = .ok (.getfield 7, 3) := by decide +kernel
theorem dX6_ticks_191 : decode cX6_ticks 191 = .ok (.iload_n 2, 1) := by decide +kernel
theorem dX6_ticks_192 : decode cX6_ticks 192 = .ok (.iconst 4, 1) := by decide +kernel
theorem dX6_ticks_193 : decode cX6_ticks 193 = .ok (.invokestatic 47, 3) := by decide +kernel
theorem dX6_ticks_196 : decode cX6_ticks 196 = .ok (.aload_n 0, 1) := by decide +kernel
theorem dX6_ticks_197 : decode cX6_ticks 197 = .ok (.getfield 7, 3) := by decide +kernel
theorem dX6_ticks_200 : decode cX6_ticks 200 = .ok (.iconst 1, 1) := by decide +kernel
theorem dX6_ticks_201 : decode cX6_ticks 201 = .ok (.iaload, 1) := by decide +kernel
theorem dX6_ticks_202 : decode cX6_ticks 202 = .ok (.aload_n 0, 1) := by decide +kernel
theorem dX6_ticks_203 : decode cX6_ticks 203 = .ok (.getfield 7, 3) := by decide +kernel
theorem dX6_ticks_206 : decode cX6_ticks 206 = .ok (.bipush 8, 2) := by decide +kernel
theorem dX6_ticks_208 : decode cX6_ticks 208 = .ok (.aload_n 0, 1) := by decide +kernel
theorem dX6_ticks_209 : decode cX6_ticks 209 = .ok (.getfield 7, 3) := by decide +kernel
theorem dX6_ticks_212 : decode cX6_ticks 212 = .ok (.iload_n 2, 1) := by decide +kernel
theorem dX6_ticks_213 : decode cX6_ticks 213 = .ok (.iconst 0, 1) := by decide +kernel
theorem dX6_ticks_214 : decode cX6_ticks 214 = .ok (.invokestatic 47, 3) := by decide +kernel
theorem dX6_ticks_217 : decode cX6_ticks 217 = .ok (.iaload, 1) := by decide +kernel
theorem dX6_ticks_218 : decode cX6_ticks 218 = .ok (.iconst 2, 1) := by decide +kernel
theorem dX6_ticks_219 : decode cX6_ticks 219 = .ok (.if_icmp .ne 7, 3) := by decide +kernel
theorem dX6_ticks_222 : decode cX6_ticks 222 = .ok (.iconst 1, 1) := by decide +kernel
theorem dX6_ticks_223 : decode cX6_ticks 223 = .ok (.goto 4, 3) := by decide +kernel
theorem dX6_ticks_226 : decode cX6_ticks 226 = .ok (.iconst 0, 1) := by decide +kernel
theorem dX6_ticks_227 : decode cX6_ticks 227 = .ok (.iadd, 1) := by decide +kernel
theorem dX6_ticks_228 : decode cX6_ticks 228 = .ok (.iaload, 1) := by decide +kernel
theorem dX6_ticks_229 : decode cX6_ticks 229 = .ok (.iadd, 1) := by decide +kernel
theorem dX6_ticks_230 : decode cX6_ticks 230 = .ok (.iastore, 1) := by decide +kernel
theorem dX6_ticks_231 : decode cX6_ticks 231 = .ok (.iinc 1 1, 3) := by decide +kernel
theorem dX6_ticks_234 : decode cX6_ticks 234 = .ok (.iinc 2 1, 3) := by decide +kernel
theorem dX6_ticks_237 : decode cX6_ticks 237 = .ok (.goto (-140), 3) := by decide +kernel
theorem dX6_ticks_240 : decode cX6_ticks 240 = .ok (.return_, 1) := by decide +kernel
theorem dX6_tick_0 : decode cX6_tick 0 = .ok (.iload_n 1, 1) := by decide +kernel
theorem dX6_tick_1 : decode cX6_tick 1 = .ok (.iconst 1, 1) := by decide +kernel
theorem dX6_tick_2 : decode cX6_tick 2 = .ok (.bipush 99, 2) := by decide +kernel
theorem dX6_tick_4 : decode cX6_tick 4 = .ok (.invokestatic 43, 3) := by decide +kernel
theorem dX6_tick_7 : decode cX6_tick 7 = .ok (.ifCond .ne 5, 3) := by decide +kernel
theorem dX6_tick_10 : decode cX6_tick 10 = .ok (.iconst (-1), 1) := by decide +kernel
theorem dX6_tick_11 : decode cX6_tick 11 = .ok (.ireturn, 1) := by decide +kernel
theorem dX6_tick_12 : decode cX6_tick 12 = .ok (.aload_n 0, 1) := by decide +kernel
theorem dX6_tick_13 : decode cX6_tick 13 = .ok (.getfield 7, 3) := by decide +kernel
theorem dX6_tick_16 : decode cX6_tick 16 = .ok (.iconst 1, 1) := by decide +kernel
theorem dX6_tick_17 : decode cX6_tick 17 = .ok (.iaload, 1) := by decide +kernel
theorem dX6_tick_18 : decode cX6_tick 18 = .ok (.iload_n 1, 1) := by decide +kernel
theorem dX6_tick_19 : decode cX6_tick 19 = .ok (.iadd, 1) := by decide +kernel
theorem dX6_tick_20 : decode cX6_tick 20 = .ok (.ldc 116, 2) := by decide +kernel
theorem dX6_tick_22 : decode cX6_tick 22 = .ok (.if_icmp .le 6, 3) := by decide +kernel
theorem dX6_tick_25 : decode cX6_tick 25 = .ok (.bipush (-3), 2) := by decide +kernel
theorem dX6_tick_27 : decode cX6_tick 27 = .ok (.ireturn, 1) := by decide +kernel
theorem dX6_tick_28 : decode cX6_tick 28 = .ok (.aload_n 0, 1) := by decide +kernel
theorem dX6_tick_29 : decode cX6_tick 29 = .ok (.aload_n 0, 1) := by decide +kernel
theorem dX6_tick_30 : decode cX6_tick 30 = .ok (.getfield 7, 3) := by decide +kernel
theorem dX6_tick_33 : decode cX6_tick 33 = .ok (.invokevirtual 81, 3) := by decide +kernel
theorem dX6_tick_36 : decode cX6_tick 36 = .ok (.aload_n 0, 1) := by decide +kernel
theorem dX6_tick_37 : decode cX6_tick 37 = .ok (.getfield 7, 3) := by decide +kernel
theorem dX6_tick_40 : decode cX6_tick 40 = .ok (.iconst 4, 1) := by decide +kernel
theorem dX6_tick_41 : decode cX6_tick 41 = .ok (.iaload, 1) := by decide +kernel
theorem dX6_tick_42 : decode cX6_tick 42 = .ok (.istore_n 2, 1) := by decide +kernel
theorem dX6_tick_43 : decode cX6_tick 43 = .ok (.iconst 0, 1) := by decide +kernel
theorem dX6_tick_44 : decode cX6_tick 44 = .ok (.istore_n 3, 1) := by decide +kernel
theorem dX6_tick_45 : decode cX6_tick 45 = .ok (.iload_n 3, 1) := by decide +kernel
theorem dX6_tick_46 : decode cX6_tick 46 = .ok (.iload_n 1, 1) := by decide +kernel
theorem dX6_tick_47 : decode cX6_tick 47 = .ok (.if_icmp .ge 13, 3) := by decide +kernel
theorem dX6_tick_50 : decode cX6_tick 50 = .ok (.aload_n 0, 1) := by decide +kernel
theorem dX6_tick_51 : decode cX6_tick 51 = .ok (.invokevirtual 117, 3) := by decide +kernel
theorem dX6_tick_54 : decode cX6_tick 54 = .ok (.iinc 3 1, 3) := by decide +kernel
theorem dX6_tick_57 : decode cX6_tick 57 = .ok (.goto (-12), 3) := by decide +kernel
theorem dX6_tick_60 : decode cX6_tick 60 = .ok (.aload_n 0, 1) := by decide +kernel
theorem dX6_tick_61 : decode cX6_tick 61 = .ok (.getfield 7, 3) := by decide +kernel
theorem dX6_tick_64 : decode cX6_tick 64 = .ok (.iconst 4, 1) := by decide +kernel
theorem dX6_tick_65 : decode cX6_tick 65 = .ok (.iaload, 1) := by decide +kernel
theorem dX6_tick_66 : decode cX6_tick 66 = .ok (.iload_n 2, 1) := by decide +kernel
theorem dX6_tick_67 : decode cX6_tick 67 = .ok (.isub, 1) := by decide +kernel
theorem dX6_tick_68 : decode cX6_tick 68 = .ok (.ireturn, 1) := by decide +kernel
theorem dX6_set_0 : decode cX6_set 0 = .ok (.iload_n 1, 1) := by decide +kernel
theorem dX6_set_1 : decode cX6_set 1 = .ok (.ifCond .eq 8, 3) := by decide +kernel
theorem dX6_set_4 : decode cX6_set 4 = .ok (.iload_n 1, 1) := by decide +kernel
theorem dX6_set_5 : decode cX6_set 5 = .ok (.iconst 1, 1) := by decide +kernel
theorem dX6_set_6 : decode cX6_set 6 = .ok (.if_icmp .ne 13, 3) := by decide +kernel
theorem dX6_set_9 : decode cX6_set 9 = .ok (.iload_n 2, 1) := by decide +kernel
theorem dX6_set_10 : decode cX6_set 10 = .ok (.iconst 1, 1) := by decide +kernel
theorem dX6_set_11 : decode cX6_set 11 = .ok (.bipush 9, 2) := by decide +kernel
theorem dX6_set_13 : decode cX6_set 13 = .ok (.invokestatic 43, 3) := by decide +kernel
theorem dX6_set_16 : decode cX6_set 16 = .ok (.goto 37, 3) := by decide +kernel
theorem dX6_set_19 : decode cX6_set 19 = .ok (.iload_n 1, 1) := by decide +kernel
theorem dX6_set_20 : decode cX6_set 20 = .ok (.iconst 2, 1) := by decide +kernel
theorem dX6_set_21 : decode cX6_set 21 = .ok (.if_icmp .ne 13, 3) := by decide +kernel
theorem dX6_set_24 : decode cX6_set 24 = .ok (.iload_n 2, 1) := by decide +kernel
theorem dX6_set_25 : decode cX6_set 25 = .ok (.iconst 0, 1) := by decide +kernel
theorem dX6_set_26 : decode cX6_set 26 = .ok (.bipush 9, 2) := by decide +kernel
theorem dX6_set_28 : decode cX6_set 28 = .ok (.invokestatic 43, 3) := by decide +kernel
theorem dX6_set_31 : decode cX6_set 31 = .ok (.goto 22, 3) := by decide +kernel
theorem dX6_set_34 : decode cX6_set 34 = .ok (.iload_n 1, 1) := by decide +kernel
theorem dX6_set_35 : decode cX6_set 35 = .ok (.iconst 3, 1) := by decide +kernel
theorem dX6_set_36 : decode cX6_set 36 = .ok (.if_icmp .ne 16, 3) := by decide +kernel
theorem dX6_set_39 : decode cX6_set 39 = .ok (.iload_n 2, 1) := by decide +kernel
theorem dX6_set_40 : decode cX6_set 40 = .ok (.iconst 1, 1) := by decide +kernel
theorem dX6_set_41 : decode cX6_set 41 = .ok (.iconst 3, 1) := by decide +kernel
theorem dX6_set_42 : decode cX6_set 42 = .ok (.invokestatic 43, 3) := by decide +kernel
theorem dX6_set_45 : decode cX6_set 45 = .ok (.ifCond .eq 7, 3) := by decide +kernel
theorem dX6_set_48 : decode cX6_set 48 = .ok (.iconst 1, 1) := by decide +kernel
theorem dX6_set_49 : decode cX6_set 49 = .ok (.goto 4, 3) := by decide +kernel
theorem dX6_set_52 : decode cX6_set 52 = .ok (.iconst 0, 1) := by decide +kernel
theorem dX6_set_53 : decode cX6_set 53 = .ok (.istore_n 3, 1) := by decide +kernel
theorem dX6_set_54 : decode cX6_set 54 = .ok (.iload_n 3, 1) := by decide +kernel
theorem dX6_set_55 : decode cX6_set 55 = .ok (.ifCond .ne 5, 3) := by decide +kernel
theorem dX6_set_58 : decode cX6_set 58 = .ok (.iconst (-1), 1) := by decide +kernel
theorem dX6_set_59 : decode cX6_set 59 = .ok (.ireturn, 1) := by decide +kernel
theorem dX6_set_60 : decode cX6_set 60 = .ok (.aload_n 0, 1) := by decide +kernel
theorem dX6_set_61 : decode cX6_set 61 = .ok (.aload_n 0, 1) := by decide +kernel
theorem dX6_set_62 : decode cX6_set 62 = .ok (.getfield 7, 3) := by decide +kernel
theorem dX6_set_65 : decode cX6_set 65 = .ok (.invokevirtual 81, 3) := by decide +kernel
theorem dX6_set_68 : decode cX6_set 68 = .ok (.aload_n 0, 1) := by decide +kernel
theorem dX6_set_69 : decode cX6_set 69 = .ok (.getfield 7, 3) := by decide +kernel
theorem dX6_set_72 : decode cX6_set 72 = .ok (.bipush 8, 2) := by decide +kernel
theorem dX6_set_74 : decode cX6_set 74 = .ok (.iload_n 1, 1) := by decide +kernel
theorem dX6_set_75 : decode cX6_set 75 = .ok (.iadd, 1) := by decide +kernel
theorem dX6_set_76 : decode cX6_set 76 = .ok (.iaload, 1) := by decide +kernel
theorem dX6_set_77 : decode cX6_set 77 = .ok (.istore 4, 2) := by decide +kernel
theorem dX6_set_79 : decode cX6_set 79 = .ok (.aload_n 0, 1) := by decide +kernel
theorem dX6_set_80 : decode cX6_set 80 = .ok (.getfield 7, 3) := by decide +kernel
theorem dX6_set_83 : decode cX6_set 83 = .ok (.bipush 8, 2) := by decide +kernel
theorem dX6_set_85 : decode cX6_set 85 = .ok (.iload_n 1, 1) := by decide +kernel
theorem dX6_set_86 : decode cX6_set 86 = .ok (.iadd, 1) := by decide +kernel
theorem dX6_set_87 : decode cX6_set 87 = .ok (.iload_n 2, 1) := by decide +kernel
theorem dX6_set_88 : decode cX6_set 88 = .ok (.iastore, 1) := by decide +kernel
theorem dX6_set_89 : decode cX6_set 89 = .ok (.iload 4, 2) := by decide +kernel
theorem dX6_set_91 : decode cX6_set 91 = .ok (.ireturn, 1) := by decide +kernel
theorem dX6_mark_0 : decode cX6_mark 0 = .ok (.aload_n 0, 1) := by decide +kernel
theorem dX6_mark_1 : decode cX6_mark 1 = .ok (.getfield 7, 3) := by decide +kernel
theorem dX6_mark_4 : decode cX6_mark 4 = .ok (.iconst 2, 1) := by decide +kernel
theorem dX6_mark_5 : decode cX6_mark 5 = .ok (.iaload, 1) := by decide +kernel
theorem dX6_mark_6 : decode cX6_mark 6 = .ok (.iconst 3, 1) := by decide +kernel
theorem dX6_mark_7 : decode cX6_mark 7 = .ok (.if_icmp .ne 6, 3) := by decide +kernel
theorem dX6_mark_10 : decode cX6_mark 10 = .ok (.bipush (-3), 2) := by decide +kernel
theorem dX6_mark_12 : decode cX6_mark 12 = .ok (.ireturn, 1) := by decide +kernel
theorem dX6_mark_13 : decode cX6_mark 13 = .ok (.aload_n 0, 1) := by decide +kernel
theorem dX6_mark_14 : decode cX6_mark 14 = .ok (.aload_n 0, 1) := by decide +kernel
theorem dX6_mark_15 : decode cX6_mark 15 = .ok (.getfield 7, 3) := by decide +kernel
theorem dX6_mark_18 : decode cX6_mark 18 = .ok (.invokevirtual 81, 3) := by decide +kernel
theorem dX6_mark_21 : decode cX6_mark 21 = .ok (.iconst 0, 1) := by decide +kernel
theorem dX6_mark_22 : decode cX6_mark 22 = .ok (.istore_n 1, 1) := by decide +kernel
theorem dX6_mark_23 : decode cX6_mark 23 = .ok (.iload_n 1, 1) := by decide +kernel
theorem dX6_mark_24 : decode cX6_mark 24 = .ok (.bipush 16, 2) := by decide +kernel
theorem dX6_mark_26 : decode cX6_mark 26 = .ok (.if_icmp .ge 37, 3) := by decide +kernel
