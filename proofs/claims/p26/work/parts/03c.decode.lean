theorem dX12_ofState_25 : decode cX12_ofState 25 = .ok (.ishl, 1) := by decide +kernel
theorem dX12_ofState_26 : decode cX12_ofState 26 = .ok (.goto 4, 3) := by decide +kernel
theorem dX12_ofState_29 : decode cX12_ofState 29 = .ok (.iconst 0, 1) := by decide +kernel
theorem dX12_ofState_30 : decode cX12_ofState 30 = .ok (.ior, 1) := by decide +kernel
theorem dX12_ofState_31 : decode cX12_ofState 31 = .ok (.istore_n 2, 1) := by decide +kernel
theorem dX12_ofState_32 : decode cX12_ofState 32 = .ok (.iinc 3 1, 3) := by decide +kernel
theorem dX12_ofState_35 : decode cX12_ofState 35 = .ok (.goto (-31), 3) := by decide +kernel
theorem dX12_ofState_38 : decode cX12_ofState 38 = .ok (.iload_n 2, 1) := by decide +kernel
theorem dX12_ofState_39 : decode cX12_ofState 39 = .ok (.ireturn, 1) := by decide +kernel
theorem dX12_drawn_0 : decode cX12_drawn 0 = .ok (.aload_n 0, 1) := by decide +kernel
theorem dX12_drawn_1 : decode cX12_drawn 1 = .ok (.getfield 13, 3) := by decide +kernel
theorem dX12_drawn_4 : decode cX12_drawn 4 = .ok (.bipush 11, 2) := by decide +kernel
theorem dX12_drawn_6 : decode cX12_drawn 6 = .ok (.ldc 74, 2) := by decide +kernel
theorem dX12_drawn_8 : decode cX12_drawn 8 = .ok (.aload_n 0, 1) := by decide +kernel
theorem dX12_drawn_9 : decode cX12_drawn 9 = .ok (.getfield 13, 3) := by decide +kernel
theorem dX12_drawn_12 : decode cX12_drawn 12 = .ok (.bipush 11, 2) := by decide +kernel
theorem dX12_drawn_14 : decode cX12_drawn 14 = .ok (.iaload, 1) := by decide +kernel
theorem dX12_drawn_15 : decode cX12_drawn 15 = .ok (.imul, 1) := by decide +kernel
theorem dX12_drawn_16 : decode cX12_drawn 16 = .ok (.sipush 12345, 3) := by decide +kernel
theorem dX12_drawn_19 : decode cX12_drawn 19 = .ok (.iadd, 1) := by decide +kernel
theorem dX12_drawn_20 : decode cX12_drawn 20 = .ok (.iastore, 1) := by decide +kernel
theorem dX12_drawn_21 : decode cX12_drawn 21 = .ok (.aload_n 0, 1) := by decide +kernel
theorem dX12_drawn_22 : decode cX12_drawn 22 = .ok (.getfield 13, 3) := by decide +kernel
theorem dX12_drawn_25 : decode cX12_drawn 25 = .ok (.bipush 11, 2) := by decide +kernel
theorem dX12_drawn_27 : decode cX12_drawn 27 = .ok (.iaload, 1) := by decide +kernel
theorem dX12_drawn_28 : decode cX12_drawn 28 = .ok (.bipush 16, 2) := by decide +kernel
theorem dX12_drawn_30 : decode cX12_drawn 30 = .ok (.ishr, 1) := by decide +kernel
theorem dX12_drawn_31 : decode cX12_drawn 31 = .ok (.sipush 32767, 3) := by decide +kernel
theorem dX12_drawn_34 : decode cX12_drawn 34 = .ok (.iand, 1) := by decide +kernel
theorem dX12_drawn_35 : decode cX12_drawn 35 = .ok (.iload_n 1, 1) := by decide +kernel
theorem dX12_drawn_36 : decode cX12_drawn 36 = .ok (.irem, 1) := by decide +kernel
theorem dX12_drawn_37 : decode cX12_drawn 37 = .ok (.ireturn, 1) := by decide +kernel
theorem dX12_feed_0 : decode cX12_feed 0 = .ok (.aload_n 0, 1) := by decide +kernel
theorem dX12_feed_1 : decode cX12_feed 1 = .ok (.iconst 0, 1) := by decide +kernel
theorem dX12_feed_2 : decode cX12_feed 2 = .ok (.putfield 3, 3) := by decide +kernel
theorem dX12_feed_5 : decode cX12_feed 5 = .ok (.aload_n 0, 1) := by decide +kernel
theorem dX12_feed_6 : decode cX12_feed 6 = .ok (.getfield 75, 3) := by decide +kernel
theorem dX12_feed_9 : decode cX12_feed 9 = .ok (.bipush 20, 2) := by decide +kernel
theorem dX12_feed_11 : decode cX12_feed 11 = .ok (.iadd, 1) := by decide +kernel
theorem dX12_feed_12 : decode cX12_feed 12 = .ok (.sipush 400, 3) := by decide +kernel
theorem dX12_feed_15 : decode cX12_feed 15 = .ok (.if_icmp .le 5, 3) := by decide +kernel
theorem dX12_feed_18 : decode cX12_feed 18 = .ok (.iconst (-1), 1) := by decide +kernel
theorem dX12_feed_19 : decode cX12_feed 19 = .ok (.ireturn, 1) := by decide +kernel
theorem dX12_feed_20 : decode cX12_feed 20 = .ok (.aload_n 0, 1) := by decide +kernel
theorem dX12_feed_21 : decode cX12_feed 21 = .ok (.getfield 36, 3) := by decide +kernel
theorem dX12_feed_24 : decode cX12_feed 24 = .ok (.iconst 0, 1) := by decide +kernel
theorem dX12_feed_25 : decode cX12_feed 25 = .ok (.iload_n 1, 1) := by decide +kernel
theorem dX12_feed_26 : decode cX12_feed 26 = .ok (.iastore, 1) := by decide +kernel
theorem dX12_feed_27 : decode cX12_feed 27 = .ok (.aload_n 0, 1) := by decide +kernel
theorem dX12_feed_28 : decode cX12_feed 28 = .ok (.getfield 36, 3) := by decide +kernel
theorem dX12_feed_31 : decode cX12_feed 31 = .ok (.iconst 1, 1) := by decide +kernel
theorem dX12_feed_32 : decode cX12_feed 32 = .ok (.iload_n 2, 1) := by decide +kernel
theorem dX12_feed_33 : decode cX12_feed 33 = .ok (.iastore, 1) := by decide +kernel
theorem dX12_feed_34 : decode cX12_feed 34 = .ok (.aload_n 0, 1) := by decide +kernel
theorem dX12_feed_35 : decode cX12_feed 35 = .ok (.getfield 36, 3) := by decide +kernel
theorem dX12_feed_38 : decode cX12_feed 38 = .ok (.iconst 2, 1) := by decide +kernel
theorem dX12_feed_39 : decode cX12_feed 39 = .ok (.iload_n 3, 1) := by decide +kernel
theorem dX12_feed_40 : decode cX12_feed 40 = .ok (.iastore, 1) := by decide +kernel
theorem dX12_feed_41 : decode cX12_feed 41 = .ok (.aload_n 0, 1) := by decide +kernel
theorem dX12_feed_42 : decode cX12_feed 42 = .ok (.getfield 36, 3) := by decide +kernel
theorem dX12_feed_45 : decode cX12_feed 45 = .ok (.iconst 3, 1) := by decide +kernel
theorem dX12_feed_46 : decode cX12_feed 46 = .ok (.iload 4, 2) := by decide +kernel
theorem dX12_feed_48 : decode cX12_feed 48 = .ok (.iastore, 1) := by decide +kernel
theorem dX12_feed_49 : decode cX12_feed 49 = .ok (.aload_n 0, 1) := by decide +kernel
theorem dX12_feed_50 : decode cX12_feed 50 = .ok (.getfield 36, 3) := by decide +kernel
theorem dX12_feed_53 : decode cX12_feed 53 = .ok (.iconst 4, 1) := by decide +kernel
theorem dX12_feed_54 : decode cX12_feed 54 = .ok (.iload 5, 2) := by decide +kernel
theorem dX12_feed_56 : decode cX12_feed 56 = .ok (.iastore, 1) := by decide +kernel
theorem dX12_feed_57 : decode cX12_feed 57 = .ok (.iconst 0, 1) := by decide +kernel
theorem dX12_feed_58 : decode cX12_feed 58 = .ok (.istore 6, 2) := by decide +kernel
theorem dX12_feed_60 : decode cX12_feed 60 = .ok (.iload 6, 2) := by decide +kernel
theorem dX12_feed_62 : decode cX12_feed 62 = .ok (.bipush 20, 2) := by decide +kernel
theorem dX12_feed_64 : decode cX12_feed 64 = .ok (.if_icmp .ge 42, 3) := by decide +kernel
theorem dX12_feed_67 : decode cX12_feed 67 = .ok (.aload_n 0, 1) := by decide +kernel
theorem dX12_feed_68 : decode cX12_feed 68 = .ok (.getfield 29, 3) := by decide +kernel
theorem dX12_feed_71 : decode cX12_feed 71 = .ok (.aload_n 0, 1) := by decide +kernel
theorem dX12_feed_72 : decode cX12_feed 72 = .ok (.getfield 75, 3) := by decide +kernel
theorem dX12_feed_75 : decode cX12_feed 75 = .ok (.iload 6, 2) := by decide +kernel
theorem dX12_feed_77 : decode cX12_feed 77 = .ok (.iadd, 1) := by decide +kernel
theorem dX12_feed_78 : decode cX12_feed 78 = .ok (.aload_n 0, 1) := by decide +kernel
theorem dX12_feed_79 : decode cX12_feed 79 = .ok (.getfield 36, 3) := by decide +kernel
theorem dX12_feed_82 : decode cX12_feed 82 = .ok (.iload 6, 2) := by decide +kernel
theorem dX12_feed_84 : decode cX12_feed 84 = .ok (.iconst 4, 1) := by decide +kernel
theorem dX12_feed_85 : decode cX12_feed 85 = .ok (.idiv, 1) := by decide +kernel
theorem dX12_feed_86 : decode cX12_feed 86 = .ok (.iaload, 1) := by decide +kernel
theorem dX12_feed_87 : decode cX12_feed 87 = .ok (.bipush 24, 2) := by decide +kernel
theorem dX12_feed_89 : decode cX12_feed 89 = .ok (.bipush 8, 2) := by decide +kernel
theorem dX12_feed_91 : decode cX12_feed 91 = .ok (.iload 6, 2) := by decide +kernel
theorem dX12_feed_93 : decode cX12_feed 93 = .ok (.iconst 4, 1) := by decide +kernel
theorem dX12_feed_94 : decode cX12_feed 94 = .ok (.irem, 1) := by decide +kernel
theorem dX12_feed_95 : decode cX12_feed 95 = .ok (.imul, 1) := by decide +kernel
theorem dX12_feed_96 : decode cX12_feed 96 = .ok (.isub, 1) := by decide +kernel
theorem dX12_feed_97 : decode cX12_feed 97 = .ok (.ishr, 1) := by decide +kernel
theorem dX12_feed_98 : decode cX12_feed 98 = .ok (.i2b, 1) := by decide +kernel
theorem dX12_feed_99 : decode cX12_feed 99 = .ok (.bastore, 1) := by decide +kernel
theorem dX12_feed_100 : decode cX12_feed 100 = .ok (.iinc 6 1, 3) := by decide +kernel
theorem dX12_feed_103 : decode cX12_feed 103 = .ok (.goto (-43), 3) := by decide +kernel
theorem dX12_feed_106 : decode cX12_feed 106 = .ok (.aload_n 0, 1) := by decide +kernel
theorem dX12_feed_107 : decode cX12_feed 107 = .ok (.dup, 1) := by decide +kernel
theorem dX12_feed_108 : decode cX12_feed 108 = .ok (.getfield 75, 3) := by decide +kernel
theorem dX12_feed_111 : decode cX12_feed 111 = .ok (.bipush 20, 2) := by decide +kernel
theorem dX12_feed_113 : decode cX12_feed 113 = .ok (.iadd, 1) := by decide +kernel
theorem dX12_feed_114 : decode cX12_feed 114 = .ok (.putfield 75, 3) := by decide +kernel
theorem dX12_feed_117 : decode cX12_feed 117 = .ok (.aload_n 0, 1) := by decide +kernel
theorem dX12_feed_118 : decode cX12_feed 118 = .ok (.getfield 75, 3) := by decide +kernel
theorem dX12_feed_121 : decode cX12_feed 121 = .ok (.ireturn, 1) := by decide +kernel
theorem dX12_end_0 : decode cX12_end 0 = .ok (.aload_n 0, 1) := by decide +kernel
theorem dX12_end_1 : decode cX12_end 1 = .ok (.iconst 0, 1) := by decide +kernel
theorem dX12_end_2 : decode cX12_end 2 = .ok (.putfield 3, 3) := by decide +kernel
theorem dX12_end_5 : decode cX12_end 5 = .ok (.iload_n 1, 1) := by decide +kernel
theorem dX12_end_6 : decode cX12_end 6 = .ok (.ifCond .lt 11, 3) := by decide +kernel
theorem dX12_end_9 : decode cX12_end 9 = .ok (.iload_n 1, 1) := by decide +kernel
theorem dX12_end_10 : decode cX12_end 10 = .ok (.aload_n 0, 1) := by decide +kernel
theorem dX12_end_11 : decode cX12_end 11 = .ok (.getfield 75, 3) := by decide +kernel
theorem dX12_end_14 : decode cX12_end 14 = .ok (.if_icmp .le 5, 3) := by decide +kernel
theorem dX12_end_17 : decode cX12_end 17 = .ok (.iconst 0, 1) := by decide +kernel
theorem dX12_end_18 : decode cX12_end 18 = .ok (.ireturn, 1) := by decide +kernel
theorem dX12_end_19 : decode cX12_end 19 = .ok (.aload_n 0, 1) := by decide +kernel
theorem dX12_end_20 : decode cX12_end 20 = .ok (.iload_n 1, 1) := by decide +kernel
theorem dX12_end_21 : decode cX12_end 21 = .ok (.putfield 75, 3) := by decide +kernel
theorem dX12_end_24 : decode cX12_end 24 = .ok (.iconst 1, 1) := by decide +kernel
theorem dX12_end_25 : decode cX12_end 25 = .ok (.ireturn, 1) := by decide +kernel
theorem dX12_isAt_0 : decode cX12_isAt 0 = .ok (.aload_n 0, 1) := by decide +kernel
theorem dX12_isAt_1 : decode cX12_isAt 1 = .ok (.getfield 78, 3) := by decide +kernel
theorem dX12_isAt_4 : decode cX12_isAt 4 = .ok (.aload_n 0, 1) := by decide +kernel
theorem dX12_isAt_5 : decode cX12_isAt 5 = .ok (.getfield 81, 3) := by decide +kernel
theorem dX12_isAt_8 : decode cX12_isAt 8 = .ok (.if_icmp .ge 33, 3) := by decide +kernel
theorem dX12_isAt_11 : decode cX12_isAt 11 = .ok (.aload_n 0, 1) := by decide +kernel
theorem dX12_isAt_12 : decode cX12_isAt 12 = .ok (.getfield 29, 3) := by decide +kernel
theorem dX12_isAt_15 : decode cX12_isAt 15 = .ok (.aload_n 0, 1) := by decide +kernel
theorem dX12_isAt_16 : decode cX12_isAt 16 = .ok (.getfield 78, 3) := by decide +kernel
theorem dX12_isAt_19 : decode cX12_isAt 19 = .ok (.baload, 1) := by decide +kernel
theorem dX12_isAt_20 : decode cX12_isAt 20 = .ok (.iload_n 1, 1) := by decide +kernel
theorem dX12_isAt_21 : decode cX12_isAt 21 = .ok (.if_icmp .lt 20, 3) := by decide +kernel
theorem dX12_isAt_24 : decode cX12_isAt 24 = .ok (.aload_n 0, 1) := by decide +kernel
theorem dX12_isAt_25 : decode cX12_isAt 25 = .ok (.getfield 29, 3) := by decide +kernel
theorem dX12_isAt_28 : decode cX12_isAt 28 = .ok (.aload_n 0, 1) := by decide +kernel
theorem dX12_isAt_29 : decode cX12_isAt 29 = .ok (.getfield 78, 3) := by decide +kernel
theorem dX12_isAt_32 : decode cX12_isAt 32 = .ok (.baload, 1) := by decide +kernel
theorem dX12_isAt_33 : decode cX12_isAt 33 = .ok (.iload_n 2, 1) := by decide +kernel
theorem dX12_isAt_34 : decode cX12_isAt 34 = .ok (.if_icmp .gt 7, 3) := by decide +kernel
theorem dX12_isAt_37 : decode cX12_isAt 37 = .ok (.iconst 1, 1) := by decide +kernel
theorem dX12_isAt_38 : decode cX12_isAt 38 = .ok (.goto 4, 3) := by decide +kernel
theorem dX12_isAt_41 : decode cX12_isAt 41 = .ok (.iconst 0, 1) := by decide +kernel
theorem dX12_isAt_42 : decode cX12_isAt 42 = .ok (.ireturn, 1) := by decide +kernel
theorem dX12_blanks_0 : decode cX12_blanks 0 = .ok (.aload_n 0, 1) := by decide +kernel
theorem dX12_blanks_1 : decode cX12_blanks 1 = .ok (.bipush 32, 2) := by decide +kernel
theorem dX12_blanks_3 : decode cX12_blanks 3 = .ok (.bipush 32, 2) := by decide +kernel
theorem dX12_blanks_5 : decode cX12_blanks 5 = .ok (.invokevirtual 84, 3) := by decide +kernel
theorem dX12_blanks_8 : decode cX12_blanks 8 = .ok (.ifCond .eq 16, 3) := by decide +kernel
theorem dX12_blanks_11 : decode cX12_blanks 11 = .ok (.aload_n 0, 1) := by decide +kernel
theorem dX12_blanks_12 : decode cX12_blanks 12 = .ok (.dup, 1) := by decide +kernel
theorem dX12_blanks_13 : decode cX12_blanks 13 = .ok (.getfield 78, 3) := by decide +kernel
theorem dX12_blanks_16 : decode cX12_blanks 16 = .ok (.iconst 1, 1) := by decide +kernel
theorem dX12_blanks_17 : decode cX12_blanks 17 = .ok (.iadd, 1) := by decide +kernel
theorem dX12_blanks_18 : decode cX12_blanks 18 = .ok (.putfield 78, 3) := by decide +kernel
theorem dX12_blanks_21 : decode cX12_blanks 21 = .ok (.goto (-21), 3) := by decide +kernel
theorem dX12_blanks_24 : decode cX12_blanks 24 = .ok (.aload_n 0, 1) := by decide +kernel
theorem dX12_blanks_25 : decode cX12_blanks 25 = .ok (.aload_n 0, 1) := by decide +kernel
theorem dX12_blanks_26 : decode cX12_blanks 26 = .ok (.getfield 78, 3) := by decide +kernel
theorem dX12_blanks_29 : decode cX12_blanks 29 = .ok (.putfield 87, 3) := by decide +kernel
theorem dX12_blanks_32 : decode cX12_blanks 32 = .ok (.return_, 1) := by decide +kernel
theorem dX12_letters_0 : decode cX12_letters 0 = .ok (.aload_n 0, 1) := by decide +kernel
theorem dX12_letters_1 : decode cX12_letters 1 = .ok (.invokevirtual 90, 3) := by decide +kernel
theorem dX12_letters_4 : decode cX12_letters 4 = .ok (.aload_n 0, 1) := by decide +kernel
theorem dX12_letters_5 : decode cX12_letters 5 = .ok (.bipush 97, 2) := by decide +kernel
theorem dX12_letters_7 : decode cX12_letters 7 = .ok (.bipush 122, 2) := by decide +kernel
theorem dX12_letters_9 : decode cX12_letters 9 = .ok (.invokevirtual 84, 3) := by decide +kernel
theorem dX12_letters_12 : decode cX12_letters 12 = .ok (.ifCond .eq 16, 3) := by decide +kernel
theorem dX12_letters_15 : decode cX12_letters 15 = .ok (.aload_n 0, 1) := by decide +kernel
theorem dX12_letters_16 : decode cX12_letters 16 = .ok (.dup, 1) := by decide +kernel
theorem dX12_letters_17 : decode cX12_letters 17 = .ok (.getfield 78, 3) := by decide +kernel
theorem dX12_letters_20 : decode cX12_letters 20 = .ok (.iconst 1, 1) := by decide +kernel
theorem dX12_letters_21 : decode cX12_letters 21 = .ok (.iadd, 1) := by decide +kernel
theorem dX12_letters_22 : decode cX12_letters 22 = .ok (.putfield 78, 3) := by decide +kernel
theorem dX12_letters_25 : decode cX12_letters 25 = .ok (.goto (-21), 3) := by decide +kernel
theorem dX12_letters_28 : decode cX12_letters 28 = .ok (.return_, 1) := by decide +kernel
theorem dX12_isWord_0 : decode cX12_isWord 0 = .ok (.aload_n 0, 1) := by decide +kernel
theorem dX12_isWord_1 : decode cX12_isWord 1 = .ok (.getfield 78, 3) := by decide +kernel
theorem dX12_isWord_4 : decode cX12_isWord 4 = .ok (.aload_n 0, 1) := by decide +kernel
theorem dX12_isWord_5 : decode cX12_isWord 5 = .ok (.getfield 87, 3) := by decide +kernel
theorem dX12_isWord_8 : decode cX12_isWord 8 = .ok (.isub, 1) := by decide +kernel
theorem dX12_isWord_9 : decode cX12_isWord 9 = .ok (.aload_n 1, 1) := by decide +kernel
theorem dX12_isWord_10 : decode cX12_isWord 10 = .ok (.invokevirtual 93, 3) := by decide +kernel
theorem dX12_isWord_13 : decode cX12_isWord 13 = .ok (.if_icmp .ne 7, 3) := by decide +kernel
theorem dX12_isWord_16 : decode cX12_isWord 16 = .ok (.iconst 1, 1) := by decide +kernel
theorem dX12_isWord_17 : decode cX12_isWord 17 = .ok (.goto 4, 3) := by decide +kernel
theorem dX12_isWord_20 : decode cX12_isWord 20 = .ok (.iconst 0, 1) := by decide +kernel
theorem dX12_isWord_21 : decode cX12_isWord 21 = .ok (.istore_n 2, 1) := by decide +kernel
theorem dX12_isWord_22 : decode cX12_isWord 22 = .ok (.iconst 0, 1) := by decide +kernel
theorem dX12_isWord_23 : decode cX12_isWord 23 = .ok (.istore_n 3, 1) := by decide +kernel
theorem dX12_isWord_24 : decode cX12_isWord 24 = .ok (.iload_n 2, 1) := by decide +kernel
theorem dX12_isWord_25 : decode cX12_isWord 25 = .ok (.ifCond .eq 42, 3) := by decide +kernel
theorem dX12_isWord_28 : decode cX12_isWord 28 = .ok (.iload_n 3, 1) := by decide +kernel
theorem dX12_isWord_29 : decode cX12_isWord 29 = .ok (.aload_n 1, 1) := by decide +kernel
theorem dX12_isWord_30 : decode cX12_isWord 30 = .ok (.invokevirtual 93, 3) := by decide +kernel
theorem dX12_isWord_33 : decode cX12_isWord 33 = .ok (.if_icmp .ge 34, 3) := by decide +kernel
theorem dX12_isWord_36 : decode cX12_isWord 36 = .ok (.aload_n 0, 1) := by decide +kernel
theorem dX12_isWord_37 : decode cX12_isWord 37 = .ok (.getfield 29, 3) := by decide +kernel
theorem dX12_isWord_40 : decode cX12_isWord 40 = .ok (.aload_n 0, 1) := by decide +kernel
theorem dX12_isWord_41 : decode cX12_isWord 41 = .ok (.getfield 87, 3) := by decide +kernel
theorem dX12_isWord_44 : decode cX12_isWord 44 = .ok (.iload_n 3, 1) := by decide +kernel
theorem dX12_isWord_45 : decode cX12_isWord 45 = .ok (.iadd, 1) := by decide +kernel
theorem dX12_isWord_46 : decode cX12_isWord 46 = .ok (.baload, 1) := by decide +kernel
theorem dX12_isWord_47 : decode cX12_isWord 47 = .ok (.aload_n 1, 1) := by decide +kernel
theorem dX12_isWord_48 : decode cX12_isWord 48 = .ok (.iload_n 3, 1) := by decide +kernel
theorem dX12_isWord_49 : decode cX12_isWord 49 = .ok (.invokevirtual 98, 3) := by decide +kernel
theorem dX12_isWord_52 : decode cX12_isWord 52 = .ok (.if_icmp .ne 7, 3) := by decide +kernel
theorem dX12_isWord_55 : decode cX12_isWord 55 = .ok (.iconst 1, 1) := by decide +kernel
theorem dX12_isWord_56 : decode cX12_isWord 56 = .ok (.goto 4, 3) := by decide +kernel
theorem dX12_isWord_59 : decode cX12_isWord 59 = .ok (.iconst 0, 1) := by decide +kernel
theorem dX12_isWord_60 : decode cX12_isWord 60 = .ok (.istore_n 2, 1) := by decide +kernel
theorem dX12_isWord_61 : decode cX12_isWord 61 = .ok (.iinc 3 1, 3) := by decide +kernel
theorem dX12_isWord_64 : decode cX12_isWord 64 = .ok (.goto (-40), 3) := by decide +kernel
theorem dX12_isWord_67 : decode cX12_isWord 67 = .ok (.iload_n 2, 1) := by decide +kernel
theorem dX12_isWord_68 : decode cX12_isWord 68 = .ok (.ireturn, 1) := by decide +kernel
theorem dX12_passes_0 : decode cX12_passes 0 = .ok (.aload_n 0, 1) := by decide +kernel
theorem dX12_passes_1 : decode cX12_passes 1 = .ok (.invokevirtual 102, 3) := by decide +kernel
theorem dX12_passes_4 : decode cX12_passes 4 = .ok (.aload_n 0, 1) := by decide +kernel
theorem dX12_passes_5 : decode cX12_passes 5 = .ok (.aload_n 1, 1) := by decide +kernel
theorem dX12_passes_6 : decode cX12_passes 6 = .ok (.invokevirtual 105, 3) := by decide +kernel
theorem dX12_passes_9 : decode cX12_passes 9 = .ok (.ifCond .eq 5, 3) := by decide +kernel
theorem dX12_passes_12 : decode cX12_passes 12 = .ok (.iconst 1, 1) := by decide +kernel
theorem dX12_passes_13 : decode cX12_passes 13 = .ok (.ireturn, 1) := by decide +kernel
theorem dX12_passes_14 : decode cX12_passes 14 = .ok (.aload_n 0, 1) := by decide +kernel
theorem dX12_passes_15 : decode cX12_passes 15 = .ok (.aload_n 0, 1) := by decide +kernel
theorem dX12_passes_16 : decode cX12_passes 16 = .ok (.getfield 87, 3) := by decide +kernel
theorem dX12_passes_19 : decode cX12_passes 19 = .ok (.putfield 78, 3) := by decide +kernel
theorem dX12_passes_22 : decode cX12_passes 22 = .ok (.iconst 0, 1) := by decide +kernel
theorem dX12_passes_23 : decode cX12_passes 23 = .ok (.ireturn, 1) := by decide +kernel
theorem dX12_sign_0 : decode cX12_sign 0 = .ok (.aload_n 0, 1) := by decide +kernel
theorem dX12_sign_1 : decode cX12_sign 1 = .ok (.invokevirtual 90, 3) := by decide +kernel
theorem dX12_sign_4 : decode cX12_sign 4 = .ok (.aload_n 0, 1) := by decide +kernel
theorem dX12_sign_5 : decode cX12_sign 5 = .ok (.iload_n 1, 1) := by decide +kernel
theorem dX12_sign_6 : decode cX12_sign 6 = .ok (.iload_n 1, 1) := by decide +kernel
theorem dX12_sign_7 : decode cX12_sign 7 = .ok (.invokevirtual 84, 3) := by decide +kernel
theorem dX12_sign_10 : decode cX12_sign 10 = .ok (.ifCond .ne 5, 3) := by decide +kernel
theorem dX12_sign_13 : decode cX12_sign 13 = .ok (.iconst 0, 1) := by decide +kernel
theorem dX12_sign_14 : decode cX12_sign 14 = .ok (.ireturn, 1) := by decide +kernel
theorem dX12_sign_15 : decode cX12_sign 15 = .ok (.aload_n 0, 1) := by decide +kernel
theorem dX12_sign_16 : decode cX12_sign 16 = .ok (.dup, 1) := by decide +kernel
theorem dX12_sign_17 : decode cX12_sign 17 = .ok (.getfield 78, 3) := by decide +kernel
theorem dX12_sign_20 : decode cX12_sign 20 = .ok (.iconst 1, 1) := by decide +kernel
theorem dX12_sign_21 : decode cX12_sign 21 = .ok (.iadd, 1) := by decide +kernel
theorem dX12_sign_22 : decode cX12_sign 22 = .ok (.putfield 78, 3) := by decide +kernel
theorem dX12_sign_25 : decode cX12_sign 25 = .ok (.iconst 1, 1) := by decide +kernel
theorem dX12_sign_26 : decode cX12_sign 26 = .ok (.ireturn, 1) := by decide +kernel
theorem dX12_number_0 : decode cX12_number 0 = .ok (.aload_n 0, 1) := by decide +kernel
theorem dX12_number_1 : decode cX12_number 1 = .ok (.invokevirtual 90, 3) := by decide +kernel
theorem dX12_number_4 : decode cX12_number 4 = .ok (.iconst 0, 1) := by decide +kernel
theorem dX12_number_5 : decode cX12_number 5 = .ok (.istore_n 3, 1) := by decide +kernel
theorem dX12_number_6 : decode cX12_number 6 = .ok (.aload_n 0, 1) := by decide +kernel
theorem dX12_number_7 : decode cX12_number 7 = .ok (.bipush 48, 2) := by decide +kernel
theorem dX12_number_9 : decode cX12_number 9 = .ok (.bipush 57, 2) := by decide +kernel
theorem dX12_number_11 : decode cX12_number 11 = .ok (.invokevirtual 84, 3) := by decide +kernel
theorem dX12_number_14 : decode cX12_number 14 = .ok (.ifCond .eq 51, 3) := by decide +kernel
theorem dX12_number_17 : decode cX12_number 17 = .ok (.aload_n 0, 1) := by decide +kernel
theorem dX12_number_18 : decode cX12_number 18 = .ok (.getfield 78, 3) := by decide +kernel
theorem dX12_number_21 : decode cX12_number 21 = .ok (.aload_n 0, 1) := by decide +kernel
theorem dX12_number_22 : decode cX12_number 22 = .ok (.getfield 87, 3) := by decide +kernel
theorem dX12_number_25 : decode cX12_number 25 = .ok (.isub, 1) := by decide +kernel
theorem dX12_number_26 : decode cX12_number 26 = .ok (.iconst 3, 1) := by decide +kernel
theorem dX12_number_27 : decode cX12_number 27 = .ok (.if_icmp .ge 23, 3) := by decide +kernel
theorem dX12_number_30 : decode cX12_number 30 = .ok (.bipush 10, 2) := by decide +kernel
theorem dX12_number_32 : decode cX12_number 32 = .ok (.iload_n 3, 1) := by decide +kernel
theorem dX12_number_33 : decode cX12_number 33 = .ok (.imul, 1) := by decide +kernel
theorem dX12_number_34 : decode cX12_number 34 = .ok (.aload_n 0, 1) := by decide +kernel
theorem dX12_number_35 : decode cX12_number 35 = .ok (.getfield 29, 3) := by decide +kernel
theorem dX12_number_38 : decode cX12_number 38 = .ok (.aload_n 0, 1) := by decide +kernel
theorem dX12_number_39 : decode cX12_number 39 = .ok (.getfield 78, 3) := by decide +kernel
theorem dX12_number_42 : decode cX12_number 42 = .ok (.baload, 1) := by decide +kernel
theorem dX12_number_43 : decode cX12_number 43 = .ok (.iadd, 1) := by decide +kernel
theorem dX12_number_44 : decode cX12_number 44 = .ok (.bipush 48, 2) := by decide +kernel
theorem dX12_number_46 : decode cX12_number 46 = .ok (.isub, 1) := by decide +kernel
theorem dX12_number_47 : decode cX12_number 47 = .ok (.goto 4, 3) := by decide +kernel
theorem dX12_number_50 : decode cX12_number 50 = .ok (.iload_n 3, 1) := by decide +kernel
theorem dX12_number_51 : decode cX12_number 51 = .ok (.istore_n 3, 1) := by decide +kernel
theorem dX12_number_52 : decode cX12_number 52 = .ok (.aload_n 0, 1) := by decide +kernel
theorem dX12_number_53 : decode cX12_number 53 = .ok (.dup, 1) := by decide +kernel
theorem dX12_number_54 : decode cX12_number 54 = .ok (.getfield 78, 3) := by decide +kernel
theorem dX12_number_57 : decode cX12_number 57 = .ok (.iconst 1, 1) := by decide +kernel
theorem dX12_number_58 : decode cX12_number 58 = .ok (.iadd, 1) := by decide +kernel
theorem dX12_number_59 : decode cX12_number 59 = .ok (.putfield 78, 3) := by decide +kernel
theorem dX12_number_62 : decode cX12_number 62 = .ok (.goto (-56), 3) := by decide +kernel
theorem dX12_number_65 : decode cX12_number 65 = .ok (.aload_n 0, 1) := by decide +kernel
theorem dX12_number_66 : decode cX12_number 66 = .ok (.getfield 78, 3) := by decide +kernel
theorem dX12_number_69 : decode cX12_number 69 = .ok (.aload_n 0, 1) := by decide +kernel
theorem dX12_number_70 : decode cX12_number 70 = .ok (.getfield 87, 3) := by decide +kernel
theorem dX12_number_73 : decode cX12_number 73 = .ok (.if_icmp .eq 26, 3) := by decide +kernel
theorem dX12_number_76 : decode cX12_number 76 = .ok (.aload_n 0, 1) := by decide +kernel
theorem dX12_number_77 : decode cX12_number 77 = .ok (.getfield 78, 3) := by decide +kernel
theorem dX12_number_80 : decode cX12_number 80 = .ok (.aload_n 0, 1) := by decide +kernel
theorem dX12_number_81 : decode cX12_number 81 = .ok (.getfield 87, 3) := by decide +kernel
theorem dX12_number_84 : decode cX12_number 84 = .ok (.isub, 1) := by decide +kernel
theorem dX12_number_85 : decode cX12_number 85 = .ok (.iconst 3, 1) := by decide +kernel
theorem dX12_number_86 : decode cX12_number 86 = .ok (.if_icmp .gt 13, 3) := by decide +kernel
theorem dX12_number_89 : decode cX12_number 89 = .ok (.iload_n 3, 1) := by decide +kernel
theorem dX12_number_90 : decode cX12_number 90 = .ok (.iload_n 1, 1) := by decide +kernel
theorem dX12_number_91 : decode cX12_number 91 = .ok (.if_icmp .lt 8, 3) := by decide +kernel
theorem dX12_number_94 : decode cX12_number 94 = .ok (.iload_n 3, 1) := by decide +kernel
theorem dX12_number_95 : decode cX12_number 95 = .ok (.iload_n 2, 1) := by decide +kernel
theorem dX12_number_96 : decode cX12_number 96 = .ok (.if_icmp .le 7, 3) := by decide +kernel
theorem dX12_number_99 : decode cX12_number 99 = .ok (.iconst (-1), 1) := by decide +kernel
theorem dX12_number_100 : decode cX12_number 100 = .ok (.goto 4, 3) := by decide +kernel
theorem dX12_number_103 : decode cX12_number 103 = .ok (.iload_n 3, 1) := by decide +kernel
theorem dX12_number_104 : decode cX12_number 104 = .ok (.ireturn, 1) := by decide +kernel
theorem dX12_after_0 : decode cX12_after 0 = .ok (.aload_n 0, 1) := by decide +kernel
theorem dX12_after_1 : decode cX12_after 1 = .ok (.invokevirtual 102, 3) := by decide +kernel
theorem dX12_after_4 : decode cX12_after 4 = .ok (.aload_n 0, 1) := by decide +kernel
theorem dX12_after_5 : decode cX12_after 5 = .ok (.aload_n 1, 1) := by decide +kernel
theorem dX12_after_6 : decode cX12_after 6 = .ok (.invokevirtual 105, 3) := by decide +kernel
theorem dX12_after_9 : decode cX12_after 9 = .ok (.ifCond .eq 12, 3) := by decide +kernel
theorem dX12_after_12 : decode cX12_after 12 = .ok (.aload_n 0, 1) := by decide +kernel
theorem dX12_after_13 : decode cX12_after 13 = .ok (.iload_n 2, 1) := by decide +kernel
theorem dX12_after_14 : decode cX12_after 14 = .ok (.iload_n 3, 1) := by decide +kernel
theorem dX12_after_15 : decode cX12_after 15 = .ok (.invokevirtual 109, 3) := by decide +kernel
theorem dX12_after_18 : decode cX12_after 18 = .ok (.goto 4, 3) := by decide +kernel
theorem dX12_after_21 : decode cX12_after 21 = .ok (.iconst (-1), 1) := by decide +kernel
theorem dX12_after_22 : decode cX12_after 22 = .ok (.ireturn, 1) := by decide +kernel
theorem dX12_fault_0 : decode cX12_fault 0 = .ok (.aload_n 0, 1) := by decide +kernel
theorem dX12_fault_1 : decode cX12_fault 1 = .ok (.iconst 0, 1) := by decide +kernel
theorem dX12_fault_2 : decode cX12_fault 2 = .ok (.putfield 3, 3) := by decide +kernel
theorem dX12_fault_5 : decode cX12_fault 5 = .ok (.aload_n 0, 1) := by decide +kernel
theorem dX12_fault_6 : decode cX12_fault 6 = .ok (.getfield 33, 3) := by decide +kernel
theorem dX12_fault_9 : decode cX12_fault 9 = .ok (.ireturn, 1) := by decide +kernel
theorem dX12_uses_0 : decode cX12_uses 0 = .ok (.aload_n 0, 1) := by decide +kernel
theorem dX12_uses_1 : decode cX12_uses 1 = .ok (.iconst 0, 1) := by decide +kernel
theorem dX12_uses_2 : decode cX12_uses 2 = .ok (.putfield 3, 3) := by decide +kernel
theorem dX12_uses_5 : decode cX12_uses 5 = .ok (.aload_n 0, 1) := by decide +kernel
theorem dX12_uses_6 : decode cX12_uses 6 = .ok (.aload_n 0, 1) := by decide +kernel
theorem dX12_uses_7 : decode cX12_uses 7 = .ok (.getfield 75, 3) := by decide +kernel
theorem dX12_uses_10 : decode cX12_uses 10 = .ok (.putfield 81, 3) := by decide +kernel
theorem dX12_uses_13 : decode cX12_uses 13 = .ok (.aload_n 0, 1) := by decide +kernel
theorem dX12_uses_14 : decode cX12_uses 14 = .ok (.iconst 0, 1) := by decide +kernel
theorem dX12_uses_15 : decode cX12_uses 15 = .ok (.putfield 75, 3) := by decide +kernel
theorem dX12_uses_18 : decode cX12_uses 18 = .ok (.aload_n 0, 1) := by decide +kernel
theorem dX12_uses_19 : decode cX12_uses 19 = .ok (.iconst 0, 1) := by decide +kernel
theorem dX12_uses_20 : decode cX12_uses 20 = .ok (.putfield 78, 3) := by decide +kernel
theorem dX12_uses_23 : decode cX12_uses 23 = .ok (.return_, 1) := by decide +kernel
theorem dX12_readNumber_0 : decode cX12_readNumber 0 = .ok (.aload_n 0, 1) := by decide +kernel
theorem dX12_readNumber_1 : decode cX12_readNumber 1 = .ok (.iload_n 2, 1) := by decide +kernel
theorem dX12_readNumber_2 : decode cX12_readNumber 2 = .ok (.iload_n 3, 1) := by decide +kernel
theorem dX12_readNumber_3 : decode cX12_readNumber 3 = .ok (.invokevirtual 109, 3) := by decide +kernel
theorem dX12_readNumber_6 : decode cX12_readNumber 6 = .ok (.istore 4, 2) := by decide +kernel
theorem dX12_readNumber_8 : decode cX12_readNumber 8 = .ok (.aload_n 0, 1) := by decide +kernel
theorem dX12_readNumber_9 : decode cX12_readNumber 9 = .ok (.getfield 13, 3) := by decide +kernel
theorem dX12_readNumber_12 : decode cX12_readNumber 12 = .ok (.iload_n 1, 1) := by decide +kernel
theorem dX12_readNumber_13 : decode cX12_readNumber 13 = .ok (.iload 4, 2) := by decide +kernel
theorem dX12_readNumber_15 : decode cX12_readNumber 15 = .ok (.ifCond .ge 12, 3) := by decide +kernel
theorem dX12_readNumber_18 : decode cX12_readNumber 18 = .ok (.aload_n 0, 1) := by decide +kernel
theorem dX12_readNumber_19 : decode cX12_readNumber 19 = .ok (.getfield 13, 3) := by decide +kernel
theorem dX12_readNumber_22 : decode cX12_readNumber 22 = .ok (.iload_n 1, 1) := by decide +kernel
theorem dX12_readNumber_23 : decode cX12_readNumber 23 = .ok (.iaload, 1) := by decide +kernel
theorem dX12_readNumber_24 : decode cX12_readNumber 24 = .ok (.goto 5, 3) := by decide +kernel
theorem dX12_readNumber_27 : decode cX12_readNumber 27 = .ok (.iload 4, 2) := by decide +kernel
theorem dX12_readNumber_29 : decode cX12_readNumber 29 = .ok (.iastore, 1) := by decide +kernel
theorem dX12_readNumber_30 : decode cX12_readNumber 30 = .ok (.iload 4, 2) := by decide +kernel
theorem dX12_readNumber_32 : decode cX12_readNumber 32 = .ok (.ifCond .lt 7, 3) := by decide +kernel
theorem dX12_readNumber_35 : decode cX12_readNumber 35 = .ok (.iconst 1, 1) := by decide +kernel
theorem dX12_readNumber_36 : decode cX12_readNumber 36 = .ok (.goto 4, 3) := by decide +kernel
theorem dX12_readNumber_39 : decode cX12_readNumber 39 = .ok (.iconst 0, 1) := by decide +kernel
theorem dX12_readNumber_40 : decode cX12_readNumber 40 = .ok (.ireturn, 1) := by decide +kernel
theorem dX12_readHouse_0 : decode cX12_readHouse 0 = .ok (.aload_n 0, 1) := by decide +kernel
theorem dX12_readHouse_1 : decode cX12_readHouse 1 = .ok (.invokevirtual 59, 3) := by decide +kernel
theorem dX12_readHouse_4 : decode cX12_readHouse 4 = .ok (.istore_n 1, 1) := by decide +kernel
theorem dX12_readHouse_5 : decode cX12_readHouse 5 = .ok (.iload_n 1, 1) := by decide +kernel
theorem dX12_readHouse_6 : decode cX12_readHouse 6 = .ok (.bipush 6, 2) := by decide +kernel
theorem dX12_readHouse_8 : decode cX12_readHouse 8 = .ok (.if_icmp .ne 5, 3) := by decide +kernel
theorem dX12_readHouse_11 : decode cX12_readHouse 11 = .ok (.iconst 0, 1) := by decide +kernel
theorem dX12_readHouse_12 : decode cX12_readHouse 12 = .ok (.ireturn, 1) := by decide +kernel
theorem dX12_readHouse_13 : decode cX12_readHouse 13 = .ok (.aload_n 0, 1) := by decide +kernel
theorem dX12_readHouse_14 : decode cX12_readHouse 14 = .ok (.iconst 0, 1) := by decide +kernel
theorem dX12_readHouse_15 : decode cX12_readHouse 15 = .ok (.sipush 999, 3) := by decide +kernel
theorem dX12_readHouse_18 : decode cX12_readHouse 18 = .ok (.invokevirtual 109, 3) := by decide +kernel
theorem dX12_readHouse_21 : decode cX12_readHouse 21 = .ok (.istore_n 2, 1) := by decide +kernel
theorem dX12_readHouse_22 : decode cX12_readHouse 22 = .ok (.iload_n 2, 1) := by decide +kernel
theorem dX12_readHouse_23 : decode cX12_readHouse 23 = .ok (.ifCond .ge 7, 3) := by decide +kernel
theorem dX12_readHouse_26 : decode cX12_readHouse 26 = .ok (.iconst (-1), 1) := by decide +kernel
theorem dX12_readHouse_27 : decode cX12_readHouse 27 = .ok (.goto 12, 3) := by decide +kernel
theorem dX12_readHouse_30 : decode cX12_readHouse 30 = .ok (.aload_n 0, 1) := by decide +kernel
theorem dX12_readHouse_31 : decode cX12_readHouse 31 = .ok (.ldc 112, 2) := by decide +kernel
theorem dX12_readHouse_33 : decode cX12_readHouse 33 = .ok (.iconst 0, 1) := by decide +kernel
theorem dX12_readHouse_34 : decode cX12_readHouse 34 = .ok (.bipush 30, 2) := by decide +kernel
theorem dX12_readHouse_36 : decode cX12_readHouse 36 = .ok (.invokevirtual 114, 3) := by decide +kernel
theorem dX12_readHouse_39 : decode cX12_readHouse 39 = .ok (.istore_n 3, 1) := by decide +kernel
theorem dX12_readHouse_40 : decode cX12_readHouse 40 = .ok (.iload_n 3, 1) := by decide +kernel
theorem dX12_readHouse_41 : decode cX12_readHouse 41 = .ok (.ifCond .ge 5, 3) := by decide +kernel
theorem dX12_readHouse_44 : decode cX12_readHouse 44 = .ok (.iconst 0, 1) := by decide +kernel
theorem dX12_readHouse_45 : decode cX12_readHouse 45 = .ok (.ireturn, 1) := by decide +kernel
theorem dX12_readHouse_46 : decode cX12_readHouse 46 = .ok (.aload_n 0, 1) := by decide +kernel
theorem dX12_readHouse_47 : decode cX12_readHouse 47 = .ok (.ldc 118, 2) := by decide +kernel
theorem dX12_readHouse_49 : decode cX12_readHouse 49 = .ok (.invokevirtual 120, 3) := by decide +kernel
theorem dX12_readHouse_52 : decode cX12_readHouse 52 = .ok (.ifCond .eq 7, 3) := by decide +kernel
theorem dX12_readHouse_55 : decode cX12_readHouse 55 = .ok (.iconst 1, 1) := by decide +kernel
theorem dX12_readHouse_56 : decode cX12_readHouse 56 = .ok (.goto 4, 3) := by decide +kernel
theorem dX12_readHouse_59 : decode cX12_readHouse 59 = .ok (.iconst 0, 1) := by decide +kernel
theorem dX12_readHouse_60 : decode cX12_readHouse 60 = .ok (.istore 4, 2) := by decide +kernel
theorem dX12_readHouse_62 : decode cX12_readHouse 62 = .ok (.aload_n 0, 1) := by decide +kernel
theorem dX12_readHouse_63 : decode cX12_readHouse 63 = .ok (.ldc 123, 2) := by decide +kernel
theorem dX12_readHouse_65 : decode cX12_readHouse 65 = .ok (.invokevirtual 120, 3) := by decide +kernel
theorem dX12_readHouse_68 : decode cX12_readHouse 68 = .ok (.ifCond .eq 13, 3) := by decide +kernel
theorem dX12_readHouse_71 : decode cX12_readHouse 71 = .ok (.aload_n 0, 1) := by decide +kernel
theorem dX12_readHouse_72 : decode cX12_readHouse 72 = .ok (.iconst 0, 1) := by decide +kernel
theorem dX12_readHouse_73 : decode cX12_readHouse 73 = .ok (.bipush 100, 2) := by decide +kernel
theorem dX12_readHouse_75 : decode cX12_readHouse 75 = .ok (.invokevirtual 109, 3) := by decide +kernel
theorem dX12_readHouse_78 : decode cX12_readHouse 78 = .ok (.goto 4, 3) := by decide +kernel
theorem dX12_readHouse_81 : decode cX12_readHouse 81 = .ok (.iconst 0, 1) := by decide +kernel
theorem dX12_readHouse_82 : decode cX12_readHouse 82 = .ok (.istore 5, 2) := by decide +kernel
theorem dX12_readHouse_84 : decode cX12_readHouse 84 = .ok (.iload 5, 2) := by decide +kernel
theorem dX12_readHouse_86 : decode cX12_readHouse 86 = .ok (.ifCond .ge 5, 3) := by decide +kernel
theorem dX12_readHouse_89 : decode cX12_readHouse 89 = .ok (.iconst 0, 1) := by decide +kernel
theorem dX12_readHouse_90 : decode cX12_readHouse 90 = .ok (.ireturn, 1) := by decide +kernel
theorem dX12_readHouse_91 : decode cX12_readHouse 91 = .ok (.aload_n 0, 1) := by decide +kernel
theorem dX12_readHouse_92 : decode cX12_readHouse 92 = .ok (.getfield 13, 3) := by decide +kernel
theorem dX12_readHouse_95 : decode cX12_readHouse 95 = .ok (.iload_n 1, 1) := by decide +kernel
theorem dX12_readHouse_96 : decode cX12_readHouse 96 = .ok (.iconst 0, 1) := by decide +kernel
theorem dX12_readHouse_97 : decode cX12_readHouse 97 = .ok (.invokestatic 49, 3) := by decide +kernel
theorem dX12_readHouse_100 : decode cX12_readHouse 100 = .ok (.iload_n 2, 1) := by decide +kernel
theorem dX12_readHouse_101 : decode cX12_readHouse 101 = .ok (.iastore, 1) := by decide +kernel
theorem dX12_readHouse_102 : decode cX12_readHouse 102 = .ok (.aload_n 0, 1) := by decide +kernel
theorem dX12_readHouse_103 : decode cX12_readHouse 103 = .ok (.getfield 13, 3) := by decide +kernel
theorem dX12_readHouse_106 : decode cX12_readHouse 106 = .ok (.iload_n 1, 1) := by decide +kernel
theorem dX12_readHouse_107 : decode cX12_readHouse 107 = .ok (.iconst 1, 1) := by decide +kernel
theorem dX12_readHouse_108 : decode cX12_readHouse 108 = .ok (.invokestatic 49, 3) := by decide +kernel
theorem dX12_readHouse_111 : decode cX12_readHouse 111 = .ok (.iload 4, 2) := by decide +kernel
theorem dX12_readHouse_113 : decode cX12_readHouse 113 = .ok (.iastore, 1) := by decide +kernel
theorem dX12_readHouse_114 : decode cX12_readHouse 114 = .ok (.aload_n 0, 1) := by decide +kernel
theorem dX12_readHouse_115 : decode cX12_readHouse 115 = .ok (.getfield 13, 3) := by decide +kernel
theorem dX12_readHouse_118 : decode cX12_readHouse 118 = .ok (.iload_n 1, 1) := by decide +kernel
theorem dX12_readHouse_119 : decode cX12_readHouse 119 = .ok (.iconst 2, 1) := by decide +kernel
theorem dX12_readHouse_120 : decode cX12_readHouse 120 = .ok (.invokestatic 49, 3) := by decide +kernel
theorem dX12_readHouse_123 : decode cX12_readHouse 123 = .ok (.iload_n 3, 1) := by decide +kernel
theorem dX12_readHouse_124 : decode cX12_readHouse 124 = .ok (.iastore, 1) := by decide +kernel
theorem dX12_readHouse_125 : decode cX12_readHouse 125 = .ok (.aload_n 0, 1) := by decide +kernel
theorem dX12_readHouse_126 : decode cX12_readHouse 126 = .ok (.getfield 13, 3) := by decide +kernel
theorem dX12_readHouse_129 : decode cX12_readHouse 129 = .ok (.iload_n 1, 1) := by decide +kernel
theorem dX12_readHouse_130 : decode cX12_readHouse 130 = .ok (.iconst 3, 1) := by decide +kernel
theorem dX12_readHouse_131 : decode cX12_readHouse 131 = .ok (.invokestatic 49, 3) := by decide +kernel
theorem dX12_readHouse_134 : decode cX12_readHouse 134 = .ok (.iconst 0, 1) := by decide +kernel
theorem dX12_readHouse_135 : decode cX12_readHouse 135 = .ok (.iastore, 1) := by decide +kernel
theorem dX12_readHouse_136 : decode cX12_readHouse 136 = .ok (.aload_n 0, 1) := by decide +kernel
theorem dX12_readHouse_137 : decode cX12_readHouse 137 = .ok (.getfield 13, 3) := by decide +kernel
theorem dX12_readHouse_140 : decode cX12_readHouse 140 = .ok (.iload_n 1, 1) := by decide +kernel
theorem dX12_readHouse_141 : decode cX12_readHouse 141 = .ok (.iconst 4, 1) := by decide +kernel
theorem dX12_readHouse_142 : decode cX12_readHouse 142 = .ok (.invokestatic 49, 3) := by decide +kernel
theorem dX12_readHouse_145 : decode cX12_readHouse 145 = .ok (.iload 5, 2) := by decide +kernel
theorem dX12_readHouse_147 : decode cX12_readHouse 147 = .ok (.iastore, 1) := by decide +kernel
theorem dX12_readHouse_148 : decode cX12_readHouse 148 = .ok (.aload_n 0, 1) := by decide +kernel
theorem dX12_readHouse_149 : decode cX12_readHouse 149 = .ok (.getfield 13, 3) := by decide +kernel
theorem dX12_readHouse_152 : decode cX12_readHouse 152 = .ok (.iconst 0, 1) := by decide +kernel
theorem dX12_readHouse_153 : decode cX12_readHouse 153 = .ok (.dup2, 1) := by decide +kernel
theorem dX12_readHouse_154 : decode cX12_readHouse 154 = .ok (.iaload, 1) := by decide +kernel
theorem dX12_readHouse_155 : decode cX12_readHouse 155 = .ok (.iconst 1, 1) := by decide +kernel
theorem dX12_readHouse_156 : decode cX12_readHouse 156 = .ok (.iadd, 1) := by decide +kernel
theorem dX12_readHouse_157 : decode cX12_readHouse 157 = .ok (.iastore, 1) := by decide +kernel
theorem dX12_readHouse_158 : decode cX12_readHouse 158 = .ok (.iconst 1, 1) := by decide +kernel
theorem dX12_readHouse_159 : decode cX12_readHouse 159 = .ok (.ireturn, 1) := by decide +kernel
theorem dX12_readSees_0 : decode cX12_readSees 0 = .ok (.aload_n 0, 1) := by decide +kernel
theorem dX12_readSees_1 : decode cX12_readSees 1 = .ok (.iconst 0, 1) := by decide +kernel
theorem dX12_readSees_2 : decode cX12_readSees 2 = .ok (.iconst 4, 1) := by decide +kernel
theorem dX12_readSees_3 : decode cX12_readSees 3 = .ok (.invokevirtual 109, 3) := by decide +kernel
theorem dX12_readSees_6 : decode cX12_readSees 6 = .ok (.istore_n 1, 1) := by decide +kernel
theorem dX12_readSees_7 : decode cX12_readSees 7 = .ok (.iload_n 1, 1) := by decide +kernel
theorem dX12_readSees_8 : decode cX12_readSees 8 = .ok (.ifCond .ge 7, 3) := by decide +kernel
theorem dX12_readSees_11 : decode cX12_readSees 11 = .ok (.iconst (-1), 1) := by decide +kernel
theorem dX12_readSees_12 : decode cX12_readSees 12 = .ok (.goto 14, 3) := by decide +kernel
theorem dX12_readSees_15 : decode cX12_readSees 15 = .ok (.aload_n 0, 1) := by decide +kernel
theorem dX12_readSees_16 : decode cX12_readSees 16 = .ok (.iconst 0, 1) := by decide +kernel
theorem dX12_readSees_17 : decode cX12_readSees 17 = .ok (.aload_n 0, 1) := by decide +kernel
theorem dX12_readSees_18 : decode cX12_readSees 18 = .ok (.invokevirtual 59, 3) := by decide +kernel
theorem dX12_readSees_21 : decode cX12_readSees 21 = .ok (.iconst 1, 1) := by decide +kernel
theorem dX12_readSees_22 : decode cX12_readSees 22 = .ok (.isub, 1) := by decide +kernel
theorem dX12_readSees_23 : decode cX12_readSees 23 = .ok (.invokevirtual 109, 3) := by decide +kernel
theorem dX12_readSees_26 : decode cX12_readSees 26 = .ok (.istore_n 2, 1) := by decide +kernel
theorem dX12_readSees_27 : decode cX12_readSees 27 = .ok (.iload_n 2, 1) := by decide +kernel
theorem dX12_readSees_28 : decode cX12_readSees 28 = .ok (.ifCond .lt 19, 3) := by decide +kernel
theorem dX12_readSees_31 : decode cX12_readSees 31 = .ok (.aload_n 0, 1) := by decide +kernel
theorem dX12_readSees_32 : decode cX12_readSees 32 = .ok (.getfield 13, 3) := by decide +kernel
theorem dX12_readSees_35 : decode cX12_readSees 35 = .ok (.iload_n 2, 1) := by decide +kernel
theorem dX12_readSees_36 : decode cX12_readSees 36 = .ok (.iconst 3, 1) := by decide +kernel
theorem dX12_readSees_37 : decode cX12_readSees 37 = .ok (.invokestatic 49, 3) := by decide +kernel
theorem dX12_readSees_40 : decode cX12_readSees 40 = .ok (.dup2, 1) := by decide +kernel
theorem dX12_readSees_41 : decode cX12_readSees 41 = .ok (.iaload, 1) := by decide +kernel
theorem dX12_readSees_42 : decode cX12_readSees 42 = .ok (.iconst 1, 1) := by decide +kernel
theorem dX12_readSees_43 : decode cX12_readSees 43 = .ok (.iload_n 1, 1) := by decide +kernel
theorem dX12_readSees_44 : decode cX12_readSees 44 = .ok (.ishl, 1) := by decide +kernel
theorem dX12_readSees_45 : decode cX12_readSees 45 = .ok (.ior, 1) := by decide +kernel
theorem dX12_readSees_46 : decode cX12_readSees 46 = .ok (.iastore, 1) := by decide +kernel
theorem dX12_readSees_47 : decode cX12_readSees 47 = .ok (.iload_n 2, 1) := by decide +kernel
theorem dX12_readSees_48 : decode cX12_readSees 48 = .ok (.ifCond .lt 7, 3) := by decide +kernel
theorem dX12_readSees_51 : decode cX12_readSees 51 = .ok (.iconst 1, 1) := by decide +kernel
theorem dX12_readSees_52 : decode cX12_readSees 52 = .ok (.goto 4, 3) := by decide +kernel
theorem dX12_readSees_55 : decode cX12_readSees 55 = .ok (.iconst 0, 1) := by decide +kernel
theorem dX12_readSees_56 : decode cX12_readSees 56 = .ok (.ireturn, 1) := by decide +kernel
theorem dX12_kindTold_0 : decode cX12_kindTold 0 = .ok (.aload_n 0, 1) := by decide +kernel
theorem dX12_kindTold_1 : decode cX12_kindTold 1 = .ok (.invokevirtual 102, 3) := by decide +kernel
theorem dX12_kindTold_4 : decode cX12_kindTold 4 = .ok (.aload_n 0, 1) := by decide +kernel
theorem dX12_kindTold_5 : decode cX12_kindTold 5 = .ok (.ldc 125, 2) := by decide +kernel
theorem dX12_kindTold_7 : decode cX12_kindTold 7 = .ok (.invokevirtual 105, 3) := by decide +kernel
theorem dX12_kindTold_10 : decode cX12_kindTold 10 = .ok (.ifCond .eq 7, 3) := by decide +kernel
theorem dX12_kindTold_13 : decode cX12_kindTold 13 = .ok (.iconst 0, 1) := by decide +kernel
theorem dX12_kindTold_14 : decode cX12_kindTold 14 = .ok (.goto 43, 3) := by decide +kernel
theorem dX12_kindTold_17 : decode cX12_kindTold 17 = .ok (.aload_n 0, 1) := by decide +kernel
theorem dX12_kindTold_18 : decode cX12_kindTold 18 = .ok (.ldc 127, 2) := by decide +kernel
theorem dX12_kindTold_20 : decode cX12_kindTold 20 = .ok (.invokevirtual 105, 3) := by decide +kernel
theorem dX12_kindTold_23 : decode cX12_kindTold 23 = .ok (.ifCond .eq 7, 3) := by decide +kernel
theorem dX12_kindTold_26 : decode cX12_kindTold 26 = .ok (.iconst 1, 1) := by decide +kernel
theorem dX12_kindTold_27 : decode cX12_kindTold 27 = .ok (.goto 30, 3) := by decide +kernel
theorem dX12_kindTold_30 : decode cX12_kindTold 30 = .ok (.aload_n 0, 1) := by decide +kernel
theorem dX12_kindTold_31 : decode cX12_kindTold 31 = .ok (.ldc 129, 2) := by decide +kernel
theorem dX12_kindTold_33 : decode cX12_kindTold 33 = .ok (.invokevirtual 105, 3) := by decide +kernel
theorem dX12_kindTold_36 : decode cX12_kindTold 36 = .ok (.ifCond .eq 7, 3) := by decide +kernel
theorem dX12_kindTold_39 : decode cX12_kindTold 39 = .ok (.iconst 2, 1) := by decide +kernel
theorem dX12_kindTold_40 : decode cX12_kindTold 40 = .ok (.goto 17, 3) := by decide +kernel
theorem dX12_kindTold_43 : decode cX12_kindTold 43 = .ok (.aload_n 0, 1) := by decide +kernel
theorem dX12_kindTold_44 : decode cX12_kindTold 44 = .ok (.ldc 131, 2) := by decide +kernel
theorem dX12_kindTold_46 : decode cX12_kindTold 46 = .ok (.invokevirtual 105, 3) := by decide +kernel
theorem dX12_kindTold_49 : decode cX12_kindTold 49 = .ok (.ifCond .eq 7, 3) := by decide +kernel
theorem dX12_kindTold_52 : decode cX12_kindTold 52 = .ok (.iconst 3, 1) := by decide +kernel
theorem dX12_kindTold_53 : decode cX12_kindTold 53 = .ok (.goto 4, 3) := by decide +kernel
theorem dX12_kindTold_56 : decode cX12_kindTold 56 = .ok (.iconst (-1), 1) := by decide +kernel
theorem dX12_kindTold_57 : decode cX12_kindTold 57 = .ok (.ireturn, 1) := by decide +kernel
theorem dX12_readHearth_0 : decode cX12_readHearth 0 = .ok (.aload_n 0, 1) := by decide +kernel
theorem dX12_readHearth_1 : decode cX12_readHearth 1 = .ok (.invokevirtual 67, 3) := by decide +kernel
theorem dX12_readHearth_4 : decode cX12_readHearth 4 = .ok (.istore_n 1, 1) := by decide +kernel
theorem dX12_readHearth_5 : decode cX12_readHearth 5 = .ok (.iload_n 1, 1) := by decide +kernel
theorem dX12_readHearth_6 : decode cX12_readHearth 6 = .ok (.bipush 12, 2) := by decide +kernel
theorem dX12_readHearth_8 : decode cX12_readHearth 8 = .ok (.if_icmp .ne 5, 3) := by decide +kernel
theorem dX12_readHearth_11 : decode cX12_readHearth 11 = .ok (.iconst 0, 1) := by decide +kernel
theorem dX12_readHearth_12 : decode cX12_readHearth 12 = .ok (.ireturn, 1) := by decide +kernel
theorem dX12_readHearth_13 : decode cX12_readHearth 13 = .ok (.aload_n 0, 1) := by decide +kernel
theorem dX12_readHearth_14 : decode cX12_readHearth 14 = .ok (.invokevirtual 133, 3) := by decide +kernel
theorem dX12_readHearth_17 : decode cX12_readHearth 17 = .ok (.istore_n 2, 1) := by decide +kernel
theorem dX12_readHearth_18 : decode cX12_readHearth 18 = .ok (.iload_n 2, 1) := by decide +kernel
theorem dX12_readHearth_19 : decode cX12_readHearth 19 = .ok (.ifCond .ge 7, 3) := by decide +kernel
theorem dX12_readHearth_22 : decode cX12_readHearth 22 = .ok (.iconst (-1), 1) := by decide +kernel
theorem dX12_readHearth_23 : decode cX12_readHearth 23 = .ok (.goto 16, 3) := by decide +kernel
theorem dX12_readHearth_26 : decode cX12_readHearth 26 = .ok (.aload_n 0, 1) := by decide +kernel
theorem dX12_readHearth_27 : decode cX12_readHearth 27 = .ok (.ldc 136, 2) := by decide +kernel
theorem dX12_readHearth_29 : decode cX12_readHearth 29 = .ok (.iconst 0, 1) := by decide +kernel
theorem dX12_readHearth_30 : decode cX12_readHearth 30 = .ok (.aload_n 0, 1) := by decide +kernel
theorem dX12_readHearth_31 : decode cX12_readHearth 31 = .ok (.invokevirtual 59, 3) := by decide +kernel
theorem dX12_readHearth_34 : decode cX12_readHearth 34 = .ok (.iconst 1, 1) := by decide +kernel
theorem dX12_readHearth_35 : decode cX12_readHearth 35 = .ok (.isub, 1) := by decide +kernel
theorem dX12_readHearth_36 : decode cX12_readHearth 36 = .ok (.invokevirtual 114, 3) := by decide +kernel
theorem dX12_readHearth_39 : decode cX12_readHearth 39 = .ok (.istore_n 3, 1) := by decide +kernel
theorem dX12_readHearth_40 : decode cX12_readHearth 40 = .ok (.iload_n 3, 1) := by decide +kernel
theorem dX12_readHearth_41 : decode cX12_readHearth 41 = .ok (.ifCond .lt 16, 3) := by decide +kernel
theorem dX12_readHearth_44 : decode cX12_readHearth 44 = .ok (.aload_n 0, 1) := by decide +kernel
theorem dX12_readHearth_45 : decode cX12_readHearth 45 = .ok (.iload_n 3, 1) := by decide +kernel
theorem dX12_readHearth_46 : decode cX12_readHearth 46 = .ok (.invokevirtual 138, 3) := by decide +kernel
theorem dX12_readHearth_49 : decode cX12_readHearth 49 = .ok (.invokestatic 142, 3) := by decide +kernel
theorem dX12_readHearth_52 : decode cX12_readHearth 52 = .ok (.bipush 6, 2) := by decide +kernel
theorem dX12_readHearth_54 : decode cX12_readHearth 54 = .ok (.if_icmp .ne 5, 3) := by decide +kernel
theorem dX12_readHearth_57 : decode cX12_readHearth 57 = .ok (.iconst 0, 1) := by decide +kernel
theorem dX12_readHearth_58 : decode cX12_readHearth 58 = .ok (.ireturn, 1) := by decide +kernel
theorem dX12_readHearth_59 : decode cX12_readHearth 59 = .ok (.aload_n 0, 1) := by decide +kernel
theorem dX12_readHearth_60 : decode cX12_readHearth 60 = .ok (.ldc 147, 2) := by decide +kernel
theorem dX12_readHearth_62 : decode cX12_readHearth 62 = .ok (.iconst 0, 1) := by decide +kernel
theorem dX12_readHearth_63 : decode cX12_readHearth 63 = .ok (.bipush 9, 2) := by decide +kernel
theorem dX12_readHearth_65 : decode cX12_readHearth 65 = .ok (.invokevirtual 114, 3) := by decide +kernel
theorem dX12_readHearth_68 : decode cX12_readHearth 68 = .ok (.istore 4, 2) := by decide +kernel
theorem dX12_readHearth_70 : decode cX12_readHearth 70 = .ok (.iload 4, 2) := by decide +kernel
theorem dX12_readHearth_72 : decode cX12_readHearth 72 = .ok (.ifCond .ge 7, 3) := by decide +kernel
theorem dX12_readHearth_75 : decode cX12_readHearth 75 = .ok (.iconst (-1), 1) := by decide +kernel
theorem dX12_readHearth_76 : decode cX12_readHearth 76 = .ok (.goto 12, 3) := by decide +kernel
theorem dX12_readHearth_79 : decode cX12_readHearth 79 = .ok (.aload_n 0, 1) := by decide +kernel
theorem dX12_readHearth_80 : decode cX12_readHearth 80 = .ok (.ldc 149, 2) := by decide +kernel
theorem dX12_readHearth_82 : decode cX12_readHearth 82 = .ok (.iconst 1, 1) := by decide +kernel
theorem dX12_readHearth_83 : decode cX12_readHearth 83 = .ok (.bipush 9, 2) := by decide +kernel
theorem dX12_readHearth_85 : decode cX12_readHearth 85 = .ok (.invokevirtual 114, 3) := by decide +kernel
theorem dX12_readHearth_88 : decode cX12_readHearth 88 = .ok (.istore 5, 2) := by decide +kernel
theorem dX12_readHearth_90 : decode cX12_readHearth 90 = .ok (.iload 5, 2) := by decide +kernel
theorem dX12_readHearth_92 : decode cX12_readHearth 92 = .ok (.ifCond .ge 7, 3) := by decide +kernel
theorem dX12_readHearth_95 : decode cX12_readHearth 95 = .ok (.iconst (-1), 1) := by decide +kernel
theorem dX12_readHearth_96 : decode cX12_readHearth 96 = .ok (.goto 12, 3) := by decide +kernel
theorem dX12_readHearth_99 : decode cX12_readHearth 99 = .ok (.aload_n 0, 1) := by decide +kernel
theorem dX12_readHearth_100 : decode cX12_readHearth 100 = .ok (.ldc 151, 2) := by decide +kernel
theorem dX12_readHearth_102 : decode cX12_readHearth 102 = .ok (.iconst 1, 1) := by decide +kernel
theorem dX12_readHearth_103 : decode cX12_readHearth 103 = .ok (.bipush 30, 2) := by decide +kernel
theorem dX12_readHearth_105 : decode cX12_readHearth 105 = .ok (.invokevirtual 114, 3) := by decide +kernel
theorem dX12_readHearth_108 : decode cX12_readHearth 108 = .ok (.istore 6, 2) := by decide +kernel
theorem dX12_readHearth_110 : decode cX12_readHearth 110 = .ok (.iload 6, 2) := by decide +kernel
theorem dX12_readHearth_112 : decode cX12_readHearth 112 = .ok (.ifCond .ge 5, 3) := by decide +kernel
theorem dX12_readHearth_115 : decode cX12_readHearth 115 = .ok (.iconst 0, 1) := by decide +kernel
theorem dX12_readHearth_116 : decode cX12_readHearth 116 = .ok (.ireturn, 1) := by decide +kernel
theorem dX12_readHearth_117 : decode cX12_readHearth 117 = .ok (.aload_n 0, 1) := by decide +kernel
theorem dX12_readHearth_118 : decode cX12_readHearth 118 = .ok (.getfield 13, 3) := by decide +kernel
theorem dX12_readHearth_121 : decode cX12_readHearth 121 = .ok (.iload_n 1, 1) := by decide +kernel
theorem dX12_readHearth_122 : decode cX12_readHearth 122 = .ok (.iconst 0, 1) := by decide +kernel
theorem dX12_readHearth_123 : decode cX12_readHearth 123 = .ok (.invokestatic 53, 3) := by decide +kernel
theorem dX12_readHearth_126 : decode cX12_readHearth 126 = .ok (.iload_n 3, 1) := by decide +kernel
theorem dX12_readHearth_127 : decode cX12_readHearth 127 = .ok (.iastore, 1) := by decide +kernel
theorem dX12_readHearth_128 : decode cX12_readHearth 128 = .ok (.aload_n 0, 1) := by decide +kernel
theorem dX12_readHearth_129 : decode cX12_readHearth 129 = .ok (.getfield 13, 3) := by decide +kernel
theorem dX12_readHearth_132 : decode cX12_readHearth 132 = .ok (.iload_n 1, 1) := by decide +kernel
theorem dX12_readHearth_133 : decode cX12_readHearth 133 = .ok (.iconst 1, 1) := by decide +kernel
theorem dX12_readHearth_134 : decode cX12_readHearth 134 = .ok (.invokestatic 53, 3) := by decide +kernel
theorem dX12_readHearth_137 : decode cX12_readHearth 137 = .ok (.iload_n 2, 1) := by decide +kernel
theorem dX12_readHearth_138 : decode cX12_readHearth 138 = .ok (.iastore, 1) := by decide +kernel
theorem dX12_readHearth_139 : decode cX12_readHearth 139 = .ok (.aload_n 0, 1) := by decide +kernel
theorem dX12_readHearth_140 : decode cX12_readHearth 140 = .ok (.getfield 13, 3) := by decide +kernel
theorem dX12_readHearth_143 : decode cX12_readHearth 143 = .ok (.iload_n 1, 1) := by decide +kernel
theorem dX12_readHearth_144 : decode cX12_readHearth 144 = .ok (.iconst 2, 1) := by decide +kernel
theorem dX12_readHearth_145 : decode cX12_readHearth 145 = .ok (.invokestatic 53, 3) := by decide +kernel
theorem dX12_readHearth_148 : decode cX12_readHearth 148 = .ok (.iload 4, 2) := by decide +kernel
theorem dX12_readHearth_150 : decode cX12_readHearth 150 = .ok (.iastore, 1) := by decide +kernel
theorem dX12_readHearth_151 : decode cX12_readHearth 151 = .ok (.aload_n 0, 1) := by decide +kernel
theorem dX12_readHearth_152 : decode cX12_readHearth 152 = .ok (.getfield 13, 3) := by decide +kernel
theorem dX12_readHearth_155 : decode cX12_readHearth 155 = .ok (.iload_n 1, 1) := by decide +kernel
theorem dX12_readHearth_156 : decode cX12_readHearth 156 = .ok (.iconst 3, 1) := by decide +kernel
theorem dX12_readHearth_157 : decode cX12_readHearth 157 = .ok (.invokestatic 53, 3) := by decide +kernel
theorem dX12_readHearth_160 : decode cX12_readHearth 160 = .ok (.iload 5, 2) := by decide +kernel
theorem dX12_readHearth_162 : decode cX12_readHearth 162 = .ok (.iastore, 1) := by decide +kernel
theorem dX12_readHearth_163 : decode cX12_readHearth 163 = .ok (.aload_n 0, 1) := by decide +kernel
theorem dX12_readHearth_164 : decode cX12_readHearth 164 = .ok (.getfield 13, 3) := by decide +kernel
theorem dX12_readHearth_167 : decode cX12_readHearth 167 = .ok (.iload_n 1, 1) := by decide +kernel
theorem dX12_readHearth_168 : decode cX12_readHearth 168 = .ok (.iconst 4, 1) := by decide +kernel
theorem dX12_readHearth_169 : decode cX12_readHearth 169 = .ok (.invokestatic 53, 3) := by decide +kernel
theorem dX12_readHearth_172 : decode cX12_readHearth 172 = .ok (.iload 6, 2) := by decide +kernel
theorem dX12_readHearth_174 : decode cX12_readHearth 174 = .ok (.iastore, 1) := by decide +kernel
theorem dX12_readHearth_175 : decode cX12_readHearth 175 = .ok (.aload_n 0, 1) := by decide +kernel
theorem dX12_readHearth_176 : decode cX12_readHearth 176 = .ok (.getfield 13, 3) := by decide +kernel
theorem dX12_readHearth_179 : decode cX12_readHearth 179 = .ok (.iload_n 1, 1) := by decide +kernel
theorem dX12_readHearth_180 : decode cX12_readHearth 180 = .ok (.iconst 5, 1) := by decide +kernel
theorem dX12_readHearth_181 : decode cX12_readHearth 181 = .ok (.invokestatic 53, 3) := by decide +kernel
theorem dX12_readHearth_184 : decode cX12_readHearth 184 = .ok (.iconst 0, 1) := by decide +kernel
theorem dX12_readHearth_185 : decode cX12_readHearth 185 = .ok (.iastore, 1) := by decide +kernel
theorem dX12_readHearth_186 : decode cX12_readHearth 186 = .ok (.aload_n 0, 1) := by decide +kernel
theorem dX12_readHearth_187 : decode cX12_readHearth 187 = .ok (.getfield 13, 3) := by decide +kernel
theorem dX12_readHearth_190 : decode cX12_readHearth 190 = .ok (.iconst 1, 1) := by decide +kernel
theorem dX12_readHearth_191 : decode cX12_readHearth 191 = .ok (.dup2, 1) := by decide +kernel
theorem dX12_readHearth_192 : decode cX12_readHearth 192 = .ok (.iaload, 1) := by decide +kernel
theorem dX12_readHearth_193 : decode cX12_readHearth 193 = .ok (.iconst 1, 1) := by decide +kernel
theorem dX12_readHearth_194 : decode cX12_readHearth 194 = .ok (.iadd, 1) := by decide +kernel
theorem dX12_readHearth_195 : decode cX12_readHearth 195 = .ok (.iastore, 1) := by decide +kernel
theorem dX12_readHearth_196 : decode cX12_readHearth 196 = .ok (.iconst 1, 1) := by decide +kernel
theorem dX12_readHearth_197 : decode cX12_readHearth 197 = .ok (.ireturn, 1) := by decide +kernel
theorem dX12_readParishLine_0 : decode cX12_readParishLine 0 = .ok (.aload_n 0, 1) := by decide +kernel
theorem dX12_readParishLine_1 : decode cX12_readParishLine 1 = .ok (.ldc 153, 2) := by decide +kernel
theorem dX12_readParishLine_3 : decode cX12_readParishLine 3 = .ok (.invokevirtual 105, 3) := by decide +kernel
theorem dX12_readParishLine_6 : decode cX12_readParishLine 6 = .ok (.ifCond .eq 8, 3) := by decide +kernel
theorem dX12_readParishLine_9 : decode cX12_readParishLine 9 = .ok (.aload_n 0, 1) := by decide +kernel
theorem dX12_readParishLine_10 : decode cX12_readParishLine 10 = .ok (.invokevirtual 155, 3) := by decide +kernel
theorem dX12_readParishLine_13 : decode cX12_readParishLine 13 = .ok (.ireturn, 1) := by decide +kernel
theorem dX12_readParishLine_14 : decode cX12_readParishLine 14 = .ok (.aload_n 0, 1) := by decide +kernel
theorem dX12_readParishLine_15 : decode cX12_readParishLine 15 = .ok (.ldc 159, 2) := by decide +kernel
theorem dX12_readParishLine_17 : decode cX12_readParishLine 17 = .ok (.invokevirtual 105, 3) := by decide +kernel
theorem dX12_readParishLine_20 : decode cX12_readParishLine 20 = .ok (.ifCond .eq 8, 3) := by decide +kernel
theorem dX12_readParishLine_23 : decode cX12_readParishLine 23 = .ok (.aload_n 0, 1) := by decide +kernel
theorem dX12_readParishLine_24 : decode cX12_readParishLine 24 = .ok (.invokevirtual 161, 3) := by decide +kernel
theorem dX12_readParishLine_27 : decode cX12_readParishLine 27 = .ok (.ireturn, 1) := by decide +kernel
theorem dX12_readParishLine_28 : decode cX12_readParishLine 28 = .ok (.aload_n 0, 1) := by decide +kernel
theorem dX12_readParishLine_29 : decode cX12_readParishLine 29 = .ok (.ldc 164, 2) := by decide +kernel
theorem dX12_readParishLine_31 : decode cX12_readParishLine 31 = .ok (.invokevirtual 105, 3) := by decide +kernel
theorem dX12_readParishLine_34 : decode cX12_readParishLine 34 = .ok (.ifCond .eq 8, 3) := by decide +kernel
theorem dX12_readParishLine_37 : decode cX12_readParishLine 37 = .ok (.aload_n 0, 1) := by decide +kernel
theorem dX12_readParishLine_38 : decode cX12_readParishLine 38 = .ok (.invokevirtual 166, 3) := by decide +kernel
theorem dX12_readParishLine_41 : decode cX12_readParishLine 41 = .ok (.ireturn, 1) := by decide +kernel
theorem dX12_readParishLine_42 : decode cX12_readParishLine 42 = .ok (.aload_n 0, 1) := by decide +kernel
theorem dX12_readParishLine_43 : decode cX12_readParishLine 43 = .ok (.ldc 169, 2) := by decide +kernel
theorem dX12_readParishLine_45 : decode cX12_readParishLine 45 = .ok (.invokevirtual 105, 3) := by decide +kernel
theorem dX12_readParishLine_48 : decode cX12_readParishLine 48 = .ok (.ifCond .eq 12, 3) := by decide +kernel
theorem dX12_readParishLine_51 : decode cX12_readParishLine 51 = .ok (.aload_n 0, 1) := by decide +kernel
theorem dX12_readParishLine_52 : decode cX12_readParishLine 52 = .ok (.iconst 5, 1) := by decide +kernel
theorem dX12_readParishLine_53 : decode cX12_readParishLine 53 = .ok (.iconst 0, 1) := by decide +kernel
theorem dX12_readParishLine_54 : decode cX12_readParishLine 54 = .ok (.bipush 20, 2) := by decide +kernel
theorem dX12_readParishLine_56 : decode cX12_readParishLine 56 = .ok (.invokevirtual 171, 3) := by decide +kernel
theorem dX12_readParishLine_59 : decode cX12_readParishLine 59 = .ok (.ireturn, 1) := by decide +kernel
theorem dX12_readParishLine_60 : decode cX12_readParishLine 60 = .ok (.aload_n 0, 1) := by decide +kernel
theorem dX12_readParishLine_61 : decode cX12_readParishLine 61 = .ok (.ldc 174, 2) := by decide +kernel
theorem dX12_readParishLine_63 : decode cX12_readParishLine 63 = .ok (.invokevirtual 105, 3) := by decide +kernel
theorem dX12_readParishLine_66 : decode cX12_readParishLine 66 = .ok (.ifCond .eq 13, 3) := by decide +kernel
theorem dX12_readParishLine_69 : decode cX12_readParishLine 69 = .ok (.aload_n 0, 1) := by decide +kernel
theorem dX12_readParishLine_70 : decode cX12_readParishLine 70 = .ok (.bipush 6, 2) := by decide +kernel
theorem dX12_readParishLine_72 : decode cX12_readParishLine 72 = .ok (.iconst 0, 1) := by decide +kernel
theorem dX12_readParishLine_73 : decode cX12_readParishLine 73 = .ok (.bipush 50, 2) := by decide +kernel
theorem dX12_readParishLine_75 : decode cX12_readParishLine 75 = .ok (.invokevirtual 171, 3) := by decide +kernel
theorem dX12_readParishLine_78 : decode cX12_readParishLine 78 = .ok (.ireturn, 1) := by decide +kernel
theorem dX12_readParishLine_79 : decode cX12_readParishLine 79 = .ok (.aload_n 0, 1) := by decide +kernel
theorem dX12_readParishLine_80 : decode cX12_readParishLine 80 = .ok (.ldc 176, 2) := by decide +kernel
theorem dX12_readParishLine_82 : decode cX12_readParishLine 82 = .ok (.invokevirtual 105, 3) := by decide +kernel
theorem dX12_readParishLine_85 : decode cX12_readParishLine 85 = .ok (.ifCond .eq 13, 3) := by decide +kernel
theorem dX12_readParishLine_88 : decode cX12_readParishLine 88 = .ok (.aload_n 0, 1) := by decide +kernel
theorem dX12_readParishLine_89 : decode cX12_readParishLine 89 = .ok (.bipush 7, 2) := by decide +kernel
theorem dX12_readParishLine_91 : decode cX12_readParishLine 91 = .ok (.iconst 0, 1) := by decide +kernel
theorem dX12_readParishLine_92 : decode cX12_readParishLine 92 = .ok (.bipush 100, 2) := by decide +kernel
theorem dX12_readParishLine_94 : decode cX12_readParishLine 94 = .ok (.invokevirtual 171, 3) := by decide +kernel
theorem dX12_readParishLine_97 : decode cX12_readParishLine 97 = .ok (.ireturn, 1) := by decide +kernel
theorem dX12_readParishLine_98 : decode cX12_readParishLine 98 = .ok (.aload_n 0, 1) := by decide +kernel
theorem dX12_readParishLine_99 : decode cX12_readParishLine 99 = .ok (.ldc 178, 2) := by decide +kernel
theorem dX12_readParishLine_101 : decode cX12_readParishLine 101 = .ok (.invokevirtual 105, 3) := by decide +kernel
theorem dX12_readParishLine_104 : decode cX12_readParishLine 104 = .ok (.ifCond .eq 13, 3) := by decide +kernel
theorem dX12_readParishLine_107 : decode cX12_readParishLine 107 = .ok (.aload_n 0, 1) := by decide +kernel
theorem dX12_readParishLine_108 : decode cX12_readParishLine 108 = .ok (.bipush 8, 2) := by decide +kernel
theorem dX12_readParishLine_110 : decode cX12_readParishLine 110 = .ok (.iconst 0, 1) := by decide +kernel
theorem dX12_readParishLine_111 : decode cX12_readParishLine 111 = .ok (.bipush 20, 2) := by decide +kernel
theorem dX12_readParishLine_113 : decode cX12_readParishLine 113 = .ok (.invokevirtual 171, 3) := by decide +kernel
theorem dX12_readParishLine_116 : decode cX12_readParishLine 116 = .ok (.ireturn, 1) := by decide +kernel
theorem dX12_readParishLine_117 : decode cX12_readParishLine 117 = .ok (.aload_n 0, 1) := by decide +kernel
theorem dX12_readParishLine_118 : decode cX12_readParishLine 118 = .ok (.ldc 180, 2) := by decide +kernel
theorem dX12_readParishLine_120 : decode cX12_readParishLine 120 = .ok (.invokevirtual 105, 3) := by decide +kernel
theorem dX12_readParishLine_123 : decode cX12_readParishLine 123 = .ok (.ifCond .eq 19, 3) := by decide +kernel
theorem dX12_readParishLine_126 : decode cX12_readParishLine 126 = .ok (.aload_n 0, 1) := by decide +kernel
theorem dX12_readParishLine_127 : decode cX12_readParishLine 127 = .ok (.iconst 4, 1) := by decide +kernel
theorem dX12_readParishLine_128 : decode cX12_readParishLine 128 = .ok (.iconst 0, 1) := by decide +kernel
theorem dX12_readParishLine_129 : decode cX12_readParishLine 129 = .ok (.sipush 999, 3) := by decide +kernel
theorem dX12_readParishLine_132 : decode cX12_readParishLine 132 = .ok (.invokevirtual 171, 3) := by decide +kernel
theorem dX12_readParishLine_135 : decode cX12_readParishLine 135 = .ok (.ifCond .eq 7, 3) := by decide +kernel
theorem dX12_readParishLine_138 : decode cX12_readParishLine 138 = .ok (.iconst 1, 1) := by decide +kernel
theorem dX12_readParishLine_139 : decode cX12_readParishLine 139 = .ok (.goto 4, 3) := by decide +kernel
theorem dX12_readParishLine_142 : decode cX12_readParishLine 142 = .ok (.iconst 0, 1) := by decide +kernel
theorem dX12_readParishLine_143 : decode cX12_readParishLine 143 = .ok (.ireturn, 1) := by decide +kernel
theorem dX12_emits_0 : decode cX12_emits 0 = .ok (.aload_n 0, 1) := by decide +kernel
theorem dX12_emits_1 : decode cX12_emits 1 = .ok (.getfield 13, 3) := by decide +kernel
theorem dX12_emits_4 : decode cX12_emits 4 = .ok (.sipush 1252, 3) := by decide +kernel
theorem dX12_emits_7 : decode cX12_emits 7 = .ok (.iconst 2, 1) := by decide +kernel
theorem dX12_emits_8 : decode cX12_emits 8 = .ok (.aload_n 0, 1) := by decide +kernel
theorem dX12_emits_9 : decode cX12_emits 9 = .ok (.getfield 182, 3) := by decide +kernel
theorem dX12_emits_12 : decode cX12_emits 12 = .ok (.imul, 1) := by decide +kernel
theorem dX12_emits_13 : decode cX12_emits 13 = .ok (.iadd, 1) := by decide +kernel
theorem dX12_emits_14 : decode cX12_emits 14 = .ok (.iload_n 1, 1) := by decide +kernel
theorem dX12_emits_15 : decode cX12_emits 15 = .ok (.iastore, 1) := by decide +kernel
theorem dX12_emits_16 : decode cX12_emits 16 = .ok (.aload_n 0, 1) := by decide +kernel
theorem dX12_emits_17 : decode cX12_emits 17 = .ok (.getfield 13, 3) := by decide +kernel
theorem dX12_emits_20 : decode cX12_emits 20 = .ok (.sipush 1252, 3) := by decide +kernel
theorem dX12_emits_23 : decode cX12_emits 23 = .ok (.iconst 2, 1) := by decide +kernel
theorem dX12_emits_24 : decode cX12_emits 24 = .ok (.aload_n 0, 1) := by decide +kernel
theorem dX12_emits_25 : decode cX12_emits 25 = .ok (.getfield 182, 3) := by decide +kernel
theorem dX12_emits_28 : decode cX12_emits 28 = .ok (.imul, 1) := by decide +kernel
theorem dX12_emits_29 : decode cX12_emits 29 = .ok (.iadd, 1) := by decide +kernel
theorem dX12_emits_30 : decode cX12_emits 30 = .ok (.iconst 1, 1) := by decide +kernel
theorem dX12_emits_31 : decode cX12_emits 31 = .ok (.iadd, 1) := by decide +kernel
theorem dX12_emits_32 : decode cX12_emits 32 = .ok (.iload_n 2, 1) := by decide +kernel
theorem dX12_emits_33 : decode cX12_emits 33 = .ok (.iastore, 1) := by decide +kernel
theorem dX12_emits_34 : decode cX12_emits 34 = .ok (.aload_n 0, 1) := by decide +kernel
theorem dX12_emits_35 : decode cX12_emits 35 = .ok (.dup, 1) := by decide +kernel
theorem dX12_emits_36 : decode cX12_emits 36 = .ok (.getfield 182, 3) := by decide +kernel
theorem dX12_emits_39 : decode cX12_emits 39 = .ok (.iconst 1, 1) := by decide +kernel
theorem dX12_emits_40 : decode cX12_emits 40 = .ok (.iadd, 1) := by decide +kernel
theorem dX12_emits_41 : decode cX12_emits 41 = .ok (.putfield 182, 3) := by decide +kernel
theorem dX12_emits_44 : decode cX12_emits 44 = .ok (.return_, 1) := by decide +kernel
theorem dX12_readPart_0 : decode cX12_readPart 0 = .ok (.aload_n 0, 1) := by decide +kernel
theorem dX12_readPart_1 : decode cX12_readPart 1 = .ok (.invokevirtual 102, 3) := by decide +kernel
theorem dX12_readPart_4 : decode cX12_readPart 4 = .ok (.aload_n 0, 1) := by decide +kernel
theorem dX12_readPart_5 : decode cX12_readPart 5 = .ok (.getfield 78, 3) := by decide +kernel
theorem dX12_readPart_8 : decode cX12_readPart 8 = .ok (.aload_n 0, 1) := by decide +kernel
theorem dX12_readPart_9 : decode cX12_readPart 9 = .ok (.getfield 87, 3) := by decide +kernel
theorem dX12_readPart_12 : decode cX12_readPart 12 = .ok (.if_icmp .ne 22, 3) := by decide +kernel
theorem dX12_readPart_15 : decode cX12_readPart 15 = .ok (.aload_n 0, 1) := by decide +kernel
theorem dX12_readPart_16 : decode cX12_readPart 16 = .ok (.iconst 0, 1) := by decide +kernel
theorem dX12_readPart_17 : decode cX12_readPart 17 = .ok (.sipush 999, 3) := by decide +kernel
theorem dX12_readPart_20 : decode cX12_readPart 20 = .ok (.invokevirtual 109, 3) := by decide +kernel
theorem dX12_readPart_23 : decode cX12_readPart 23 = .ok (.istore_n 1, 1) := by decide +kernel
theorem dX12_readPart_24 : decode cX12_readPart 24 = .ok (.aload_n 0, 1) := by decide +kernel
theorem dX12_readPart_25 : decode cX12_readPart 25 = .ok (.bipush 11, 2) := by decide +kernel
theorem dX12_readPart_27 : decode cX12_readPart 27 = .ok (.iload_n 1, 1) := by decide +kernel
theorem dX12_readPart_28 : decode cX12_readPart 28 = .ok (.invokevirtual 185, 3) := by decide +kernel
theorem dX12_readPart_31 : decode cX12_readPart 31 = .ok (.goto 89, 3) := by decide +kernel
theorem dX12_readPart_34 : decode cX12_readPart 34 = .ok (.aload_n 0, 1) := by decide +kernel
theorem dX12_readPart_35 : decode cX12_readPart 35 = .ok (.ldc 153, 2) := by decide +kernel
theorem dX12_readPart_37 : decode cX12_readPart 37 = .ok (.invokevirtual 105, 3) := by decide +kernel
theorem dX12_readPart_40 : decode cX12_readPart 40 = .ok (.ifCond .eq 7, 3) := by decide +kernel
theorem dX12_readPart_43 : decode cX12_readPart 43 = .ok (.iconst 0, 1) := by decide +kernel
theorem dX12_readPart_44 : decode cX12_readPart 44 = .ok (.goto 69, 3) := by decide +kernel
theorem dX12_readPart_47 : decode cX12_readPart 47 = .ok (.aload_n 0, 1) := by decide +kernel
theorem dX12_readPart_48 : decode cX12_readPart 48 = .ok (.ldc 147, 2) := by decide +kernel
theorem dX12_readPart_50 : decode cX12_readPart 50 = .ok (.invokevirtual 105, 3) := by decide +kernel
theorem dX12_readPart_53 : decode cX12_readPart 53 = .ok (.ifCond .eq 7, 3) := by decide +kernel
theorem dX12_readPart_56 : decode cX12_readPart 56 = .ok (.iconst 1, 1) := by decide +kernel
theorem dX12_readPart_57 : decode cX12_readPart 57 = .ok (.goto 56, 3) := by decide +kernel
theorem dX12_readPart_60 : decode cX12_readPart 60 = .ok (.aload_n 0, 1) := by decide +kernel
theorem dX12_readPart_61 : decode cX12_readPart 61 = .ok (.ldc 149, 2) := by decide +kernel
theorem dX12_readPart_63 : decode cX12_readPart 63 = .ok (.invokevirtual 105, 3) := by decide +kernel
theorem dX12_readPart_66 : decode cX12_readPart 66 = .ok (.ifCond .eq 7, 3) := by decide +kernel
theorem dX12_readPart_69 : decode cX12_readPart 69 = .ok (.iconst 2, 1) := by decide +kernel
theorem dX12_readPart_70 : decode cX12_readPart 70 = .ok (.goto 43, 3) := by decide +kernel
theorem dX12_readPart_73 : decode cX12_readPart 73 = .ok (.aload_n 0, 1) := by decide +kernel
theorem dX12_readPart_74 : decode cX12_readPart 74 = .ok (.ldc 189, 2) := by decide +kernel
theorem dX12_readPart_76 : decode cX12_readPart 76 = .ok (.invokevirtual 105, 3) := by decide +kernel
theorem dX12_readPart_79 : decode cX12_readPart 79 = .ok (.ifCond .eq 7, 3) := by decide +kernel
theorem dX12_readPart_82 : decode cX12_readPart 82 = .ok (.iconst 3, 1) := by decide +kernel
theorem dX12_readPart_83 : decode cX12_readPart 83 = .ok (.goto 30, 3) := by decide +kernel
theorem dX12_readPart_86 : decode cX12_readPart 86 = .ok (.aload_n 0, 1) := by decide +kernel
theorem dX12_readPart_87 : decode cX12_readPart 87 = .ok (.ldc 112, 2) := by decide +kernel
theorem dX12_readPart_89 : decode cX12_readPart 89 = .ok (.invokevirtual 105, 3) := by decide +kernel
theorem dX12_readPart_92 : decode cX12_readPart 92 = .ok (.ifCond .eq 7, 3) := by decide +kernel
theorem dX12_readPart_95 : decode cX12_readPart 95 = .ok (.iconst 4, 1) := by decide +kernel
theorem dX12_readPart_96 : decode cX12_readPart 96 = .ok (.goto 17, 3) := by decide +kernel
theorem dX12_readPart_99 : decode cX12_readPart 99 = .ok (.aload_n 0, 1) := by decide +kernel
theorem dX12_readPart_100 : decode cX12_readPart 100 = .ok (.ldc 180, 2) := by decide +kernel
theorem dX12_readPart_102 : decode cX12_readPart 102 = .ok (.invokevirtual 105, 3) := by decide +kernel
theorem dX12_readPart_105 : decode cX12_readPart 105 = .ok (.ifCond .eq 7, 3) := by decide +kernel
theorem dX12_readPart_108 : decode cX12_readPart 108 = .ok (.iconst 5, 1) := by decide +kernel
theorem dX12_readPart_109 : decode cX12_readPart 109 = .ok (.goto 4, 3) := by decide +kernel
theorem dX12_readPart_112 : decode cX12_readPart 112 = .ok (.iconst (-1), 1) := by decide +kernel
theorem dX12_readPart_113 : decode cX12_readPart 113 = .ok (.istore_n 1, 1) := by decide +kernel
theorem dX12_readPart_114 : decode cX12_readPart 114 = .ok (.aload_n 0, 1) := by decide +kernel
theorem dX12_readPart_115 : decode cX12_readPart 115 = .ok (.iload_n 1, 1) := by decide +kernel
theorem dX12_readPart_116 : decode cX12_readPart 116 = .ok (.iconst 0, 1) := by decide +kernel
theorem dX12_readPart_117 : decode cX12_readPart 117 = .ok (.invokevirtual 185, 3) := by decide +kernel
theorem dX12_readPart_120 : decode cX12_readPart 120 = .ok (.iload_n 1, 1) := by decide +kernel
theorem dX12_readPart_121 : decode cX12_readPart 121 = .ok (.ifCond .lt 7, 3) := by decide +kernel
theorem dX12_readPart_124 : decode cX12_readPart 124 = .ok (.iconst 1, 1) := by decide +kernel
theorem dX12_readPart_125 : decode cX12_readPart 125 = .ok (.goto 4, 3) := by decide +kernel
theorem dX12_readPart_128 : decode cX12_readPart 128 = .ok (.iconst 0, 1) := by decide +kernel
theorem dX12_readPart_129 : decode cX12_readPart 129 = .ok (.ireturn, 1) := by decide +kernel
theorem dX12_readSum_0 : decode cX12_readSum 0 = .ok (.aload_n 0, 1) := by decide +kernel
theorem dX12_readSum_1 : decode cX12_readSum 1 = .ok (.invokevirtual 190, 3) := by decide +kernel
theorem dX12_readSum_4 : decode cX12_readSum 4 = .ok (.ifCond .ne 5, 3) := by decide +kernel
theorem dX12_readSum_7 : decode cX12_readSum 7 = .ok (.iconst 0, 1) := by decide +kernel
theorem dX12_readSum_8 : decode cX12_readSum 8 = .ok (.ireturn, 1) := by decide +kernel
theorem dX12_readSum_9 : decode cX12_readSum 9 = .ok (.aload_n 0, 1) := by decide +kernel
theorem dX12_readSum_10 : decode cX12_readSum 10 = .ok (.bipush 43, 2) := by decide +kernel
theorem dX12_readSum_12 : decode cX12_readSum 12 = .ok (.invokevirtual 193, 3) := by decide +kernel
theorem dX12_readSum_15 : decode cX12_readSum 15 = .ok (.ifCond .eq 22, 3) := by decide +kernel
theorem dX12_readSum_18 : decode cX12_readSum 18 = .ok (.aload_n 0, 1) := by decide +kernel
theorem dX12_readSum_19 : decode cX12_readSum 19 = .ok (.invokevirtual 190, 3) := by decide +kernel
theorem dX12_readSum_22 : decode cX12_readSum 22 = .ok (.ifCond .ne 5, 3) := by decide +kernel
theorem dX12_readSum_25 : decode cX12_readSum 25 = .ok (.iconst 0, 1) := by decide +kernel
theorem dX12_readSum_26 : decode cX12_readSum 26 = .ok (.ireturn, 1) := by decide +kernel
theorem dX12_readSum_27 : decode cX12_readSum 27 = .ok (.aload_n 0, 1) := by decide +kernel
theorem dX12_readSum_28 : decode cX12_readSum 28 = .ok (.bipush 12, 2) := by decide +kernel
theorem dX12_readSum_30 : decode cX12_readSum 30 = .ok (.iconst 0, 1) := by decide +kernel
theorem dX12_readSum_31 : decode cX12_readSum 31 = .ok (.invokevirtual 185, 3) := by decide +kernel
theorem dX12_readSum_34 : decode cX12_readSum 34 = .ok (.goto (-25), 3) := by decide +kernel
theorem dX12_readSum_37 : decode cX12_readSum 37 = .ok (.iconst 1, 1) := by decide +kernel
theorem dX12_readSum_38 : decode cX12_readSum 38 = .ok (.ireturn, 1) := by decide +kernel
theorem dX12_readTag_0 : decode cX12_readTag 0 = .ok (.aload_n 0, 1) := by decide +kernel
theorem dX12_readTag_1 : decode cX12_readTag 1 = .ok (.invokevirtual 102, 3) := by decide +kernel
theorem dX12_readTag_4 : decode cX12_readTag 4 = .ok (.aload_n 0, 1) := by decide +kernel
theorem dX12_readTag_5 : decode cX12_readTag 5 = .ok (.ldc 118, 2) := by decide +kernel
theorem dX12_readTag_7 : decode cX12_readTag 7 = .ok (.invokevirtual 105, 3) := by decide +kernel
theorem dX12_readTag_10 : decode cX12_readTag 10 = .ok (.ifCond .eq 8, 3) := by decide +kernel
theorem dX12_readTag_13 : decode cX12_readTag 13 = .ok (.bipush 6, 2) := by decide +kernel
theorem dX12_readTag_15 : decode cX12_readTag 15 = .ok (.goto 60, 3) := by decide +kernel
theorem dX12_readTag_18 : decode cX12_readTag 18 = .ok (.aload_n 0, 1) := by decide +kernel
theorem dX12_readTag_19 : decode cX12_readTag 19 = .ok (.ldc 125, 2) := by decide +kernel
theorem dX12_readTag_21 : decode cX12_readTag 21 = .ok (.invokevirtual 105, 3) := by decide +kernel
theorem dX12_readTag_24 : decode cX12_readTag 24 = .ok (.ifCond .eq 8, 3) := by decide +kernel
theorem dX12_readTag_27 : decode cX12_readTag 27 = .ok (.bipush 7, 2) := by decide +kernel
theorem dX12_readTag_29 : decode cX12_readTag 29 = .ok (.goto 46, 3) := by decide +kernel
theorem dX12_readTag_32 : decode cX12_readTag 32 = .ok (.aload_n 0, 1) := by decide +kernel
theorem dX12_readTag_33 : decode cX12_readTag 33 = .ok (.ldc 127, 2) := by decide +kernel
theorem dX12_readTag_35 : decode cX12_readTag 35 = .ok (.invokevirtual 105, 3) := by decide +kernel
theorem dX12_readTag_38 : decode cX12_readTag 38 = .ok (.ifCond .eq 8, 3) := by decide +kernel
theorem dX12_readTag_41 : decode cX12_readTag 41 = .ok (.bipush 8, 2) := by decide +kernel
theorem dX12_readTag_43 : decode cX12_readTag 43 = .ok (.goto 32, 3) := by decide +kernel
theorem dX12_readTag_46 : decode cX12_readTag 46 = .ok (.aload_n 0, 1) := by decide +kernel
theorem dX12_readTag_47 : decode cX12_readTag 47 = .ok (.ldc 129, 2) := by decide +kernel
theorem dX12_readTag_49 : decode cX12_readTag 49 = .ok (.invokevirtual 105, 3) := by decide +kernel
theorem dX12_readTag_52 : decode cX12_readTag 52 = .ok (.ifCond .eq 8, 3) := by decide +kernel
theorem dX12_readTag_55 : decode cX12_readTag 55 = .ok (.bipush 9, 2) := by decide +kernel
theorem dX12_readTag_57 : decode cX12_readTag 57 = .ok (.goto 18, 3) := by decide +kernel
theorem dX12_readTag_60 : decode cX12_readTag 60 = .ok (.aload_n 0, 1) := by decide +kernel
theorem dX12_readTag_61 : decode cX12_readTag 61 = .ok (.ldc 131, 2) := by decide +kernel
theorem dX12_readTag_63 : decode cX12_readTag 63 = .ok (.invokevirtual 105, 3) := by decide +kernel
theorem dX12_readTag_66 : decode cX12_readTag 66 = .ok (.ifCond .eq 8, 3) := by decide +kernel
theorem dX12_readTag_69 : decode cX12_readTag 69 = .ok (.bipush 10, 2) := by decide +kernel
theorem dX12_readTag_71 : decode cX12_readTag 71 = .ok (.goto 4, 3) := by decide +kernel
theorem dX12_readTag_74 : decode cX12_readTag 74 = .ok (.iconst (-1), 1) := by decide +kernel
theorem dX12_readTag_75 : decode cX12_readTag 75 = .ok (.istore_n 1, 1) := by decide +kernel
theorem dX12_readTag_76 : decode cX12_readTag 76 = .ok (.iload_n 1, 1) := by decide +kernel
theorem dX12_readTag_77 : decode cX12_readTag 77 = .ok (.ifCond .lt 12, 3) := by decide +kernel
theorem dX12_readTag_80 : decode cX12_readTag 80 = .ok (.aload_n 0, 1) := by decide +kernel
theorem dX12_readTag_81 : decode cX12_readTag 81 = .ok (.iload_n 1, 1) := by decide +kernel
theorem dX12_readTag_82 : decode cX12_readTag 82 = .ok (.iconst 0, 1) := by decide +kernel
theorem dX12_readTag_83 : decode cX12_readTag 83 = .ok (.invokevirtual 185, 3) := by decide +kernel
theorem dX12_readTag_86 : decode cX12_readTag 86 = .ok (.goto 11, 3) := by decide +kernel
theorem dX12_readTag_89 : decode cX12_readTag 89 = .ok (.aload_n 0, 1) := by decide +kernel
theorem dX12_readTag_90 : decode cX12_readTag 90 = .ok (.aload_n 0, 1) := by decide +kernel
theorem dX12_readTag_91 : decode cX12_readTag 91 = .ok (.getfield 87, 3) := by decide +kernel
theorem dX12_readTag_94 : decode cX12_readTag 94 = .ok (.putfield 78, 3) := by decide +kernel
theorem dX12_readTag_97 : decode cX12_readTag 97 = .ok (.iload_n 1, 1) := by decide +kernel
theorem dX12_readTag_98 : decode cX12_readTag 98 = .ok (.ifCond .lt 7, 3) := by decide +kernel
theorem dX12_readTag_101 : decode cX12_readTag 101 = .ok (.iconst 1, 1) := by decide +kernel
theorem dX12_readTag_102 : decode cX12_readTag 102 = .ok (.goto 4, 3) := by decide +kernel
theorem dX12_readTag_105 : decode cX12_readTag 105 = .ok (.iconst 0, 1) := by decide +kernel
theorem dX12_readTag_106 : decode cX12_readTag 106 = .ok (.ireturn, 1) := by decide +kernel
theorem dX12_readAtom_0 : decode cX12_readAtom 0 = .ok (.aload_n 0, 1) := by decide +kernel
theorem dX12_readAtom_1 : decode cX12_readAtom 1 = .ok (.bipush 40, 2) := by decide +kernel
theorem dX12_readAtom_3 : decode cX12_readAtom 3 = .ok (.invokevirtual 193, 3) := by decide +kernel
theorem dX12_readAtom_6 : decode cX12_readAtom 6 = .ok (.ifCond .eq 50, 3) := by decide +kernel
theorem dX12_readAtom_9 : decode cX12_readAtom 9 = .ok (.aload_n 0, 1) := by decide +kernel
theorem dX12_readAtom_10 : decode cX12_readAtom 10 = .ok (.getfield 197, 3) := by decide +kernel
theorem dX12_readAtom_13 : decode cX12_readAtom 13 = .ok (.bipush 6, 2) := by decide +kernel
theorem dX12_readAtom_15 : decode cX12_readAtom 15 = .ok (.if_icmp .ne 5, 3) := by decide +kernel
theorem dX12_readAtom_18 : decode cX12_readAtom 18 = .ok (.iconst 0, 1) := by decide +kernel
theorem dX12_readAtom_19 : decode cX12_readAtom 19 = .ok (.ireturn, 1) := by decide +kernel
theorem dX12_readAtom_20 : decode cX12_readAtom 20 = .ok (.aload_n 0, 1) := by decide +kernel
theorem dX12_readAtom_21 : decode cX12_readAtom 21 = .ok (.dup, 1) := by decide +kernel
theorem dX12_readAtom_22 : decode cX12_readAtom 22 = .ok (.getfield 197, 3) := by decide +kernel
theorem dX12_readAtom_25 : decode cX12_readAtom 25 = .ok (.iconst 1, 1) := by decide +kernel
theorem dX12_readAtom_26 : decode cX12_readAtom 26 = .ok (.iadd, 1) := by decide +kernel
theorem dX12_readAtom_27 : decode cX12_readAtom 27 = .ok (.putfield 197, 3) := by decide +kernel
theorem dX12_readAtom_30 : decode cX12_readAtom 30 = .ok (.aload_n 0, 1) := by decide +kernel
theorem dX12_readAtom_31 : decode cX12_readAtom 31 = .ok (.invokevirtual 200, 3) := by decide +kernel
theorem dX12_readAtom_34 : decode cX12_readAtom 34 = .ok (.ifCond .ne 5, 3) := by decide +kernel
theorem dX12_readAtom_37 : decode cX12_readAtom 37 = .ok (.iconst 0, 1) := by decide +kernel
theorem dX12_readAtom_38 : decode cX12_readAtom 38 = .ok (.ireturn, 1) := by decide +kernel
theorem dX12_readAtom_39 : decode cX12_readAtom 39 = .ok (.aload_n 0, 1) := by decide +kernel
theorem dX12_readAtom_40 : decode cX12_readAtom 40 = .ok (.dup, 1) := by decide +kernel
theorem dX12_readAtom_41 : decode cX12_readAtom 41 = .ok (.getfield 197, 3) := by decide +kernel
theorem dX12_readAtom_44 : decode cX12_readAtom 44 = .ok (.iconst 1, 1) := by decide +kernel
theorem dX12_readAtom_45 : decode cX12_readAtom 45 = .ok (.isub, 1) := by decide +kernel
theorem dX12_readAtom_46 : decode cX12_readAtom 46 = .ok (.putfield 197, 3) := by decide +kernel
theorem dX12_readAtom_49 : decode cX12_readAtom 49 = .ok (.aload_n 0, 1) := by decide +kernel
theorem dX12_readAtom_50 : decode cX12_readAtom 50 = .ok (.bipush 41, 2) := by decide +kernel
theorem dX12_readAtom_52 : decode cX12_readAtom 52 = .ok (.invokevirtual 193, 3) := by decide +kernel
theorem dX12_readAtom_55 : decode cX12_readAtom 55 = .ok (.ireturn, 1) := by decide +kernel
theorem dX12_readAtom_56 : decode cX12_readAtom 56 = .ok (.aload_n 0, 1) := by decide +kernel
theorem dX12_readAtom_57 : decode cX12_readAtom 57 = .ok (.ldc 203, 2) := by decide +kernel
theorem dX12_readAtom_59 : decode cX12_readAtom 59 = .ok (.invokevirtual 120, 3) := by decide +kernel
theorem dX12_readAtom_62 : decode cX12_readAtom 62 = .ok (.ifCond .eq 52, 3) := by decide +kernel
theorem dX12_readAtom_65 : decode cX12_readAtom 65 = .ok (.aload_n 0, 1) := by decide +kernel
theorem dX12_readAtom_66 : decode cX12_readAtom 66 = .ok (.getfield 197, 3) := by decide +kernel
theorem dX12_readAtom_69 : decode cX12_readAtom 69 = .ok (.bipush 6, 2) := by decide +kernel
theorem dX12_readAtom_71 : decode cX12_readAtom 71 = .ok (.if_icmp .ne 5, 3) := by decide +kernel
theorem dX12_readAtom_74 : decode cX12_readAtom 74 = .ok (.iconst 0, 1) := by decide +kernel
theorem dX12_readAtom_75 : decode cX12_readAtom 75 = .ok (.ireturn, 1) := by decide +kernel
theorem dX12_readAtom_76 : decode cX12_readAtom 76 = .ok (.aload_n 0, 1) := by decide +kernel
theorem dX12_readAtom_77 : decode cX12_readAtom 77 = .ok (.dup, 1) := by decide +kernel
theorem dX12_readAtom_78 : decode cX12_readAtom 78 = .ok (.getfield 197, 3) := by decide +kernel
theorem dX12_readAtom_81 : decode cX12_readAtom 81 = .ok (.iconst 1, 1) := by decide +kernel
theorem dX12_readAtom_82 : decode cX12_readAtom 82 = .ok (.iadd, 1) := by decide +kernel
theorem dX12_readAtom_83 : decode cX12_readAtom 83 = .ok (.putfield 197, 3) := by decide +kernel
theorem dX12_readAtom_86 : decode cX12_readAtom 86 = .ok (.aload_n 0, 1) := by decide +kernel
theorem dX12_readAtom_87 : decode cX12_readAtom 87 = .ok (.invokevirtual 205, 3) := by decide +kernel
theorem dX12_readAtom_90 : decode cX12_readAtom 90 = .ok (.ifCond .ne 5, 3) := by decide +kernel
theorem dX12_readAtom_93 : decode cX12_readAtom 93 = .ok (.iconst 0, 1) := by decide +kernel
theorem dX12_readAtom_94 : decode cX12_readAtom 94 = .ok (.ireturn, 1) := by decide +kernel
theorem dX12_readAtom_95 : decode cX12_readAtom 95 = .ok (.aload_n 0, 1) := by decide +kernel
theorem dX12_readAtom_96 : decode cX12_readAtom 96 = .ok (.dup, 1) := by decide +kernel
theorem dX12_readAtom_97 : decode cX12_readAtom 97 = .ok (.getfield 197, 3) := by decide +kernel
theorem dX12_readAtom_100 : decode cX12_readAtom 100 = .ok (.iconst 1, 1) := by decide +kernel
theorem dX12_readAtom_101 : decode cX12_readAtom 101 = .ok (.isub, 1) := by decide +kernel
theorem dX12_readAtom_102 : decode cX12_readAtom 102 = .ok (.putfield 197, 3) := by decide +kernel
theorem dX12_readAtom_105 : decode cX12_readAtom 105 = .ok (.aload_n 0, 1) := by decide +kernel
theorem dX12_readAtom_106 : decode cX12_readAtom 106 = .ok (.bipush 15, 2) := by decide +kernel
theorem dX12_readAtom_108 : decode cX12_readAtom 108 = .ok (.iconst 0, 1) := by decide +kernel
theorem dX12_readAtom_109 : decode cX12_readAtom 109 = .ok (.invokevirtual 185, 3) := by decide +kernel
theorem dX12_readAtom_112 : decode cX12_readAtom 112 = .ok (.iconst 1, 1) := by decide +kernel
theorem dX12_readAtom_113 : decode cX12_readAtom 113 = .ok (.ireturn, 1) := by decide +kernel
theorem dX12_readAtom_114 : decode cX12_readAtom 114 = .ok (.aload_n 0, 1) := by decide +kernel
theorem dX12_readAtom_115 : decode cX12_readAtom 115 = .ok (.invokevirtual 208, 3) := by decide +kernel
theorem dX12_readAtom_118 : decode cX12_readAtom 118 = .ok (.ifCond .eq 5, 3) := by decide +kernel
theorem dX12_readAtom_121 : decode cX12_readAtom 121 = .ok (.iconst 1, 1) := by decide +kernel
theorem dX12_readAtom_122 : decode cX12_readAtom 122 = .ok (.ireturn, 1) := by decide +kernel
theorem dX12_readAtom_123 : decode cX12_readAtom 123 = .ok (.aload_n 0, 1) := by decide +kernel
theorem dX12_readAtom_124 : decode cX12_readAtom 124 = .ok (.invokevirtual 211, 3) := by decide +kernel
theorem dX12_readAtom_127 : decode cX12_readAtom 127 = .ok (.ifCond .ne 5, 3) := by decide +kernel
theorem dX12_readAtom_130 : decode cX12_readAtom 130 = .ok (.iconst 0, 1) := by decide +kernel
theorem dX12_readAtom_131 : decode cX12_readAtom 131 = .ok (.ireturn, 1) := by decide +kernel
theorem dX12_readAtom_132 : decode cX12_readAtom 132 = .ok (.aload_n 0, 1) := by decide +kernel
theorem dX12_readAtom_133 : decode cX12_readAtom 133 = .ok (.bipush 60, 2) := by decide +kernel
theorem dX12_readAtom_135 : decode cX12_readAtom 135 = .ok (.invokevirtual 193, 3) := by decide +kernel
theorem dX12_readAtom_138 : decode cX12_readAtom 138 = .ok (.istore_n 1, 1) := by decide +kernel
theorem dX12_readAtom_139 : decode cX12_readAtom 139 = .ok (.iload_n 1, 1) := by decide +kernel
theorem dX12_readAtom_140 : decode cX12_readAtom 140 = .ok (.ifCond .ne 12, 3) := by decide +kernel
theorem dX12_readAtom_143 : decode cX12_readAtom 143 = .ok (.aload_n 0, 1) := by decide +kernel
theorem dX12_readAtom_144 : decode cX12_readAtom 144 = .ok (.bipush 62, 2) := by decide +kernel
theorem dX12_readAtom_146 : decode cX12_readAtom 146 = .ok (.invokevirtual 193, 3) := by decide +kernel
theorem dX12_readAtom_149 : decode cX12_readAtom 149 = .ok (.ifCond .eq 10, 3) := by decide +kernel
theorem dX12_readAtom_152 : decode cX12_readAtom 152 = .ok (.aload_n 0, 1) := by decide +kernel
theorem dX12_readAtom_153 : decode cX12_readAtom 153 = .ok (.invokevirtual 211, 3) := by decide +kernel
theorem dX12_readAtom_156 : decode cX12_readAtom 156 = .ok (.ifCond .ne 5, 3) := by decide +kernel
theorem dX12_readAtom_159 : decode cX12_readAtom 159 = .ok (.iconst 0, 1) := by decide +kernel
theorem dX12_readAtom_160 : decode cX12_readAtom 160 = .ok (.ireturn, 1) := by decide +kernel
theorem dX12_readAtom_161 : decode cX12_readAtom 161 = .ok (.aload_n 0, 1) := by decide +kernel
theorem dX12_readAtom_162 : decode cX12_readAtom 162 = .ok (.iload_n 1, 1) := by decide +kernel
theorem dX12_readAtom_163 : decode cX12_readAtom 163 = .ok (.ifCond .eq 8, 3) := by decide +kernel
theorem dX12_readAtom_166 : decode cX12_readAtom 166 = .ok (.bipush 13, 2) := by decide +kernel
theorem dX12_readAtom_168 : decode cX12_readAtom 168 = .ok (.goto 5, 3) := by decide +kernel
theorem dX12_readAtom_171 : decode cX12_readAtom 171 = .ok (.bipush 14, 2) := by decide +kernel
theorem dX12_readAtom_173 : decode cX12_readAtom 173 = .ok (.iconst 0, 1) := by decide +kernel
theorem dX12_readAtom_174 : decode cX12_readAtom 174 = .ok (.invokevirtual 185, 3) := by decide +kernel
theorem dX12_readAtom_177 : decode cX12_readAtom 177 = .ok (.iconst 1, 1) := by decide +kernel
theorem dX12_readAtom_178 : decode cX12_readAtom 178 = .ok (.ireturn, 1) := by decide +kernel
theorem dX12_readAllOf_0 : decode cX12_readAllOf 0 = .ok (.aload_n 0, 1) := by decide +kernel
theorem dX12_readAllOf_1 : decode cX12_readAllOf 1 = .ok (.invokevirtual 205, 3) := by decide +kernel
theorem dX12_readAllOf_4 : decode cX12_readAllOf 4 = .ok (.ifCond .ne 5, 3) := by decide +kernel
theorem dX12_readAllOf_7 : decode cX12_readAllOf 7 = .ok (.iconst 0, 1) := by decide +kernel
theorem dX12_readAllOf_8 : decode cX12_readAllOf 8 = .ok (.ireturn, 1) := by decide +kernel
theorem dX12_readAllOf_9 : decode cX12_readAllOf 9 = .ok (.aload_n 0, 1) := by decide +kernel
theorem dX12_readAllOf_10 : decode cX12_readAllOf 10 = .ok (.ldc 214, 2) := by decide +kernel
theorem dX12_readAllOf_12 : decode cX12_readAllOf 12 = .ok (.invokevirtual 120, 3) := by decide +kernel
theorem dX12_readAllOf_15 : decode cX12_readAllOf 15 = .ok (.ifCond .eq 22, 3) := by decide +kernel
theorem dX12_readAllOf_18 : decode cX12_readAllOf 18 = .ok (.aload_n 0, 1) := by decide +kernel
theorem dX12_readAllOf_19 : decode cX12_readAllOf 19 = .ok (.invokevirtual 205, 3) := by decide +kernel
theorem dX12_readAllOf_22 : decode cX12_readAllOf 22 = .ok (.ifCond .ne 5, 3) := by decide +kernel
theorem dX12_readAllOf_25 : decode cX12_readAllOf 25 = .ok (.iconst 0, 1) := by decide +kernel
theorem dX12_readAllOf_26 : decode cX12_readAllOf 26 = .ok (.ireturn, 1) := by decide +kernel
theorem dX12_readAllOf_27 : decode cX12_readAllOf 27 = .ok (.aload_n 0, 1) := by decide +kernel
theorem dX12_readAllOf_28 : decode cX12_readAllOf 28 = .ok (.bipush 16, 2) := by decide +kernel
theorem dX12_readAllOf_30 : decode cX12_readAllOf 30 = .ok (.iconst 0, 1) := by decide +kernel
theorem dX12_readAllOf_31 : decode cX12_readAllOf 31 = .ok (.invokevirtual 185, 3) := by decide +kernel
theorem dX12_readAllOf_34 : decode cX12_readAllOf 34 = .ok (.goto (-25), 3) := by decide +kernel
theorem dX12_readAllOf_37 : decode cX12_readAllOf 37 = .ok (.iconst 1, 1) := by decide +kernel
theorem dX12_readAllOf_38 : decode cX12_readAllOf 38 = .ok (.ireturn, 1) := by decide +kernel
theorem dX12_readCond_0 : decode cX12_readCond 0 = .ok (.aload_n 0, 1) := by decide +kernel
theorem dX12_readCond_1 : decode cX12_readCond 1 = .ok (.invokevirtual 216, 3) := by decide +kernel
theorem dX12_readCond_4 : decode cX12_readCond 4 = .ok (.ifCond .ne 5, 3) := by decide +kernel
theorem dX12_readCond_7 : decode cX12_readCond 7 = .ok (.iconst 0, 1) := by decide +kernel
theorem dX12_readCond_8 : decode cX12_readCond 8 = .ok (.ireturn, 1) := by decide +kernel
theorem dX12_readCond_9 : decode cX12_readCond 9 = .ok (.aload_n 0, 1) := by decide +kernel
theorem dX12_readCond_10 : decode cX12_readCond 10 = .ok (.ldc 219, 2) := by decide +kernel
theorem dX12_readCond_12 : decode cX12_readCond 12 = .ok (.invokevirtual 120, 3) := by decide +kernel
theorem dX12_readCond_15 : decode cX12_readCond 15 = .ok (.ifCond .eq 22, 3) := by decide +kernel
theorem dX12_readCond_18 : decode cX12_readCond 18 = .ok (.aload_n 0, 1) := by decide +kernel
theorem dX12_readCond_19 : decode cX12_readCond 19 = .ok (.invokevirtual 216, 3) := by decide +kernel
theorem dX12_readCond_22 : decode cX12_readCond 22 = .ok (.ifCond .ne 5, 3) := by decide +kernel
theorem dX12_readCond_25 : decode cX12_readCond 25 = .ok (.iconst 0, 1) := by decide +kernel
theorem dX12_readCond_26 : decode cX12_readCond 26 = .ok (.ireturn, 1) := by decide +kernel
theorem dX12_readCond_27 : decode cX12_readCond 27 = .ok (.aload_n 0, 1) := by decide +kernel
theorem dX12_readCond_28 : decode cX12_readCond 28 = .ok (.bipush 17, 2) := by decide +kernel
theorem dX12_readCond_30 : decode cX12_readCond 30 = .ok (.iconst 0, 1) := by decide +kernel
theorem dX12_readCond_31 : decode cX12_readCond 31 = .ok (.invokevirtual 185, 3) := by decide +kernel
theorem dX12_readCond_34 : decode cX12_readCond 34 = .ok (.goto (-25), 3) := by decide +kernel
theorem dX12_readCond_37 : decode cX12_readCond 37 = .ok (.iconst 1, 1) := by decide +kernel
theorem dX12_readCond_38 : decode cX12_readCond 38 = .ok (.ireturn, 1) := by decide +kernel
theorem dX12_readLawLine_0 : decode cX12_readLawLine 0 = .ok (.sipush 1204, 3) := by decide +kernel
theorem dX12_readLawLine_3 : decode cX12_readLawLine 3 = .ok (.iconst 4, 1) := by decide +kernel
theorem dX12_readLawLine_4 : decode cX12_readLawLine 4 = .ok (.iload_n 1, 1) := by decide +kernel
theorem dX12_readLawLine_5 : decode cX12_readLawLine 5 = .ok (.imul, 1) := by decide +kernel
theorem dX12_readLawLine_6 : decode cX12_readLawLine 6 = .ok (.iadd, 1) := by decide +kernel
theorem dX12_readLawLine_7 : decode cX12_readLawLine 7 = .ok (.istore_n 2, 1) := by decide +kernel
theorem dX12_readLawLine_8 : decode cX12_readLawLine 8 = .ok (.aload_n 0, 1) := by decide +kernel
theorem dX12_readLawLine_9 : decode cX12_readLawLine 9 = .ok (.getfield 13, 3) := by decide +kernel
theorem dX12_readLawLine_12 : decode cX12_readLawLine 12 = .ok (.iload_n 2, 1) := by decide +kernel
theorem dX12_readLawLine_13 : decode cX12_readLawLine 13 = .ok (.aload_n 0, 1) := by decide +kernel
theorem dX12_readLawLine_14 : decode cX12_readLawLine 14 = .ok (.ldc 221, 2) := by decide +kernel
theorem dX12_readLawLine_16 : decode cX12_readLawLine 16 = .ok (.invokevirtual 105, 3) := by decide +kernel
theorem dX12_readLawLine_19 : decode cX12_readLawLine 19 = .ok (.ifCond .eq 7, 3) := by decide +kernel
theorem dX12_readLawLine_22 : decode cX12_readLawLine 22 = .ok (.iconst 0, 1) := by decide +kernel
theorem dX12_readLawLine_23 : decode cX12_readLawLine 23 = .ok (.goto 30, 3) := by decide +kernel
theorem dX12_readLawLine_26 : decode cX12_readLawLine 26 = .ok (.aload_n 0, 1) := by decide +kernel
theorem dX12_readLawLine_27 : decode cX12_readLawLine 27 = .ok (.ldc 223, 2) := by decide +kernel
theorem dX12_readLawLine_29 : decode cX12_readLawLine 29 = .ok (.invokevirtual 105, 3) := by decide +kernel
theorem dX12_readLawLine_32 : decode cX12_readLawLine 32 = .ok (.ifCond .eq 7, 3) := by decide +kernel
theorem dX12_readLawLine_35 : decode cX12_readLawLine 35 = .ok (.iconst 1, 1) := by decide +kernel
theorem dX12_readLawLine_36 : decode cX12_readLawLine 36 = .ok (.goto 17, 3) := by decide +kernel
theorem dX12_readLawLine_39 : decode cX12_readLawLine 39 = .ok (.aload_n 0, 1) := by decide +kernel
theorem dX12_readLawLine_40 : decode cX12_readLawLine 40 = .ok (.ldc 225, 2) := by decide +kernel
theorem dX12_readLawLine_42 : decode cX12_readLawLine 42 = .ok (.invokevirtual 105, 3) := by decide +kernel
theorem dX12_readLawLine_45 : decode cX12_readLawLine 45 = .ok (.ifCond .eq 7, 3) := by decide +kernel
theorem dX12_readLawLine_48 : decode cX12_readLawLine 48 = .ok (.iconst 2, 1) := by decide +kernel
theorem dX12_readLawLine_49 : decode cX12_readLawLine 49 = .ok (.goto 4, 3) := by decide +kernel
theorem dX12_readLawLine_52 : decode cX12_readLawLine 52 = .ok (.iconst (-1), 1) := by decide +kernel
theorem dX12_readLawLine_53 : decode cX12_readLawLine 53 = .ok (.iastore, 1) := by decide +kernel
theorem dX12_readLawLine_54 : decode cX12_readLawLine 54 = .ok (.aload_n 0, 1) := by decide +kernel
theorem dX12_readLawLine_55 : decode cX12_readLawLine 55 = .ok (.getfield 13, 3) := by decide +kernel
theorem dX12_readLawLine_58 : decode cX12_readLawLine 58 = .ok (.iload_n 2, 1) := by decide +kernel
theorem dX12_readLawLine_59 : decode cX12_readLawLine 59 = .ok (.iaload, 1) := by decide +kernel
theorem dX12_readLawLine_60 : decode cX12_readLawLine 60 = .ok (.ifCond .ge 5, 3) := by decide +kernel
theorem dX12_readLawLine_63 : decode cX12_readLawLine 63 = .ok (.iconst 0, 1) := by decide +kernel
theorem dX12_readLawLine_64 : decode cX12_readLawLine 64 = .ok (.ireturn, 1) := by decide +kernel
theorem dX12_readLawLine_65 : decode cX12_readLawLine 65 = .ok (.aload_n 0, 1) := by decide +kernel
theorem dX12_readLawLine_66 : decode cX12_readLawLine 66 = .ok (.getfield 13, 3) := by decide +kernel
theorem dX12_readLawLine_69 : decode cX12_readLawLine 69 = .ok (.iload_n 2, 1) := by decide +kernel
theorem dX12_readLawLine_70 : decode cX12_readLawLine 70 = .ok (.iconst 1, 1) := by decide +kernel
theorem dX12_readLawLine_71 : decode cX12_readLawLine 71 = .ok (.iadd, 1) := by decide +kernel
theorem dX12_readLawLine_72 : decode cX12_readLawLine 72 = .ok (.aload_n 0, 1) := by decide +kernel
theorem dX12_readLawLine_73 : decode cX12_readLawLine 73 = .ok (.getfield 13, 3) := by decide +kernel
theorem dX12_readLawLine_76 : decode cX12_readLawLine 76 = .ok (.iload_n 2, 1) := by decide +kernel
theorem dX12_readLawLine_77 : decode cX12_readLawLine 77 = .ok (.iaload, 1) := by decide +kernel
theorem dX12_readLawLine_78 : decode cX12_readLawLine 78 = .ok (.iconst 1, 1) := by decide +kernel
theorem dX12_readLawLine_79 : decode cX12_readLawLine 79 = .ok (.if_icmp .ne 7, 3) := by decide +kernel
theorem dX12_readLawLine_82 : decode cX12_readLawLine 82 = .ok (.iconst 1, 1) := by decide +kernel
theorem dX12_readLawLine_83 : decode cX12_readLawLine 83 = .ok (.goto 10, 3) := by decide +kernel
theorem dX12_readLawLine_86 : decode cX12_readLawLine 86 = .ok (.aload_n 0, 1) := by decide +kernel
theorem dX12_readLawLine_87 : decode cX12_readLawLine 87 = .ok (.iconst 0, 1) := by decide +kernel
theorem dX12_readLawLine_88 : decode cX12_readLawLine 88 = .ok (.bipush 99, 2) := by decide +kernel
theorem dX12_readLawLine_90 : decode cX12_readLawLine 90 = .ok (.invokevirtual 109, 3) := by decide +kernel
theorem dX12_readLawLine_93 : decode cX12_readLawLine 93 = .ok (.iastore, 1) := by decide +kernel
theorem dX12_readLawLine_94 : decode cX12_readLawLine 94 = .ok (.aload_n 0, 1) := by decide +kernel
theorem dX12_readLawLine_95 : decode cX12_readLawLine 95 = .ok (.getfield 13, 3) := by decide +kernel
theorem dX12_readLawLine_98 : decode cX12_readLawLine 98 = .ok (.iload_n 2, 1) := by decide +kernel
theorem dX12_readLawLine_99 : decode cX12_readLawLine 99 = .ok (.iconst 1, 1) := by decide +kernel
theorem dX12_readLawLine_100 : decode cX12_readLawLine 100 = .ok (.iadd, 1) := by decide +kernel
theorem dX12_readLawLine_101 : decode cX12_readLawLine 101 = .ok (.iaload, 1) := by decide +kernel
theorem dX12_readLawLine_102 : decode cX12_readLawLine 102 = .ok (.ifCond .ge 5, 3) := by decide +kernel
theorem dX12_readLawLine_105 : decode cX12_readLawLine 105 = .ok (.iconst 0, 1) := by decide +kernel
theorem dX12_readLawLine_106 : decode cX12_readLawLine 106 = .ok (.ireturn, 1) := by decide +kernel
theorem dX12_readLawLine_107 : decode cX12_readLawLine 107 = .ok (.aload_n 0, 1) := by decide +kernel
theorem dX12_readLawLine_108 : decode cX12_readLawLine 108 = .ok (.getfield 13, 3) := by decide +kernel
theorem dX12_readLawLine_111 : decode cX12_readLawLine 111 = .ok (.iload_n 2, 1) := by decide +kernel
theorem dX12_readLawLine_112 : decode cX12_readLawLine 112 = .ok (.iconst 2, 1) := by decide +kernel
theorem dX12_readLawLine_113 : decode cX12_readLawLine 113 = .ok (.iadd, 1) := by decide +kernel
theorem dX12_readLawLine_114 : decode cX12_readLawLine 114 = .ok (.aload_n 0, 1) := by decide +kernel
theorem dX12_readLawLine_115 : decode cX12_readLawLine 115 = .ok (.getfield 182, 3) := by decide +kernel
theorem dX12_readLawLine_118 : decode cX12_readLawLine 118 = .ok (.iastore, 1) := by decide +kernel
theorem dX12_readLawLine_119 : decode cX12_readLawLine 119 = .ok (.aload_n 0, 1) := by decide +kernel
theorem dX12_readLawLine_120 : decode cX12_readLawLine 120 = .ok (.iconst 0, 1) := by decide +kernel
theorem dX12_readLawLine_121 : decode cX12_readLawLine 121 = .ok (.putfield 197, 3) := by decide +kernel
theorem dX12_readLawLine_124 : decode cX12_readLawLine 124 = .ok (.aload_n 0, 1) := by decide +kernel
theorem dX12_readLawLine_125 : decode cX12_readLawLine 125 = .ok (.ldc 227, 2) := by decide +kernel
theorem dX12_readLawLine_127 : decode cX12_readLawLine 127 = .ok (.invokevirtual 120, 3) := by decide +kernel
theorem dX12_readLawLine_130 : decode cX12_readLawLine 130 = .ok (.ifCond .eq 12, 3) := by decide +kernel
theorem dX12_readLawLine_133 : decode cX12_readLawLine 133 = .ok (.aload_n 0, 1) := by decide +kernel
theorem dX12_readLawLine_134 : decode cX12_readLawLine 134 = .ok (.invokevirtual 200, 3) := by decide +kernel
theorem dX12_readLawLine_137 : decode cX12_readLawLine 137 = .ok (.ifCond .ne 5, 3) := by decide +kernel
theorem dX12_readLawLine_140 : decode cX12_readLawLine 140 = .ok (.iconst 0, 1) := by decide +kernel
theorem dX12_readLawLine_141 : decode cX12_readLawLine 141 = .ok (.ireturn, 1) := by decide +kernel
theorem dX12_readLawLine_142 : decode cX12_readLawLine 142 = .ok (.aload_n 0, 1) := by decide +kernel
theorem dX12_readLawLine_143 : decode cX12_readLawLine 143 = .ok (.getfield 13, 3) := by decide +kernel
theorem dX12_readLawLine_146 : decode cX12_readLawLine 146 = .ok (.iload_n 2, 1) := by decide +kernel
theorem dX12_readLawLine_147 : decode cX12_readLawLine 147 = .ok (.iconst 3, 1) := by decide +kernel
theorem dX12_readLawLine_148 : decode cX12_readLawLine 148 = .ok (.iadd, 1) := by decide +kernel
theorem dX12_readLawLine_149 : decode cX12_readLawLine 149 = .ok (.aload_n 0, 1) := by decide +kernel
theorem dX12_readLawLine_150 : decode cX12_readLawLine 150 = .ok (.getfield 182, 3) := by decide +kernel
theorem dX12_readLawLine_153 : decode cX12_readLawLine 153 = .ok (.iastore, 1) := by decide +kernel
theorem dX12_readLawLine_154 : decode cX12_readLawLine 154 = .ok (.iconst 1, 1) := by decide +kernel
theorem dX12_readLawLine_155 : decode cX12_readLawLine 155 = .ok (.ireturn, 1) := by decide +kernel
theorem dX12_readLine_0 : decode cX12_readLine 0 = .ok (.aload_n 0, 1) := by decide +kernel
theorem dX12_readLine_1 : decode cX12_readLine 1 = .ok (.invokevirtual 102, 3) := by decide +kernel
theorem dX12_readLine_4 : decode cX12_readLine 4 = .ok (.iload_n 2, 1) := by decide +kernel
theorem dX12_readLine_5 : decode cX12_readLine 5 = .ok (.iload_n 1, 1) := by decide +kernel
theorem dX12_readLine_6 : decode cX12_readLine 6 = .ok (.ifCond .eq 8, 3) := by decide +kernel
theorem dX12_readLine_9 : decode cX12_readLine 9 = .ok (.bipush 14, 2) := by decide +kernel
theorem dX12_readLine_11 : decode cX12_readLine 11 = .ok (.goto 5, 3) := by decide +kernel
theorem dX12_readLine_14 : decode cX12_readLine 14 = .ok (.bipush 12, 2) := by decide +kernel
theorem dX12_readLine_16 : decode cX12_readLine 16 = .ok (.if_icmp .ge 29, 3) := by decide +kernel
theorem dX12_readLine_19 : decode cX12_readLine 19 = .ok (.iload_n 1, 1) := by decide +kernel
theorem dX12_readLine_20 : decode cX12_readLine 20 = .ok (.ifCond .eq 13, 3) := by decide +kernel
theorem dX12_readLine_23 : decode cX12_readLine 23 = .ok (.aload_n 0, 1) := by decide +kernel
theorem dX12_readLine_24 : decode cX12_readLine 24 = .ok (.invokevirtual 229, 3) := by decide +kernel
theorem dX12_readLine_27 : decode cX12_readLine 27 = .ok (.ifCond .eq 18, 3) := by decide +kernel
theorem dX12_readLine_30 : decode cX12_readLine 30 = .ok (.goto 11, 3) := by decide +kernel
theorem dX12_readLine_33 : decode cX12_readLine 33 = .ok (.aload_n 0, 1) := by decide +kernel
theorem dX12_readLine_34 : decode cX12_readLine 34 = .ok (.iload_n 2, 1) := by decide +kernel
theorem dX12_readLine_35 : decode cX12_readLine 35 = .ok (.invokevirtual 232, 3) := by decide +kernel
theorem dX12_readLine_38 : decode cX12_readLine 38 = .ok (.ifCond .eq 7, 3) := by decide +kernel
theorem dX12_readLine_41 : decode cX12_readLine 41 = .ok (.iconst 1, 1) := by decide +kernel
theorem dX12_readLine_42 : decode cX12_readLine 42 = .ok (.goto 4, 3) := by decide +kernel
theorem dX12_readLine_45 : decode cX12_readLine 45 = .ok (.iconst 0, 1) := by decide +kernel
theorem dX12_readLine_46 : decode cX12_readLine 46 = .ok (.ireturn, 1) := by decide +kernel
theorem dX12_readAll_0 : decode cX12_readAll 0 = .ok (.aload_n 0, 1) := by decide +kernel
theorem dX12_readAll_1 : decode cX12_readAll 1 = .ok (.invokevirtual 235, 3) := by decide +kernel
theorem dX12_readAll_4 : decode cX12_readAll 4 = .ok (.aload_n 0, 1) := by decide +kernel
theorem dX12_readAll_5 : decode cX12_readAll 5 = .ok (.iconst 0, 1) := by decide +kernel
theorem dX12_readAll_6 : decode cX12_readAll 6 = .ok (.putfield 182, 3) := by decide +kernel
theorem dX12_readAll_9 : decode cX12_readAll 9 = .ok (.aload_n 0, 1) := by decide +kernel
theorem dX12_readAll_10 : decode cX12_readAll 10 = .ok (.invokevirtual 90, 3) := by decide +kernel
theorem dX12_readAll_13 : decode cX12_readAll 13 = .ok (.aload_n 0, 1) := by decide +kernel
theorem dX12_readAll_14 : decode cX12_readAll 14 = .ok (.getfield 78, 3) := by decide +kernel
theorem dX12_readAll_17 : decode cX12_readAll 17 = .ok (.aload_n 0, 1) := by decide +kernel
theorem dX12_readAll_18 : decode cX12_readAll 18 = .ok (.getfield 81, 3) := by decide +kernel
theorem dX12_readAll_21 : decode cX12_readAll 21 = .ok (.if_icmp .ne 5, 3) := by decide +kernel
theorem dX12_readAll_24 : decode cX12_readAll 24 = .ok (.iconst 0, 1) := by decide +kernel
theorem dX12_readAll_25 : decode cX12_readAll 25 = .ok (.ireturn, 1) := by decide +kernel
theorem dX12_readAll_26 : decode cX12_readAll 26 = .ok (.iconst 0, 1) := by decide +kernel
theorem dX12_readAll_27 : decode cX12_readAll 27 = .ok (.istore_n 2, 1) := by decide +kernel
theorem dX12_readAll_28 : decode cX12_readAll 28 = .ok (.aload_n 0, 1) := by decide +kernel
theorem dX12_readAll_29 : decode cX12_readAll 29 = .ok (.iload_n 1, 1) := by decide +kernel
theorem dX12_readAll_30 : decode cX12_readAll 30 = .ok (.iload_n 2, 1) := by decide +kernel
theorem dX12_readAll_31 : decode cX12_readAll 31 = .ok (.invokevirtual 238, 3) := by decide +kernel
theorem dX12_readAll_34 : decode cX12_readAll 34 = .ok (.ifCond .ne 5, 3) := by decide +kernel
theorem dX12_readAll_37 : decode cX12_readAll 37 = .ok (.iconst (-1), 1) := by decide +kernel
theorem dX12_readAll_38 : decode cX12_readAll 38 = .ok (.ireturn, 1) := by decide +kernel
theorem dX12_readAll_39 : decode cX12_readAll 39 = .ok (.aload_n 0, 1) := by decide +kernel
theorem dX12_readAll_40 : decode cX12_readAll 40 = .ok (.invokevirtual 90, 3) := by decide +kernel
theorem dX12_readAll_43 : decode cX12_readAll 43 = .ok (.aload_n 0, 1) := by decide +kernel
theorem dX12_readAll_44 : decode cX12_readAll 44 = .ok (.getfield 78, 3) := by decide +kernel
theorem dX12_readAll_47 : decode cX12_readAll 47 = .ok (.aload_n 0, 1) := by decide +kernel
theorem dX12_readAll_48 : decode cX12_readAll 48 = .ok (.getfield 81, 3) := by decide +kernel
theorem dX12_readAll_51 : decode cX12_readAll 51 = .ok (.if_icmp .ne 7, 3) := by decide +kernel
theorem dX12_readAll_54 : decode cX12_readAll 54 = .ok (.iload_n 2, 1) := by decide +kernel
theorem dX12_readAll_55 : decode cX12_readAll 55 = .ok (.iconst 1, 1) := by decide +kernel
theorem dX12_readAll_56 : decode cX12_readAll 56 = .ok (.iadd, 1) := by decide +kernel
theorem dX12_readAll_57 : decode cX12_readAll 57 = .ok (.ireturn, 1) := by decide +kernel
theorem dX12_readAll_58 : decode cX12_readAll 58 = .ok (.aload_n 0, 1) := by decide +kernel
theorem dX12_readAll_59 : decode cX12_readAll 59 = .ok (.bipush 59, 2) := by decide +kernel
theorem dX12_readAll_61 : decode cX12_readAll 61 = .ok (.bipush 59, 2) := by decide +kernel
theorem dX12_readAll_63 : decode cX12_readAll 63 = .ok (.invokevirtual 84, 3) := by decide +kernel
theorem dX12_readAll_66 : decode cX12_readAll 66 = .ok (.ifCond .ne 5, 3) := by decide +kernel
theorem dX12_readAll_69 : decode cX12_readAll 69 = .ok (.iconst (-1), 1) := by decide +kernel
theorem dX12_readAll_70 : decode cX12_readAll 70 = .ok (.ireturn, 1) := by decide +kernel
theorem dX12_readAll_71 : decode cX12_readAll 71 = .ok (.aload_n 0, 1) := by decide +kernel
theorem dX12_readAll_72 : decode cX12_readAll 72 = .ok (.dup, 1) := by decide +kernel
theorem dX12_readAll_73 : decode cX12_readAll 73 = .ok (.getfield 78, 3) := by decide +kernel
theorem dX12_readAll_76 : decode cX12_readAll 76 = .ok (.iconst 1, 1) := by decide +kernel
theorem dX12_readAll_77 : decode cX12_readAll 77 = .ok (.iadd, 1) := by decide +kernel
theorem dX12_readAll_78 : decode cX12_readAll 78 = .ok (.putfield 78, 3) := by decide +kernel
theorem dX12_readAll_81 : decode cX12_readAll 81 = .ok (.iinc 2 1, 3) := by decide +kernel
theorem dX12_readAll_84 : decode cX12_readAll 84 = .ok (.goto (-56), 3) := by decide +kernel
theorem dX12_parish_0 : decode cX12_parish 0 = .ok (.iconst 0, 1) := by decide +kernel
theorem dX12_parish_1 : decode cX12_parish 1 = .ok (.istore_n 1, 1) := by decide +kernel
theorem dX12_parish_2 : decode cX12_parish 2 = .ok (.iload_n 1, 1) := by decide +kernel
theorem dX12_parish_3 : decode cX12_parish 3 = .ok (.sipush 1203, 3) := by decide +kernel
theorem dX12_parish_6 : decode cX12_parish 6 = .ok (.if_icmp .ge 21, 3) := by decide +kernel
theorem dX12_parish_9 : decode cX12_parish 9 = .ok (.aload_n 0, 1) := by decide +kernel
theorem dX12_parish_10 : decode cX12_parish 10 = .ok (.getfield 20, 3) := by decide +kernel
theorem dX12_parish_13 : decode cX12_parish 13 = .ok (.iload_n 1, 1) := by decide +kernel
theorem dX12_parish_14 : decode cX12_parish 14 = .ok (.aload_n 0, 1) := by decide +kernel
theorem dX12_parish_15 : decode cX12_parish 15 = .ok (.getfield 13, 3) := by decide +kernel
theorem dX12_parish_18 : decode cX12_parish 18 = .ok (.iload_n 1, 1) := by decide +kernel
theorem dX12_parish_19 : decode cX12_parish 19 = .ok (.iaload, 1) := by decide +kernel
theorem dX12_parish_20 : decode cX12_parish 20 = .ok (.iastore, 1) := by decide +kernel
theorem dX12_parish_21 : decode cX12_parish 21 = .ok (.iinc 1 1, 3) := by decide +kernel
theorem dX12_parish_24 : decode cX12_parish 24 = .ok (.goto (-22), 3) := by decide +kernel
theorem dX12_parish_27 : decode cX12_parish 27 = .ok (.aload_n 0, 1) := by decide +kernel
theorem dX12_parish_28 : decode cX12_parish 28 = .ok (.iconst 1, 1) := by decide +kernel
theorem dX12_parish_29 : decode cX12_parish 29 = .ok (.invokevirtual 242, 3) := by decide +kernel
theorem dX12_parish_32 : decode cX12_parish 32 = .ok (.istore_n 1, 1) := by decide +kernel
theorem dX12_parish_33 : decode cX12_parish 33 = .ok (.aload_n 0, 1) := by decide +kernel
theorem dX12_parish_34 : decode cX12_parish 34 = .ok (.iload_n 1, 1) := by decide +kernel
theorem dX12_parish_35 : decode cX12_parish 35 = .ok (.ifCond .ge 10, 3) := by decide +kernel
theorem dX12_parish_38 : decode cX12_parish 38 = .ok (.aload_n 0, 1) := by decide +kernel
theorem dX12_parish_39 : decode cX12_parish 39 = .ok (.getfield 87, 3) := by decide +kernel
theorem dX12_parish_42 : decode cX12_parish 42 = .ok (.goto 4, 3) := by decide +kernel
theorem dX12_parish_45 : decode cX12_parish 45 = .ok (.iconst (-1), 1) := by decide +kernel
theorem dX12_parish_46 : decode cX12_parish 46 = .ok (.putfield 33, 3) := by decide +kernel
theorem dX12_parish_49 : decode cX12_parish 49 = .ok (.aload_n 0, 1) := by decide +kernel
theorem dX12_parish_50 : decode cX12_parish 50 = .ok (.iload_n 1, 1) := by decide +kernel
theorem dX12_parish_51 : decode cX12_parish 51 = .ok (.ifCond .ge 7, 3) := by decide +kernel
theorem dX12_parish_54 : decode cX12_parish 54 = .ok (.iconst 1, 1) := by decide +kernel
theorem dX12_parish_55 : decode cX12_parish 55 = .ok (.goto 4, 3) := by decide +kernel
theorem dX12_parish_58 : decode cX12_parish 58 = .ok (.iconst 0, 1) := by decide +kernel
theorem dX12_parish_59 : decode cX12_parish 59 = .ok (.iconst 1, 1) := by decide +kernel
theorem dX12_parish_60 : decode cX12_parish 60 = .ok (.invokevirtual 246, 3) := by decide +kernel
theorem dX12_parish_63 : decode cX12_parish 63 = .ok (.ifCond .ne 27, 3) := by decide +kernel
theorem dX12_parish_66 : decode cX12_parish 66 = .ok (.aload_n 0, 1) := by decide +kernel
theorem dX12_parish_67 : decode cX12_parish 67 = .ok (.aload_n 0, 1) := by decide +kernel
theorem dX12_parish_68 : decode cX12_parish 68 = .ok (.getfield 13, 3) := by decide +kernel
theorem dX12_parish_71 : decode cX12_parish 71 = .ok (.iconst 2, 1) := by decide +kernel
theorem dX12_parish_72 : decode cX12_parish 72 = .ok (.iaload, 1) := by decide +kernel
theorem dX12_parish_73 : decode cX12_parish 73 = .ok (.bipush 12, 2) := by decide +kernel
theorem dX12_parish_75 : decode cX12_parish 75 = .ok (.if_icmp .ne 7, 3) := by decide +kernel
theorem dX12_parish_78 : decode cX12_parish 78 = .ok (.iconst 1, 1) := by decide +kernel
theorem dX12_parish_79 : decode cX12_parish 79 = .ok (.goto 4, 3) := by decide +kernel
theorem dX12_parish_82 : decode cX12_parish 82 = .ok (.iconst 0, 1) := by decide +kernel
theorem dX12_parish_83 : decode cX12_parish 83 = .ok (.iconst 2, 1) := by decide +kernel
theorem dX12_parish_84 : decode cX12_parish 84 = .ok (.invokevirtual 246, 3) := by decide +kernel
theorem dX12_parish_87 : decode cX12_parish 87 = .ok (.ifCond .eq 32, 3) := by decide +kernel
theorem dX12_parish_90 : decode cX12_parish 90 = .ok (.iconst 0, 1) := by decide +kernel
theorem dX12_parish_91 : decode cX12_parish 91 = .ok (.istore_n 2, 1) := by decide +kernel
theorem dX12_parish_92 : decode cX12_parish 92 = .ok (.iload_n 2, 1) := by decide +kernel
theorem dX12_parish_93 : decode cX12_parish 93 = .ok (.sipush 1203, 3) := by decide +kernel
theorem dX12_parish_96 : decode cX12_parish 96 = .ok (.if_icmp .ge 21, 3) := by decide +kernel
theorem dX12_parish_99 : decode cX12_parish 99 = .ok (.aload_n 0, 1) := by decide +kernel
theorem dX12_parish_100 : decode cX12_parish 100 = .ok (.getfield 13, 3) := by decide +kernel
theorem dX12_parish_103 : decode cX12_parish 103 = .ok (.iload_n 2, 1) := by decide +kernel
theorem dX12_parish_104 : decode cX12_parish 104 = .ok (.aload_n 0, 1) := by decide +kernel
theorem dX12_parish_105 : decode cX12_parish 105 = .ok (.getfield 20, 3) := by decide +kernel
theorem dX12_parish_108 : decode cX12_parish 108 = .ok (.iload_n 2, 1) := by decide +kernel
theorem dX12_parish_109 : decode cX12_parish 109 = .ok (.iaload, 1) := by decide +kernel
theorem dX12_parish_110 : decode cX12_parish 110 = .ok (.iastore, 1) := by decide +kernel
theorem dX12_parish_111 : decode cX12_parish 111 = .ok (.iinc 2 1, 3) := by decide +kernel
theorem dX12_parish_114 : decode cX12_parish 114 = .ok (.goto (-22), 3) := by decide +kernel
theorem dX12_parish_117 : decode cX12_parish 117 = .ok (.iconst 0, 1) := by decide +kernel
theorem dX12_parish_118 : decode cX12_parish 118 = .ok (.ireturn, 1) := by decide +kernel
theorem dX12_parish_119 : decode cX12_parish 119 = .ok (.aload_n 0, 1) := by decide +kernel
theorem dX12_parish_120 : decode cX12_parish 120 = .ok (.getfield 13, 3) := by decide +kernel
theorem dX12_parish_123 : decode cX12_parish 123 = .ok (.iconst 2, 1) := by decide +kernel
theorem dX12_parish_124 : decode cX12_parish 124 = .ok (.dup2, 1) := by decide +kernel
theorem dX12_parish_125 : decode cX12_parish 125 = .ok (.iaload, 1) := by decide +kernel
theorem dX12_parish_126 : decode cX12_parish 126 = .ok (.iconst 1, 1) := by decide +kernel
theorem dX12_parish_127 : decode cX12_parish 127 = .ok (.iadd, 1) := by decide +kernel
theorem dX12_parish_128 : decode cX12_parish 128 = .ok (.iastore, 1) := by decide +kernel
theorem dX12_parish_129 : decode cX12_parish 129 = .ok (.aload_n 0, 1) := by decide +kernel
theorem dX12_parish_130 : decode cX12_parish 130 = .ok (.iconst 0, 1) := by decide +kernel
theorem dX12_parish_131 : decode cX12_parish 131 = .ok (.putfield 46, 3) := by decide +kernel
theorem dX12_parish_134 : decode cX12_parish 134 = .ok (.aload_n 0, 1) := by decide +kernel
theorem dX12_parish_135 : decode cX12_parish 135 = .ok (.getfield 13, 3) := by decide +kernel
theorem dX12_parish_138 : decode cX12_parish 138 = .ok (.iconst 2, 1) := by decide +kernel
theorem dX12_parish_139 : decode cX12_parish 139 = .ok (.iaload, 1) := by decide +kernel
theorem dX12_parish_140 : decode cX12_parish 140 = .ok (.ireturn, 1) := by decide +kernel
theorem dX12_law_0 : decode cX12_law 0 = .ok (.aload_n 0, 1) := by decide +kernel
theorem dX12_law_1 : decode cX12_law 1 = .ok (.iconst 0, 1) := by decide +kernel
theorem dX12_law_2 : decode cX12_law 2 = .ok (.invokevirtual 242, 3) := by decide +kernel
theorem dX12_law_5 : decode cX12_law 5 = .ok (.istore_n 1, 1) := by decide +kernel
theorem dX12_law_6 : decode cX12_law 6 = .ok (.aload_n 0, 1) := by decide +kernel
theorem dX12_law_7 : decode cX12_law 7 = .ok (.iload_n 1, 1) := by decide +kernel
theorem dX12_law_8 : decode cX12_law 8 = .ok (.ifCond .ge 10, 3) := by decide +kernel
theorem dX12_law_11 : decode cX12_law 11 = .ok (.aload_n 0, 1) := by decide +kernel
theorem dX12_law_12 : decode cX12_law 12 = .ok (.getfield 87, 3) := by decide +kernel
theorem dX12_law_15 : decode cX12_law 15 = .ok (.goto 4, 3) := by decide +kernel
theorem dX12_law_18 : decode cX12_law 18 = .ok (.iconst (-1), 1) := by decide +kernel
theorem dX12_law_19 : decode cX12_law 19 = .ok (.putfield 33, 3) := by decide +kernel
theorem dX12_law_22 : decode cX12_law 22 = .ok (.aload_n 0, 1) := by decide +kernel
theorem dX12_law_23 : decode cX12_law 23 = .ok (.iload_n 1, 1) := by decide +kernel
theorem dX12_law_24 : decode cX12_law 24 = .ok (.ifCond .ge 7, 3) := by decide +kernel
theorem dX12_law_27 : decode cX12_law 27 = .ok (.iconst 1, 1) := by decide +kernel
theorem dX12_law_28 : decode cX12_law 28 = .ok (.goto 4, 3) := by decide +kernel
theorem dX12_law_31 : decode cX12_law 31 = .ok (.iconst 0, 1) := by decide +kernel
theorem dX12_law_32 : decode cX12_law 32 = .ok (.iconst 1, 1) := by decide +kernel
theorem dX12_law_33 : decode cX12_law 33 = .ok (.invokevirtual 246, 3) := by decide +kernel
theorem dX12_law_36 : decode cX12_law 36 = .ok (.ifCond .eq 5, 3) := by decide +kernel
theorem dX12_law_39 : decode cX12_law 39 = .ok (.iconst 0, 1) := by decide +kernel
theorem dX12_law_40 : decode cX12_law 40 = .ok (.ireturn, 1) := by decide +kernel
theorem dX12_law_41 : decode cX12_law 41 = .ok (.aload_n 0, 1) := by decide +kernel
theorem dX12_law_42 : decode cX12_law 42 = .ok (.getfield 13, 3) := by decide +kernel
theorem dX12_law_45 : decode cX12_law 45 = .ok (.sipush 1203, 3) := by decide +kernel
theorem dX12_law_48 : decode cX12_law 48 = .ok (.iload_n 1, 1) := by decide +kernel
theorem dX12_law_49 : decode cX12_law 49 = .ok (.iastore, 1) := by decide +kernel
theorem dX12_law_50 : decode cX12_law 50 = .ok (.iconst 0, 1) := by decide +kernel
theorem dX12_law_51 : decode cX12_law 51 = .ok (.istore_n 2, 1) := by decide +kernel
theorem dX12_law_52 : decode cX12_law 52 = .ok (.iload_n 2, 1) := by decide +kernel
theorem dX12_law_53 : decode cX12_law 53 = .ok (.sipush 849, 3) := by decide +kernel
theorem dX12_law_56 : decode cX12_law 56 = .ok (.if_icmp .ge 29, 3) := by decide +kernel
theorem dX12_law_59 : decode cX12_law 59 = .ok (.aload_n 0, 1) := by decide +kernel
theorem dX12_law_60 : decode cX12_law 60 = .ok (.getfield 13, 3) := by decide +kernel
theorem dX12_law_63 : decode cX12_law 63 = .ok (.sipush 354, 3) := by decide +kernel
theorem dX12_law_66 : decode cX12_law 66 = .ok (.iload_n 2, 1) := by decide +kernel
theorem dX12_law_67 : decode cX12_law 67 = .ok (.iadd, 1) := by decide +kernel
theorem dX12_law_68 : decode cX12_law 68 = .ok (.aload_n 0, 1) := by decide +kernel
theorem dX12_law_69 : decode cX12_law 69 = .ok (.getfield 13, 3) := by decide +kernel
theorem dX12_law_72 : decode cX12_law 72 = .ok (.sipush 1203, 3) := by decide +kernel
theorem dX12_law_75 : decode cX12_law 75 = .ok (.iload_n 2, 1) := by decide +kernel
theorem dX12_law_76 : decode cX12_law 76 = .ok (.iadd, 1) := by decide +kernel
theorem dX12_law_77 : decode cX12_law 77 = .ok (.iaload, 1) := by decide +kernel
theorem dX12_law_78 : decode cX12_law 78 = .ok (.iastore, 1) := by decide +kernel
theorem dX12_law_79 : decode cX12_law 79 = .ok (.iinc 2 1, 3) := by decide +kernel
theorem dX12_law_82 : decode cX12_law 82 = .ok (.goto (-30), 3) := by decide +kernel
theorem dX12_law_85 : decode cX12_law 85 = .ok (.aload_n 0, 1) := by decide +kernel
theorem dX12_law_86 : decode cX12_law 86 = .ok (.getfield 13, 3) := by decide +kernel
theorem dX12_law_89 : decode cX12_law 89 = .ok (.iconst 3, 1) := by decide +kernel
theorem dX12_law_90 : decode cX12_law 90 = .ok (.iconst 1, 1) := by decide +kernel
theorem dX12_law_91 : decode cX12_law 91 = .ok (.iastore, 1) := by decide +kernel
theorem dX12_law_92 : decode cX12_law 92 = .ok (.aload_n 0, 1) := by decide +kernel
theorem dX12_law_93 : decode cX12_law 93 = .ok (.iconst 0, 1) := by decide +kernel
theorem dX12_law_94 : decode cX12_law 94 = .ok (.putfield 46, 3) := by decide +kernel
theorem dX12_law_97 : decode cX12_law 97 = .ok (.iload_n 1, 1) := by decide +kernel
theorem dX12_law_98 : decode cX12_law 98 = .ok (.ireturn, 1) := by decide +kernel
theorem dX12_burningOf_0 : decode cX12_burningOf 0 = .ok (.aload_n 0, 1) := by decide +kernel
theorem dX12_burningOf_1 : decode cX12_burningOf 1 = .ok (.iload_n 1, 1) := by decide +kernel
theorem dX12_burningOf_2 : decode cX12_burningOf 2 = .ok (.invokevirtual 138, 3) := by decide +kernel
theorem dX12_burningOf_5 : decode cX12_burningOf 5 = .ok (.aload_n 0, 1) := by decide +kernel
theorem dX12_burningOf_6 : decode cX12_burningOf 6 = .ok (.iconst 1, 1) := by decide +kernel
theorem dX12_burningOf_7 : decode cX12_burningOf 7 = .ok (.invokevirtual 249, 3) := by decide +kernel
theorem dX12_burningOf_10 : decode cX12_burningOf 10 = .ok (.iconst (-1), 1) := by decide +kernel
theorem dX12_burningOf_11 : decode cX12_burningOf 11 = .ok (.ixor, 1) := by decide +kernel
theorem dX12_burningOf_12 : decode cX12_burningOf 12 = .ok (.iand, 1) := by decide +kernel
theorem dX12_burningOf_13 : decode cX12_burningOf 13 = .ok (.ireturn, 1) := by decide +kernel
theorem dX12_factOf_0 : decode cX12_factOf 0 = .ok (.aload_n 0, 1) := by decide +kernel
theorem dX12_factOf_1 : decode cX12_factOf 1 = .ok (.iload_n 3, 1) := by decide +kernel
theorem dX12_factOf_2 : decode cX12_factOf 2 = .ok (.iconst 0, 1) := by decide +kernel
theorem dX12_factOf_3 : decode cX12_factOf 3 = .ok (.invokevirtual 56, 3) := by decide +kernel
theorem dX12_factOf_6 : decode cX12_factOf 6 = .ok (.istore 4, 2) := by decide +kernel
theorem dX12_factOf_8 : decode cX12_factOf 8 = .ok (.iload_n 1, 1) := by decide +kernel
theorem dX12_factOf_9 : decode cX12_factOf 9 = .ok (.tableswitch 115 0 11 #[63, 66, 73, 80, 90, 98, 105, 115, 115, 115, 115, 113], 63) := by decide +kernel
theorem dX12_factOf_72 : decode cX12_factOf 72 = .ok (.iload 4, 2) := by decide +kernel
theorem dX12_factOf_74 : decode cX12_factOf 74 = .ok (.ireturn, 1) := by decide +kernel
theorem dX12_factOf_75 : decode cX12_factOf 75 = .ok (.aload_n 0, 1) := by decide +kernel
theorem dX12_factOf_76 : decode cX12_factOf 76 = .ok (.iload_n 3, 1) := by decide +kernel
theorem dX12_factOf_77 : decode cX12_factOf 77 = .ok (.iconst 2, 1) := by decide +kernel
theorem dX12_factOf_78 : decode cX12_factOf 78 = .ok (.invokevirtual 56, 3) := by decide +kernel
theorem dX12_factOf_81 : decode cX12_factOf 81 = .ok (.ireturn, 1) := by decide +kernel
theorem dX12_factOf_82 : decode cX12_factOf 82 = .ok (.aload_n 0, 1) := by decide +kernel
theorem dX12_factOf_83 : decode cX12_factOf 83 = .ok (.iload_n 3, 1) := by decide +kernel
theorem dX12_factOf_84 : decode cX12_factOf 84 = .ok (.iconst 3, 1) := by decide +kernel
theorem dX12_factOf_85 : decode cX12_factOf 85 = .ok (.invokevirtual 56, 3) := by decide +kernel
theorem dX12_factOf_88 : decode cX12_factOf 88 = .ok (.ireturn, 1) := by decide +kernel
theorem dX12_factOf_89 : decode cX12_factOf 89 = .ok (.aload_n 0, 1) := by decide +kernel
theorem dX12_factOf_90 : decode cX12_factOf 90 = .ok (.iload 4, 2) := by decide +kernel
theorem dX12_factOf_92 : decode cX12_factOf 92 = .ok (.invokevirtual 252, 3) := by decide +kernel
theorem dX12_factOf_95 : decode cX12_factOf 95 = .ok (.invokestatic 142, 3) := by decide +kernel
theorem dX12_factOf_98 : decode cX12_factOf 98 = .ok (.ireturn, 1) := by decide +kernel
theorem dX12_factOf_99 : decode cX12_factOf 99 = .ok (.aload_n 0, 1) := by decide +kernel
theorem dX12_factOf_100 : decode cX12_factOf 100 = .ok (.iload 4, 2) := by decide +kernel
theorem dX12_factOf_102 : decode cX12_factOf 102 = .ok (.iconst 2, 1) := by decide +kernel
theorem dX12_factOf_103 : decode cX12_factOf 103 = .ok (.invokevirtual 255, 3) := by decide +kernel
theorem dX12_factOf_106 : decode cX12_factOf 106 = .ok (.ireturn, 1) := by decide +kernel
theorem dX12_factOf_107 : decode cX12_factOf 107 = .ok (.aload_n 0, 1) := by decide +kernel
theorem dX12_factOf_108 : decode cX12_factOf 108 = .ok (.getfield 13, 3) := by decide +kernel
theorem dX12_factOf_111 : decode cX12_factOf 111 = .ok (.iconst 4, 1) := by decide +kernel
theorem dX12_factOf_112 : decode cX12_factOf 112 = .ok (.iaload, 1) := by decide +kernel
theorem dX12_factOf_113 : decode cX12_factOf 113 = .ok (.ireturn, 1) := by decide +kernel
theorem dX12_factOf_114 : decode cX12_factOf 114 = .ok (.aload_n 0, 1) := by decide +kernel
theorem dX12_factOf_115 : decode cX12_factOf 115 = .ok (.iload 4, 2) := by decide +kernel
theorem dX12_factOf_117 : decode cX12_factOf 117 = .ok (.iconst 1, 1) := by decide +kernel
theorem dX12_factOf_118 : decode cX12_factOf 118 = .ok (.invokevirtual 255, 3) := by decide +kernel
theorem dX12_factOf_121 : decode cX12_factOf 121 = .ok (.ireturn, 1) := by decide +kernel
theorem dX12_factOf_122 : decode cX12_factOf 122 = .ok (.iload_n 2, 1) := by decide +kernel
theorem dX12_factOf_123 : decode cX12_factOf 123 = .ok (.ireturn, 1) := by decide +kernel
theorem dX12_factOf_124 : decode cX12_factOf 124 = .ok (.aload_n 0, 1) := by decide +kernel
theorem dX12_factOf_125 : decode cX12_factOf 125 = .ok (.iload_n 3, 1) := by decide +kernel
theorem dX12_factOf_126 : decode cX12_factOf 126 = .ok (.iconst 1, 1) := by decide +kernel
theorem dX12_factOf_127 : decode cX12_factOf 127 = .ok (.invokevirtual 56, 3) := by decide +kernel
theorem dX12_factOf_130 : decode cX12_factOf 130 = .ok (.iload_n 1, 1) := by decide +kernel
theorem dX12_factOf_131 : decode cX12_factOf 131 = .ok (.bipush 7, 2) := by decide +kernel
theorem dX12_factOf_133 : decode cX12_factOf 133 = .ok (.isub, 1) := by decide +kernel
theorem dX12_factOf_134 : decode cX12_factOf 134 = .ok (.if_icmp .ne 7, 3) := by decide +kernel
theorem dX12_factOf_137 : decode cX12_factOf 137 = .ok (.iconst 1, 1) := by decide +kernel
theorem dX12_factOf_138 : decode cX12_factOf 138 = .ok (.goto 4, 3) := by decide +kernel
theorem dX12_factOf_141 : decode cX12_factOf 141 = .ok (.iconst 0, 1) := by decide +kernel
theorem dX12_factOf_142 : decode cX12_factOf 142 = .ok (.ireturn, 1) := by decide +kernel
theorem dX12_holdsLine_0 : decode cX12_holdsLine 0 = .ok (.iconst 0, 1) := by decide +kernel
theorem dX12_holdsLine_1 : decode cX12_holdsLine 1 = .ok (.istore_n 3, 1) := by decide +kernel
theorem dX12_holdsLine_2 : decode cX12_holdsLine 2 = .ok (.sipush 355, 3) := by decide +kernel
theorem dX12_holdsLine_5 : decode cX12_holdsLine 5 = .ok (.iconst 4, 1) := by decide +kernel
theorem dX12_holdsLine_6 : decode cX12_holdsLine 6 = .ok (.iload_n 1, 1) := by decide +kernel
theorem dX12_holdsLine_7 : decode cX12_holdsLine 7 = .ok (.imul, 1) := by decide +kernel
theorem dX12_holdsLine_8 : decode cX12_holdsLine 8 = .ok (.iadd, 1) := by decide +kernel
theorem dX12_holdsLine_9 : decode cX12_holdsLine 9 = .ok (.istore 4, 2) := by decide +kernel
theorem dX12_holdsLine_11 : decode cX12_holdsLine 11 = .ok (.aload_n 0, 1) := by decide +kernel
theorem dX12_holdsLine_12 : decode cX12_holdsLine 12 = .ok (.getfield 13, 3) := by decide +kernel
theorem dX12_holdsLine_15 : decode cX12_holdsLine 15 = .ok (.iload 4, 2) := by decide +kernel
theorem dX12_holdsLine_17 : decode cX12_holdsLine 17 = .ok (.iconst 2, 1) := by decide +kernel
theorem dX12_holdsLine_18 : decode cX12_holdsLine 18 = .ok (.iadd, 1) := by decide +kernel
theorem dX12_holdsLine_19 : decode cX12_holdsLine 19 = .ok (.iaload, 1) := by decide +kernel
theorem dX12_holdsLine_20 : decode cX12_holdsLine 20 = .ok (.istore 5, 2) := by decide +kernel
theorem dX12_holdsLine_22 : decode cX12_holdsLine 22 = .ok (.iload 5, 2) := by decide +kernel
theorem dX12_holdsLine_24 : decode cX12_holdsLine 24 = .ok (.aload_n 0, 1) := by decide +kernel
theorem dX12_holdsLine_25 : decode cX12_holdsLine 25 = .ok (.getfield 13, 3) := by decide +kernel
theorem dX12_holdsLine_28 : decode cX12_holdsLine 28 = .ok (.iload 4, 2) := by decide +kernel
theorem dX12_holdsLine_30 : decode cX12_holdsLine 30 = .ok (.iconst 3, 1) := by decide +kernel
theorem dX12_holdsLine_31 : decode cX12_holdsLine 31 = .ok (.iadd, 1) := by decide +kernel
theorem dX12_holdsLine_32 : decode cX12_holdsLine 32 = .ok (.iaload, 1) := by decide +kernel
theorem dX12_holdsLine_33 : decode cX12_holdsLine 33 = .ok (.if_icmp .ge 230, 3) := by decide +kernel
theorem dX12_holdsLine_36 : decode cX12_holdsLine 36 = .ok (.aload_n 0, 1) := by decide +kernel
theorem dX12_holdsLine_37 : decode cX12_holdsLine 37 = .ok (.getfield 13, 3) := by decide +kernel
theorem dX12_holdsLine_40 : decode cX12_holdsLine 40 = .ok (.sipush 403, 3) := by decide +kernel
theorem dX12_holdsLine_43 : decode cX12_holdsLine 43 = .ok (.iconst 2, 1) := by decide +kernel
theorem dX12_holdsLine_44 : decode cX12_holdsLine 44 = .ok (.iload 5, 2) := by decide +kernel
theorem dX12_holdsLine_46 : decode cX12_holdsLine 46 = .ok (.imul, 1) := by decide +kernel
theorem dX12_holdsLine_47 : decode cX12_holdsLine 47 = .ok (.iadd, 1) := by decide +kernel
theorem dX12_holdsLine_48 : decode cX12_holdsLine 48 = .ok (.iaload, 1) := by decide +kernel
theorem dX12_holdsLine_49 : decode cX12_holdsLine 49 = .ok (.istore 6, 2) := by decide +kernel
theorem dX12_holdsLine_51 : decode cX12_holdsLine 51 = .ok (.iload 6, 2) := by decide +kernel
theorem dX12_holdsLine_53 : decode cX12_holdsLine 53 = .ok (.bipush 11, 2) := by decide +kernel
theorem dX12_holdsLine_55 : decode cX12_holdsLine 55 = .ok (.if_icmp .gt 37, 3) := by decide +kernel
theorem dX12_holdsLine_58 : decode cX12_holdsLine 58 = .ok (.aload_n 0, 1) := by decide +kernel
theorem dX12_holdsLine_59 : decode cX12_holdsLine 59 = .ok (.getfield 39, 3) := by decide +kernel
theorem dX12_holdsLine_62 : decode cX12_holdsLine 62 = .ok (.iload_n 3, 1) := by decide +kernel
theorem dX12_holdsLine_63 : decode cX12_holdsLine 63 = .ok (.aload_n 0, 1) := by decide +kernel
theorem dX12_holdsLine_64 : decode cX12_holdsLine 64 = .ok (.iload 6, 2) := by decide +kernel
theorem dX12_holdsLine_66 : decode cX12_holdsLine 66 = .ok (.aload_n 0, 1) := by decide +kernel
theorem dX12_holdsLine_67 : decode cX12_holdsLine 67 = .ok (.getfield 13, 3) := by decide +kernel
theorem dX12_holdsLine_70 : decode cX12_holdsLine 70 = .ok (.sipush 403, 3) := by decide +kernel
theorem dX12_holdsLine_73 : decode cX12_holdsLine 73 = .ok (.iconst 2, 1) := by decide +kernel
theorem dX12_holdsLine_74 : decode cX12_holdsLine 74 = .ok (.iload 5, 2) := by decide +kernel
theorem dX12_holdsLine_76 : decode cX12_holdsLine 76 = .ok (.imul, 1) := by decide +kernel
theorem dX12_holdsLine_77 : decode cX12_holdsLine 77 = .ok (.iadd, 1) := by decide +kernel
theorem dX12_holdsLine_78 : decode cX12_holdsLine 78 = .ok (.iconst 1, 1) := by decide +kernel
theorem dX12_holdsLine_79 : decode cX12_holdsLine 79 = .ok (.iadd, 1) := by decide +kernel
theorem dX12_holdsLine_80 : decode cX12_holdsLine 80 = .ok (.iaload, 1) := by decide +kernel
theorem dX12_holdsLine_81 : decode cX12_holdsLine 81 = .ok (.iload_n 2, 1) := by decide +kernel
theorem dX12_holdsLine_82 : decode cX12_holdsLine 82 = .ok (.invokevirtual 257, 3) := by decide +kernel
theorem dX12_holdsLine_85 : decode cX12_holdsLine 85 = .ok (.iastore, 1) := by decide +kernel
theorem dX12_holdsLine_86 : decode cX12_holdsLine 86 = .ok (.iinc 3 1, 3) := by decide +kernel
theorem dX12_holdsLine_89 : decode cX12_holdsLine 89 = .ok (.goto 168, 3) := by decide +kernel
theorem dX12_holdsLine_92 : decode cX12_holdsLine 92 = .ok (.iload 6, 2) := by decide +kernel
theorem dX12_holdsLine_94 : decode cX12_holdsLine 94 = .ok (.bipush 15, 2) := by decide +kernel
theorem dX12_holdsLine_96 : decode cX12_holdsLine 96 = .ok (.if_icmp .ne 24, 3) := by decide +kernel
theorem dX12_holdsLine_99 : decode cX12_holdsLine 99 = .ok (.aload_n 0, 1) := by decide +kernel
theorem dX12_holdsLine_100 : decode cX12_holdsLine 100 = .ok (.getfield 39, 3) := by decide +kernel
theorem dX12_holdsLine_103 : decode cX12_holdsLine 103 = .ok (.iload_n 3, 1) := by decide +kernel
theorem dX12_holdsLine_104 : decode cX12_holdsLine 104 = .ok (.iconst 1, 1) := by decide +kernel
theorem dX12_holdsLine_105 : decode cX12_holdsLine 105 = .ok (.isub, 1) := by decide +kernel
theorem dX12_holdsLine_106 : decode cX12_holdsLine 106 = .ok (.iconst 1, 1) := by decide +kernel
theorem dX12_holdsLine_107 : decode cX12_holdsLine 107 = .ok (.aload_n 0, 1) := by decide +kernel
theorem dX12_holdsLine_108 : decode cX12_holdsLine 108 = .ok (.getfield 39, 3) := by decide +kernel
theorem dX12_holdsLine_111 : decode cX12_holdsLine 111 = .ok (.iload_n 3, 1) := by decide +kernel
theorem dX12_holdsLine_112 : decode cX12_holdsLine 112 = .ok (.iconst 1, 1) := by decide +kernel
theorem dX12_holdsLine_113 : decode cX12_holdsLine 113 = .ok (.isub, 1) := by decide +kernel
theorem dX12_holdsLine_114 : decode cX12_holdsLine 114 = .ok (.iaload, 1) := by decide +kernel
theorem dX12_holdsLine_115 : decode cX12_holdsLine 115 = .ok (.isub, 1) := by decide +kernel
theorem dX12_holdsLine_116 : decode cX12_holdsLine 116 = .ok (.iastore, 1) := by decide +kernel
theorem dX12_holdsLine_117 : decode cX12_holdsLine 117 = .ok (.goto 140, 3) := by decide +kernel
theorem dX12_holdsLine_120 : decode cX12_holdsLine 120 = .ok (.iinc 3 (-1), 3) := by decide +kernel
theorem dX12_holdsLine_123 : decode cX12_holdsLine 123 = .ok (.aload_n 0, 1) := by decide +kernel
theorem dX12_holdsLine_124 : decode cX12_holdsLine 124 = .ok (.getfield 39, 3) := by decide +kernel
theorem dX12_holdsLine_127 : decode cX12_holdsLine 127 = .ok (.iload_n 3, 1) := by decide +kernel
theorem dX12_holdsLine_128 : decode cX12_holdsLine 128 = .ok (.iconst 1, 1) := by decide +kernel
theorem dX12_holdsLine_129 : decode cX12_holdsLine 129 = .ok (.isub, 1) := by decide +kernel
theorem dX12_holdsLine_130 : decode cX12_holdsLine 130 = .ok (.iaload, 1) := by decide +kernel
theorem dX12_holdsLine_131 : decode cX12_holdsLine 131 = .ok (.istore 7, 2) := by decide +kernel
theorem dX12_holdsLine_133 : decode cX12_holdsLine 133 = .ok (.aload_n 0, 1) := by decide +kernel
theorem dX12_holdsLine_134 : decode cX12_holdsLine 134 = .ok (.getfield 39, 3) := by decide +kernel
theorem dX12_holdsLine_137 : decode cX12_holdsLine 137 = .ok (.iload_n 3, 1) := by decide +kernel
theorem dX12_holdsLine_138 : decode cX12_holdsLine 138 = .ok (.iaload, 1) := by decide +kernel
theorem dX12_holdsLine_139 : decode cX12_holdsLine 139 = .ok (.istore 8, 2) := by decide +kernel
theorem dX12_holdsLine_141 : decode cX12_holdsLine 141 = .ok (.iload 6, 2) := by decide +kernel
theorem dX12_holdsLine_143 : decode cX12_holdsLine 143 = .ok (.bipush 13, 2) := by decide +kernel
theorem dX12_holdsLine_145 : decode cX12_holdsLine 145 = .ok (.if_icmp .ne 18, 3) := by decide +kernel
theorem dX12_holdsLine_148 : decode cX12_holdsLine 148 = .ok (.iload 7, 2) := by decide +kernel
theorem dX12_holdsLine_150 : decode cX12_holdsLine 150 = .ok (.iload 8, 2) := by decide +kernel
theorem dX12_holdsLine_152 : decode cX12_holdsLine 152 = .ok (.if_icmp .ge 7, 3) := by decide +kernel
theorem dX12_holdsLine_155 : decode cX12_holdsLine 155 = .ok (.iconst 1, 1) := by decide +kernel
theorem dX12_holdsLine_156 : decode cX12_holdsLine 156 = .ok (.goto 66, 3) := by decide +kernel
theorem dX12_holdsLine_159 : decode cX12_holdsLine 159 = .ok (.iconst 0, 1) := by decide +kernel
theorem dX12_holdsLine_160 : decode cX12_holdsLine 160 = .ok (.goto 62, 3) := by decide +kernel
theorem dX12_holdsLine_163 : decode cX12_holdsLine 163 = .ok (.iload 6, 2) := by decide +kernel
theorem dX12_holdsLine_165 : decode cX12_holdsLine 165 = .ok (.bipush 14, 2) := by decide +kernel
theorem dX12_holdsLine_167 : decode cX12_holdsLine 167 = .ok (.if_icmp .ne 18, 3) := by decide +kernel
theorem dX12_holdsLine_170 : decode cX12_holdsLine 170 = .ok (.iload 7, 2) := by decide +kernel
theorem dX12_holdsLine_172 : decode cX12_holdsLine 172 = .ok (.iload 8, 2) := by decide +kernel
theorem dX12_holdsLine_174 : decode cX12_holdsLine 174 = .ok (.if_icmp .le 7, 3) := by decide +kernel
theorem dX12_holdsLine_177 : decode cX12_holdsLine 177 = .ok (.iconst 1, 1) := by decide +kernel
theorem dX12_holdsLine_178 : decode cX12_holdsLine 178 = .ok (.goto 44, 3) := by decide +kernel
theorem dX12_holdsLine_181 : decode cX12_holdsLine 181 = .ok (.iconst 0, 1) := by decide +kernel
theorem dX12_holdsLine_182 : decode cX12_holdsLine 182 = .ok (.goto 40, 3) := by decide +kernel
theorem dX12_holdsLine_185 : decode cX12_holdsLine 185 = .ok (.iload 6, 2) := by decide +kernel
theorem dX12_holdsLine_187 : decode cX12_holdsLine 187 = .ok (.bipush 16, 2) := by decide +kernel
theorem dX12_holdsLine_189 : decode cX12_holdsLine 189 = .ok (.if_icmp .ne 20, 3) := by decide +kernel
theorem dX12_holdsLine_192 : decode cX12_holdsLine 192 = .ok (.iload 7, 2) := by decide +kernel
theorem dX12_holdsLine_194 : decode cX12_holdsLine 194 = .ok (.iload 8, 2) := by decide +kernel
theorem dX12_holdsLine_196 : decode cX12_holdsLine 196 = .ok (.iadd, 1) := by decide +kernel
theorem dX12_holdsLine_197 : decode cX12_holdsLine 197 = .ok (.iconst 2, 1) := by decide +kernel
theorem dX12_holdsLine_198 : decode cX12_holdsLine 198 = .ok (.if_icmp .ne 7, 3) := by decide +kernel
theorem dX12_holdsLine_201 : decode cX12_holdsLine 201 = .ok (.iconst 1, 1) := by decide +kernel
theorem dX12_holdsLine_202 : decode cX12_holdsLine 202 = .ok (.goto 20, 3) := by decide +kernel
theorem dX12_holdsLine_205 : decode cX12_holdsLine 205 = .ok (.iconst 0, 1) := by decide +kernel
theorem dX12_holdsLine_206 : decode cX12_holdsLine 206 = .ok (.goto 16, 3) := by decide +kernel
theorem dX12_holdsLine_209 : decode cX12_holdsLine 209 = .ok (.iload 7, 2) := by decide +kernel
theorem dX12_holdsLine_211 : decode cX12_holdsLine 211 = .ok (.iload 8, 2) := by decide +kernel
theorem dX12_holdsLine_213 : decode cX12_holdsLine 213 = .ok (.iadd, 1) := by decide +kernel
theorem dX12_holdsLine_214 : decode cX12_holdsLine 214 = .ok (.ifCond .le 7, 3) := by decide +kernel
theorem dX12_holdsLine_217 : decode cX12_holdsLine 217 = .ok (.iconst 1, 1) := by decide +kernel
theorem dX12_holdsLine_218 : decode cX12_holdsLine 218 = .ok (.goto 4, 3) := by decide +kernel
theorem dX12_holdsLine_221 : decode cX12_holdsLine 221 = .ok (.iconst 0, 1) := by decide +kernel
theorem dX12_holdsLine_222 : decode cX12_holdsLine 222 = .ok (.istore 9, 2) := by decide +kernel
theorem dX12_holdsLine_224 : decode cX12_holdsLine 224 = .ok (.aload_n 0, 1) := by decide +kernel
theorem dX12_holdsLine_225 : decode cX12_holdsLine 225 = .ok (.getfield 39, 3) := by decide +kernel
theorem dX12_holdsLine_228 : decode cX12_holdsLine 228 = .ok (.iload_n 3, 1) := by decide +kernel
theorem dX12_holdsLine_229 : decode cX12_holdsLine 229 = .ok (.iconst 1, 1) := by decide +kernel
theorem dX12_holdsLine_230 : decode cX12_holdsLine 230 = .ok (.isub, 1) := by decide +kernel
theorem dX12_holdsLine_231 : decode cX12_holdsLine 231 = .ok (.iload 6, 2) := by decide +kernel
theorem dX12_holdsLine_233 : decode cX12_holdsLine 233 = .ok (.bipush 12, 2) := by decide +kernel
theorem dX12_holdsLine_235 : decode cX12_holdsLine 235 = .ok (.if_icmp .ne 11, 3) := by decide +kernel
theorem dX12_holdsLine_238 : decode cX12_holdsLine 238 = .ok (.iload 7, 2) := by decide +kernel
theorem dX12_holdsLine_240 : decode cX12_holdsLine 240 = .ok (.iload 8, 2) := by decide +kernel
theorem dX12_holdsLine_242 : decode cX12_holdsLine 242 = .ok (.iadd, 1) := by decide +kernel
theorem dX12_holdsLine_243 : decode cX12_holdsLine 243 = .ok (.goto 13, 3) := by decide +kernel
theorem dX12_holdsLine_246 : decode cX12_holdsLine 246 = .ok (.iload 9, 2) := by decide +kernel
theorem dX12_holdsLine_248 : decode cX12_holdsLine 248 = .ok (.ifCond .eq 7, 3) := by decide +kernel
theorem dX12_holdsLine_251 : decode cX12_holdsLine 251 = .ok (.iconst 1, 1) := by decide +kernel
theorem dX12_holdsLine_252 : decode cX12_holdsLine 252 = .ok (.goto 4, 3) := by decide +kernel
theorem dX12_holdsLine_255 : decode cX12_holdsLine 255 = .ok (.iconst 0, 1) := by decide +kernel
theorem dX12_holdsLine_256 : decode cX12_holdsLine 256 = .ok (.iastore, 1) := by decide +kernel
theorem dX12_holdsLine_257 : decode cX12_holdsLine 257 = .ok (.iinc 5 1, 3) := by decide +kernel
theorem dX12_holdsLine_260 : decode cX12_holdsLine 260 = .ok (.goto (-238), 3) := by decide +kernel
theorem dX12_holdsLine_263 : decode cX12_holdsLine 263 = .ok (.iload_n 3, 1) := by decide +kernel
theorem dX12_holdsLine_264 : decode cX12_holdsLine 264 = .ok (.ifCond .eq 13, 3) := by decide +kernel
theorem dX12_holdsLine_267 : decode cX12_holdsLine 267 = .ok (.aload_n 0, 1) := by decide +kernel
theorem dX12_holdsLine_268 : decode cX12_holdsLine 268 = .ok (.getfield 39, 3) := by decide +kernel
theorem dX12_holdsLine_271 : decode cX12_holdsLine 271 = .ok (.iconst 0, 1) := by decide +kernel
theorem dX12_holdsLine_272 : decode cX12_holdsLine 272 = .ok (.iaload, 1) := by decide +kernel
theorem dX12_holdsLine_273 : decode cX12_holdsLine 273 = .ok (.iconst 1, 1) := by decide +kernel
theorem dX12_holdsLine_274 : decode cX12_holdsLine 274 = .ok (.if_icmp .ne 7, 3) := by decide +kernel
theorem dX12_holdsLine_277 : decode cX12_holdsLine 277 = .ok (.iconst 1, 1) := by decide +kernel
theorem dX12_holdsLine_278 : decode cX12_holdsLine 278 = .ok (.goto 4, 3) := by decide +kernel
theorem dX12_holdsLine_281 : decode cX12_holdsLine 281 = .ok (.iconst 0, 1) := by decide +kernel
theorem dX12_holdsLine_282 : decode cX12_holdsLine 282 = .ok (.ireturn, 1) := by decide +kernel
theorem dX12_sumOf_0 : decode cX12_sumOf 0 = .ok (.iconst 0, 1) := by decide +kernel
theorem dX12_sumOf_1 : decode cX12_sumOf 1 = .ok (.istore_n 3, 1) := by decide +kernel
theorem dX12_sumOf_2 : decode cX12_sumOf 2 = .ok (.iconst 0, 1) := by decide +kernel
theorem dX12_sumOf_3 : decode cX12_sumOf 3 = .ok (.istore 4, 2) := by decide +kernel
theorem dX12_sumOf_5 : decode cX12_sumOf 5 = .ok (.iload 4, 2) := by decide +kernel
theorem dX12_sumOf_7 : decode cX12_sumOf 7 = .ok (.aload_n 0, 1) := by decide +kernel
theorem dX12_sumOf_8 : decode cX12_sumOf 8 = .ok (.getfield 13, 3) := by decide +kernel
theorem dX12_sumOf_11 : decode cX12_sumOf 11 = .ok (.sipush 354, 3) := by decide +kernel
theorem dX12_sumOf_14 : decode cX12_sumOf 14 = .ok (.iaload, 1) := by decide +kernel
theorem dX12_sumOf_15 : decode cX12_sumOf 15 = .ok (.if_icmp .ge 54, 3) := by decide +kernel
theorem dX12_sumOf_18 : decode cX12_sumOf 18 = .ok (.aload_n 0, 1) := by decide +kernel
theorem dX12_sumOf_19 : decode cX12_sumOf 19 = .ok (.getfield 13, 3) := by decide +kernel
theorem dX12_sumOf_22 : decode cX12_sumOf 22 = .ok (.sipush 355, 3) := by decide +kernel
theorem dX12_sumOf_25 : decode cX12_sumOf 25 = .ok (.iconst 4, 1) := by decide +kernel
theorem dX12_sumOf_26 : decode cX12_sumOf 26 = .ok (.iload 4, 2) := by decide +kernel
theorem dX12_sumOf_28 : decode cX12_sumOf 28 = .ok (.imul, 1) := by decide +kernel
theorem dX12_sumOf_29 : decode cX12_sumOf 29 = .ok (.iadd, 1) := by decide +kernel
theorem dX12_sumOf_30 : decode cX12_sumOf 30 = .ok (.iaload, 1) := by decide +kernel
theorem dX12_sumOf_31 : decode cX12_sumOf 31 = .ok (.iload_n 1, 1) := by decide +kernel
theorem dX12_sumOf_32 : decode cX12_sumOf 32 = .ok (.if_icmp .ne 31, 3) := by decide +kernel
theorem dX12_sumOf_35 : decode cX12_sumOf 35 = .ok (.aload_n 0, 1) := by decide +kernel
theorem dX12_sumOf_36 : decode cX12_sumOf 36 = .ok (.iload 4, 2) := by decide +kernel
theorem dX12_sumOf_38 : decode cX12_sumOf 38 = .ok (.iload_n 2, 1) := by decide +kernel
theorem dX12_sumOf_39 : decode cX12_sumOf 39 = .ok (.invokevirtual 261, 3) := by decide +kernel
theorem dX12_sumOf_42 : decode cX12_sumOf 42 = .ok (.ifCond .eq 21, 3) := by decide +kernel
theorem dX12_sumOf_45 : decode cX12_sumOf 45 = .ok (.iload_n 3, 1) := by decide +kernel
theorem dX12_sumOf_46 : decode cX12_sumOf 46 = .ok (.aload_n 0, 1) := by decide +kernel
theorem dX12_sumOf_47 : decode cX12_sumOf 47 = .ok (.getfield 13, 3) := by decide +kernel
theorem dX12_sumOf_50 : decode cX12_sumOf 50 = .ok (.sipush 355, 3) := by decide +kernel
theorem dX12_sumOf_53 : decode cX12_sumOf 53 = .ok (.iconst 4, 1) := by decide +kernel
theorem dX12_sumOf_54 : decode cX12_sumOf 54 = .ok (.iload 4, 2) := by decide +kernel
theorem dX12_sumOf_56 : decode cX12_sumOf 56 = .ok (.imul, 1) := by decide +kernel
theorem dX12_sumOf_57 : decode cX12_sumOf 57 = .ok (.iadd, 1) := by decide +kernel
theorem dX12_sumOf_58 : decode cX12_sumOf 58 = .ok (.iconst 1, 1) := by decide +kernel
theorem dX12_sumOf_59 : decode cX12_sumOf 59 = .ok (.iadd, 1) := by decide +kernel
theorem dX12_sumOf_60 : decode cX12_sumOf 60 = .ok (.iaload, 1) := by decide +kernel
theorem dX12_sumOf_61 : decode cX12_sumOf 61 = .ok (.iadd, 1) := by decide +kernel
theorem dX12_sumOf_62 : decode cX12_sumOf 62 = .ok (.istore_n 3, 1) := by decide +kernel
theorem dX12_sumOf_63 : decode cX12_sumOf 63 = .ok (.iinc 4 1, 3) := by decide +kernel
theorem dX12_sumOf_66 : decode cX12_sumOf 66 = .ok (.goto (-61), 3) := by decide +kernel
theorem dX12_sumOf_69 : decode cX12_sumOf 69 = .ok (.iload_n 3, 1) := by decide +kernel
theorem dX12_sumOf_70 : decode cX12_sumOf 70 = .ok (.ireturn, 1) := by decide +kernel
theorem dX12_taxOf_0 : decode cX12_taxOf 0 = .ok (.aload_n 0, 1) := by decide +kernel
theorem dX12_taxOf_1 : decode cX12_taxOf 1 = .ok (.iload_n 1, 1) := by decide +kernel
theorem dX12_taxOf_2 : decode cX12_taxOf 2 = .ok (.invokevirtual 264, 3) := by decide +kernel
theorem dX12_taxOf_5 : decode cX12_taxOf 5 = .ok (.ifCond .eq 5, 3) := by decide +kernel
theorem dX12_taxOf_8 : decode cX12_taxOf 8 = .ok (.iconst 0, 1) := by decide +kernel
theorem dX12_taxOf_9 : decode cX12_taxOf 9 = .ok (.ireturn, 1) := by decide +kernel
theorem dX12_taxOf_10 : decode cX12_taxOf 10 = .ok (.aload_n 0, 1) := by decide +kernel
theorem dX12_taxOf_11 : decode cX12_taxOf 11 = .ok (.getfield 13, 3) := by decide +kernel
theorem dX12_taxOf_14 : decode cX12_taxOf 14 = .ok (.iconst 3, 1) := by decide +kernel
theorem dX12_taxOf_15 : decode cX12_taxOf 15 = .ok (.iaload, 1) := by decide +kernel
theorem dX12_taxOf_16 : decode cX12_taxOf 16 = .ok (.ifCond .ne 29, 3) := by decide +kernel
theorem dX12_taxOf_19 : decode cX12_taxOf 19 = .ok (.aload_n 0, 1) := by decide +kernel
theorem dX12_taxOf_20 : decode cX12_taxOf 20 = .ok (.aload_n 0, 1) := by decide +kernel
theorem dX12_taxOf_21 : decode cX12_taxOf 21 = .ok (.iload_n 1, 1) := by decide +kernel
theorem dX12_taxOf_22 : decode cX12_taxOf 22 = .ok (.iconst 0, 1) := by decide +kernel
theorem dX12_taxOf_23 : decode cX12_taxOf 23 = .ok (.invokevirtual 56, 3) := by decide +kernel
theorem dX12_taxOf_26 : decode cX12_taxOf 26 = .ok (.iconst 1, 1) := by decide +kernel
theorem dX12_taxOf_27 : decode cX12_taxOf 27 = .ok (.invokevirtual 255, 3) := by decide +kernel
theorem dX12_taxOf_30 : decode cX12_taxOf 30 = .ok (.iconst 1, 1) := by decide +kernel
theorem dX12_taxOf_31 : decode cX12_taxOf 31 = .ok (.if_icmp .ne 7, 3) := by decide +kernel
theorem dX12_taxOf_34 : decode cX12_taxOf 34 = .ok (.iconst 0, 1) := by decide +kernel
theorem dX12_taxOf_35 : decode cX12_taxOf 35 = .ok (.goto 9, 3) := by decide +kernel
theorem dX12_taxOf_38 : decode cX12_taxOf 38 = .ok (.aload_n 0, 1) := by decide +kernel
theorem dX12_taxOf_39 : decode cX12_taxOf 39 = .ok (.getfield 13, 3) := by decide +kernel
theorem dX12_taxOf_42 : decode cX12_taxOf 42 = .ok (.iconst 5, 1) := by decide +kernel
theorem dX12_taxOf_43 : decode cX12_taxOf 43 = .ok (.iaload, 1) := by decide +kernel
theorem dX12_taxOf_44 : decode cX12_taxOf 44 = .ok (.ireturn, 1) := by decide +kernel
theorem dX12_taxOf_45 : decode cX12_taxOf 45 = .ok (.aload_n 0, 1) := by decide +kernel
theorem dX12_taxOf_46 : decode cX12_taxOf 46 = .ok (.iconst 1, 1) := by decide +kernel
theorem dX12_taxOf_47 : decode cX12_taxOf 47 = .ok (.iload_n 1, 1) := by decide +kernel
theorem dX12_taxOf_48 : decode cX12_taxOf 48 = .ok (.invokevirtual 267, 3) := by decide +kernel
theorem dX12_taxOf_51 : decode cX12_taxOf 51 = .ok (.ifCond .le 7, 3) := by decide +kernel
theorem dX12_taxOf_54 : decode cX12_taxOf 54 = .ok (.iconst 0, 1) := by decide +kernel
theorem dX12_taxOf_55 : decode cX12_taxOf 55 = .ok (.goto 16, 3) := by decide +kernel
theorem dX12_taxOf_58 : decode cX12_taxOf 58 = .ok (.aload_n 0, 1) := by decide +kernel
theorem dX12_taxOf_59 : decode cX12_taxOf 59 = .ok (.getfield 13, 3) := by decide +kernel
theorem dX12_taxOf_62 : decode cX12_taxOf 62 = .ok (.iconst 5, 1) := by decide +kernel
theorem dX12_taxOf_63 : decode cX12_taxOf 63 = .ok (.iaload, 1) := by decide +kernel
theorem dX12_taxOf_64 : decode cX12_taxOf 64 = .ok (.aload_n 0, 1) := by decide +kernel
theorem dX12_taxOf_65 : decode cX12_taxOf 65 = .ok (.iconst 0, 1) := by decide +kernel
theorem dX12_taxOf_66 : decode cX12_taxOf 66 = .ok (.iload_n 1, 1) := by decide +kernel
theorem dX12_taxOf_67 : decode cX12_taxOf 67 = .ok (.invokevirtual 267, 3) := by decide +kernel
theorem dX12_taxOf_70 : decode cX12_taxOf 70 = .ok (.iadd, 1) := by decide +kernel
theorem dX12_taxOf_71 : decode cX12_taxOf 71 = .ok (.ireturn, 1) := by decide +kernel
theorem dX12_foundBy_0 : decode cX12_foundBy 0 = .ok (.aload_n 0, 1) := by decide +kernel
theorem dX12_foundBy_1 : decode cX12_foundBy 1 = .ok (.getfield 13, 3) := by decide +kernel
theorem dX12_foundBy_4 : decode cX12_foundBy 4 = .ok (.iconst 3, 1) := by decide +kernel
theorem dX12_foundBy_5 : decode cX12_foundBy 5 = .ok (.iaload, 1) := by decide +kernel
theorem dX12_foundBy_6 : decode cX12_foundBy 6 = .ok (.ifCond .ne 8, 3) := by decide +kernel
theorem dX12_foundBy_9 : decode cX12_foundBy 9 = .ok (.bipush 30, 2) := by decide +kernel
theorem dX12_foundBy_11 : decode cX12_foundBy 11 = .ok (.goto 14, 3) := by decide +kernel
theorem dX12_foundBy_14 : decode cX12_foundBy 14 = .ok (.bipush 100, 2) := by decide +kernel
theorem dX12_foundBy_16 : decode cX12_foundBy 16 = .ok (.aload_n 0, 1) := by decide +kernel
theorem dX12_foundBy_17 : decode cX12_foundBy 17 = .ok (.iconst 2, 1) := by decide +kernel
theorem dX12_foundBy_18 : decode cX12_foundBy 18 = .ok (.iload_n 1, 1) := by decide +kernel
theorem dX12_foundBy_19 : decode cX12_foundBy 19 = .ok (.invokevirtual 267, 3) := by decide +kernel
theorem dX12_foundBy_22 : decode cX12_foundBy 22 = .ok (.invokestatic 270, 3) := by decide +kernel
theorem dX12_foundBy_25 : decode cX12_foundBy 25 = .ok (.ireturn, 1) := by decide +kernel
theorem dX12_paysOf_0 : decode cX12_paysOf 0 = .ok (.iconst 0, 1) := by decide +kernel
theorem dX12_paysOf_1 : decode cX12_paysOf 1 = .ok (.istore_n 2, 1) := by decide +kernel
theorem dX12_paysOf_2 : decode cX12_paysOf 2 = .ok (.iconst 0, 1) := by decide +kernel
theorem dX12_paysOf_3 : decode cX12_paysOf 3 = .ok (.istore_n 3, 1) := by decide +kernel
theorem dX12_paysOf_4 : decode cX12_paysOf 4 = .ok (.iload_n 3, 1) := by decide +kernel
theorem dX12_paysOf_5 : decode cX12_paysOf 5 = .ok (.aload_n 0, 1) := by decide +kernel
theorem dX12_paysOf_6 : decode cX12_paysOf 6 = .ok (.invokevirtual 67, 3) := by decide +kernel
theorem dX12_paysOf_9 : decode cX12_paysOf 9 = .ok (.if_icmp .ge 38, 3) := by decide +kernel
theorem dX12_paysOf_12 : decode cX12_paysOf 12 = .ok (.iload_n 2, 1) := by decide +kernel
theorem dX12_paysOf_13 : decode cX12_paysOf 13 = .ok (.aload_n 0, 1) := by decide +kernel
theorem dX12_paysOf_14 : decode cX12_paysOf 14 = .ok (.iload_n 3, 1) := by decide +kernel
theorem dX12_paysOf_15 : decode cX12_paysOf 15 = .ok (.iload_n 1, 1) := by decide +kernel
theorem dX12_paysOf_16 : decode cX12_paysOf 16 = .ok (.invokevirtual 70, 3) := by decide +kernel
theorem dX12_paysOf_19 : decode cX12_paysOf 19 = .ok (.ifCond .eq 19, 3) := by decide +kernel
theorem dX12_paysOf_22 : decode cX12_paysOf 22 = .ok (.aload_n 0, 1) := by decide +kernel
theorem dX12_paysOf_23 : decode cX12_paysOf 23 = .ok (.iload_n 3, 1) := by decide +kernel
theorem dX12_paysOf_24 : decode cX12_paysOf 24 = .ok (.invokevirtual 275, 3) := by decide +kernel
theorem dX12_paysOf_27 : decode cX12_paysOf 27 = .ok (.ifCond .eq 11, 3) := by decide +kernel
theorem dX12_paysOf_30 : decode cX12_paysOf 30 = .ok (.aload_n 0, 1) := by decide +kernel
theorem dX12_paysOf_31 : decode cX12_paysOf 31 = .ok (.iload_n 3, 1) := by decide +kernel
theorem dX12_paysOf_32 : decode cX12_paysOf 32 = .ok (.invokevirtual 278, 3) := by decide +kernel
theorem dX12_paysOf_35 : decode cX12_paysOf 35 = .ok (.goto 4, 3) := by decide +kernel
theorem dX12_paysOf_38 : decode cX12_paysOf 38 = .ok (.iconst 0, 1) := by decide +kernel
theorem dX12_paysOf_39 : decode cX12_paysOf 39 = .ok (.iadd, 1) := by decide +kernel
theorem dX12_paysOf_40 : decode cX12_paysOf 40 = .ok (.istore_n 2, 1) := by decide +kernel
theorem dX12_paysOf_41 : decode cX12_paysOf 41 = .ok (.iinc 3 1, 3) := by decide +kernel
theorem dX12_paysOf_44 : decode cX12_paysOf 44 = .ok (.goto (-40), 3) := by decide +kernel
theorem dX12_paysOf_47 : decode cX12_paysOf 47 = .ok (.iload_n 2, 1) := by decide +kernel
theorem dX12_paysOf_48 : decode cX12_paysOf 48 = .ok (.ireturn, 1) := by decide +kernel
theorem dX12_hopesOf_0 : decode cX12_hopesOf 0 = .ok (.iconst 0, 1) := by decide +kernel
theorem dX12_hopesOf_1 : decode cX12_hopesOf 1 = .ok (.istore_n 2, 1) := by decide +kernel
theorem dX12_hopesOf_2 : decode cX12_hopesOf 2 = .ok (.iconst 0, 1) := by decide +kernel
theorem dX12_hopesOf_3 : decode cX12_hopesOf 3 = .ok (.istore_n 3, 1) := by decide +kernel
theorem dX12_hopesOf_4 : decode cX12_hopesOf 4 = .ok (.iload_n 3, 1) := by decide +kernel
theorem dX12_hopesOf_5 : decode cX12_hopesOf 5 = .ok (.aload_n 0, 1) := by decide +kernel
theorem dX12_hopesOf_6 : decode cX12_hopesOf 6 = .ok (.invokevirtual 67, 3) := by decide +kernel
theorem dX12_hopesOf_9 : decode cX12_hopesOf 9 = .ok (.if_icmp .ge 52, 3) := by decide +kernel
theorem dX12_hopesOf_12 : decode cX12_hopesOf 12 = .ok (.iload_n 2, 1) := by decide +kernel
theorem dX12_hopesOf_13 : decode cX12_hopesOf 13 = .ok (.aload_n 0, 1) := by decide +kernel
theorem dX12_hopesOf_14 : decode cX12_hopesOf 14 = .ok (.iload_n 3, 1) := by decide +kernel
theorem dX12_hopesOf_15 : decode cX12_hopesOf 15 = .ok (.iload_n 1, 1) := by decide +kernel
theorem dX12_hopesOf_16 : decode cX12_hopesOf 16 = .ok (.invokevirtual 70, 3) := by decide +kernel
theorem dX12_hopesOf_19 : decode cX12_hopesOf 19 = .ok (.ifCond .eq 33, 3) := by decide +kernel
theorem dX12_hopesOf_22 : decode cX12_hopesOf 22 = .ok (.aload_n 0, 1) := by decide +kernel
theorem dX12_hopesOf_23 : decode cX12_hopesOf 23 = .ok (.iload_n 3, 1) := by decide +kernel
theorem dX12_hopesOf_24 : decode cX12_hopesOf 24 = .ok (.invokevirtual 281, 3) := by decide +kernel
theorem dX12_hopesOf_27 : decode cX12_hopesOf 27 = .ok (.ifCond .eq 25, 3) := by decide +kernel
theorem dX12_hopesOf_30 : decode cX12_hopesOf 30 = .ok (.aload_n 0, 1) := by decide +kernel
theorem dX12_hopesOf_31 : decode cX12_hopesOf 31 = .ok (.iload_n 3, 1) := by decide +kernel
theorem dX12_hopesOf_32 : decode cX12_hopesOf 32 = .ok (.invokevirtual 284, 3) := by decide +kernel
theorem dX12_hopesOf_35 : decode cX12_hopesOf 35 = .ok (.aload_n 0, 1) := by decide +kernel
theorem dX12_hopesOf_36 : decode cX12_hopesOf 36 = .ok (.iload_n 3, 1) := by decide +kernel
theorem dX12_hopesOf_37 : decode cX12_hopesOf 37 = .ok (.invokevirtual 278, 3) := by decide +kernel
theorem dX12_hopesOf_40 : decode cX12_hopesOf 40 = .ok (.aload_n 0, 1) := by decide +kernel
theorem dX12_hopesOf_41 : decode cX12_hopesOf 41 = .ok (.getfield 13, 3) := by decide +kernel
theorem dX12_hopesOf_44 : decode cX12_hopesOf 44 = .ok (.bipush 6, 2) := by decide +kernel
theorem dX12_hopesOf_46 : decode cX12_hopesOf 46 = .ok (.iaload, 1) := by decide +kernel
theorem dX12_hopesOf_47 : decode cX12_hopesOf 47 = .ok (.iadd, 1) := by decide +kernel
theorem dX12_hopesOf_48 : decode cX12_hopesOf 48 = .ok (.imul, 1) := by decide +kernel
theorem dX12_hopesOf_49 : decode cX12_hopesOf 49 = .ok (.goto 4, 3) := by decide +kernel
theorem dX12_hopesOf_52 : decode cX12_hopesOf 52 = .ok (.iconst 0, 1) := by decide +kernel
theorem dX12_hopesOf_53 : decode cX12_hopesOf 53 = .ok (.iadd, 1) := by decide +kernel
theorem dX12_hopesOf_54 : decode cX12_hopesOf 54 = .ok (.istore_n 2, 1) := by decide +kernel
theorem dX12_hopesOf_55 : decode cX12_hopesOf 55 = .ok (.iinc 3 1, 3) := by decide +kernel
theorem dX12_hopesOf_58 : decode cX12_hopesOf 58 = .ok (.goto (-54), 3) := by decide +kernel
theorem dX12_hopesOf_61 : decode cX12_hopesOf 61 = .ok (.iload_n 2, 1) := by decide +kernel
theorem dX12_hopesOf_62 : decode cX12_hopesOf 62 = .ok (.bipush 100, 2) := by decide +kernel
theorem dX12_hopesOf_64 : decode cX12_hopesOf 64 = .ok (.idiv, 1) := by decide +kernel
theorem dX12_hopesOf_65 : decode cX12_hopesOf 65 = .ok (.ireturn, 1) := by decide +kernel
theorem dX12_warmthOf_0 : decode cX12_warmthOf 0 = .ok (.iconst 0, 1) := by decide +kernel
theorem dX12_warmthOf_1 : decode cX12_warmthOf 1 = .ok (.istore_n 2, 1) := by decide +kernel
theorem dX12_warmthOf_2 : decode cX12_warmthOf 2 = .ok (.iconst 0, 1) := by decide +kernel
theorem dX12_warmthOf_3 : decode cX12_warmthOf 3 = .ok (.istore_n 3, 1) := by decide +kernel
theorem dX12_warmthOf_4 : decode cX12_warmthOf 4 = .ok (.iload_n 3, 1) := by decide +kernel
theorem dX12_warmthOf_5 : decode cX12_warmthOf 5 = .ok (.aload_n 0, 1) := by decide +kernel
theorem dX12_warmthOf_6 : decode cX12_warmthOf 6 = .ok (.invokevirtual 67, 3) := by decide +kernel
theorem dX12_warmthOf_9 : decode cX12_warmthOf 9 = .ok (.if_icmp .ge 34, 3) := by decide +kernel
theorem dX12_warmthOf_12 : decode cX12_warmthOf 12 = .ok (.iload_n 2, 1) := by decide +kernel
theorem dX12_warmthOf_13 : decode cX12_warmthOf 13 = .ok (.aload_n 0, 1) := by decide +kernel
theorem dX12_warmthOf_14 : decode cX12_warmthOf 14 = .ok (.iload_n 1, 1) := by decide +kernel
theorem dX12_warmthOf_15 : decode cX12_warmthOf 15 = .ok (.invokevirtual 252, 3) := by decide +kernel
theorem dX12_warmthOf_18 : decode cX12_warmthOf 18 = .ok (.iload_n 3, 1) := by decide +kernel
theorem dX12_warmthOf_19 : decode cX12_warmthOf 19 = .ok (.invokestatic 287, 3) := by decide +kernel
theorem dX12_warmthOf_22 : decode cX12_warmthOf 22 = .ok (.ifCond .eq 12, 3) := by decide +kernel
theorem dX12_warmthOf_25 : decode cX12_warmthOf 25 = .ok (.aload_n 0, 1) := by decide +kernel
theorem dX12_warmthOf_26 : decode cX12_warmthOf 26 = .ok (.iload_n 3, 1) := by decide +kernel
theorem dX12_warmthOf_27 : decode cX12_warmthOf 27 = .ok (.iconst 3, 1) := by decide +kernel
theorem dX12_warmthOf_28 : decode cX12_warmthOf 28 = .ok (.invokevirtual 56, 3) := by decide +kernel
theorem dX12_warmthOf_31 : decode cX12_warmthOf 31 = .ok (.goto 4, 3) := by decide +kernel
theorem dX12_warmthOf_34 : decode cX12_warmthOf 34 = .ok (.iconst 0, 1) := by decide +kernel
theorem dX12_warmthOf_35 : decode cX12_warmthOf 35 = .ok (.iadd, 1) := by decide +kernel
theorem dX12_warmthOf_36 : decode cX12_warmthOf 36 = .ok (.istore_n 2, 1) := by decide +kernel
theorem dX12_warmthOf_37 : decode cX12_warmthOf 37 = .ok (.iinc 3 1, 3) := by decide +kernel
theorem dX12_warmthOf_40 : decode cX12_warmthOf 40 = .ok (.goto (-36), 3) := by decide +kernel
theorem dX12_warmthOf_43 : decode cX12_warmthOf 43 = .ok (.iload_n 2, 1) := by decide +kernel
theorem dX12_warmthOf_44 : decode cX12_warmthOf 44 = .ok (.ireturn, 1) := by decide +kernel
theorem dX12_fluesOf_0 : decode cX12_fluesOf 0 = .ok (.iconst 0, 1) := by decide +kernel
theorem dX12_fluesOf_1 : decode cX12_fluesOf 1 = .ok (.istore_n 2, 1) := by decide +kernel
theorem dX12_fluesOf_2 : decode cX12_fluesOf 2 = .ok (.iconst 0, 1) := by decide +kernel
theorem dX12_fluesOf_3 : decode cX12_fluesOf 3 = .ok (.istore_n 3, 1) := by decide +kernel
theorem dX12_fluesOf_4 : decode cX12_fluesOf 4 = .ok (.iload_n 3, 1) := by decide +kernel
theorem dX12_fluesOf_5 : decode cX12_fluesOf 5 = .ok (.aload_n 0, 1) := by decide +kernel
theorem dX12_fluesOf_6 : decode cX12_fluesOf 6 = .ok (.invokevirtual 67, 3) := by decide +kernel
theorem dX12_fluesOf_9 : decode cX12_fluesOf 9 = .ok (.if_icmp .ge 32, 3) := by decide +kernel
theorem dX12_fluesOf_12 : decode cX12_fluesOf 12 = .ok (.iload_n 2, 1) := by decide +kernel
theorem dX12_fluesOf_13 : decode cX12_fluesOf 13 = .ok (.iload_n 1, 1) := by decide +kernel
theorem dX12_fluesOf_14 : decode cX12_fluesOf 14 = .ok (.iload_n 3, 1) := by decide +kernel
theorem dX12_fluesOf_15 : decode cX12_fluesOf 15 = .ok (.invokestatic 287, 3) := by decide +kernel
theorem dX12_fluesOf_18 : decode cX12_fluesOf 18 = .ok (.ifCond .eq 14, 3) := by decide +kernel
theorem dX12_fluesOf_21 : decode cX12_fluesOf 21 = .ok (.iconst 1, 1) := by decide +kernel
theorem dX12_fluesOf_22 : decode cX12_fluesOf 22 = .ok (.aload_n 0, 1) := by decide +kernel
theorem dX12_fluesOf_23 : decode cX12_fluesOf 23 = .ok (.iload_n 3, 1) := by decide +kernel
theorem dX12_fluesOf_24 : decode cX12_fluesOf 24 = .ok (.iconst 2, 1) := by decide +kernel
theorem dX12_fluesOf_25 : decode cX12_fluesOf 25 = .ok (.invokevirtual 56, 3) := by decide +kernel
theorem dX12_fluesOf_28 : decode cX12_fluesOf 28 = .ok (.ishl, 1) := by decide +kernel
theorem dX12_fluesOf_29 : decode cX12_fluesOf 29 = .ok (.goto 4, 3) := by decide +kernel
theorem dX12_fluesOf_32 : decode cX12_fluesOf 32 = .ok (.iconst 0, 1) := by decide +kernel
theorem dX12_fluesOf_33 : decode cX12_fluesOf 33 = .ok (.ior, 1) := by decide +kernel
theorem dX12_fluesOf_34 : decode cX12_fluesOf 34 = .ok (.istore_n 2, 1) := by decide +kernel
theorem dX12_fluesOf_35 : decode cX12_fluesOf 35 = .ok (.iinc 3 1, 3) := by decide +kernel
theorem dX12_fluesOf_38 : decode cX12_fluesOf 38 = .ok (.goto (-34), 3) := by decide +kernel
theorem dX12_fluesOf_41 : decode cX12_fluesOf 41 = .ok (.iload_n 2, 1) := by decide +kernel
theorem dX12_fluesOf_42 : decode cX12_fluesOf 42 = .ok (.ireturn, 1) := by decide +kernel
theorem dX12_smokeOf_0 : decode cX12_smokeOf 0 = .ok (.aload_n 0, 1) := by decide +kernel
theorem dX12_smokeOf_1 : decode cX12_smokeOf 1 = .ok (.aload_n 0, 1) := by decide +kernel
theorem dX12_smokeOf_2 : decode cX12_smokeOf 2 = .ok (.iload_n 1, 1) := by decide +kernel
theorem dX12_smokeOf_3 : decode cX12_smokeOf 3 = .ok (.invokevirtual 252, 3) := by decide +kernel
theorem dX12_smokeOf_6 : decode cX12_smokeOf 6 = .ok (.invokevirtual 290, 3) := by decide +kernel
theorem dX12_smokeOf_9 : decode cX12_smokeOf 9 = .ok (.ireturn, 1) := by decide +kernel
theorem dX12_paysOfAll_0 : decode cX12_paysOfAll 0 = .ok (.iconst 0, 1) := by decide +kernel
theorem dX12_paysOfAll_1 : decode cX12_paysOfAll 1 = .ok (.istore_n 1, 1) := by decide +kernel
theorem dX12_paysOfAll_2 : decode cX12_paysOfAll 2 = .ok (.iconst 0, 1) := by decide +kernel
theorem dX12_paysOfAll_3 : decode cX12_paysOfAll 3 = .ok (.istore_n 2, 1) := by decide +kernel
theorem dX12_paysOfAll_4 : decode cX12_paysOfAll 4 = .ok (.iload_n 2, 1) := by decide +kernel
theorem dX12_paysOfAll_5 : decode cX12_paysOfAll 5 = .ok (.aload_n 0, 1) := by decide +kernel
theorem dX12_paysOfAll_6 : decode cX12_paysOfAll 6 = .ok (.invokevirtual 59, 3) := by decide +kernel
theorem dX12_paysOfAll_9 : decode cX12_paysOfAll 9 = .ok (.if_icmp .ge 17, 3) := by decide +kernel
theorem dX12_paysOfAll_12 : decode cX12_paysOfAll 12 = .ok (.iload_n 1, 1) := by decide +kernel
theorem dX12_paysOfAll_13 : decode cX12_paysOfAll 13 = .ok (.aload_n 0, 1) := by decide +kernel
theorem dX12_paysOfAll_14 : decode cX12_paysOfAll 14 = .ok (.iload_n 2, 1) := by decide +kernel
theorem dX12_paysOfAll_15 : decode cX12_paysOfAll 15 = .ok (.invokevirtual 293, 3) := by decide +kernel
theorem dX12_paysOfAll_18 : decode cX12_paysOfAll 18 = .ok (.iadd, 1) := by decide +kernel
theorem dX12_paysOfAll_19 : decode cX12_paysOfAll 19 = .ok (.istore_n 1, 1) := by decide +kernel
theorem dX12_paysOfAll_20 : decode cX12_paysOfAll 20 = .ok (.iinc 2 1, 3) := by decide +kernel
theorem dX12_paysOfAll_23 : decode cX12_paysOfAll 23 = .ok (.goto (-19), 3) := by decide +kernel
theorem dX12_paysOfAll_26 : decode cX12_paysOfAll 26 = .ok (.iload_n 1, 1) := by decide +kernel
theorem dX12_paysOfAll_27 : decode cX12_paysOfAll 27 = .ok (.ireturn, 1) := by decide +kernel
theorem dX12_shareOf_0 : decode cX12_shareOf 0 = .ok (.aload_n 0, 1) := by decide +kernel
theorem dX12_shareOf_1 : decode cX12_shareOf 1 = .ok (.invokevirtual 296, 3) := by decide +kernel
theorem dX12_shareOf_4 : decode cX12_shareOf 4 = .ok (.istore_n 2, 1) := by decide +kernel
theorem dX12_shareOf_5 : decode cX12_shareOf 5 = .ok (.iload_n 2, 1) := by decide +kernel
theorem dX12_shareOf_6 : decode cX12_shareOf 6 = .ok (.ifCond .ne 7, 3) := by decide +kernel
theorem dX12_shareOf_9 : decode cX12_shareOf 9 = .ok (.iconst 0, 1) := by decide +kernel
theorem dX12_shareOf_10 : decode cX12_shareOf 10 = .ok (.goto 13, 3) := by decide +kernel
theorem dX12_shareOf_13 : decode cX12_shareOf 13 = .ok (.bipush 100, 2) := by decide +kernel
theorem dX12_shareOf_15 : decode cX12_shareOf 15 = .ok (.aload_n 0, 1) := by decide +kernel
theorem dX12_shareOf_16 : decode cX12_shareOf 16 = .ok (.iload_n 1, 1) := by decide +kernel
theorem dX12_shareOf_17 : decode cX12_shareOf 17 = .ok (.invokevirtual 293, 3) := by decide +kernel
theorem dX12_shareOf_20 : decode cX12_shareOf 20 = .ok (.imul, 1) := by decide +kernel
theorem dX12_shareOf_21 : decode cX12_shareOf 21 = .ok (.iload_n 2, 1) := by decide +kernel
theorem dX12_shareOf_22 : decode cX12_shareOf 22 = .ok (.idiv, 1) := by decide +kernel
theorem dX12_shareOf_23 : decode cX12_shareOf 23 = .ok (.ireturn, 1) := by decide +kernel
theorem dX12_house_0 : decode cX12_house 0 = .ok (.aload_n 0, 1) := by decide +kernel
theorem dX12_house_1 : decode cX12_house 1 = .ok (.iconst 0, 1) := by decide +kernel
theorem dX12_house_2 : decode cX12_house 2 = .ok (.putfield 3, 3) := by decide +kernel
theorem dX12_house_5 : decode cX12_house 5 = .ok (.aload_n 0, 1) := by decide +kernel
theorem dX12_house_6 : decode cX12_house 6 = .ok (.aload_n 0, 1) := by decide +kernel
theorem dX12_house_7 : decode cX12_house 7 = .ok (.iload_n 1, 1) := by decide +kernel
theorem dX12_house_8 : decode cX12_house 8 = .ok (.invokevirtual 299, 3) := by decide +kernel
theorem dX12_house_11 : decode cX12_house 11 = .ok (.iconst 1, 1) := by decide +kernel
theorem dX12_house_12 : decode cX12_house 12 = .ok (.invokevirtual 246, 3) := by decide +kernel
theorem dX12_house_15 : decode cX12_house 15 = .ok (.ifCond .ne 26, 3) := by decide +kernel
theorem dX12_house_18 : decode cX12_house 18 = .ok (.aload_n 0, 1) := by decide +kernel
theorem dX12_house_19 : decode cX12_house 19 = .ok (.iload_n 2, 1) := by decide +kernel
theorem dX12_house_20 : decode cX12_house 20 = .ok (.iconst 0, 1) := by decide +kernel
theorem dX12_house_21 : decode cX12_house 21 = .ok (.bipush 10, 2) := by decide +kernel
theorem dX12_house_23 : decode cX12_house 23 = .ok (.invokestatic 63, 3) := by decide +kernel
theorem dX12_house_26 : decode cX12_house 26 = .ok (.ifCond .ne 7, 3) := by decide +kernel
theorem dX12_house_29 : decode cX12_house 29 = .ok (.iconst 1, 1) := by decide +kernel
theorem dX12_house_30 : decode cX12_house 30 = .ok (.goto 4, 3) := by decide +kernel
theorem dX12_house_33 : decode cX12_house 33 = .ok (.iconst 0, 1) := by decide +kernel
theorem dX12_house_34 : decode cX12_house 34 = .ok (.iconst 2, 1) := by decide +kernel
theorem dX12_house_35 : decode cX12_house 35 = .ok (.invokevirtual 246, 3) := by decide +kernel
theorem dX12_house_38 : decode cX12_house 38 = .ok (.ifCond .eq 5, 3) := by decide +kernel
theorem dX12_house_41 : decode cX12_house 41 = .ok (.iconst 0, 1) := by decide +kernel
theorem dX12_house_42 : decode cX12_house 42 = .ok (.ireturn, 1) := by decide +kernel
theorem dX12_house_43 : decode cX12_house 43 = .ok (.iload_n 2, 1) := by decide +kernel
theorem dX12_house_44 : decode cX12_house 44 = .ok (.tableswitch 76 5 10 #[40, 46, 52, 58, 64, 70], 40) := by decide +kernel
theorem dX12_house_84 : decode cX12_house 84 = .ok (.aload_n 0, 1) := by decide +kernel
theorem dX12_house_85 : decode cX12_house 85 = .ok (.iload_n 1, 1) := by decide +kernel
theorem dX12_house_86 : decode cX12_house 86 = .ok (.invokevirtual 293, 3) := by decide +kernel
theorem dX12_house_89 : decode cX12_house 89 = .ok (.ireturn, 1) := by decide +kernel
theorem dX12_house_90 : decode cX12_house 90 = .ok (.aload_n 0, 1) := by decide +kernel
theorem dX12_house_91 : decode cX12_house 91 = .ok (.iload_n 1, 1) := by decide +kernel
theorem dX12_house_92 : decode cX12_house 92 = .ok (.invokevirtual 302, 3) := by decide +kernel
theorem dX12_house_95 : decode cX12_house 95 = .ok (.ireturn, 1) := by decide +kernel
theorem dX12_house_96 : decode cX12_house 96 = .ok (.aload_n 0, 1) := by decide +kernel
theorem dX12_house_97 : decode cX12_house 97 = .ok (.iload_n 1, 1) := by decide +kernel
theorem dX12_house_98 : decode cX12_house 98 = .ok (.invokevirtual 305, 3) := by decide +kernel
theorem dX12_house_101 : decode cX12_house 101 = .ok (.ireturn, 1) := by decide +kernel
theorem dX12_house_102 : decode cX12_house 102 = .ok (.aload_n 0, 1) := by decide +kernel
theorem dX12_house_103 : decode cX12_house 103 = .ok (.iload_n 1, 1) := by decide +kernel
theorem dX12_house_104 : decode cX12_house 104 = .ok (.invokevirtual 308, 3) := by decide +kernel
theorem dX12_house_107 : decode cX12_house 107 = .ok (.ireturn, 1) := by decide +kernel
theorem dX12_house_108 : decode cX12_house 108 = .ok (.aload_n 0, 1) := by decide +kernel
theorem dX12_house_109 : decode cX12_house 109 = .ok (.iload_n 1, 1) := by decide +kernel
theorem dX12_house_110 : decode cX12_house 110 = .ok (.invokevirtual 311, 3) := by decide +kernel
theorem dX12_house_113 : decode cX12_house 113 = .ok (.ireturn, 1) := by decide +kernel
theorem dX12_house_114 : decode cX12_house 114 = .ok (.aload_n 0, 1) := by decide +kernel
theorem dX12_house_115 : decode cX12_house 115 = .ok (.iload_n 1, 1) := by decide +kernel
theorem dX12_house_116 : decode cX12_house 116 = .ok (.invokevirtual 138, 3) := by decide +kernel
theorem dX12_house_119 : decode cX12_house 119 = .ok (.ireturn, 1) := by decide +kernel
theorem dX12_house_120 : decode cX12_house 120 = .ok (.aload_n 0, 1) := by decide +kernel
theorem dX12_house_121 : decode cX12_house 121 = .ok (.iload_n 1, 1) := by decide +kernel
theorem dX12_house_122 : decode cX12_house 122 = .ok (.iload_n 2, 1) := by decide +kernel
theorem dX12_house_123 : decode cX12_house 123 = .ok (.invokevirtual 255, 3) := by decide +kernel
theorem dX12_house_126 : decode cX12_house 126 = .ok (.ireturn, 1) := by decide +kernel
theorem dX12_hearth_0 : decode cX12_hearth 0 = .ok (.aload_n 0, 1) := by decide +kernel
theorem dX12_hearth_1 : decode cX12_hearth 1 = .ok (.iconst 0, 1) := by decide +kernel
theorem dX12_hearth_2 : decode cX12_hearth 2 = .ok (.putfield 3, 3) := by decide +kernel
theorem dX12_hearth_5 : decode cX12_hearth 5 = .ok (.aload_n 0, 1) := by decide +kernel
theorem dX12_hearth_6 : decode cX12_hearth 6 = .ok (.aload_n 0, 1) := by decide +kernel
theorem dX12_hearth_7 : decode cX12_hearth 7 = .ok (.iload_n 1, 1) := by decide +kernel
theorem dX12_hearth_8 : decode cX12_hearth 8 = .ok (.invokevirtual 314, 3) := by decide +kernel
theorem dX12_hearth_11 : decode cX12_hearth 11 = .ok (.iconst 1, 1) := by decide +kernel
theorem dX12_hearth_12 : decode cX12_hearth 12 = .ok (.invokevirtual 246, 3) := by decide +kernel
theorem dX12_hearth_15 : decode cX12_hearth 15 = .ok (.ifCond .ne 26, 3) := by decide +kernel
theorem dX12_hearth_18 : decode cX12_hearth 18 = .ok (.aload_n 0, 1) := by decide +kernel
theorem dX12_hearth_19 : decode cX12_hearth 19 = .ok (.iload_n 2, 1) := by decide +kernel
theorem dX12_hearth_20 : decode cX12_hearth 20 = .ok (.iconst 0, 1) := by decide +kernel
theorem dX12_hearth_21 : decode cX12_hearth 21 = .ok (.bipush 7, 2) := by decide +kernel
theorem dX12_hearth_23 : decode cX12_hearth 23 = .ok (.invokestatic 63, 3) := by decide +kernel
theorem dX12_hearth_26 : decode cX12_hearth 26 = .ok (.ifCond .ne 7, 3) := by decide +kernel
theorem dX12_hearth_29 : decode cX12_hearth 29 = .ok (.iconst 1, 1) := by decide +kernel
theorem dX12_hearth_30 : decode cX12_hearth 30 = .ok (.goto 4, 3) := by decide +kernel
theorem dX12_hearth_33 : decode cX12_hearth 33 = .ok (.iconst 0, 1) := by decide +kernel
theorem dX12_hearth_34 : decode cX12_hearth 34 = .ok (.iconst 2, 1) := by decide +kernel
theorem dX12_hearth_35 : decode cX12_hearth 35 = .ok (.invokevirtual 246, 3) := by decide +kernel
theorem dX12_hearth_38 : decode cX12_hearth 38 = .ok (.ifCond .eq 5, 3) := by decide +kernel
theorem dX12_hearth_41 : decode cX12_hearth 41 = .ok (.iconst 0, 1) := by decide +kernel
theorem dX12_hearth_42 : decode cX12_hearth 42 = .ok (.ireturn, 1) := by decide +kernel
theorem dX12_hearth_43 : decode cX12_hearth 43 = .ok (.iload_n 2, 1) := by decide +kernel
theorem dX12_hearth_44 : decode cX12_hearth 44 = .ok (.bipush 6, 2) := by decide +kernel
theorem dX12_hearth_46 : decode cX12_hearth 46 = .ok (.if_icmp .ne 11, 3) := by decide +kernel
theorem dX12_hearth_49 : decode cX12_hearth 49 = .ok (.aload_n 0, 1) := by decide +kernel
theorem dX12_hearth_50 : decode cX12_hearth 50 = .ok (.iload_n 1, 1) := by decide +kernel
theorem dX12_hearth_51 : decode cX12_hearth 51 = .ok (.invokevirtual 278, 3) := by decide +kernel
theorem dX12_hearth_54 : decode cX12_hearth 54 = .ok (.goto 23, 3) := by decide +kernel
theorem dX12_hearth_57 : decode cX12_hearth 57 = .ok (.iload_n 2, 1) := by decide +kernel
theorem dX12_hearth_58 : decode cX12_hearth 58 = .ok (.bipush 7, 2) := by decide +kernel
theorem dX12_hearth_60 : decode cX12_hearth 60 = .ok (.if_icmp .ne 11, 3) := by decide +kernel
theorem dX12_hearth_63 : decode cX12_hearth 63 = .ok (.aload_n 0, 1) := by decide +kernel
theorem dX12_hearth_64 : decode cX12_hearth 64 = .ok (.iload_n 1, 1) := by decide +kernel
theorem dX12_hearth_65 : decode cX12_hearth 65 = .ok (.invokevirtual 284, 3) := by decide +kernel
theorem dX12_hearth_68 : decode cX12_hearth 68 = .ok (.goto 9, 3) := by decide +kernel
theorem dX12_hearth_71 : decode cX12_hearth 71 = .ok (.aload_n 0, 1) := by decide +kernel
theorem dX12_hearth_72 : decode cX12_hearth 72 = .ok (.iload_n 1, 1) := by decide +kernel
theorem dX12_hearth_73 : decode cX12_hearth 73 = .ok (.iload_n 2, 1) := by decide +kernel
theorem dX12_hearth_74 : decode cX12_hearth 74 = .ok (.invokevirtual 56, 3) := by decide +kernel
theorem dX12_hearth_77 : decode cX12_hearth 77 = .ok (.ireturn, 1) := by decide +kernel
theorem dX12_is_0 : decode cX12_is 0 = .ok (.aload_n 0, 1) := by decide +kernel
theorem dX12_is_1 : decode cX12_is 1 = .ok (.invokevirtual 317, 3) := by decide +kernel
theorem dX12_is_4 : decode cX12_is 4 = .ok (.aload_n 0, 1) := by decide +kernel
theorem dX12_is_5 : decode cX12_is 5 = .ok (.iload_n 1, 1) := by decide +kernel
theorem dX12_is_6 : decode cX12_is 6 = .ok (.iconst 0, 1) := by decide +kernel
theorem dX12_is_7 : decode cX12_is 7 = .ok (.invokevirtual 56, 3) := by decide +kernel
theorem dX12_is_10 : decode cX12_is 10 = .ok (.iconst 0, 1) := by decide +kernel
theorem dX12_is_11 : decode cX12_is 11 = .ok (.invokestatic 49, 3) := by decide +kernel
theorem dX12_is_14 : decode cX12_is 14 = .ok (.istore 4, 2) := by decide +kernel
theorem dX12_is_16 : decode cX12_is 16 = .ok (.aload_n 0, 1) := by decide +kernel
theorem dX12_is_17 : decode cX12_is 17 = .ok (.getfield 13, 3) := by decide +kernel
theorem dX12_is_20 : decode cX12_is 20 = .ok (.iload_n 1, 1) := by decide +kernel
theorem dX12_is_21 : decode cX12_is 21 = .ok (.iconst 5, 1) := by decide +kernel
theorem dX12_is_22 : decode cX12_is 22 = .ok (.invokestatic 53, 3) := by decide +kernel
theorem dX12_is_25 : decode cX12_is 25 = .ok (.iload_n 2, 1) := by decide +kernel
theorem dX12_is_26 : decode cX12_is 26 = .ok (.iastore, 1) := by decide +kernel
theorem dX12_is_27 : decode cX12_is 27 = .ok (.aload_n 0, 1) := by decide +kernel
theorem dX12_is_28 : decode cX12_is 28 = .ok (.getfield 13, 3) := by decide +kernel
theorem dX12_is_31 : decode cX12_is 31 = .ok (.iload 4, 2) := by decide +kernel
theorem dX12_is_33 : decode cX12_is 33 = .ok (.dup2, 1) := by decide +kernel
theorem dX12_is_34 : decode cX12_is 34 = .ok (.iaload, 1) := by decide +kernel
theorem dX12_is_35 : decode cX12_is 35 = .ok (.iload_n 3, 1) := by decide +kernel
theorem dX12_is_36 : decode cX12_is 36 = .ok (.isub, 1) := by decide +kernel
theorem dX12_is_37 : decode cX12_is 37 = .ok (.iastore, 1) := by decide +kernel
theorem dX12_is_38 : decode cX12_is 38 = .ok (.aload_n 0, 1) := by decide +kernel
theorem dX12_is_39 : decode cX12_is 39 = .ok (.getfield 13, 3) := by decide +kernel
theorem dX12_is_42 : decode cX12_is 42 = .ok (.iload 4, 2) := by decide +kernel
theorem dX12_is_44 : decode cX12_is 44 = .ok (.iaload, 1) := by decide +kernel
theorem dX12_is_45 : decode cX12_is 45 = .ok (.ireturn, 1) := by decide +kernel
theorem dX12_canPay_0 : decode cX12_canPay 0 = .ok (.aload_n 0, 1) := by decide +kernel
theorem dX12_canPay_1 : decode cX12_canPay 1 = .ok (.aload_n 0, 1) := by decide +kernel
theorem dX12_canPay_2 : decode cX12_canPay 2 = .ok (.iload_n 1, 1) := by decide +kernel
theorem dX12_canPay_3 : decode cX12_canPay 3 = .ok (.iconst 0, 1) := by decide +kernel
theorem dX12_canPay_4 : decode cX12_canPay 4 = .ok (.invokevirtual 56, 3) := by decide +kernel
theorem dX12_canPay_7 : decode cX12_canPay 7 = .ok (.iconst 0, 1) := by decide +kernel
theorem dX12_canPay_8 : decode cX12_canPay 8 = .ok (.invokevirtual 255, 3) := by decide +kernel
theorem dX12_canPay_11 : decode cX12_canPay 11 = .ok (.iload_n 2, 1) := by decide +kernel
theorem dX12_canPay_12 : decode cX12_canPay 12 = .ok (.if_icmp .lt 7, 3) := by decide +kernel
theorem dX12_canPay_15 : decode cX12_canPay 15 = .ok (.iconst 1, 1) := by decide +kernel
theorem dX12_canPay_16 : decode cX12_canPay 16 = .ok (.goto 4, 3) := by decide +kernel
theorem dX12_canPay_19 : decode cX12_canPay 19 = .ok (.iconst 0, 1) := by decide +kernel
theorem dX12_canPay_20 : decode cX12_canPay 20 = .ok (.ireturn, 1) := by decide +kernel
theorem dX12_wall_0 : decode cX12_wall 0 = .ok (.aload_n 0, 1) := by decide +kernel
theorem dX12_wall_1 : decode cX12_wall 1 = .ok (.iconst 0, 1) := by decide +kernel
theorem dX12_wall_2 : decode cX12_wall 2 = .ok (.putfield 3, 3) := by decide +kernel
theorem dX12_wall_5 : decode cX12_wall 5 = .ok (.aload_n 0, 1) := by decide +kernel
theorem dX12_wall_6 : decode cX12_wall 6 = .ok (.aload_n 0, 1) := by decide +kernel
theorem dX12_wall_7 : decode cX12_wall 7 = .ok (.iload_n 1, 1) := by decide +kernel
theorem dX12_wall_8 : decode cX12_wall 8 = .ok (.invokevirtual 314, 3) := by decide +kernel
theorem dX12_wall_11 : decode cX12_wall 11 = .ok (.iconst 1, 1) := by decide +kernel
theorem dX12_wall_12 : decode cX12_wall 12 = .ok (.invokevirtual 246, 3) := by decide +kernel
theorem dX12_wall_15 : decode cX12_wall 15 = .ok (.ifCond .eq 5, 3) := by decide +kernel
theorem dX12_wall_18 : decode cX12_wall 18 = .ok (.iconst 0, 1) := by decide +kernel
theorem dX12_wall_19 : decode cX12_wall 19 = .ok (.ireturn, 1) := by decide +kernel
theorem dX12_wall_20 : decode cX12_wall 20 = .ok (.aload_n 0, 1) := by decide +kernel
theorem dX12_wall_21 : decode cX12_wall 21 = .ok (.iload_n 1, 1) := by decide +kernel
theorem dX12_wall_22 : decode cX12_wall 22 = .ok (.iconst 4, 1) := by decide +kernel
theorem dX12_wall_23 : decode cX12_wall 23 = .ok (.invokevirtual 56, 3) := by decide +kernel
theorem dX12_wall_26 : decode cX12_wall 26 = .ok (.istore_n 2, 1) := by decide +kernel
theorem dX12_wall_27 : decode cX12_wall 27 = .ok (.aload_n 0, 1) := by decide +kernel
theorem dX12_wall_28 : decode cX12_wall 28 = .ok (.aload_n 0, 1) := by decide +kernel
theorem dX12_wall_29 : decode cX12_wall 29 = .ok (.iload_n 1, 1) := by decide +kernel
theorem dX12_wall_30 : decode cX12_wall 30 = .ok (.invokevirtual 264, 3) := by decide +kernel
theorem dX12_wall_33 : decode cX12_wall 33 = .ok (.ifCond .ne 12, 3) := by decide +kernel
theorem dX12_wall_36 : decode cX12_wall 36 = .ok (.aload_n 0, 1) := by decide +kernel
theorem dX12_wall_37 : decode cX12_wall 37 = .ok (.iload_n 1, 1) := by decide +kernel
theorem dX12_wall_38 : decode cX12_wall 38 = .ok (.iload_n 2, 1) := by decide +kernel
theorem dX12_wall_39 : decode cX12_wall 39 = .ok (.invokevirtual 320, 3) := by decide +kernel
theorem dX12_wall_42 : decode cX12_wall 42 = .ok (.ifCond .ne 7, 3) := by decide +kernel
theorem dX12_wall_45 : decode cX12_wall 45 = .ok (.iconst 1, 1) := by decide +kernel
theorem dX12_wall_46 : decode cX12_wall 46 = .ok (.goto 4, 3) := by decide +kernel
theorem dX12_wall_49 : decode cX12_wall 49 = .ok (.iconst 0, 1) := by decide +kernel
theorem dX12_wall_50 : decode cX12_wall 50 = .ok (.iconst 2, 1) := by decide +kernel
theorem dX12_wall_51 : decode cX12_wall 51 = .ok (.invokevirtual 246, 3) := by decide +kernel
theorem dX12_wall_54 : decode cX12_wall 54 = .ok (.ifCond .eq 5, 3) := by decide +kernel
theorem dX12_wall_57 : decode cX12_wall 57 = .ok (.iconst 0, 1) := by decide +kernel
theorem dX12_wall_58 : decode cX12_wall 58 = .ok (.ireturn, 1) := by decide +kernel
theorem dX12_wall_59 : decode cX12_wall 59 = .ok (.aload_n 0, 1) := by decide +kernel
theorem dX12_wall_60 : decode cX12_wall 60 = .ok (.iload_n 1, 1) := by decide +kernel
theorem dX12_wall_61 : decode cX12_wall 61 = .ok (.iconst 1, 1) := by decide +kernel
theorem dX12_wall_62 : decode cX12_wall 62 = .ok (.iload_n 2, 1) := by decide +kernel
theorem dX12_wall_63 : decode cX12_wall 63 = .ok (.invokevirtual 323, 3) := by decide +kernel
theorem dX12_wall_66 : decode cX12_wall 66 = .ok (.ireturn, 1) := by decide +kernel
theorem dX12_open_0 : decode cX12_open 0 = .ok (.aload_n 0, 1) := by decide +kernel
theorem dX12_open_1 : decode cX12_open 1 = .ok (.iconst 0, 1) := by decide +kernel
theorem dX12_open_2 : decode cX12_open 2 = .ok (.putfield 3, 3) := by decide +kernel
theorem dX12_open_5 : decode cX12_open 5 = .ok (.aload_n 0, 1) := by decide +kernel
theorem dX12_open_6 : decode cX12_open 6 = .ok (.aload_n 0, 1) := by decide +kernel
theorem dX12_open_7 : decode cX12_open 7 = .ok (.iload_n 1, 1) := by decide +kernel
theorem dX12_open_8 : decode cX12_open 8 = .ok (.invokevirtual 314, 3) := by decide +kernel
theorem dX12_open_11 : decode cX12_open 11 = .ok (.iconst 1, 1) := by decide +kernel
theorem dX12_open_12 : decode cX12_open 12 = .ok (.invokevirtual 246, 3) := by decide +kernel
theorem dX12_open_15 : decode cX12_open 15 = .ok (.ifCond .ne 16, 3) := by decide +kernel
theorem dX12_open_18 : decode cX12_open 18 = .ok (.aload_n 0, 1) := by decide +kernel
theorem dX12_open_19 : decode cX12_open 19 = .ok (.aload_n 0, 1) := by decide +kernel
theorem dX12_open_20 : decode cX12_open 20 = .ok (.iload_n 1, 1) := by decide +kernel
theorem dX12_open_21 : decode cX12_open 21 = .ok (.invokevirtual 275, 3) := by decide +kernel
theorem dX12_open_24 : decode cX12_open 24 = .ok (.iconst 2, 1) := by decide +kernel
theorem dX12_open_25 : decode cX12_open 25 = .ok (.invokevirtual 246, 3) := by decide +kernel
theorem dX12_open_28 : decode cX12_open 28 = .ok (.ifCond .eq 5, 3) := by decide +kernel
theorem dX12_open_31 : decode cX12_open 31 = .ok (.iconst 0, 1) := by decide +kernel
theorem dX12_open_32 : decode cX12_open 32 = .ok (.ireturn, 1) := by decide +kernel
theorem dX12_open_33 : decode cX12_open 33 = .ok (.aload_n 0, 1) := by decide +kernel
theorem dX12_open_34 : decode cX12_open 34 = .ok (.iload_n 1, 1) := by decide +kernel
theorem dX12_open_35 : decode cX12_open 35 = .ok (.iconst 5, 1) := by decide +kernel
theorem dX12_open_36 : decode cX12_open 36 = .ok (.invokevirtual 56, 3) := by decide +kernel
theorem dX12_open_39 : decode cX12_open 39 = .ok (.istore_n 2, 1) := by decide +kernel
theorem dX12_open_40 : decode cX12_open 40 = .ok (.aload_n 0, 1) := by decide +kernel
theorem dX12_open_41 : decode cX12_open 41 = .ok (.iload_n 1, 1) := by decide +kernel
theorem dX12_open_42 : decode cX12_open 42 = .ok (.iconst 0, 1) := by decide +kernel
theorem dX12_open_43 : decode cX12_open 43 = .ok (.iconst 0, 1) := by decide +kernel
theorem dX12_open_44 : decode cX12_open 44 = .ok (.invokevirtual 323, 3) := by decide +kernel
theorem dX12_open_47 : decode cX12_open 47 = .ok (.pop, 1) := by decide +kernel
theorem dX12_open_48 : decode cX12_open 48 = .ok (.iload_n 2, 1) := by decide +kernel
theorem dX12_open_49 : decode cX12_open 49 = .ok (.ireturn, 1) := by decide +kernel
theorem dX12_hide_0 : decode cX12_hide 0 = .ok (.aload_n 0, 1) := by decide +kernel
theorem dX12_hide_1 : decode cX12_hide 1 = .ok (.iconst 0, 1) := by decide +kernel
theorem dX12_hide_2 : decode cX12_hide 2 = .ok (.putfield 3, 3) := by decide +kernel
theorem dX12_hide_5 : decode cX12_hide 5 = .ok (.aload_n 0, 1) := by decide +kernel
theorem dX12_hide_6 : decode cX12_hide 6 = .ok (.aload_n 0, 1) := by decide +kernel
theorem dX12_hide_7 : decode cX12_hide 7 = .ok (.iload_n 1, 1) := by decide +kernel
theorem dX12_hide_8 : decode cX12_hide 8 = .ok (.invokevirtual 314, 3) := by decide +kernel
theorem dX12_hide_11 : decode cX12_hide 11 = .ok (.iconst 1, 1) := by decide +kernel
theorem dX12_hide_12 : decode cX12_hide 12 = .ok (.invokevirtual 246, 3) := by decide +kernel
theorem dX12_hide_15 : decode cX12_hide 15 = .ok (.ifCond .ne 39, 3) := by decide +kernel
theorem dX12_hide_18 : decode cX12_hide 18 = .ok (.aload_n 0, 1) := by decide +kernel
theorem dX12_hide_19 : decode cX12_hide 19 = .ok (.aload_n 0, 1) := by decide +kernel
theorem dX12_hide_20 : decode cX12_hide 20 = .ok (.iload_n 1, 1) := by decide +kernel
theorem dX12_hide_21 : decode cX12_hide 21 = .ok (.invokevirtual 275, 3) := by decide +kernel
theorem dX12_hide_24 : decode cX12_hide 24 = .ok (.ifCond .eq 18, 3) := by decide +kernel
theorem dX12_hide_27 : decode cX12_hide 27 = .ok (.aload_n 0, 1) := by decide +kernel
theorem dX12_hide_28 : decode cX12_hide 28 = .ok (.iload_n 1, 1) := by decide +kernel
theorem dX12_hide_29 : decode cX12_hide 29 = .ok (.aload_n 0, 1) := by decide +kernel
theorem dX12_hide_30 : decode cX12_hide 30 = .ok (.getfield 13, 3) := by decide +kernel
theorem dX12_hide_33 : decode cX12_hide 33 = .ok (.bipush 8, 2) := by decide +kernel
theorem dX12_hide_35 : decode cX12_hide 35 = .ok (.iaload, 1) := by decide +kernel
theorem dX12_hide_36 : decode cX12_hide 36 = .ok (.invokevirtual 320, 3) := by decide +kernel
theorem dX12_hide_39 : decode cX12_hide 39 = .ok (.ifCond .ne 7, 3) := by decide +kernel
theorem dX12_hide_42 : decode cX12_hide 42 = .ok (.iconst 1, 1) := by decide +kernel
theorem dX12_hide_43 : decode cX12_hide 43 = .ok (.goto 4, 3) := by decide +kernel
theorem dX12_hide_46 : decode cX12_hide 46 = .ok (.iconst 0, 1) := by decide +kernel
theorem dX12_hide_47 : decode cX12_hide 47 = .ok (.iconst 2, 1) := by decide +kernel
theorem dX12_hide_48 : decode cX12_hide 48 = .ok (.invokevirtual 246, 3) := by decide +kernel
theorem dX12_hide_51 : decode cX12_hide 51 = .ok (.ifCond .eq 5, 3) := by decide +kernel
theorem dX12_hide_54 : decode cX12_hide 54 = .ok (.iconst 0, 1) := by decide +kernel
theorem dX12_hide_55 : decode cX12_hide 55 = .ok (.ireturn, 1) := by decide +kernel
theorem dX12_hide_56 : decode cX12_hide 56 = .ok (.aload_n 0, 1) := by decide +kernel
theorem dX12_hide_57 : decode cX12_hide 57 = .ok (.iload_n 1, 1) := by decide +kernel
theorem dX12_hide_58 : decode cX12_hide 58 = .ok (.iconst 2, 1) := by decide +kernel
theorem dX12_hide_59 : decode cX12_hide 59 = .ok (.aload_n 0, 1) := by decide +kernel
theorem dX12_hide_60 : decode cX12_hide 60 = .ok (.getfield 13, 3) := by decide +kernel
theorem dX12_hide_63 : decode cX12_hide 63 = .ok (.bipush 8, 2) := by decide +kernel
theorem dX12_hide_65 : decode cX12_hide 65 = .ok (.iaload, 1) := by decide +kernel
theorem dX12_hide_66 : decode cX12_hide 66 = .ok (.invokevirtual 323, 3) := by decide +kernel
theorem dX12_hide_69 : decode cX12_hide 69 = .ok (.ireturn, 1) := by decide +kernel
theorem dX12_paper_0 : decode cX12_paper 0 = .ok (.aload_n 0, 1) := by decide +kernel
theorem dX12_paper_1 : decode cX12_paper 1 = .ok (.iconst 0, 1) := by decide +kernel
theorem dX12_paper_2 : decode cX12_paper 2 = .ok (.putfield 3, 3) := by decide +kernel
theorem dX12_paper_5 : decode cX12_paper 5 = .ok (.aload_n 0, 1) := by decide +kernel
theorem dX12_paper_6 : decode cX12_paper 6 = .ok (.aload_n 0, 1) := by decide +kernel
theorem dX12_paper_7 : decode cX12_paper 7 = .ok (.iload_n 1, 1) := by decide +kernel
theorem dX12_paper_8 : decode cX12_paper 8 = .ok (.invokevirtual 299, 3) := by decide +kernel
theorem dX12_paper_11 : decode cX12_paper 11 = .ok (.iconst 1, 1) := by decide +kernel
theorem dX12_paper_12 : decode cX12_paper 12 = .ok (.invokevirtual 246, 3) := by decide +kernel
theorem dX12_paper_15 : decode cX12_paper 15 = .ok (.ifCond .eq 5, 3) := by decide +kernel
theorem dX12_paper_18 : decode cX12_paper 18 = .ok (.iconst 0, 1) := by decide +kernel
theorem dX12_paper_19 : decode cX12_paper 19 = .ok (.ireturn, 1) := by decide +kernel
theorem dX12_paper_20 : decode cX12_paper 20 = .ok (.aload_n 0, 1) := by decide +kernel
theorem dX12_paper_21 : decode cX12_paper 21 = .ok (.invokevirtual 317, 3) := by decide +kernel
theorem dX12_paper_24 : decode cX12_paper 24 = .ok (.aload_n 0, 1) := by decide +kernel
theorem dX12_paper_25 : decode cX12_paper 25 = .ok (.iload_n 1, 1) := by decide +kernel
theorem dX12_paper_26 : decode cX12_paper 26 = .ok (.iconst 1, 1) := by decide +kernel
theorem dX12_paper_27 : decode cX12_paper 27 = .ok (.invokevirtual 255, 3) := by decide +kernel
theorem dX12_paper_30 : decode cX12_paper 30 = .ok (.iconst 1, 1) := by decide +kernel
theorem dX12_paper_31 : decode cX12_paper 31 = .ok (.if_icmp .ne 7, 3) := by decide +kernel
theorem dX12_paper_34 : decode cX12_paper 34 = .ok (.iconst 1, 1) := by decide +kernel
theorem dX12_paper_35 : decode cX12_paper 35 = .ok (.goto 4, 3) := by decide +kernel
theorem dX12_paper_38 : decode cX12_paper 38 = .ok (.iconst 0, 1) := by decide +kernel
theorem dX12_paper_39 : decode cX12_paper 39 = .ok (.istore_n 3, 1) := by decide +kernel
theorem dX12_paper_40 : decode cX12_paper 40 = .ok (.aload_n 0, 1) := by decide +kernel
theorem dX12_paper_41 : decode cX12_paper 41 = .ok (.getfield 13, 3) := by decide +kernel
theorem dX12_paper_44 : decode cX12_paper 44 = .ok (.iload_n 1, 1) := by decide +kernel
theorem dX12_paper_45 : decode cX12_paper 45 = .ok (.iconst 1, 1) := by decide +kernel
theorem dX12_paper_46 : decode cX12_paper 46 = .ok (.invokestatic 49, 3) := by decide +kernel
theorem dX12_paper_49 : decode cX12_paper 49 = .ok (.iload_n 2, 1) := by decide +kernel
theorem dX12_paper_50 : decode cX12_paper 50 = .ok (.ifCond .eq 7, 3) := by decide +kernel
theorem dX12_paper_53 : decode cX12_paper 53 = .ok (.iconst 1, 1) := by decide +kernel
theorem dX12_paper_54 : decode cX12_paper 54 = .ok (.goto 4, 3) := by decide +kernel
theorem dX12_paper_57 : decode cX12_paper 57 = .ok (.iconst 0, 1) := by decide +kernel
theorem dX12_paper_58 : decode cX12_paper 58 = .ok (.iastore, 1) := by decide +kernel
theorem dX12_paper_59 : decode cX12_paper 59 = .ok (.iload_n 3, 1) := by decide +kernel
theorem dX12_paper_60 : decode cX12_paper 60 = .ok (.iload_n 2, 1) := by decide +kernel
theorem dX12_paper_61 : decode cX12_paper 61 = .ok (.if_icmp .eq 7, 3) := by decide +kernel
theorem dX12_paper_64 : decode cX12_paper 64 = .ok (.iconst 1, 1) := by decide +kernel
theorem dX12_paper_65 : decode cX12_paper 65 = .ok (.goto 4, 3) := by decide +kernel
theorem dX12_paper_68 : decode cX12_paper 68 = .ok (.iconst 0, 1) := by decide +kernel
theorem dX12_paper_69 : decode cX12_paper 69 = .ok (.ireturn, 1) := by decide +kernel
theorem dX12_flue_0 : decode cX12_flue 0 = .ok (.aload_n 0, 1) := by decide +kernel
theorem dX12_flue_1 : decode cX12_flue 1 = .ok (.iconst 0, 1) := by decide +kernel
theorem dX12_flue_2 : decode cX12_flue 2 = .ok (.putfield 3, 3) := by decide +kernel
theorem dX12_flue_5 : decode cX12_flue 5 = .ok (.aload_n 0, 1) := by decide +kernel
theorem dX12_flue_6 : decode cX12_flue 6 = .ok (.aload_n 0, 1) := by decide +kernel
theorem dX12_flue_7 : decode cX12_flue 7 = .ok (.iload_n 1, 1) := by decide +kernel
theorem dX12_flue_8 : decode cX12_flue 8 = .ok (.invokevirtual 314, 3) := by decide +kernel
theorem dX12_flue_11 : decode cX12_flue 11 = .ok (.ifCond .ne 13, 3) := by decide +kernel
theorem dX12_flue_14 : decode cX12_flue 14 = .ok (.iload_n 2, 1) := by decide +kernel
theorem dX12_flue_15 : decode cX12_flue 15 = .ok (.iconst 0, 1) := by decide +kernel
theorem dX12_flue_16 : decode cX12_flue 16 = .ok (.bipush 9, 2) := by decide +kernel
theorem dX12_flue_18 : decode cX12_flue 18 = .ok (.invokestatic 63, 3) := by decide +kernel
theorem dX12_flue_21 : decode cX12_flue 21 = .ok (.ifCond .ne 7, 3) := by decide +kernel
theorem dX12_flue_24 : decode cX12_flue 24 = .ok (.iconst 1, 1) := by decide +kernel
theorem dX12_flue_25 : decode cX12_flue 25 = .ok (.goto 4, 3) := by decide +kernel
theorem dX12_flue_28 : decode cX12_flue 28 = .ok (.iconst 0, 1) := by decide +kernel
theorem dX12_flue_29 : decode cX12_flue 29 = .ok (.iconst 1, 1) := by decide +kernel
theorem dX12_flue_30 : decode cX12_flue 30 = .ok (.invokevirtual 246, 3) := by decide +kernel
theorem dX12_flue_33 : decode cX12_flue 33 = .ok (.ifCond .eq 5, 3) := by decide +kernel
theorem dX12_flue_36 : decode cX12_flue 36 = .ok (.iconst 0, 1) := by decide +kernel
theorem dX12_flue_37 : decode cX12_flue 37 = .ok (.ireturn, 1) := by decide +kernel
theorem dX12_flue_38 : decode cX12_flue 38 = .ok (.aload_n 0, 1) := by decide +kernel
theorem dX12_flue_39 : decode cX12_flue 39 = .ok (.invokevirtual 317, 3) := by decide +kernel
theorem dX12_flue_42 : decode cX12_flue 42 = .ok (.aload_n 0, 1) := by decide +kernel
theorem dX12_flue_43 : decode cX12_flue 43 = .ok (.iload_n 1, 1) := by decide +kernel
theorem dX12_flue_44 : decode cX12_flue 44 = .ok (.iconst 2, 1) := by decide +kernel
theorem dX12_flue_45 : decode cX12_flue 45 = .ok (.invokevirtual 56, 3) := by decide +kernel
theorem dX12_flue_48 : decode cX12_flue 48 = .ok (.istore_n 3, 1) := by decide +kernel
theorem dX12_flue_49 : decode cX12_flue 49 = .ok (.aload_n 0, 1) := by decide +kernel
theorem dX12_flue_50 : decode cX12_flue 50 = .ok (.getfield 13, 3) := by decide +kernel
theorem dX12_flue_53 : decode cX12_flue 53 = .ok (.iload_n 1, 1) := by decide +kernel
theorem dX12_flue_54 : decode cX12_flue 54 = .ok (.iconst 2, 1) := by decide +kernel
theorem dX12_flue_55 : decode cX12_flue 55 = .ok (.invokestatic 53, 3) := by decide +kernel
theorem dX12_flue_58 : decode cX12_flue 58 = .ok (.iload_n 2, 1) := by decide +kernel
theorem dX12_flue_59 : decode cX12_flue 59 = .ok (.iastore, 1) := by decide +kernel
theorem dX12_flue_60 : decode cX12_flue 60 = .ok (.iload_n 3, 1) := by decide +kernel
theorem dX12_flue_61 : decode cX12_flue 61 = .ok (.ireturn, 1) := by decide +kernel
theorem dX12_noRate_0 : decode cX12_noRate 0 = .ok (.iload_n 0, 1) := by decide +kernel
theorem dX12_noRate_1 : decode cX12_noRate 1 = .ok (.iconst 0, 1) := by decide +kernel
theorem dX12_noRate_2 : decode cX12_noRate 2 = .ok (.bipush 20, 2) := by decide +kernel
theorem dX12_noRate_4 : decode cX12_noRate 4 = .ok (.invokestatic 63, 3) := by decide +kernel
theorem dX12_noRate_7 : decode cX12_noRate 7 = .ok (.ifCond .ne 7, 3) := by decide +kernel
theorem dX12_noRate_10 : decode cX12_noRate 10 = .ok (.iconst 1, 1) := by decide +kernel
theorem dX12_noRate_11 : decode cX12_noRate 11 = .ok (.goto 4, 3) := by decide +kernel
theorem dX12_noRate_14 : decode cX12_noRate 14 = .ok (.iconst 0, 1) := by decide +kernel
theorem dX12_noRate_15 : decode cX12_noRate 15 = .ok (.ireturn, 1) := by decide +kernel
theorem dX12_rate_0 : decode cX12_rate 0 = .ok (.aload_n 0, 1) := by decide +kernel
theorem dX12_rate_1 : decode cX12_rate 1 = .ok (.iconst 0, 1) := by decide +kernel
theorem dX12_rate_2 : decode cX12_rate 2 = .ok (.putfield 3, 3) := by decide +kernel
theorem dX12_rate_5 : decode cX12_rate 5 = .ok (.aload_n 0, 1) := by decide +kernel
theorem dX12_rate_6 : decode cX12_rate 6 = .ok (.iload_n 1, 1) := by decide +kernel
theorem dX12_rate_7 : decode cX12_rate 7 = .ok (.invokestatic 326, 3) := by decide +kernel
theorem dX12_rate_10 : decode cX12_rate 10 = .ok (.iconst 1, 1) := by decide +kernel
theorem dX12_rate_11 : decode cX12_rate 11 = .ok (.invokevirtual 246, 3) := by decide +kernel
theorem dX12_rate_14 : decode cX12_rate 14 = .ok (.ifCond .eq 5, 3) := by decide +kernel
theorem dX12_rate_17 : decode cX12_rate 17 = .ok (.iconst 0, 1) := by decide +kernel
theorem dX12_rate_18 : decode cX12_rate 18 = .ok (.ireturn, 1) := by decide +kernel
theorem dX12_rate_19 : decode cX12_rate 19 = .ok (.aload_n 0, 1) := by decide +kernel
theorem dX12_rate_20 : decode cX12_rate 20 = .ok (.invokevirtual 317, 3) := by decide +kernel
theorem dX12_rate_23 : decode cX12_rate 23 = .ok (.aload_n 0, 1) := by decide +kernel
theorem dX12_rate_24 : decode cX12_rate 24 = .ok (.getfield 13, 3) := by decide +kernel
theorem dX12_rate_27 : decode cX12_rate 27 = .ok (.iconst 5, 1) := by decide +kernel
theorem dX12_rate_28 : decode cX12_rate 28 = .ok (.iaload, 1) := by decide +kernel
theorem dX12_rate_29 : decode cX12_rate 29 = .ok (.istore_n 2, 1) := by decide +kernel
theorem dX12_rate_30 : decode cX12_rate 30 = .ok (.aload_n 0, 1) := by decide +kernel
theorem dX12_rate_31 : decode cX12_rate 31 = .ok (.getfield 13, 3) := by decide +kernel
theorem dX12_rate_34 : decode cX12_rate 34 = .ok (.iconst 5, 1) := by decide +kernel
theorem dX12_rate_35 : decode cX12_rate 35 = .ok (.iload_n 1, 1) := by decide +kernel
theorem dX12_rate_36 : decode cX12_rate 36 = .ok (.iastore, 1) := by decide +kernel
theorem dX12_rate_37 : decode cX12_rate 37 = .ok (.iload_n 2, 1) := by decide +kernel
theorem dX12_rate_38 : decode cX12_rate 38 = .ok (.ireturn, 1) := by decide +kernel
theorem dX12_give_0 : decode cX12_give 0 = .ok (.aload_n 0, 1) := by decide +kernel
theorem dX12_give_1 : decode cX12_give 1 = .ok (.iconst 0, 1) := by decide +kernel
theorem dX12_give_2 : decode cX12_give 2 = .ok (.putfield 3, 3) := by decide +kernel
theorem dX12_give_5 : decode cX12_give 5 = .ok (.aload_n 0, 1) := by decide +kernel
theorem dX12_give_6 : decode cX12_give 6 = .ok (.aload_n 0, 1) := by decide +kernel
theorem dX12_give_7 : decode cX12_give 7 = .ok (.iload_n 1, 1) := by decide +kernel
theorem dX12_give_8 : decode cX12_give 8 = .ok (.invokevirtual 299, 3) := by decide +kernel
theorem dX12_give_11 : decode cX12_give 11 = .ok (.iconst 1, 1) := by decide +kernel
theorem dX12_give_12 : decode cX12_give 12 = .ok (.invokevirtual 246, 3) := by decide +kernel
theorem dX12_give_15 : decode cX12_give 15 = .ok (.ifCond .ne 27, 3) := by decide +kernel
theorem dX12_give_18 : decode cX12_give 18 = .ok (.aload_n 0, 1) := by decide +kernel
theorem dX12_give_19 : decode cX12_give 19 = .ok (.iload_n 2, 1) := by decide +kernel
theorem dX12_give_20 : decode cX12_give 20 = .ok (.iconst 1, 1) := by decide +kernel
theorem dX12_give_21 : decode cX12_give 21 = .ok (.sipush 999, 3) := by decide +kernel
theorem dX12_give_24 : decode cX12_give 24 = .ok (.invokestatic 63, 3) := by decide +kernel
theorem dX12_give_27 : decode cX12_give 27 = .ok (.ifCond .ne 7, 3) := by decide +kernel
theorem dX12_give_30 : decode cX12_give 30 = .ok (.iconst 1, 1) := by decide +kernel
theorem dX12_give_31 : decode cX12_give 31 = .ok (.goto 4, 3) := by decide +kernel
theorem dX12_give_34 : decode cX12_give 34 = .ok (.iconst 0, 1) := by decide +kernel
theorem dX12_give_35 : decode cX12_give 35 = .ok (.iconst 2, 1) := by decide +kernel
theorem dX12_give_36 : decode cX12_give 36 = .ok (.invokevirtual 246, 3) := by decide +kernel
theorem dX12_give_39 : decode cX12_give 39 = .ok (.ifCond .eq 5, 3) := by decide +kernel
theorem dX12_give_42 : decode cX12_give 42 = .ok (.iconst 0, 1) := by decide +kernel
theorem dX12_give_43 : decode cX12_give 43 = .ok (.ireturn, 1) := by decide +kernel
theorem dX12_give_44 : decode cX12_give 44 = .ok (.aload_n 0, 1) := by decide +kernel
theorem dX12_give_45 : decode cX12_give 45 = .ok (.invokevirtual 317, 3) := by decide +kernel
theorem dX12_give_48 : decode cX12_give 48 = .ok (.aload_n 0, 1) := by decide +kernel
theorem dX12_give_49 : decode cX12_give 49 = .ok (.getfield 13, 3) := by decide +kernel
theorem dX12_give_52 : decode cX12_give 52 = .ok (.iload_n 1, 1) := by decide +kernel
theorem dX12_give_53 : decode cX12_give 53 = .ok (.iconst 0, 1) := by decide +kernel
theorem dX12_give_54 : decode cX12_give 54 = .ok (.invokestatic 49, 3) := by decide +kernel
theorem dX12_give_57 : decode cX12_give 57 = .ok (.sipush 9999, 3) := by decide +kernel
theorem dX12_give_60 : decode cX12_give 60 = .ok (.aload_n 0, 1) := by decide +kernel
theorem dX12_give_61 : decode cX12_give 61 = .ok (.iload_n 1, 1) := by decide +kernel
theorem dX12_give_62 : decode cX12_give 62 = .ok (.iconst 0, 1) := by decide +kernel
theorem dX12_give_63 : decode cX12_give 63 = .ok (.invokevirtual 255, 3) := by decide +kernel
theorem dX12_give_66 : decode cX12_give 66 = .ok (.iload_n 2, 1) := by decide +kernel
theorem dX12_give_67 : decode cX12_give 67 = .ok (.iadd, 1) := by decide +kernel
theorem dX12_give_68 : decode cX12_give 68 = .ok (.invokestatic 270, 3) := by decide +kernel
theorem dX12_give_71 : decode cX12_give 71 = .ok (.iastore, 1) := by decide +kernel
theorem dX12_give_72 : decode cX12_give 72 = .ok (.aload_n 0, 1) := by decide +kernel
theorem dX12_give_73 : decode cX12_give 73 = .ok (.iload_n 1, 1) := by decide +kernel
theorem dX12_give_74 : decode cX12_give 74 = .ok (.iconst 0, 1) := by decide +kernel
theorem dX12_give_75 : decode cX12_give 75 = .ok (.invokevirtual 255, 3) := by decide +kernel
theorem dX12_give_78 : decode cX12_give 78 = .ok (.ireturn, 1) := by decide +kernel
theorem dX12_tells_0 : decode cX12_tells 0 = .ok (.sipush 239, 3) := by decide +kernel
theorem dX12_tells_3 : decode cX12_tells 3 = .ok (.istore_n 2, 1) := by decide +kernel
theorem dX12_tells_4 : decode cX12_tells 4 = .ok (.iload_n 2, 1) := by decide +kernel
theorem dX12_tells_5 : decode cX12_tells 5 = .ok (.iconst 4, 1) := by decide +kernel
theorem dX12_tells_6 : decode cX12_tells 6 = .ok (.if_icmp .lt 29, 3) := by decide +kernel
theorem dX12_tells_9 : decode cX12_tells 9 = .ok (.aload_n 0, 1) := by decide +kernel
theorem dX12_tells_10 : decode cX12_tells 10 = .ok (.getfield 13, 3) := by decide +kernel
theorem dX12_tells_13 : decode cX12_tells 13 = .ok (.bipush 114, 2) := by decide +kernel
theorem dX12_tells_15 : decode cX12_tells 15 = .ok (.iload_n 2, 1) := by decide +kernel
theorem dX12_tells_16 : decode cX12_tells 16 = .ok (.iadd, 1) := by decide +kernel
theorem dX12_tells_17 : decode cX12_tells 17 = .ok (.aload_n 0, 1) := by decide +kernel
theorem dX12_tells_18 : decode cX12_tells 18 = .ok (.getfield 13, 3) := by decide +kernel
theorem dX12_tells_21 : decode cX12_tells 21 = .ok (.bipush 114, 2) := by decide +kernel
theorem dX12_tells_23 : decode cX12_tells 23 = .ok (.iload_n 2, 1) := by decide +kernel
theorem dX12_tells_24 : decode cX12_tells 24 = .ok (.iadd, 1) := by decide +kernel
theorem dX12_tells_25 : decode cX12_tells 25 = .ok (.iconst 4, 1) := by decide +kernel
theorem dX12_tells_26 : decode cX12_tells 26 = .ok (.isub, 1) := by decide +kernel
theorem dX12_tells_27 : decode cX12_tells 27 = .ok (.iaload, 1) := by decide +kernel
theorem dX12_tells_28 : decode cX12_tells 28 = .ok (.iastore, 1) := by decide +kernel
theorem dX12_tells_29 : decode cX12_tells 29 = .ok (.iinc 2 (-1), 3) := by decide +kernel
theorem dX12_tells_32 : decode cX12_tells 32 = .ok (.goto (-28), 3) := by decide +kernel
theorem dX12_tells_35 : decode cX12_tells 35 = .ok (.aload_n 0, 1) := by decide +kernel
theorem dX12_tells_36 : decode cX12_tells 36 = .ok (.getfield 13, 3) := by decide +kernel
theorem dX12_tells_39 : decode cX12_tells 39 = .ok (.bipush 114, 2) := by decide +kernel
theorem dX12_tells_41 : decode cX12_tells 41 = .ok (.aload_n 0, 1) := by decide +kernel
theorem dX12_tells_42 : decode cX12_tells 42 = .ok (.getfield 13, 3) := by decide +kernel
theorem dX12_tells_45 : decode cX12_tells 45 = .ok (.iconst 4, 1) := by decide +kernel
theorem dX12_tells_46 : decode cX12_tells 46 = .ok (.iaload, 1) := by decide +kernel
theorem dX12_tells_47 : decode cX12_tells 47 = .ok (.iastore, 1) := by decide +kernel
theorem dX12_tells_48 : decode cX12_tells 48 = .ok (.aload_n 0, 1) := by decide +kernel
theorem dX12_tells_49 : decode cX12_tells 49 = .ok (.getfield 13, 3) := by decide +kernel
theorem dX12_tells_52 : decode cX12_tells 52 = .ok (.bipush 115, 2) := by decide +kernel
theorem dX12_tells_54 : decode cX12_tells 54 = .ok (.iload_n 1, 1) := by decide +kernel
theorem dX12_tells_55 : decode cX12_tells 55 = .ok (.iastore, 1) := by decide +kernel
theorem dX12_tells_56 : decode cX12_tells 56 = .ok (.aload_n 0, 1) := by decide +kernel
theorem dX12_tells_57 : decode cX12_tells 57 = .ok (.getfield 13, 3) := by decide +kernel
theorem dX12_tells_60 : decode cX12_tells 60 = .ok (.bipush 116, 2) := by decide +kernel
theorem dX12_tells_62 : decode cX12_tells 62 = .ok (.aload_n 0, 1) := by decide +kernel
theorem dX12_tells_63 : decode cX12_tells 63 = .ok (.iload_n 1, 1) := by decide +kernel
theorem dX12_tells_64 : decode cX12_tells 64 = .ok (.iconst 0, 1) := by decide +kernel
theorem dX12_tells_65 : decode cX12_tells 65 = .ok (.invokevirtual 56, 3) := by decide +kernel
theorem dX12_tells_68 : decode cX12_tells 68 = .ok (.iastore, 1) := by decide +kernel
theorem dX12_tells_69 : decode cX12_tells 69 = .ok (.aload_n 0, 1) := by decide +kernel
theorem dX12_tells_70 : decode cX12_tells 70 = .ok (.getfield 13, 3) := by decide +kernel
theorem dX12_tells_73 : decode cX12_tells 73 = .ok (.bipush 117, 2) := by decide +kernel
theorem dX12_tells_75 : decode cX12_tells 75 = .ok (.aload_n 0, 1) := by decide +kernel
theorem dX12_tells_76 : decode cX12_tells 76 = .ok (.iload_n 1, 1) := by decide +kernel
theorem dX12_tells_77 : decode cX12_tells 77 = .ok (.invokevirtual 278, 3) := by decide +kernel
theorem dX12_tells_80 : decode cX12_tells 80 = .ok (.iastore, 1) := by decide +kernel
theorem dX12_tells_81 : decode cX12_tells 81 = .ok (.aload_n 0, 1) := by decide +kernel
theorem dX12_tells_82 : decode cX12_tells 82 = .ok (.getfield 13, 3) := by decide +kernel
theorem dX12_tells_85 : decode cX12_tells 85 = .ok (.bipush 10, 2) := by decide +kernel
theorem dX12_tells_87 : decode cX12_tells 87 = .ok (.bipush 60, 2) := by decide +kernel
theorem dX12_tells_89 : decode cX12_tells 89 = .ok (.aload_n 0, 1) := by decide +kernel
theorem dX12_tells_90 : decode cX12_tells 90 = .ok (.getfield 13, 3) := by decide +kernel
theorem dX12_tells_93 : decode cX12_tells 93 = .ok (.bipush 10, 2) := by decide +kernel
theorem dX12_tells_95 : decode cX12_tells 95 = .ok (.iaload, 1) := by decide +kernel
theorem dX12_tells_96 : decode cX12_tells 96 = .ok (.iconst 1, 1) := by decide +kernel
theorem dX12_tells_97 : decode cX12_tells 97 = .ok (.iadd, 1) := by decide +kernel
theorem dX12_tells_98 : decode cX12_tells 98 = .ok (.invokestatic 270, 3) := by decide +kernel
theorem dX12_tells_101 : decode cX12_tells 101 = .ok (.iastore, 1) := by decide +kernel
theorem dX12_tells_102 : decode cX12_tells 102 = .ok (.return_, 1) := by decide +kernel
theorem dX12_comesTo_0 : decode cX12_comesTo 0 = .ok (.aload_n 0, 1) := by decide +kernel
theorem dX12_comesTo_1 : decode cX12_comesTo 1 = .ok (.bipush 100, 2) := by decide +kernel
theorem dX12_comesTo_3 : decode cX12_comesTo 3 = .ok (.invokevirtual 329, 3) := by decide +kernel
theorem dX12_comesTo_6 : decode cX12_comesTo 6 = .ok (.aload_n 0, 1) := by decide +kernel
theorem dX12_comesTo_7 : decode cX12_comesTo 7 = .ok (.getfield 13, 3) := by decide +kernel
theorem dX12_comesTo_10 : decode cX12_comesTo 10 = .ok (.bipush 7, 2) := by decide +kernel
theorem dX12_comesTo_12 : decode cX12_comesTo 12 = .ok (.iaload, 1) := by decide +kernel
theorem dX12_comesTo_13 : decode cX12_comesTo 13 = .ok (.if_icmp .lt 18, 3) := by decide +kernel
theorem dX12_comesTo_16 : decode cX12_comesTo 16 = .ok (.aload_n 0, 1) := by decide +kernel
theorem dX12_comesTo_17 : decode cX12_comesTo 17 = .ok (.bipush 100, 2) := by decide +kernel
theorem dX12_comesTo_19 : decode cX12_comesTo 19 = .ok (.invokevirtual 329, 3) := by decide +kernel
theorem dX12_comesTo_22 : decode cX12_comesTo 22 = .ok (.aload_n 0, 1) := by decide +kernel
theorem dX12_comesTo_23 : decode cX12_comesTo 23 = .ok (.iload_n 1, 1) := by decide +kernel
theorem dX12_comesTo_24 : decode cX12_comesTo 24 = .ok (.iconst 4, 1) := by decide +kernel
theorem dX12_comesTo_25 : decode cX12_comesTo 25 = .ok (.invokevirtual 255, 3) := by decide +kernel
theorem dX12_comesTo_28 : decode cX12_comesTo 28 = .ok (.if_icmp .ge 7, 3) := by decide +kernel
theorem dX12_comesTo_31 : decode cX12_comesTo 31 = .ok (.iconst 1, 1) := by decide +kernel
theorem dX12_comesTo_32 : decode cX12_comesTo 32 = .ok (.goto 4, 3) := by decide +kernel
theorem dX12_comesTo_35 : decode cX12_comesTo 35 = .ok (.iconst 0, 1) := by decide +kernel
theorem dX12_comesTo_36 : decode cX12_comesTo 36 = .ok (.ireturn, 1) := by decide +kernel
theorem dX12_finesOf_0 : decode cX12_finesOf 0 = .ok (.iconst 0, 1) := by decide +kernel
theorem dX12_finesOf_1 : decode cX12_finesOf 1 = .ok (.istore_n 2, 1) := by decide +kernel
theorem dX12_finesOf_2 : decode cX12_finesOf 2 = .ok (.iconst 0, 1) := by decide +kernel
theorem dX12_finesOf_3 : decode cX12_finesOf 3 = .ok (.istore_n 3, 1) := by decide +kernel
theorem dX12_finesOf_4 : decode cX12_finesOf 4 = .ok (.iload_n 3, 1) := by decide +kernel
theorem dX12_finesOf_5 : decode cX12_finesOf 5 = .ok (.aload_n 0, 1) := by decide +kernel
theorem dX12_finesOf_6 : decode cX12_finesOf 6 = .ok (.invokevirtual 67, 3) := by decide +kernel
theorem dX12_finesOf_9 : decode cX12_finesOf 9 = .ok (.if_icmp .ge 69, 3) := by decide +kernel
theorem dX12_finesOf_12 : decode cX12_finesOf 12 = .ok (.aload_n 0, 1) := by decide +kernel
theorem dX12_finesOf_13 : decode cX12_finesOf 13 = .ok (.iload_n 3, 1) := by decide +kernel
theorem dX12_finesOf_14 : decode cX12_finesOf 14 = .ok (.iload_n 1, 1) := by decide +kernel
theorem dX12_finesOf_15 : decode cX12_finesOf 15 = .ok (.invokevirtual 70, 3) := by decide +kernel
theorem dX12_finesOf_18 : decode cX12_finesOf 18 = .ok (.ifCond .eq 54, 3) := by decide +kernel
theorem dX12_finesOf_21 : decode cX12_finesOf 21 = .ok (.aload_n 0, 1) := by decide +kernel
theorem dX12_finesOf_22 : decode cX12_finesOf 22 = .ok (.iload_n 3, 1) := by decide +kernel
theorem dX12_finesOf_23 : decode cX12_finesOf 23 = .ok (.invokevirtual 281, 3) := by decide +kernel
theorem dX12_finesOf_26 : decode cX12_finesOf 26 = .ok (.ifCond .eq 46, 3) := by decide +kernel
theorem dX12_finesOf_29 : decode cX12_finesOf 29 = .ok (.aload_n 0, 1) := by decide +kernel
theorem dX12_finesOf_30 : decode cX12_finesOf 30 = .ok (.bipush 100, 2) := by decide +kernel
theorem dX12_finesOf_32 : decode cX12_finesOf 32 = .ok (.invokevirtual 329, 3) := by decide +kernel
theorem dX12_finesOf_35 : decode cX12_finesOf 35 = .ok (.aload_n 0, 1) := by decide +kernel
theorem dX12_finesOf_36 : decode cX12_finesOf 36 = .ok (.iload_n 3, 1) := by decide +kernel
theorem dX12_finesOf_37 : decode cX12_finesOf 37 = .ok (.invokevirtual 284, 3) := by decide +kernel
theorem dX12_finesOf_40 : decode cX12_finesOf 40 = .ok (.if_icmp .lt 6, 3) := by decide +kernel
theorem dX12_finesOf_43 : decode cX12_finesOf 43 = .ok (.goto 29, 3) := by decide +kernel
theorem dX12_finesOf_46 : decode cX12_finesOf 46 = .ok (.aload_n 0, 1) := by decide +kernel
theorem dX12_finesOf_47 : decode cX12_finesOf 47 = .ok (.getfield 13, 3) := by decide +kernel
theorem dX12_finesOf_50 : decode cX12_finesOf 50 = .ok (.iload_n 3, 1) := by decide +kernel
theorem dX12_finesOf_51 : decode cX12_finesOf 51 = .ok (.iconst 5, 1) := by decide +kernel
theorem dX12_finesOf_52 : decode cX12_finesOf 52 = .ok (.invokestatic 53, 3) := by decide +kernel
theorem dX12_finesOf_55 : decode cX12_finesOf 55 = .ok (.iconst 0, 1) := by decide +kernel
theorem dX12_finesOf_56 : decode cX12_finesOf 56 = .ok (.iastore, 1) := by decide +kernel
theorem dX12_finesOf_57 : decode cX12_finesOf 57 = .ok (.aload_n 0, 1) := by decide +kernel
theorem dX12_finesOf_58 : decode cX12_finesOf 58 = .ok (.iload_n 3, 1) := by decide +kernel
theorem dX12_finesOf_59 : decode cX12_finesOf 59 = .ok (.invokevirtual 332, 3) := by decide +kernel
theorem dX12_finesOf_62 : decode cX12_finesOf 62 = .ok (.iload_n 2, 1) := by decide +kernel
theorem dX12_finesOf_63 : decode cX12_finesOf 63 = .ok (.aload_n 0, 1) := by decide +kernel
theorem dX12_finesOf_64 : decode cX12_finesOf 64 = .ok (.getfield 13, 3) := by decide +kernel
theorem dX12_finesOf_67 : decode cX12_finesOf 67 = .ok (.bipush 6, 2) := by decide +kernel
theorem dX12_finesOf_69 : decode cX12_finesOf 69 = .ok (.iaload, 1) := by decide +kernel
theorem dX12_finesOf_70 : decode cX12_finesOf 70 = .ok (.iadd, 1) := by decide +kernel
theorem dX12_finesOf_71 : decode cX12_finesOf 71 = .ok (.istore_n 2, 1) := by decide +kernel
theorem dX12_finesOf_72 : decode cX12_finesOf 72 = .ok (.iinc 3 1, 3) := by decide +kernel
theorem dX12_finesOf_75 : decode cX12_finesOf 75 = .ok (.goto (-71), 3) := by decide +kernel
theorem dX12_finesOf_78 : decode cX12_finesOf 78 = .ok (.iload_n 2, 1) := by decide +kernel
theorem dX12_finesOf_79 : decode cX12_finesOf 79 = .ok (.ireturn, 1) := by decide +kernel
theorem dX12_oneQuarter_0 : decode cX12_oneQuarter 0 = .ok (.iconst 0, 1) := by decide +kernel
theorem dX12_oneQuarter_1 : decode cX12_oneQuarter 1 = .ok (.istore_n 2, 1) := by decide +kernel
theorem dX12_oneQuarter_2 : decode cX12_oneQuarter 2 = .ok (.iconst 0, 1) := by decide +kernel
theorem dX12_oneQuarter_3 : decode cX12_oneQuarter 3 = .ok (.istore_n 3, 1) := by decide +kernel
theorem dX12_oneQuarter_4 : decode cX12_oneQuarter 4 = .ok (.iload_n 3, 1) := by decide +kernel
theorem dX12_oneQuarter_5 : decode cX12_oneQuarter 5 = .ok (.aload_n 0, 1) := by decide +kernel
theorem dX12_oneQuarter_6 : decode cX12_oneQuarter 6 = .ok (.invokevirtual 59, 3) := by decide +kernel
theorem dX12_oneQuarter_9 : decode cX12_oneQuarter 9 = .ok (.if_icmp .ge 94, 3) := by decide +kernel
theorem dX12_oneQuarter_12 : decode cX12_oneQuarter 12 = .ok (.iload_n 1, 1) := by decide +kernel
theorem dX12_oneQuarter_13 : decode cX12_oneQuarter 13 = .ok (.ifCond .ne 19, 3) := by decide +kernel
theorem dX12_oneQuarter_16 : decode cX12_oneQuarter 16 = .ok (.aload_n 0, 1) := by decide +kernel
theorem dX12_oneQuarter_17 : decode cX12_oneQuarter 17 = .ok (.iload_n 3, 1) := by decide +kernel
theorem dX12_oneQuarter_18 : decode cX12_oneQuarter 18 = .ok (.invokevirtual 335, 3) := by decide +kernel
theorem dX12_oneQuarter_21 : decode cX12_oneQuarter 21 = .ok (.ifCond .eq 11, 3) := by decide +kernel
theorem dX12_oneQuarter_24 : decode cX12_oneQuarter 24 = .ok (.aload_n 0, 1) := by decide +kernel
theorem dX12_oneQuarter_25 : decode cX12_oneQuarter 25 = .ok (.iload_n 3, 1) := by decide +kernel
theorem dX12_oneQuarter_26 : decode cX12_oneQuarter 26 = .ok (.invokevirtual 338, 3) := by decide +kernel
theorem dX12_oneQuarter_29 : decode cX12_oneQuarter 29 = .ok (.goto 4, 3) := by decide +kernel
theorem dX12_oneQuarter_32 : decode cX12_oneQuarter 32 = .ok (.iconst 0, 1) := by decide +kernel
theorem dX12_oneQuarter_33 : decode cX12_oneQuarter 33 = .ok (.istore 4, 2) := by decide +kernel
theorem dX12_oneQuarter_35 : decode cX12_oneQuarter 35 = .ok (.aload_n 0, 1) := by decide +kernel
theorem dX12_oneQuarter_36 : decode cX12_oneQuarter 36 = .ok (.iload_n 3, 1) := by decide +kernel
theorem dX12_oneQuarter_37 : decode cX12_oneQuarter 37 = .ok (.iconst 0, 1) := by decide +kernel
theorem dX12_oneQuarter_38 : decode cX12_oneQuarter 38 = .ok (.invokevirtual 255, 3) := by decide +kernel
theorem dX12_oneQuarter_41 : decode cX12_oneQuarter 41 = .ok (.aload_n 0, 1) := by decide +kernel
theorem dX12_oneQuarter_42 : decode cX12_oneQuarter 42 = .ok (.iload_n 3, 1) := by decide +kernel
theorem dX12_oneQuarter_43 : decode cX12_oneQuarter 43 = .ok (.invokevirtual 293, 3) := by decide +kernel
theorem dX12_oneQuarter_46 : decode cX12_oneQuarter 46 = .ok (.iload 4, 2) := by decide +kernel
theorem dX12_oneQuarter_48 : decode cX12_oneQuarter 48 = .ok (.iadd, 1) := by decide +kernel
theorem dX12_oneQuarter_49 : decode cX12_oneQuarter 49 = .ok (.invokestatic 270, 3) := by decide +kernel
theorem dX12_oneQuarter_52 : decode cX12_oneQuarter 52 = .ok (.istore 5, 2) := by decide +kernel
theorem dX12_oneQuarter_54 : decode cX12_oneQuarter 54 = .ok (.aload_n 0, 1) := by decide +kernel
theorem dX12_oneQuarter_55 : decode cX12_oneQuarter 55 = .ok (.getfield 13, 3) := by decide +kernel
theorem dX12_oneQuarter_58 : decode cX12_oneQuarter 58 = .ok (.iload_n 3, 1) := by decide +kernel
theorem dX12_oneQuarter_59 : decode cX12_oneQuarter 59 = .ok (.iconst 0, 1) := by decide +kernel
theorem dX12_oneQuarter_60 : decode cX12_oneQuarter 60 = .ok (.invokestatic 49, 3) := by decide +kernel
theorem dX12_oneQuarter_63 : decode cX12_oneQuarter 63 = .ok (.dup2, 1) := by decide +kernel
theorem dX12_oneQuarter_64 : decode cX12_oneQuarter 64 = .ok (.iaload, 1) := by decide +kernel
theorem dX12_oneQuarter_65 : decode cX12_oneQuarter 65 = .ok (.iload 5, 2) := by decide +kernel
theorem dX12_oneQuarter_67 : decode cX12_oneQuarter 67 = .ok (.isub, 1) := by decide +kernel
theorem dX12_oneQuarter_68 : decode cX12_oneQuarter 68 = .ok (.iastore, 1) := by decide +kernel
theorem dX12_oneQuarter_69 : decode cX12_oneQuarter 69 = .ok (.aload_n 0, 1) := by decide +kernel
theorem dX12_oneQuarter_70 : decode cX12_oneQuarter 70 = .ok (.getfield 13, 3) := by decide +kernel
theorem dX12_oneQuarter_73 : decode cX12_oneQuarter 73 = .ok (.bipush 9, 2) := by decide +kernel
theorem dX12_oneQuarter_75 : decode cX12_oneQuarter 75 = .ok (.sipush 9999, 3) := by decide +kernel
theorem dX12_oneQuarter_78 : decode cX12_oneQuarter 78 = .ok (.aload_n 0, 1) := by decide +kernel
theorem dX12_oneQuarter_79 : decode cX12_oneQuarter 79 = .ok (.getfield 13, 3) := by decide +kernel
theorem dX12_oneQuarter_82 : decode cX12_oneQuarter 82 = .ok (.bipush 9, 2) := by decide +kernel
theorem dX12_oneQuarter_84 : decode cX12_oneQuarter 84 = .ok (.iaload, 1) := by decide +kernel
theorem dX12_oneQuarter_85 : decode cX12_oneQuarter 85 = .ok (.iload 5, 2) := by decide +kernel
theorem dX12_oneQuarter_87 : decode cX12_oneQuarter 87 = .ok (.iadd, 1) := by decide +kernel
theorem dX12_oneQuarter_88 : decode cX12_oneQuarter 88 = .ok (.invokestatic 270, 3) := by decide +kernel
theorem dX12_oneQuarter_91 : decode cX12_oneQuarter 91 = .ok (.iastore, 1) := by decide +kernel
theorem dX12_oneQuarter_92 : decode cX12_oneQuarter 92 = .ok (.iload_n 2, 1) := by decide +kernel
theorem dX12_oneQuarter_93 : decode cX12_oneQuarter 93 = .ok (.iload 5, 2) := by decide +kernel
theorem dX12_oneQuarter_95 : decode cX12_oneQuarter 95 = .ok (.iadd, 1) := by decide +kernel
theorem dX12_oneQuarter_96 : decode cX12_oneQuarter 96 = .ok (.istore_n 2, 1) := by decide +kernel
theorem dX12_oneQuarter_97 : decode cX12_oneQuarter 97 = .ok (.iinc 3 1, 3) := by decide +kernel
theorem dX12_oneQuarter_100 : decode cX12_oneQuarter 100 = .ok (.goto (-96), 3) := by decide +kernel
theorem dX12_oneQuarter_103 : decode cX12_oneQuarter 103 = .ok (.aload_n 0, 1) := by decide +kernel
theorem dX12_oneQuarter_104 : decode cX12_oneQuarter 104 = .ok (.getfield 13, 3) := by decide +kernel
theorem dX12_oneQuarter_107 : decode cX12_oneQuarter 107 = .ok (.iconst 4, 1) := by decide +kernel
theorem dX12_oneQuarter_108 : decode cX12_oneQuarter 108 = .ok (.sipush 9999, 3) := by decide +kernel
theorem dX12_oneQuarter_111 : decode cX12_oneQuarter 111 = .ok (.aload_n 0, 1) := by decide +kernel
theorem dX12_oneQuarter_112 : decode cX12_oneQuarter 112 = .ok (.getfield 13, 3) := by decide +kernel
theorem dX12_oneQuarter_115 : decode cX12_oneQuarter 115 = .ok (.iconst 4, 1) := by decide +kernel
theorem dX12_oneQuarter_116 : decode cX12_oneQuarter 116 = .ok (.iaload, 1) := by decide +kernel
theorem dX12_oneQuarter_117 : decode cX12_oneQuarter 117 = .ok (.iconst 1, 1) := by decide +kernel
theorem dX12_oneQuarter_118 : decode cX12_oneQuarter 118 = .ok (.iadd, 1) := by decide +kernel
theorem dX12_oneQuarter_119 : decode cX12_oneQuarter 119 = .ok (.invokestatic 270, 3) := by decide +kernel
theorem dX12_oneQuarter_122 : decode cX12_oneQuarter 122 = .ok (.iastore, 1) := by decide +kernel
theorem dX12_oneQuarter_123 : decode cX12_oneQuarter 123 = .ok (.iload_n 2, 1) := by decide +kernel
theorem dX12_oneQuarter_124 : decode cX12_oneQuarter 124 = .ok (.ireturn, 1) := by decide +kernel
theorem dX12_goesOn_0 : decode cX12_goesOn 0 = .ok (.iconst 0, 1) := by decide +kernel
theorem dX12_goesOn_1 : decode cX12_goesOn 1 = .ok (.istore_n 3, 1) := by decide +kernel
theorem dX12_goesOn_2 : decode cX12_goesOn 2 = .ok (.iconst 0, 1) := by decide +kernel
theorem dX12_goesOn_3 : decode cX12_goesOn 3 = .ok (.istore 4, 2) := by decide +kernel
theorem dX12_goesOn_5 : decode cX12_goesOn 5 = .ok (.iload 4, 2) := by decide +kernel
theorem dX12_goesOn_7 : decode cX12_goesOn 7 = .ok (.iload_n 1, 1) := by decide +kernel
theorem dX12_goesOn_8 : decode cX12_goesOn 8 = .ok (.if_icmp .ge 17, 3) := by decide +kernel
theorem dX12_goesOn_11 : decode cX12_goesOn 11 = .ok (.iload_n 3, 1) := by decide +kernel
theorem dX12_goesOn_12 : decode cX12_goesOn 12 = .ok (.aload_n 0, 1) := by decide +kernel
theorem dX12_goesOn_13 : decode cX12_goesOn 13 = .ok (.iload_n 2, 1) := by decide +kernel
theorem dX12_goesOn_14 : decode cX12_goesOn 14 = .ok (.invokevirtual 341, 3) := by decide +kernel
theorem dX12_goesOn_17 : decode cX12_goesOn 17 = .ok (.iadd, 1) := by decide +kernel
theorem dX12_goesOn_18 : decode cX12_goesOn 18 = .ok (.istore_n 3, 1) := by decide +kernel
theorem dX12_goesOn_19 : decode cX12_goesOn 19 = .ok (.iinc 4 1, 3) := by decide +kernel
theorem dX12_goesOn_22 : decode cX12_goesOn 22 = .ok (.goto (-17), 3) := by decide +kernel
theorem dX12_goesOn_25 : decode cX12_goesOn 25 = .ok (.iload_n 3, 1) := by decide +kernel
theorem dX12_goesOn_26 : decode cX12_goesOn 26 = .ok (.ireturn, 1) := by decide +kernel
theorem dX12_keepsAll_0 : decode cX12_keepsAll 0 = .ok (.iconst 0, 1) := by decide +kernel
theorem dX12_keepsAll_1 : decode cX12_keepsAll 1 = .ok (.istore_n 1, 1) := by decide +kernel
theorem dX12_keepsAll_2 : decode cX12_keepsAll 2 = .ok (.iload_n 1, 1) := by decide +kernel
theorem dX12_keepsAll_3 : decode cX12_keepsAll 3 = .ok (.sipush 354, 3) := by decide +kernel
theorem dX12_keepsAll_6 : decode cX12_keepsAll 6 = .ok (.if_icmp .ge 21, 3) := by decide +kernel
theorem dX12_keepsAll_9 : decode cX12_keepsAll 9 = .ok (.aload_n 0, 1) := by decide +kernel
theorem dX12_keepsAll_10 : decode cX12_keepsAll 10 = .ok (.getfield 23, 3) := by decide +kernel
theorem dX12_keepsAll_13 : decode cX12_keepsAll 13 = .ok (.iload_n 1, 1) := by decide +kernel
theorem dX12_keepsAll_14 : decode cX12_keepsAll 14 = .ok (.aload_n 0, 1) := by decide +kernel
theorem dX12_keepsAll_15 : decode cX12_keepsAll 15 = .ok (.getfield 13, 3) := by decide +kernel
theorem dX12_keepsAll_18 : decode cX12_keepsAll 18 = .ok (.iload_n 1, 1) := by decide +kernel
theorem dX12_keepsAll_19 : decode cX12_keepsAll 19 = .ok (.iaload, 1) := by decide +kernel
theorem dX12_keepsAll_20 : decode cX12_keepsAll 20 = .ok (.iastore, 1) := by decide +kernel
theorem dX12_keepsAll_21 : decode cX12_keepsAll 21 = .ok (.iinc 1 1, 3) := by decide +kernel
theorem dX12_keepsAll_24 : decode cX12_keepsAll 24 = .ok (.goto (-22), 3) := by decide +kernel
theorem dX12_keepsAll_27 : decode cX12_keepsAll 27 = .ok (.return_, 1) := by decide +kernel
theorem dX12_bringsBack_0 : decode cX12_bringsBack 0 = .ok (.iconst 0, 1) := by decide +kernel
theorem dX12_bringsBack_1 : decode cX12_bringsBack 1 = .ok (.istore_n 1, 1) := by decide +kernel
theorem dX12_bringsBack_2 : decode cX12_bringsBack 2 = .ok (.iload_n 1, 1) := by decide +kernel
theorem dX12_bringsBack_3 : decode cX12_bringsBack 3 = .ok (.sipush 354, 3) := by decide +kernel
theorem dX12_bringsBack_6 : decode cX12_bringsBack 6 = .ok (.if_icmp .ge 21, 3) := by decide +kernel
theorem dX12_bringsBack_9 : decode cX12_bringsBack 9 = .ok (.aload_n 0, 1) := by decide +kernel
theorem dX12_bringsBack_10 : decode cX12_bringsBack 10 = .ok (.getfield 13, 3) := by decide +kernel
theorem dX12_bringsBack_13 : decode cX12_bringsBack 13 = .ok (.iload_n 1, 1) := by decide +kernel
theorem dX12_bringsBack_14 : decode cX12_bringsBack 14 = .ok (.aload_n 0, 1) := by decide +kernel
theorem dX12_bringsBack_15 : decode cX12_bringsBack 15 = .ok (.getfield 23, 3) := by decide +kernel
theorem dX12_bringsBack_18 : decode cX12_bringsBack 18 = .ok (.iload_n 1, 1) := by decide +kernel
theorem dX12_bringsBack_19 : decode cX12_bringsBack 19 = .ok (.iaload, 1) := by decide +kernel
theorem dX12_bringsBack_20 : decode cX12_bringsBack 20 = .ok (.iastore, 1) := by decide +kernel
theorem dX12_bringsBack_21 : decode cX12_bringsBack 21 = .ok (.iinc 1 1, 3) := by decide +kernel
theorem dX12_bringsBack_24 : decode cX12_bringsBack 24 = .ok (.goto (-22), 3) := by decide +kernel
theorem dX12_bringsBack_27 : decode cX12_bringsBack 27 = .ok (.return_, 1) := by decide +kernel
theorem dX12_quarters_0 : decode cX12_quarters 0 = .ok (.aload_n 0, 1) := by decide +kernel
theorem dX12_quarters_1 : decode cX12_quarters 1 = .ok (.iconst 0, 1) := by decide +kernel
theorem dX12_quarters_2 : decode cX12_quarters 2 = .ok (.putfield 3, 3) := by decide +kernel
theorem dX12_quarters_5 : decode cX12_quarters 5 = .ok (.aload_n 0, 1) := by decide +kernel
theorem dX12_quarters_6 : decode cX12_quarters 6 = .ok (.iload_n 1, 1) := by decide +kernel
theorem dX12_quarters_7 : decode cX12_quarters 7 = .ok (.iconst 1, 1) := by decide +kernel
theorem dX12_quarters_8 : decode cX12_quarters 8 = .ok (.bipush 60, 2) := by decide +kernel
theorem dX12_quarters_10 : decode cX12_quarters 10 = .ok (.invokestatic 63, 3) := by decide +kernel
theorem dX12_quarters_13 : decode cX12_quarters 13 = .ok (.ifCond .ne 7, 3) := by decide +kernel
theorem dX12_quarters_16 : decode cX12_quarters 16 = .ok (.iconst 1, 1) := by decide +kernel
theorem dX12_quarters_17 : decode cX12_quarters 17 = .ok (.goto 4, 3) := by decide +kernel
theorem dX12_quarters_20 : decode cX12_quarters 20 = .ok (.iconst 0, 1) := by decide +kernel
theorem dX12_quarters_21 : decode cX12_quarters 21 = .ok (.iconst 1, 1) := by decide +kernel
theorem dX12_quarters_22 : decode cX12_quarters 22 = .ok (.invokevirtual 246, 3) := by decide +kernel
theorem dX12_quarters_25 : decode cX12_quarters 25 = .ok (.ifCond .eq 5, 3) := by decide +kernel
theorem dX12_quarters_28 : decode cX12_quarters 28 = .ok (.iconst 0, 1) := by decide +kernel
theorem dX12_quarters_29 : decode cX12_quarters 29 = .ok (.ireturn, 1) := by decide +kernel
theorem dX12_quarters_30 : decode cX12_quarters 30 = .ok (.aload_n 0, 1) := by decide +kernel
theorem dX12_quarters_31 : decode cX12_quarters 31 = .ok (.invokevirtual 317, 3) := by decide +kernel
theorem dX12_quarters_34 : decode cX12_quarters 34 = .ok (.aload_n 0, 1) := by decide +kernel
theorem dX12_quarters_35 : decode cX12_quarters 35 = .ok (.iload_n 1, 1) := by decide +kernel
theorem dX12_quarters_36 : decode cX12_quarters 36 = .ok (.iconst 0, 1) := by decide +kernel
theorem dX12_quarters_37 : decode cX12_quarters 37 = .ok (.invokevirtual 344, 3) := by decide +kernel
theorem dX12_quarters_40 : decode cX12_quarters 40 = .ok (.ireturn, 1) := by decide +kernel
theorem dX12_noAhead_0 : decode cX12_noAhead 0 = .ok (.iload_n 0, 1) := by decide +kernel
theorem dX12_noAhead_1 : decode cX12_noAhead 1 = .ok (.iconst 0, 1) := by decide +kernel
theorem dX12_noAhead_2 : decode cX12_noAhead 2 = .ok (.bipush 100, 2) := by decide +kernel
theorem dX12_noAhead_4 : decode cX12_noAhead 4 = .ok (.invokestatic 63, 3) := by decide +kernel
theorem dX12_noAhead_7 : decode cX12_noAhead 7 = .ok (.ifCond .ne 7, 3) := by decide +kernel
theorem dX12_noAhead_10 : decode cX12_noAhead 10 = .ok (.iconst 1, 1) := by decide +kernel
theorem dX12_noAhead_11 : decode cX12_noAhead 11 = .ok (.goto 4, 3) := by decide +kernel
theorem dX12_noAhead_14 : decode cX12_noAhead 14 = .ok (.iconst 0, 1) := by decide +kernel
theorem dX12_noAhead_15 : decode cX12_noAhead 15 = .ok (.ireturn, 1) := by decide +kernel
theorem dX12_ahead_0 : decode cX12_ahead 0 = .ok (.aload_n 0, 1) := by decide +kernel
theorem dX12_ahead_1 : decode cX12_ahead 1 = .ok (.iconst 0, 1) := by decide +kernel
theorem dX12_ahead_2 : decode cX12_ahead 2 = .ok (.putfield 3, 3) := by decide +kernel
theorem dX12_ahead_5 : decode cX12_ahead 5 = .ok (.aload_n 0, 1) := by decide +kernel
theorem dX12_ahead_6 : decode cX12_ahead 6 = .ok (.aload_n 0, 1) := by decide +kernel
theorem dX12_ahead_7 : decode cX12_ahead 7 = .ok (.iload_n 1, 1) := by decide +kernel
theorem dX12_ahead_8 : decode cX12_ahead 8 = .ok (.invokevirtual 299, 3) := by decide +kernel
theorem dX12_ahead_11 : decode cX12_ahead 11 = .ok (.iconst 1, 1) := by decide +kernel
theorem dX12_ahead_12 : decode cX12_ahead 12 = .ok (.invokevirtual 246, 3) := by decide +kernel
theorem dX12_ahead_15 : decode cX12_ahead 15 = .ok (.ifCond .ne 15, 3) := by decide +kernel
theorem dX12_ahead_18 : decode cX12_ahead 18 = .ok (.aload_n 0, 1) := by decide +kernel
theorem dX12_ahead_19 : decode cX12_ahead 19 = .ok (.iload_n 2, 1) := by decide +kernel
theorem dX12_ahead_20 : decode cX12_ahead 20 = .ok (.invokestatic 348, 3) := by decide +kernel
theorem dX12_ahead_23 : decode cX12_ahead 23 = .ok (.iconst 2, 1) := by decide +kernel
theorem dX12_ahead_24 : decode cX12_ahead 24 = .ok (.invokevirtual 246, 3) := by decide +kernel
theorem dX12_ahead_27 : decode cX12_ahead 27 = .ok (.ifCond .eq 5, 3) := by decide +kernel
theorem dX12_ahead_30 : decode cX12_ahead 30 = .ok (.iconst 0, 1) := by decide +kernel
theorem dX12_ahead_31 : decode cX12_ahead 31 = .ok (.ireturn, 1) := by decide +kernel
theorem dX12_ahead_32 : decode cX12_ahead 32 = .ok (.aload_n 0, 1) := by decide +kernel
theorem dX12_ahead_33 : decode cX12_ahead 33 = .ok (.invokevirtual 351, 3) := by decide +kernel
theorem dX12_ahead_36 : decode cX12_ahead 36 = .ok (.aload_n 0, 1) := by decide +kernel
theorem dX12_ahead_37 : decode cX12_ahead 37 = .ok (.iload_n 2, 1) := by decide +kernel
theorem dX12_ahead_38 : decode cX12_ahead 38 = .ok (.iconst 1, 1) := by decide +kernel
theorem dX12_ahead_39 : decode cX12_ahead 39 = .ok (.invokevirtual 344, 3) := by decide +kernel
theorem dX12_ahead_42 : decode cX12_ahead 42 = .ok (.pop, 1) := by decide +kernel
theorem dX12_ahead_43 : decode cX12_ahead 43 = .ok (.aload_n 0, 1) := by decide +kernel
theorem dX12_ahead_44 : decode cX12_ahead 44 = .ok (.iload_n 1, 1) := by decide +kernel
theorem dX12_ahead_45 : decode cX12_ahead 45 = .ok (.iconst 0, 1) := by decide +kernel
theorem dX12_ahead_46 : decode cX12_ahead 46 = .ok (.invokevirtual 255, 3) := by decide +kernel
theorem dX12_ahead_49 : decode cX12_ahead 49 = .ok (.istore_n 3, 1) := by decide +kernel
theorem dX12_ahead_50 : decode cX12_ahead 50 = .ok (.aload_n 0, 1) := by decide +kernel
theorem dX12_ahead_51 : decode cX12_ahead 51 = .ok (.invokevirtual 354, 3) := by decide +kernel
theorem dX12_ahead_54 : decode cX12_ahead 54 = .ok (.iload_n 3, 1) := by decide +kernel
theorem dX12_ahead_55 : decode cX12_ahead 55 = .ok (.ireturn, 1) := by decide +kernel
theorem dX12_broke_0 : decode cX12_broke 0 = .ok (.aload_n 0, 1) := by decide +kernel
theorem dX12_broke_1 : decode cX12_broke 1 = .ok (.iconst 0, 1) := by decide +kernel
theorem dX12_broke_2 : decode cX12_broke 2 = .ok (.putfield 3, 3) := by decide +kernel
theorem dX12_broke_5 : decode cX12_broke 5 = .ok (.aload_n 0, 1) := by decide +kernel
theorem dX12_broke_6 : decode cX12_broke 6 = .ok (.aload_n 0, 1) := by decide +kernel
theorem dX12_broke_7 : decode cX12_broke 7 = .ok (.iload_n 1, 1) := by decide +kernel
theorem dX12_broke_8 : decode cX12_broke 8 = .ok (.invokevirtual 299, 3) := by decide +kernel
theorem dX12_broke_11 : decode cX12_broke 11 = .ok (.iconst 1, 1) := by decide +kernel
theorem dX12_broke_12 : decode cX12_broke 12 = .ok (.invokevirtual 246, 3) := by decide +kernel
theorem dX12_broke_15 : decode cX12_broke 15 = .ok (.ifCond .eq 5, 3) := by decide +kernel
theorem dX12_broke_18 : decode cX12_broke 18 = .ok (.iconst 0, 1) := by decide +kernel
theorem dX12_broke_19 : decode cX12_broke 19 = .ok (.ireturn, 1) := by decide +kernel
theorem dX12_broke_20 : decode cX12_broke 20 = .ok (.iconst (-1), 1) := by decide +kernel
theorem dX12_broke_21 : decode cX12_broke 21 = .ok (.istore_n 2, 1) := by decide +kernel
theorem dX12_broke_22 : decode cX12_broke 22 = .ok (.aload_n 0, 1) := by decide +kernel
theorem dX12_broke_23 : decode cX12_broke 23 = .ok (.invokevirtual 351, 3) := by decide +kernel
theorem dX12_broke_26 : decode cX12_broke 26 = .ok (.iconst 0, 1) := by decide +kernel
theorem dX12_broke_27 : decode cX12_broke 27 = .ok (.istore_n 3, 1) := by decide +kernel
theorem dX12_broke_28 : decode cX12_broke 28 = .ok (.iload_n 3, 1) := by decide +kernel
theorem dX12_broke_29 : decode cX12_broke 29 = .ok (.bipush 100, 2) := by decide +kernel
theorem dX12_broke_31 : decode cX12_broke 31 = .ok (.if_icmp .gt 35, 3) := by decide +kernel
theorem dX12_broke_34 : decode cX12_broke 34 = .ok (.iload_n 2, 1) := by decide +kernel
theorem dX12_broke_35 : decode cX12_broke 35 = .ok (.iconst (-1), 1) := by decide +kernel
theorem dX12_broke_36 : decode cX12_broke 36 = .ok (.if_icmp .ne 30, 3) := by decide +kernel
theorem dX12_broke_39 : decode cX12_broke 39 = .ok (.aload_n 0, 1) := by decide +kernel
theorem dX12_broke_40 : decode cX12_broke 40 = .ok (.iload_n 1, 1) := by decide +kernel
theorem dX12_broke_41 : decode cX12_broke 41 = .ok (.iconst 0, 1) := by decide +kernel
theorem dX12_broke_42 : decode cX12_broke 42 = .ok (.invokevirtual 255, 3) := by decide +kernel
theorem dX12_broke_45 : decode cX12_broke 45 = .ok (.ifCond .ne 7, 3) := by decide +kernel
theorem dX12_broke_48 : decode cX12_broke 48 = .ok (.iload_n 3, 1) := by decide +kernel
theorem dX12_broke_49 : decode cX12_broke 49 = .ok (.goto 4, 3) := by decide +kernel
theorem dX12_broke_52 : decode cX12_broke 52 = .ok (.iconst (-1), 1) := by decide +kernel
theorem dX12_broke_53 : decode cX12_broke 53 = .ok (.istore_n 2, 1) := by decide +kernel
theorem dX12_broke_54 : decode cX12_broke 54 = .ok (.aload_n 0, 1) := by decide +kernel
theorem dX12_broke_55 : decode cX12_broke 55 = .ok (.iconst 1, 1) := by decide +kernel
theorem dX12_broke_56 : decode cX12_broke 56 = .ok (.invokevirtual 341, 3) := by decide +kernel
theorem dX12_broke_59 : decode cX12_broke 59 = .ok (.pop, 1) := by decide +kernel
theorem dX12_broke_60 : decode cX12_broke 60 = .ok (.iinc 3 1, 3) := by decide +kernel
theorem dX12_broke_63 : decode cX12_broke 63 = .ok (.goto (-35), 3) := by decide +kernel
theorem dX12_broke_66 : decode cX12_broke 66 = .ok (.aload_n 0, 1) := by decide +kernel
theorem dX12_broke_67 : decode cX12_broke 67 = .ok (.invokevirtual 354, 3) := by decide +kernel
theorem dX12_broke_70 : decode cX12_broke 70 = .ok (.iload_n 2, 1) := by decide +kernel
theorem dX12_broke_71 : decode cX12_broke 71 = .ok (.ireturn, 1) := by decide +kernel
theorem dX12_first_0 : decode cX12_first 0 = .ok (.aload_n 0, 1) := by decide +kernel
theorem dX12_first_1 : decode cX12_first 1 = .ok (.iconst 0, 1) := by decide +kernel
theorem dX12_first_2 : decode cX12_first 2 = .ok (.putfield 3, 3) := by decide +kernel
theorem dX12_first_5 : decode cX12_first 5 = .ok (.aload_n 0, 1) := by decide +kernel
theorem dX12_first_6 : decode cX12_first 6 = .ok (.iload_n 1, 1) := by decide +kernel
theorem dX12_first_7 : decode cX12_first 7 = .ok (.iconst 1, 1) := by decide +kernel
theorem dX12_first_8 : decode cX12_first 8 = .ok (.sipush 9999, 3) := by decide +kernel
theorem dX12_first_11 : decode cX12_first 11 = .ok (.invokestatic 63, 3) := by decide +kernel
theorem dX12_first_14 : decode cX12_first 14 = .ok (.ifCond .ne 7, 3) := by decide +kernel
theorem dX12_first_17 : decode cX12_first 17 = .ok (.iconst 1, 1) := by decide +kernel
theorem dX12_first_18 : decode cX12_first 18 = .ok (.goto 4, 3) := by decide +kernel
theorem dX12_first_21 : decode cX12_first 21 = .ok (.iconst 0, 1) := by decide +kernel
theorem dX12_first_22 : decode cX12_first 22 = .ok (.iconst 1, 1) := by decide +kernel
theorem dX12_first_23 : decode cX12_first 23 = .ok (.invokevirtual 246, 3) := by decide +kernel
theorem dX12_first_26 : decode cX12_first 26 = .ok (.ifCond .eq 5, 3) := by decide +kernel
theorem dX12_first_29 : decode cX12_first 29 = .ok (.iconst 0, 1) := by decide +kernel
theorem dX12_first_30 : decode cX12_first 30 = .ok (.ireturn, 1) := by decide +kernel
theorem dX12_first_31 : decode cX12_first 31 = .ok (.iconst (-1), 1) := by decide +kernel
theorem dX12_first_32 : decode cX12_first 32 = .ok (.istore_n 2, 1) := by decide +kernel
theorem dX12_first_33 : decode cX12_first 33 = .ok (.aload_n 0, 1) := by decide +kernel
theorem dX12_first_34 : decode cX12_first 34 = .ok (.invokevirtual 351, 3) := by decide +kernel
theorem dX12_first_37 : decode cX12_first 37 = .ok (.iconst 0, 1) := by decide +kernel
