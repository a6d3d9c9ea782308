theorem dX12_first_38 : decode cX12_first 38 = .ok (.istore_n 3, 1) := by decide +kernel
theorem dX12_first_39 : decode cX12_first 39 = .ok (.iload_n 3, 1) := by decide +kernel
theorem dX12_first_40 : decode cX12_first 40 = .ok (.bipush 100, 2) := by decide +kernel
theorem dX12_first_42 : decode cX12_first 42 = .ok (.if_icmp .gt 37, 3) := by decide +kernel
theorem dX12_first_45 : decode cX12_first 45 = .ok (.iload_n 2, 1) := by decide +kernel
theorem dX12_first_46 : decode cX12_first 46 = .ok (.iconst (-1), 1) := by decide +kernel
theorem dX12_first_47 : decode cX12_first 47 = .ok (.if_icmp .ne 32, 3) := by decide +kernel
theorem dX12_first_50 : decode cX12_first 50 = .ok (.aload_n 0, 1) := by decide +kernel
theorem dX12_first_51 : decode cX12_first 51 = .ok (.getfield 13, 3) := by decide +kernel
theorem dX12_first_54 : decode cX12_first 54 = .ok (.bipush 9, 2) := by decide +kernel
theorem dX12_first_56 : decode cX12_first 56 = .ok (.iaload, 1) := by decide +kernel
theorem dX12_first_57 : decode cX12_first 57 = .ok (.iload_n 1, 1) := by decide +kernel
theorem dX12_first_58 : decode cX12_first 58 = .ok (.if_icmp .lt 7, 3) := by decide +kernel
theorem dX12_first_61 : decode cX12_first 61 = .ok (.iload_n 3, 1) := by decide +kernel
theorem dX12_first_62 : decode cX12_first 62 = .ok (.goto 4, 3) := by decide +kernel
theorem dX12_first_65 : decode cX12_first 65 = .ok (.iconst (-1), 1) := by decide +kernel
theorem dX12_first_66 : decode cX12_first 66 = .ok (.istore_n 2, 1) := by decide +kernel
theorem dX12_first_67 : decode cX12_first 67 = .ok (.aload_n 0, 1) := by decide +kernel
theorem dX12_first_68 : decode cX12_first 68 = .ok (.iconst 1, 1) := by decide +kernel
theorem dX12_first_69 : decode cX12_first 69 = .ok (.invokevirtual 341, 3) := by decide +kernel
theorem dX12_first_72 : decode cX12_first 72 = .ok (.pop, 1) := by decide +kernel
theorem dX12_first_73 : decode cX12_first 73 = .ok (.iinc 3 1, 3) := by decide +kernel
theorem dX12_first_76 : decode cX12_first 76 = .ok (.goto (-37), 3) := by decide +kernel
theorem dX12_first_79 : decode cX12_first 79 = .ok (.aload_n 0, 1) := by decide +kernel
theorem dX12_first_80 : decode cX12_first 80 = .ok (.invokevirtual 354, 3) := by decide +kernel
theorem dX12_first_83 : decode cX12_first 83 = .ok (.iload_n 2, 1) := by decide +kernel
theorem dX12_first_84 : decode cX12_first 84 = .ok (.ireturn, 1) := by decide +kernel
theorem dX12_stacks_0 : decode cX12_stacks 0 = .ok (.aload_n 0, 1) := by decide +kernel
theorem dX12_stacks_1 : decode cX12_stacks 1 = .ok (.iconst 0, 1) := by decide +kernel
theorem dX12_stacks_2 : decode cX12_stacks 2 = .ok (.putfield 3, 3) := by decide +kernel
theorem dX12_stacks_5 : decode cX12_stacks 5 = .ok (.aload_n 0, 1) := by decide +kernel
theorem dX12_stacks_6 : decode cX12_stacks 6 = .ok (.iload_n 1, 1) := by decide +kernel
theorem dX12_stacks_7 : decode cX12_stacks 7 = .ok (.iconst 0, 1) := by decide +kernel
theorem dX12_stacks_8 : decode cX12_stacks 8 = .ok (.iconst 4, 1) := by decide +kernel
theorem dX12_stacks_9 : decode cX12_stacks 9 = .ok (.invokestatic 63, 3) := by decide +kernel
theorem dX12_stacks_12 : decode cX12_stacks 12 = .ok (.ifCond .ne 7, 3) := by decide +kernel
theorem dX12_stacks_15 : decode cX12_stacks 15 = .ok (.iconst 1, 1) := by decide +kernel
theorem dX12_stacks_16 : decode cX12_stacks 16 = .ok (.goto 4, 3) := by decide +kernel
theorem dX12_stacks_19 : decode cX12_stacks 19 = .ok (.iconst 0, 1) := by decide +kernel
theorem dX12_stacks_20 : decode cX12_stacks 20 = .ok (.iconst 1, 1) := by decide +kernel
theorem dX12_stacks_21 : decode cX12_stacks 21 = .ok (.invokevirtual 246, 3) := by decide +kernel
theorem dX12_stacks_24 : decode cX12_stacks 24 = .ok (.ifCond .eq 5, 3) := by decide +kernel
theorem dX12_stacks_27 : decode cX12_stacks 27 = .ok (.iconst 0, 1) := by decide +kernel
theorem dX12_stacks_28 : decode cX12_stacks 28 = .ok (.ireturn, 1) := by decide +kernel
theorem dX12_stacks_29 : decode cX12_stacks 29 = .ok (.iconst 0, 1) := by decide +kernel
theorem dX12_stacks_30 : decode cX12_stacks 30 = .ok (.istore_n 2, 1) := by decide +kernel
theorem dX12_stacks_31 : decode cX12_stacks 31 = .ok (.iconst 0, 1) := by decide +kernel
theorem dX12_stacks_32 : decode cX12_stacks 32 = .ok (.istore_n 3, 1) := by decide +kernel
theorem dX12_stacks_33 : decode cX12_stacks 33 = .ok (.iload_n 3, 1) := by decide +kernel
theorem dX12_stacks_34 : decode cX12_stacks 34 = .ok (.aload_n 0, 1) := by decide +kernel
theorem dX12_stacks_35 : decode cX12_stacks 35 = .ok (.invokevirtual 59, 3) := by decide +kernel
theorem dX12_stacks_38 : decode cX12_stacks 38 = .ok (.if_icmp .ge 37, 3) := by decide +kernel
theorem dX12_stacks_41 : decode cX12_stacks 41 = .ok (.iload_n 2, 1) := by decide +kernel
theorem dX12_stacks_42 : decode cX12_stacks 42 = .ok (.aload_n 0, 1) := by decide +kernel
theorem dX12_stacks_43 : decode cX12_stacks 43 = .ok (.iload_n 3, 1) := by decide +kernel
theorem dX12_stacks_44 : decode cX12_stacks 44 = .ok (.iconst 3, 1) := by decide +kernel
theorem dX12_stacks_45 : decode cX12_stacks 45 = .ok (.invokevirtual 255, 3) := by decide +kernel
theorem dX12_stacks_48 : decode cX12_stacks 48 = .ok (.iload_n 1, 1) := by decide +kernel
theorem dX12_stacks_49 : decode cX12_stacks 49 = .ok (.invokestatic 287, 3) := by decide +kernel
theorem dX12_stacks_52 : decode cX12_stacks 52 = .ok (.ifCond .eq 14, 3) := by decide +kernel
theorem dX12_stacks_55 : decode cX12_stacks 55 = .ok (.aload_n 0, 1) := by decide +kernel
theorem dX12_stacks_56 : decode cX12_stacks 56 = .ok (.iload_n 3, 1) := by decide +kernel
theorem dX12_stacks_57 : decode cX12_stacks 57 = .ok (.invokevirtual 308, 3) := by decide +kernel
theorem dX12_stacks_60 : decode cX12_stacks 60 = .ok (.invokestatic 142, 3) := by decide +kernel
theorem dX12_stacks_63 : decode cX12_stacks 63 = .ok (.goto 4, 3) := by decide +kernel
theorem dX12_stacks_66 : decode cX12_stacks 66 = .ok (.iconst 0, 1) := by decide +kernel
theorem dX12_stacks_67 : decode cX12_stacks 67 = .ok (.iadd, 1) := by decide +kernel
theorem dX12_stacks_68 : decode cX12_stacks 68 = .ok (.istore_n 2, 1) := by decide +kernel
theorem dX12_stacks_69 : decode cX12_stacks 69 = .ok (.iinc 3 1, 3) := by decide +kernel
theorem dX12_stacks_72 : decode cX12_stacks 72 = .ok (.goto (-39), 3) := by decide +kernel
theorem dX12_stacks_75 : decode cX12_stacks 75 = .ok (.iload_n 2, 1) := by decide +kernel
theorem dX12_stacks_76 : decode cX12_stacks 76 = .ok (.ireturn, 1) := by decide +kernel
theorem dX12_seesAll_0 : decode cX12_seesAll 0 = .ok (.iconst 1, 1) := by decide +kernel
theorem dX12_seesAll_1 : decode cX12_seesAll 1 = .ok (.istore_n 2, 1) := by decide +kernel
theorem dX12_seesAll_2 : decode cX12_seesAll 2 = .ok (.iconst 0, 1) := by decide +kernel
theorem dX12_seesAll_3 : decode cX12_seesAll 3 = .ok (.istore_n 3, 1) := by decide +kernel
theorem dX12_seesAll_4 : decode cX12_seesAll 4 = .ok (.iload_n 3, 1) := by decide +kernel
theorem dX12_seesAll_5 : decode cX12_seesAll 5 = .ok (.aload_n 0, 1) := by decide +kernel
theorem dX12_seesAll_6 : decode cX12_seesAll 6 = .ok (.invokevirtual 59, 3) := by decide +kernel
theorem dX12_seesAll_9 : decode cX12_seesAll 9 = .ok (.if_icmp .ge 38, 3) := by decide +kernel
theorem dX12_seesAll_12 : decode cX12_seesAll 12 = .ok (.iload_n 2, 1) := by decide +kernel
theorem dX12_seesAll_13 : decode cX12_seesAll 13 = .ok (.ifCond .eq 26, 3) := by decide +kernel
theorem dX12_seesAll_16 : decode cX12_seesAll 16 = .ok (.aload_n 0, 1) := by decide +kernel
theorem dX12_seesAll_17 : decode cX12_seesAll 17 = .ok (.iload_n 3, 1) := by decide +kernel
theorem dX12_seesAll_18 : decode cX12_seesAll 18 = .ok (.invokevirtual 308, 3) := by decide +kernel
theorem dX12_seesAll_21 : decode cX12_seesAll 21 = .ok (.ifCond .eq 14, 3) := by decide +kernel
theorem dX12_seesAll_24 : decode cX12_seesAll 24 = .ok (.aload_n 0, 1) := by decide +kernel
theorem dX12_seesAll_25 : decode cX12_seesAll 25 = .ok (.iload_n 3, 1) := by decide +kernel
theorem dX12_seesAll_26 : decode cX12_seesAll 26 = .ok (.iconst 3, 1) := by decide +kernel
theorem dX12_seesAll_27 : decode cX12_seesAll 27 = .ok (.invokevirtual 255, 3) := by decide +kernel
theorem dX12_seesAll_30 : decode cX12_seesAll 30 = .ok (.iload_n 1, 1) := by decide +kernel
theorem dX12_seesAll_31 : decode cX12_seesAll 31 = .ok (.iand, 1) := by decide +kernel
theorem dX12_seesAll_32 : decode cX12_seesAll 32 = .ok (.ifCond .eq 7, 3) := by decide +kernel
theorem dX12_seesAll_35 : decode cX12_seesAll 35 = .ok (.iconst 1, 1) := by decide +kernel
theorem dX12_seesAll_36 : decode cX12_seesAll 36 = .ok (.goto 4, 3) := by decide +kernel
theorem dX12_seesAll_39 : decode cX12_seesAll 39 = .ok (.iconst 0, 1) := by decide +kernel
theorem dX12_seesAll_40 : decode cX12_seesAll 40 = .ok (.istore_n 2, 1) := by decide +kernel
theorem dX12_seesAll_41 : decode cX12_seesAll 41 = .ok (.iinc 3 1, 3) := by decide +kernel
theorem dX12_seesAll_44 : decode cX12_seesAll 44 = .ok (.goto (-40), 3) := by decide +kernel
theorem dX12_seesAll_47 : decode cX12_seesAll 47 = .ok (.iload_n 2, 1) := by decide +kernel
theorem dX12_seesAll_48 : decode cX12_seesAll 48 = .ok (.ireturn, 1) := by decide +kernel
theorem dX12_towers_0 : decode cX12_towers 0 = .ok (.aload_n 0, 1) := by decide +kernel
theorem dX12_towers_1 : decode cX12_towers 1 = .ok (.iconst 0, 1) := by decide +kernel
theorem dX12_towers_2 : decode cX12_towers 2 = .ok (.putfield 3, 3) := by decide +kernel
theorem dX12_towers_5 : decode cX12_towers 5 = .ok (.iconst (-1), 1) := by decide +kernel
theorem dX12_towers_6 : decode cX12_towers 6 = .ok (.istore_n 1, 1) := by decide +kernel
theorem dX12_towers_7 : decode cX12_towers 7 = .ok (.bipush 6, 2) := by decide +kernel
theorem dX12_towers_9 : decode cX12_towers 9 = .ok (.istore_n 2, 1) := by decide +kernel
theorem dX12_towers_10 : decode cX12_towers 10 = .ok (.iconst 0, 1) := by decide +kernel
theorem dX12_towers_11 : decode cX12_towers 11 = .ok (.istore_n 3, 1) := by decide +kernel
theorem dX12_towers_12 : decode cX12_towers 12 = .ok (.iload_n 3, 1) := by decide +kernel
theorem dX12_towers_13 : decode cX12_towers 13 = .ok (.bipush 32, 2) := by decide +kernel
theorem dX12_towers_15 : decode cX12_towers 15 = .ok (.if_icmp .ge 35, 3) := by decide +kernel
theorem dX12_towers_18 : decode cX12_towers 18 = .ok (.iload_n 3, 1) := by decide +kernel
theorem dX12_towers_19 : decode cX12_towers 19 = .ok (.invokestatic 142, 3) := by decide +kernel
theorem dX12_towers_22 : decode cX12_towers 22 = .ok (.iload_n 2, 1) := by decide +kernel
theorem dX12_towers_23 : decode cX12_towers 23 = .ok (.if_icmp .ge 21, 3) := by decide +kernel
theorem dX12_towers_26 : decode cX12_towers 26 = .ok (.aload_n 0, 1) := by decide +kernel
theorem dX12_towers_27 : decode cX12_towers 27 = .ok (.iload_n 3, 1) := by decide +kernel
theorem dX12_towers_28 : decode cX12_towers 28 = .ok (.invokevirtual 357, 3) := by decide +kernel
theorem dX12_towers_31 : decode cX12_towers 31 = .ok (.ifCond .ne 6, 3) := by decide +kernel
theorem dX12_towers_34 : decode cX12_towers 34 = .ok (.goto 10, 3) := by decide +kernel
theorem dX12_towers_37 : decode cX12_towers 37 = .ok (.iload_n 3, 1) := by decide +kernel
theorem dX12_towers_38 : decode cX12_towers 38 = .ok (.istore_n 1, 1) := by decide +kernel
theorem dX12_towers_39 : decode cX12_towers 39 = .ok (.iload_n 3, 1) := by decide +kernel
theorem dX12_towers_40 : decode cX12_towers 40 = .ok (.invokestatic 142, 3) := by decide +kernel
theorem dX12_towers_43 : decode cX12_towers 43 = .ok (.istore_n 2, 1) := by decide +kernel
theorem dX12_towers_44 : decode cX12_towers 44 = .ok (.iinc 3 1, 3) := by decide +kernel
theorem dX12_towers_47 : decode cX12_towers 47 = .ok (.goto (-35), 3) := by decide +kernel
theorem dX12_towers_50 : decode cX12_towers 50 = .ok (.iload_n 1, 1) := by decide +kernel
theorem dX12_towers_51 : decode cX12_towers 51 = .ok (.ireturn, 1) := by decide +kernel
theorem dX12_isTold_0 : decode cX12_isTold 0 = .ok (.aload_n 0, 1) := by decide +kernel
theorem dX12_isTold_1 : decode cX12_isTold 1 = .ok (.getfield 81, 3) := by decide +kernel
theorem dX12_isTold_4 : decode cX12_isTold 4 = .ok (.iconst 2, 1) := by decide +kernel
theorem dX12_isTold_5 : decode cX12_isTold 5 = .ok (.irem, 1) := by decide +kernel
theorem dX12_isTold_6 : decode cX12_isTold 6 = .ok (.ifCond .ne 16, 3) := by decide +kernel
theorem dX12_isTold_9 : decode cX12_isTold 9 = .ok (.aload_n 0, 1) := by decide +kernel
theorem dX12_isTold_10 : decode cX12_isTold 10 = .ok (.getfield 81, 3) := by decide +kernel
theorem dX12_isTold_13 : decode cX12_isTold 13 = .ok (.bipush 40, 2) := by decide +kernel
theorem dX12_isTold_15 : decode cX12_isTold 15 = .ok (.if_icmp .gt 7, 3) := by decide +kernel
theorem dX12_isTold_18 : decode cX12_isTold 18 = .ok (.iconst 1, 1) := by decide +kernel
theorem dX12_isTold_19 : decode cX12_isTold 19 = .ok (.goto 4, 3) := by decide +kernel
theorem dX12_isTold_22 : decode cX12_isTold 22 = .ok (.iconst 0, 1) := by decide +kernel
theorem dX12_isTold_23 : decode cX12_isTold 23 = .ok (.istore_n 1, 1) := by decide +kernel
theorem dX12_isTold_24 : decode cX12_isTold 24 = .ok (.iconst 0, 1) := by decide +kernel
theorem dX12_isTold_25 : decode cX12_isTold 25 = .ok (.istore_n 2, 1) := by decide +kernel
theorem dX12_isTold_26 : decode cX12_isTold 26 = .ok (.iload_n 2, 1) := by decide +kernel
theorem dX12_isTold_27 : decode cX12_isTold 27 = .ok (.aload_n 0, 1) := by decide +kernel
theorem dX12_isTold_28 : decode cX12_isTold 28 = .ok (.getfield 81, 3) := by decide +kernel
theorem dX12_isTold_31 : decode cX12_isTold 31 = .ok (.if_icmp .ge 50, 3) := by decide +kernel
theorem dX12_isTold_34 : decode cX12_isTold 34 = .ok (.iload_n 1, 1) := by decide +kernel
theorem dX12_isTold_35 : decode cX12_isTold 35 = .ok (.ifCond .eq 46, 3) := by decide +kernel
theorem dX12_isTold_38 : decode cX12_isTold 38 = .ok (.aload_n 0, 1) := by decide +kernel
theorem dX12_isTold_39 : decode cX12_isTold 39 = .ok (.getfield 29, 3) := by decide +kernel
theorem dX12_isTold_42 : decode cX12_isTold 42 = .ok (.iload_n 2, 1) := by decide +kernel
theorem dX12_isTold_43 : decode cX12_isTold 43 = .ok (.baload, 1) := by decide +kernel
theorem dX12_isTold_44 : decode cX12_isTold 44 = .ok (.iconst 0, 1) := by decide +kernel
theorem dX12_isTold_45 : decode cX12_isTold 45 = .ok (.bipush 9, 2) := by decide +kernel
theorem dX12_isTold_47 : decode cX12_isTold 47 = .ok (.invokestatic 63, 3) := by decide +kernel
theorem dX12_isTold_50 : decode cX12_isTold 50 = .ok (.ifCond .eq 23, 3) := by decide +kernel
theorem dX12_isTold_53 : decode cX12_isTold 53 = .ok (.aload_n 0, 1) := by decide +kernel
theorem dX12_isTold_54 : decode cX12_isTold 54 = .ok (.getfield 29, 3) := by decide +kernel
theorem dX12_isTold_57 : decode cX12_isTold 57 = .ok (.iload_n 2, 1) := by decide +kernel
theorem dX12_isTold_58 : decode cX12_isTold 58 = .ok (.iconst 1, 1) := by decide +kernel
theorem dX12_isTold_59 : decode cX12_isTold 59 = .ok (.iadd, 1) := by decide +kernel
theorem dX12_isTold_60 : decode cX12_isTold 60 = .ok (.baload, 1) := by decide +kernel
theorem dX12_isTold_61 : decode cX12_isTold 61 = .ok (.iconst 0, 1) := by decide +kernel
theorem dX12_isTold_62 : decode cX12_isTold 62 = .ok (.iconst 1, 1) := by decide +kernel
theorem dX12_isTold_63 : decode cX12_isTold 63 = .ok (.invokestatic 63, 3) := by decide +kernel
theorem dX12_isTold_66 : decode cX12_isTold 66 = .ok (.ifCond .eq 7, 3) := by decide +kernel
theorem dX12_isTold_69 : decode cX12_isTold 69 = .ok (.iconst 1, 1) := by decide +kernel
theorem dX12_isTold_70 : decode cX12_isTold 70 = .ok (.goto 4, 3) := by decide +kernel
theorem dX12_isTold_73 : decode cX12_isTold 73 = .ok (.iconst 0, 1) := by decide +kernel
theorem dX12_isTold_74 : decode cX12_isTold 74 = .ok (.istore_n 1, 1) := by decide +kernel
theorem dX12_isTold_75 : decode cX12_isTold 75 = .ok (.iinc 2 2, 3) := by decide +kernel
theorem dX12_isTold_78 : decode cX12_isTold 78 = .ok (.goto (-52), 3) := by decide +kernel
theorem dX12_isTold_81 : decode cX12_isTold 81 = .ok (.iload_n 1, 1) := by decide +kernel
theorem dX12_isTold_82 : decode cX12_isTold 82 = .ok (.ireturn, 1) := by decide +kernel
theorem dX12_fits_0 : decode cX12_fits 0 = .ok (.aload_n 0, 1) := by decide +kernel
theorem dX12_fits_1 : decode cX12_fits 1 = .ok (.iload_n 1, 1) := by decide +kernel
theorem dX12_fits_2 : decode cX12_fits 2 = .ok (.invokevirtual 290, 3) := by decide +kernel
theorem dX12_fits_5 : decode cX12_fits 5 = .ok (.istore_n 2, 1) := by decide +kernel
theorem dX12_fits_6 : decode cX12_fits 6 = .ok (.iconst 1, 1) := by decide +kernel
theorem dX12_fits_7 : decode cX12_fits 7 = .ok (.istore_n 3, 1) := by decide +kernel
theorem dX12_fits_8 : decode cX12_fits 8 = .ok (.iconst 0, 1) := by decide +kernel
theorem dX12_fits_9 : decode cX12_fits 9 = .ok (.istore 4, 2) := by decide +kernel
theorem dX12_fits_11 : decode cX12_fits 11 = .ok (.iload 4, 2) := by decide +kernel
theorem dX12_fits_13 : decode cX12_fits 13 = .ok (.aload_n 0, 1) := by decide +kernel
theorem dX12_fits_14 : decode cX12_fits 14 = .ok (.getfield 81, 3) := by decide +kernel
theorem dX12_fits_17 : decode cX12_fits 17 = .ok (.if_icmp .ge 51, 3) := by decide +kernel
theorem dX12_fits_20 : decode cX12_fits 20 = .ok (.iload_n 3, 1) := by decide +kernel
theorem dX12_fits_21 : decode cX12_fits 21 = .ok (.ifCond .eq 39, 3) := by decide +kernel
theorem dX12_fits_24 : decode cX12_fits 24 = .ok (.iload_n 2, 1) := by decide +kernel
theorem dX12_fits_25 : decode cX12_fits 25 = .ok (.aload_n 0, 1) := by decide +kernel
theorem dX12_fits_26 : decode cX12_fits 26 = .ok (.getfield 29, 3) := by decide +kernel
theorem dX12_fits_29 : decode cX12_fits 29 = .ok (.iload 4, 2) := by decide +kernel
theorem dX12_fits_31 : decode cX12_fits 31 = .ok (.baload, 1) := by decide +kernel
theorem dX12_fits_32 : decode cX12_fits 32 = .ok (.invokestatic 287, 3) := by decide +kernel
theorem dX12_fits_35 : decode cX12_fits 35 = .ok (.aload_n 0, 1) := by decide +kernel
theorem dX12_fits_36 : decode cX12_fits 36 = .ok (.getfield 29, 3) := by decide +kernel
theorem dX12_fits_39 : decode cX12_fits 39 = .ok (.iload 4, 2) := by decide +kernel
theorem dX12_fits_41 : decode cX12_fits 41 = .ok (.iconst 1, 1) := by decide +kernel
theorem dX12_fits_42 : decode cX12_fits 42 = .ok (.iadd, 1) := by decide +kernel
theorem dX12_fits_43 : decode cX12_fits 43 = .ok (.baload, 1) := by decide +kernel
theorem dX12_fits_44 : decode cX12_fits 44 = .ok (.iconst 1, 1) := by decide +kernel
theorem dX12_fits_45 : decode cX12_fits 45 = .ok (.if_icmp .ne 7, 3) := by decide +kernel
theorem dX12_fits_48 : decode cX12_fits 48 = .ok (.iconst 1, 1) := by decide +kernel
theorem dX12_fits_49 : decode cX12_fits 49 = .ok (.goto 4, 3) := by decide +kernel
theorem dX12_fits_52 : decode cX12_fits 52 = .ok (.iconst 0, 1) := by decide +kernel
theorem dX12_fits_53 : decode cX12_fits 53 = .ok (.if_icmp .ne 7, 3) := by decide +kernel
theorem dX12_fits_56 : decode cX12_fits 56 = .ok (.iconst 1, 1) := by decide +kernel
theorem dX12_fits_57 : decode cX12_fits 57 = .ok (.goto 4, 3) := by decide +kernel
theorem dX12_fits_60 : decode cX12_fits 60 = .ok (.iconst 0, 1) := by decide +kernel
theorem dX12_fits_61 : decode cX12_fits 61 = .ok (.istore_n 3, 1) := by decide +kernel
theorem dX12_fits_62 : decode cX12_fits 62 = .ok (.iinc 4 2, 3) := by decide +kernel
theorem dX12_fits_65 : decode cX12_fits 65 = .ok (.goto (-54), 3) := by decide +kernel
theorem dX12_fits_68 : decode cX12_fits 68 = .ok (.iload_n 3, 1) := by decide +kernel
theorem dX12_fits_69 : decode cX12_fits 69 = .ok (.ireturn, 1) := by decide +kernel
theorem dX12_howManyFit_0 : decode cX12_howManyFit 0 = .ok (.iconst 0, 1) := by decide +kernel
theorem dX12_howManyFit_1 : decode cX12_howManyFit 1 = .ok (.istore_n 3, 1) := by decide +kernel
theorem dX12_howManyFit_2 : decode cX12_howManyFit 2 = .ok (.iconst 0, 1) := by decide +kernel
theorem dX12_howManyFit_3 : decode cX12_howManyFit 3 = .ok (.istore 4, 2) := by decide +kernel
theorem dX12_howManyFit_5 : decode cX12_howManyFit 5 = .ok (.iload 4, 2) := by decide +kernel
theorem dX12_howManyFit_7 : decode cX12_howManyFit 7 = .ok (.iload_n 1, 1) := by decide +kernel
theorem dX12_howManyFit_8 : decode cX12_howManyFit 8 = .ok (.if_icmp .gt 49, 3) := by decide +kernel
theorem dX12_howManyFit_11 : decode cX12_howManyFit 11 = .ok (.iload_n 3, 1) := by decide +kernel
theorem dX12_howManyFit_12 : decode cX12_howManyFit 12 = .ok (.iload 4, 2) := by decide +kernel
theorem dX12_howManyFit_14 : decode cX12_howManyFit 14 = .ok (.iload_n 1, 1) := by decide +kernel
theorem dX12_howManyFit_15 : decode cX12_howManyFit 15 = .ok (.iconst (-1), 1) := by decide +kernel
theorem dX12_howManyFit_16 : decode cX12_howManyFit 16 = .ok (.ixor, 1) := by decide +kernel
theorem dX12_howManyFit_17 : decode cX12_howManyFit 17 = .ok (.iand, 1) := by decide +kernel
theorem dX12_howManyFit_18 : decode cX12_howManyFit 18 = .ok (.ifCond .ne 30, 3) := by decide +kernel
theorem dX12_howManyFit_21 : decode cX12_howManyFit 21 = .ok (.iload_n 2, 1) := by decide +kernel
theorem dX12_howManyFit_22 : decode cX12_howManyFit 22 = .ok (.iconst (-1), 1) := by decide +kernel
theorem dX12_howManyFit_23 : decode cX12_howManyFit 23 = .ok (.if_icmp .eq 12, 3) := by decide +kernel
theorem dX12_howManyFit_26 : decode cX12_howManyFit 26 = .ok (.iload 4, 2) := by decide +kernel
theorem dX12_howManyFit_28 : decode cX12_howManyFit 28 = .ok (.iload_n 2, 1) := by decide +kernel
theorem dX12_howManyFit_29 : decode cX12_howManyFit 29 = .ok (.invokestatic 287, 3) := by decide +kernel
theorem dX12_howManyFit_32 : decode cX12_howManyFit 32 = .ok (.ifCond .eq 16, 3) := by decide +kernel
theorem dX12_howManyFit_35 : decode cX12_howManyFit 35 = .ok (.aload_n 0, 1) := by decide +kernel
theorem dX12_howManyFit_36 : decode cX12_howManyFit 36 = .ok (.iload 4, 2) := by decide +kernel
theorem dX12_howManyFit_38 : decode cX12_howManyFit 38 = .ok (.invokevirtual 360, 3) := by decide +kernel
theorem dX12_howManyFit_41 : decode cX12_howManyFit 41 = .ok (.ifCond .eq 7, 3) := by decide +kernel
theorem dX12_howManyFit_44 : decode cX12_howManyFit 44 = .ok (.iconst 1, 1) := by decide +kernel
theorem dX12_howManyFit_45 : decode cX12_howManyFit 45 = .ok (.goto 4, 3) := by decide +kernel
theorem dX12_howManyFit_48 : decode cX12_howManyFit 48 = .ok (.iconst 0, 1) := by decide +kernel
theorem dX12_howManyFit_49 : decode cX12_howManyFit 49 = .ok (.iadd, 1) := by decide +kernel
theorem dX12_howManyFit_50 : decode cX12_howManyFit 50 = .ok (.istore_n 3, 1) := by decide +kernel
theorem dX12_howManyFit_51 : decode cX12_howManyFit 51 = .ok (.iinc 4 1, 3) := by decide +kernel
theorem dX12_howManyFit_54 : decode cX12_howManyFit 54 = .ok (.goto (-49), 3) := by decide +kernel
theorem dX12_howManyFit_57 : decode cX12_howManyFit 57 = .ok (.iload_n 3, 1) := by decide +kernel
theorem dX12_howManyFit_58 : decode cX12_howManyFit 58 = .ok (.ireturn, 1) := by decide +kernel
theorem dX12_smokes_0 : decode cX12_smokes 0 = .ok (.aload_n 0, 1) := by decide +kernel
theorem dX12_smokes_1 : decode cX12_smokes 1 = .ok (.invokevirtual 235, 3) := by decide +kernel
theorem dX12_smokes_4 : decode cX12_smokes 4 = .ok (.aload_n 0, 1) := by decide +kernel
theorem dX12_smokes_5 : decode cX12_smokes 5 = .ok (.aload_n 0, 1) := by decide +kernel
theorem dX12_smokes_6 : decode cX12_smokes 6 = .ok (.iload_n 1, 1) := by decide +kernel
theorem dX12_smokes_7 : decode cX12_smokes 7 = .ok (.invokevirtual 299, 3) := by decide +kernel
theorem dX12_smokes_10 : decode cX12_smokes 10 = .ok (.iconst 1, 1) := by decide +kernel
theorem dX12_smokes_11 : decode cX12_smokes 11 = .ok (.invokevirtual 246, 3) := by decide +kernel
theorem dX12_smokes_14 : decode cX12_smokes 14 = .ok (.ifCond .ne 23, 3) := by decide +kernel
theorem dX12_smokes_17 : decode cX12_smokes 17 = .ok (.aload_n 0, 1) := by decide +kernel
theorem dX12_smokes_18 : decode cX12_smokes 18 = .ok (.aload_n 0, 1) := by decide +kernel
theorem dX12_smokes_19 : decode cX12_smokes 19 = .ok (.invokevirtual 363, 3) := by decide +kernel
theorem dX12_smokes_22 : decode cX12_smokes 22 = .ok (.ifCond .ne 7, 3) := by decide +kernel
theorem dX12_smokes_25 : decode cX12_smokes 25 = .ok (.iconst 1, 1) := by decide +kernel
theorem dX12_smokes_26 : decode cX12_smokes 26 = .ok (.goto 4, 3) := by decide +kernel
theorem dX12_smokes_29 : decode cX12_smokes 29 = .ok (.iconst 0, 1) := by decide +kernel
theorem dX12_smokes_30 : decode cX12_smokes 30 = .ok (.iconst 2, 1) := by decide +kernel
theorem dX12_smokes_31 : decode cX12_smokes 31 = .ok (.invokevirtual 246, 3) := by decide +kernel
theorem dX12_smokes_34 : decode cX12_smokes 34 = .ok (.ifCond .eq 5, 3) := by decide +kernel
theorem dX12_smokes_37 : decode cX12_smokes 37 = .ok (.iconst 0, 1) := by decide +kernel
theorem dX12_smokes_38 : decode cX12_smokes 38 = .ok (.ireturn, 1) := by decide +kernel
theorem dX12_smokes_39 : decode cX12_smokes 39 = .ok (.aload_n 0, 1) := by decide +kernel
theorem dX12_smokes_40 : decode cX12_smokes 40 = .ok (.iload_n 1, 1) := by decide +kernel
theorem dX12_smokes_41 : decode cX12_smokes 41 = .ok (.invokevirtual 138, 3) := by decide +kernel
theorem dX12_smokes_44 : decode cX12_smokes 44 = .ok (.istore_n 3, 1) := by decide +kernel
theorem dX12_smokes_45 : decode cX12_smokes 45 = .ok (.iload_n 2, 1) := by decide +kernel
theorem dX12_smokes_46 : decode cX12_smokes 46 = .ok (.ifCond .ne 10, 3) := by decide +kernel
theorem dX12_smokes_49 : decode cX12_smokes 49 = .ok (.aload_n 0, 1) := by decide +kernel
theorem dX12_smokes_50 : decode cX12_smokes 50 = .ok (.iload_n 3, 1) := by decide +kernel
theorem dX12_smokes_51 : decode cX12_smokes 51 = .ok (.iconst (-1), 1) := by decide +kernel
theorem dX12_smokes_52 : decode cX12_smokes 52 = .ok (.invokevirtual 366, 3) := by decide +kernel
theorem dX12_smokes_55 : decode cX12_smokes 55 = .ok (.ireturn, 1) := by decide +kernel
theorem dX12_smokes_56 : decode cX12_smokes 56 = .ok (.ldc_w 369, 3) := by decide +kernel
theorem dX12_smokes_59 : decode cX12_smokes 59 = .ok (.istore 4, 2) := by decide +kernel
theorem dX12_smokes_61 : decode cX12_smokes 61 = .ok (.iconst 0, 1) := by decide +kernel
theorem dX12_smokes_62 : decode cX12_smokes 62 = .ok (.istore 5, 2) := by decide +kernel
theorem dX12_smokes_64 : decode cX12_smokes 64 = .ok (.iload 5, 2) := by decide +kernel
theorem dX12_smokes_66 : decode cX12_smokes 66 = .ok (.iload_n 3, 1) := by decide +kernel
theorem dX12_smokes_67 : decode cX12_smokes 67 = .ok (.if_icmp .gt 44, 3) := by decide +kernel
theorem dX12_smokes_70 : decode cX12_smokes 70 = .ok (.iload 5, 2) := by decide +kernel
theorem dX12_smokes_72 : decode cX12_smokes 72 = .ok (.iload_n 3, 1) := by decide +kernel
theorem dX12_smokes_73 : decode cX12_smokes 73 = .ok (.iconst (-1), 1) := by decide +kernel
theorem dX12_smokes_74 : decode cX12_smokes 74 = .ok (.ixor, 1) := by decide +kernel
theorem dX12_smokes_75 : decode cX12_smokes 75 = .ok (.iand, 1) := by decide +kernel
theorem dX12_smokes_76 : decode cX12_smokes 76 = .ok (.ifCond .ne 25, 3) := by decide +kernel
theorem dX12_smokes_79 : decode cX12_smokes 79 = .ok (.aload_n 0, 1) := by decide +kernel
theorem dX12_smokes_80 : decode cX12_smokes 80 = .ok (.iload 5, 2) := by decide +kernel
theorem dX12_smokes_82 : decode cX12_smokes 82 = .ok (.invokevirtual 360, 3) := by decide +kernel
theorem dX12_smokes_85 : decode cX12_smokes 85 = .ok (.ifCond .eq 16, 3) := by decide +kernel
theorem dX12_smokes_88 : decode cX12_smokes 88 = .ok (.iload 4, 2) := by decide +kernel
theorem dX12_smokes_90 : decode cX12_smokes 90 = .ok (.iload 5, 2) := by decide +kernel
theorem dX12_smokes_92 : decode cX12_smokes 92 = .ok (.invokestatic 142, 3) := by decide +kernel
theorem dX12_smokes_95 : decode cX12_smokes 95 = .ok (.invokestatic 270, 3) := by decide +kernel
theorem dX12_smokes_98 : decode cX12_smokes 98 = .ok (.goto 5, 3) := by decide +kernel
theorem dX12_smokes_101 : decode cX12_smokes 101 = .ok (.iload 4, 2) := by decide +kernel
theorem dX12_smokes_103 : decode cX12_smokes 103 = .ok (.istore 4, 2) := by decide +kernel
theorem dX12_smokes_105 : decode cX12_smokes 105 = .ok (.iinc 5 1, 3) := by decide +kernel
theorem dX12_smokes_108 : decode cX12_smokes 108 = .ok (.goto (-44), 3) := by decide +kernel
theorem dX12_smokes_111 : decode cX12_smokes 111 = .ok (.iload 4, 2) := by decide +kernel
theorem dX12_smokes_113 : decode cX12_smokes 113 = .ok (.ldc_w 369, 3) := by decide +kernel
theorem dX12_smokes_116 : decode cX12_smokes 116 = .ok (.if_icmp .ne 7, 3) := by decide +kernel
theorem dX12_smokes_119 : decode cX12_smokes 119 = .ok (.iconst (-1), 1) := by decide +kernel
theorem dX12_smokes_120 : decode cX12_smokes 120 = .ok (.goto 5, 3) := by decide +kernel
theorem dX12_smokes_123 : decode cX12_smokes 123 = .ok (.iload 4, 2) := by decide +kernel
theorem dX12_smokes_125 : decode cX12_smokes 125 = .ok (.ireturn, 1) := by decide +kernel
theorem dX12_look_0 : decode cX12_look 0 = .ok (.aload_n 0, 1) := by decide +kernel
theorem dX12_look_1 : decode cX12_look 1 = .ok (.invokevirtual 235, 3) := by decide +kernel
theorem dX12_look_4 : decode cX12_look 4 = .ok (.aload_n 0, 1) := by decide +kernel
theorem dX12_look_5 : decode cX12_look 5 = .ok (.aload_n 0, 1) := by decide +kernel
theorem dX12_look_6 : decode cX12_look 6 = .ok (.iload_n 1, 1) := by decide +kernel
theorem dX12_look_7 : decode cX12_look 7 = .ok (.invokevirtual 299, 3) := by decide +kernel
theorem dX12_look_10 : decode cX12_look 10 = .ok (.iconst 1, 1) := by decide +kernel
theorem dX12_look_11 : decode cX12_look 11 = .ok (.invokevirtual 246, 3) := by decide +kernel
theorem dX12_look_14 : decode cX12_look 14 = .ok (.ifCond .ne 23, 3) := by decide +kernel
theorem dX12_look_17 : decode cX12_look 17 = .ok (.aload_n 0, 1) := by decide +kernel
theorem dX12_look_18 : decode cX12_look 18 = .ok (.aload_n 0, 1) := by decide +kernel
theorem dX12_look_19 : decode cX12_look 19 = .ok (.invokevirtual 363, 3) := by decide +kernel
theorem dX12_look_22 : decode cX12_look 22 = .ok (.ifCond .ne 7, 3) := by decide +kernel
theorem dX12_look_25 : decode cX12_look 25 = .ok (.iconst 1, 1) := by decide +kernel
theorem dX12_look_26 : decode cX12_look 26 = .ok (.goto 4, 3) := by decide +kernel
theorem dX12_look_29 : decode cX12_look 29 = .ok (.iconst 0, 1) := by decide +kernel
theorem dX12_look_30 : decode cX12_look 30 = .ok (.iconst 2, 1) := by decide +kernel
theorem dX12_look_31 : decode cX12_look 31 = .ok (.invokevirtual 246, 3) := by decide +kernel
theorem dX12_look_34 : decode cX12_look 34 = .ok (.ifCond .eq 5, 3) := by decide +kernel
theorem dX12_look_37 : decode cX12_look 37 = .ok (.iconst 0, 1) := by decide +kernel
theorem dX12_look_38 : decode cX12_look 38 = .ok (.ireturn, 1) := by decide +kernel
theorem dX12_look_39 : decode cX12_look 39 = .ok (.aload_n 0, 1) := by decide +kernel
theorem dX12_look_40 : decode cX12_look 40 = .ok (.iload_n 1, 1) := by decide +kernel
theorem dX12_look_41 : decode cX12_look 41 = .ok (.invokevirtual 138, 3) := by decide +kernel
theorem dX12_look_44 : decode cX12_look 44 = .ok (.istore_n 2, 1) := by decide +kernel
theorem dX12_look_45 : decode cX12_look 45 = .ok (.aload_n 0, 1) := by decide +kernel
theorem dX12_look_46 : decode cX12_look 46 = .ok (.iload_n 2, 1) := by decide +kernel
theorem dX12_look_47 : decode cX12_look 47 = .ok (.iconst (-1), 1) := by decide +kernel
theorem dX12_look_48 : decode cX12_look 48 = .ok (.invokevirtual 366, 3) := by decide +kernel
theorem dX12_look_51 : decode cX12_look 51 = .ok (.istore_n 3, 1) := by decide +kernel
theorem dX12_look_52 : decode cX12_look 52 = .ok (.iconst (-1), 1) := by decide +kernel
theorem dX12_look_53 : decode cX12_look 53 = .ok (.istore 4, 2) := by decide +kernel
theorem dX12_look_55 : decode cX12_look 55 = .ok (.iload_n 3, 1) := by decide +kernel
theorem dX12_look_56 : decode cX12_look 56 = .ok (.istore 5, 2) := by decide +kernel
theorem dX12_look_58 : decode cX12_look 58 = .ok (.iconst 0, 1) := by decide +kernel
theorem dX12_look_59 : decode cX12_look 59 = .ok (.istore 6, 2) := by decide +kernel
theorem dX12_look_61 : decode cX12_look 61 = .ok (.iload 6, 2) := by decide +kernel
theorem dX12_look_63 : decode cX12_look 63 = .ok (.aload_n 0, 1) := by decide +kernel
theorem dX12_look_64 : decode cX12_look 64 = .ok (.invokevirtual 67, 3) := by decide +kernel
theorem dX12_look_67 : decode cX12_look 67 = .ok (.if_icmp .ge 66, 3) := by decide +kernel
theorem dX12_look_70 : decode cX12_look 70 = .ok (.iload_n 2, 1) := by decide +kernel
theorem dX12_look_71 : decode cX12_look 71 = .ok (.iload 6, 2) := by decide +kernel
theorem dX12_look_73 : decode cX12_look 73 = .ok (.invokestatic 287, 3) := by decide +kernel
theorem dX12_look_76 : decode cX12_look 76 = .ok (.ifCond .ne 6, 3) := by decide +kernel
theorem dX12_look_79 : decode cX12_look 79 = .ok (.goto 48, 3) := by decide +kernel
theorem dX12_look_82 : decode cX12_look 82 = .ok (.aload_n 0, 1) := by decide +kernel
theorem dX12_look_83 : decode cX12_look 83 = .ok (.iload_n 2, 1) := by decide +kernel
theorem dX12_look_84 : decode cX12_look 84 = .ok (.iload 6, 2) := by decide +kernel
theorem dX12_look_86 : decode cX12_look 86 = .ok (.invokevirtual 366, 3) := by decide +kernel
theorem dX12_look_89 : decode cX12_look 89 = .ok (.istore 7, 2) := by decide +kernel
theorem dX12_look_91 : decode cX12_look 91 = .ok (.iload 7, 2) := by decide +kernel
theorem dX12_look_93 : decode cX12_look 93 = .ok (.iload_n 3, 1) := by decide +kernel
theorem dX12_look_94 : decode cX12_look 94 = .ok (.iload 7, 2) := by decide +kernel
theorem dX12_look_96 : decode cX12_look 96 = .ok (.isub, 1) := by decide +kernel
theorem dX12_look_97 : decode cX12_look 97 = .ok (.invokestatic 370, 3) := by decide +kernel
theorem dX12_look_100 : decode cX12_look 100 = .ok (.istore 8, 2) := by decide +kernel
theorem dX12_look_102 : decode cX12_look 102 = .ok (.iload 8, 2) := by decide +kernel
theorem dX12_look_104 : decode cX12_look 104 = .ok (.iload 5, 2) := by decide +kernel
theorem dX12_look_106 : decode cX12_look 106 = .ok (.if_icmp .ge 8, 3) := by decide +kernel
theorem dX12_look_109 : decode cX12_look 109 = .ok (.iload 6, 2) := by decide +kernel
theorem dX12_look_111 : decode cX12_look 111 = .ok (.goto 5, 3) := by decide +kernel
theorem dX12_look_114 : decode cX12_look 114 = .ok (.iload 4, 2) := by decide +kernel
theorem dX12_look_116 : decode cX12_look 116 = .ok (.istore 4, 2) := by decide +kernel
theorem dX12_look_118 : decode cX12_look 118 = .ok (.iload 5, 2) := by decide +kernel
theorem dX12_look_120 : decode cX12_look 120 = .ok (.iload 8, 2) := by decide +kernel
theorem dX12_look_122 : decode cX12_look 122 = .ok (.invokestatic 270, 3) := by decide +kernel
theorem dX12_look_125 : decode cX12_look 125 = .ok (.istore 5, 2) := by decide +kernel
theorem dX12_look_127 : decode cX12_look 127 = .ok (.iinc 6 1, 3) := by decide +kernel
theorem dX12_look_130 : decode cX12_look 130 = .ok (.goto (-69), 3) := by decide +kernel
theorem dX12_look_133 : decode cX12_look 133 = .ok (.iload 4, 2) := by decide +kernel
theorem dX12_look_135 : decode cX12_look 135 = .ok (.ireturn, 1) := by decide +kernel
theorem dX12_walls_0 : decode cX12_walls 0 = .ok (.iconst 0, 1) := by decide +kernel
theorem dX12_walls_1 : decode cX12_walls 1 = .ok (.istore_n 3, 1) := by decide +kernel
theorem dX12_walls_2 : decode cX12_walls 2 = .ok (.iload_n 3, 1) := by decide +kernel
theorem dX12_walls_3 : decode cX12_walls 3 = .ok (.aload_n 0, 1) := by decide +kernel
theorem dX12_walls_4 : decode cX12_walls 4 = .ok (.invokevirtual 67, 3) := by decide +kernel
theorem dX12_walls_7 : decode cX12_walls 7 = .ok (.if_icmp .ge 28, 3) := by decide +kernel
theorem dX12_walls_10 : decode cX12_walls 10 = .ok (.iload_n 1, 1) := by decide +kernel
theorem dX12_walls_11 : decode cX12_walls 11 = .ok (.iload_n 3, 1) := by decide +kernel
theorem dX12_walls_12 : decode cX12_walls 12 = .ok (.invokestatic 287, 3) := by decide +kernel
theorem dX12_walls_15 : decode cX12_walls 15 = .ok (.ifCond .eq 14, 3) := by decide +kernel
theorem dX12_walls_18 : decode cX12_walls 18 = .ok (.aload_n 0, 1) := by decide +kernel
theorem dX12_walls_19 : decode cX12_walls 19 = .ok (.getfield 13, 3) := by decide +kernel
theorem dX12_walls_22 : decode cX12_walls 22 = .ok (.iload_n 3, 1) := by decide +kernel
theorem dX12_walls_23 : decode cX12_walls 23 = .ok (.iconst 5, 1) := by decide +kernel
theorem dX12_walls_24 : decode cX12_walls 24 = .ok (.invokestatic 53, 3) := by decide +kernel
theorem dX12_walls_27 : decode cX12_walls 27 = .ok (.iload_n 2, 1) := by decide +kernel
theorem dX12_walls_28 : decode cX12_walls 28 = .ok (.iastore, 1) := by decide +kernel
theorem dX12_walls_29 : decode cX12_walls 29 = .ok (.iinc 3 1, 3) := by decide +kernel
theorem dX12_walls_32 : decode cX12_walls 32 = .ok (.goto (-30), 3) := by decide +kernel
theorem dX12_walls_35 : decode cX12_walls 35 = .ok (.return_, 1) := by decide +kernel
theorem dX12_costOf_0 : decode cX12_costOf 0 = .ok (.iconst 0, 1) := by decide +kernel
theorem dX12_costOf_1 : decode cX12_costOf 1 = .ok (.istore_n 2, 1) := by decide +kernel
theorem dX12_costOf_2 : decode cX12_costOf 2 = .ok (.iconst 0, 1) := by decide +kernel
theorem dX12_costOf_3 : decode cX12_costOf 3 = .ok (.istore_n 3, 1) := by decide +kernel
theorem dX12_costOf_4 : decode cX12_costOf 4 = .ok (.iload_n 3, 1) := by decide +kernel
theorem dX12_costOf_5 : decode cX12_costOf 5 = .ok (.aload_n 0, 1) := by decide +kernel
theorem dX12_costOf_6 : decode cX12_costOf 6 = .ok (.invokevirtual 67, 3) := by decide +kernel
theorem dX12_costOf_9 : decode cX12_costOf 9 = .ok (.if_icmp .ge 30, 3) := by decide +kernel
theorem dX12_costOf_12 : decode cX12_costOf 12 = .ok (.iload_n 2, 1) := by decide +kernel
theorem dX12_costOf_13 : decode cX12_costOf 13 = .ok (.iload_n 1, 1) := by decide +kernel
theorem dX12_costOf_14 : decode cX12_costOf 14 = .ok (.iload_n 3, 1) := by decide +kernel
theorem dX12_costOf_15 : decode cX12_costOf 15 = .ok (.invokestatic 287, 3) := by decide +kernel
theorem dX12_costOf_18 : decode cX12_costOf 18 = .ok (.ifCond .eq 12, 3) := by decide +kernel
theorem dX12_costOf_21 : decode cX12_costOf 21 = .ok (.aload_n 0, 1) := by decide +kernel
theorem dX12_costOf_22 : decode cX12_costOf 22 = .ok (.iload_n 3, 1) := by decide +kernel
theorem dX12_costOf_23 : decode cX12_costOf 23 = .ok (.iconst 4, 1) := by decide +kernel
theorem dX12_costOf_24 : decode cX12_costOf 24 = .ok (.invokevirtual 56, 3) := by decide +kernel
theorem dX12_costOf_27 : decode cX12_costOf 27 = .ok (.goto 4, 3) := by decide +kernel
theorem dX12_costOf_30 : decode cX12_costOf 30 = .ok (.iconst 0, 1) := by decide +kernel
theorem dX12_costOf_31 : decode cX12_costOf 31 = .ok (.iadd, 1) := by decide +kernel
theorem dX12_costOf_32 : decode cX12_costOf 32 = .ok (.istore_n 2, 1) := by decide +kernel
theorem dX12_costOf_33 : decode cX12_costOf 33 = .ok (.iinc 3 1, 3) := by decide +kernel
theorem dX12_costOf_36 : decode cX12_costOf 36 = .ok (.goto (-32), 3) := by decide +kernel
theorem dX12_costOf_39 : decode cX12_costOf 39 = .ok (.iload_n 2, 1) := by decide +kernel
theorem dX12_costOf_40 : decode cX12_costOf 40 = .ok (.ireturn, 1) := by decide +kernel
theorem dX12_openOf_0 : decode cX12_openOf 0 = .ok (.aload_n 0, 1) := by decide +kernel
theorem dX12_openOf_1 : decode cX12_openOf 1 = .ok (.iload_n 1, 1) := by decide +kernel
theorem dX12_openOf_2 : decode cX12_openOf 2 = .ok (.invokevirtual 138, 3) := by decide +kernel
theorem dX12_openOf_5 : decode cX12_openOf 5 = .ok (.aload_n 0, 1) := by decide +kernel
theorem dX12_openOf_6 : decode cX12_openOf 6 = .ok (.iconst 0, 1) := by decide +kernel
theorem dX12_openOf_7 : decode cX12_openOf 7 = .ok (.invokevirtual 249, 3) := by decide +kernel
theorem dX12_openOf_10 : decode cX12_openOf 10 = .ok (.iand, 1) := by decide +kernel
theorem dX12_openOf_11 : decode cX12_openOf 11 = .ok (.ireturn, 1) := by decide +kernel
theorem dX12_standsBy_0 : decode cX12_standsBy 0 = .ok (.aload_n 0, 1) := by decide +kernel
theorem dX12_standsBy_1 : decode cX12_standsBy 1 = .ok (.iload_n 2, 1) := by decide +kernel
theorem dX12_standsBy_2 : decode cX12_standsBy 2 = .ok (.iconst 1, 1) := by decide +kernel
theorem dX12_standsBy_3 : decode cX12_standsBy 3 = .ok (.invokevirtual 373, 3) := by decide +kernel
theorem dX12_standsBy_6 : decode cX12_standsBy 6 = .ok (.iconst 2, 1) := by decide +kernel
theorem dX12_standsBy_7 : decode cX12_standsBy 7 = .ok (.aload_n 0, 1) := by decide +kernel
theorem dX12_standsBy_8 : decode cX12_standsBy 8 = .ok (.iload_n 1, 1) := by decide +kernel
theorem dX12_standsBy_9 : decode cX12_standsBy 9 = .ok (.invokevirtual 305, 3) := by decide +kernel
theorem dX12_standsBy_12 : decode cX12_standsBy 12 = .ok (.imul, 1) := by decide +kernel
theorem dX12_standsBy_13 : decode cX12_standsBy 13 = .ok (.aload_n 0, 1) := by decide +kernel
theorem dX12_standsBy_14 : decode cX12_standsBy 14 = .ok (.iload_n 1, 1) := by decide +kernel
theorem dX12_standsBy_15 : decode cX12_standsBy 15 = .ok (.invokevirtual 293, 3) := by decide +kernel
theorem dX12_standsBy_18 : decode cX12_standsBy 18 = .ok (.isub, 1) := by decide +kernel
theorem dX12_standsBy_19 : decode cX12_standsBy 19 = .ok (.aload_n 0, 1) := by decide +kernel
theorem dX12_standsBy_20 : decode cX12_standsBy 20 = .ok (.iload_n 2, 1) := by decide +kernel
theorem dX12_standsBy_21 : decode cX12_standsBy 21 = .ok (.invokevirtual 376, 3) := by decide +kernel
theorem dX12_standsBy_24 : decode cX12_standsBy 24 = .ok (.isub, 1) := by decide +kernel
theorem dX12_standsBy_25 : decode cX12_standsBy 25 = .ok (.istore_n 3, 1) := by decide +kernel
theorem dX12_standsBy_26 : decode cX12_standsBy 26 = .ok (.aload_n 0, 1) := by decide +kernel
theorem dX12_standsBy_27 : decode cX12_standsBy 27 = .ok (.iload_n 2, 1) := by decide +kernel
theorem dX12_standsBy_28 : decode cX12_standsBy 28 = .ok (.iconst 0, 1) := by decide +kernel
theorem dX12_standsBy_29 : decode cX12_standsBy 29 = .ok (.invokevirtual 373, 3) := by decide +kernel
theorem dX12_standsBy_32 : decode cX12_standsBy 32 = .ok (.iload_n 3, 1) := by decide +kernel
theorem dX12_standsBy_33 : decode cX12_standsBy 33 = .ok (.ireturn, 1) := by decide +kernel
theorem dX12_planOf_0 : decode cX12_planOf 0 = .ok (.aload_n 0, 1) := by decide +kernel
theorem dX12_planOf_1 : decode cX12_planOf 1 = .ok (.iload_n 1, 1) := by decide +kernel
theorem dX12_planOf_2 : decode cX12_planOf 2 = .ok (.invokevirtual 379, 3) := by decide +kernel
theorem dX12_planOf_5 : decode cX12_planOf 5 = .ok (.istore_n 2, 1) := by decide +kernel
theorem dX12_planOf_6 : decode cX12_planOf 6 = .ok (.iconst 0, 1) := by decide +kernel
theorem dX12_planOf_7 : decode cX12_planOf 7 = .ok (.istore_n 3, 1) := by decide +kernel
theorem dX12_planOf_8 : decode cX12_planOf 8 = .ok (.aload_n 0, 1) := by decide +kernel
theorem dX12_planOf_9 : decode cX12_planOf 9 = .ok (.iload_n 1, 1) := by decide +kernel
theorem dX12_planOf_10 : decode cX12_planOf 10 = .ok (.iconst 0, 1) := by decide +kernel
theorem dX12_planOf_11 : decode cX12_planOf 11 = .ok (.invokevirtual 382, 3) := by decide +kernel
theorem dX12_planOf_14 : decode cX12_planOf 14 = .ok (.istore 4, 2) := by decide +kernel
theorem dX12_planOf_16 : decode cX12_planOf 16 = .ok (.iconst 1, 1) := by decide +kernel
theorem dX12_planOf_17 : decode cX12_planOf 17 = .ok (.istore 5, 2) := by decide +kernel
theorem dX12_planOf_19 : decode cX12_planOf 19 = .ok (.iload 5, 2) := by decide +kernel
theorem dX12_planOf_21 : decode cX12_planOf 21 = .ok (.iload_n 2, 1) := by decide +kernel
theorem dX12_planOf_22 : decode cX12_planOf 22 = .ok (.if_icmp .gt 53, 3) := by decide +kernel
theorem dX12_planOf_25 : decode cX12_planOf 25 = .ok (.iload 5, 2) := by decide +kernel
theorem dX12_planOf_27 : decode cX12_planOf 27 = .ok (.iload_n 2, 1) := by decide +kernel
theorem dX12_planOf_28 : decode cX12_planOf 28 = .ok (.iconst (-1), 1) := by decide +kernel
theorem dX12_planOf_29 : decode cX12_planOf 29 = .ok (.ixor, 1) := by decide +kernel
theorem dX12_planOf_30 : decode cX12_planOf 30 = .ok (.iand, 1) := by decide +kernel
theorem dX12_planOf_31 : decode cX12_planOf 31 = .ok (.ifCond .eq 6, 3) := by decide +kernel
theorem dX12_planOf_34 : decode cX12_planOf 34 = .ok (.goto 35, 3) := by decide +kernel
theorem dX12_planOf_37 : decode cX12_planOf 37 = .ok (.aload_n 0, 1) := by decide +kernel
theorem dX12_planOf_38 : decode cX12_planOf 38 = .ok (.iload_n 1, 1) := by decide +kernel
theorem dX12_planOf_39 : decode cX12_planOf 39 = .ok (.iload 5, 2) := by decide +kernel
theorem dX12_planOf_41 : decode cX12_planOf 41 = .ok (.invokevirtual 382, 3) := by decide +kernel
theorem dX12_planOf_44 : decode cX12_planOf 44 = .ok (.istore 6, 2) := by decide +kernel
theorem dX12_planOf_46 : decode cX12_planOf 46 = .ok (.iload 6, 2) := by decide +kernel
theorem dX12_planOf_48 : decode cX12_planOf 48 = .ok (.iload 4, 2) := by decide +kernel
theorem dX12_planOf_50 : decode cX12_planOf 50 = .ok (.if_icmp .le 8, 3) := by decide +kernel
theorem dX12_planOf_53 : decode cX12_planOf 53 = .ok (.iload 5, 2) := by decide +kernel
theorem dX12_planOf_55 : decode cX12_planOf 55 = .ok (.goto 4, 3) := by decide +kernel
theorem dX12_planOf_58 : decode cX12_planOf 58 = .ok (.iload_n 3, 1) := by decide +kernel
theorem dX12_planOf_59 : decode cX12_planOf 59 = .ok (.istore_n 3, 1) := by decide +kernel
theorem dX12_planOf_60 : decode cX12_planOf 60 = .ok (.iload 4, 2) := by decide +kernel
theorem dX12_planOf_62 : decode cX12_planOf 62 = .ok (.iload 6, 2) := by decide +kernel
theorem dX12_planOf_64 : decode cX12_planOf 64 = .ok (.invokestatic 370, 3) := by decide +kernel
theorem dX12_planOf_67 : decode cX12_planOf 67 = .ok (.istore 4, 2) := by decide +kernel
theorem dX12_planOf_69 : decode cX12_planOf 69 = .ok (.iinc 5 1, 3) := by decide +kernel
theorem dX12_planOf_72 : decode cX12_planOf 72 = .ok (.goto (-53), 3) := by decide +kernel
theorem dX12_planOf_75 : decode cX12_planOf 75 = .ok (.iload_n 3, 1) := by decide +kernel
theorem dX12_planOf_76 : decode cX12_planOf 76 = .ok (.ireturn, 1) := by decide +kernel
theorem dX12_plan_0 : decode cX12_plan 0 = .ok (.aload_n 0, 1) := by decide +kernel
theorem dX12_plan_1 : decode cX12_plan 1 = .ok (.iconst 0, 1) := by decide +kernel
theorem dX12_plan_2 : decode cX12_plan 2 = .ok (.putfield 3, 3) := by decide +kernel
theorem dX12_plan_5 : decode cX12_plan 5 = .ok (.aload_n 0, 1) := by decide +kernel
theorem dX12_plan_6 : decode cX12_plan 6 = .ok (.aload_n 0, 1) := by decide +kernel
theorem dX12_plan_7 : decode cX12_plan 7 = .ok (.iload_n 1, 1) := by decide +kernel
theorem dX12_plan_8 : decode cX12_plan 8 = .ok (.invokevirtual 299, 3) := by decide +kernel
theorem dX12_plan_11 : decode cX12_plan 11 = .ok (.iconst 1, 1) := by decide +kernel
theorem dX12_plan_12 : decode cX12_plan 12 = .ok (.invokevirtual 246, 3) := by decide +kernel
theorem dX12_plan_15 : decode cX12_plan 15 = .ok (.ifCond .eq 5, 3) := by decide +kernel
theorem dX12_plan_18 : decode cX12_plan 18 = .ok (.iconst 0, 1) := by decide +kernel
theorem dX12_plan_19 : decode cX12_plan 19 = .ok (.ireturn, 1) := by decide +kernel
theorem dX12_plan_20 : decode cX12_plan 20 = .ok (.aload_n 0, 1) := by decide +kernel
theorem dX12_plan_21 : decode cX12_plan 21 = .ok (.iload_n 1, 1) := by decide +kernel
theorem dX12_plan_22 : decode cX12_plan 22 = .ok (.invokevirtual 385, 3) := by decide +kernel
theorem dX12_plan_25 : decode cX12_plan 25 = .ok (.istore_n 3, 1) := by decide +kernel
theorem dX12_plan_26 : decode cX12_plan 26 = .ok (.iload_n 2, 1) := by decide +kernel
theorem dX12_plan_27 : decode cX12_plan 27 = .ok (.ifCond .eq 12, 3) := by decide +kernel
theorem dX12_plan_30 : decode cX12_plan 30 = .ok (.aload_n 0, 1) := by decide +kernel
theorem dX12_plan_31 : decode cX12_plan 31 = .ok (.iload_n 1, 1) := by decide +kernel
theorem dX12_plan_32 : decode cX12_plan 32 = .ok (.iload_n 3, 1) := by decide +kernel
theorem dX12_plan_33 : decode cX12_plan 33 = .ok (.invokevirtual 382, 3) := by decide +kernel
theorem dX12_plan_36 : decode cX12_plan 36 = .ok (.goto 4, 3) := by decide +kernel
theorem dX12_plan_39 : decode cX12_plan 39 = .ok (.iload_n 3, 1) := by decide +kernel
theorem dX12_plan_40 : decode cX12_plan 40 = .ok (.ireturn, 1) := by decide +kernel
theorem dX12_paysWith_0 : decode cX12_paysWith 0 = .ok (.aload_n 0, 1) := by decide +kernel
theorem dX12_paysWith_1 : decode cX12_paysWith 1 = .ok (.iload_n 2, 1) := by decide +kernel
theorem dX12_paysWith_2 : decode cX12_paysWith 2 = .ok (.iconst 1, 1) := by decide +kernel
theorem dX12_paysWith_3 : decode cX12_paysWith 3 = .ok (.invokevirtual 373, 3) := by decide +kernel
theorem dX12_paysWith_6 : decode cX12_paysWith 6 = .ok (.aload_n 0, 1) := by decide +kernel
theorem dX12_paysWith_7 : decode cX12_paysWith 7 = .ok (.iload_n 1, 1) := by decide +kernel
theorem dX12_paysWith_8 : decode cX12_paysWith 8 = .ok (.invokevirtual 293, 3) := by decide +kernel
theorem dX12_paysWith_11 : decode cX12_paysWith 11 = .ok (.istore_n 3, 1) := by decide +kernel
theorem dX12_paysWith_12 : decode cX12_paysWith 12 = .ok (.aload_n 0, 1) := by decide +kernel
theorem dX12_paysWith_13 : decode cX12_paysWith 13 = .ok (.iload_n 2, 1) := by decide +kernel
theorem dX12_paysWith_14 : decode cX12_paysWith 14 = .ok (.iconst 0, 1) := by decide +kernel
theorem dX12_paysWith_15 : decode cX12_paysWith 15 = .ok (.invokevirtual 373, 3) := by decide +kernel
theorem dX12_paysWith_18 : decode cX12_paysWith 18 = .ok (.iload_n 3, 1) := by decide +kernel
theorem dX12_paysWith_19 : decode cX12_paysWith 19 = .ok (.ireturn, 1) := by decide +kernel
theorem dX12_yieldOf_0 : decode cX12_yieldOf 0 = .ok (.aload_n 0, 1) := by decide +kernel
theorem dX12_yieldOf_1 : decode cX12_yieldOf 1 = .ok (.getfield 13, 3) := by decide +kernel
theorem dX12_yieldOf_4 : decode cX12_yieldOf 4 = .ok (.iconst 5, 1) := by decide +kernel
theorem dX12_yieldOf_5 : decode cX12_yieldOf 5 = .ok (.iaload, 1) := by decide +kernel
theorem dX12_yieldOf_6 : decode cX12_yieldOf 6 = .ok (.istore_n 2, 1) := by decide +kernel
theorem dX12_yieldOf_7 : decode cX12_yieldOf 7 = .ok (.aload_n 0, 1) := by decide +kernel
theorem dX12_yieldOf_8 : decode cX12_yieldOf 8 = .ok (.getfield 13, 3) := by decide +kernel
theorem dX12_yieldOf_11 : decode cX12_yieldOf 11 = .ok (.iconst 5, 1) := by decide +kernel
theorem dX12_yieldOf_12 : decode cX12_yieldOf 12 = .ok (.iload_n 1, 1) := by decide +kernel
theorem dX12_yieldOf_13 : decode cX12_yieldOf 13 = .ok (.iastore, 1) := by decide +kernel
theorem dX12_yieldOf_14 : decode cX12_yieldOf 14 = .ok (.iconst 0, 1) := by decide +kernel
theorem dX12_yieldOf_15 : decode cX12_yieldOf 15 = .ok (.istore_n 3, 1) := by decide +kernel
theorem dX12_yieldOf_16 : decode cX12_yieldOf 16 = .ok (.iconst 0, 1) := by decide +kernel
theorem dX12_yieldOf_17 : decode cX12_yieldOf 17 = .ok (.istore 4, 2) := by decide +kernel
theorem dX12_yieldOf_19 : decode cX12_yieldOf 19 = .ok (.iload 4, 2) := by decide +kernel
theorem dX12_yieldOf_21 : decode cX12_yieldOf 21 = .ok (.aload_n 0, 1) := by decide +kernel
theorem dX12_yieldOf_22 : decode cX12_yieldOf 22 = .ok (.invokevirtual 59, 3) := by decide +kernel
theorem dX12_yieldOf_25 : decode cX12_yieldOf 25 = .ok (.if_icmp .ge 24, 3) := by decide +kernel
theorem dX12_yieldOf_28 : decode cX12_yieldOf 28 = .ok (.iload_n 3, 1) := by decide +kernel
theorem dX12_yieldOf_29 : decode cX12_yieldOf 29 = .ok (.aload_n 0, 1) := by decide +kernel
theorem dX12_yieldOf_30 : decode cX12_yieldOf 30 = .ok (.iload 4, 2) := by decide +kernel
theorem dX12_yieldOf_32 : decode cX12_yieldOf 32 = .ok (.aload_n 0, 1) := by decide +kernel
theorem dX12_yieldOf_33 : decode cX12_yieldOf 33 = .ok (.iload 4, 2) := by decide +kernel
theorem dX12_yieldOf_35 : decode cX12_yieldOf 35 = .ok (.invokevirtual 385, 3) := by decide +kernel
theorem dX12_yieldOf_38 : decode cX12_yieldOf 38 = .ok (.invokevirtual 388, 3) := by decide +kernel
theorem dX12_yieldOf_41 : decode cX12_yieldOf 41 = .ok (.iadd, 1) := by decide +kernel
theorem dX12_yieldOf_42 : decode cX12_yieldOf 42 = .ok (.istore_n 3, 1) := by decide +kernel
theorem dX12_yieldOf_43 : decode cX12_yieldOf 43 = .ok (.iinc 4 1, 3) := by decide +kernel
theorem dX12_yieldOf_46 : decode cX12_yieldOf 46 = .ok (.goto (-27), 3) := by decide +kernel
theorem dX12_yieldOf_49 : decode cX12_yieldOf 49 = .ok (.aload_n 0, 1) := by decide +kernel
theorem dX12_yieldOf_50 : decode cX12_yieldOf 50 = .ok (.getfield 13, 3) := by decide +kernel
theorem dX12_yieldOf_53 : decode cX12_yieldOf 53 = .ok (.iconst 5, 1) := by decide +kernel
theorem dX12_yieldOf_54 : decode cX12_yieldOf 54 = .ok (.iload_n 2, 1) := by decide +kernel
theorem dX12_yieldOf_55 : decode cX12_yieldOf 55 = .ok (.iastore, 1) := by decide +kernel
theorem dX12_yieldOf_56 : decode cX12_yieldOf 56 = .ok (.iload_n 3, 1) := by decide +kernel
theorem dX12_yieldOf_57 : decode cX12_yieldOf 57 = .ok (.ireturn, 1) := by decide +kernel
theorem dX12_brings_0 : decode cX12_brings 0 = .ok (.aload_n 0, 1) := by decide +kernel
theorem dX12_brings_1 : decode cX12_brings 1 = .ok (.iconst 0, 1) := by decide +kernel
theorem dX12_brings_2 : decode cX12_brings 2 = .ok (.putfield 3, 3) := by decide +kernel
theorem dX12_brings_5 : decode cX12_brings 5 = .ok (.aload_n 0, 1) := by decide +kernel
theorem dX12_brings_6 : decode cX12_brings 6 = .ok (.iload_n 1, 1) := by decide +kernel
theorem dX12_brings_7 : decode cX12_brings 7 = .ok (.invokestatic 326, 3) := by decide +kernel
theorem dX12_brings_10 : decode cX12_brings 10 = .ok (.iconst 1, 1) := by decide +kernel
theorem dX12_brings_11 : decode cX12_brings 11 = .ok (.invokevirtual 246, 3) := by decide +kernel
theorem dX12_brings_14 : decode cX12_brings 14 = .ok (.ifCond .eq 7, 3) := by decide +kernel
theorem dX12_brings_17 : decode cX12_brings 17 = .ok (.iconst 0, 1) := by decide +kernel
theorem dX12_brings_18 : decode cX12_brings 18 = .ok (.goto 8, 3) := by decide +kernel
theorem dX12_brings_21 : decode cX12_brings 21 = .ok (.aload_n 0, 1) := by decide +kernel
theorem dX12_brings_22 : decode cX12_brings 22 = .ok (.iload_n 1, 1) := by decide +kernel
theorem dX12_brings_23 : decode cX12_brings 23 = .ok (.invokevirtual 391, 3) := by decide +kernel
theorem dX12_brings_26 : decode cX12_brings 26 = .ok (.ireturn, 1) := by decide +kernel
theorem dX12_dear_0 : decode cX12_dear 0 = .ok (.aload_n 0, 1) := by decide +kernel
theorem dX12_dear_1 : decode cX12_dear 1 = .ok (.iconst 0, 1) := by decide +kernel
theorem dX12_dear_2 : decode cX12_dear 2 = .ok (.putfield 3, 3) := by decide +kernel
theorem dX12_dear_5 : decode cX12_dear 5 = .ok (.iconst 0, 1) := by decide +kernel
theorem dX12_dear_6 : decode cX12_dear 6 = .ok (.istore_n 1, 1) := by decide +kernel
theorem dX12_dear_7 : decode cX12_dear 7 = .ok (.iconst (-1), 1) := by decide +kernel
theorem dX12_dear_8 : decode cX12_dear 8 = .ok (.istore_n 2, 1) := by decide +kernel
theorem dX12_dear_9 : decode cX12_dear 9 = .ok (.iconst 0, 1) := by decide +kernel
theorem dX12_dear_10 : decode cX12_dear 10 = .ok (.istore_n 3, 1) := by decide +kernel
theorem dX12_dear_11 : decode cX12_dear 11 = .ok (.iload_n 3, 1) := by decide +kernel
theorem dX12_dear_12 : decode cX12_dear 12 = .ok (.bipush 20, 2) := by decide +kernel
theorem dX12_dear_14 : decode cX12_dear 14 = .ok (.if_icmp .gt 35, 3) := by decide +kernel
theorem dX12_dear_17 : decode cX12_dear 17 = .ok (.aload_n 0, 1) := by decide +kernel
theorem dX12_dear_18 : decode cX12_dear 18 = .ok (.iload_n 3, 1) := by decide +kernel
theorem dX12_dear_19 : decode cX12_dear 19 = .ok (.invokevirtual 391, 3) := by decide +kernel
theorem dX12_dear_22 : decode cX12_dear 22 = .ok (.istore 4, 2) := by decide +kernel
theorem dX12_dear_24 : decode cX12_dear 24 = .ok (.iload 4, 2) := by decide +kernel
theorem dX12_dear_26 : decode cX12_dear 26 = .ok (.iload_n 2, 1) := by decide +kernel
theorem dX12_dear_27 : decode cX12_dear 27 = .ok (.if_icmp .le 7, 3) := by decide +kernel
theorem dX12_dear_30 : decode cX12_dear 30 = .ok (.iload_n 3, 1) := by decide +kernel
theorem dX12_dear_31 : decode cX12_dear 31 = .ok (.goto 4, 3) := by decide +kernel
theorem dX12_dear_34 : decode cX12_dear 34 = .ok (.iload_n 1, 1) := by decide +kernel
theorem dX12_dear_35 : decode cX12_dear 35 = .ok (.istore_n 1, 1) := by decide +kernel
theorem dX12_dear_36 : decode cX12_dear 36 = .ok (.iload_n 2, 1) := by decide +kernel
theorem dX12_dear_37 : decode cX12_dear 37 = .ok (.iload 4, 2) := by decide +kernel
theorem dX12_dear_39 : decode cX12_dear 39 = .ok (.invokestatic 370, 3) := by decide +kernel
theorem dX12_dear_42 : decode cX12_dear 42 = .ok (.istore_n 2, 1) := by decide +kernel
theorem dX12_dear_43 : decode cX12_dear 43 = .ok (.iinc 3 1, 3) := by decide +kernel
theorem dX12_dear_46 : decode cX12_dear 46 = .ok (.goto (-35), 3) := by decide +kernel
theorem dX12_dear_49 : decode cX12_dear 49 = .ok (.iload_n 1, 1) := by decide +kernel
theorem dX12_dear_50 : decode cX12_dear 50 = .ok (.ireturn, 1) := by decide +kernel
theorem dX12_least_0 : decode cX12_least 0 = .ok (.aload_n 0, 1) := by decide +kernel
theorem dX12_least_1 : decode cX12_least 1 = .ok (.iconst 0, 1) := by decide +kernel
theorem dX12_least_2 : decode cX12_least 2 = .ok (.putfield 3, 3) := by decide +kernel
theorem dX12_least_5 : decode cX12_least 5 = .ok (.aload_n 0, 1) := by decide +kernel
theorem dX12_least_6 : decode cX12_least 6 = .ok (.aload_n 0, 1) := by decide +kernel
theorem dX12_least_7 : decode cX12_least 7 = .ok (.iload_n 1, 1) := by decide +kernel
theorem dX12_least_8 : decode cX12_least 8 = .ok (.invokevirtual 299, 3) := by decide +kernel
theorem dX12_least_11 : decode cX12_least 11 = .ok (.iconst 1, 1) := by decide +kernel
theorem dX12_least_12 : decode cX12_least 12 = .ok (.invokevirtual 246, 3) := by decide +kernel
theorem dX12_least_15 : decode cX12_least 15 = .ok (.ifCond .ne 27, 3) := by decide +kernel
theorem dX12_least_18 : decode cX12_least 18 = .ok (.aload_n 0, 1) := by decide +kernel
theorem dX12_least_19 : decode cX12_least 19 = .ok (.iload_n 2, 1) := by decide +kernel
theorem dX12_least_20 : decode cX12_least 20 = .ok (.iconst 0, 1) := by decide +kernel
theorem dX12_least_21 : decode cX12_least 21 = .ok (.sipush 999, 3) := by decide +kernel
theorem dX12_least_24 : decode cX12_least 24 = .ok (.invokestatic 63, 3) := by decide +kernel
theorem dX12_least_27 : decode cX12_least 27 = .ok (.ifCond .ne 7, 3) := by decide +kernel
theorem dX12_least_30 : decode cX12_least 30 = .ok (.iconst 1, 1) := by decide +kernel
theorem dX12_least_31 : decode cX12_least 31 = .ok (.goto 4, 3) := by decide +kernel
theorem dX12_least_34 : decode cX12_least 34 = .ok (.iconst 0, 1) := by decide +kernel
theorem dX12_least_35 : decode cX12_least 35 = .ok (.iconst 2, 1) := by decide +kernel
theorem dX12_least_36 : decode cX12_least 36 = .ok (.invokevirtual 246, 3) := by decide +kernel
theorem dX12_least_39 : decode cX12_least 39 = .ok (.ifCond .eq 5, 3) := by decide +kernel
theorem dX12_least_42 : decode cX12_least 42 = .ok (.iconst 0, 1) := by decide +kernel
theorem dX12_least_43 : decode cX12_least 43 = .ok (.ireturn, 1) := by decide +kernel
theorem dX12_least_44 : decode cX12_least 44 = .ok (.aload_n 0, 1) := by decide +kernel
theorem dX12_least_45 : decode cX12_least 45 = .ok (.iload_n 1, 1) := by decide +kernel
theorem dX12_least_46 : decode cX12_least 46 = .ok (.invokevirtual 379, 3) := by decide +kernel
theorem dX12_least_49 : decode cX12_least 49 = .ok (.istore_n 3, 1) := by decide +kernel
theorem dX12_least_50 : decode cX12_least 50 = .ok (.iload_n 3, 1) := by decide +kernel
theorem dX12_least_51 : decode cX12_least 51 = .ok (.istore 4, 2) := by decide +kernel
theorem dX12_least_53 : decode cX12_least 53 = .ok (.iload_n 3, 1) := by decide +kernel
theorem dX12_least_54 : decode cX12_least 54 = .ok (.istore 5, 2) := by decide +kernel
theorem dX12_least_56 : decode cX12_least 56 = .ok (.iload 5, 2) := by decide +kernel
theorem dX12_least_58 : decode cX12_least 58 = .ok (.ifCond .lt 51, 3) := by decide +kernel
theorem dX12_least_61 : decode cX12_least 61 = .ok (.iload 5, 2) := by decide +kernel
theorem dX12_least_63 : decode cX12_least 63 = .ok (.iload_n 3, 1) := by decide +kernel
theorem dX12_least_64 : decode cX12_least 64 = .ok (.iconst (-1), 1) := by decide +kernel
theorem dX12_least_65 : decode cX12_least 65 = .ok (.ixor, 1) := by decide +kernel
theorem dX12_least_66 : decode cX12_least 66 = .ok (.iand, 1) := by decide +kernel
theorem dX12_least_67 : decode cX12_least 67 = .ok (.ifCond .ne 32, 3) := by decide +kernel
theorem dX12_least_70 : decode cX12_least 70 = .ok (.iload 5, 2) := by decide +kernel
theorem dX12_least_72 : decode cX12_least 72 = .ok (.invokestatic 142, 3) := by decide +kernel
theorem dX12_least_75 : decode cX12_least 75 = .ok (.iload 4, 2) := by decide +kernel
theorem dX12_least_77 : decode cX12_least 77 = .ok (.invokestatic 142, 3) := by decide +kernel
theorem dX12_least_80 : decode cX12_least 80 = .ok (.if_icmp .gt 19, 3) := by decide +kernel
theorem dX12_least_83 : decode cX12_least 83 = .ok (.aload_n 0, 1) := by decide +kernel
theorem dX12_least_84 : decode cX12_least 84 = .ok (.iload_n 1, 1) := by decide +kernel
theorem dX12_least_85 : decode cX12_least 85 = .ok (.iload 5, 2) := by decide +kernel
theorem dX12_least_87 : decode cX12_least 87 = .ok (.invokevirtual 388, 3) := by decide +kernel
theorem dX12_least_90 : decode cX12_least 90 = .ok (.iload_n 2, 1) := by decide +kernel
theorem dX12_least_91 : decode cX12_least 91 = .ok (.if_icmp .gt 8, 3) := by decide +kernel
theorem dX12_least_94 : decode cX12_least 94 = .ok (.iload 5, 2) := by decide +kernel
theorem dX12_least_96 : decode cX12_least 96 = .ok (.goto 5, 3) := by decide +kernel
theorem dX12_least_99 : decode cX12_least 99 = .ok (.iload 4, 2) := by decide +kernel
theorem dX12_least_101 : decode cX12_least 101 = .ok (.istore 4, 2) := by decide +kernel
theorem dX12_least_103 : decode cX12_least 103 = .ok (.iinc 5 (-1), 3) := by decide +kernel
theorem dX12_least_106 : decode cX12_least 106 = .ok (.goto (-50), 3) := by decide +kernel
theorem dX12_least_109 : decode cX12_least 109 = .ok (.iload 4, 2) := by decide +kernel
theorem dX12_least_111 : decode cX12_least 111 = .ok (.ireturn, 1) := by decide +kernel
theorem dX12_warmer_0 : decode cX12_warmer 0 = .ok (.aload_n 0, 1) := by decide +kernel
theorem dX12_warmer_1 : decode cX12_warmer 1 = .ok (.iconst 0, 1) := by decide +kernel
theorem dX12_warmer_2 : decode cX12_warmer 2 = .ok (.putfield 3, 3) := by decide +kernel
theorem dX12_warmer_5 : decode cX12_warmer 5 = .ok (.aload_n 0, 1) := by decide +kernel
theorem dX12_warmer_6 : decode cX12_warmer 6 = .ok (.aload_n 0, 1) := by decide +kernel
theorem dX12_warmer_7 : decode cX12_warmer 7 = .ok (.iload_n 1, 1) := by decide +kernel
theorem dX12_warmer_8 : decode cX12_warmer 8 = .ok (.invokevirtual 299, 3) := by decide +kernel
theorem dX12_warmer_11 : decode cX12_warmer 11 = .ok (.iconst 1, 1) := by decide +kernel
theorem dX12_warmer_12 : decode cX12_warmer 12 = .ok (.invokevirtual 246, 3) := by decide +kernel
theorem dX12_warmer_15 : decode cX12_warmer 15 = .ok (.ifCond .eq 5, 3) := by decide +kernel
theorem dX12_warmer_18 : decode cX12_warmer 18 = .ok (.iconst 0, 1) := by decide +kernel
theorem dX12_warmer_19 : decode cX12_warmer 19 = .ok (.ireturn, 1) := by decide +kernel
theorem dX12_warmer_20 : decode cX12_warmer 20 = .ok (.iconst (-1), 1) := by decide +kernel
theorem dX12_warmer_21 : decode cX12_warmer 21 = .ok (.istore_n 2, 1) := by decide +kernel
theorem dX12_warmer_22 : decode cX12_warmer 22 = .ok (.iconst 2, 1) := by decide +kernel
theorem dX12_warmer_23 : decode cX12_warmer 23 = .ok (.aload_n 0, 1) := by decide +kernel
theorem dX12_warmer_24 : decode cX12_warmer 24 = .ok (.iload_n 1, 1) := by decide +kernel
theorem dX12_warmer_25 : decode cX12_warmer 25 = .ok (.invokevirtual 305, 3) := by decide +kernel
theorem dX12_warmer_28 : decode cX12_warmer 28 = .ok (.imul, 1) := by decide +kernel
theorem dX12_warmer_29 : decode cX12_warmer 29 = .ok (.aload_n 0, 1) := by decide +kernel
theorem dX12_warmer_30 : decode cX12_warmer 30 = .ok (.iload_n 1, 1) := by decide +kernel
theorem dX12_warmer_31 : decode cX12_warmer 31 = .ok (.invokevirtual 293, 3) := by decide +kernel
theorem dX12_warmer_34 : decode cX12_warmer 34 = .ok (.isub, 1) := by decide +kernel
theorem dX12_warmer_35 : decode cX12_warmer 35 = .ok (.istore_n 3, 1) := by decide +kernel
theorem dX12_warmer_36 : decode cX12_warmer 36 = .ok (.iconst 0, 1) := by decide +kernel
theorem dX12_warmer_37 : decode cX12_warmer 37 = .ok (.istore 4, 2) := by decide +kernel
theorem dX12_warmer_39 : decode cX12_warmer 39 = .ok (.iload 4, 2) := by decide +kernel
theorem dX12_warmer_41 : decode cX12_warmer 41 = .ok (.aload_n 0, 1) := by decide +kernel
theorem dX12_warmer_42 : decode cX12_warmer 42 = .ok (.invokevirtual 67, 3) := by decide +kernel
theorem dX12_warmer_45 : decode cX12_warmer 45 = .ok (.if_icmp .ge 84, 3) := by decide +kernel
theorem dX12_warmer_48 : decode cX12_warmer 48 = .ok (.aload_n 0, 1) := by decide +kernel
theorem dX12_warmer_49 : decode cX12_warmer 49 = .ok (.iload 4, 2) := by decide +kernel
theorem dX12_warmer_51 : decode cX12_warmer 51 = .ok (.iload_n 1, 1) := by decide +kernel
theorem dX12_warmer_52 : decode cX12_warmer 52 = .ok (.invokevirtual 70, 3) := by decide +kernel
theorem dX12_warmer_55 : decode cX12_warmer 55 = .ok (.ifCond .eq 68, 3) := by decide +kernel
theorem dX12_warmer_58 : decode cX12_warmer 58 = .ok (.aload_n 0, 1) := by decide +kernel
theorem dX12_warmer_59 : decode cX12_warmer 59 = .ok (.iload 4, 2) := by decide +kernel
theorem dX12_warmer_61 : decode cX12_warmer 61 = .ok (.invokevirtual 264, 3) := by decide +kernel
theorem dX12_warmer_64 : decode cX12_warmer 64 = .ok (.ifCond .ne 6, 3) := by decide +kernel
theorem dX12_warmer_67 : decode cX12_warmer 67 = .ok (.goto 56, 3) := by decide +kernel
theorem dX12_warmer_70 : decode cX12_warmer 70 = .ok (.aload_n 0, 1) := by decide +kernel
theorem dX12_warmer_71 : decode cX12_warmer 71 = .ok (.iconst 1, 1) := by decide +kernel
theorem dX12_warmer_72 : decode cX12_warmer 72 = .ok (.iload 4, 2) := by decide +kernel
theorem dX12_warmer_74 : decode cX12_warmer 74 = .ok (.ishl, 1) := by decide +kernel
theorem dX12_warmer_75 : decode cX12_warmer 75 = .ok (.iconst 0, 1) := by decide +kernel
theorem dX12_warmer_76 : decode cX12_warmer 76 = .ok (.invokevirtual 373, 3) := by decide +kernel
theorem dX12_warmer_79 : decode cX12_warmer 79 = .ok (.iconst 2, 1) := by decide +kernel
theorem dX12_warmer_80 : decode cX12_warmer 80 = .ok (.aload_n 0, 1) := by decide +kernel
theorem dX12_warmer_81 : decode cX12_warmer 81 = .ok (.iload_n 1, 1) := by decide +kernel
theorem dX12_warmer_82 : decode cX12_warmer 82 = .ok (.invokevirtual 305, 3) := by decide +kernel
theorem dX12_warmer_85 : decode cX12_warmer 85 = .ok (.imul, 1) := by decide +kernel
theorem dX12_warmer_86 : decode cX12_warmer 86 = .ok (.aload_n 0, 1) := by decide +kernel
theorem dX12_warmer_87 : decode cX12_warmer 87 = .ok (.iload_n 1, 1) := by decide +kernel
theorem dX12_warmer_88 : decode cX12_warmer 88 = .ok (.invokevirtual 293, 3) := by decide +kernel
theorem dX12_warmer_91 : decode cX12_warmer 91 = .ok (.isub, 1) := by decide +kernel
theorem dX12_warmer_92 : decode cX12_warmer 92 = .ok (.istore 5, 2) := by decide +kernel
theorem dX12_warmer_94 : decode cX12_warmer 94 = .ok (.aload_n 0, 1) := by decide +kernel
theorem dX12_warmer_95 : decode cX12_warmer 95 = .ok (.iconst 1, 1) := by decide +kernel
theorem dX12_warmer_96 : decode cX12_warmer 96 = .ok (.iload 4, 2) := by decide +kernel
theorem dX12_warmer_98 : decode cX12_warmer 98 = .ok (.ishl, 1) := by decide +kernel
theorem dX12_warmer_99 : decode cX12_warmer 99 = .ok (.iconst 1, 1) := by decide +kernel
theorem dX12_warmer_100 : decode cX12_warmer 100 = .ok (.invokevirtual 373, 3) := by decide +kernel
theorem dX12_warmer_103 : decode cX12_warmer 103 = .ok (.iload 5, 2) := by decide +kernel
theorem dX12_warmer_105 : decode cX12_warmer 105 = .ok (.iload_n 3, 1) := by decide +kernel
theorem dX12_warmer_106 : decode cX12_warmer 106 = .ok (.if_icmp .le 8, 3) := by decide +kernel
theorem dX12_warmer_109 : decode cX12_warmer 109 = .ok (.iload 4, 2) := by decide +kernel
theorem dX12_warmer_111 : decode cX12_warmer 111 = .ok (.goto 4, 3) := by decide +kernel
theorem dX12_warmer_114 : decode cX12_warmer 114 = .ok (.iload_n 2, 1) := by decide +kernel
theorem dX12_warmer_115 : decode cX12_warmer 115 = .ok (.istore_n 2, 1) := by decide +kernel
theorem dX12_warmer_116 : decode cX12_warmer 116 = .ok (.iload_n 3, 1) := by decide +kernel
theorem dX12_warmer_117 : decode cX12_warmer 117 = .ok (.iload 5, 2) := by decide +kernel
theorem dX12_warmer_119 : decode cX12_warmer 119 = .ok (.invokestatic 370, 3) := by decide +kernel
theorem dX12_warmer_122 : decode cX12_warmer 122 = .ok (.istore_n 3, 1) := by decide +kernel
theorem dX12_warmer_123 : decode cX12_warmer 123 = .ok (.iinc 4 1, 3) := by decide +kernel
theorem dX12_warmer_126 : decode cX12_warmer 126 = .ok (.goto (-87), 3) := by decide +kernel
theorem dX12_warmer_129 : decode cX12_warmer 129 = .ok (.iload_n 2, 1) := by decide +kernel
theorem dX12_warmer_130 : decode cX12_warmer 130 = .ok (.ireturn, 1) := by decide +kernel
theorem dX12_hopesOfSet_0 : decode cX12_hopesOfSet 0 = .ok (.iconst 0, 1) := by decide +kernel
theorem dX12_hopesOfSet_1 : decode cX12_hopesOfSet 1 = .ok (.istore_n 2, 1) := by decide +kernel
theorem dX12_hopesOfSet_2 : decode cX12_hopesOfSet 2 = .ok (.iconst 0, 1) := by decide +kernel
theorem dX12_hopesOfSet_3 : decode cX12_hopesOfSet 3 = .ok (.istore_n 3, 1) := by decide +kernel
theorem dX12_hopesOfSet_4 : decode cX12_hopesOfSet 4 = .ok (.iload_n 3, 1) := by decide +kernel
theorem dX12_hopesOfSet_5 : decode cX12_hopesOfSet 5 = .ok (.aload_n 0, 1) := by decide +kernel
theorem dX12_hopesOfSet_6 : decode cX12_hopesOfSet 6 = .ok (.invokevirtual 59, 3) := by decide +kernel
theorem dX12_hopesOfSet_9 : decode cX12_hopesOfSet 9 = .ok (.if_icmp .ge 29, 3) := by decide +kernel
theorem dX12_hopesOfSet_12 : decode cX12_hopesOfSet 12 = .ok (.iload_n 2, 1) := by decide +kernel
theorem dX12_hopesOfSet_13 : decode cX12_hopesOfSet 13 = .ok (.iload_n 1, 1) := by decide +kernel
theorem dX12_hopesOfSet_14 : decode cX12_hopesOfSet 14 = .ok (.iload_n 3, 1) := by decide +kernel
theorem dX12_hopesOfSet_15 : decode cX12_hopesOfSet 15 = .ok (.invokestatic 287, 3) := by decide +kernel
theorem dX12_hopesOfSet_18 : decode cX12_hopesOfSet 18 = .ok (.ifCond .eq 11, 3) := by decide +kernel
theorem dX12_hopesOfSet_21 : decode cX12_hopesOfSet 21 = .ok (.aload_n 0, 1) := by decide +kernel
theorem dX12_hopesOfSet_22 : decode cX12_hopesOfSet 22 = .ok (.iload_n 3, 1) := by decide +kernel
theorem dX12_hopesOfSet_23 : decode cX12_hopesOfSet 23 = .ok (.invokevirtual 302, 3) := by decide +kernel
theorem dX12_hopesOfSet_26 : decode cX12_hopesOfSet 26 = .ok (.goto 4, 3) := by decide +kernel
theorem dX12_hopesOfSet_29 : decode cX12_hopesOfSet 29 = .ok (.iconst 0, 1) := by decide +kernel
theorem dX12_hopesOfSet_30 : decode cX12_hopesOfSet 30 = .ok (.iadd, 1) := by decide +kernel
theorem dX12_hopesOfSet_31 : decode cX12_hopesOfSet 31 = .ok (.istore_n 2, 1) := by decide +kernel
theorem dX12_hopesOfSet_32 : decode cX12_hopesOfSet 32 = .ok (.iinc 3 1, 3) := by decide +kernel
theorem dX12_hopesOfSet_35 : decode cX12_hopesOfSet 35 = .ok (.goto (-31), 3) := by decide +kernel
theorem dX12_hopesOfSet_38 : decode cX12_hopesOfSet 38 = .ok (.iload_n 2, 1) := by decide +kernel
theorem dX12_hopesOfSet_39 : decode cX12_hopesOfSet 39 = .ok (.ireturn, 1) := by decide +kernel
theorem dX12_round_0 : decode cX12_round 0 = .ok (.aload_n 0, 1) := by decide +kernel
theorem dX12_round_1 : decode cX12_round 1 = .ok (.iconst 0, 1) := by decide +kernel
theorem dX12_round_2 : decode cX12_round 2 = .ok (.putfield 3, 3) := by decide +kernel
theorem dX12_round_5 : decode cX12_round 5 = .ok (.aload_n 0, 1) := by decide +kernel
theorem dX12_round_6 : decode cX12_round 6 = .ok (.iload_n 1, 1) := by decide +kernel
theorem dX12_round_7 : decode cX12_round 7 = .ok (.iconst 0, 1) := by decide +kernel
theorem dX12_round_8 : decode cX12_round 8 = .ok (.bipush 6, 2) := by decide +kernel
theorem dX12_round_10 : decode cX12_round 10 = .ok (.invokestatic 63, 3) := by decide +kernel
theorem dX12_round_13 : decode cX12_round 13 = .ok (.ifCond .ne 7, 3) := by decide +kernel
theorem dX12_round_16 : decode cX12_round 16 = .ok (.iconst 1, 1) := by decide +kernel
theorem dX12_round_17 : decode cX12_round 17 = .ok (.goto 4, 3) := by decide +kernel
theorem dX12_round_20 : decode cX12_round 20 = .ok (.iconst 0, 1) := by decide +kernel
theorem dX12_round_21 : decode cX12_round 21 = .ok (.iconst 1, 1) := by decide +kernel
theorem dX12_round_22 : decode cX12_round 22 = .ok (.invokevirtual 246, 3) := by decide +kernel
theorem dX12_round_25 : decode cX12_round 25 = .ok (.ifCond .eq 5, 3) := by decide +kernel
theorem dX12_round_28 : decode cX12_round 28 = .ok (.iconst 0, 1) := by decide +kernel
theorem dX12_round_29 : decode cX12_round 29 = .ok (.ireturn, 1) := by decide +kernel
theorem dX12_round_30 : decode cX12_round 30 = .ok (.iconst 0, 1) := by decide +kernel
theorem dX12_round_31 : decode cX12_round 31 = .ok (.istore_n 2, 1) := by decide +kernel
theorem dX12_round_32 : decode cX12_round 32 = .ok (.iconst 1, 1) := by decide +kernel
theorem dX12_round_33 : decode cX12_round 33 = .ok (.istore_n 3, 1) := by decide +kernel
theorem dX12_round_34 : decode cX12_round 34 = .ok (.iload_n 3, 1) := by decide +kernel
theorem dX12_round_35 : decode cX12_round 35 = .ok (.iconst 1, 1) := by decide +kernel
theorem dX12_round_36 : decode cX12_round 36 = .ok (.aload_n 0, 1) := by decide +kernel
theorem dX12_round_37 : decode cX12_round 37 = .ok (.invokevirtual 59, 3) := by decide +kernel
theorem dX12_round_40 : decode cX12_round 40 = .ok (.ishl, 1) := by decide +kernel
theorem dX12_round_41 : decode cX12_round 41 = .ok (.if_icmp .ge 55, 3) := by decide +kernel
theorem dX12_round_44 : decode cX12_round 44 = .ok (.iload_n 3, 1) := by decide +kernel
theorem dX12_round_45 : decode cX12_round 45 = .ok (.invokestatic 142, 3) := by decide +kernel
theorem dX12_round_48 : decode cX12_round 48 = .ok (.istore 4, 2) := by decide +kernel
theorem dX12_round_50 : decode cX12_round 50 = .ok (.aload_n 0, 1) := by decide +kernel
theorem dX12_round_51 : decode cX12_round 51 = .ok (.iload_n 3, 1) := by decide +kernel
theorem dX12_round_52 : decode cX12_round 52 = .ok (.invokevirtual 394, 3) := by decide +kernel
theorem dX12_round_55 : decode cX12_round 55 = .ok (.aload_n 0, 1) := by decide +kernel
theorem dX12_round_56 : decode cX12_round 56 = .ok (.iload_n 2, 1) := by decide +kernel
theorem dX12_round_57 : decode cX12_round 57 = .ok (.invokevirtual 394, 3) := by decide +kernel
theorem dX12_round_60 : decode cX12_round 60 = .ok (.isub, 1) := by decide +kernel
theorem dX12_round_61 : decode cX12_round 61 = .ok (.istore 5, 2) := by decide +kernel
theorem dX12_round_63 : decode cX12_round 63 = .ok (.iload 4, 2) := by decide +kernel
theorem dX12_round_65 : decode cX12_round 65 = .ok (.iload_n 1, 1) := by decide +kernel
theorem dX12_round_66 : decode cX12_round 66 = .ok (.if_icmp .gt 24, 3) := by decide +kernel
theorem dX12_round_69 : decode cX12_round 69 = .ok (.iload 5, 2) := by decide +kernel
theorem dX12_round_71 : decode cX12_round 71 = .ok (.ifCond .gt 17, 3) := by decide +kernel
theorem dX12_round_74 : decode cX12_round 74 = .ok (.iload 5, 2) := by decide +kernel
theorem dX12_round_76 : decode cX12_round 76 = .ok (.ifCond .ne 14, 3) := by decide +kernel
theorem dX12_round_79 : decode cX12_round 79 = .ok (.iload 4, 2) := by decide +kernel
theorem dX12_round_81 : decode cX12_round 81 = .ok (.iload_n 2, 1) := by decide +kernel
theorem dX12_round_82 : decode cX12_round 82 = .ok (.invokestatic 142, 3) := by decide +kernel
theorem dX12_round_85 : decode cX12_round 85 = .ok (.if_icmp .ge 5, 3) := by decide +kernel
theorem dX12_round_88 : decode cX12_round 88 = .ok (.iload_n 3, 1) := by decide +kernel
theorem dX12_round_89 : decode cX12_round 89 = .ok (.istore_n 2, 1) := by decide +kernel
theorem dX12_round_90 : decode cX12_round 90 = .ok (.iinc 3 1, 3) := by decide +kernel
theorem dX12_round_93 : decode cX12_round 93 = .ok (.goto (-59), 3) := by decide +kernel
theorem dX12_round_96 : decode cX12_round 96 = .ok (.iload_n 2, 1) := by decide +kernel
theorem dX12_round_97 : decode cX12_round 97 = .ok (.ireturn, 1) := by decide +kernel
theorem dX12_lossOf_0 : decode cX12_lossOf 0 = .ok (.aload_n 0, 1) := by decide +kernel
theorem dX12_lossOf_1 : decode cX12_lossOf 1 = .ok (.iload_n 1, 1) := by decide +kernel
theorem dX12_lossOf_2 : decode cX12_lossOf 2 = .ok (.invokevirtual 284, 3) := by decide +kernel
theorem dX12_lossOf_5 : decode cX12_lossOf 5 = .ok (.bipush 10, 2) := by decide +kernel
theorem dX12_lossOf_7 : decode cX12_lossOf 7 = .ok (.idiv, 1) := by decide +kernel
theorem dX12_lossOf_8 : decode cX12_lossOf 8 = .ok (.aload_n 0, 1) := by decide +kernel
theorem dX12_lossOf_9 : decode cX12_lossOf 9 = .ok (.iload_n 1, 1) := by decide +kernel
theorem dX12_lossOf_10 : decode cX12_lossOf 10 = .ok (.invokevirtual 278, 3) := by decide +kernel
theorem dX12_lossOf_13 : decode cX12_lossOf 13 = .ok (.aload_n 0, 1) := by decide +kernel
theorem dX12_lossOf_14 : decode cX12_lossOf 14 = .ok (.getfield 13, 3) := by decide +kernel
theorem dX12_lossOf_17 : decode cX12_lossOf 17 = .ok (.bipush 6, 2) := by decide +kernel
theorem dX12_lossOf_19 : decode cX12_lossOf 19 = .ok (.iaload, 1) := by decide +kernel
theorem dX12_lossOf_20 : decode cX12_lossOf 20 = .ok (.iadd, 1) := by decide +kernel
theorem dX12_lossOf_21 : decode cX12_lossOf 21 = .ok (.imul, 1) := by decide +kernel
theorem dX12_lossOf_22 : decode cX12_lossOf 22 = .ok (.bipush 10, 2) := by decide +kernel
theorem dX12_lossOf_24 : decode cX12_lossOf 24 = .ok (.idiv, 1) := by decide +kernel
theorem dX12_lossOf_25 : decode cX12_lossOf 25 = .ok (.ireturn, 1) := by decide +kernel
theorem dX12_paysBy_0 : decode cX12_paysBy 0 = .ok (.iload_n 2, 1) := by decide +kernel
theorem dX12_paysBy_1 : decode cX12_paysBy 1 = .ok (.iconst 1, 1) := by decide +kernel
theorem dX12_paysBy_2 : decode cX12_paysBy 2 = .ok (.if_icmp .ne 11, 3) := by decide +kernel
theorem dX12_paysBy_5 : decode cX12_paysBy 5 = .ok (.aload_n 0, 1) := by decide +kernel
theorem dX12_paysBy_6 : decode cX12_paysBy 6 = .ok (.iload_n 1, 1) := by decide +kernel
theorem dX12_paysBy_7 : decode cX12_paysBy 7 = .ok (.invokevirtual 278, 3) := by decide +kernel
theorem dX12_paysBy_10 : decode cX12_paysBy 10 = .ok (.goto 24, 3) := by decide +kernel
theorem dX12_paysBy_13 : decode cX12_paysBy 13 = .ok (.aload_n 0, 1) := by decide +kernel
theorem dX12_paysBy_14 : decode cX12_paysBy 14 = .ok (.getfield 13, 3) := by decide +kernel
theorem dX12_paysBy_17 : decode cX12_paysBy 17 = .ok (.bipush 8, 2) := by decide +kernel
theorem dX12_paysBy_19 : decode cX12_paysBy 19 = .ok (.iaload, 1) := by decide +kernel
theorem dX12_paysBy_20 : decode cX12_paysBy 20 = .ok (.iload_n 3, 1) := by decide +kernel
theorem dX12_paysBy_21 : decode cX12_paysBy 21 = .ok (.ifCond .ne 11, 3) := by decide +kernel
theorem dX12_paysBy_24 : decode cX12_paysBy 24 = .ok (.aload_n 0, 1) := by decide +kernel
theorem dX12_paysBy_25 : decode cX12_paysBy 25 = .ok (.iload_n 1, 1) := by decide +kernel
theorem dX12_paysBy_26 : decode cX12_paysBy 26 = .ok (.invokevirtual 397, 3) := by decide +kernel
theorem dX12_paysBy_29 : decode cX12_paysBy 29 = .ok (.goto 4, 3) := by decide +kernel
theorem dX12_paysBy_32 : decode cX12_paysBy 32 = .ok (.iconst 0, 1) := by decide +kernel
theorem dX12_paysBy_33 : decode cX12_paysBy 33 = .ok (.iadd, 1) := by decide +kernel
theorem dX12_paysBy_34 : decode cX12_paysBy 34 = .ok (.ireturn, 1) := by decide +kernel
theorem dX12_manHas_0 : decode cX12_manHas 0 = .ok (.iload_n 2, 1) := by decide +kernel
theorem dX12_manHas_1 : decode cX12_manHas 1 = .ok (.iconst 1, 1) := by decide +kernel
theorem dX12_manHas_2 : decode cX12_manHas 2 = .ok (.if_icmp .ne 11, 3) := by decide +kernel
theorem dX12_manHas_5 : decode cX12_manHas 5 = .ok (.aload_n 0, 1) := by decide +kernel
theorem dX12_manHas_6 : decode cX12_manHas 6 = .ok (.iload_n 1, 1) := by decide +kernel
theorem dX12_manHas_7 : decode cX12_manHas 7 = .ok (.invokevirtual 278, 3) := by decide +kernel
theorem dX12_manHas_10 : decode cX12_manHas 10 = .ok (.goto 16, 3) := by decide +kernel
theorem dX12_manHas_13 : decode cX12_manHas 13 = .ok (.iload_n 3, 1) := by decide +kernel
theorem dX12_manHas_14 : decode cX12_manHas 14 = .ok (.ifCond .ne 11, 3) := by decide +kernel
theorem dX12_manHas_17 : decode cX12_manHas 17 = .ok (.aload_n 0, 1) := by decide +kernel
theorem dX12_manHas_18 : decode cX12_manHas 18 = .ok (.iload_n 1, 1) := by decide +kernel
theorem dX12_manHas_19 : decode cX12_manHas 19 = .ok (.invokevirtual 397, 3) := by decide +kernel
theorem dX12_manHas_22 : decode cX12_manHas 22 = .ok (.goto 4, 3) := by decide +kernel
theorem dX12_manHas_25 : decode cX12_manHas 25 = .ok (.iconst 0, 1) := by decide +kernel
theorem dX12_manHas_26 : decode cX12_manHas 26 = .ok (.istore 4, 2) := by decide +kernel
theorem dX12_manHas_28 : decode cX12_manHas 28 = .ok (.iload 4, 2) := by decide +kernel
theorem dX12_manHas_30 : decode cX12_manHas 30 = .ok (.iload_n 3, 1) := by decide +kernel
theorem dX12_manHas_31 : decode cX12_manHas 31 = .ok (.ifCond .ne 7, 3) := by decide +kernel
theorem dX12_manHas_34 : decode cX12_manHas 34 = .ok (.iconst 1, 1) := by decide +kernel
theorem dX12_manHas_35 : decode cX12_manHas 35 = .ok (.goto 4, 3) := by decide +kernel
theorem dX12_manHas_38 : decode cX12_manHas 38 = .ok (.iconst 0, 1) := by decide +kernel
theorem dX12_manHas_39 : decode cX12_manHas 39 = .ok (.isub, 1) := by decide +kernel
theorem dX12_manHas_40 : decode cX12_manHas 40 = .ok (.ireturn, 1) := by decide +kernel
theorem dX12_game_0 : decode cX12_game 0 = .ok (.aload_n 0, 1) := by decide +kernel
theorem dX12_game_1 : decode cX12_game 1 = .ok (.iconst 0, 1) := by decide +kernel
theorem dX12_game_2 : decode cX12_game 2 = .ok (.putfield 3, 3) := by decide +kernel
theorem dX12_game_5 : decode cX12_game 5 = .ok (.aload_n 0, 1) := by decide +kernel
theorem dX12_game_6 : decode cX12_game 6 = .ok (.aload_n 0, 1) := by decide +kernel
theorem dX12_game_7 : decode cX12_game 7 = .ok (.iload_n 1, 1) := by decide +kernel
theorem dX12_game_8 : decode cX12_game 8 = .ok (.invokevirtual 314, 3) := by decide +kernel
theorem dX12_game_11 : decode cX12_game 11 = .ok (.iconst 1, 1) := by decide +kernel
theorem dX12_game_12 : decode cX12_game 12 = .ok (.invokevirtual 246, 3) := by decide +kernel
theorem dX12_game_15 : decode cX12_game 15 = .ok (.ifCond .eq 5, 3) := by decide +kernel
theorem dX12_game_18 : decode cX12_game 18 = .ok (.iconst 0, 1) := by decide +kernel
theorem dX12_game_19 : decode cX12_game 19 = .ok (.ireturn, 1) := by decide +kernel
theorem dX12_game_20 : decode cX12_game 20 = .ok (.aload_n 0, 1) := by decide +kernel
theorem dX12_game_21 : decode cX12_game 21 = .ok (.iload_n 1, 1) := by decide +kernel
theorem dX12_game_22 : decode cX12_game 22 = .ok (.invokevirtual 264, 3) := by decide +kernel
theorem dX12_game_25 : decode cX12_game 25 = .ok (.ifCond .eq 5, 3) := by decide +kernel
theorem dX12_game_28 : decode cX12_game 28 = .ok (.iconst (-1), 1) := by decide +kernel
theorem dX12_game_29 : decode cX12_game 29 = .ok (.ireturn, 1) := by decide +kernel
theorem dX12_game_30 : decode cX12_game 30 = .ok (.iconst 0, 1) := by decide +kernel
theorem dX12_game_31 : decode cX12_game 31 = .ok (.istore_n 2, 1) := by decide +kernel
theorem dX12_game_32 : decode cX12_game 32 = .ok (.iconst 0, 1) := by decide +kernel
theorem dX12_game_33 : decode cX12_game 33 = .ok (.istore_n 3, 1) := by decide +kernel
theorem dX12_game_34 : decode cX12_game 34 = .ok (.iload_n 3, 1) := by decide +kernel
theorem dX12_game_35 : decode cX12_game 35 = .ok (.iconst 2, 1) := by decide +kernel
theorem dX12_game_36 : decode cX12_game 36 = .ok (.if_icmp .ge 93, 3) := by decide +kernel
theorem dX12_game_39 : decode cX12_game 39 = .ok (.iconst 0, 1) := by decide +kernel
theorem dX12_game_40 : decode cX12_game 40 = .ok (.istore 4, 2) := by decide +kernel
theorem dX12_game_42 : decode cX12_game 42 = .ok (.iload 4, 2) := by decide +kernel
theorem dX12_game_44 : decode cX12_game 44 = .ok (.iconst 2, 1) := by decide +kernel
theorem dX12_game_45 : decode cX12_game 45 = .ok (.if_icmp .ge 78, 3) := by decide +kernel
theorem dX12_game_48 : decode cX12_game 48 = .ok (.aload_n 0, 1) := by decide +kernel
theorem dX12_game_49 : decode cX12_game 49 = .ok (.iload_n 1, 1) := by decide +kernel
theorem dX12_game_50 : decode cX12_game 50 = .ok (.iload_n 3, 1) := by decide +kernel
theorem dX12_game_51 : decode cX12_game 51 = .ok (.iload 4, 2) := by decide +kernel
theorem dX12_game_53 : decode cX12_game 53 = .ok (.invokevirtual 400, 3) := by decide +kernel
theorem dX12_game_56 : decode cX12_game 56 = .ok (.aload_n 0, 1) := by decide +kernel
theorem dX12_game_57 : decode cX12_game 57 = .ok (.iload_n 1, 1) := by decide +kernel
theorem dX12_game_58 : decode cX12_game 58 = .ok (.iconst 1, 1) := by decide +kernel
theorem dX12_game_59 : decode cX12_game 59 = .ok (.iload_n 3, 1) := by decide +kernel
theorem dX12_game_60 : decode cX12_game 60 = .ok (.isub, 1) := by decide +kernel
theorem dX12_game_61 : decode cX12_game 61 = .ok (.iload 4, 2) := by decide +kernel
theorem dX12_game_63 : decode cX12_game 63 = .ok (.invokevirtual 400, 3) := by decide +kernel
theorem dX12_game_66 : decode cX12_game 66 = .ok (.if_icmp .gt 28, 3) := by decide +kernel
theorem dX12_game_69 : decode cX12_game 69 = .ok (.aload_n 0, 1) := by decide +kernel
theorem dX12_game_70 : decode cX12_game 70 = .ok (.iload_n 1, 1) := by decide +kernel
theorem dX12_game_71 : decode cX12_game 71 = .ok (.iload_n 3, 1) := by decide +kernel
theorem dX12_game_72 : decode cX12_game 72 = .ok (.iload 4, 2) := by decide +kernel
theorem dX12_game_74 : decode cX12_game 74 = .ok (.invokevirtual 403, 3) := by decide +kernel
theorem dX12_game_77 : decode cX12_game 77 = .ok (.aload_n 0, 1) := by decide +kernel
theorem dX12_game_78 : decode cX12_game 78 = .ok (.iload_n 1, 1) := by decide +kernel
theorem dX12_game_79 : decode cX12_game 79 = .ok (.iload_n 3, 1) := by decide +kernel
theorem dX12_game_80 : decode cX12_game 80 = .ok (.iconst 1, 1) := by decide +kernel
theorem dX12_game_81 : decode cX12_game 81 = .ok (.iload 4, 2) := by decide +kernel
theorem dX12_game_83 : decode cX12_game 83 = .ok (.isub, 1) := by decide +kernel
theorem dX12_game_84 : decode cX12_game 84 = .ok (.invokevirtual 403, 3) := by decide +kernel
theorem dX12_game_87 : decode cX12_game 87 = .ok (.if_icmp .lt 7, 3) := by decide +kernel
theorem dX12_game_90 : decode cX12_game 90 = .ok (.iconst 1, 1) := by decide +kernel
theorem dX12_game_91 : decode cX12_game 91 = .ok (.goto 4, 3) := by decide +kernel
theorem dX12_game_94 : decode cX12_game 94 = .ok (.iconst 0, 1) := by decide +kernel
theorem dX12_game_95 : decode cX12_game 95 = .ok (.istore 5, 2) := by decide +kernel
theorem dX12_game_97 : decode cX12_game 97 = .ok (.iload_n 2, 1) := by decide +kernel
theorem dX12_game_98 : decode cX12_game 98 = .ok (.iload 5, 2) := by decide +kernel
theorem dX12_game_100 : decode cX12_game 100 = .ok (.ifCond .eq 14, 3) := by decide +kernel
theorem dX12_game_103 : decode cX12_game 103 = .ok (.iconst 1, 1) := by decide +kernel
theorem dX12_game_104 : decode cX12_game 104 = .ok (.iconst 2, 1) := by decide +kernel
theorem dX12_game_105 : decode cX12_game 105 = .ok (.iload_n 3, 1) := by decide +kernel
theorem dX12_game_106 : decode cX12_game 106 = .ok (.imul, 1) := by decide +kernel
theorem dX12_game_107 : decode cX12_game 107 = .ok (.iload 4, 2) := by decide +kernel
theorem dX12_game_109 : decode cX12_game 109 = .ok (.iadd, 1) := by decide +kernel
theorem dX12_game_110 : decode cX12_game 110 = .ok (.ishl, 1) := by decide +kernel
theorem dX12_game_111 : decode cX12_game 111 = .ok (.goto 4, 3) := by decide +kernel
theorem dX12_game_114 : decode cX12_game 114 = .ok (.iconst 0, 1) := by decide +kernel
theorem dX12_game_115 : decode cX12_game 115 = .ok (.ior, 1) := by decide +kernel
theorem dX12_game_116 : decode cX12_game 116 = .ok (.istore_n 2, 1) := by decide +kernel
theorem dX12_game_117 : decode cX12_game 117 = .ok (.iinc 4 1, 3) := by decide +kernel
theorem dX12_game_120 : decode cX12_game 120 = .ok (.goto (-78), 3) := by decide +kernel
theorem dX12_game_123 : decode cX12_game 123 = .ok (.iinc 3 1, 3) := by decide +kernel
theorem dX12_game_126 : decode cX12_game 126 = .ok (.goto (-92), 3) := by decide +kernel
theorem dX12_game_129 : decode cX12_game 129 = .ok (.iload_n 2, 1) := by decide +kernel
theorem dX12_game_130 : decode cX12_game 130 = .ok (.ireturn, 1) := by decide +kernel
theorem dX12_odds_0 : decode cX12_odds 0 = .ok (.aload_n 0, 1) := by decide +kernel
theorem dX12_odds_1 : decode cX12_odds 1 = .ok (.iconst 0, 1) := by decide +kernel
theorem dX12_odds_2 : decode cX12_odds 2 = .ok (.putfield 3, 3) := by decide +kernel
theorem dX12_odds_5 : decode cX12_odds 5 = .ok (.aload_n 0, 1) := by decide +kernel
theorem dX12_odds_6 : decode cX12_odds 6 = .ok (.aload_n 0, 1) := by decide +kernel
theorem dX12_odds_7 : decode cX12_odds 7 = .ok (.iload_n 1, 1) := by decide +kernel
theorem dX12_odds_8 : decode cX12_odds 8 = .ok (.invokevirtual 299, 3) := by decide +kernel
theorem dX12_odds_11 : decode cX12_odds 11 = .ok (.iconst 1, 1) := by decide +kernel
theorem dX12_odds_12 : decode cX12_odds 12 = .ok (.invokevirtual 246, 3) := by decide +kernel
theorem dX12_odds_15 : decode cX12_odds 15 = .ok (.ifCond .eq 7, 3) := by decide +kernel
theorem dX12_odds_18 : decode cX12_odds 18 = .ok (.iconst 0, 1) := by decide +kernel
theorem dX12_odds_19 : decode cX12_odds 19 = .ok (.goto 31, 3) := by decide +kernel
theorem dX12_odds_22 : decode cX12_odds 22 = .ok (.bipush 100, 2) := by decide +kernel
theorem dX12_odds_24 : decode cX12_odds 24 = .ok (.aload_n 0, 1) := by decide +kernel
theorem dX12_odds_25 : decode cX12_odds 25 = .ok (.getfield 13, 3) := by decide +kernel
theorem dX12_odds_28 : decode cX12_odds 28 = .ok (.bipush 7, 2) := by decide +kernel
theorem dX12_odds_30 : decode cX12_odds 30 = .ok (.iaload, 1) := by decide +kernel
theorem dX12_odds_31 : decode cX12_odds 31 = .ok (.imul, 1) := by decide +kernel
theorem dX12_odds_32 : decode cX12_odds 32 = .ok (.bipush 100, 2) := by decide +kernel
theorem dX12_odds_34 : decode cX12_odds 34 = .ok (.aload_n 0, 1) := by decide +kernel
theorem dX12_odds_35 : decode cX12_odds 35 = .ok (.getfield 13, 3) := by decide +kernel
theorem dX12_odds_38 : decode cX12_odds 38 = .ok (.bipush 7, 2) := by decide +kernel
theorem dX12_odds_40 : decode cX12_odds 40 = .ok (.iaload, 1) := by decide +kernel
theorem dX12_odds_41 : decode cX12_odds 41 = .ok (.isub, 1) := by decide +kernel
theorem dX12_odds_42 : decode cX12_odds 42 = .ok (.aload_n 0, 1) := by decide +kernel
theorem dX12_odds_43 : decode cX12_odds 43 = .ok (.iload_n 1, 1) := by decide +kernel
theorem dX12_odds_44 : decode cX12_odds 44 = .ok (.iconst 4, 1) := by decide +kernel
theorem dX12_odds_45 : decode cX12_odds 45 = .ok (.invokevirtual 255, 3) := by decide +kernel
theorem dX12_odds_48 : decode cX12_odds 48 = .ok (.imul, 1) := by decide +kernel
theorem dX12_odds_49 : decode cX12_odds 49 = .ok (.iadd, 1) := by decide +kernel
theorem dX12_odds_50 : decode cX12_odds 50 = .ok (.ireturn, 1) := by decide +kernel
theorem dX12_window_0 : decode cX12_window 0 = .ok (.aload_n 0, 1) := by decide +kernel
theorem dX12_window_1 : decode cX12_window 1 = .ok (.iconst 0, 1) := by decide +kernel
theorem dX12_window_2 : decode cX12_window 2 = .ok (.putfield 3, 3) := by decide +kernel
theorem dX12_window_5 : decode cX12_window 5 = .ok (.aload_n 0, 1) := by decide +kernel
theorem dX12_window_6 : decode cX12_window 6 = .ok (.aload_n 0, 1) := by decide +kernel
theorem dX12_window_7 : decode cX12_window 7 = .ok (.iload_n 1, 1) := by decide +kernel
theorem dX12_window_8 : decode cX12_window 8 = .ok (.invokevirtual 299, 3) := by decide +kernel
theorem dX12_window_11 : decode cX12_window 11 = .ok (.iconst 1, 1) := by decide +kernel
theorem dX12_window_12 : decode cX12_window 12 = .ok (.invokevirtual 246, 3) := by decide +kernel
theorem dX12_window_15 : decode cX12_window 15 = .ok (.ifCond .eq 7, 3) := by decide +kernel
theorem dX12_window_18 : decode cX12_window 18 = .ok (.iconst 0, 1) := by decide +kernel
theorem dX12_window_19 : decode cX12_window 19 = .ok (.goto 22, 3) := by decide +kernel
theorem dX12_window_22 : decode cX12_window 22 = .ok (.iconst 0, 1) := by decide +kernel
theorem dX12_window_23 : decode cX12_window 23 = .ok (.aload_n 0, 1) := by decide +kernel
theorem dX12_window_24 : decode cX12_window 24 = .ok (.iload_n 1, 1) := by decide +kernel
theorem dX12_window_25 : decode cX12_window 25 = .ok (.iconst 2, 1) := by decide +kernel
theorem dX12_window_26 : decode cX12_window 26 = .ok (.invokevirtual 255, 3) := by decide +kernel
theorem dX12_window_29 : decode cX12_window 29 = .ok (.bipush 6, 2) := by decide +kernel
theorem dX12_window_31 : decode cX12_window 31 = .ok (.isub, 1) := by decide +kernel
theorem dX12_window_32 : decode cX12_window 32 = .ok (.invokestatic 370, 3) := by decide +kernel
theorem dX12_window_35 : decode cX12_window 35 = .ok (.aload_n 0, 1) := by decide +kernel
theorem dX12_window_36 : decode cX12_window 36 = .ok (.iload_n 1, 1) := by decide +kernel
theorem dX12_window_37 : decode cX12_window 37 = .ok (.invokevirtual 293, 3) := by decide +kernel
theorem dX12_window_40 : decode cX12_window 40 = .ok (.isub, 1) := by decide +kernel
theorem dX12_window_41 : decode cX12_window 41 = .ok (.ireturn, 1) := by decide +kernel
theorem dX12_alike_0 : decode cX12_alike 0 = .ok (.aload_n 0, 1) := by decide +kernel
theorem dX12_alike_1 : decode cX12_alike 1 = .ok (.iconst 0, 1) := by decide +kernel
theorem dX12_alike_2 : decode cX12_alike 2 = .ok (.putfield 3, 3) := by decide +kernel
theorem dX12_alike_5 : decode cX12_alike 5 = .ok (.iconst 0, 1) := by decide +kernel
theorem dX12_alike_6 : decode cX12_alike 6 = .ok (.istore_n 1, 1) := by decide +kernel
theorem dX12_alike_7 : decode cX12_alike 7 = .ok (.iconst 0, 1) := by decide +kernel
theorem dX12_alike_8 : decode cX12_alike 8 = .ok (.istore_n 2, 1) := by decide +kernel
theorem dX12_alike_9 : decode cX12_alike 9 = .ok (.iload_n 2, 1) := by decide +kernel
theorem dX12_alike_10 : decode cX12_alike 10 = .ok (.aload_n 0, 1) := by decide +kernel
theorem dX12_alike_11 : decode cX12_alike 11 = .ok (.invokevirtual 59, 3) := by decide +kernel
theorem dX12_alike_14 : decode cX12_alike 14 = .ok (.if_icmp .ge 56, 3) := by decide +kernel
theorem dX12_alike_17 : decode cX12_alike 17 = .ok (.iconst 0, 1) := by decide +kernel
theorem dX12_alike_18 : decode cX12_alike 18 = .ok (.istore_n 3, 1) := by decide +kernel
theorem dX12_alike_19 : decode cX12_alike 19 = .ok (.iload_n 3, 1) := by decide +kernel
theorem dX12_alike_20 : decode cX12_alike 20 = .ok (.iload_n 2, 1) := by decide +kernel
theorem dX12_alike_21 : decode cX12_alike 21 = .ok (.if_icmp .ge 43, 3) := by decide +kernel
theorem dX12_alike_24 : decode cX12_alike 24 = .ok (.iload_n 1, 1) := by decide +kernel
theorem dX12_alike_25 : decode cX12_alike 25 = .ok (.aload_n 0, 1) := by decide +kernel
theorem dX12_alike_26 : decode cX12_alike 26 = .ok (.iload_n 2, 1) := by decide +kernel
theorem dX12_alike_27 : decode cX12_alike 27 = .ok (.invokevirtual 305, 3) := by decide +kernel
theorem dX12_alike_30 : decode cX12_alike 30 = .ok (.aload_n 0, 1) := by decide +kernel
theorem dX12_alike_31 : decode cX12_alike 31 = .ok (.iload_n 3, 1) := by decide +kernel
theorem dX12_alike_32 : decode cX12_alike 32 = .ok (.invokevirtual 305, 3) := by decide +kernel
theorem dX12_alike_35 : decode cX12_alike 35 = .ok (.if_icmp .ne 20, 3) := by decide +kernel
theorem dX12_alike_38 : decode cX12_alike 38 = .ok (.aload_n 0, 1) := by decide +kernel
theorem dX12_alike_39 : decode cX12_alike 39 = .ok (.iload_n 2, 1) := by decide +kernel
theorem dX12_alike_40 : decode cX12_alike 40 = .ok (.invokevirtual 293, 3) := by decide +kernel
theorem dX12_alike_43 : decode cX12_alike 43 = .ok (.aload_n 0, 1) := by decide +kernel
theorem dX12_alike_44 : decode cX12_alike 44 = .ok (.iload_n 3, 1) := by decide +kernel
theorem dX12_alike_45 : decode cX12_alike 45 = .ok (.invokevirtual 293, 3) := by decide +kernel
theorem dX12_alike_48 : decode cX12_alike 48 = .ok (.if_icmp .ne 7, 3) := by decide +kernel
theorem dX12_alike_51 : decode cX12_alike 51 = .ok (.iconst 1, 1) := by decide +kernel
theorem dX12_alike_52 : decode cX12_alike 52 = .ok (.goto 4, 3) := by decide +kernel
theorem dX12_alike_55 : decode cX12_alike 55 = .ok (.iconst 0, 1) := by decide +kernel
theorem dX12_alike_56 : decode cX12_alike 56 = .ok (.iadd, 1) := by decide +kernel
theorem dX12_alike_57 : decode cX12_alike 57 = .ok (.istore_n 1, 1) := by decide +kernel
theorem dX12_alike_58 : decode cX12_alike 58 = .ok (.iinc 3 1, 3) := by decide +kernel
theorem dX12_alike_61 : decode cX12_alike 61 = .ok (.goto (-42), 3) := by decide +kernel
theorem dX12_alike_64 : decode cX12_alike 64 = .ok (.iinc 2 1, 3) := by decide +kernel
theorem dX12_alike_67 : decode cX12_alike 67 = .ok (.goto (-58), 3) := by decide +kernel
theorem dX12_alike_70 : decode cX12_alike 70 = .ok (.iload_n 1, 1) := by decide +kernel
theorem dX12_alike_71 : decode cX12_alike 71 = .ok (.ireturn, 1) := by decide +kernel
theorem dX12_coldest_0 : decode cX12_coldest 0 = .ok (.aload_n 0, 1) := by decide +kernel
theorem dX12_coldest_1 : decode cX12_coldest 1 = .ok (.iconst 0, 1) := by decide +kernel
theorem dX12_coldest_2 : decode cX12_coldest 2 = .ok (.putfield 3, 3) := by decide +kernel
theorem dX12_coldest_5 : decode cX12_coldest 5 = .ok (.iconst (-1), 1) := by decide +kernel
theorem dX12_coldest_6 : decode cX12_coldest 6 = .ok (.istore_n 1, 1) := by decide +kernel
theorem dX12_coldest_7 : decode cX12_coldest 7 = .ok (.iconst 0, 1) := by decide +kernel
theorem dX12_coldest_8 : decode cX12_coldest 8 = .ok (.istore_n 2, 1) := by decide +kernel
theorem dX12_coldest_9 : decode cX12_coldest 9 = .ok (.iload_n 2, 1) := by decide +kernel
theorem dX12_coldest_10 : decode cX12_coldest 10 = .ok (.aload_n 0, 1) := by decide +kernel
theorem dX12_coldest_11 : decode cX12_coldest 11 = .ok (.invokevirtual 59, 3) := by decide +kernel
theorem dX12_coldest_14 : decode cX12_coldest 14 = .ok (.if_icmp .ge 29, 3) := by decide +kernel
theorem dX12_coldest_17 : decode cX12_coldest 17 = .ok (.iload_n 1, 1) := by decide +kernel
theorem dX12_coldest_18 : decode cX12_coldest 18 = .ok (.iconst (-1), 1) := by decide +kernel
theorem dX12_coldest_19 : decode cX12_coldest 19 = .ok (.if_icmp .eq 16, 3) := by decide +kernel
theorem dX12_coldest_22 : decode cX12_coldest 22 = .ok (.aload_n 0, 1) := by decide +kernel
theorem dX12_coldest_23 : decode cX12_coldest 23 = .ok (.iload_n 2, 1) := by decide +kernel
theorem dX12_coldest_24 : decode cX12_coldest 24 = .ok (.invokevirtual 305, 3) := by decide +kernel
theorem dX12_coldest_27 : decode cX12_coldest 27 = .ok (.aload_n 0, 1) := by decide +kernel
theorem dX12_coldest_28 : decode cX12_coldest 28 = .ok (.iload_n 1, 1) := by decide +kernel
theorem dX12_coldest_29 : decode cX12_coldest 29 = .ok (.invokevirtual 305, 3) := by decide +kernel
theorem dX12_coldest_32 : decode cX12_coldest 32 = .ok (.if_icmp .ge 5, 3) := by decide +kernel
theorem dX12_coldest_35 : decode cX12_coldest 35 = .ok (.iload_n 2, 1) := by decide +kernel
theorem dX12_coldest_36 : decode cX12_coldest 36 = .ok (.istore_n 1, 1) := by decide +kernel
theorem dX12_coldest_37 : decode cX12_coldest 37 = .ok (.iinc 2 1, 3) := by decide +kernel
theorem dX12_coldest_40 : decode cX12_coldest 40 = .ok (.goto (-31), 3) := by decide +kernel
theorem dX12_coldest_43 : decode cX12_coldest 43 = .ok (.iload_n 1, 1) := by decide +kernel
theorem dX12_coldest_44 : decode cX12_coldest 44 = .ok (.ireturn, 1) := by decide +kernel
theorem dX12_crowd_0 : decode cX12_crowd 0 = .ok (.aload_n 0, 1) := by decide +kernel
theorem dX12_crowd_1 : decode cX12_crowd 1 = .ok (.iconst 0, 1) := by decide +kernel
theorem dX12_crowd_2 : decode cX12_crowd 2 = .ok (.putfield 3, 3) := by decide +kernel
theorem dX12_crowd_5 : decode cX12_crowd 5 = .ok (.aload_n 0, 1) := by decide +kernel
theorem dX12_crowd_6 : decode cX12_crowd 6 = .ok (.aload_n 0, 1) := by decide +kernel
theorem dX12_crowd_7 : decode cX12_crowd 7 = .ok (.iload_n 1, 1) := by decide +kernel
theorem dX12_crowd_8 : decode cX12_crowd 8 = .ok (.invokevirtual 299, 3) := by decide +kernel
theorem dX12_crowd_11 : decode cX12_crowd 11 = .ok (.iconst 1, 1) := by decide +kernel
theorem dX12_crowd_12 : decode cX12_crowd 12 = .ok (.invokevirtual 246, 3) := by decide +kernel
theorem dX12_crowd_15 : decode cX12_crowd 15 = .ok (.ifCond .eq 5, 3) := by decide +kernel
theorem dX12_crowd_18 : decode cX12_crowd 18 = .ok (.iconst 0, 1) := by decide +kernel
theorem dX12_crowd_19 : decode cX12_crowd 19 = .ok (.ireturn, 1) := by decide +kernel
theorem dX12_crowd_20 : decode cX12_crowd 20 = .ok (.iconst (-1), 1) := by decide +kernel
theorem dX12_crowd_21 : decode cX12_crowd 21 = .ok (.istore_n 2, 1) := by decide +kernel
theorem dX12_crowd_22 : decode cX12_crowd 22 = .ok (.iconst 0, 1) := by decide +kernel
theorem dX12_crowd_23 : decode cX12_crowd 23 = .ok (.istore_n 3, 1) := by decide +kernel
theorem dX12_crowd_24 : decode cX12_crowd 24 = .ok (.iconst 0, 1) := by decide +kernel
theorem dX12_crowd_25 : decode cX12_crowd 25 = .ok (.istore 4, 2) := by decide +kernel
theorem dX12_crowd_27 : decode cX12_crowd 27 = .ok (.iload 4, 2) := by decide +kernel
theorem dX12_crowd_29 : decode cX12_crowd 29 = .ok (.bipush 10, 2) := by decide +kernel
theorem dX12_crowd_31 : decode cX12_crowd 31 = .ok (.if_icmp .ge 82, 3) := by decide +kernel
theorem dX12_crowd_34 : decode cX12_crowd 34 = .ok (.iconst 0, 1) := by decide +kernel
theorem dX12_crowd_35 : decode cX12_crowd 35 = .ok (.istore 5, 2) := by decide +kernel
theorem dX12_crowd_37 : decode cX12_crowd 37 = .ok (.iconst 0, 1) := by decide +kernel
theorem dX12_crowd_38 : decode cX12_crowd 38 = .ok (.istore 6, 2) := by decide +kernel
theorem dX12_crowd_40 : decode cX12_crowd 40 = .ok (.iload 6, 2) := by decide +kernel
theorem dX12_crowd_42 : decode cX12_crowd 42 = .ok (.aload_n 0, 1) := by decide +kernel
theorem dX12_crowd_43 : decode cX12_crowd 43 = .ok (.invokevirtual 67, 3) := by decide +kernel
theorem dX12_crowd_46 : decode cX12_crowd 46 = .ok (.if_icmp .ge 41, 3) := by decide +kernel
theorem dX12_crowd_49 : decode cX12_crowd 49 = .ok (.iload 5, 2) := by decide +kernel
theorem dX12_crowd_51 : decode cX12_crowd 51 = .ok (.aload_n 0, 1) := by decide +kernel
theorem dX12_crowd_52 : decode cX12_crowd 52 = .ok (.iload 6, 2) := by decide +kernel
theorem dX12_crowd_54 : decode cX12_crowd 54 = .ok (.iload_n 1, 1) := by decide +kernel
theorem dX12_crowd_55 : decode cX12_crowd 55 = .ok (.invokevirtual 70, 3) := by decide +kernel
theorem dX12_crowd_58 : decode cX12_crowd 58 = .ok (.ifCond .eq 19, 3) := by decide +kernel
theorem dX12_crowd_61 : decode cX12_crowd 61 = .ok (.aload_n 0, 1) := by decide +kernel
theorem dX12_crowd_62 : decode cX12_crowd 62 = .ok (.iload 6, 2) := by decide +kernel
theorem dX12_crowd_64 : decode cX12_crowd 64 = .ok (.iconst 2, 1) := by decide +kernel
theorem dX12_crowd_65 : decode cX12_crowd 65 = .ok (.invokevirtual 56, 3) := by decide +kernel
theorem dX12_crowd_68 : decode cX12_crowd 68 = .ok (.iload 4, 2) := by decide +kernel
theorem dX12_crowd_70 : decode cX12_crowd 70 = .ok (.if_icmp .ne 7, 3) := by decide +kernel
theorem dX12_crowd_73 : decode cX12_crowd 73 = .ok (.iconst 1, 1) := by decide +kernel
theorem dX12_crowd_74 : decode cX12_crowd 74 = .ok (.goto 4, 3) := by decide +kernel
theorem dX12_crowd_77 : decode cX12_crowd 77 = .ok (.iconst 0, 1) := by decide +kernel
theorem dX12_crowd_78 : decode cX12_crowd 78 = .ok (.iadd, 1) := by decide +kernel
theorem dX12_crowd_79 : decode cX12_crowd 79 = .ok (.istore 5, 2) := by decide +kernel
theorem dX12_crowd_81 : decode cX12_crowd 81 = .ok (.iinc 6 1, 3) := by decide +kernel
theorem dX12_crowd_84 : decode cX12_crowd 84 = .ok (.goto (-44), 3) := by decide +kernel
theorem dX12_crowd_87 : decode cX12_crowd 87 = .ok (.iload 5, 2) := by decide +kernel
theorem dX12_crowd_89 : decode cX12_crowd 89 = .ok (.iload_n 3, 1) := by decide +kernel
theorem dX12_crowd_90 : decode cX12_crowd 90 = .ok (.if_icmp .le 8, 3) := by decide +kernel
theorem dX12_crowd_93 : decode cX12_crowd 93 = .ok (.iload 4, 2) := by decide +kernel
theorem dX12_crowd_95 : decode cX12_crowd 95 = .ok (.goto 4, 3) := by decide +kernel
theorem dX12_crowd_98 : decode cX12_crowd 98 = .ok (.iload_n 2, 1) := by decide +kernel
theorem dX12_crowd_99 : decode cX12_crowd 99 = .ok (.istore_n 2, 1) := by decide +kernel
theorem dX12_crowd_100 : decode cX12_crowd 100 = .ok (.iload_n 3, 1) := by decide +kernel
theorem dX12_crowd_101 : decode cX12_crowd 101 = .ok (.iload 5, 2) := by decide +kernel
theorem dX12_crowd_103 : decode cX12_crowd 103 = .ok (.invokestatic 370, 3) := by decide +kernel
theorem dX12_crowd_106 : decode cX12_crowd 106 = .ok (.istore_n 3, 1) := by decide +kernel
theorem dX12_crowd_107 : decode cX12_crowd 107 = .ok (.iinc 4 1, 3) := by decide +kernel
theorem dX12_crowd_110 : decode cX12_crowd 110 = .ok (.goto (-83), 3) := by decide +kernel
theorem dX12_crowd_113 : decode cX12_crowd 113 = .ok (.iload_n 2, 1) := by decide +kernel
theorem dX12_crowd_114 : decode cX12_crowd 114 = .ok (.ireturn, 1) := by decide +kernel
theorem dX12_free_0 : decode cX12_free 0 = .ok (.aload_n 0, 1) := by decide +kernel
theorem dX12_free_1 : decode cX12_free 1 = .ok (.iconst 0, 1) := by decide +kernel
theorem dX12_free_2 : decode cX12_free 2 = .ok (.putfield 3, 3) := by decide +kernel
theorem dX12_free_5 : decode cX12_free 5 = .ok (.iconst 0, 1) := by decide +kernel
theorem dX12_free_6 : decode cX12_free 6 = .ok (.istore_n 1, 1) := by decide +kernel
theorem dX12_free_7 : decode cX12_free 7 = .ok (.iconst 0, 1) := by decide +kernel
theorem dX12_free_8 : decode cX12_free 8 = .ok (.istore_n 2, 1) := by decide +kernel
theorem dX12_free_9 : decode cX12_free 9 = .ok (.iload_n 2, 1) := by decide +kernel
theorem dX12_free_10 : decode cX12_free 10 = .ok (.aload_n 0, 1) := by decide +kernel
theorem dX12_free_11 : decode cX12_free 11 = .ok (.invokevirtual 67, 3) := by decide +kernel
theorem dX12_free_14 : decode cX12_free 14 = .ok (.if_icmp .ge 35, 3) := by decide +kernel
theorem dX12_free_17 : decode cX12_free 17 = .ok (.iload_n 1, 1) := by decide +kernel
theorem dX12_free_18 : decode cX12_free 18 = .ok (.aload_n 0, 1) := by decide +kernel
theorem dX12_free_19 : decode cX12_free 19 = .ok (.iload_n 2, 1) := by decide +kernel
theorem dX12_free_20 : decode cX12_free 20 = .ok (.invokevirtual 264, 3) := by decide +kernel
theorem dX12_free_23 : decode cX12_free 23 = .ok (.ifCond .ne 17, 3) := by decide +kernel
theorem dX12_free_26 : decode cX12_free 26 = .ok (.aload_n 0, 1) := by decide +kernel
theorem dX12_free_27 : decode cX12_free 27 = .ok (.iload_n 2, 1) := by decide +kernel
theorem dX12_free_28 : decode cX12_free 28 = .ok (.invokevirtual 278, 3) := by decide +kernel
theorem dX12_free_31 : decode cX12_free 31 = .ok (.ifCond .ne 9, 3) := by decide +kernel
theorem dX12_free_34 : decode cX12_free 34 = .ok (.iconst 1, 1) := by decide +kernel
theorem dX12_free_35 : decode cX12_free 35 = .ok (.iload_n 2, 1) := by decide +kernel
theorem dX12_free_36 : decode cX12_free 36 = .ok (.ishl, 1) := by decide +kernel
theorem dX12_free_37 : decode cX12_free 37 = .ok (.goto 4, 3) := by decide +kernel
theorem dX12_free_40 : decode cX12_free 40 = .ok (.iconst 0, 1) := by decide +kernel
theorem dX12_free_41 : decode cX12_free 41 = .ok (.ior, 1) := by decide +kernel
theorem dX12_free_42 : decode cX12_free 42 = .ok (.istore_n 1, 1) := by decide +kernel
theorem dX12_free_43 : decode cX12_free 43 = .ok (.iinc 2 1, 3) := by decide +kernel
theorem dX12_free_46 : decode cX12_free 46 = .ok (.goto (-37), 3) := by decide +kernel
theorem dX12_free_49 : decode cX12_free 49 = .ok (.iload_n 1, 1) := by decide +kernel
theorem dX12_free_50 : decode cX12_free 50 = .ok (.ireturn, 1) := by decide +kernel
theorem dX12_hidden_0 : decode cX12_hidden 0 = .ok (.aload_n 0, 1) := by decide +kernel
theorem dX12_hidden_1 : decode cX12_hidden 1 = .ok (.iconst 0, 1) := by decide +kernel
theorem dX12_hidden_2 : decode cX12_hidden 2 = .ok (.putfield 3, 3) := by decide +kernel
theorem dX12_hidden_5 : decode cX12_hidden 5 = .ok (.aload_n 0, 1) := by decide +kernel
theorem dX12_hidden_6 : decode cX12_hidden 6 = .ok (.iconst 2, 1) := by decide +kernel
theorem dX12_hidden_7 : decode cX12_hidden 7 = .ok (.invokevirtual 249, 3) := by decide +kernel
theorem dX12_hidden_10 : decode cX12_hidden 10 = .ok (.ireturn, 1) := by decide +kernel
theorem dX12_cheapest_0 : decode cX12_cheapest 0 = .ok (.aload_n 0, 1) := by decide +kernel
theorem dX12_cheapest_1 : decode cX12_cheapest 1 = .ok (.iconst 0, 1) := by decide +kernel
theorem dX12_cheapest_2 : decode cX12_cheapest 2 = .ok (.putfield 3, 3) := by decide +kernel
theorem dX12_cheapest_5 : decode cX12_cheapest 5 = .ok (.iconst (-1), 1) := by decide +kernel
theorem dX12_cheapest_6 : decode cX12_cheapest 6 = .ok (.istore_n 1, 1) := by decide +kernel
theorem dX12_cheapest_7 : decode cX12_cheapest 7 = .ok (.iconst 0, 1) := by decide +kernel
theorem dX12_cheapest_8 : decode cX12_cheapest 8 = .ok (.istore_n 2, 1) := by decide +kernel
theorem dX12_cheapest_9 : decode cX12_cheapest 9 = .ok (.iload_n 2, 1) := by decide +kernel
theorem dX12_cheapest_10 : decode cX12_cheapest 10 = .ok (.aload_n 0, 1) := by decide +kernel
theorem dX12_cheapest_11 : decode cX12_cheapest 11 = .ok (.invokevirtual 67, 3) := by decide +kernel
theorem dX12_cheapest_14 : decode cX12_cheapest 14 = .ok (.if_icmp .ge 62, 3) := by decide +kernel
theorem dX12_cheapest_17 : decode cX12_cheapest 17 = .ok (.aload_n 0, 1) := by decide +kernel
theorem dX12_cheapest_18 : decode cX12_cheapest 18 = .ok (.iload_n 2, 1) := by decide +kernel
theorem dX12_cheapest_19 : decode cX12_cheapest 19 = .ok (.invokevirtual 264, 3) := by decide +kernel
theorem dX12_cheapest_22 : decode cX12_cheapest 22 = .ok (.ifCond .ne 48, 3) := by decide +kernel
theorem dX12_cheapest_25 : decode cX12_cheapest 25 = .ok (.aload_n 0, 1) := by decide +kernel
theorem dX12_cheapest_26 : decode cX12_cheapest 26 = .ok (.iload_n 2, 1) := by decide +kernel
theorem dX12_cheapest_27 : decode cX12_cheapest 27 = .ok (.invokevirtual 278, 3) := by decide +kernel
theorem dX12_cheapest_30 : decode cX12_cheapest 30 = .ok (.ifCond .ne 6, 3) := by decide +kernel
theorem dX12_cheapest_33 : decode cX12_cheapest 33 = .ok (.goto 37, 3) := by decide +kernel
theorem dX12_cheapest_36 : decode cX12_cheapest 36 = .ok (.iload_n 1, 1) := by decide +kernel
theorem dX12_cheapest_37 : decode cX12_cheapest 37 = .ok (.iconst (-1), 1) := by decide +kernel
theorem dX12_cheapest_38 : decode cX12_cheapest 38 = .ok (.if_icmp .eq 30, 3) := by decide +kernel
theorem dX12_cheapest_41 : decode cX12_cheapest 41 = .ok (.aload_n 0, 1) := by decide +kernel
theorem dX12_cheapest_42 : decode cX12_cheapest 42 = .ok (.iload_n 2, 1) := by decide +kernel
theorem dX12_cheapest_43 : decode cX12_cheapest 43 = .ok (.iconst 4, 1) := by decide +kernel
theorem dX12_cheapest_44 : decode cX12_cheapest 44 = .ok (.invokevirtual 56, 3) := by decide +kernel
theorem dX12_cheapest_47 : decode cX12_cheapest 47 = .ok (.aload_n 0, 1) := by decide +kernel
theorem dX12_cheapest_48 : decode cX12_cheapest 48 = .ok (.iload_n 1, 1) := by decide +kernel
theorem dX12_cheapest_49 : decode cX12_cheapest 49 = .ok (.invokevirtual 278, 3) := by decide +kernel
theorem dX12_cheapest_52 : decode cX12_cheapest 52 = .ok (.imul, 1) := by decide +kernel
theorem dX12_cheapest_53 : decode cX12_cheapest 53 = .ok (.aload_n 0, 1) := by decide +kernel
theorem dX12_cheapest_54 : decode cX12_cheapest 54 = .ok (.iload_n 1, 1) := by decide +kernel
theorem dX12_cheapest_55 : decode cX12_cheapest 55 = .ok (.iconst 4, 1) := by decide +kernel
theorem dX12_cheapest_56 : decode cX12_cheapest 56 = .ok (.invokevirtual 56, 3) := by decide +kernel
theorem dX12_cheapest_59 : decode cX12_cheapest 59 = .ok (.aload_n 0, 1) := by decide +kernel
theorem dX12_cheapest_60 : decode cX12_cheapest 60 = .ok (.iload_n 2, 1) := by decide +kernel
theorem dX12_cheapest_61 : decode cX12_cheapest 61 = .ok (.invokevirtual 278, 3) := by decide +kernel
theorem dX12_cheapest_64 : decode cX12_cheapest 64 = .ok (.imul, 1) := by decide +kernel
theorem dX12_cheapest_65 : decode cX12_cheapest 65 = .ok (.if_icmp .ge 5, 3) := by decide +kernel
theorem dX12_cheapest_68 : decode cX12_cheapest 68 = .ok (.iload_n 2, 1) := by decide +kernel
theorem dX12_cheapest_69 : decode cX12_cheapest 69 = .ok (.istore_n 1, 1) := by decide +kernel
theorem dX12_cheapest_70 : decode cX12_cheapest 70 = .ok (.iinc 2 1, 3) := by decide +kernel
theorem dX12_cheapest_73 : decode cX12_cheapest 73 = .ok (.goto (-64), 3) := by decide +kernel
theorem dX12_cheapest_76 : decode cX12_cheapest 76 = .ok (.iload_n 1, 1) := by decide +kernel
theorem dX12_cheapest_77 : decode cX12_cheapest 77 = .ok (.ireturn, 1) := by decide +kernel
theorem dX12_trial_0 : decode cX12_trial 0 = .ok (.aload_n 0, 1) := by decide +kernel
theorem dX12_trial_1 : decode cX12_trial 1 = .ok (.iconst 0, 1) := by decide +kernel
theorem dX12_trial_2 : decode cX12_trial 2 = .ok (.putfield 3, 3) := by decide +kernel
theorem dX12_trial_5 : decode cX12_trial 5 = .ok (.aload_n 0, 1) := by decide +kernel
theorem dX12_trial_6 : decode cX12_trial 6 = .ok (.iload_n 1, 1) := by decide +kernel
theorem dX12_trial_7 : decode cX12_trial 7 = .ok (.invokestatic 348, 3) := by decide +kernel
theorem dX12_trial_10 : decode cX12_trial 10 = .ok (.iconst 1, 1) := by decide +kernel
theorem dX12_trial_11 : decode cX12_trial 11 = .ok (.invokevirtual 246, 3) := by decide +kernel
theorem dX12_trial_14 : decode cX12_trial 14 = .ok (.ifCond .eq 5, 3) := by decide +kernel
theorem dX12_trial_17 : decode cX12_trial 17 = .ok (.iconst 0, 1) := by decide +kernel
theorem dX12_trial_18 : decode cX12_trial 18 = .ok (.ireturn, 1) := by decide +kernel
theorem dX12_trial_19 : decode cX12_trial 19 = .ok (.aload_n 0, 1) := by decide +kernel
theorem dX12_trial_20 : decode cX12_trial 20 = .ok (.invokevirtual 351, 3) := by decide +kernel
theorem dX12_trial_23 : decode cX12_trial 23 = .ok (.aload_n 0, 1) := by decide +kernel
theorem dX12_trial_24 : decode cX12_trial 24 = .ok (.iload_n 1, 1) := by decide +kernel
theorem dX12_trial_25 : decode cX12_trial 25 = .ok (.iconst 0, 1) := by decide +kernel
theorem dX12_trial_26 : decode cX12_trial 26 = .ok (.invokevirtual 344, 3) := by decide +kernel
theorem dX12_trial_29 : decode cX12_trial 29 = .ok (.pop, 1) := by decide +kernel
theorem dX12_trial_30 : decode cX12_trial 30 = .ok (.iload_n 2, 1) := by decide +kernel
theorem dX12_trial_31 : decode cX12_trial 31 = .ok (.ifCond .eq 11, 3) := by decide +kernel
theorem dX12_trial_34 : decode cX12_trial 34 = .ok (.aload_n 0, 1) := by decide +kernel
theorem dX12_trial_35 : decode cX12_trial 35 = .ok (.iconst 2, 1) := by decide +kernel
theorem dX12_trial_36 : decode cX12_trial 36 = .ok (.invokevirtual 249, 3) := by decide +kernel
theorem dX12_trial_39 : decode cX12_trial 39 = .ok (.goto 10, 3) := by decide +kernel
theorem dX12_trial_42 : decode cX12_trial 42 = .ok (.aload_n 0, 1) := by decide +kernel
theorem dX12_trial_43 : decode cX12_trial 43 = .ok (.getfield 13, 3) := by decide +kernel
theorem dX12_trial_46 : decode cX12_trial 46 = .ok (.bipush 9, 2) := by decide +kernel
theorem dX12_trial_48 : decode cX12_trial 48 = .ok (.iaload, 1) := by decide +kernel
theorem dX12_trial_49 : decode cX12_trial 49 = .ok (.istore_n 3, 1) := by decide +kernel
theorem dX12_trial_50 : decode cX12_trial 50 = .ok (.aload_n 0, 1) := by decide +kernel
theorem dX12_trial_51 : decode cX12_trial 51 = .ok (.invokevirtual 354, 3) := by decide +kernel
theorem dX12_trial_54 : decode cX12_trial 54 = .ok (.iload_n 3, 1) := by decide +kernel
theorem dX12_trial_55 : decode cX12_trial 55 = .ok (.ireturn, 1) := by decide +kernel
theorem dX12_span_0 : decode cX12_span 0 = .ok (.aload_n 0, 1) := by decide +kernel
theorem dX12_span_1 : decode cX12_span 1 = .ok (.iconst 0, 1) := by decide +kernel
theorem dX12_span_2 : decode cX12_span 2 = .ok (.putfield 3, 3) := by decide +kernel
theorem dX12_span_5 : decode cX12_span 5 = .ok (.aload_n 0, 1) := by decide +kernel
theorem dX12_span_6 : decode cX12_span 6 = .ok (.iload_n 1, 1) := by decide +kernel
theorem dX12_span_7 : decode cX12_span 7 = .ok (.invokestatic 348, 3) := by decide +kernel
theorem dX12_span_10 : decode cX12_span 10 = .ok (.iconst 1, 1) := by decide +kernel
theorem dX12_span_11 : decode cX12_span 11 = .ok (.invokevirtual 246, 3) := by decide +kernel
theorem dX12_span_14 : decode cX12_span 14 = .ok (.ifCond .eq 5, 3) := by decide +kernel
theorem dX12_span_17 : decode cX12_span 17 = .ok (.iconst 0, 1) := by decide +kernel
theorem dX12_span_18 : decode cX12_span 18 = .ok (.ireturn, 1) := by decide +kernel
theorem dX12_span_19 : decode cX12_span 19 = .ok (.aload_n 0, 1) := by decide +kernel
theorem dX12_span_20 : decode cX12_span 20 = .ok (.invokevirtual 351, 3) := by decide +kernel
theorem dX12_span_23 : decode cX12_span 23 = .ok (.iconst (-1), 1) := by decide +kernel
theorem dX12_span_24 : decode cX12_span 24 = .ok (.istore_n 3, 1) := by decide +kernel
theorem dX12_span_25 : decode cX12_span 25 = .ok (.iconst 1, 1) := by decide +kernel
theorem dX12_span_26 : decode cX12_span 26 = .ok (.istore 4, 2) := by decide +kernel
theorem dX12_span_28 : decode cX12_span 28 = .ok (.iload 4, 2) := by decide +kernel
theorem dX12_span_30 : decode cX12_span 30 = .ok (.bipush 6, 2) := by decide +kernel
theorem dX12_span_32 : decode cX12_span 32 = .ok (.if_icmp .gt 67, 3) := by decide +kernel
theorem dX12_span_35 : decode cX12_span 35 = .ok (.aload_n 0, 1) := by decide +kernel
theorem dX12_span_36 : decode cX12_span 36 = .ok (.getfield 13, 3) := by decide +kernel
theorem dX12_span_39 : decode cX12_span 39 = .ok (.bipush 11, 2) := by decide +kernel
theorem dX12_span_41 : decode cX12_span 41 = .ok (.iload 4, 2) := by decide +kernel
theorem dX12_span_43 : decode cX12_span 43 = .ok (.iastore, 1) := by decide +kernel
theorem dX12_span_44 : decode cX12_span 44 = .ok (.aload_n 0, 1) := by decide +kernel
theorem dX12_span_45 : decode cX12_span 45 = .ok (.iload_n 1, 1) := by decide +kernel
theorem dX12_span_46 : decode cX12_span 46 = .ok (.iconst 0, 1) := by decide +kernel
theorem dX12_span_47 : decode cX12_span 47 = .ok (.invokevirtual 344, 3) := by decide +kernel
theorem dX12_span_50 : decode cX12_span 50 = .ok (.pop, 1) := by decide +kernel
theorem dX12_span_51 : decode cX12_span 51 = .ok (.aload_n 0, 1) := by decide +kernel
theorem dX12_span_52 : decode cX12_span 52 = .ok (.getfield 13, 3) := by decide +kernel
theorem dX12_span_55 : decode cX12_span 55 = .ok (.bipush 9, 2) := by decide +kernel
theorem dX12_span_57 : decode cX12_span 57 = .ok (.iaload, 1) := by decide +kernel
theorem dX12_span_58 : decode cX12_span 58 = .ok (.istore 5, 2) := by decide +kernel
theorem dX12_span_60 : decode cX12_span 60 = .ok (.aload_n 0, 1) := by decide +kernel
theorem dX12_span_61 : decode cX12_span 61 = .ok (.invokevirtual 354, 3) := by decide +kernel
theorem dX12_span_64 : decode cX12_span 64 = .ok (.iload_n 3, 1) := by decide +kernel
theorem dX12_span_65 : decode cX12_span 65 = .ok (.ifCond .ge 8, 3) := by decide +kernel
theorem dX12_span_68 : decode cX12_span 68 = .ok (.iload 5, 2) := by decide +kernel
theorem dX12_span_70 : decode cX12_span 70 = .ok (.goto 22, 3) := by decide +kernel
theorem dX12_span_73 : decode cX12_span 73 = .ok (.iload_n 2, 1) := by decide +kernel
theorem dX12_span_74 : decode cX12_span 74 = .ok (.ifCond .eq 12, 3) := by decide +kernel
theorem dX12_span_77 : decode cX12_span 77 = .ok (.iload_n 3, 1) := by decide +kernel
theorem dX12_span_78 : decode cX12_span 78 = .ok (.iload 5, 2) := by decide +kernel
theorem dX12_span_80 : decode cX12_span 80 = .ok (.invokestatic 370, 3) := by decide +kernel
theorem dX12_span_83 : decode cX12_span 83 = .ok (.goto 9, 3) := by decide +kernel
theorem dX12_span_86 : decode cX12_span 86 = .ok (.iload_n 3, 1) := by decide +kernel
theorem dX12_span_87 : decode cX12_span 87 = .ok (.iload 5, 2) := by decide +kernel
theorem dX12_span_89 : decode cX12_span 89 = .ok (.invokestatic 270, 3) := by decide +kernel
theorem dX12_span_92 : decode cX12_span 92 = .ok (.istore_n 3, 1) := by decide +kernel
theorem dX12_span_93 : decode cX12_span 93 = .ok (.iinc 4 1, 3) := by decide +kernel
theorem dX12_span_96 : decode cX12_span 96 = .ok (.goto (-68), 3) := by decide +kernel
theorem dX12_span_99 : decode cX12_span 99 = .ok (.iload_n 3, 1) := by decide +kernel
theorem dX12_span_100 : decode cX12_span 100 = .ok (.ireturn, 1) := by decide +kernel
theorem dX12_ofLog_0 : decode cX12_ofLog 0 = .ok (.aload_n 0, 1) := by decide +kernel
theorem dX12_ofLog_1 : decode cX12_ofLog 1 = .ok (.getfield 13, 3) := by decide +kernel
theorem dX12_ofLog_4 : decode cX12_ofLog 4 = .ok (.bipush 114, 2) := by decide +kernel
theorem dX12_ofLog_6 : decode cX12_ofLog 6 = .ok (.iconst 4, 1) := by decide +kernel
theorem dX12_ofLog_7 : decode cX12_ofLog 7 = .ok (.iload_n 1, 1) := by decide +kernel
theorem dX12_ofLog_8 : decode cX12_ofLog 8 = .ok (.imul, 1) := by decide +kernel
theorem dX12_ofLog_9 : decode cX12_ofLog 9 = .ok (.iadd, 1) := by decide +kernel
theorem dX12_ofLog_10 : decode cX12_ofLog 10 = .ok (.iload_n 2, 1) := by decide +kernel
theorem dX12_ofLog_11 : decode cX12_ofLog 11 = .ok (.iadd, 1) := by decide +kernel
theorem dX12_ofLog_12 : decode cX12_ofLog 12 = .ok (.iaload, 1) := by decide +kernel
theorem dX12_ofLog_13 : decode cX12_ofLog 13 = .ok (.ireturn, 1) := by decide +kernel
theorem dX12_led_0 : decode cX12_led 0 = .ok (.aload_n 0, 1) := by decide +kernel
theorem dX12_led_1 : decode cX12_led 1 = .ok (.iconst 0, 1) := by decide +kernel
theorem dX12_led_2 : decode cX12_led 2 = .ok (.putfield 3, 3) := by decide +kernel
theorem dX12_led_5 : decode cX12_led 5 = .ok (.aload_n 0, 1) := by decide +kernel
theorem dX12_led_6 : decode cX12_led 6 = .ok (.aload_n 0, 1) := by decide +kernel
theorem dX12_led_7 : decode cX12_led 7 = .ok (.iload_n 1, 1) := by decide +kernel
theorem dX12_led_8 : decode cX12_led 8 = .ok (.invokevirtual 299, 3) := by decide +kernel
theorem dX12_led_11 : decode cX12_led 11 = .ok (.iconst 1, 1) := by decide +kernel
theorem dX12_led_12 : decode cX12_led 12 = .ok (.invokevirtual 246, 3) := by decide +kernel
theorem dX12_led_15 : decode cX12_led 15 = .ok (.ifCond .eq 5, 3) := by decide +kernel
theorem dX12_led_18 : decode cX12_led 18 = .ok (.iconst 0, 1) := by decide +kernel
theorem dX12_led_19 : decode cX12_led 19 = .ok (.ireturn, 1) := by decide +kernel
theorem dX12_led_20 : decode cX12_led 20 = .ok (.iconst 0, 1) := by decide +kernel
theorem dX12_led_21 : decode cX12_led 21 = .ok (.istore_n 3, 1) := by decide +kernel
theorem dX12_led_22 : decode cX12_led 22 = .ok (.iconst (-1), 1) := by decide +kernel
theorem dX12_led_23 : decode cX12_led 23 = .ok (.istore 4, 2) := by decide +kernel
theorem dX12_led_25 : decode cX12_led 25 = .ok (.aload_n 0, 1) := by decide +kernel
theorem dX12_led_26 : decode cX12_led 26 = .ok (.getfield 13, 3) := by decide +kernel
theorem dX12_led_29 : decode cX12_led 29 = .ok (.bipush 10, 2) := by decide +kernel
theorem dX12_led_31 : decode cX12_led 31 = .ok (.iaload, 1) := by decide +kernel
theorem dX12_led_32 : decode cX12_led 32 = .ok (.iconst 1, 1) := by decide +kernel
theorem dX12_led_33 : decode cX12_led 33 = .ok (.isub, 1) := by decide +kernel
theorem dX12_led_34 : decode cX12_led 34 = .ok (.istore 5, 2) := by decide +kernel
theorem dX12_led_36 : decode cX12_led 36 = .ok (.iload 5, 2) := by decide +kernel
theorem dX12_led_38 : decode cX12_led 38 = .ok (.ifCond .lt 35, 3) := by decide +kernel
theorem dX12_led_41 : decode cX12_led 41 = .ok (.aload_n 0, 1) := by decide +kernel
theorem dX12_led_42 : decode cX12_led 42 = .ok (.iload 5, 2) := by decide +kernel
theorem dX12_led_44 : decode cX12_led 44 = .ok (.iconst 2, 1) := by decide +kernel
theorem dX12_led_45 : decode cX12_led 45 = .ok (.invokevirtual 406, 3) := by decide +kernel
theorem dX12_led_48 : decode cX12_led 48 = .ok (.iload_n 1, 1) := by decide +kernel
theorem dX12_led_49 : decode cX12_led 49 = .ok (.if_icmp .eq 6, 3) := by decide +kernel
theorem dX12_led_52 : decode cX12_led 52 = .ok (.goto 15, 3) := by decide +kernel
theorem dX12_led_55 : decode cX12_led 55 = .ok (.iinc 3 1, 3) := by decide +kernel
theorem dX12_led_58 : decode cX12_led 58 = .ok (.aload_n 0, 1) := by decide +kernel
theorem dX12_led_59 : decode cX12_led 59 = .ok (.iload 5, 2) := by decide +kernel
theorem dX12_led_61 : decode cX12_led 61 = .ok (.iconst 0, 1) := by decide +kernel
theorem dX12_led_62 : decode cX12_led 62 = .ok (.invokevirtual 406, 3) := by decide +kernel
theorem dX12_led_65 : decode cX12_led 65 = .ok (.istore 4, 2) := by decide +kernel
theorem dX12_led_67 : decode cX12_led 67 = .ok (.iinc 5 (-1), 3) := by decide +kernel
theorem dX12_led_70 : decode cX12_led 70 = .ok (.goto (-34), 3) := by decide +kernel
theorem dX12_led_73 : decode cX12_led 73 = .ok (.iload_n 2, 1) := by decide +kernel
theorem dX12_led_74 : decode cX12_led 74 = .ok (.ifCond .eq 8, 3) := by decide +kernel
theorem dX12_led_77 : decode cX12_led 77 = .ok (.iload 4, 2) := by decide +kernel
theorem dX12_led_79 : decode cX12_led 79 = .ok (.goto 4, 3) := by decide +kernel
theorem dX12_led_82 : decode cX12_led 82 = .ok (.iload_n 3, 1) := by decide +kernel
theorem dX12_led_83 : decode cX12_led 83 = .ok (.ireturn, 1) := by decide +kernel
theorem dX12_log_0 : decode cX12_log 0 = .ok (.aload_n 0, 1) := by decide +kernel
theorem dX12_log_1 : decode cX12_log 1 = .ok (.iconst 0, 1) := by decide +kernel
theorem dX12_log_2 : decode cX12_log 2 = .ok (.putfield 3, 3) := by decide +kernel
theorem dX12_log_5 : decode cX12_log 5 = .ok (.aload_n 0, 1) := by decide +kernel
theorem dX12_log_6 : decode cX12_log 6 = .ok (.iload_n 2, 1) := by decide +kernel
theorem dX12_log_7 : decode cX12_log 7 = .ok (.iconst 0, 1) := by decide +kernel
theorem dX12_log_8 : decode cX12_log 8 = .ok (.iconst 3, 1) := by decide +kernel
theorem dX12_log_9 : decode cX12_log 9 = .ok (.invokestatic 63, 3) := by decide +kernel
theorem dX12_log_12 : decode cX12_log 12 = .ok (.ifCond .ne 7, 3) := by decide +kernel
theorem dX12_log_15 : decode cX12_log 15 = .ok (.iconst 1, 1) := by decide +kernel
theorem dX12_log_16 : decode cX12_log 16 = .ok (.goto 4, 3) := by decide +kernel
theorem dX12_log_19 : decode cX12_log 19 = .ok (.iconst 0, 1) := by decide +kernel
theorem dX12_log_20 : decode cX12_log 20 = .ok (.iconst 1, 1) := by decide +kernel
theorem dX12_log_21 : decode cX12_log 21 = .ok (.invokevirtual 246, 3) := by decide +kernel
theorem dX12_log_24 : decode cX12_log 24 = .ok (.ifCond .eq 5, 3) := by decide +kernel
theorem dX12_log_27 : decode cX12_log 27 = .ok (.iconst 0, 1) := by decide +kernel
theorem dX12_log_28 : decode cX12_log 28 = .ok (.ireturn, 1) := by decide +kernel
theorem dX12_log_29 : decode cX12_log 29 = .ok (.iload_n 1, 1) := by decide +kernel
theorem dX12_log_30 : decode cX12_log 30 = .ok (.iconst 0, 1) := by decide +kernel
theorem dX12_log_31 : decode cX12_log 31 = .ok (.aload_n 0, 1) := by decide +kernel
theorem dX12_log_32 : decode cX12_log 32 = .ok (.getfield 13, 3) := by decide +kernel
theorem dX12_log_35 : decode cX12_log 35 = .ok (.bipush 10, 2) := by decide +kernel
theorem dX12_log_37 : decode cX12_log 37 = .ok (.iaload, 1) := by decide +kernel
theorem dX12_log_38 : decode cX12_log 38 = .ok (.iconst 1, 1) := by decide +kernel
theorem dX12_log_39 : decode cX12_log 39 = .ok (.isub, 1) := by decide +kernel
theorem dX12_log_40 : decode cX12_log 40 = .ok (.invokestatic 63, 3) := by decide +kernel
theorem dX12_log_43 : decode cX12_log 43 = .ok (.ifCond .eq 12, 3) := by decide +kernel
theorem dX12_log_46 : decode cX12_log 46 = .ok (.aload_n 0, 1) := by decide +kernel
theorem dX12_log_47 : decode cX12_log 47 = .ok (.iload_n 1, 1) := by decide +kernel
theorem dX12_log_48 : decode cX12_log 48 = .ok (.iload_n 2, 1) := by decide +kernel
theorem dX12_log_49 : decode cX12_log 49 = .ok (.invokevirtual 406, 3) := by decide +kernel
theorem dX12_log_52 : decode cX12_log 52 = .ok (.goto 4, 3) := by decide +kernel
theorem dX12_log_55 : decode cX12_log 55 = .ok (.iconst (-1), 1) := by decide +kernel
theorem dX12_log_56 : decode cX12_log 56 = .ok (.ireturn, 1) := by decide +kernel
theorem dX12_seed_0 : decode cX12_seed 0 = .ok (.aload_n 0, 1) := by decide +kernel
theorem dX12_seed_1 : decode cX12_seed 1 = .ok (.iconst 0, 1) := by decide +kernel
theorem dX12_seed_2 : decode cX12_seed 2 = .ok (.putfield 3, 3) := by decide +kernel
theorem dX12_seed_5 : decode cX12_seed 5 = .ok (.aload_n 0, 1) := by decide +kernel
theorem dX12_seed_6 : decode cX12_seed 6 = .ok (.getfield 13, 3) := by decide +kernel
theorem dX12_seed_9 : decode cX12_seed 9 = .ok (.bipush 11, 2) := by decide +kernel
theorem dX12_seed_11 : decode cX12_seed 11 = .ok (.iaload, 1) := by decide +kernel
theorem dX12_seed_12 : decode cX12_seed 12 = .ok (.istore_n 2, 1) := by decide +kernel
theorem dX12_seed_13 : decode cX12_seed 13 = .ok (.aload_n 0, 1) := by decide +kernel
theorem dX12_seed_14 : decode cX12_seed 14 = .ok (.getfield 13, 3) := by decide +kernel
theorem dX12_seed_17 : decode cX12_seed 17 = .ok (.bipush 11, 2) := by decide +kernel
theorem dX12_seed_19 : decode cX12_seed 19 = .ok (.iload_n 1, 1) := by decide +kernel
theorem dX12_seed_20 : decode cX12_seed 20 = .ok (.iastore, 1) := by decide +kernel
theorem dX12_seed_21 : decode cX12_seed 21 = .ok (.iload_n 2, 1) := by decide +kernel
theorem dX12_seed_22 : decode cX12_seed 22 = .ok (.ireturn, 1) := by decide +kernel
theorem dX12_pursesOfAll_0 : decode cX12_pursesOfAll 0 = .ok (.iconst 0, 1) := by decide +kernel
theorem dX12_pursesOfAll_1 : decode cX12_pursesOfAll 1 = .ok (.istore_n 1, 1) := by decide +kernel
theorem dX12_pursesOfAll_2 : decode cX12_pursesOfAll 2 = .ok (.iconst 0, 1) := by decide +kernel
theorem dX12_pursesOfAll_3 : decode cX12_pursesOfAll 3 = .ok (.istore_n 2, 1) := by decide +kernel
theorem dX12_pursesOfAll_4 : decode cX12_pursesOfAll 4 = .ok (.iload_n 2, 1) := by decide +kernel
theorem dX12_pursesOfAll_5 : decode cX12_pursesOfAll 5 = .ok (.aload_n 0, 1) := by decide +kernel
theorem dX12_pursesOfAll_6 : decode cX12_pursesOfAll 6 = .ok (.invokevirtual 59, 3) := by decide +kernel
theorem dX12_pursesOfAll_9 : decode cX12_pursesOfAll 9 = .ok (.if_icmp .ge 18, 3) := by decide +kernel
theorem dX12_pursesOfAll_12 : decode cX12_pursesOfAll 12 = .ok (.iload_n 1, 1) := by decide +kernel
theorem dX12_pursesOfAll_13 : decode cX12_pursesOfAll 13 = .ok (.aload_n 0, 1) := by decide +kernel
theorem dX12_pursesOfAll_14 : decode cX12_pursesOfAll 14 = .ok (.iload_n 2, 1) := by decide +kernel
theorem dX12_pursesOfAll_15 : decode cX12_pursesOfAll 15 = .ok (.iconst 0, 1) := by decide +kernel
theorem dX12_pursesOfAll_16 : decode cX12_pursesOfAll 16 = .ok (.invokevirtual 255, 3) := by decide +kernel
theorem dX12_pursesOfAll_19 : decode cX12_pursesOfAll 19 = .ok (.iadd, 1) := by decide +kernel
theorem dX12_pursesOfAll_20 : decode cX12_pursesOfAll 20 = .ok (.istore_n 1, 1) := by decide +kernel
theorem dX12_pursesOfAll_21 : decode cX12_pursesOfAll 21 = .ok (.iinc 2 1, 3) := by decide +kernel
theorem dX12_pursesOfAll_24 : decode cX12_pursesOfAll 24 = .ok (.goto (-20), 3) := by decide +kernel
theorem dX12_pursesOfAll_27 : decode cX12_pursesOfAll 27 = .ok (.iload_n 1, 1) := by decide +kernel
theorem dX12_pursesOfAll_28 : decode cX12_pursesOfAll 28 = .ok (.ireturn, 1) := by decide +kernel
theorem dX12_count_0 : decode cX12_count 0 = .ok (.aload_n 0, 1) := by decide +kernel
theorem dX12_count_1 : decode cX12_count 1 = .ok (.iconst 0, 1) := by decide +kernel
theorem dX12_count_2 : decode cX12_count 2 = .ok (.putfield 3, 3) := by decide +kernel
theorem dX12_count_5 : decode cX12_count 5 = .ok (.iload_n 1, 1) := by decide +kernel
theorem dX12_count_6 : decode cX12_count 6 = .ok (.tableswitch 115 3 14 #[62, 115, 115, 115, 115, 115, 115, 85, 91, 97, 102, 110], 62) := by decide +kernel
theorem dX12_count_68 : decode cX12_count 68 = .ok (.aload_n 0, 1) := by decide +kernel
theorem dX12_count_69 : decode cX12_count 69 = .ok (.getfield 13, 3) := by decide +kernel
theorem dX12_count_72 : decode cX12_count 72 = .ok (.iconst 3, 1) := by decide +kernel
theorem dX12_count_73 : decode cX12_count 73 = .ok (.iaload, 1) := by decide +kernel
theorem dX12_count_74 : decode cX12_count 74 = .ok (.iconst 1, 1) := by decide +kernel
theorem dX12_count_75 : decode cX12_count 75 = .ok (.if_icmp .ne 14, 3) := by decide +kernel
theorem dX12_count_78 : decode cX12_count 78 = .ok (.aload_n 0, 1) := by decide +kernel
theorem dX12_count_79 : decode cX12_count 79 = .ok (.getfield 13, 3) := by decide +kernel
theorem dX12_count_82 : decode cX12_count 82 = .ok (.sipush 354, 3) := by decide +kernel
theorem dX12_count_85 : decode cX12_count 85 = .ok (.iaload, 1) := by decide +kernel
theorem dX12_count_86 : decode cX12_count 86 = .ok (.goto 4, 3) := by decide +kernel
theorem dX12_count_89 : decode cX12_count 89 = .ok (.iconst (-1), 1) := by decide +kernel
theorem dX12_count_90 : decode cX12_count 90 = .ok (.ireturn, 1) := by decide +kernel
theorem dX12_count_91 : decode cX12_count 91 = .ok (.aload_n 0, 1) := by decide +kernel
theorem dX12_count_92 : decode cX12_count 92 = .ok (.iconst 0, 1) := by decide +kernel
theorem dX12_count_93 : decode cX12_count 93 = .ok (.invokevirtual 249, 3) := by decide +kernel
theorem dX12_count_96 : decode cX12_count 96 = .ok (.ireturn, 1) := by decide +kernel
theorem dX12_count_97 : decode cX12_count 97 = .ok (.aload_n 0, 1) := by decide +kernel
theorem dX12_count_98 : decode cX12_count 98 = .ok (.iconst 1, 1) := by decide +kernel
theorem dX12_count_99 : decode cX12_count 99 = .ok (.invokevirtual 249, 3) := by decide +kernel
theorem dX12_count_102 : decode cX12_count 102 = .ok (.ireturn, 1) := by decide +kernel
theorem dX12_count_103 : decode cX12_count 103 = .ok (.aload_n 0, 1) := by decide +kernel
theorem dX12_count_104 : decode cX12_count 104 = .ok (.invokevirtual 409, 3) := by decide +kernel
theorem dX12_count_107 : decode cX12_count 107 = .ok (.ireturn, 1) := by decide +kernel
theorem dX12_count_108 : decode cX12_count 108 = .ok (.aload_n 0, 1) := by decide +kernel
theorem dX12_count_109 : decode cX12_count 109 = .ok (.getfield 13, 3) := by decide +kernel
theorem dX12_count_112 : decode cX12_count 112 = .ok (.bipush 10, 2) := by decide +kernel
theorem dX12_count_114 : decode cX12_count 114 = .ok (.iaload, 1) := by decide +kernel
theorem dX12_count_115 : decode cX12_count 115 = .ok (.ireturn, 1) := by decide +kernel
theorem dX12_count_116 : decode cX12_count 116 = .ok (.aload_n 0, 1) := by decide +kernel
theorem dX12_count_117 : decode cX12_count 117 = .ok (.getfield 46, 3) := by decide +kernel
theorem dX12_count_120 : decode cX12_count 120 = .ok (.ireturn, 1) := by decide +kernel
theorem dX12_count_121 : decode cX12_count 121 = .ok (.iload_n 1, 1) := by decide +kernel
theorem dX12_count_122 : decode cX12_count 122 = .ok (.iconst 0, 1) := by decide +kernel
theorem dX12_count_123 : decode cX12_count 123 = .ok (.bipush 9, 2) := by decide +kernel
theorem dX12_count_125 : decode cX12_count 125 = .ok (.invokestatic 63, 3) := by decide +kernel
theorem dX12_count_128 : decode cX12_count 128 = .ok (.ifCond .eq 12, 3) := by decide +kernel
theorem dX12_count_131 : decode cX12_count 131 = .ok (.aload_n 0, 1) := by decide +kernel
theorem dX12_count_132 : decode cX12_count 132 = .ok (.getfield 13, 3) := by decide +kernel
theorem dX12_count_135 : decode cX12_count 135 = .ok (.iload_n 1, 1) := by decide +kernel
theorem dX12_count_136 : decode cX12_count 136 = .ok (.iaload, 1) := by decide +kernel
theorem dX12_count_137 : decode cX12_count 137 = .ok (.goto 4, 3) := by decide +kernel
theorem dX12_count_140 : decode cX12_count 140 = .ok (.iconst (-1), 1) := by decide +kernel
theorem dX12_count_141 : decode cX12_count 141 = .ok (.ireturn, 1) := by decide +kernel
theorem dJ6_bitCount_0f7a4_0 : decode cJ6_bitCount_0f7a4 0 = .ok (.iload_n 0, 1) := by decide +kernel
theorem dJ6_bitCount_0f7a4_1 : decode cJ6_bitCount_0f7a4 1 = .ok (.iload_n 0, 1) := by decide +kernel
theorem dJ6_bitCount_0f7a4_2 : decode cJ6_bitCount_0f7a4 2 = .ok (.iconst 1, 1) := by decide +kernel
theorem dJ6_bitCount_0f7a4_3 : decode cJ6_bitCount_0f7a4 3 = .ok (.iushr, 1) := by decide +kernel
theorem dJ6_bitCount_0f7a4_4 : decode cJ6_bitCount_0f7a4 4 = .ok (.ldc_w 265, 3) := by decide +kernel
theorem dJ6_bitCount_0f7a4_7 : decode cJ6_bitCount_0f7a4 7 = .ok (.iand, 1) := by decide +kernel
theorem dJ6_bitCount_0f7a4_8 : decode cJ6_bitCount_0f7a4 8 = .ok (.isub, 1) := by decide +kernel
theorem dJ6_bitCount_0f7a4_9 : decode cJ6_bitCount_0f7a4 9 = .ok (.istore_n 0, 1) := by decide +kernel
theorem dJ6_bitCount_0f7a4_10 : decode cJ6_bitCount_0f7a4 10 = .ok (.iload_n 0, 1) := by decide +kernel
theorem dJ6_bitCount_0f7a4_11 : decode cJ6_bitCount_0f7a4 11 = .ok (.ldc_w 266, 3) := by decide +kernel
theorem dJ6_bitCount_0f7a4_14 : decode cJ6_bitCount_0f7a4 14 = .ok (.iand, 1) := by decide +kernel
theorem dJ6_bitCount_0f7a4_15 : decode cJ6_bitCount_0f7a4 15 = .ok (.iload_n 0, 1) := by decide +kernel
theorem dJ6_bitCount_0f7a4_16 : decode cJ6_bitCount_0f7a4 16 = .ok (.iconst 2, 1) := by decide +kernel
theorem dJ6_bitCount_0f7a4_17 : decode cJ6_bitCount_0f7a4 17 = .ok (.iushr, 1) := by decide +kernel
theorem dJ6_bitCount_0f7a4_18 : decode cJ6_bitCount_0f7a4 18 = .ok (.ldc_w 266, 3) := by decide +kernel
theorem dJ6_bitCount_0f7a4_21 : decode cJ6_bitCount_0f7a4 21 = .ok (.iand, 1) := by decide +kernel
theorem dJ6_bitCount_0f7a4_22 : decode cJ6_bitCount_0f7a4 22 = .ok (.iadd, 1) := by decide +kernel
theorem dJ6_bitCount_0f7a4_23 : decode cJ6_bitCount_0f7a4 23 = .ok (.istore_n 0, 1) := by decide +kernel
theorem dJ6_bitCount_0f7a4_24 : decode cJ6_bitCount_0f7a4 24 = .ok (.iload_n 0, 1) := by decide +kernel
theorem dJ6_bitCount_0f7a4_25 : decode cJ6_bitCount_0f7a4 25 = .ok (.iload_n 0, 1) := by decide +kernel
theorem dJ6_bitCount_0f7a4_26 : decode cJ6_bitCount_0f7a4 26 = .ok (.iconst 4, 1) := by decide +kernel
theorem dJ6_bitCount_0f7a4_27 : decode cJ6_bitCount_0f7a4 27 = .ok (.iushr, 1) := by decide +kernel
theorem dJ6_bitCount_0f7a4_28 : decode cJ6_bitCount_0f7a4 28 = .ok (.iadd, 1) := by decide +kernel
theorem dJ6_bitCount_0f7a4_29 : decode cJ6_bitCount_0f7a4 29 = .ok (.ldc_w 267, 3) := by decide +kernel
theorem dJ6_bitCount_0f7a4_32 : decode cJ6_bitCount_0f7a4 32 = .ok (.iand, 1) := by decide +kernel
theorem dJ6_bitCount_0f7a4_33 : decode cJ6_bitCount_0f7a4 33 = .ok (.istore_n 0, 1) := by decide +kernel
theorem dJ6_bitCount_0f7a4_34 : decode cJ6_bitCount_0f7a4 34 = .ok (.iload_n 0, 1) := by decide +kernel
theorem dJ6_bitCount_0f7a4_35 : decode cJ6_bitCount_0f7a4 35 = .ok (.iload_n 0, 1) := by decide +kernel
theorem dJ6_bitCount_0f7a4_36 : decode cJ6_bitCount_0f7a4 36 = .ok (.bipush 8, 2) := by decide +kernel
theorem dJ6_bitCount_0f7a4_38 : decode cJ6_bitCount_0f7a4 38 = .ok (.iushr, 1) := by decide +kernel
theorem dJ6_bitCount_0f7a4_39 : decode cJ6_bitCount_0f7a4 39 = .ok (.iadd, 1) := by decide +kernel
theorem dJ6_bitCount_0f7a4_40 : decode cJ6_bitCount_0f7a4 40 = .ok (.istore_n 0, 1) := by decide +kernel
theorem dJ6_bitCount_0f7a4_41 : decode cJ6_bitCount_0f7a4 41 = .ok (.iload_n 0, 1) := by decide +kernel
theorem dJ6_bitCount_0f7a4_42 : decode cJ6_bitCount_0f7a4 42 = .ok (.iload_n 0, 1) := by decide +kernel
theorem dJ6_bitCount_0f7a4_43 : decode cJ6_bitCount_0f7a4 43 = .ok (.bipush 16, 2) := by decide +kernel
theorem dJ6_bitCount_0f7a4_45 : decode cJ6_bitCount_0f7a4 45 = .ok (.iushr, 1) := by decide +kernel
theorem dJ6_bitCount_0f7a4_46 : decode cJ6_bitCount_0f7a4 46 = .ok (.iadd, 1) := by decide +kernel
theorem dJ6_bitCount_0f7a4_47 : decode cJ6_bitCount_0f7a4 47 = .ok (.istore_n 0, 1) := by decide +kernel
theorem dJ6_bitCount_0f7a4_48 : decode cJ6_bitCount_0f7a4 48 = .ok (.iload_n 0, 1) := by decide +kernel
theorem dJ6_bitCount_0f7a4_49 : decode cJ6_bitCount_0f7a4 49 = .ok (.bipush 63, 2) := by decide +kernel
theorem dJ6_bitCount_0f7a4_51 : decode cJ6_bitCount_0f7a4 51 = .ok (.iand, 1) := by decide +kernel
theorem dJ6_bitCount_0f7a4_52 : decode cJ6_bitCount_0f7a4 52 = .ok (.ireturn, 1) := by decide +kernel
theorem dJ9_max_7cf53_0 : decode cJ9_max_7cf53 0 = .ok (.iload_n 0, 1) := by decide +kernel
theorem dJ9_max_7cf53_1 : decode cJ9_max_7cf53 1 = .ok (.iload_n 1, 1) := by decide +kernel
theorem dJ9_max_7cf53_2 : decode cJ9_max_7cf53 2 = .ok (.if_icmp .lt 7, 3) := by decide +kernel
theorem dJ9_max_7cf53_5 : decode cJ9_max_7cf53 5 = .ok (.iload_n 0, 1) := by decide +kernel
theorem dJ9_max_7cf53_6 : decode cJ9_max_7cf53 6 = .ok (.goto 4, 3) := by decide +kernel
theorem dJ9_max_7cf53_9 : decode cJ9_max_7cf53 9 = .ok (.iload_n 1, 1) := by decide +kernel
theorem dJ9_max_7cf53_10 : decode cJ9_max_7cf53 10 = .ok (.ireturn, 1) := by decide +kernel
theorem dJ9_min_7cf53_0 : decode cJ9_min_7cf53 0 = .ok (.iload_n 0, 1) := by decide +kernel
theorem dJ9_min_7cf53_1 : decode cJ9_min_7cf53 1 = .ok (.iload_n 1, 1) := by decide +kernel
theorem dJ9_min_7cf53_2 : decode cJ9_min_7cf53 2 = .ok (.if_icmp .gt 7, 3) := by decide +kernel
theorem dJ9_min_7cf53_5 : decode cJ9_min_7cf53 5 = .ok (.iload_n 0, 1) := by decide +kernel
theorem dJ9_min_7cf53_6 : decode cJ9_min_7cf53 6 = .ok (.goto 4, 3) := by decide +kernel
theorem dJ9_min_7cf53_9 : decode cJ9_min_7cf53 9 = .ok (.iload_n 1, 1) := by decide +kernel
theorem dJ9_min_7cf53_10 : decode cJ9_min_7cf53 10 = .ok (.ireturn, 1) := by decide +kernel
theorem dJ0_length_8abf5_0 : decode cJ0_length_8abf5 0 = .ok (.aload_n 0, 1) := by decide +kernel
theorem dJ0_length_8abf5_1 : decode cJ0_length_8abf5 1 = .ok (.getfield 9, 3) := by decide +kernel
theorem dJ0_length_8abf5_4 : decode cJ0_length_8abf5 4 = .ok (.arraylength, 1) := by decide +kernel
theorem dJ0_length_8abf5_5 : decode cJ0_length_8abf5 5 = .ok (.aload_n 0, 1) := by decide +kernel
theorem dJ0_length_8abf5_6 : decode cJ0_length_8abf5 6 = .ok (.invokevirtual 335, 3) := by decide +kernel
theorem dJ0_length_8abf5_9 : decode cJ0_length_8abf5 9 = .ok (.ishr, 1) := by decide +kernel
theorem dJ0_length_8abf5_10 : decode cJ0_length_8abf5 10 = .ok (.ireturn, 1) := by decide +kernel
theorem dJ0_charAt_5068e_0 : decode cJ0_charAt_5068e 0 = .ok (.aload_n 0, 1) := by decide +kernel
theorem dJ0_charAt_5068e_1 : decode cJ0_charAt_5068e 1 = .ok (.invokevirtual 492, 3) := by decide +kernel
theorem dJ0_charAt_5068e_4 : decode cJ0_charAt_5068e 4 = .ok (.ifCond .eq 12, 3) := by decide +kernel
theorem dJ0_charAt_5068e_7 : decode cJ0_charAt_5068e 7 = .ok (.aload_n 0, 1) := by decide +kernel
theorem dJ0_charAt_5068e_8 : decode cJ0_charAt_5068e 8 = .ok (.getfield 9, 3) := by decide +kernel
theorem dJ0_charAt_5068e_11 : decode cJ0_charAt_5068e 11 = .ok (.iload_n 1, 1) := by decide +kernel
theorem dJ0_charAt_5068e_12 : decode cJ0_charAt_5068e 12 = .ok (.invokestatic 495, 3) := by decide +kernel
theorem dJ0_charAt_5068e_15 : decode cJ0_charAt_5068e 15 = .ok (.ireturn, 1) := by decide +kernel
theorem dJ0_charAt_5068e_16 : decode cJ0_charAt_5068e 16 = .ok (.aload_n 0, 1) := by decide +kernel
theorem dJ0_charAt_5068e_17 : decode cJ0_charAt_5068e 17 = .ok (.getfield 9, 3) := by decide +kernel
theorem dJ0_charAt_5068e_20 : decode cJ0_charAt_5068e 20 = .ok (.iload_n 1, 1) := by decide +kernel
theorem dJ0_charAt_5068e_21 : decode cJ0_charAt_5068e 21 = .ok (.invokestatic 498, 3) := by decide +kernel
theorem dJ0_charAt_5068e_24 : decode cJ0_charAt_5068e 24 = .ok (.ireturn, 1) := by decide +kernel
theorem dJ0_coder_7d493_0 : decode cJ0_coder_7d493 0 = .ok (.getstatic 38, 3) := by decide +kernel
theorem dJ0_coder_7d493_3 : decode cJ0_coder_7d493 3 = .ok (.ifCond .eq 10, 3) := by decide +kernel
theorem dJ0_coder_7d493_6 : decode cJ0_coder_7d493 6 = .ok (.aload_n 0, 1) := by decide +kernel
theorem dJ0_coder_7d493_7 : decode cJ0_coder_7d493 7 = .ok (.getfield 15, 3) := by decide +kernel
theorem dJ0_coder_7d493_10 : decode cJ0_coder_7d493 10 = .ok (.goto 4, 3) := by decide +kernel
theorem dJ0_coder_7d493_13 : decode cJ0_coder_7d493 13 = .ok (.iconst 1, 1) := by decide +kernel
theorem dJ0_coder_7d493_14 : decode cJ0_coder_7d493 14 = .ok (.ireturn, 1) := by decide +kernel
theorem dJ0_isLatin1_aae02_0 : decode cJ0_isLatin1_aae02 0 = .ok (.getstatic 38, 3) := by decide +kernel
theorem dJ0_isLatin1_aae02_3 : decode cJ0_isLatin1_aae02 3 = .ok (.ifCond .eq 14, 3) := by decide +kernel
theorem dJ0_isLatin1_aae02_6 : decode cJ0_isLatin1_aae02 6 = .ok (.aload_n 0, 1) := by decide +kernel
theorem dJ0_isLatin1_aae02_7 : decode cJ0_isLatin1_aae02 7 = .ok (.getfield 15, 3) := by decide +kernel
theorem dJ0_isLatin1_aae02_10 : decode cJ0_isLatin1_aae02 10 = .ok (.ifCond .ne 7, 3) := by decide +kernel
theorem dJ0_isLatin1_aae02_13 : decode cJ0_isLatin1_aae02 13 = .ok (.iconst 1, 1) := by decide +kernel
theorem dJ0_isLatin1_aae02_14 : decode cJ0_isLatin1_aae02 14 = .ok (.goto 4, 3) := by decide +kernel
theorem dJ0_isLatin1_aae02_17 : decode cJ0_isLatin1_aae02 17 = .ok (.iconst 0, 1) := by decide +kernel
theorem dJ0_isLatin1_aae02_18 : decode cJ0_isLatin1_aae02 18 = .ok (.ireturn, 1) := by decide +kernel
theorem dJ0_checkIndex_df160_0 : decode cJ0_checkIndex_df160 0 = .ok (.iload_n 0, 1) := by decide +kernel
theorem dJ0_checkIndex_df160_1 : decode cJ0_checkIndex_df160 1 = .ok (.iload_n 1, 1) := by decide +kernel
theorem dJ0_checkIndex_df160_2 : decode cJ0_checkIndex_df160 2 = .ok (.getstatic 1053, 3) := by decide +kernel
theorem dJ0_checkIndex_df160_5 : decode cJ0_checkIndex_df160 5 = .ok (.invokestatic 1059, 3) := by decide +kernel
theorem dJ0_checkIndex_df160_8 : decode cJ0_checkIndex_df160 8 = .ok (.pop, 1) := by decide +kernel
theorem dJ0_checkIndex_df160_9 : decode cJ0_checkIndex_df160 9 = .ok (.return_, 1) := by decide +kernel
theorem dJ1_charAt_3b067_0 : decode cJ1_charAt_3b067 0 = .ok (.iload_n 1, 1) := by decide +kernel
theorem dJ1_charAt_3b067_1 : decode cJ1_charAt_3b067 1 = .ok (.aload_n 0, 1) := by decide +kernel
theorem dJ1_charAt_3b067_2 : decode cJ1_charAt_3b067 2 = .ok (.arraylength, 1) := by decide +kernel
theorem dJ1_charAt_3b067_3 : decode cJ1_charAt_3b067 3 = .ok (.invokestatic 9, 3) := by decide +kernel
theorem dJ1_charAt_3b067_6 : decode cJ1_charAt_3b067 6 = .ok (.aload_n 0, 1) := by decide +kernel
theorem dJ1_charAt_3b067_7 : decode cJ1_charAt_3b067 7 = .ok (.iload_n 1, 1) := by decide +kernel
theorem dJ1_charAt_3b067_8 : decode cJ1_charAt_3b067 8 = .ok (.baload, 1) := by decide +kernel
theorem dJ1_charAt_3b067_9 : decode cJ1_charAt_3b067 9 = .ok (.sipush 255, 3) := by decide +kernel
theorem dJ1_charAt_3b067_12 : decode cJ1_charAt_3b067 12 = .ok (.iand, 1) := by decide +kernel
theorem dJ1_charAt_3b067_13 : decode cJ1_charAt_3b067 13 = .ok (.i2c, 1) := by decide +kernel
theorem dJ1_charAt_3b067_14 : decode cJ1_charAt_3b067 14 = .ok (.ireturn, 1) := by decide +kernel
theorem dJ2_getChar_3b067_0 : decode cJ2_getChar_3b067 0 = .ok (.getstatic 44, 3) := by decide +kernel
theorem dJ2_getChar_3b067_3 : decode cJ2_getChar_3b067 3 = .ok (.ifCond .ne 25, 3) := by decide +kernel
theorem dJ2_getChar_3b067_6 : decode cJ2_getChar_3b067 6 = .ok (.iload_n 1, 1) := by decide +kernel
theorem dJ2_getChar_3b067_7 : decode cJ2_getChar_3b067 7 = .ok (.ifCond .lt 11, 3) := by decide +kernel
theorem dJ2_getChar_3b067_10 : decode cJ2_getChar_3b067 10 = .ok (.iload_n 1, 1) := by decide +kernel
theorem dJ2_getChar_3b067_11 : decode cJ2_getChar_3b067 11 = .ok (.aload_n 0, 1) := by decide +kernel
theorem dJ2_getChar_3b067_12 : decode cJ2_getChar_3b067 12 = .ok (.invokestatic 48, 3) := by decide +kernel
theorem dJ2_getChar_3b067_15 : decode cJ2_getChar_3b067 15 = .ok (.if_icmp .lt 13, 3) := by decide +kernel
theorem dJ2_getChar_3b067_18 : decode cJ2_getChar_3b067 18 = .ok (.new 52, 3) := by decide +kernel
theorem dJ2_getChar_3b067_21 : decode cJ2_getChar_3b067 21 = .ok (.dup, 1) := by decide +kernel
theorem dJ2_getChar_3b067_22 : decode cJ2_getChar_3b067 22 = .ok (.ldc 54, 2) := by decide +kernel
theorem dJ2_getChar_3b067_24 : decode cJ2_getChar_3b067 24 = .ok (.invokespecial 56, 3) := by decide +kernel
theorem dJ2_getChar_3b067_27 : decode cJ2_getChar_3b067 27 = .ok (.athrow, 1) := by decide +kernel
theorem dJ2_getChar_3b067_28 : decode cJ2_getChar_3b067 28 = .ok (.iload_n 1, 1) := by decide +kernel
theorem dJ2_getChar_3b067_29 : decode cJ2_getChar_3b067 29 = .ok (.iconst 1, 1) := by decide +kernel
theorem dJ2_getChar_3b067_30 : decode cJ2_getChar_3b067 30 = .ok (.ishl, 1) := by decide +kernel
theorem dJ2_getChar_3b067_31 : decode cJ2_getChar_3b067 31 = .ok (.istore_n 1, 1) := by decide +kernel
theorem dJ2_getChar_3b067_32 : decode cJ2_getChar_3b067 32 = .ok (.aload_n 0, 1) := by decide +kernel
theorem dJ2_getChar_3b067_33 : decode cJ2_getChar_3b067 33 = .ok (.iload_n 1, 1) := by decide +kernel
theorem dJ2_getChar_3b067_34 : decode cJ2_getChar_3b067 34 = .ok (.iinc 1 1, 3) := by decide +kernel
theorem dJ2_getChar_3b067_37 : decode cJ2_getChar_3b067 37 = .ok (.baload, 1) := by decide +kernel
theorem dJ2_getChar_3b067_38 : decode cJ2_getChar_3b067 38 = .ok (.sipush 255, 3) := by decide +kernel
theorem dJ2_getChar_3b067_41 : decode cJ2_getChar_3b067 41 = .ok (.iand, 1) := by decide +kernel
theorem dJ2_getChar_3b067_42 : decode cJ2_getChar_3b067 42 = .ok (.getstatic 59, 3) := by decide +kernel
theorem dJ2_getChar_3b067_45 : decode cJ2_getChar_3b067 45 = .ok (.ishl, 1) := by decide +kernel
theorem dJ2_getChar_3b067_46 : decode cJ2_getChar_3b067 46 = .ok (.aload_n 0, 1) := by decide +kernel
theorem dJ2_getChar_3b067_47 : decode cJ2_getChar_3b067 47 = .ok (.iload_n 1, 1) := by decide +kernel
theorem dJ2_getChar_3b067_48 : decode cJ2_getChar_3b067 48 = .ok (.baload, 1) := by decide +kernel
theorem dJ2_getChar_3b067_49 : decode cJ2_getChar_3b067 49 = .ok (.sipush 255, 3) := by decide +kernel
theorem dJ2_getChar_3b067_52 : decode cJ2_getChar_3b067 52 = .ok (.iand, 1) := by decide +kernel
theorem dJ2_getChar_3b067_53 : decode cJ2_getChar_3b067 53 = .ok (.getstatic 63, 3) := by decide +kernel
theorem dJ2_getChar_3b067_56 : decode cJ2_getChar_3b067 56 = .ok (.ishl, 1) := by decide +kernel
theorem dJ2_getChar_3b067_57 : decode cJ2_getChar_3b067 57 = .ok (.ior, 1) := by decide +kernel
theorem dJ2_getChar_3b067_58 : decode cJ2_getChar_3b067 58 = .ok (.i2c, 1) := by decide +kernel
theorem dJ2_getChar_3b067_59 : decode cJ2_getChar_3b067 59 = .ok (.ireturn, 1) := by decide +kernel
theorem dJ2_length_9d52b_0 : decode cJ2_length_9d52b 0 = .ok (.aload_n 0, 1) := by decide +kernel
theorem dJ2_length_9d52b_1 : decode cJ2_length_9d52b 1 = .ok (.arraylength, 1) := by decide +kernel
theorem dJ2_length_9d52b_2 : decode cJ2_length_9d52b 2 = .ok (.iconst 1, 1) := by decide +kernel
theorem dJ2_length_9d52b_3 : decode cJ2_length_9d52b 3 = .ok (.ishr, 1) := by decide +kernel
theorem dJ2_length_9d52b_4 : decode cJ2_length_9d52b 4 = .ok (.ireturn, 1) := by decide +kernel
theorem dJ2_charAt_3b067_0 : decode cJ2_charAt_3b067 0 = .ok (.iload_n 1, 1) := by decide +kernel
theorem dJ2_charAt_3b067_1 : decode cJ2_charAt_3b067 1 = .ok (.aload_n 0, 1) := by decide +kernel
theorem dJ2_charAt_3b067_2 : decode cJ2_charAt_3b067 2 = .ok (.invokestatic 67, 3) := by decide +kernel
theorem dJ2_charAt_3b067_5 : decode cJ2_charAt_3b067 5 = .ok (.aload_n 0, 1) := by decide +kernel
theorem dJ2_charAt_3b067_6 : decode cJ2_charAt_3b067 6 = .ok (.iload_n 1, 1) := by decide +kernel
theorem dJ2_charAt_3b067_7 : decode cJ2_charAt_3b067 7 = .ok (.invokestatic 71, 3) := by decide +kernel
theorem dJ2_charAt_3b067_10 : decode cJ2_charAt_3b067 10 = .ok (.ireturn, 1) := by decide +kernel
theorem dJ2_checkIndex_2214a_0 : decode cJ2_checkIndex_2214a 0 = .ok (.iload_n 0, 1) := by decide +kernel
theorem dJ2_checkIndex_2214a_1 : decode cJ2_checkIndex_2214a 1 = .ok (.aload_n 1, 1) := by decide +kernel
theorem dJ2_checkIndex_2214a_2 : decode cJ2_checkIndex_2214a 2 = .ok (.invokestatic 48, 3) := by decide +kernel
theorem dJ2_checkIndex_2214a_5 : decode cJ2_checkIndex_2214a 5 = .ok (.invokestatic 414, 3) := by decide +kernel
theorem dJ2_checkIndex_2214a_8 : decode cJ2_checkIndex_2214a 8 = .ok (.return_, 1) := by decide +kernel
theorem dJ7_copyOf_59c91_0 : decode cJ7_copyOf_59c91 0 = .ok (.iload_n 1, 1) := by decide +kernel
theorem dJ7_copyOf_59c91_1 : decode cJ7_copyOf_59c91 1 = .ok (.aload_n 0, 1) := by decide +kernel
theorem dJ7_copyOf_59c91_2 : decode cJ7_copyOf_59c91 2 = .ok (.arraylength, 1) := by decide +kernel
theorem dJ7_copyOf_59c91_3 : decode cJ7_copyOf_59c91 3 = .ok (.if_icmp .ne 11, 3) := by decide +kernel
theorem dJ7_copyOf_59c91_6 : decode cJ7_copyOf_59c91 6 = .ok (.aload_n 0, 1) := by decide +kernel
theorem dJ7_copyOf_59c91_7 : decode cJ7_copyOf_59c91 7 = .ok (.invokevirtual 316, 3) := by decide +kernel
theorem dJ7_copyOf_59c91_10 : decode cJ7_copyOf_59c91 10 = .ok (.checkcast 317, 3) := by decide +kernel
theorem dJ7_copyOf_59c91_13 : decode cJ7_copyOf_59c91 13 = .ok (.areturn, 1) := by decide +kernel
theorem dJ7_copyOf_59c91_14 : decode cJ7_copyOf_59c91 14 = .ok (.iload_n 1, 1) := by decide +kernel
theorem dJ7_copyOf_59c91_15 : decode cJ7_copyOf_59c91 15 = .ok (.newarray .int, 2) := by decide +kernel
theorem dJ7_copyOf_59c91_17 : decode cJ7_copyOf_59c91 17 = .ok (.astore_n 2, 1) := by decide +kernel
theorem dJ7_copyOf_59c91_18 : decode cJ7_copyOf_59c91 18 = .ok (.aload_n 0, 1) := by decide +kernel
theorem dJ7_copyOf_59c91_19 : decode cJ7_copyOf_59c91 19 = .ok (.iconst 0, 1) := by decide +kernel
theorem dJ7_copyOf_59c91_20 : decode cJ7_copyOf_59c91 20 = .ok (.aload_n 2, 1) := by decide +kernel
theorem dJ7_copyOf_59c91_21 : decode cJ7_copyOf_59c91 21 = .ok (.iconst 0, 1) := by decide +kernel
theorem dJ7_copyOf_59c91_22 : decode cJ7_copyOf_59c91 22 = .ok (.aload_n 0, 1) := by decide +kernel
theorem dJ7_copyOf_59c91_23 : decode cJ7_copyOf_59c91 23 = .ok (.arraylength, 1) := by decide +kernel
theorem dJ7_copyOf_59c91_24 : decode cJ7_copyOf_59c91 24 = .ok (.iload_n 1, 1) := by decide +kernel
theorem dJ7_copyOf_59c91_25 : decode cJ7_copyOf_59c91 25 = .ok (.invokestatic 304, 3) := by decide +kernel
theorem dJ7_copyOf_59c91_28 : decode cJ7_copyOf_59c91 28 = .ok (.invokestatic 150, 3) := by decide +kernel
theorem dJ7_copyOf_59c91_31 : decode cJ7_copyOf_59c91 31 = .ok (.aload_n 2, 1) := by decide +kernel
theorem dJ7_copyOf_59c91_32 : decode cJ7_copyOf_59c91 32 = .ok (.areturn, 1) := by decide +kernel
theorem dJ3_checkIndex_8e157_0 : decode cJ3_checkIndex_8e157 0 = .ok (.iload_n 0, 1) := by decide +kernel
theorem dJ3_checkIndex_8e157_1 : decode cJ3_checkIndex_8e157 1 = .ok (.ifCond .lt 8, 3) := by decide +kernel
theorem dJ3_checkIndex_8e157_4 : decode cJ3_checkIndex_8e157 4 = .ok (.iload_n 0, 1) := by decide +kernel
theorem dJ3_checkIndex_8e157_5 : decode cJ3_checkIndex_8e157 5 = .ok (.iload_n 1, 1) := by decide +kernel
theorem dJ3_checkIndex_8e157_6 : decode cJ3_checkIndex_8e157 6 = .ok (.if_icmp .lt 10, 3) := by decide +kernel
theorem dJ3_checkIndex_8e157_9 : decode cJ3_checkIndex_8e157 9 = .ok (.aload_n 2, 1) := by decide +kernel
theorem dJ3_checkIndex_8e157_10 : decode cJ3_checkIndex_8e157 10 = .ok (.iload_n 0, 1) := by decide +kernel
theorem dJ3_checkIndex_8e157_11 : decode cJ3_checkIndex_8e157 11 = .ok (.iload_n 1, 1) := by decide +kernel
theorem dJ3_checkIndex_8e157_12 : decode cJ3_checkIndex_8e157 12 = .ok (.invokestatic 95, 3) := by decide +kernel
theorem dJ3_checkIndex_8e157_15 : decode cJ3_checkIndex_8e157 15 = .ok (.athrow, 1) := by decide +kernel
theorem dJ3_checkIndex_8e157_16 : decode cJ3_checkIndex_8e157 16 = .ok (.iload_n 0, 1) := by decide +kernel
theorem dJ3_checkIndex_8e157_17 : decode cJ3_checkIndex_8e157 17 = .ok (.ireturn, 1) := by decide +kernel
theorem dL_parish_0 : decode cL_parish 0 = .ok (.aload_n 1, 1) := by decide +kernel
theorem dL_parish_1 : decode cL_parish 1 = .ok (.iconst 0, 1) := by decide +kernel
theorem dL_parish_2 : decode cL_parish 2 = .ok (.aload_n 0, 1) := by decide +kernel
theorem dL_parish_3 : decode cL_parish 3 = .ok (.invokevirtual 7, 3) := by decide +kernel
theorem dL_parish_6 : decode cL_parish 6 = .ok (.i2l, 1) := by decide +kernel
theorem dL_parish_7 : decode cL_parish 7 = .ok (.lastore, 1) := by decide +kernel
theorem dL_parish_8 : decode cL_parish 8 = .ok (.goto 9, 3) := by decide +kernel
theorem dL_parish_11 : decode cL_parish 11 = .ok (.astore_n 2, 1) := by decide +kernel
theorem dL_parish_12 : decode cL_parish 12 = .ok (.iconst 1, 1) := by decide +kernel
theorem dL_parish_13 : decode cL_parish 13 = .ok (.ireturn, 1) := by decide +kernel
theorem dL_parish_14 : decode cL_parish 14 = .ok (.astore_n 2, 1) := by decide +kernel
theorem dL_parish_15 : decode cL_parish 15 = .ok (.iconst 2, 1) := by decide +kernel
theorem dL_parish_16 : decode cL_parish 16 = .ok (.ireturn, 1) := by decide +kernel
theorem dL_parish_17 : decode cL_parish 17 = .ok (.iconst 0, 1) := by decide +kernel
theorem dL_parish_18 : decode cL_parish 18 = .ok (.ireturn, 1) := by decide +kernel
theorem dL_law_0 : decode cL_law 0 = .ok (.aload_n 1, 1) := by decide +kernel
theorem dL_law_1 : decode cL_law 1 = .ok (.iconst 0, 1) := by decide +kernel
theorem dL_law_2 : decode cL_law 2 = .ok (.aload_n 0, 1) := by decide +kernel
theorem dL_law_3 : decode cL_law 3 = .ok (.invokevirtual 17, 3) := by decide +kernel
theorem dL_law_6 : decode cL_law 6 = .ok (.i2l, 1) := by decide +kernel
theorem dL_law_7 : decode cL_law 7 = .ok (.lastore, 1) := by decide +kernel
theorem dL_law_8 : decode cL_law 8 = .ok (.goto 6, 3) := by decide +kernel
theorem dL_law_11 : decode cL_law 11 = .ok (.astore_n 2, 1) := by decide +kernel
theorem dL_law_12 : decode cL_law 12 = .ok (.iconst 1, 1) := by decide +kernel
theorem dL_law_13 : decode cL_law 13 = .ok (.ireturn, 1) := by decide +kernel
theorem dL_law_14 : decode cL_law 14 = .ok (.iconst 0, 1) := by decide +kernel
theorem dL_law_15 : decode cL_law 15 = .ok (.ireturn, 1) := by decide +kernel
theorem dL_house_0 : decode cL_house 0 = .ok (.aload_n 3, 1) := by decide +kernel
theorem dL_house_1 : decode cL_house 1 = .ok (.iconst 0, 1) := by decide +kernel
theorem dL_house_2 : decode cL_house 2 = .ok (.aload_n 0, 1) := by decide +kernel
theorem dL_house_3 : decode cL_house 3 = .ok (.iload_n 1, 1) := by decide +kernel
theorem dL_house_4 : decode cL_house 4 = .ok (.iload_n 2, 1) := by decide +kernel
theorem dL_house_5 : decode cL_house 5 = .ok (.invokevirtual 20, 3) := by decide +kernel
theorem dL_house_8 : decode cL_house 8 = .ok (.i2l, 1) := by decide +kernel
theorem dL_house_9 : decode cL_house 9 = .ok (.lastore, 1) := by decide +kernel
theorem dL_house_10 : decode cL_house 10 = .ok (.goto 11, 3) := by decide +kernel
theorem dL_house_13 : decode cL_house 13 = .ok (.astore 4, 2) := by decide +kernel
theorem dL_house_15 : decode cL_house 15 = .ok (.iconst 1, 1) := by decide +kernel
theorem dL_house_16 : decode cL_house 16 = .ok (.ireturn, 1) := by decide +kernel
theorem dL_house_17 : decode cL_house 17 = .ok (.astore 4, 2) := by decide +kernel
theorem dL_house_19 : decode cL_house 19 = .ok (.iconst 2, 1) := by decide +kernel
theorem dL_house_20 : decode cL_house 20 = .ok (.ireturn, 1) := by decide +kernel
theorem dL_house_21 : decode cL_house 21 = .ok (.iconst 0, 1) := by decide +kernel
theorem dL_house_22 : decode cL_house 22 = .ok (.ireturn, 1) := by decide +kernel
theorem dL_hearth_0 : decode cL_hearth 0 = .ok (.aload_n 3, 1) := by decide +kernel
theorem dL_hearth_1 : decode cL_hearth 1 = .ok (.iconst 0, 1) := by decide +kernel
theorem dL_hearth_2 : decode cL_hearth 2 = .ok (.aload_n 0, 1) := by decide +kernel
theorem dL_hearth_3 : decode cL_hearth 3 = .ok (.iload_n 1, 1) := by decide +kernel
theorem dL_hearth_4 : decode cL_hearth 4 = .ok (.iload_n 2, 1) := by decide +kernel
theorem dL_hearth_5 : decode cL_hearth 5 = .ok (.invokevirtual 28, 3) := by decide +kernel
theorem dL_hearth_8 : decode cL_hearth 8 = .ok (.i2l, 1) := by decide +kernel
theorem dL_hearth_9 : decode cL_hearth 9 = .ok (.lastore, 1) := by decide +kernel
theorem dL_hearth_10 : decode cL_hearth 10 = .ok (.goto 11, 3) := by decide +kernel
theorem dL_hearth_13 : decode cL_hearth 13 = .ok (.astore 4, 2) := by decide +kernel
theorem dL_hearth_15 : decode cL_hearth 15 = .ok (.iconst 1, 1) := by decide +kernel
theorem dL_hearth_16 : decode cL_hearth 16 = .ok (.ireturn, 1) := by decide +kernel
theorem dL_hearth_17 : decode cL_hearth 17 = .ok (.astore 4, 2) := by decide +kernel
theorem dL_hearth_19 : decode cL_hearth 19 = .ok (.iconst 2, 1) := by decide +kernel
theorem dL_hearth_20 : decode cL_hearth 20 = .ok (.ireturn, 1) := by decide +kernel
theorem dL_hearth_21 : decode cL_hearth 21 = .ok (.iconst 0, 1) := by decide +kernel
theorem dL_hearth_22 : decode cL_hearth 22 = .ok (.ireturn, 1) := by decide +kernel
theorem dL_wall_0 : decode cL_wall 0 = .ok (.aload_n 2, 1) := by decide +kernel
theorem dL_wall_1 : decode cL_wall 1 = .ok (.iconst 0, 1) := by decide +kernel
theorem dL_wall_2 : decode cL_wall 2 = .ok (.aload_n 0, 1) := by decide +kernel
theorem dL_wall_3 : decode cL_wall 3 = .ok (.iload_n 1, 1) := by decide +kernel
theorem dL_wall_4 : decode cL_wall 4 = .ok (.invokevirtual 31, 3) := by decide +kernel
theorem dL_wall_7 : decode cL_wall 7 = .ok (.i2l, 1) := by decide +kernel
theorem dL_wall_8 : decode cL_wall 8 = .ok (.lastore, 1) := by decide +kernel
theorem dL_wall_9 : decode cL_wall 9 = .ok (.goto 9, 3) := by decide +kernel
theorem dL_wall_12 : decode cL_wall 12 = .ok (.astore_n 3, 1) := by decide +kernel
theorem dL_wall_13 : decode cL_wall 13 = .ok (.iconst 1, 1) := by decide +kernel
theorem dL_wall_14 : decode cL_wall 14 = .ok (.ireturn, 1) := by decide +kernel
theorem dL_wall_15 : decode cL_wall 15 = .ok (.astore_n 3, 1) := by decide +kernel
theorem dL_wall_16 : decode cL_wall 16 = .ok (.iconst 2, 1) := by decide +kernel
theorem dL_wall_17 : decode cL_wall 17 = .ok (.ireturn, 1) := by decide +kernel
theorem dL_wall_18 : decode cL_wall 18 = .ok (.iconst 0, 1) := by decide +kernel
theorem dL_wall_19 : decode cL_wall 19 = .ok (.ireturn, 1) := by decide +kernel
theorem dL_open_0 : decode cL_open 0 = .ok (.aload_n 2, 1) := by decide +kernel
theorem dL_open_1 : decode cL_open 1 = .ok (.iconst 0, 1) := by decide +kernel
theorem dL_open_2 : decode cL_open 2 = .ok (.aload_n 0, 1) := by decide +kernel
theorem dL_open_3 : decode cL_open 3 = .ok (.iload_n 1, 1) := by decide +kernel
theorem dL_open_4 : decode cL_open 4 = .ok (.invokevirtual 37, 3) := by decide +kernel
theorem dL_open_7 : decode cL_open 7 = .ok (.i2l, 1) := by decide +kernel
theorem dL_open_8 : decode cL_open 8 = .ok (.lastore, 1) := by decide +kernel
theorem dL_open_9 : decode cL_open 9 = .ok (.goto 9, 3) := by decide +kernel
theorem dL_open_12 : decode cL_open 12 = .ok (.astore_n 3, 1) := by decide +kernel
theorem dL_open_13 : decode cL_open 13 = .ok (.iconst 1, 1) := by decide +kernel
theorem dL_open_14 : decode cL_open 14 = .ok (.ireturn, 1) := by decide +kernel
theorem dL_open_15 : decode cL_open 15 = .ok (.astore_n 3, 1) := by decide +kernel
theorem dL_open_16 : decode cL_open 16 = .ok (.iconst 2, 1) := by decide +kernel
theorem dL_open_17 : decode cL_open 17 = .ok (.ireturn, 1) := by decide +kernel
theorem dL_open_18 : decode cL_open 18 = .ok (.iconst 0, 1) := by decide +kernel
theorem dL_open_19 : decode cL_open 19 = .ok (.ireturn, 1) := by decide +kernel
theorem dL_hide_0 : decode cL_hide 0 = .ok (.aload_n 2, 1) := by decide +kernel
theorem dL_hide_1 : decode cL_hide 1 = .ok (.iconst 0, 1) := by decide +kernel
theorem dL_hide_2 : decode cL_hide 2 = .ok (.aload_n 0, 1) := by decide +kernel
theorem dL_hide_3 : decode cL_hide 3 = .ok (.iload_n 1, 1) := by decide +kernel
theorem dL_hide_4 : decode cL_hide 4 = .ok (.invokevirtual 40, 3) := by decide +kernel
theorem dL_hide_7 : decode cL_hide 7 = .ok (.i2l, 1) := by decide +kernel
theorem dL_hide_8 : decode cL_hide 8 = .ok (.lastore, 1) := by decide +kernel
theorem dL_hide_9 : decode cL_hide 9 = .ok (.goto 9, 3) := by decide +kernel
theorem dL_hide_12 : decode cL_hide 12 = .ok (.astore_n 3, 1) := by decide +kernel
theorem dL_hide_13 : decode cL_hide 13 = .ok (.iconst 1, 1) := by decide +kernel
theorem dL_hide_14 : decode cL_hide 14 = .ok (.ireturn, 1) := by decide +kernel
theorem dL_hide_15 : decode cL_hide 15 = .ok (.astore_n 3, 1) := by decide +kernel
theorem dL_hide_16 : decode cL_hide 16 = .ok (.iconst 2, 1) := by decide +kernel
theorem dL_hide_17 : decode cL_hide 17 = .ok (.ireturn, 1) := by decide +kernel
theorem dL_hide_18 : decode cL_hide 18 = .ok (.iconst 0, 1) := by decide +kernel
theorem dL_hide_19 : decode cL_hide 19 = .ok (.ireturn, 1) := by decide +kernel
theorem dL_paper_0 : decode cL_paper 0 = .ok (.aload_n 3, 1) := by decide +kernel
theorem dL_paper_1 : decode cL_paper 1 = .ok (.iconst 0, 1) := by decide +kernel
theorem dL_paper_2 : decode cL_paper 2 = .ok (.aload_n 0, 1) := by decide +kernel
theorem dL_paper_3 : decode cL_paper 3 = .ok (.iload_n 1, 1) := by decide +kernel
theorem dL_paper_4 : decode cL_paper 4 = .ok (.iload_n 2, 1) := by decide +kernel
theorem dL_paper_5 : decode cL_paper 5 = .ok (.invokevirtual 43, 3) := by decide +kernel
theorem dL_paper_8 : decode cL_paper 8 = .ok (.ifCond .eq 7, 3) := by decide +kernel
theorem dL_paper_11 : decode cL_paper 11 = .ok (.lconst 1, 1) := by decide +kernel
theorem dL_paper_12 : decode cL_paper 12 = .ok (.goto 4, 3) := by decide +kernel
theorem dL_paper_15 : decode cL_paper 15 = .ok (.lconst 0, 1) := by decide +kernel
theorem dL_paper_16 : decode cL_paper 16 = .ok (.lastore, 1) := by decide +kernel
theorem dL_paper_17 : decode cL_paper 17 = .ok (.goto 7, 3) := by decide +kernel
theorem dL_paper_20 : decode cL_paper 20 = .ok (.astore 4, 2) := by decide +kernel
theorem dL_paper_22 : decode cL_paper 22 = .ok (.iconst 1, 1) := by decide +kernel
theorem dL_paper_23 : decode cL_paper 23 = .ok (.ireturn, 1) := by decide +kernel
theorem dL_paper_24 : decode cL_paper 24 = .ok (.iconst 0, 1) := by decide +kernel
theorem dL_paper_25 : decode cL_paper 25 = .ok (.ireturn, 1) := by decide +kernel
theorem dL_flue_0 : decode cL_flue 0 = .ok (.aload_n 3, 1) := by decide +kernel
theorem dL_flue_1 : decode cL_flue 1 = .ok (.iconst 0, 1) := by decide +kernel
theorem dL_flue_2 : decode cL_flue 2 = .ok (.aload_n 0, 1) := by decide +kernel
theorem dL_flue_3 : decode cL_flue 3 = .ok (.iload_n 1, 1) := by decide +kernel
theorem dL_flue_4 : decode cL_flue 4 = .ok (.iload_n 2, 1) := by decide +kernel
theorem dL_flue_5 : decode cL_flue 5 = .ok (.invokevirtual 47, 3) := by decide +kernel
theorem dL_flue_8 : decode cL_flue 8 = .ok (.i2l, 1) := by decide +kernel
theorem dL_flue_9 : decode cL_flue 9 = .ok (.lastore, 1) := by decide +kernel
theorem dL_flue_10 : decode cL_flue 10 = .ok (.goto 7, 3) := by decide +kernel
theorem dL_flue_13 : decode cL_flue 13 = .ok (.astore 4, 2) := by decide +kernel
theorem dL_flue_15 : decode cL_flue 15 = .ok (.iconst 1, 1) := by decide +kernel
theorem dL_flue_16 : decode cL_flue 16 = .ok (.ireturn, 1) := by decide +kernel
theorem dL_flue_17 : decode cL_flue 17 = .ok (.iconst 0, 1) := by decide +kernel
theorem dL_flue_18 : decode cL_flue 18 = .ok (.ireturn, 1) := by decide +kernel
theorem dL_rate_0 : decode cL_rate 0 = .ok (.aload_n 2, 1) := by decide +kernel
theorem dL_rate_1 : decode cL_rate 1 = .ok (.iconst 0, 1) := by decide +kernel
theorem dL_rate_2 : decode cL_rate 2 = .ok (.aload_n 0, 1) := by decide +kernel
theorem dL_rate_3 : decode cL_rate 3 = .ok (.iload_n 1, 1) := by decide +kernel
theorem dL_rate_4 : decode cL_rate 4 = .ok (.invokevirtual 50, 3) := by decide +kernel
theorem dL_rate_7 : decode cL_rate 7 = .ok (.i2l, 1) := by decide +kernel
theorem dL_rate_8 : decode cL_rate 8 = .ok (.lastore, 1) := by decide +kernel
theorem dL_rate_9 : decode cL_rate 9 = .ok (.goto 6, 3) := by decide +kernel
theorem dL_rate_12 : decode cL_rate 12 = .ok (.astore_n 3, 1) := by decide +kernel
theorem dL_rate_13 : decode cL_rate 13 = .ok (.iconst 1, 1) := by decide +kernel
theorem dL_rate_14 : decode cL_rate 14 = .ok (.ireturn, 1) := by decide +kernel
theorem dL_rate_15 : decode cL_rate 15 = .ok (.iconst 0, 1) := by decide +kernel
theorem dL_rate_16 : decode cL_rate 16 = .ok (.ireturn, 1) := by decide +kernel
theorem dL_give_0 : decode cL_give 0 = .ok (.aload_n 3, 1) := by decide +kernel
theorem dL_give_1 : decode cL_give 1 = .ok (.iconst 0, 1) := by decide +kernel
theorem dL_give_2 : decode cL_give 2 = .ok (.aload_n 0, 1) := by decide +kernel
theorem dL_give_3 : decode cL_give 3 = .ok (.iload_n 1, 1) := by decide +kernel
theorem dL_give_4 : decode cL_give 4 = .ok (.iload_n 2, 1) := by decide +kernel
theorem dL_give_5 : decode cL_give 5 = .ok (.invokevirtual 53, 3) := by decide +kernel
theorem dL_give_8 : decode cL_give 8 = .ok (.i2l, 1) := by decide +kernel
theorem dL_give_9 : decode cL_give 9 = .ok (.lastore, 1) := by decide +kernel
theorem dL_give_10 : decode cL_give 10 = .ok (.goto 11, 3) := by decide +kernel
theorem dL_give_13 : decode cL_give 13 = .ok (.astore 4, 2) := by decide +kernel
theorem dL_give_15 : decode cL_give 15 = .ok (.iconst 1, 1) := by decide +kernel
theorem dL_give_16 : decode cL_give 16 = .ok (.ireturn, 1) := by decide +kernel
theorem dL_give_17 : decode cL_give 17 = .ok (.astore 4, 2) := by decide +kernel
theorem dL_give_19 : decode cL_give 19 = .ok (.iconst 2, 1) := by decide +kernel
theorem dL_give_20 : decode cL_give 20 = .ok (.ireturn, 1) := by decide +kernel
theorem dL_give_21 : decode cL_give 21 = .ok (.iconst 0, 1) := by decide +kernel
theorem dL_give_22 : decode cL_give 22 = .ok (.ireturn, 1) := by decide +kernel
theorem dL_quarters_0 : decode cL_quarters 0 = .ok (.aload_n 2, 1) := by decide +kernel
theorem dL_quarters_1 : decode cL_quarters 1 = .ok (.iconst 0, 1) := by decide +kernel
theorem dL_quarters_2 : decode cL_quarters 2 = .ok (.aload_n 0, 1) := by decide +kernel
theorem dL_quarters_3 : decode cL_quarters 3 = .ok (.iload_n 1, 1) := by decide +kernel
theorem dL_quarters_4 : decode cL_quarters 4 = .ok (.invokevirtual 56, 3) := by decide +kernel
theorem dL_quarters_7 : decode cL_quarters 7 = .ok (.i2l, 1) := by decide +kernel
theorem dL_quarters_8 : decode cL_quarters 8 = .ok (.lastore, 1) := by decide +kernel
theorem dL_quarters_9 : decode cL_quarters 9 = .ok (.goto 6, 3) := by decide +kernel
theorem dL_quarters_12 : decode cL_quarters 12 = .ok (.astore_n 3, 1) := by decide +kernel
theorem dL_quarters_13 : decode cL_quarters 13 = .ok (.iconst 1, 1) := by decide +kernel
theorem dL_quarters_14 : decode cL_quarters 14 = .ok (.ireturn, 1) := by decide +kernel
theorem dL_quarters_15 : decode cL_quarters 15 = .ok (.iconst 0, 1) := by decide +kernel
theorem dL_quarters_16 : decode cL_quarters 16 = .ok (.ireturn, 1) := by decide +kernel
theorem dL_stacks_0 : decode cL_stacks 0 = .ok (.aload_n 2, 1) := by decide +kernel
theorem dL_stacks_1 : decode cL_stacks 1 = .ok (.iconst 0, 1) := by decide +kernel
theorem dL_stacks_2 : decode cL_stacks 2 = .ok (.aload_n 0, 1) := by decide +kernel
theorem dL_stacks_3 : decode cL_stacks 3 = .ok (.iload_n 1, 1) := by decide +kernel
theorem dL_stacks_4 : decode cL_stacks 4 = .ok (.invokevirtual 59, 3) := by decide +kernel
theorem dL_stacks_7 : decode cL_stacks 7 = .ok (.i2l, 1) := by decide +kernel
theorem dL_stacks_8 : decode cL_stacks 8 = .ok (.lastore, 1) := by decide +kernel
theorem dL_stacks_9 : decode cL_stacks 9 = .ok (.goto 6, 3) := by decide +kernel
theorem dL_stacks_12 : decode cL_stacks 12 = .ok (.astore_n 3, 1) := by decide +kernel
theorem dL_stacks_13 : decode cL_stacks 13 = .ok (.iconst 1, 1) := by decide +kernel
theorem dL_stacks_14 : decode cL_stacks 14 = .ok (.ireturn, 1) := by decide +kernel
theorem dL_stacks_15 : decode cL_stacks 15 = .ok (.iconst 0, 1) := by decide +kernel
theorem dL_stacks_16 : decode cL_stacks 16 = .ok (.ireturn, 1) := by decide +kernel
theorem dL_plan_0 : decode cL_plan 0 = .ok (.aload_n 3, 1) := by decide +kernel
theorem dL_plan_1 : decode cL_plan 1 = .ok (.iconst 0, 1) := by decide +kernel
theorem dL_plan_2 : decode cL_plan 2 = .ok (.aload_n 0, 1) := by decide +kernel
theorem dL_plan_3 : decode cL_plan 3 = .ok (.iload_n 1, 1) := by decide +kernel
theorem dL_plan_4 : decode cL_plan 4 = .ok (.iload_n 2, 1) := by decide +kernel
theorem dL_plan_5 : decode cL_plan 5 = .ok (.invokevirtual 62, 3) := by decide +kernel
theorem dL_plan_8 : decode cL_plan 8 = .ok (.i2l, 1) := by decide +kernel
theorem dL_plan_9 : decode cL_plan 9 = .ok (.lastore, 1) := by decide +kernel
theorem dL_plan_10 : decode cL_plan 10 = .ok (.goto 7, 3) := by decide +kernel
theorem dL_plan_13 : decode cL_plan 13 = .ok (.astore 4, 2) := by decide +kernel
theorem dL_plan_15 : decode cL_plan 15 = .ok (.iconst 1, 1) := by decide +kernel
theorem dL_plan_16 : decode cL_plan 16 = .ok (.ireturn, 1) := by decide +kernel
theorem dL_plan_17 : decode cL_plan 17 = .ok (.iconst 0, 1) := by decide +kernel
theorem dL_plan_18 : decode cL_plan 18 = .ok (.ireturn, 1) := by decide +kernel
theorem dL_brings_0 : decode cL_brings 0 = .ok (.aload_n 2, 1) := by decide +kernel
theorem dL_brings_1 : decode cL_brings 1 = .ok (.iconst 0, 1) := by decide +kernel
theorem dL_brings_2 : decode cL_brings 2 = .ok (.aload_n 0, 1) := by decide +kernel
theorem dL_brings_3 : decode cL_brings 3 = .ok (.iload_n 1, 1) := by decide +kernel
theorem dL_brings_4 : decode cL_brings 4 = .ok (.invokevirtual 66, 3) := by decide +kernel
theorem dL_brings_7 : decode cL_brings 7 = .ok (.i2l, 1) := by decide +kernel
theorem dL_brings_8 : decode cL_brings 8 = .ok (.lastore, 1) := by decide +kernel
theorem dL_brings_9 : decode cL_brings 9 = .ok (.goto 6, 3) := by decide +kernel
theorem dL_brings_12 : decode cL_brings 12 = .ok (.astore_n 3, 1) := by decide +kernel
theorem dL_brings_13 : decode cL_brings 13 = .ok (.iconst 1, 1) := by decide +kernel
theorem dL_brings_14 : decode cL_brings 14 = .ok (.ireturn, 1) := by decide +kernel
theorem dL_brings_15 : decode cL_brings 15 = .ok (.iconst 0, 1) := by decide +kernel
theorem dL_brings_16 : decode cL_brings 16 = .ok (.ireturn, 1) := by decide +kernel
theorem dL_round_0 : decode cL_round 0 = .ok (.aload_n 2, 1) := by decide +kernel
theorem dL_round_1 : decode cL_round 1 = .ok (.iconst 0, 1) := by decide +kernel
theorem dL_round_2 : decode cL_round 2 = .ok (.aload_n 0, 1) := by decide +kernel
theorem dL_round_3 : decode cL_round 3 = .ok (.iload_n 1, 1) := by decide +kernel
theorem dL_round_4 : decode cL_round 4 = .ok (.invokevirtual 69, 3) := by decide +kernel
theorem dL_round_7 : decode cL_round 7 = .ok (.i2l, 1) := by decide +kernel
theorem dL_round_8 : decode cL_round 8 = .ok (.lastore, 1) := by decide +kernel
theorem dL_round_9 : decode cL_round 9 = .ok (.goto 6, 3) := by decide +kernel
theorem dL_round_12 : decode cL_round 12 = .ok (.astore_n 3, 1) := by decide +kernel
theorem dL_round_13 : decode cL_round 13 = .ok (.iconst 1, 1) := by decide +kernel
theorem dL_round_14 : decode cL_round 14 = .ok (.ireturn, 1) := by decide +kernel
theorem dL_round_15 : decode cL_round 15 = .ok (.iconst 0, 1) := by decide +kernel
theorem dL_round_16 : decode cL_round 16 = .ok (.ireturn, 1) := by decide +kernel
theorem dL_smokes_0 : decode cL_smokes 0 = .ok (.aload_n 3, 1) := by decide +kernel
theorem dL_smokes_1 : decode cL_smokes 1 = .ok (.iconst 0, 1) := by decide +kernel
theorem dL_smokes_2 : decode cL_smokes 2 = .ok (.aload_n 0, 1) := by decide +kernel
theorem dL_smokes_3 : decode cL_smokes 3 = .ok (.iload_n 1, 1) := by decide +kernel
theorem dL_smokes_4 : decode cL_smokes 4 = .ok (.iload_n 2, 1) := by decide +kernel
theorem dL_smokes_5 : decode cL_smokes 5 = .ok (.invokevirtual 72, 3) := by decide +kernel
theorem dL_smokes_8 : decode cL_smokes 8 = .ok (.i2l, 1) := by decide +kernel
theorem dL_smokes_9 : decode cL_smokes 9 = .ok (.lastore, 1) := by decide +kernel
theorem dL_smokes_10 : decode cL_smokes 10 = .ok (.goto 11, 3) := by decide +kernel
theorem dL_smokes_13 : decode cL_smokes 13 = .ok (.astore 4, 2) := by decide +kernel
theorem dL_smokes_15 : decode cL_smokes 15 = .ok (.iconst 1, 1) := by decide +kernel
theorem dL_smokes_16 : decode cL_smokes 16 = .ok (.ireturn, 1) := by decide +kernel
theorem dL_smokes_17 : decode cL_smokes 17 = .ok (.astore 4, 2) := by decide +kernel
theorem dL_smokes_19 : decode cL_smokes 19 = .ok (.iconst 2, 1) := by decide +kernel
theorem dL_smokes_20 : decode cL_smokes 20 = .ok (.ireturn, 1) := by decide +kernel
theorem dL_smokes_21 : decode cL_smokes 21 = .ok (.iconst 0, 1) := by decide +kernel
theorem dL_smokes_22 : decode cL_smokes 22 = .ok (.ireturn, 1) := by decide +kernel
theorem dL_look_0 : decode cL_look 0 = .ok (.aload_n 2, 1) := by decide +kernel
theorem dL_look_1 : decode cL_look 1 = .ok (.iconst 0, 1) := by decide +kernel
theorem dL_look_2 : decode cL_look 2 = .ok (.aload_n 0, 1) := by decide +kernel
theorem dL_look_3 : decode cL_look 3 = .ok (.iload_n 1, 1) := by decide +kernel
theorem dL_look_4 : decode cL_look 4 = .ok (.invokevirtual 75, 3) := by decide +kernel
theorem dL_look_7 : decode cL_look 7 = .ok (.i2l, 1) := by decide +kernel
theorem dL_look_8 : decode cL_look 8 = .ok (.lastore, 1) := by decide +kernel
theorem dL_look_9 : decode cL_look 9 = .ok (.goto 9, 3) := by decide +kernel
theorem dL_look_12 : decode cL_look 12 = .ok (.astore_n 3, 1) := by decide +kernel
theorem dL_look_13 : decode cL_look 13 = .ok (.iconst 1, 1) := by decide +kernel
theorem dL_look_14 : decode cL_look 14 = .ok (.ireturn, 1) := by decide +kernel
theorem dL_look_15 : decode cL_look 15 = .ok (.astore_n 3, 1) := by decide +kernel
theorem dL_look_16 : decode cL_look 16 = .ok (.iconst 2, 1) := by decide +kernel
theorem dL_look_17 : decode cL_look 17 = .ok (.ireturn, 1) := by decide +kernel
theorem dL_look_18 : decode cL_look 18 = .ok (.iconst 0, 1) := by decide +kernel
theorem dL_look_19 : decode cL_look 19 = .ok (.ireturn, 1) := by decide +kernel
theorem dL_window_0 : decode cL_window 0 = .ok (.aload_n 2, 1) := by decide +kernel
theorem dL_window_1 : decode cL_window 1 = .ok (.iconst 0, 1) := by decide +kernel
theorem dL_window_2 : decode cL_window 2 = .ok (.aload_n 0, 1) := by decide +kernel
theorem dL_window_3 : decode cL_window 3 = .ok (.iload_n 1, 1) := by decide +kernel
theorem dL_window_4 : decode cL_window 4 = .ok (.invokevirtual 78, 3) := by decide +kernel
theorem dL_window_7 : decode cL_window 7 = .ok (.i2l, 1) := by decide +kernel
theorem dL_window_8 : decode cL_window 8 = .ok (.lastore, 1) := by decide +kernel
theorem dL_window_9 : decode cL_window 9 = .ok (.goto 6, 3) := by decide +kernel
theorem dL_window_12 : decode cL_window 12 = .ok (.astore_n 3, 1) := by decide +kernel
theorem dL_window_13 : decode cL_window 13 = .ok (.iconst 1, 1) := by decide +kernel
theorem dL_window_14 : decode cL_window 14 = .ok (.ireturn, 1) := by decide +kernel
theorem dL_window_15 : decode cL_window 15 = .ok (.iconst 0, 1) := by decide +kernel
theorem dL_window_16 : decode cL_window 16 = .ok (.ireturn, 1) := by decide +kernel
theorem dL_odds_0 : decode cL_odds 0 = .ok (.aload_n 2, 1) := by decide +kernel
theorem dL_odds_1 : decode cL_odds 1 = .ok (.iconst 0, 1) := by decide +kernel
theorem dL_odds_2 : decode cL_odds 2 = .ok (.aload_n 0, 1) := by decide +kernel
theorem dL_odds_3 : decode cL_odds 3 = .ok (.iload_n 1, 1) := by decide +kernel
theorem dL_odds_4 : decode cL_odds 4 = .ok (.invokevirtual 81, 3) := by decide +kernel
theorem dL_odds_7 : decode cL_odds 7 = .ok (.i2l, 1) := by decide +kernel
theorem dL_odds_8 : decode cL_odds 8 = .ok (.lastore, 1) := by decide +kernel
theorem dL_odds_9 : decode cL_odds 9 = .ok (.goto 6, 3) := by decide +kernel
theorem dL_odds_12 : decode cL_odds 12 = .ok (.astore_n 3, 1) := by decide +kernel
theorem dL_odds_13 : decode cL_odds 13 = .ok (.iconst 1, 1) := by decide +kernel
theorem dL_odds_14 : decode cL_odds 14 = .ok (.ireturn, 1) := by decide +kernel
theorem dL_odds_15 : decode cL_odds 15 = .ok (.iconst 0, 1) := by decide +kernel
theorem dL_odds_16 : decode cL_odds 16 = .ok (.ireturn, 1) := by decide +kernel
theorem dL_broke_0 : decode cL_broke 0 = .ok (.aload_n 2, 1) := by decide +kernel
theorem dL_broke_1 : decode cL_broke 1 = .ok (.iconst 0, 1) := by decide +kernel
theorem dL_broke_2 : decode cL_broke 2 = .ok (.aload_n 0, 1) := by decide +kernel
theorem dL_broke_3 : decode cL_broke 3 = .ok (.iload_n 1, 1) := by decide +kernel
theorem dL_broke_4 : decode cL_broke 4 = .ok (.invokevirtual 84, 3) := by decide +kernel
theorem dL_broke_7 : decode cL_broke 7 = .ok (.i2l, 1) := by decide +kernel
theorem dL_broke_8 : decode cL_broke 8 = .ok (.lastore, 1) := by decide +kernel
theorem dL_broke_9 : decode cL_broke 9 = .ok (.goto 6, 3) := by decide +kernel
theorem dL_broke_12 : decode cL_broke 12 = .ok (.astore_n 3, 1) := by decide +kernel
theorem dL_broke_13 : decode cL_broke 13 = .ok (.iconst 1, 1) := by decide +kernel
theorem dL_broke_14 : decode cL_broke 14 = .ok (.ireturn, 1) := by decide +kernel
theorem dL_broke_15 : decode cL_broke 15 = .ok (.iconst 0, 1) := by decide +kernel
theorem dL_broke_16 : decode cL_broke 16 = .ok (.ireturn, 1) := by decide +kernel
theorem dL_game_0 : decode cL_game 0 = .ok (.aload_n 2, 1) := by decide +kernel
theorem dL_game_1 : decode cL_game 1 = .ok (.iconst 0, 1) := by decide +kernel
theorem dL_game_2 : decode cL_game 2 = .ok (.aload_n 0, 1) := by decide +kernel
theorem dL_game_3 : decode cL_game 3 = .ok (.iload_n 1, 1) := by decide +kernel
theorem dL_game_4 : decode cL_game 4 = .ok (.invokevirtual 87, 3) := by decide +kernel
theorem dL_game_7 : decode cL_game 7 = .ok (.i2l, 1) := by decide +kernel
theorem dL_game_8 : decode cL_game 8 = .ok (.lastore, 1) := by decide +kernel
theorem dL_game_9 : decode cL_game 9 = .ok (.goto 6, 3) := by decide +kernel
theorem dL_game_12 : decode cL_game 12 = .ok (.astore_n 3, 1) := by decide +kernel
theorem dL_game_13 : decode cL_game 13 = .ok (.iconst 1, 1) := by decide +kernel
theorem dL_game_14 : decode cL_game 14 = .ok (.ireturn, 1) := by decide +kernel
theorem dL_game_15 : decode cL_game 15 = .ok (.iconst 0, 1) := by decide +kernel
theorem dL_game_16 : decode cL_game 16 = .ok (.ireturn, 1) := by decide +kernel
theorem dL_crowd_0 : decode cL_crowd 0 = .ok (.aload_n 2, 1) := by decide +kernel
theorem dL_crowd_1 : decode cL_crowd 1 = .ok (.iconst 0, 1) := by decide +kernel
theorem dL_crowd_2 : decode cL_crowd 2 = .ok (.aload_n 0, 1) := by decide +kernel
theorem dL_crowd_3 : decode cL_crowd 3 = .ok (.iload_n 1, 1) := by decide +kernel
theorem dL_crowd_4 : decode cL_crowd 4 = .ok (.invokevirtual 90, 3) := by decide +kernel
theorem dL_crowd_7 : decode cL_crowd 7 = .ok (.i2l, 1) := by decide +kernel
theorem dL_crowd_8 : decode cL_crowd 8 = .ok (.lastore, 1) := by decide +kernel
theorem dL_crowd_9 : decode cL_crowd 9 = .ok (.goto 6, 3) := by decide +kernel
theorem dL_crowd_12 : decode cL_crowd 12 = .ok (.astore_n 3, 1) := by decide +kernel
theorem dL_crowd_13 : decode cL_crowd 13 = .ok (.iconst 1, 1) := by decide +kernel
theorem dL_crowd_14 : decode cL_crowd 14 = .ok (.ireturn, 1) := by decide +kernel
theorem dL_crowd_15 : decode cL_crowd 15 = .ok (.iconst 0, 1) := by decide +kernel
theorem dL_crowd_16 : decode cL_crowd 16 = .ok (.ireturn, 1) := by decide +kernel
theorem dL_warmer_0 : decode cL_warmer 0 = .ok (.aload_n 2, 1) := by decide +kernel
theorem dL_warmer_1 : decode cL_warmer 1 = .ok (.iconst 0, 1) := by decide +kernel
theorem dL_warmer_2 : decode cL_warmer 2 = .ok (.aload_n 0, 1) := by decide +kernel
theorem dL_warmer_3 : decode cL_warmer 3 = .ok (.iload_n 1, 1) := by decide +kernel
theorem dL_warmer_4 : decode cL_warmer 4 = .ok (.invokevirtual 93, 3) := by decide +kernel
theorem dL_warmer_7 : decode cL_warmer 7 = .ok (.i2l, 1) := by decide +kernel
theorem dL_warmer_8 : decode cL_warmer 8 = .ok (.lastore, 1) := by decide +kernel
theorem dL_warmer_9 : decode cL_warmer 9 = .ok (.goto 6, 3) := by decide +kernel
theorem dL_warmer_12 : decode cL_warmer 12 = .ok (.astore_n 3, 1) := by decide +kernel
theorem dL_warmer_13 : decode cL_warmer 13 = .ok (.iconst 1, 1) := by decide +kernel
theorem dL_warmer_14 : decode cL_warmer 14 = .ok (.ireturn, 1) := by decide +kernel
theorem dL_warmer_15 : decode cL_warmer 15 = .ok (.iconst 0, 1) := by decide +kernel
theorem dL_warmer_16 : decode cL_warmer 16 = .ok (.ireturn, 1) := by decide +kernel
theorem dL_first_0 : decode cL_first 0 = .ok (.aload_n 2, 1) := by decide +kernel
theorem dL_first_1 : decode cL_first 1 = .ok (.iconst 0, 1) := by decide +kernel
theorem dL_first_2 : decode cL_first 2 = .ok (.aload_n 0, 1) := by decide +kernel
theorem dL_first_3 : decode cL_first 3 = .ok (.iload_n 1, 1) := by decide +kernel
theorem dL_first_4 : decode cL_first 4 = .ok (.invokevirtual 96, 3) := by decide +kernel
theorem dL_first_7 : decode cL_first 7 = .ok (.i2l, 1) := by decide +kernel
theorem dL_first_8 : decode cL_first 8 = .ok (.lastore, 1) := by decide +kernel
theorem dL_first_9 : decode cL_first 9 = .ok (.goto 6, 3) := by decide +kernel
theorem dL_first_12 : decode cL_first 12 = .ok (.astore_n 3, 1) := by decide +kernel
theorem dL_first_13 : decode cL_first 13 = .ok (.iconst 1, 1) := by decide +kernel
theorem dL_first_14 : decode cL_first 14 = .ok (.ireturn, 1) := by decide +kernel
theorem dL_first_15 : decode cL_first 15 = .ok (.iconst 0, 1) := by decide +kernel
theorem dL_first_16 : decode cL_first 16 = .ok (.ireturn, 1) := by decide +kernel
theorem dL_least_0 : decode cL_least 0 = .ok (.aload_n 3, 1) := by decide +kernel
theorem dL_least_1 : decode cL_least 1 = .ok (.iconst 0, 1) := by decide +kernel
theorem dL_least_2 : decode cL_least 2 = .ok (.aload_n 0, 1) := by decide +kernel
theorem dL_least_3 : decode cL_least 3 = .ok (.iload_n 1, 1) := by decide +kernel
theorem dL_least_4 : decode cL_least 4 = .ok (.iload_n 2, 1) := by decide +kernel
theorem dL_least_5 : decode cL_least 5 = .ok (.invokevirtual 99, 3) := by decide +kernel
theorem dL_least_8 : decode cL_least 8 = .ok (.i2l, 1) := by decide +kernel
theorem dL_least_9 : decode cL_least 9 = .ok (.lastore, 1) := by decide +kernel
theorem dL_least_10 : decode cL_least 10 = .ok (.goto 11, 3) := by decide +kernel
theorem dL_least_13 : decode cL_least 13 = .ok (.astore 4, 2) := by decide +kernel
theorem dL_least_15 : decode cL_least 15 = .ok (.iconst 1, 1) := by decide +kernel
theorem dL_least_16 : decode cL_least 16 = .ok (.ireturn, 1) := by decide +kernel
theorem dL_least_17 : decode cL_least 17 = .ok (.astore 4, 2) := by decide +kernel
theorem dL_least_19 : decode cL_least 19 = .ok (.iconst 2, 1) := by decide +kernel
theorem dL_least_20 : decode cL_least 20 = .ok (.ireturn, 1) := by decide +kernel
theorem dL_least_21 : decode cL_least 21 = .ok (.iconst 0, 1) := by decide +kernel
theorem dL_least_22 : decode cL_least 22 = .ok (.ireturn, 1) := by decide +kernel
theorem dL_ahead_0 : decode cL_ahead 0 = .ok (.aload_n 3, 1) := by decide +kernel
theorem dL_ahead_1 : decode cL_ahead 1 = .ok (.iconst 0, 1) := by decide +kernel
theorem dL_ahead_2 : decode cL_ahead 2 = .ok (.aload_n 0, 1) := by decide +kernel
theorem dL_ahead_3 : decode cL_ahead 3 = .ok (.iload_n 1, 1) := by decide +kernel
theorem dL_ahead_4 : decode cL_ahead 4 = .ok (.iload_n 2, 1) := by decide +kernel
theorem dL_ahead_5 : decode cL_ahead 5 = .ok (.invokevirtual 102, 3) := by decide +kernel
theorem dL_ahead_8 : decode cL_ahead 8 = .ok (.i2l, 1) := by decide +kernel
theorem dL_ahead_9 : decode cL_ahead 9 = .ok (.lastore, 1) := by decide +kernel
theorem dL_ahead_10 : decode cL_ahead 10 = .ok (.goto 11, 3) := by decide +kernel
theorem dL_ahead_13 : decode cL_ahead 13 = .ok (.astore 4, 2) := by decide +kernel
theorem dL_ahead_15 : decode cL_ahead 15 = .ok (.iconst 1, 1) := by decide +kernel
theorem dL_ahead_16 : decode cL_ahead 16 = .ok (.ireturn, 1) := by decide +kernel
theorem dL_ahead_17 : decode cL_ahead 17 = .ok (.astore 4, 2) := by decide +kernel
theorem dL_ahead_19 : decode cL_ahead 19 = .ok (.iconst 2, 1) := by decide +kernel
theorem dL_ahead_20 : decode cL_ahead 20 = .ok (.ireturn, 1) := by decide +kernel
theorem dL_ahead_21 : decode cL_ahead 21 = .ok (.iconst 0, 1) := by decide +kernel
theorem dL_ahead_22 : decode cL_ahead 22 = .ok (.ireturn, 1) := by decide +kernel
theorem dL_trial_0 : decode cL_trial 0 = .ok (.aload_n 3, 1) := by decide +kernel
theorem dL_trial_1 : decode cL_trial 1 = .ok (.iconst 0, 1) := by decide +kernel
theorem dL_trial_2 : decode cL_trial 2 = .ok (.aload_n 0, 1) := by decide +kernel
theorem dL_trial_3 : decode cL_trial 3 = .ok (.iload_n 1, 1) := by decide +kernel
theorem dL_trial_4 : decode cL_trial 4 = .ok (.iload_n 2, 1) := by decide +kernel
theorem dL_trial_5 : decode cL_trial 5 = .ok (.invokevirtual 105, 3) := by decide +kernel
theorem dL_trial_8 : decode cL_trial 8 = .ok (.i2l, 1) := by decide +kernel
theorem dL_trial_9 : decode cL_trial 9 = .ok (.lastore, 1) := by decide +kernel
theorem dL_trial_10 : decode cL_trial 10 = .ok (.goto 7, 3) := by decide +kernel
theorem dL_trial_13 : decode cL_trial 13 = .ok (.astore 4, 2) := by decide +kernel
theorem dL_trial_15 : decode cL_trial 15 = .ok (.iconst 1, 1) := by decide +kernel
theorem dL_trial_16 : decode cL_trial 16 = .ok (.ireturn, 1) := by decide +kernel
theorem dL_trial_17 : decode cL_trial 17 = .ok (.iconst 0, 1) := by decide +kernel
theorem dL_trial_18 : decode cL_trial 18 = .ok (.ireturn, 1) := by decide +kernel
theorem dL_span_0 : decode cL_span 0 = .ok (.aload_n 3, 1) := by decide +kernel
theorem dL_span_1 : decode cL_span 1 = .ok (.iconst 0, 1) := by decide +kernel
theorem dL_span_2 : decode cL_span 2 = .ok (.aload_n 0, 1) := by decide +kernel
theorem dL_span_3 : decode cL_span 3 = .ok (.iload_n 1, 1) := by decide +kernel
theorem dL_span_4 : decode cL_span 4 = .ok (.iload_n 2, 1) := by decide +kernel
theorem dL_span_5 : decode cL_span 5 = .ok (.invokevirtual 108, 3) := by decide +kernel
theorem dL_span_8 : decode cL_span 8 = .ok (.i2l, 1) := by decide +kernel
theorem dL_span_9 : decode cL_span 9 = .ok (.lastore, 1) := by decide +kernel
theorem dL_span_10 : decode cL_span 10 = .ok (.goto 7, 3) := by decide +kernel
theorem dL_span_13 : decode cL_span 13 = .ok (.astore 4, 2) := by decide +kernel
theorem dL_span_15 : decode cL_span 15 = .ok (.iconst 1, 1) := by decide +kernel
theorem dL_span_16 : decode cL_span 16 = .ok (.ireturn, 1) := by decide +kernel
theorem dL_span_17 : decode cL_span 17 = .ok (.iconst 0, 1) := by decide +kernel
theorem dL_span_18 : decode cL_span 18 = .ok (.ireturn, 1) := by decide +kernel
theorem dL_led_0 : decode cL_led 0 = .ok (.aload_n 3, 1) := by decide +kernel
theorem dL_led_1 : decode cL_led 1 = .ok (.iconst 0, 1) := by decide +kernel
theorem dL_led_2 : decode cL_led 2 = .ok (.aload_n 0, 1) := by decide +kernel
theorem dL_led_3 : decode cL_led 3 = .ok (.iload_n 1, 1) := by decide +kernel
theorem dL_led_4 : decode cL_led 4 = .ok (.iload_n 2, 1) := by decide +kernel
theorem dL_led_5 : decode cL_led 5 = .ok (.invokevirtual 111, 3) := by decide +kernel
theorem dL_led_8 : decode cL_led 8 = .ok (.i2l, 1) := by decide +kernel
theorem dL_led_9 : decode cL_led 9 = .ok (.lastore, 1) := by decide +kernel
theorem dL_led_10 : decode cL_led 10 = .ok (.goto 7, 3) := by decide +kernel
theorem dL_led_13 : decode cL_led 13 = .ok (.astore 4, 2) := by decide +kernel
theorem dL_led_15 : decode cL_led 15 = .ok (.iconst 1, 1) := by decide +kernel
theorem dL_led_16 : decode cL_led 16 = .ok (.ireturn, 1) := by decide +kernel
theorem dL_led_17 : decode cL_led 17 = .ok (.iconst 0, 1) := by decide +kernel
theorem dL_led_18 : decode cL_led 18 = .ok (.ireturn, 1) := by decide +kernel
theorem dL_log_0 : decode cL_log 0 = .ok (.aload_n 3, 1) := by decide +kernel
theorem dL_log_1 : decode cL_log 1 = .ok (.iconst 0, 1) := by decide +kernel
theorem dL_log_2 : decode cL_log 2 = .ok (.aload_n 0, 1) := by decide +kernel
theorem dL_log_3 : decode cL_log 3 = .ok (.iload_n 1, 1) := by decide +kernel
theorem dL_log_4 : decode cL_log 4 = .ok (.iload_n 2, 1) := by decide +kernel
theorem dL_log_5 : decode cL_log 5 = .ok (.invokevirtual 114, 3) := by decide +kernel
theorem dL_log_8 : decode cL_log 8 = .ok (.i2l, 1) := by decide +kernel
theorem dL_log_9 : decode cL_log 9 = .ok (.lastore, 1) := by decide +kernel
theorem dL_log_10 : decode cL_log 10 = .ok (.goto 7, 3) := by decide +kernel
theorem dL_log_13 : decode cL_log 13 = .ok (.astore 4, 2) := by decide +kernel
theorem dL_log_15 : decode cL_log 15 = .ok (.iconst 1, 1) := by decide +kernel
theorem dL_log_16 : decode cL_log 16 = .ok (.ireturn, 1) := by decide +kernel
theorem dL_log_17 : decode cL_log 17 = .ok (.iconst 0, 1) := by decide +kernel
theorem dL_log_18 : decode cL_log 18 = .ok (.ireturn, 1) := by decide +kernel
theorem dL_law__0 : decode cL_law_ 0 = .ok (.new 8, 3) := by decide +kernel
theorem dL_law__3 : decode cL_law_ 3 = .ok (.dup, 1) := by decide +kernel
theorem dL_law__4 : decode cL_law_ 4 = .ok (.invokespecial 117, 3) := by decide +kernel
theorem dL_law__7 : decode cL_law_ 7 = .ok (.astore_n 1, 1) := by decide +kernel
theorem dL_law__8 : decode cL_law_ 8 = .ok (.new 118, 3) := by decide +kernel
theorem dL_law__11 : decode cL_law_ 11 = .ok (.dup, 1) := by decide +kernel
theorem dL_law__12 : decode cL_law_ 12 = .ok (.invokespecial 120, 3) := by decide +kernel
theorem dL_law__15 : decode cL_law_ 15 = .ok (.astore_n 2, 1) := by decide +kernel
theorem dL_law__16 : decode cL_law_ 16 = .ok (.iconst 1, 1) := by decide +kernel
theorem dL_law__17 : decode cL_law_ 17 = .ok (.newarray .long, 2) := by decide +kernel
theorem dL_law__19 : decode cL_law_ 19 = .ok (.astore_n 3, 1) := by decide +kernel
theorem dL_law__20 : decode cL_law_ 20 = .ok (.iconst 0, 1) := by decide +kernel
theorem dL_law__21 : decode cL_law_ 21 = .ok (.istore 4, 2) := by decide +kernel
theorem dL_law__23 : decode cL_law_ 23 = .ok (.iload 4, 2) := by decide +kernel
theorem dL_law__25 : decode cL_law_ 25 = .ok (.aload_n 0, 1) := by decide +kernel
theorem dL_law__26 : decode cL_law_ 26 = .ok (.arraylength, 1) := by decide +kernel
theorem dL_law__27 : decode cL_law_ 27 = .ok (.bipush 6, 2) := by decide +kernel
theorem dL_law__29 : decode cL_law_ 29 = .ok (.isub, 1) := by decide +kernel
theorem dL_law__30 : decode cL_law_ 30 = .ok (.if_icmp .gt 1629, 3) := by decide +kernel
theorem dL_law__33 : decode cL_law_ 33 = .ok (.aload_n 0, 1) := by decide +kernel
theorem dL_law__34 : decode cL_law_ 34 = .ok (.iload 4, 2) := by decide +kernel
theorem dL_law__36 : decode cL_law_ 36 = .ok (.iaload, 1) := by decide +kernel
theorem dL_law__37 : decode cL_law_ 37 = .ok (.bipush 63, 2) := by decide +kernel
theorem dL_law__39 : decode cL_law_ 39 = .ok (.iand, 1) := by decide +kernel
theorem dL_law__40 : decode cL_law_ 40 = .ok (.tableswitch 1613 0 45 #[200, 273, 298, 314, 330, 343, 383, 423, 451, 479, 507, 563, 603, 631, 671, 699, 727, 740, 796, 824, 837, 865, 921, 949, 977, 1033, 1046, 1059, 1087, 1115, 1143, 1171, 1199, 1212, 1225, 1238, 1278, 1318, 1374, 1430, 1486, 1526, 1551, 1564, 1575, 1588], 200) := by decide +kernel
theorem dL_law__240 : decode cL_law_ 240 = .ok (.aload_n 1, 1) := by decide +kernel
theorem dL_law__241 : decode cL_law_ 241 = .ok (.aload_n 0, 1) := by decide +kernel
theorem dL_law__242 : decode cL_law_ 242 = .ok (.iload 4, 2) := by decide +kernel
theorem dL_law__244 : decode cL_law_ 244 = .ok (.iconst 1, 1) := by decide +kernel
theorem dL_law__245 : decode cL_law_ 245 = .ok (.iadd, 1) := by decide +kernel
theorem dL_law__246 : decode cL_law_ 246 = .ok (.iaload, 1) := by decide +kernel
theorem dL_law__247 : decode cL_law_ 247 = .ok (.aload_n 0, 1) := by decide +kernel
theorem dL_law__248 : decode cL_law_ 248 = .ok (.iload 4, 2) := by decide +kernel
theorem dL_law__250 : decode cL_law_ 250 = .ok (.iconst 2, 1) := by decide +kernel
theorem dL_law__251 : decode cL_law_ 251 = .ok (.iadd, 1) := by decide +kernel
theorem dL_law__252 : decode cL_law_ 252 = .ok (.iaload, 1) := by decide +kernel
theorem dL_law__253 : decode cL_law_ 253 = .ok (.aload_n 0, 1) := by decide +kernel
theorem dL_law__254 : decode cL_law_ 254 = .ok (.iload 4, 2) := by decide +kernel
theorem dL_law__256 : decode cL_law_ 256 = .ok (.iconst 3, 1) := by decide +kernel
theorem dL_law__257 : decode cL_law_ 257 = .ok (.iadd, 1) := by decide +kernel
theorem dL_law__258 : decode cL_law_ 258 = .ok (.iaload, 1) := by decide +kernel
theorem dL_law__259 : decode cL_law_ 259 = .ok (.aload_n 0, 1) := by decide +kernel
theorem dL_law__260 : decode cL_law_ 260 = .ok (.iload 4, 2) := by decide +kernel
theorem dL_law__262 : decode cL_law_ 262 = .ok (.iconst 4, 1) := by decide +kernel
theorem dL_law__263 : decode cL_law_ 263 = .ok (.iadd, 1) := by decide +kernel
theorem dL_law__264 : decode cL_law_ 264 = .ok (.iaload, 1) := by decide +kernel
theorem dL_law__265 : decode cL_law_ 265 = .ok (.aload_n 0, 1) := by decide +kernel
theorem dL_law__266 : decode cL_law_ 266 = .ok (.iload 4, 2) := by decide +kernel
theorem dL_law__268 : decode cL_law_ 268 = .ok (.iconst 5, 1) := by decide +kernel
theorem dL_law__269 : decode cL_law_ 269 = .ok (.iadd, 1) := by decide +kernel
theorem dL_law__270 : decode cL_law_ 270 = .ok (.iaload, 1) := by decide +kernel
theorem dL_law__271 : decode cL_law_ 271 = .ok (.invokevirtual 121, 3) := by decide +kernel
theorem dL_law__274 : decode cL_law_ 274 = .ok (.pop, 1) := by decide +kernel
theorem dL_law__275 : decode cL_law_ 275 = .ok (.aload_n 2, 1) := by decide +kernel
theorem dL_law__276 : decode cL_law_ 276 = .ok (.aload_n 0, 1) := by decide +kernel
theorem dL_law__277 : decode cL_law_ 277 = .ok (.iload 4, 2) := by decide +kernel
theorem dL_law__279 : decode cL_law_ 279 = .ok (.iconst 1, 1) := by decide +kernel
theorem dL_law__280 : decode cL_law_ 280 = .ok (.iadd, 1) := by decide +kernel
theorem dL_law__281 : decode cL_law_ 281 = .ok (.iaload, 1) := by decide +kernel
theorem dL_law__282 : decode cL_law_ 282 = .ok (.aload_n 0, 1) := by decide +kernel
theorem dL_law__283 : decode cL_law_ 283 = .ok (.iload 4, 2) := by decide +kernel
theorem dL_law__285 : decode cL_law_ 285 = .ok (.iconst 2, 1) := by decide +kernel
theorem dL_law__286 : decode cL_law_ 286 = .ok (.iadd, 1) := by decide +kernel
theorem dL_law__287 : decode cL_law_ 287 = .ok (.iaload, 1) := by decide +kernel
theorem dL_law__288 : decode cL_law_ 288 = .ok (.aload_n 0, 1) := by decide +kernel
theorem dL_law__289 : decode cL_law_ 289 = .ok (.iload 4, 2) := by decide +kernel
theorem dL_law__291 : decode cL_law_ 291 = .ok (.iconst 3, 1) := by decide +kernel
theorem dL_law__292 : decode cL_law_ 292 = .ok (.iadd, 1) := by decide +kernel
theorem dL_law__293 : decode cL_law_ 293 = .ok (.iaload, 1) := by decide +kernel
theorem dL_law__294 : decode cL_law_ 294 = .ok (.aload_n 0, 1) := by decide +kernel
theorem dL_law__295 : decode cL_law_ 295 = .ok (.iload 4, 2) := by decide +kernel
theorem dL_law__297 : decode cL_law_ 297 = .ok (.iconst 4, 1) := by decide +kernel
theorem dL_law__298 : decode cL_law_ 298 = .ok (.iadd, 1) := by decide +kernel
theorem dL_law__299 : decode cL_law_ 299 = .ok (.iaload, 1) := by decide +kernel
theorem dL_law__300 : decode cL_law_ 300 = .ok (.aload_n 0, 1) := by decide +kernel
theorem dL_law__301 : decode cL_law_ 301 = .ok (.iload 4, 2) := by decide +kernel
theorem dL_law__303 : decode cL_law_ 303 = .ok (.iconst 5, 1) := by decide +kernel
theorem dL_law__304 : decode cL_law_ 304 = .ok (.iadd, 1) := by decide +kernel
theorem dL_law__305 : decode cL_law_ 305 = .ok (.iaload, 1) := by decide +kernel
theorem dL_law__306 : decode cL_law_ 306 = .ok (.invokevirtual 125, 3) := by decide +kernel
theorem dL_law__309 : decode cL_law_ 309 = .ok (.pop, 1) := by decide +kernel
theorem dL_law__310 : decode cL_law_ 310 = .ok (.goto 1343, 3) := by decide +kernel
theorem dL_law__313 : decode cL_law_ 313 = .ok (.aload_n 1, 1) := by decide +kernel
theorem dL_law__314 : decode cL_law_ 314 = .ok (.aload_n 0, 1) := by decide +kernel
theorem dL_law__315 : decode cL_law_ 315 = .ok (.iload 4, 2) := by decide +kernel
theorem dL_law__317 : decode cL_law_ 317 = .ok (.iconst 1, 1) := by decide +kernel
theorem dL_law__318 : decode cL_law_ 318 = .ok (.iadd, 1) := by decide +kernel
theorem dL_law__319 : decode cL_law_ 319 = .ok (.iaload, 1) := by decide +kernel
theorem dL_law__320 : decode cL_law_ 320 = .ok (.invokevirtual 126, 3) := by decide +kernel
theorem dL_law__323 : decode cL_law_ 323 = .ok (.pop, 1) := by decide +kernel
theorem dL_law__324 : decode cL_law_ 324 = .ok (.aload_n 2, 1) := by decide +kernel
theorem dL_law__325 : decode cL_law_ 325 = .ok (.aload_n 0, 1) := by decide +kernel
theorem dL_law__326 : decode cL_law_ 326 = .ok (.iload 4, 2) := by decide +kernel
theorem dL_law__328 : decode cL_law_ 328 = .ok (.iconst 1, 1) := by decide +kernel
theorem dL_law__329 : decode cL_law_ 329 = .ok (.iadd, 1) := by decide +kernel
theorem dL_law__330 : decode cL_law_ 330 = .ok (.iaload, 1) := by decide +kernel
theorem dL_law__331 : decode cL_law_ 331 = .ok (.invokevirtual 130, 3) := by decide +kernel
theorem dL_law__334 : decode cL_law_ 334 = .ok (.pop, 1) := by decide +kernel
theorem dL_law__335 : decode cL_law_ 335 = .ok (.goto 1318, 3) := by decide +kernel
theorem dL_law__338 : decode cL_law_ 338 = .ok (.aload_n 1, 1) := by decide +kernel
theorem dL_law__339 : decode cL_law_ 339 = .ok (.aload_n 3, 1) := by decide +kernel
theorem dL_law__340 : decode cL_law_ 340 = .ok (.invokestatic 131, 3) := by decide +kernel
theorem dL_law__343 : decode cL_law_ 343 = .ok (.istore 5, 2) := by decide +kernel
theorem dL_law__345 : decode cL_law_ 345 = .ok (.aload_n 2, 1) := by decide +kernel
theorem dL_law__346 : decode cL_law_ 346 = .ok (.invokevirtual 136, 3) := by decide +kernel
theorem dL_law__349 : decode cL_law_ 349 = .ok (.istore 6, 2) := by decide +kernel
theorem dL_law__351 : decode cL_law_ 351 = .ok (.goto 1302, 3) := by decide +kernel
theorem dL_law__354 : decode cL_law_ 354 = .ok (.aload_n 1, 1) := by decide +kernel
theorem dL_law__355 : decode cL_law_ 355 = .ok (.aload_n 3, 1) := by decide +kernel
theorem dL_law__356 : decode cL_law_ 356 = .ok (.invokestatic 137, 3) := by decide +kernel
theorem dL_law__359 : decode cL_law_ 359 = .ok (.istore 5, 2) := by decide +kernel
theorem dL_law__361 : decode cL_law_ 361 = .ok (.aload_n 2, 1) := by decide +kernel
theorem dL_law__362 : decode cL_law_ 362 = .ok (.invokevirtual 139, 3) := by decide +kernel
theorem dL_law__365 : decode cL_law_ 365 = .ok (.istore 6, 2) := by decide +kernel
theorem dL_law__367 : decode cL_law_ 367 = .ok (.goto 1286, 3) := by decide +kernel
theorem dL_law__370 : decode cL_law_ 370 = .ok (.aload_n 1, 1) := by decide +kernel
theorem dL_law__371 : decode cL_law_ 371 = .ok (.invokevirtual 140, 3) := by decide +kernel
theorem dL_law__374 : decode cL_law_ 374 = .ok (.pop, 1) := by decide +kernel
theorem dL_law__375 : decode cL_law_ 375 = .ok (.aload_n 2, 1) := by decide +kernel
theorem dL_law__376 : decode cL_law_ 376 = .ok (.invokevirtual 143, 3) := by decide +kernel
theorem dL_law__379 : decode cL_law_ 379 = .ok (.pop, 1) := by decide +kernel
theorem dL_law__380 : decode cL_law_ 380 = .ok (.goto 1273, 3) := by decide +kernel
theorem dL_law__383 : decode cL_law_ 383 = .ok (.aload_n 1, 1) := by decide +kernel
theorem dL_law__384 : decode cL_law_ 384 = .ok (.aload_n 0, 1) := by decide +kernel
theorem dL_law__385 : decode cL_law_ 385 = .ok (.iload 4, 2) := by decide +kernel
theorem dL_law__387 : decode cL_law_ 387 = .ok (.iconst 1, 1) := by decide +kernel
theorem dL_law__388 : decode cL_law_ 388 = .ok (.iadd, 1) := by decide +kernel
theorem dL_law__389 : decode cL_law_ 389 = .ok (.iaload, 1) := by decide +kernel
theorem dL_law__390 : decode cL_law_ 390 = .ok (.aload_n 0, 1) := by decide +kernel
theorem dL_law__391 : decode cL_law_ 391 = .ok (.iload 4, 2) := by decide +kernel
theorem dL_law__393 : decode cL_law_ 393 = .ok (.iconst 2, 1) := by decide +kernel
theorem dL_law__394 : decode cL_law_ 394 = .ok (.iadd, 1) := by decide +kernel
theorem dL_law__395 : decode cL_law_ 395 = .ok (.iaload, 1) := by decide +kernel
theorem dL_law__396 : decode cL_law_ 396 = .ok (.aload_n 3, 1) := by decide +kernel
theorem dL_law__397 : decode cL_law_ 397 = .ok (.invokestatic 144, 3) := by decide +kernel
theorem dL_law__400 : decode cL_law_ 400 = .ok (.istore 5, 2) := by decide +kernel
theorem dL_law__402 : decode cL_law_ 402 = .ok (.aload_n 2, 1) := by decide +kernel
theorem dL_law__403 : decode cL_law_ 403 = .ok (.aload_n 0, 1) := by decide +kernel
theorem dL_law__404 : decode cL_law_ 404 = .ok (.iload 4, 2) := by decide +kernel
theorem dL_law__406 : decode cL_law_ 406 = .ok (.iconst 1, 1) := by decide +kernel
theorem dL_law__407 : decode cL_law_ 407 = .ok (.iadd, 1) := by decide +kernel
theorem dL_law__408 : decode cL_law_ 408 = .ok (.iaload, 1) := by decide +kernel
theorem dL_law__409 : decode cL_law_ 409 = .ok (.aload_n 0, 1) := by decide +kernel
theorem dL_law__410 : decode cL_law_ 410 = .ok (.iload 4, 2) := by decide +kernel
theorem dL_law__412 : decode cL_law_ 412 = .ok (.iconst 2, 1) := by decide +kernel
theorem dL_law__413 : decode cL_law_ 413 = .ok (.iadd, 1) := by decide +kernel
theorem dL_law__414 : decode cL_law_ 414 = .ok (.iaload, 1) := by decide +kernel
theorem dL_law__415 : decode cL_law_ 415 = .ok (.invokevirtual 147, 3) := by decide +kernel
theorem dL_law__418 : decode cL_law_ 418 = .ok (.istore 6, 2) := by decide +kernel
theorem dL_law__420 : decode cL_law_ 420 = .ok (.goto 1233, 3) := by decide +kernel
theorem dL_law__423 : decode cL_law_ 423 = .ok (.aload_n 1, 1) := by decide +kernel
theorem dL_law__424 : decode cL_law_ 424 = .ok (.aload_n 0, 1) := by decide +kernel
theorem dL_law__425 : decode cL_law_ 425 = .ok (.iload 4, 2) := by decide +kernel
theorem dL_law__427 : decode cL_law_ 427 = .ok (.iconst 1, 1) := by decide +kernel
theorem dL_law__428 : decode cL_law_ 428 = .ok (.iadd, 1) := by decide +kernel
theorem dL_law__429 : decode cL_law_ 429 = .ok (.iaload, 1) := by decide +kernel
theorem dL_law__430 : decode cL_law_ 430 = .ok (.aload_n 0, 1) := by decide +kernel
theorem dL_law__431 : decode cL_law_ 431 = .ok (.iload 4, 2) := by decide +kernel
theorem dL_law__433 : decode cL_law_ 433 = .ok (.iconst 2, 1) := by decide +kernel
theorem dL_law__434 : decode cL_law_ 434 = .ok (.iadd, 1) := by decide +kernel
theorem dL_law__435 : decode cL_law_ 435 = .ok (.iaload, 1) := by decide +kernel
theorem dL_law__436 : decode cL_law_ 436 = .ok (.aload_n 3, 1) := by decide +kernel
theorem dL_law__437 : decode cL_law_ 437 = .ok (.invokestatic 148, 3) := by decide +kernel
theorem dL_law__440 : decode cL_law_ 440 = .ok (.istore 5, 2) := by decide +kernel
theorem dL_law__442 : decode cL_law_ 442 = .ok (.aload_n 2, 1) := by decide +kernel
theorem dL_law__443 : decode cL_law_ 443 = .ok (.aload_n 0, 1) := by decide +kernel
theorem dL_law__444 : decode cL_law_ 444 = .ok (.iload 4, 2) := by decide +kernel
theorem dL_law__446 : decode cL_law_ 446 = .ok (.iconst 1, 1) := by decide +kernel
theorem dL_law__447 : decode cL_law_ 447 = .ok (.iadd, 1) := by decide +kernel
theorem dL_law__448 : decode cL_law_ 448 = .ok (.iaload, 1) := by decide +kernel
theorem dL_law__449 : decode cL_law_ 449 = .ok (.aload_n 0, 1) := by decide +kernel
theorem dL_law__450 : decode cL_law_ 450 = .ok (.iload 4, 2) := by decide +kernel
theorem dL_law__452 : decode cL_law_ 452 = .ok (.iconst 2, 1) := by decide +kernel
theorem dL_law__453 : decode cL_law_ 453 = .ok (.iadd, 1) := by decide +kernel
theorem dL_law__454 : decode cL_law_ 454 = .ok (.iaload, 1) := by decide +kernel
theorem dL_law__455 : decode cL_law_ 455 = .ok (.invokevirtual 150, 3) := by decide +kernel
theorem dL_law__458 : decode cL_law_ 458 = .ok (.istore 6, 2) := by decide +kernel
theorem dL_law__460 : decode cL_law_ 460 = .ok (.goto 1193, 3) := by decide +kernel
theorem dL_law__463 : decode cL_law_ 463 = .ok (.aload_n 1, 1) := by decide +kernel
theorem dL_law__464 : decode cL_law_ 464 = .ok (.aload_n 0, 1) := by decide +kernel
theorem dL_law__465 : decode cL_law_ 465 = .ok (.iload 4, 2) := by decide +kernel
theorem dL_law__467 : decode cL_law_ 467 = .ok (.iconst 1, 1) := by decide +kernel
theorem dL_law__468 : decode cL_law_ 468 = .ok (.iadd, 1) := by decide +kernel
theorem dL_law__469 : decode cL_law_ 469 = .ok (.iaload, 1) := by decide +kernel
theorem dL_law__470 : decode cL_law_ 470 = .ok (.aload_n 3, 1) := by decide +kernel
theorem dL_law__471 : decode cL_law_ 471 = .ok (.invokestatic 151, 3) := by decide +kernel
theorem dL_law__474 : decode cL_law_ 474 = .ok (.istore 5, 2) := by decide +kernel
theorem dL_law__476 : decode cL_law_ 476 = .ok (.aload_n 2, 1) := by decide +kernel
theorem dL_law__477 : decode cL_law_ 477 = .ok (.aload_n 0, 1) := by decide +kernel
theorem dL_law__478 : decode cL_law_ 478 = .ok (.iload 4, 2) := by decide +kernel
theorem dL_law__480 : decode cL_law_ 480 = .ok (.iconst 1, 1) := by decide +kernel
theorem dL_law__481 : decode cL_law_ 481 = .ok (.iadd, 1) := by decide +kernel
theorem dL_law__482 : decode cL_law_ 482 = .ok (.iaload, 1) := by decide +kernel
theorem dL_law__483 : decode cL_law_ 483 = .ok (.invokevirtual 154, 3) := by decide +kernel
theorem dL_law__486 : decode cL_law_ 486 = .ok (.istore 6, 2) := by decide +kernel
theorem dL_law__488 : decode cL_law_ 488 = .ok (.goto 1165, 3) := by decide +kernel
theorem dL_law__491 : decode cL_law_ 491 = .ok (.aload_n 1, 1) := by decide +kernel
theorem dL_law__492 : decode cL_law_ 492 = .ok (.aload_n 0, 1) := by decide +kernel
theorem dL_law__493 : decode cL_law_ 493 = .ok (.iload 4, 2) := by decide +kernel
theorem dL_law__495 : decode cL_law_ 495 = .ok (.iconst 1, 1) := by decide +kernel
theorem dL_law__496 : decode cL_law_ 496 = .ok (.iadd, 1) := by decide +kernel
theorem dL_law__497 : decode cL_law_ 497 = .ok (.iaload, 1) := by decide +kernel
theorem dL_law__498 : decode cL_law_ 498 = .ok (.aload_n 3, 1) := by decide +kernel
theorem dL_law__499 : decode cL_law_ 499 = .ok (.invokestatic 155, 3) := by decide +kernel
theorem dL_law__502 : decode cL_law_ 502 = .ok (.istore 5, 2) := by decide +kernel
theorem dL_law__504 : decode cL_law_ 504 = .ok (.aload_n 2, 1) := by decide +kernel
theorem dL_law__505 : decode cL_law_ 505 = .ok (.aload_n 0, 1) := by decide +kernel
theorem dL_law__506 : decode cL_law_ 506 = .ok (.iload 4, 2) := by decide +kernel
theorem dL_law__508 : decode cL_law_ 508 = .ok (.iconst 1, 1) := by decide +kernel
theorem dL_law__509 : decode cL_law_ 509 = .ok (.iadd, 1) := by decide +kernel
theorem dL_law__510 : decode cL_law_ 510 = .ok (.iaload, 1) := by decide +kernel
theorem dL_law__511 : decode cL_law_ 511 = .ok (.invokevirtual 157, 3) := by decide +kernel
theorem dL_law__514 : decode cL_law_ 514 = .ok (.istore 6, 2) := by decide +kernel
theorem dL_law__516 : decode cL_law_ 516 = .ok (.goto 1137, 3) := by decide +kernel
theorem dL_law__519 : decode cL_law_ 519 = .ok (.aload_n 1, 1) := by decide +kernel
theorem dL_law__520 : decode cL_law_ 520 = .ok (.aload_n 0, 1) := by decide +kernel
theorem dL_law__521 : decode cL_law_ 521 = .ok (.iload 4, 2) := by decide +kernel
theorem dL_law__523 : decode cL_law_ 523 = .ok (.iconst 1, 1) := by decide +kernel
theorem dL_law__524 : decode cL_law_ 524 = .ok (.iadd, 1) := by decide +kernel
theorem dL_law__525 : decode cL_law_ 525 = .ok (.iaload, 1) := by decide +kernel
theorem dL_law__526 : decode cL_law_ 526 = .ok (.aload_n 3, 1) := by decide +kernel
theorem dL_law__527 : decode cL_law_ 527 = .ok (.invokestatic 158, 3) := by decide +kernel
theorem dL_law__530 : decode cL_law_ 530 = .ok (.istore 5, 2) := by decide +kernel
theorem dL_law__532 : decode cL_law_ 532 = .ok (.aload_n 2, 1) := by decide +kernel
theorem dL_law__533 : decode cL_law_ 533 = .ok (.aload_n 0, 1) := by decide +kernel
theorem dL_law__534 : decode cL_law_ 534 = .ok (.iload 4, 2) := by decide +kernel
theorem dL_law__536 : decode cL_law_ 536 = .ok (.iconst 1, 1) := by decide +kernel
theorem dL_law__537 : decode cL_law_ 537 = .ok (.iadd, 1) := by decide +kernel
theorem dL_law__538 : decode cL_law_ 538 = .ok (.iaload, 1) := by decide +kernel
theorem dL_law__539 : decode cL_law_ 539 = .ok (.invokevirtual 160, 3) := by decide +kernel
theorem dL_law__542 : decode cL_law_ 542 = .ok (.istore 6, 2) := by decide +kernel
theorem dL_law__544 : decode cL_law_ 544 = .ok (.goto 1109, 3) := by decide +kernel
theorem dL_law__547 : decode cL_law_ 547 = .ok (.aload_n 1, 1) := by decide +kernel
theorem dL_law__548 : decode cL_law_ 548 = .ok (.aload_n 0, 1) := by decide +kernel
theorem dL_law__549 : decode cL_law_ 549 = .ok (.iload 4, 2) := by decide +kernel
theorem dL_law__551 : decode cL_law_ 551 = .ok (.iconst 1, 1) := by decide +kernel
theorem dL_law__552 : decode cL_law_ 552 = .ok (.iadd, 1) := by decide +kernel
theorem dL_law__553 : decode cL_law_ 553 = .ok (.iaload, 1) := by decide +kernel
theorem dL_law__554 : decode cL_law_ 554 = .ok (.aload_n 0, 1) := by decide +kernel
theorem dL_law__555 : decode cL_law_ 555 = .ok (.iload 4, 2) := by decide +kernel
theorem dL_law__557 : decode cL_law_ 557 = .ok (.iconst 2, 1) := by decide +kernel
theorem dL_law__558 : decode cL_law_ 558 = .ok (.iadd, 1) := by decide +kernel
theorem dL_law__559 : decode cL_law_ 559 = .ok (.iaload, 1) := by decide +kernel
theorem dL_law__560 : decode cL_law_ 560 = .ok (.ifCond .eq 7, 3) := by decide +kernel
theorem dL_law__563 : decode cL_law_ 563 = .ok (.iconst 1, 1) := by decide +kernel
theorem dL_law__564 : decode cL_law_ 564 = .ok (.goto 4, 3) := by decide +kernel
theorem dL_law__567 : decode cL_law_ 567 = .ok (.iconst 0, 1) := by decide +kernel
theorem dL_law__568 : decode cL_law_ 568 = .ok (.aload_n 3, 1) := by decide +kernel
theorem dL_law__569 : decode cL_law_ 569 = .ok (.invokestatic 161, 3) := by decide +kernel
theorem dL_law__572 : decode cL_law_ 572 = .ok (.istore 5, 2) := by decide +kernel
theorem dL_law__574 : decode cL_law_ 574 = .ok (.aload_n 2, 1) := by decide +kernel
theorem dL_law__575 : decode cL_law_ 575 = .ok (.aload_n 0, 1) := by decide +kernel
theorem dL_law__576 : decode cL_law_ 576 = .ok (.iload 4, 2) := by decide +kernel
theorem dL_law__578 : decode cL_law_ 578 = .ok (.iconst 1, 1) := by decide +kernel
theorem dL_law__579 : decode cL_law_ 579 = .ok (.iadd, 1) := by decide +kernel
theorem dL_law__580 : decode cL_law_ 580 = .ok (.iaload, 1) := by decide +kernel
theorem dL_law__581 : decode cL_law_ 581 = .ok (.aload_n 0, 1) := by decide +kernel
theorem dL_law__582 : decode cL_law_ 582 = .ok (.iload 4, 2) := by decide +kernel
theorem dL_law__584 : decode cL_law_ 584 = .ok (.iconst 2, 1) := by decide +kernel
theorem dL_law__585 : decode cL_law_ 585 = .ok (.iadd, 1) := by decide +kernel
theorem dL_law__586 : decode cL_law_ 586 = .ok (.iaload, 1) := by decide +kernel
theorem dL_law__587 : decode cL_law_ 587 = .ok (.ifCond .eq 7, 3) := by decide +kernel
theorem dL_law__590 : decode cL_law_ 590 = .ok (.iconst 1, 1) := by decide +kernel
theorem dL_law__591 : decode cL_law_ 591 = .ok (.goto 4, 3) := by decide +kernel
theorem dL_law__594 : decode cL_law_ 594 = .ok (.iconst 0, 1) := by decide +kernel
theorem dL_law__595 : decode cL_law_ 595 = .ok (.invokevirtual 164, 3) := by decide +kernel
theorem dL_law__598 : decode cL_law_ 598 = .ok (.istore 6, 2) := by decide +kernel
theorem dL_law__600 : decode cL_law_ 600 = .ok (.goto 1053, 3) := by decide +kernel
theorem dL_law__603 : decode cL_law_ 603 = .ok (.aload_n 1, 1) := by decide +kernel
theorem dL_law__604 : decode cL_law_ 604 = .ok (.aload_n 0, 1) := by decide +kernel
theorem dL_law__605 : decode cL_law_ 605 = .ok (.iload 4, 2) := by decide +kernel
theorem dL_law__607 : decode cL_law_ 607 = .ok (.iconst 1, 1) := by decide +kernel
theorem dL_law__608 : decode cL_law_ 608 = .ok (.iadd, 1) := by decide +kernel
theorem dL_law__609 : decode cL_law_ 609 = .ok (.iaload, 1) := by decide +kernel
theorem dL_law__610 : decode cL_law_ 610 = .ok (.aload_n 0, 1) := by decide +kernel
theorem dL_law__611 : decode cL_law_ 611 = .ok (.iload 4, 2) := by decide +kernel
theorem dL_law__613 : decode cL_law_ 613 = .ok (.iconst 2, 1) := by decide +kernel
theorem dL_law__614 : decode cL_law_ 614 = .ok (.iadd, 1) := by decide +kernel
theorem dL_law__615 : decode cL_law_ 615 = .ok (.iaload, 1) := by decide +kernel
theorem dL_law__616 : decode cL_law_ 616 = .ok (.aload_n 3, 1) := by decide +kernel
theorem dL_law__617 : decode cL_law_ 617 = .ok (.invokestatic 165, 3) := by decide +kernel
theorem dL_law__620 : decode cL_law_ 620 = .ok (.istore 5, 2) := by decide +kernel
theorem dL_law__622 : decode cL_law_ 622 = .ok (.aload_n 2, 1) := by decide +kernel
theorem dL_law__623 : decode cL_law_ 623 = .ok (.aload_n 0, 1) := by decide +kernel
theorem dL_law__624 : decode cL_law_ 624 = .ok (.iload 4, 2) := by decide +kernel
theorem dL_law__626 : decode cL_law_ 626 = .ok (.iconst 1, 1) := by decide +kernel
theorem dL_law__627 : decode cL_law_ 627 = .ok (.iadd, 1) := by decide +kernel
theorem dL_law__628 : decode cL_law_ 628 = .ok (.iaload, 1) := by decide +kernel
theorem dL_law__629 : decode cL_law_ 629 = .ok (.aload_n 0, 1) := by decide +kernel
theorem dL_law__630 : decode cL_law_ 630 = .ok (.iload 4, 2) := by decide +kernel
theorem dL_law__632 : decode cL_law_ 632 = .ok (.iconst 2, 1) := by decide +kernel
theorem dL_law__633 : decode cL_law_ 633 = .ok (.iadd, 1) := by decide +kernel
theorem dL_law__634 : decode cL_law_ 634 = .ok (.iaload, 1) := by decide +kernel
theorem dL_law__635 : decode cL_law_ 635 = .ok (.invokevirtual 167, 3) := by decide +kernel
theorem dL_law__638 : decode cL_law_ 638 = .ok (.istore 6, 2) := by decide +kernel
theorem dL_law__640 : decode cL_law_ 640 = .ok (.goto 1013, 3) := by decide +kernel
theorem dL_law__643 : decode cL_law_ 643 = .ok (.aload_n 1, 1) := by decide +kernel
theorem dL_law__644 : decode cL_law_ 644 = .ok (.aload_n 0, 1) := by decide +kernel
theorem dL_law__645 : decode cL_law_ 645 = .ok (.iload 4, 2) := by decide +kernel
theorem dL_law__647 : decode cL_law_ 647 = .ok (.iconst 1, 1) := by decide +kernel
theorem dL_law__648 : decode cL_law_ 648 = .ok (.iadd, 1) := by decide +kernel
theorem dL_law__649 : decode cL_law_ 649 = .ok (.iaload, 1) := by decide +kernel
theorem dL_law__650 : decode cL_law_ 650 = .ok (.aload_n 3, 1) := by decide +kernel
theorem dL_law__651 : decode cL_law_ 651 = .ok (.invokestatic 168, 3) := by decide +kernel
theorem dL_law__654 : decode cL_law_ 654 = .ok (.istore 5, 2) := by decide +kernel
theorem dL_law__656 : decode cL_law_ 656 = .ok (.aload_n 2, 1) := by decide +kernel
theorem dL_law__657 : decode cL_law_ 657 = .ok (.aload_n 0, 1) := by decide +kernel
theorem dL_law__658 : decode cL_law_ 658 = .ok (.iload 4, 2) := by decide +kernel
theorem dL_law__660 : decode cL_law_ 660 = .ok (.iconst 1, 1) := by decide +kernel
theorem dL_law__661 : decode cL_law_ 661 = .ok (.iadd, 1) := by decide +kernel
theorem dL_law__662 : decode cL_law_ 662 = .ok (.iaload, 1) := by decide +kernel
theorem dL_law__663 : decode cL_law_ 663 = .ok (.invokevirtual 170, 3) := by decide +kernel
theorem dL_law__666 : decode cL_law_ 666 = .ok (.istore 6, 2) := by decide +kernel
theorem dL_law__668 : decode cL_law_ 668 = .ok (.goto 985, 3) := by decide +kernel
theorem dL_law__671 : decode cL_law_ 671 = .ok (.aload_n 1, 1) := by decide +kernel
theorem dL_law__672 : decode cL_law_ 672 = .ok (.aload_n 0, 1) := by decide +kernel
theorem dL_law__673 : decode cL_law_ 673 = .ok (.iload 4, 2) := by decide +kernel
theorem dL_law__675 : decode cL_law_ 675 = .ok (.iconst 1, 1) := by decide +kernel
theorem dL_law__676 : decode cL_law_ 676 = .ok (.iadd, 1) := by decide +kernel
theorem dL_law__677 : decode cL_law_ 677 = .ok (.iaload, 1) := by decide +kernel
theorem dL_law__678 : decode cL_law_ 678 = .ok (.aload_n 0, 1) := by decide +kernel
theorem dL_law__679 : decode cL_law_ 679 = .ok (.iload 4, 2) := by decide +kernel
theorem dL_law__681 : decode cL_law_ 681 = .ok (.iconst 2, 1) := by decide +kernel
theorem dL_law__682 : decode cL_law_ 682 = .ok (.iadd, 1) := by decide +kernel
theorem dL_law__683 : decode cL_law_ 683 = .ok (.iaload, 1) := by decide +kernel
theorem dL_law__684 : decode cL_law_ 684 = .ok (.aload_n 3, 1) := by decide +kernel
theorem dL_law__685 : decode cL_law_ 685 = .ok (.invokestatic 171, 3) := by decide +kernel
theorem dL_law__688 : decode cL_law_ 688 = .ok (.istore 5, 2) := by decide +kernel
theorem dL_law__690 : decode cL_law_ 690 = .ok (.aload_n 2, 1) := by decide +kernel
theorem dL_law__691 : decode cL_law_ 691 = .ok (.aload_n 0, 1) := by decide +kernel
theorem dL_law__692 : decode cL_law_ 692 = .ok (.iload 4, 2) := by decide +kernel
theorem dL_law__694 : decode cL_law_ 694 = .ok (.iconst 1, 1) := by decide +kernel
theorem dL_law__695 : decode cL_law_ 695 = .ok (.iadd, 1) := by decide +kernel
theorem dL_law__696 : decode cL_law_ 696 = .ok (.iaload, 1) := by decide +kernel
theorem dL_law__697 : decode cL_law_ 697 = .ok (.aload_n 0, 1) := by decide +kernel
theorem dL_law__698 : decode cL_law_ 698 = .ok (.iload 4, 2) := by decide +kernel
theorem dL_law__700 : decode cL_law_ 700 = .ok (.iconst 2, 1) := by decide +kernel
theorem dL_law__701 : decode cL_law_ 701 = .ok (.iadd, 1) := by decide +kernel
theorem dL_law__702 : decode cL_law_ 702 = .ok (.iaload, 1) := by decide +kernel
theorem dL_law__703 : decode cL_law_ 703 = .ok (.invokevirtual 173, 3) := by decide +kernel
theorem dL_law__706 : decode cL_law_ 706 = .ok (.istore 6, 2) := by decide +kernel
theorem dL_law__708 : decode cL_law_ 708 = .ok (.goto 945, 3) := by decide +kernel
theorem dL_law__711 : decode cL_law_ 711 = .ok (.aload_n 1, 1) := by decide +kernel
theorem dL_law__712 : decode cL_law_ 712 = .ok (.aload_n 0, 1) := by decide +kernel
theorem dL_law__713 : decode cL_law_ 713 = .ok (.iload 4, 2) := by decide +kernel
theorem dL_law__715 : decode cL_law_ 715 = .ok (.iconst 1, 1) := by decide +kernel
theorem dL_law__716 : decode cL_law_ 716 = .ok (.iadd, 1) := by decide +kernel
theorem dL_law__717 : decode cL_law_ 717 = .ok (.iaload, 1) := by decide +kernel
theorem dL_law__718 : decode cL_law_ 718 = .ok (.aload_n 3, 1) := by decide +kernel
theorem dL_law__719 : decode cL_law_ 719 = .ok (.invokestatic 174, 3) := by decide +kernel
theorem dL_law__722 : decode cL_law_ 722 = .ok (.istore 5, 2) := by decide +kernel
theorem dL_law__724 : decode cL_law_ 724 = .ok (.aload_n 2, 1) := by decide +kernel
theorem dL_law__725 : decode cL_law_ 725 = .ok (.aload_n 0, 1) := by decide +kernel
theorem dL_law__726 : decode cL_law_ 726 = .ok (.iload 4, 2) := by decide +kernel
theorem dL_law__728 : decode cL_law_ 728 = .ok (.iconst 1, 1) := by decide +kernel
theorem dL_law__729 : decode cL_law_ 729 = .ok (.iadd, 1) := by decide +kernel
theorem dL_law__730 : decode cL_law_ 730 = .ok (.iaload, 1) := by decide +kernel
theorem dL_law__731 : decode cL_law_ 731 = .ok (.invokevirtual 176, 3) := by decide +kernel
theorem dL_law__734 : decode cL_law_ 734 = .ok (.istore 6, 2) := by decide +kernel
theorem dL_law__736 : decode cL_law_ 736 = .ok (.goto 917, 3) := by decide +kernel
theorem dL_law__739 : decode cL_law_ 739 = .ok (.aload_n 1, 1) := by decide +kernel
theorem dL_law__740 : decode cL_law_ 740 = .ok (.aload_n 0, 1) := by decide +kernel
theorem dL_law__741 : decode cL_law_ 741 = .ok (.iload 4, 2) := by decide +kernel
theorem dL_law__743 : decode cL_law_ 743 = .ok (.iconst 1, 1) := by decide +kernel
theorem dL_law__744 : decode cL_law_ 744 = .ok (.iadd, 1) := by decide +kernel
theorem dL_law__745 : decode cL_law_ 745 = .ok (.iaload, 1) := by decide +kernel
theorem dL_law__746 : decode cL_law_ 746 = .ok (.aload_n 3, 1) := by decide +kernel
theorem dL_law__747 : decode cL_law_ 747 = .ok (.invokestatic 177, 3) := by decide +kernel
theorem dL_law__750 : decode cL_law_ 750 = .ok (.istore 5, 2) := by decide +kernel
theorem dL_law__752 : decode cL_law_ 752 = .ok (.aload_n 2, 1) := by decide +kernel
theorem dL_law__753 : decode cL_law_ 753 = .ok (.aload_n 0, 1) := by decide +kernel
theorem dL_law__754 : decode cL_law_ 754 = .ok (.iload 4, 2) := by decide +kernel
theorem dL_law__756 : decode cL_law_ 756 = .ok (.iconst 1, 1) := by decide +kernel
theorem dL_law__757 : decode cL_law_ 757 = .ok (.iadd, 1) := by decide +kernel
theorem dL_law__758 : decode cL_law_ 758 = .ok (.iaload, 1) := by decide +kernel
theorem dL_law__759 : decode cL_law_ 759 = .ok (.invokevirtual 179, 3) := by decide +kernel
theorem dL_law__762 : decode cL_law_ 762 = .ok (.istore 6, 2) := by decide +kernel
theorem dL_law__764 : decode cL_law_ 764 = .ok (.goto 889, 3) := by decide +kernel
theorem dL_law__767 : decode cL_law_ 767 = .ok (.aload_n 1, 1) := by decide +kernel
theorem dL_law__768 : decode cL_law_ 768 = .ok (.invokevirtual 180, 3) := by decide +kernel
theorem dL_law__771 : decode cL_law_ 771 = .ok (.pop, 1) := by decide +kernel
theorem dL_law__772 : decode cL_law_ 772 = .ok (.aload_n 2, 1) := by decide +kernel
theorem dL_law__773 : decode cL_law_ 773 = .ok (.invokevirtual 183, 3) := by decide +kernel
theorem dL_law__776 : decode cL_law_ 776 = .ok (.pop, 1) := by decide +kernel
theorem dL_law__777 : decode cL_law_ 777 = .ok (.goto 876, 3) := by decide +kernel
theorem dL_law__780 : decode cL_law_ 780 = .ok (.aload_n 1, 1) := by decide +kernel
theorem dL_law__781 : decode cL_law_ 781 = .ok (.aload_n 0, 1) := by decide +kernel
theorem dL_law__782 : decode cL_law_ 782 = .ok (.iload 4, 2) := by decide +kernel
theorem dL_law__784 : decode cL_law_ 784 = .ok (.iconst 1, 1) := by decide +kernel
theorem dL_law__785 : decode cL_law_ 785 = .ok (.iadd, 1) := by decide +kernel
theorem dL_law__786 : decode cL_law_ 786 = .ok (.iaload, 1) := by decide +kernel
theorem dL_law__787 : decode cL_law_ 787 = .ok (.aload_n 0, 1) := by decide +kernel
theorem dL_law__788 : decode cL_law_ 788 = .ok (.iload 4, 2) := by decide +kernel
theorem dL_law__790 : decode cL_law_ 790 = .ok (.iconst 2, 1) := by decide +kernel
theorem dL_law__791 : decode cL_law_ 791 = .ok (.iadd, 1) := by decide +kernel
theorem dL_law__792 : decode cL_law_ 792 = .ok (.iaload, 1) := by decide +kernel
theorem dL_law__793 : decode cL_law_ 793 = .ok (.ifCond .eq 7, 3) := by decide +kernel
theorem dL_law__796 : decode cL_law_ 796 = .ok (.iconst 1, 1) := by decide +kernel
theorem dL_law__797 : decode cL_law_ 797 = .ok (.goto 4, 3) := by decide +kernel
theorem dL_law__800 : decode cL_law_ 800 = .ok (.iconst 0, 1) := by decide +kernel
theorem dL_law__801 : decode cL_law_ 801 = .ok (.aload_n 3, 1) := by decide +kernel
theorem dL_law__802 : decode cL_law_ 802 = .ok (.invokestatic 184, 3) := by decide +kernel
theorem dL_law__805 : decode cL_law_ 805 = .ok (.istore 5, 2) := by decide +kernel
theorem dL_law__807 : decode cL_law_ 807 = .ok (.aload_n 2, 1) := by decide +kernel
theorem dL_law__808 : decode cL_law_ 808 = .ok (.aload_n 0, 1) := by decide +kernel
theorem dL_law__809 : decode cL_law_ 809 = .ok (.iload 4, 2) := by decide +kernel
theorem dL_law__811 : decode cL_law_ 811 = .ok (.iconst 1, 1) := by decide +kernel
theorem dL_law__812 : decode cL_law_ 812 = .ok (.iadd, 1) := by decide +kernel
theorem dL_law__813 : decode cL_law_ 813 = .ok (.iaload, 1) := by decide +kernel
theorem dL_law__814 : decode cL_law_ 814 = .ok (.aload_n 0, 1) := by decide +kernel
theorem dL_law__815 : decode cL_law_ 815 = .ok (.iload 4, 2) := by decide +kernel
theorem dL_law__817 : decode cL_law_ 817 = .ok (.iconst 2, 1) := by decide +kernel
theorem dL_law__818 : decode cL_law_ 818 = .ok (.iadd, 1) := by decide +kernel
theorem dL_law__819 : decode cL_law_ 819 = .ok (.iaload, 1) := by decide +kernel
theorem dL_law__820 : decode cL_law_ 820 = .ok (.ifCond .eq 7, 3) := by decide +kernel
theorem dL_law__823 : decode cL_law_ 823 = .ok (.iconst 1, 1) := by decide +kernel
theorem dL_law__824 : decode cL_law_ 824 = .ok (.goto 4, 3) := by decide +kernel
theorem dL_law__827 : decode cL_law_ 827 = .ok (.iconst 0, 1) := by decide +kernel
theorem dL_law__828 : decode cL_law_ 828 = .ok (.invokevirtual 186, 3) := by decide +kernel
theorem dL_law__831 : decode cL_law_ 831 = .ok (.istore 6, 2) := by decide +kernel
theorem dL_law__833 : decode cL_law_ 833 = .ok (.goto 820, 3) := by decide +kernel
theorem dL_law__836 : decode cL_law_ 836 = .ok (.aload_n 1, 1) := by decide +kernel
theorem dL_law__837 : decode cL_law_ 837 = .ok (.aload_n 0, 1) := by decide +kernel
theorem dL_law__838 : decode cL_law_ 838 = .ok (.iload 4, 2) := by decide +kernel
theorem dL_law__840 : decode cL_law_ 840 = .ok (.iconst 1, 1) := by decide +kernel
theorem dL_law__841 : decode cL_law_ 841 = .ok (.iadd, 1) := by decide +kernel
theorem dL_law__842 : decode cL_law_ 842 = .ok (.iaload, 1) := by decide +kernel
theorem dL_law__843 : decode cL_law_ 843 = .ok (.aload_n 3, 1) := by decide +kernel
theorem dL_law__844 : decode cL_law_ 844 = .ok (.invokestatic 187, 3) := by decide +kernel
theorem dL_law__847 : decode cL_law_ 847 = .ok (.istore 5, 2) := by decide +kernel
theorem dL_law__849 : decode cL_law_ 849 = .ok (.aload_n 2, 1) := by decide +kernel
theorem dL_law__850 : decode cL_law_ 850 = .ok (.aload_n 0, 1) := by decide +kernel
theorem dL_law__851 : decode cL_law_ 851 = .ok (.iload 4, 2) := by decide +kernel
theorem dL_law__853 : decode cL_law_ 853 = .ok (.iconst 1, 1) := by decide +kernel
theorem dL_law__854 : decode cL_law_ 854 = .ok (.iadd, 1) := by decide +kernel
theorem dL_law__855 : decode cL_law_ 855 = .ok (.iaload, 1) := by decide +kernel
theorem dL_law__856 : decode cL_law_ 856 = .ok (.invokevirtual 189, 3) := by decide +kernel
