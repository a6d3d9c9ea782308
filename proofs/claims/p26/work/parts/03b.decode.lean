theorem dX8_warmIn_43 : decode cX8_warmIn 43 = .ok (.ireturn, 1) := by decide +kernel
theorem dX8_wallsIn_0 : decode cX8_wallsIn 0 = .ok (.iconst 0, 1) := by decide +kernel
theorem dX8_wallsIn_1 : decode cX8_wallsIn 1 = .ok (.istore_n 2, 1) := by decide +kernel
theorem dX8_wallsIn_2 : decode cX8_wallsIn 2 = .ok (.iconst 0, 1) := by decide +kernel
theorem dX8_wallsIn_3 : decode cX8_wallsIn 3 = .ok (.istore_n 3, 1) := by decide +kernel
theorem dX8_wallsIn_4 : decode cX8_wallsIn 4 = .ok (.iload_n 3, 1) := by decide +kernel
theorem dX8_wallsIn_5 : decode cX8_wallsIn 5 = .ok (.aload_n 0, 1) := by decide +kernel
theorem dX8_wallsIn_6 : decode cX8_wallsIn 6 = .ok (.getfield 25, 3) := by decide +kernel
theorem dX8_wallsIn_9 : decode cX8_wallsIn 9 = .ok (.getfield 29, 3) := by decide +kernel
theorem dX8_wallsIn_12 : decode cX8_wallsIn 12 = .ok (.if_icmp .ge 30, 3) := by decide +kernel
theorem dX8_wallsIn_15 : decode cX8_wallsIn 15 = .ok (.iload_n 2, 1) := by decide +kernel
theorem dX8_wallsIn_16 : decode cX8_wallsIn 16 = .ok (.iload_n 1, 1) := by decide +kernel
theorem dX8_wallsIn_17 : decode cX8_wallsIn 17 = .ok (.iload_n 3, 1) := by decide +kernel
theorem dX8_wallsIn_18 : decode cX8_wallsIn 18 = .ok (.ishr, 1) := by decide +kernel
theorem dX8_wallsIn_19 : decode cX8_wallsIn 19 = .ok (.iconst 1, 1) := by decide +kernel
theorem dX8_wallsIn_20 : decode cX8_wallsIn 20 = .ok (.iand, 1) := by decide +kernel
theorem dX8_wallsIn_21 : decode cX8_wallsIn 21 = .ok (.aload_n 0, 1) := by decide +kernel
theorem dX8_wallsIn_22 : decode cX8_wallsIn 22 = .ok (.getfield 25, 3) := by decide +kernel
theorem dX8_wallsIn_25 : decode cX8_wallsIn 25 = .ok (.getfield 75, 3) := by decide +kernel
theorem dX8_wallsIn_28 : decode cX8_wallsIn 28 = .ok (.iload_n 3, 1) := by decide +kernel
theorem dX8_wallsIn_29 : decode cX8_wallsIn 29 = .ok (.aaload, 1) := by decide +kernel
theorem dX8_wallsIn_30 : decode cX8_wallsIn 30 = .ok (.getfield 96, 3) := by decide +kernel
theorem dX8_wallsIn_33 : decode cX8_wallsIn 33 = .ok (.imul, 1) := by decide +kernel
theorem dX8_wallsIn_34 : decode cX8_wallsIn 34 = .ok (.iadd, 1) := by decide +kernel
theorem dX8_wallsIn_35 : decode cX8_wallsIn 35 = .ok (.istore_n 2, 1) := by decide +kernel
theorem dX8_wallsIn_36 : decode cX8_wallsIn 36 = .ok (.iinc 3 1, 3) := by decide +kernel
theorem dX8_wallsIn_39 : decode cX8_wallsIn 39 = .ok (.goto (-35), 3) := by decide +kernel
theorem dX8_wallsIn_42 : decode cX8_wallsIn 42 = .ok (.iload_n 2, 1) := by decide +kernel
theorem dX8_wallsIn_43 : decode cX8_wallsIn 43 = .ok (.ireturn, 1) := by decide +kernel
theorem dX8_readSmoke_0 : decode cX8_readSmoke 0 = .ok (.aload_n 0, 1) := by decide +kernel
theorem dX8_readSmoke_1 : decode cX8_readSmoke 1 = .ok (.iconst 0, 1) := by decide +kernel
theorem dX8_readSmoke_2 : decode cX8_readSmoke 2 = .ok (.putfield 19, 3) := by decide +kernel
theorem dX8_readSmoke_5 : decode cX8_readSmoke 5 = .ok (.aload_n 0, 1) := by decide +kernel
theorem dX8_readSmoke_6 : decode cX8_readSmoke 6 = .ok (.iconst 0, 1) := by decide +kernel
theorem dX8_readSmoke_7 : decode cX8_readSmoke 7 = .ok (.putfield 22, 3) := by decide +kernel
theorem dX8_readSmoke_10 : decode cX8_readSmoke 10 = .ok (.aload_n 1, 1) := by decide +kernel
theorem dX8_readSmoke_11 : decode cX8_readSmoke 11 = .ok (.getfield 99, 3) := by decide +kernel
theorem dX8_readSmoke_14 : decode cX8_readSmoke 14 = .ok (.bipush 40, 2) := by decide +kernel
theorem dX8_readSmoke_16 : decode cX8_readSmoke 16 = .ok (.if_icmp .gt 12, 3) := by decide +kernel
theorem dX8_readSmoke_19 : decode cX8_readSmoke 19 = .ok (.aload_n 1, 1) := by decide +kernel
theorem dX8_readSmoke_20 : decode cX8_readSmoke 20 = .ok (.getfield 99, 3) := by decide +kernel
theorem dX8_readSmoke_23 : decode cX8_readSmoke 23 = .ok (.iconst 2, 1) := by decide +kernel
theorem dX8_readSmoke_24 : decode cX8_readSmoke 24 = .ok (.irem, 1) := by decide +kernel
theorem dX8_readSmoke_25 : decode cX8_readSmoke 25 = .ok (.ifCond .eq 5, 3) := by decide +kernel
theorem dX8_readSmoke_28 : decode cX8_readSmoke 28 = .ok (.iconst 0, 1) := by decide +kernel
theorem dX8_readSmoke_29 : decode cX8_readSmoke 29 = .ok (.ireturn, 1) := by decide +kernel
theorem dX8_readSmoke_30 : decode cX8_readSmoke 30 = .ok (.iconst 0, 1) := by decide +kernel
theorem dX8_readSmoke_31 : decode cX8_readSmoke 31 = .ok (.istore_n 2, 1) := by decide +kernel
theorem dX8_readSmoke_32 : decode cX8_readSmoke 32 = .ok (.iload_n 2, 1) := by decide +kernel
theorem dX8_readSmoke_33 : decode cX8_readSmoke 33 = .ok (.iconst 1, 1) := by decide +kernel
theorem dX8_readSmoke_34 : decode cX8_readSmoke 34 = .ok (.iadd, 1) := by decide +kernel
theorem dX8_readSmoke_35 : decode cX8_readSmoke 35 = .ok (.aload_n 1, 1) := by decide +kernel
theorem dX8_readSmoke_36 : decode cX8_readSmoke 36 = .ok (.getfield 99, 3) := by decide +kernel
theorem dX8_readSmoke_39 : decode cX8_readSmoke 39 = .ok (.if_icmp .ge 73, 3) := by decide +kernel
theorem dX8_readSmoke_42 : decode cX8_readSmoke 42 = .ok (.aload_n 1, 1) := by decide +kernel
theorem dX8_readSmoke_43 : decode cX8_readSmoke 43 = .ok (.getfield 104, 3) := by decide +kernel
theorem dX8_readSmoke_46 : decode cX8_readSmoke 46 = .ok (.iload_n 2, 1) := by decide +kernel
theorem dX8_readSmoke_47 : decode cX8_readSmoke 47 = .ok (.iaload, 1) := by decide +kernel
theorem dX8_readSmoke_48 : decode cX8_readSmoke 48 = .ok (.istore_n 3, 1) := by decide +kernel
theorem dX8_readSmoke_49 : decode cX8_readSmoke 49 = .ok (.aload_n 1, 1) := by decide +kernel
theorem dX8_readSmoke_50 : decode cX8_readSmoke 50 = .ok (.getfield 104, 3) := by decide +kernel
theorem dX8_readSmoke_53 : decode cX8_readSmoke 53 = .ok (.iload_n 2, 1) := by decide +kernel
theorem dX8_readSmoke_54 : decode cX8_readSmoke 54 = .ok (.iconst 1, 1) := by decide +kernel
theorem dX8_readSmoke_55 : decode cX8_readSmoke 55 = .ok (.iadd, 1) := by decide +kernel
theorem dX8_readSmoke_56 : decode cX8_readSmoke 56 = .ok (.iaload, 1) := by decide +kernel
theorem dX8_readSmoke_57 : decode cX8_readSmoke 57 = .ok (.istore 4, 2) := by decide +kernel
theorem dX8_readSmoke_59 : decode cX8_readSmoke 59 = .ok (.iload_n 3, 1) := by decide +kernel
theorem dX8_readSmoke_60 : decode cX8_readSmoke 60 = .ok (.bipush 10, 2) := by decide +kernel
theorem dX8_readSmoke_62 : decode cX8_readSmoke 62 = .ok (.if_icmp .ge 9, 3) := by decide +kernel
theorem dX8_readSmoke_65 : decode cX8_readSmoke 65 = .ok (.iload 4, 2) := by decide +kernel
theorem dX8_readSmoke_67 : decode cX8_readSmoke 67 = .ok (.iconst 1, 1) := by decide +kernel
theorem dX8_readSmoke_68 : decode cX8_readSmoke 68 = .ok (.if_icmp .le 5, 3) := by decide +kernel
theorem dX8_readSmoke_71 : decode cX8_readSmoke 71 = .ok (.iconst 0, 1) := by decide +kernel
theorem dX8_readSmoke_72 : decode cX8_readSmoke 72 = .ok (.ireturn, 1) := by decide +kernel
theorem dX8_readSmoke_73 : decode cX8_readSmoke 73 = .ok (.iload 4, 2) := by decide +kernel
theorem dX8_readSmoke_75 : decode cX8_readSmoke 75 = .ok (.iconst 1, 1) := by decide +kernel
theorem dX8_readSmoke_76 : decode cX8_readSmoke 76 = .ok (.if_icmp .ne 18, 3) := by decide +kernel
theorem dX8_readSmoke_79 : decode cX8_readSmoke 79 = .ok (.aload_n 0, 1) := by decide +kernel
theorem dX8_readSmoke_80 : decode cX8_readSmoke 80 = .ok (.dup, 1) := by decide +kernel
theorem dX8_readSmoke_81 : decode cX8_readSmoke 81 = .ok (.getfield 19, 3) := by decide +kernel
theorem dX8_readSmoke_84 : decode cX8_readSmoke 84 = .ok (.iconst 1, 1) := by decide +kernel
theorem dX8_readSmoke_85 : decode cX8_readSmoke 85 = .ok (.iload_n 3, 1) := by decide +kernel
theorem dX8_readSmoke_86 : decode cX8_readSmoke 86 = .ok (.ishl, 1) := by decide +kernel
theorem dX8_readSmoke_87 : decode cX8_readSmoke 87 = .ok (.ior, 1) := by decide +kernel
theorem dX8_readSmoke_88 : decode cX8_readSmoke 88 = .ok (.putfield 19, 3) := by decide +kernel
theorem dX8_readSmoke_91 : decode cX8_readSmoke 91 = .ok (.goto 15, 3) := by decide +kernel
theorem dX8_readSmoke_94 : decode cX8_readSmoke 94 = .ok (.aload_n 0, 1) := by decide +kernel
theorem dX8_readSmoke_95 : decode cX8_readSmoke 95 = .ok (.dup, 1) := by decide +kernel
theorem dX8_readSmoke_96 : decode cX8_readSmoke 96 = .ok (.getfield 22, 3) := by decide +kernel
theorem dX8_readSmoke_99 : decode cX8_readSmoke 99 = .ok (.iconst 1, 1) := by decide +kernel
theorem dX8_readSmoke_100 : decode cX8_readSmoke 100 = .ok (.iload_n 3, 1) := by decide +kernel
theorem dX8_readSmoke_101 : decode cX8_readSmoke 101 = .ok (.ishl, 1) := by decide +kernel
theorem dX8_readSmoke_102 : decode cX8_readSmoke 102 = .ok (.ior, 1) := by decide +kernel
theorem dX8_readSmoke_103 : decode cX8_readSmoke 103 = .ok (.putfield 22, 3) := by decide +kernel
theorem dX8_readSmoke_106 : decode cX8_readSmoke 106 = .ok (.iinc 2 2, 3) := by decide +kernel
theorem dX8_readSmoke_109 : decode cX8_readSmoke 109 = .ok (.goto (-77), 3) := by decide +kernel
theorem dX8_readSmoke_112 : decode cX8_readSmoke 112 = .ok (.iconst 1, 1) := by decide +kernel
theorem dX8_readSmoke_113 : decode cX8_readSmoke 113 = .ok (.ireturn, 1) := by decide +kernel
theorem dX8_fittingWith_0 : decode cX8_fittingWith 0 = .ok (.aload_n 0, 1) := by decide +kernel
theorem dX8_fittingWith_1 : decode cX8_fittingWith 1 = .ok (.getfield 25, 3) := by decide +kernel
theorem dX8_fittingWith_4 : decode cX8_fittingWith 4 = .ok (.iload_n 1, 1) := by decide +kernel
theorem dX8_fittingWith_5 : decode cX8_fittingWith 5 = .ok (.invokevirtual 87, 3) := by decide +kernel
theorem dX8_fittingWith_8 : decode cX8_fittingWith 8 = .ok (.istore_n 3, 1) := by decide +kernel
theorem dX8_fittingWith_9 : decode cX8_fittingWith 9 = .ok (.iconst 1, 1) := by decide +kernel
theorem dX8_fittingWith_10 : decode cX8_fittingWith 10 = .ok (.iload_n 3, 1) := by decide +kernel
theorem dX8_fittingWith_11 : decode cX8_fittingWith 11 = .ok (.invokestatic 48, 3) := by decide +kernel
theorem dX8_fittingWith_14 : decode cX8_fittingWith 14 = .ok (.ishl, 1) := by decide +kernel
theorem dX8_fittingWith_15 : decode cX8_fittingWith 15 = .ok (.istore 4, 2) := by decide +kernel
theorem dX8_fittingWith_17 : decode cX8_fittingWith 17 = .ok (.iconst 0, 1) := by decide +kernel
theorem dX8_fittingWith_18 : decode cX8_fittingWith 18 = .ok (.istore 5, 2) := by decide +kernel
theorem dX8_fittingWith_20 : decode cX8_fittingWith 20 = .ok (.iconst 0, 1) := by decide +kernel
theorem dX8_fittingWith_21 : decode cX8_fittingWith 21 = .ok (.istore 6, 2) := by decide +kernel
theorem dX8_fittingWith_23 : decode cX8_fittingWith 23 = .ok (.iconst 0, 1) := by decide +kernel
theorem dX8_fittingWith_24 : decode cX8_fittingWith 24 = .ok (.istore 7, 2) := by decide +kernel
theorem dX8_fittingWith_26 : decode cX8_fittingWith 26 = .ok (.iload 7, 2) := by decide +kernel
theorem dX8_fittingWith_28 : decode cX8_fittingWith 28 = .ok (.iload 4, 2) := by decide +kernel
theorem dX8_fittingWith_30 : decode cX8_fittingWith 30 = .ok (.if_icmp .ge 37, 3) := by decide +kernel
theorem dX8_fittingWith_33 : decode cX8_fittingWith 33 = .ok (.iload 6, 2) := by decide +kernel
theorem dX8_fittingWith_35 : decode cX8_fittingWith 35 = .ok (.iload_n 2, 1) := by decide +kernel
theorem dX8_fittingWith_36 : decode cX8_fittingWith 36 = .ok (.iand, 1) := by decide +kernel
theorem dX8_fittingWith_37 : decode cX8_fittingWith 37 = .ok (.iload_n 2, 1) := by decide +kernel
theorem dX8_fittingWith_38 : decode cX8_fittingWith 38 = .ok (.if_icmp .ne 15, 3) := by decide +kernel
theorem dX8_fittingWith_41 : decode cX8_fittingWith 41 = .ok (.aload_n 0, 1) := by decide +kernel
theorem dX8_fittingWith_42 : decode cX8_fittingWith 42 = .ok (.iload 6, 2) := by decide +kernel
theorem dX8_fittingWith_44 : decode cX8_fittingWith 44 = .ok (.invokevirtual 107, 3) := by decide +kernel
theorem dX8_fittingWith_47 : decode cX8_fittingWith 47 = .ok (.ifCond .eq 6, 3) := by decide +kernel
theorem dX8_fittingWith_50 : decode cX8_fittingWith 50 = .ok (.iinc 5 1, 3) := by decide +kernel
theorem dX8_fittingWith_53 : decode cX8_fittingWith 53 = .ok (.iload 6, 2) := by decide +kernel
theorem dX8_fittingWith_55 : decode cX8_fittingWith 55 = .ok (.iload_n 3, 1) := by decide +kernel
theorem dX8_fittingWith_56 : decode cX8_fittingWith 56 = .ok (.invokestatic 63, 3) := by decide +kernel
theorem dX8_fittingWith_59 : decode cX8_fittingWith 59 = .ok (.istore 6, 2) := by decide +kernel
theorem dX8_fittingWith_61 : decode cX8_fittingWith 61 = .ok (.iinc 7 1, 3) := by decide +kernel
theorem dX8_fittingWith_64 : decode cX8_fittingWith 64 = .ok (.goto (-38), 3) := by decide +kernel
theorem dX8_fittingWith_67 : decode cX8_fittingWith 67 = .ok (.iload 5, 2) := by decide +kernel
theorem dX8_fittingWith_69 : decode cX8_fittingWith 69 = .ok (.ireturn, 1) := by decide +kernel
theorem dX8_fewestBurnt_0 : decode cX8_fewestBurnt 0 = .ok (.aload_n 0, 1) := by decide +kernel
theorem dX8_fewestBurnt_1 : decode cX8_fewestBurnt 1 = .ok (.getfield 25, 3) := by decide +kernel
theorem dX8_fewestBurnt_4 : decode cX8_fewestBurnt 4 = .ok (.iload_n 1, 1) := by decide +kernel
theorem dX8_fewestBurnt_5 : decode cX8_fewestBurnt 5 = .ok (.invokevirtual 87, 3) := by decide +kernel
theorem dX8_fewestBurnt_8 : decode cX8_fewestBurnt 8 = .ok (.istore_n 2, 1) := by decide +kernel
theorem dX8_fewestBurnt_9 : decode cX8_fewestBurnt 9 = .ok (.iconst 1, 1) := by decide +kernel
theorem dX8_fewestBurnt_10 : decode cX8_fewestBurnt 10 = .ok (.iload_n 2, 1) := by decide +kernel
theorem dX8_fewestBurnt_11 : decode cX8_fewestBurnt 11 = .ok (.invokestatic 48, 3) := by decide +kernel
theorem dX8_fewestBurnt_14 : decode cX8_fewestBurnt 14 = .ok (.ishl, 1) := by decide +kernel
theorem dX8_fewestBurnt_15 : decode cX8_fewestBurnt 15 = .ok (.istore_n 3, 1) := by decide +kernel
theorem dX8_fewestBurnt_16 : decode cX8_fewestBurnt 16 = .ok (.iconst (-1), 1) := by decide +kernel
theorem dX8_fewestBurnt_17 : decode cX8_fewestBurnt 17 = .ok (.istore 4, 2) := by decide +kernel
theorem dX8_fewestBurnt_19 : decode cX8_fewestBurnt 19 = .ok (.iconst 0, 1) := by decide +kernel
theorem dX8_fewestBurnt_20 : decode cX8_fewestBurnt 20 = .ok (.istore 5, 2) := by decide +kernel
theorem dX8_fewestBurnt_22 : decode cX8_fewestBurnt 22 = .ok (.iconst 0, 1) := by decide +kernel
theorem dX8_fewestBurnt_23 : decode cX8_fewestBurnt 23 = .ok (.istore 6, 2) := by decide +kernel
theorem dX8_fewestBurnt_25 : decode cX8_fewestBurnt 25 = .ok (.iload 6, 2) := by decide +kernel
theorem dX8_fewestBurnt_27 : decode cX8_fewestBurnt 27 = .ok (.iload_n 3, 1) := by decide +kernel
theorem dX8_fewestBurnt_28 : decode cX8_fewestBurnt 28 = .ok (.if_icmp .ge 50, 3) := by decide +kernel
theorem dX8_fewestBurnt_31 : decode cX8_fewestBurnt 31 = .ok (.iload 5, 2) := by decide +kernel
theorem dX8_fewestBurnt_33 : decode cX8_fewestBurnt 33 = .ok (.invokestatic 48, 3) := by decide +kernel
theorem dX8_fewestBurnt_36 : decode cX8_fewestBurnt 36 = .ok (.istore 7, 2) := by decide +kernel
theorem dX8_fewestBurnt_38 : decode cX8_fewestBurnt 38 = .ok (.iload 4, 2) := by decide +kernel
theorem dX8_fewestBurnt_40 : decode cX8_fewestBurnt 40 = .ok (.iconst (-1), 1) := by decide +kernel
theorem dX8_fewestBurnt_41 : decode cX8_fewestBurnt 41 = .ok (.if_icmp .eq 10, 3) := by decide +kernel
theorem dX8_fewestBurnt_44 : decode cX8_fewestBurnt 44 = .ok (.iload 7, 2) := by decide +kernel
theorem dX8_fewestBurnt_46 : decode cX8_fewestBurnt 46 = .ok (.iload 4, 2) := by decide +kernel
theorem dX8_fewestBurnt_48 : decode cX8_fewestBurnt 48 = .ok (.if_icmp .ge 16, 3) := by decide +kernel
theorem dX8_fewestBurnt_51 : decode cX8_fewestBurnt 51 = .ok (.aload_n 0, 1) := by decide +kernel
theorem dX8_fewestBurnt_52 : decode cX8_fewestBurnt 52 = .ok (.iload 5, 2) := by decide +kernel
theorem dX8_fewestBurnt_54 : decode cX8_fewestBurnt 54 = .ok (.invokevirtual 107, 3) := by decide +kernel
theorem dX8_fewestBurnt_57 : decode cX8_fewestBurnt 57 = .ok (.ifCond .eq 7, 3) := by decide +kernel
theorem dX8_fewestBurnt_60 : decode cX8_fewestBurnt 60 = .ok (.iload 7, 2) := by decide +kernel
theorem dX8_fewestBurnt_62 : decode cX8_fewestBurnt 62 = .ok (.istore 4, 2) := by decide +kernel
theorem dX8_fewestBurnt_64 : decode cX8_fewestBurnt 64 = .ok (.iload 5, 2) := by decide +kernel
theorem dX8_fewestBurnt_66 : decode cX8_fewestBurnt 66 = .ok (.iload_n 2, 1) := by decide +kernel
theorem dX8_fewestBurnt_67 : decode cX8_fewestBurnt 67 = .ok (.invokestatic 63, 3) := by decide +kernel
theorem dX8_fewestBurnt_70 : decode cX8_fewestBurnt 70 = .ok (.istore 5, 2) := by decide +kernel
theorem dX8_fewestBurnt_72 : decode cX8_fewestBurnt 72 = .ok (.iinc 6 1, 3) := by decide +kernel
theorem dX8_fewestBurnt_75 : decode cX8_fewestBurnt 75 = .ok (.goto (-50), 3) := by decide +kernel
theorem dX8_fewestBurnt_78 : decode cX8_fewestBurnt 78 = .ok (.iload 4, 2) := by decide +kernel
theorem dX8_fewestBurnt_80 : decode cX8_fewestBurnt 80 = .ok (.ireturn, 1) := by decide +kernel
theorem dX8_fits_0 : decode cX8_fits 0 = .ok (.iconst 0, 1) := by decide +kernel
theorem dX8_fits_1 : decode cX8_fits 1 = .ok (.istore_n 2, 1) := by decide +kernel
theorem dX8_fits_2 : decode cX8_fits 2 = .ok (.iconst 0, 1) := by decide +kernel
theorem dX8_fits_3 : decode cX8_fits 3 = .ok (.istore_n 3, 1) := by decide +kernel
theorem dX8_fits_4 : decode cX8_fits 4 = .ok (.iload_n 3, 1) := by decide +kernel
theorem dX8_fits_5 : decode cX8_fits 5 = .ok (.aload_n 0, 1) := by decide +kernel
theorem dX8_fits_6 : decode cX8_fits 6 = .ok (.getfield 25, 3) := by decide +kernel
theorem dX8_fits_9 : decode cX8_fits 9 = .ok (.getfield 29, 3) := by decide +kernel
theorem dX8_fits_12 : decode cX8_fits 12 = .ok (.if_icmp .ge 35, 3) := by decide +kernel
theorem dX8_fits_15 : decode cX8_fits 15 = .ok (.iload_n 1, 1) := by decide +kernel
theorem dX8_fits_16 : decode cX8_fits 16 = .ok (.iload_n 3, 1) := by decide +kernel
theorem dX8_fits_17 : decode cX8_fits 17 = .ok (.ishr, 1) := by decide +kernel
theorem dX8_fits_18 : decode cX8_fits 18 = .ok (.iconst 1, 1) := by decide +kernel
theorem dX8_fits_19 : decode cX8_fits 19 = .ok (.iand, 1) := by decide +kernel
theorem dX8_fits_20 : decode cX8_fits 20 = .ok (.iconst 1, 1) := by decide +kernel
theorem dX8_fits_21 : decode cX8_fits 21 = .ok (.if_icmp .ne 20, 3) := by decide +kernel
theorem dX8_fits_24 : decode cX8_fits 24 = .ok (.iload_n 2, 1) := by decide +kernel
theorem dX8_fits_25 : decode cX8_fits 25 = .ok (.iconst 1, 1) := by decide +kernel
theorem dX8_fits_26 : decode cX8_fits 26 = .ok (.aload_n 0, 1) := by decide +kernel
theorem dX8_fits_27 : decode cX8_fits 27 = .ok (.getfield 25, 3) := by decide +kernel
theorem dX8_fits_30 : decode cX8_fits 30 = .ok (.getfield 75, 3) := by decide +kernel
theorem dX8_fits_33 : decode cX8_fits 33 = .ok (.iload_n 3, 1) := by decide +kernel
theorem dX8_fits_34 : decode cX8_fits 34 = .ok (.aaload, 1) := by decide +kernel
theorem dX8_fits_35 : decode cX8_fits 35 = .ok (.getfield 111, 3) := by decide +kernel
theorem dX8_fits_38 : decode cX8_fits 38 = .ok (.ishl, 1) := by decide +kernel
theorem dX8_fits_39 : decode cX8_fits 39 = .ok (.ior, 1) := by decide +kernel
theorem dX8_fits_40 : decode cX8_fits 40 = .ok (.istore_n 2, 1) := by decide +kernel
theorem dX8_fits_41 : decode cX8_fits 41 = .ok (.iinc 3 1, 3) := by decide +kernel
theorem dX8_fits_44 : decode cX8_fits 44 = .ok (.goto (-40), 3) := by decide +kernel
theorem dX8_fits_47 : decode cX8_fits 47 = .ok (.iload_n 2, 1) := by decide +kernel
theorem dX8_fits_48 : decode cX8_fits 48 = .ok (.aload_n 0, 1) := by decide +kernel
theorem dX8_fits_49 : decode cX8_fits 49 = .ok (.getfield 19, 3) := by decide +kernel
theorem dX8_fits_52 : decode cX8_fits 52 = .ok (.iand, 1) := by decide +kernel
theorem dX8_fits_53 : decode cX8_fits 53 = .ok (.aload_n 0, 1) := by decide +kernel
theorem dX8_fits_54 : decode cX8_fits 54 = .ok (.getfield 19, 3) := by decide +kernel
theorem dX8_fits_57 : decode cX8_fits 57 = .ok (.if_icmp .ne 16, 3) := by decide +kernel
theorem dX8_fits_60 : decode cX8_fits 60 = .ok (.iload_n 2, 1) := by decide +kernel
theorem dX8_fits_61 : decode cX8_fits 61 = .ok (.aload_n 0, 1) := by decide +kernel
theorem dX8_fits_62 : decode cX8_fits 62 = .ok (.getfield 22, 3) := by decide +kernel
theorem dX8_fits_65 : decode cX8_fits 65 = .ok (.iand, 1) := by decide +kernel
theorem dX8_fits_66 : decode cX8_fits 66 = .ok (.ifCond .ne 7, 3) := by decide +kernel
theorem dX8_fits_69 : decode cX8_fits 69 = .ok (.iconst 1, 1) := by decide +kernel
theorem dX8_fits_70 : decode cX8_fits 70 = .ok (.goto 4, 3) := by decide +kernel
theorem dX8_fits_73 : decode cX8_fits 73 = .ok (.iconst 0, 1) := by decide +kernel
theorem dX8_fits_74 : decode cX8_fits 74 = .ok (.ireturn, 1) := by decide +kernel
theorem dX9_init_0 : decode cX9_init 0 = .ok (.aload_n 0, 1) := by decide +kernel
theorem dX9_init_1 : decode cX9_init 1 = .ok (.invokespecial 3, 3) := by decide +kernel
theorem dX9_init_4 : decode cX9_init 4 = .ok (.aload_n 0, 1) := by decide +kernel
theorem dX9_init_5 : decode cX9_init 5 = .ok (.sipush 400, 3) := by decide +kernel
theorem dX9_init_8 : decode cX9_init 8 = .ok (.newarray .int, 2) := by decide +kernel
theorem dX9_init_10 : decode cX9_init 10 = .ok (.putfield 11, 3) := by decide +kernel
theorem dX9_init_13 : decode cX9_init 13 = .ok (.aload_n 0, 1) := by decide +kernel
theorem dX9_init_14 : decode cX9_init 14 = .ok (.iconst 0, 1) := by decide +kernel
theorem dX9_init_15 : decode cX9_init 15 = .ok (.putfield 15, 3) := by decide +kernel
theorem dX9_init_18 : decode cX9_init 18 = .ok (.aload_n 0, 1) := by decide +kernel
theorem dX9_init_19 : decode cX9_init 19 = .ok (.iconst (-1), 1) := by decide +kernel
theorem dX9_init_20 : decode cX9_init 20 = .ok (.putfield 19, 3) := by decide +kernel
theorem dX9_init_23 : decode cX9_init 23 = .ok (.aload_n 0, 1) := by decide +kernel
theorem dX9_init_24 : decode cX9_init 24 = .ok (.iconst 0, 1) := by decide +kernel
theorem dX9_init_25 : decode cX9_init 25 = .ok (.putfield 22, 3) := by decide +kernel
theorem dX9_init_28 : decode cX9_init 28 = .ok (.aload_n 0, 1) := by decide +kernel
theorem dX9_init_29 : decode cX9_init 29 = .ok (.iconst 0, 1) := by decide +kernel
theorem dX9_init_30 : decode cX9_init 30 = .ok (.putfield 25, 3) := by decide +kernel
theorem dX9_init_33 : decode cX9_init 33 = .ok (.aload_n 0, 1) := by decide +kernel
theorem dX9_init_34 : decode cX9_init 34 = .ok (.iconst 0, 1) := by decide +kernel
theorem dX9_init_35 : decode cX9_init 35 = .ok (.putfield 28, 3) := by decide +kernel
theorem dX9_init_38 : decode cX9_init 38 = .ok (.aload_n 0, 1) := by decide +kernel
theorem dX9_init_39 : decode cX9_init 39 = .ok (.iconst 0, 1) := by decide +kernel
theorem dX9_init_40 : decode cX9_init 40 = .ok (.putfield 31, 3) := by decide +kernel
theorem dX9_init_43 : decode cX9_init 43 = .ok (.return_, 1) := by decide +kernel
theorem dX9_put_0 : decode cX9_put 0 = .ok (.bipush 24, 2) := by decide +kernel
theorem dX9_put_2 : decode cX9_put 2 = .ok (.istore_n 2, 1) := by decide +kernel
theorem dX9_put_3 : decode cX9_put 3 = .ok (.iload_n 2, 1) := by decide +kernel
theorem dX9_put_4 : decode cX9_put 4 = .ok (.ifCond .lt 45, 3) := by decide +kernel
theorem dX9_put_7 : decode cX9_put 7 = .ok (.aload_n 0, 1) := by decide +kernel
theorem dX9_put_8 : decode cX9_put 8 = .ok (.getfield 15, 3) := by decide +kernel
theorem dX9_put_11 : decode cX9_put 11 = .ok (.sipush 400, 3) := by decide +kernel
theorem dX9_put_14 : decode cX9_put 14 = .ok (.if_icmp .ge 29, 3) := by decide +kernel
theorem dX9_put_17 : decode cX9_put 17 = .ok (.aload_n 0, 1) := by decide +kernel
theorem dX9_put_18 : decode cX9_put 18 = .ok (.getfield 11, 3) := by decide +kernel
theorem dX9_put_21 : decode cX9_put 21 = .ok (.aload_n 0, 1) := by decide +kernel
theorem dX9_put_22 : decode cX9_put 22 = .ok (.getfield 15, 3) := by decide +kernel
theorem dX9_put_25 : decode cX9_put 25 = .ok (.iload_n 1, 1) := by decide +kernel
theorem dX9_put_26 : decode cX9_put 26 = .ok (.iload_n 2, 1) := by decide +kernel
theorem dX9_put_27 : decode cX9_put 27 = .ok (.iushr, 1) := by decide +kernel
theorem dX9_put_28 : decode cX9_put 28 = .ok (.sipush 255, 3) := by decide +kernel
theorem dX9_put_31 : decode cX9_put 31 = .ok (.iand, 1) := by decide +kernel
theorem dX9_put_32 : decode cX9_put 32 = .ok (.iastore, 1) := by decide +kernel
theorem dX9_put_33 : decode cX9_put 33 = .ok (.aload_n 0, 1) := by decide +kernel
theorem dX9_put_34 : decode cX9_put 34 = .ok (.dup, 1) := by decide +kernel
theorem dX9_put_35 : decode cX9_put 35 = .ok (.getfield 15, 3) := by decide +kernel
theorem dX9_put_38 : decode cX9_put 38 = .ok (.iconst 1, 1) := by decide +kernel
theorem dX9_put_39 : decode cX9_put 39 = .ok (.iadd, 1) := by decide +kernel
theorem dX9_put_40 : decode cX9_put 40 = .ok (.putfield 15, 3) := by decide +kernel
theorem dX9_put_43 : decode cX9_put 43 = .ok (.iinc 2 (-8), 3) := by decide +kernel
theorem dX9_put_46 : decode cX9_put 46 = .ok (.goto (-43), 3) := by decide +kernel
theorem dX9_put_49 : decode cX9_put 49 = .ok (.return_, 1) := by decide +kernel
theorem dX9_rewind_0 : decode cX9_rewind 0 = .ok (.aload_n 0, 1) := by decide +kernel
theorem dX9_rewind_1 : decode cX9_rewind 1 = .ok (.iconst (-1), 1) := by decide +kernel
theorem dX9_rewind_2 : decode cX9_rewind 2 = .ok (.putfield 19, 3) := by decide +kernel
theorem dX9_rewind_5 : decode cX9_rewind 5 = .ok (.aload_n 0, 1) := by decide +kernel
theorem dX9_rewind_6 : decode cX9_rewind 6 = .ok (.iconst 0, 1) := by decide +kernel
theorem dX9_rewind_7 : decode cX9_rewind 7 = .ok (.putfield 28, 3) := by decide +kernel
theorem dX9_rewind_10 : decode cX9_rewind 10 = .ok (.aload_n 0, 1) := by decide +kernel
theorem dX9_rewind_11 : decode cX9_rewind 11 = .ok (.invokevirtual 34, 3) := by decide +kernel
theorem dX9_rewind_14 : decode cX9_rewind 14 = .ok (.return_, 1) := by decide +kernel
theorem dX9_next_0 : decode cX9_next 0 = .ok (.aload_n 0, 1) := by decide +kernel
theorem dX9_next_1 : decode cX9_next 1 = .ok (.getfield 28, 3) := by decide +kernel
theorem dX9_next_4 : decode cX9_next 4 = .ok (.aload_n 0, 1) := by decide +kernel
theorem dX9_next_5 : decode cX9_next 5 = .ok (.getfield 15, 3) := by decide +kernel
theorem dX9_next_8 : decode cX9_next 8 = .ok (.if_icmp .ge 30, 3) := by decide +kernel
theorem dX9_next_11 : decode cX9_next 11 = .ok (.aload_n 0, 1) := by decide +kernel
theorem dX9_next_12 : decode cX9_next 12 = .ok (.getfield 11, 3) := by decide +kernel
theorem dX9_next_15 : decode cX9_next 15 = .ok (.aload_n 0, 1) := by decide +kernel
theorem dX9_next_16 : decode cX9_next 16 = .ok (.getfield 28, 3) := by decide +kernel
theorem dX9_next_19 : decode cX9_next 19 = .ok (.iaload, 1) := by decide +kernel
theorem dX9_next_20 : decode cX9_next 20 = .ok (.bipush 32, 2) := by decide +kernel
theorem dX9_next_22 : decode cX9_next 22 = .ok (.if_icmp .ne 16, 3) := by decide +kernel
theorem dX9_next_25 : decode cX9_next 25 = .ok (.aload_n 0, 1) := by decide +kernel
theorem dX9_next_26 : decode cX9_next 26 = .ok (.dup, 1) := by decide +kernel
theorem dX9_next_27 : decode cX9_next 27 = .ok (.getfield 28, 3) := by decide +kernel
theorem dX9_next_30 : decode cX9_next 30 = .ok (.iconst 1, 1) := by decide +kernel
theorem dX9_next_31 : decode cX9_next 31 = .ok (.iadd, 1) := by decide +kernel
theorem dX9_next_32 : decode cX9_next 32 = .ok (.putfield 28, 3) := by decide +kernel
theorem dX9_next_35 : decode cX9_next 35 = .ok (.goto (-35), 3) := by decide +kernel
theorem dX9_next_38 : decode cX9_next 38 = .ok (.aload_n 0, 1) := by decide +kernel
theorem dX9_next_39 : decode cX9_next 39 = .ok (.aload_n 0, 1) := by decide +kernel
theorem dX9_next_40 : decode cX9_next 40 = .ok (.getfield 28, 3) := by decide +kernel
theorem dX9_next_43 : decode cX9_next 43 = .ok (.putfield 25, 3) := by decide +kernel
theorem dX9_next_46 : decode cX9_next 46 = .ok (.aload_n 0, 1) := by decide +kernel
theorem dX9_next_47 : decode cX9_next 47 = .ok (.iconst 0, 1) := by decide +kernel
theorem dX9_next_48 : decode cX9_next 48 = .ok (.putfield 31, 3) := by decide +kernel
theorem dX9_next_51 : decode cX9_next 51 = .ok (.aload_n 0, 1) := by decide +kernel
theorem dX9_next_52 : decode cX9_next 52 = .ok (.getfield 28, 3) := by decide +kernel
theorem dX9_next_55 : decode cX9_next 55 = .ok (.aload_n 0, 1) := by decide +kernel
theorem dX9_next_56 : decode cX9_next 56 = .ok (.getfield 15, 3) := by decide +kernel
theorem dX9_next_59 : decode cX9_next 59 = .ok (.if_icmp .lt 11, 3) := by decide +kernel
theorem dX9_next_62 : decode cX9_next 62 = .ok (.aload_n 0, 1) := by decide +kernel
theorem dX9_next_63 : decode cX9_next 63 = .ok (.iconst 0, 1) := by decide +kernel
theorem dX9_next_64 : decode cX9_next 64 = .ok (.putfield 22, 3) := by decide +kernel
theorem dX9_next_67 : decode cX9_next 67 = .ok (.goto 244, 3) := by decide +kernel
theorem dX9_next_70 : decode cX9_next 70 = .ok (.aload_n 0, 1) := by decide +kernel
theorem dX9_next_71 : decode cX9_next 71 = .ok (.getfield 11, 3) := by decide +kernel
theorem dX9_next_74 : decode cX9_next 74 = .ok (.aload_n 0, 1) := by decide +kernel
theorem dX9_next_75 : decode cX9_next 75 = .ok (.getfield 28, 3) := by decide +kernel
theorem dX9_next_78 : decode cX9_next 78 = .ok (.iaload, 1) := by decide +kernel
theorem dX9_next_79 : decode cX9_next 79 = .ok (.bipush 97, 2) := by decide +kernel
theorem dX9_next_81 : decode cX9_next 81 = .ok (.if_icmp .lt 74, 3) := by decide +kernel
theorem dX9_next_84 : decode cX9_next 84 = .ok (.aload_n 0, 1) := by decide +kernel
theorem dX9_next_85 : decode cX9_next 85 = .ok (.getfield 11, 3) := by decide +kernel
theorem dX9_next_88 : decode cX9_next 88 = .ok (.aload_n 0, 1) := by decide +kernel
theorem dX9_next_89 : decode cX9_next 89 = .ok (.getfield 28, 3) := by decide +kernel
theorem dX9_next_92 : decode cX9_next 92 = .ok (.iaload, 1) := by decide +kernel
theorem dX9_next_93 : decode cX9_next 93 = .ok (.bipush 122, 2) := by decide +kernel
theorem dX9_next_95 : decode cX9_next 95 = .ok (.if_icmp .gt 60, 3) := by decide +kernel
theorem dX9_next_98 : decode cX9_next 98 = .ok (.aload_n 0, 1) := by decide +kernel
theorem dX9_next_99 : decode cX9_next 99 = .ok (.iconst 1, 1) := by decide +kernel
theorem dX9_next_100 : decode cX9_next 100 = .ok (.putfield 22, 3) := by decide +kernel
theorem dX9_next_103 : decode cX9_next 103 = .ok (.aload_n 0, 1) := by decide +kernel
theorem dX9_next_104 : decode cX9_next 104 = .ok (.getfield 28, 3) := by decide +kernel
theorem dX9_next_107 : decode cX9_next 107 = .ok (.aload_n 0, 1) := by decide +kernel
theorem dX9_next_108 : decode cX9_next 108 = .ok (.getfield 15, 3) := by decide +kernel
theorem dX9_next_111 : decode cX9_next 111 = .ok (.if_icmp .ge 200, 3) := by decide +kernel
theorem dX9_next_114 : decode cX9_next 114 = .ok (.aload_n 0, 1) := by decide +kernel
theorem dX9_next_115 : decode cX9_next 115 = .ok (.getfield 11, 3) := by decide +kernel
theorem dX9_next_118 : decode cX9_next 118 = .ok (.aload_n 0, 1) := by decide +kernel
theorem dX9_next_119 : decode cX9_next 119 = .ok (.getfield 28, 3) := by decide +kernel
theorem dX9_next_122 : decode cX9_next 122 = .ok (.iaload, 1) := by decide +kernel
theorem dX9_next_123 : decode cX9_next 123 = .ok (.bipush 97, 2) := by decide +kernel
theorem dX9_next_125 : decode cX9_next 125 = .ok (.if_icmp .lt 186, 3) := by decide +kernel
theorem dX9_next_128 : decode cX9_next 128 = .ok (.aload_n 0, 1) := by decide +kernel
theorem dX9_next_129 : decode cX9_next 129 = .ok (.getfield 11, 3) := by decide +kernel
theorem dX9_next_132 : decode cX9_next 132 = .ok (.aload_n 0, 1) := by decide +kernel
theorem dX9_next_133 : decode cX9_next 133 = .ok (.getfield 28, 3) := by decide +kernel
theorem dX9_next_136 : decode cX9_next 136 = .ok (.iaload, 1) := by decide +kernel
theorem dX9_next_137 : decode cX9_next 137 = .ok (.bipush 122, 2) := by decide +kernel
theorem dX9_next_139 : decode cX9_next 139 = .ok (.if_icmp .gt 172, 3) := by decide +kernel
theorem dX9_next_142 : decode cX9_next 142 = .ok (.aload_n 0, 1) := by decide +kernel
theorem dX9_next_143 : decode cX9_next 143 = .ok (.dup, 1) := by decide +kernel
theorem dX9_next_144 : decode cX9_next 144 = .ok (.getfield 28, 3) := by decide +kernel
theorem dX9_next_147 : decode cX9_next 147 = .ok (.iconst 1, 1) := by decide +kernel
theorem dX9_next_148 : decode cX9_next 148 = .ok (.iadd, 1) := by decide +kernel
theorem dX9_next_149 : decode cX9_next 149 = .ok (.putfield 28, 3) := by decide +kernel
theorem dX9_next_152 : decode cX9_next 152 = .ok (.goto (-49), 3) := by decide +kernel
theorem dX9_next_155 : decode cX9_next 155 = .ok (.aload_n 0, 1) := by decide +kernel
theorem dX9_next_156 : decode cX9_next 156 = .ok (.getfield 11, 3) := by decide +kernel
theorem dX9_next_159 : decode cX9_next 159 = .ok (.aload_n 0, 1) := by decide +kernel
theorem dX9_next_160 : decode cX9_next 160 = .ok (.getfield 28, 3) := by decide +kernel
theorem dX9_next_163 : decode cX9_next 163 = .ok (.iaload, 1) := by decide +kernel
theorem dX9_next_164 : decode cX9_next 164 = .ok (.bipush 48, 2) := by decide +kernel
theorem dX9_next_166 : decode cX9_next 166 = .ok (.if_icmp .lt 117, 3) := by decide +kernel
theorem dX9_next_169 : decode cX9_next 169 = .ok (.aload_n 0, 1) := by decide +kernel
theorem dX9_next_170 : decode cX9_next 170 = .ok (.getfield 11, 3) := by decide +kernel
theorem dX9_next_173 : decode cX9_next 173 = .ok (.aload_n 0, 1) := by decide +kernel
theorem dX9_next_174 : decode cX9_next 174 = .ok (.getfield 28, 3) := by decide +kernel
theorem dX9_next_177 : decode cX9_next 177 = .ok (.iaload, 1) := by decide +kernel
theorem dX9_next_178 : decode cX9_next 178 = .ok (.bipush 57, 2) := by decide +kernel
theorem dX9_next_180 : decode cX9_next 180 = .ok (.if_icmp .gt 103, 3) := by decide +kernel
theorem dX9_next_183 : decode cX9_next 183 = .ok (.aload_n 0, 1) := by decide +kernel
theorem dX9_next_184 : decode cX9_next 184 = .ok (.iconst 2, 1) := by decide +kernel
theorem dX9_next_185 : decode cX9_next 185 = .ok (.putfield 22, 3) := by decide +kernel
theorem dX9_next_188 : decode cX9_next 188 = .ok (.aload_n 0, 1) := by decide +kernel
theorem dX9_next_189 : decode cX9_next 189 = .ok (.getfield 28, 3) := by decide +kernel
theorem dX9_next_192 : decode cX9_next 192 = .ok (.aload_n 0, 1) := by decide +kernel
theorem dX9_next_193 : decode cX9_next 193 = .ok (.getfield 15, 3) := by decide +kernel
theorem dX9_next_196 : decode cX9_next 196 = .ok (.if_icmp .ge 115, 3) := by decide +kernel
theorem dX9_next_199 : decode cX9_next 199 = .ok (.aload_n 0, 1) := by decide +kernel
theorem dX9_next_200 : decode cX9_next 200 = .ok (.getfield 11, 3) := by decide +kernel
theorem dX9_next_203 : decode cX9_next 203 = .ok (.aload_n 0, 1) := by decide +kernel
theorem dX9_next_204 : decode cX9_next 204 = .ok (.getfield 28, 3) := by decide +kernel
theorem dX9_next_207 : decode cX9_next 207 = .ok (.iaload, 1) := by decide +kernel
theorem dX9_next_208 : decode cX9_next 208 = .ok (.bipush 48, 2) := by decide +kernel
theorem dX9_next_210 : decode cX9_next 210 = .ok (.if_icmp .lt 101, 3) := by decide +kernel
theorem dX9_next_213 : decode cX9_next 213 = .ok (.aload_n 0, 1) := by decide +kernel
theorem dX9_next_214 : decode cX9_next 214 = .ok (.getfield 11, 3) := by decide +kernel
theorem dX9_next_217 : decode cX9_next 217 = .ok (.aload_n 0, 1) := by decide +kernel
theorem dX9_next_218 : decode cX9_next 218 = .ok (.getfield 28, 3) := by decide +kernel
theorem dX9_next_221 : decode cX9_next 221 = .ok (.iaload, 1) := by decide +kernel
theorem dX9_next_222 : decode cX9_next 222 = .ok (.bipush 57, 2) := by decide +kernel
theorem dX9_next_224 : decode cX9_next 224 = .ok (.if_icmp .gt 87, 3) := by decide +kernel
theorem dX9_next_227 : decode cX9_next 227 = .ok (.aload_n 0, 1) := by decide +kernel
theorem dX9_next_228 : decode cX9_next 228 = .ok (.aload_n 0, 1) := by decide +kernel
theorem dX9_next_229 : decode cX9_next 229 = .ok (.getfield 28, 3) := by decide +kernel
theorem dX9_next_232 : decode cX9_next 232 = .ok (.aload_n 0, 1) := by decide +kernel
theorem dX9_next_233 : decode cX9_next 233 = .ok (.getfield 25, 3) := by decide +kernel
theorem dX9_next_236 : decode cX9_next 236 = .ok (.isub, 1) := by decide +kernel
theorem dX9_next_237 : decode cX9_next 237 = .ok (.iconst 3, 1) := by decide +kernel
theorem dX9_next_238 : decode cX9_next 238 = .ok (.if_icmp .ge 26, 3) := by decide +kernel
theorem dX9_next_241 : decode cX9_next 241 = .ok (.aload_n 0, 1) := by decide +kernel
theorem dX9_next_242 : decode cX9_next 242 = .ok (.getfield 31, 3) := by decide +kernel
theorem dX9_next_245 : decode cX9_next 245 = .ok (.bipush 10, 2) := by decide +kernel
theorem dX9_next_247 : decode cX9_next 247 = .ok (.imul, 1) := by decide +kernel
theorem dX9_next_248 : decode cX9_next 248 = .ok (.aload_n 0, 1) := by decide +kernel
theorem dX9_next_249 : decode cX9_next 249 = .ok (.getfield 11, 3) := by decide +kernel
theorem dX9_next_252 : decode cX9_next 252 = .ok (.aload_n 0, 1) := by decide +kernel
theorem dX9_next_253 : decode cX9_next 253 = .ok (.getfield 28, 3) := by decide +kernel
theorem dX9_next_256 : decode cX9_next 256 = .ok (.iaload, 1) := by decide +kernel
theorem dX9_next_257 : decode cX9_next 257 = .ok (.iadd, 1) := by decide +kernel
theorem dX9_next_258 : decode cX9_next 258 = .ok (.bipush 48, 2) := by decide +kernel
theorem dX9_next_260 : decode cX9_next 260 = .ok (.isub, 1) := by decide +kernel
theorem dX9_next_261 : decode cX9_next 261 = .ok (.goto 6, 3) := by decide +kernel
theorem dX9_next_264 : decode cX9_next 264 = .ok (.sipush 1000, 3) := by decide +kernel
theorem dX9_next_267 : decode cX9_next 267 = .ok (.putfield 31, 3) := by decide +kernel
theorem dX9_next_270 : decode cX9_next 270 = .ok (.aload_n 0, 1) := by decide +kernel
theorem dX9_next_271 : decode cX9_next 271 = .ok (.dup, 1) := by decide +kernel
theorem dX9_next_272 : decode cX9_next 272 = .ok (.getfield 28, 3) := by decide +kernel
theorem dX9_next_275 : decode cX9_next 275 = .ok (.iconst 1, 1) := by decide +kernel
theorem dX9_next_276 : decode cX9_next 276 = .ok (.iadd, 1) := by decide +kernel
theorem dX9_next_277 : decode cX9_next 277 = .ok (.putfield 28, 3) := by decide +kernel
theorem dX9_next_280 : decode cX9_next 280 = .ok (.goto (-92), 3) := by decide +kernel
theorem dX9_next_283 : decode cX9_next 283 = .ok (.aload_n 0, 1) := by decide +kernel
theorem dX9_next_284 : decode cX9_next 284 = .ok (.iconst 3, 1) := by decide +kernel
theorem dX9_next_285 : decode cX9_next 285 = .ok (.putfield 22, 3) := by decide +kernel
theorem dX9_next_288 : decode cX9_next 288 = .ok (.aload_n 0, 1) := by decide +kernel
theorem dX9_next_289 : decode cX9_next 289 = .ok (.aload_n 0, 1) := by decide +kernel
theorem dX9_next_290 : decode cX9_next 290 = .ok (.getfield 11, 3) := by decide +kernel
theorem dX9_next_293 : decode cX9_next 293 = .ok (.aload_n 0, 1) := by decide +kernel
theorem dX9_next_294 : decode cX9_next 294 = .ok (.getfield 28, 3) := by decide +kernel
theorem dX9_next_297 : decode cX9_next 297 = .ok (.iaload, 1) := by decide +kernel
theorem dX9_next_298 : decode cX9_next 298 = .ok (.putfield 31, 3) := by decide +kernel
theorem dX9_next_301 : decode cX9_next 301 = .ok (.aload_n 0, 1) := by decide +kernel
theorem dX9_next_302 : decode cX9_next 302 = .ok (.dup, 1) := by decide +kernel
theorem dX9_next_303 : decode cX9_next 303 = .ok (.getfield 28, 3) := by decide +kernel
theorem dX9_next_306 : decode cX9_next 306 = .ok (.iconst 1, 1) := by decide +kernel
theorem dX9_next_307 : decode cX9_next 307 = .ok (.iadd, 1) := by decide +kernel
theorem dX9_next_308 : decode cX9_next 308 = .ok (.putfield 28, 3) := by decide +kernel
theorem dX9_next_311 : decode cX9_next 311 = .ok (.return_, 1) := by decide +kernel
theorem dX9_isWord_0 : decode cX9_isWord 0 = .ok (.aload_n 0, 1) := by decide +kernel
theorem dX9_isWord_1 : decode cX9_isWord 1 = .ok (.getfield 22, 3) := by decide +kernel
theorem dX9_isWord_4 : decode cX9_isWord 4 = .ok (.iconst 1, 1) := by decide +kernel
theorem dX9_isWord_5 : decode cX9_isWord 5 = .ok (.if_icmp .ne 19, 3) := by decide +kernel
theorem dX9_isWord_8 : decode cX9_isWord 8 = .ok (.aload_n 0, 1) := by decide +kernel
theorem dX9_isWord_9 : decode cX9_isWord 9 = .ok (.getfield 28, 3) := by decide +kernel
theorem dX9_isWord_12 : decode cX9_isWord 12 = .ok (.aload_n 0, 1) := by decide +kernel
theorem dX9_isWord_13 : decode cX9_isWord 13 = .ok (.getfield 25, 3) := by decide +kernel
theorem dX9_isWord_16 : decode cX9_isWord 16 = .ok (.isub, 1) := by decide +kernel
theorem dX9_isWord_17 : decode cX9_isWord 17 = .ok (.aload_n 1, 1) := by decide +kernel
theorem dX9_isWord_18 : decode cX9_isWord 18 = .ok (.invokevirtual 37, 3) := by decide +kernel
theorem dX9_isWord_21 : decode cX9_isWord 21 = .ok (.if_icmp .eq 5, 3) := by decide +kernel
theorem dX9_isWord_24 : decode cX9_isWord 24 = .ok (.iconst 0, 1) := by decide +kernel
theorem dX9_isWord_25 : decode cX9_isWord 25 = .ok (.ireturn, 1) := by decide +kernel
theorem dX9_isWord_26 : decode cX9_isWord 26 = .ok (.iconst 0, 1) := by decide +kernel
theorem dX9_isWord_27 : decode cX9_isWord 27 = .ok (.istore_n 2, 1) := by decide +kernel
theorem dX9_isWord_28 : decode cX9_isWord 28 = .ok (.iload_n 2, 1) := by decide +kernel
theorem dX9_isWord_29 : decode cX9_isWord 29 = .ok (.aload_n 1, 1) := by decide +kernel
theorem dX9_isWord_30 : decode cX9_isWord 30 = .ok (.invokevirtual 37, 3) := by decide +kernel
theorem dX9_isWord_33 : decode cX9_isWord 33 = .ok (.if_icmp .ge 30, 3) := by decide +kernel
theorem dX9_isWord_36 : decode cX9_isWord 36 = .ok (.aload_n 0, 1) := by decide +kernel
theorem dX9_isWord_37 : decode cX9_isWord 37 = .ok (.getfield 11, 3) := by decide +kernel
theorem dX9_isWord_40 : decode cX9_isWord 40 = .ok (.aload_n 0, 1) := by decide +kernel
theorem dX9_isWord_41 : decode cX9_isWord 41 = .ok (.getfield 25, 3) := by decide +kernel
theorem dX9_isWord_44 : decode cX9_isWord 44 = .ok (.iload_n 2, 1) := by decide +kernel
theorem dX9_isWord_45 : decode cX9_isWord 45 = .ok (.iadd, 1) := by decide +kernel
theorem dX9_isWord_46 : decode cX9_isWord 46 = .ok (.iaload, 1) := by decide +kernel
theorem dX9_isWord_47 : decode cX9_isWord 47 = .ok (.aload_n 1, 1) := by decide +kernel
theorem dX9_isWord_48 : decode cX9_isWord 48 = .ok (.iload_n 2, 1) := by decide +kernel
theorem dX9_isWord_49 : decode cX9_isWord 49 = .ok (.invokevirtual 42, 3) := by decide +kernel
theorem dX9_isWord_52 : decode cX9_isWord 52 = .ok (.if_icmp .eq 5, 3) := by decide +kernel
theorem dX9_isWord_55 : decode cX9_isWord 55 = .ok (.iconst 0, 1) := by decide +kernel
theorem dX9_isWord_56 : decode cX9_isWord 56 = .ok (.ireturn, 1) := by decide +kernel
theorem dX9_isWord_57 : decode cX9_isWord 57 = .ok (.iinc 2 1, 3) := by decide +kernel
theorem dX9_isWord_60 : decode cX9_isWord 60 = .ok (.goto (-32), 3) := by decide +kernel
theorem dX9_isWord_63 : decode cX9_isWord 63 = .ok (.iconst 1, 1) := by decide +kernel
theorem dX9_isWord_64 : decode cX9_isWord 64 = .ok (.ireturn, 1) := by decide +kernel
theorem dX9_isSign_0 : decode cX9_isSign 0 = .ok (.aload_n 0, 1) := by decide +kernel
theorem dX9_isSign_1 : decode cX9_isSign 1 = .ok (.getfield 22, 3) := by decide +kernel
theorem dX9_isSign_4 : decode cX9_isSign 4 = .ok (.iconst 3, 1) := by decide +kernel
theorem dX9_isSign_5 : decode cX9_isSign 5 = .ok (.if_icmp .ne 15, 3) := by decide +kernel
theorem dX9_isSign_8 : decode cX9_isSign 8 = .ok (.aload_n 0, 1) := by decide +kernel
theorem dX9_isSign_9 : decode cX9_isSign 9 = .ok (.getfield 31, 3) := by decide +kernel
theorem dX9_isSign_12 : decode cX9_isSign 12 = .ok (.iload_n 1, 1) := by decide +kernel
theorem dX9_isSign_13 : decode cX9_isSign 13 = .ok (.if_icmp .ne 7, 3) := by decide +kernel
theorem dX9_isSign_16 : decode cX9_isSign 16 = .ok (.iconst 1, 1) := by decide +kernel
theorem dX9_isSign_17 : decode cX9_isSign 17 = .ok (.goto 4, 3) := by decide +kernel
theorem dX9_isSign_20 : decode cX9_isSign 20 = .ok (.iconst 0, 1) := by decide +kernel
theorem dX9_isSign_21 : decode cX9_isSign 21 = .ok (.ireturn, 1) := by decide +kernel
theorem dX9_refuse_0 : decode cX9_refuse 0 = .ok (.aload_n 0, 1) := by decide +kernel
theorem dX9_refuse_1 : decode cX9_refuse 1 = .ok (.aload_n 0, 1) := by decide +kernel
theorem dX9_refuse_2 : decode cX9_refuse 2 = .ok (.getfield 25, 3) := by decide +kernel
theorem dX9_refuse_5 : decode cX9_refuse 5 = .ok (.putfield 19, 3) := by decide +kernel
theorem dX9_refuse_8 : decode cX9_refuse 8 = .ok (.iconst 0, 1) := by decide +kernel
theorem dX9_refuse_9 : decode cX9_refuse 9 = .ok (.ireturn, 1) := by decide +kernel
theorem dX9_takeWord_0 : decode cX9_takeWord 0 = .ok (.aload_n 0, 1) := by decide +kernel
theorem dX9_takeWord_1 : decode cX9_takeWord 1 = .ok (.aload_n 1, 1) := by decide +kernel
theorem dX9_takeWord_2 : decode cX9_takeWord 2 = .ok (.invokevirtual 46, 3) := by decide +kernel
theorem dX9_takeWord_5 : decode cX9_takeWord 5 = .ok (.ifCond .ne 8, 3) := by decide +kernel
theorem dX9_takeWord_8 : decode cX9_takeWord 8 = .ok (.aload_n 0, 1) := by decide +kernel
theorem dX9_takeWord_9 : decode cX9_takeWord 9 = .ok (.invokevirtual 50, 3) := by decide +kernel
theorem dX9_takeWord_12 : decode cX9_takeWord 12 = .ok (.ireturn, 1) := by decide +kernel
theorem dX9_takeWord_13 : decode cX9_takeWord 13 = .ok (.aload_n 0, 1) := by decide +kernel
theorem dX9_takeWord_14 : decode cX9_takeWord 14 = .ok (.invokevirtual 34, 3) := by decide +kernel
theorem dX9_takeWord_17 : decode cX9_takeWord 17 = .ok (.iconst 1, 1) := by decide +kernel
theorem dX9_takeWord_18 : decode cX9_takeWord 18 = .ok (.ireturn, 1) := by decide +kernel
theorem dX9_takeSign_0 : decode cX9_takeSign 0 = .ok (.aload_n 0, 1) := by decide +kernel
theorem dX9_takeSign_1 : decode cX9_takeSign 1 = .ok (.iload_n 1, 1) := by decide +kernel
theorem dX9_takeSign_2 : decode cX9_takeSign 2 = .ok (.invokevirtual 54, 3) := by decide +kernel
theorem dX9_takeSign_5 : decode cX9_takeSign 5 = .ok (.ifCond .ne 8, 3) := by decide +kernel
theorem dX9_takeSign_8 : decode cX9_takeSign 8 = .ok (.aload_n 0, 1) := by decide +kernel
theorem dX9_takeSign_9 : decode cX9_takeSign 9 = .ok (.invokevirtual 50, 3) := by decide +kernel
theorem dX9_takeSign_12 : decode cX9_takeSign 12 = .ok (.ireturn, 1) := by decide +kernel
theorem dX9_takeSign_13 : decode cX9_takeSign 13 = .ok (.aload_n 0, 1) := by decide +kernel
theorem dX9_takeSign_14 : decode cX9_takeSign 14 = .ok (.invokevirtual 34, 3) := by decide +kernel
theorem dX9_takeSign_17 : decode cX9_takeSign 17 = .ok (.iconst 1, 1) := by decide +kernel
theorem dX9_takeSign_18 : decode cX9_takeSign 18 = .ok (.ireturn, 1) := by decide +kernel
theorem dX9_takeNumber_0 : decode cX9_takeNumber 0 = .ok (.aload_n 0, 1) := by decide +kernel
theorem dX9_takeNumber_1 : decode cX9_takeNumber 1 = .ok (.getfield 22, 3) := by decide +kernel
theorem dX9_takeNumber_4 : decode cX9_takeNumber 4 = .ok (.iconst 2, 1) := by decide +kernel
theorem dX9_takeNumber_5 : decode cX9_takeNumber 5 = .ok (.if_icmp .ne 19, 3) := by decide +kernel
theorem dX9_takeNumber_8 : decode cX9_takeNumber 8 = .ok (.aload_n 0, 1) := by decide +kernel
theorem dX9_takeNumber_9 : decode cX9_takeNumber 9 = .ok (.getfield 31, 3) := by decide +kernel
theorem dX9_takeNumber_12 : decode cX9_takeNumber 12 = .ok (.iload_n 1, 1) := by decide +kernel
theorem dX9_takeNumber_13 : decode cX9_takeNumber 13 = .ok (.if_icmp .lt 11, 3) := by decide +kernel
theorem dX9_takeNumber_16 : decode cX9_takeNumber 16 = .ok (.aload_n 0, 1) := by decide +kernel
theorem dX9_takeNumber_17 : decode cX9_takeNumber 17 = .ok (.getfield 31, 3) := by decide +kernel
theorem dX9_takeNumber_20 : decode cX9_takeNumber 20 = .ok (.iload_n 2, 1) := by decide +kernel
theorem dX9_takeNumber_21 : decode cX9_takeNumber 21 = .ok (.if_icmp .le 10, 3) := by decide +kernel
theorem dX9_takeNumber_24 : decode cX9_takeNumber 24 = .ok (.aload_n 0, 1) := by decide +kernel
theorem dX9_takeNumber_25 : decode cX9_takeNumber 25 = .ok (.invokevirtual 50, 3) := by decide +kernel
theorem dX9_takeNumber_28 : decode cX9_takeNumber 28 = .ok (.pop, 1) := by decide +kernel
theorem dX9_takeNumber_29 : decode cX9_takeNumber 29 = .ok (.iconst (-1), 1) := by decide +kernel
theorem dX9_takeNumber_30 : decode cX9_takeNumber 30 = .ok (.ireturn, 1) := by decide +kernel
theorem dX9_takeNumber_31 : decode cX9_takeNumber 31 = .ok (.aload_n 0, 1) := by decide +kernel
theorem dX9_takeNumber_32 : decode cX9_takeNumber 32 = .ok (.getfield 31, 3) := by decide +kernel
theorem dX9_takeNumber_35 : decode cX9_takeNumber 35 = .ok (.istore_n 3, 1) := by decide +kernel
theorem dX9_takeNumber_36 : decode cX9_takeNumber 36 = .ok (.aload_n 0, 1) := by decide +kernel
theorem dX9_takeNumber_37 : decode cX9_takeNumber 37 = .ok (.invokevirtual 34, 3) := by decide +kernel
theorem dX9_takeNumber_40 : decode cX9_takeNumber 40 = .ok (.iload_n 3, 1) := by decide +kernel
theorem dX9_takeNumber_41 : decode cX9_takeNumber 41 = .ok (.ireturn, 1) := by decide +kernel
theorem dX10_init_0 : decode cX10_init 0 = .ok (.aload_n 0, 1) := by decide +kernel
theorem dX10_init_1 : decode cX10_init 1 = .ok (.invokespecial 1, 3) := by decide +kernel
theorem dX10_init_4 : decode cX10_init 4 = .ok (.aload_n 0, 1) := by decide +kernel
theorem dX10_init_5 : decode cX10_init 5 = .ok (.aload_n 1, 1) := by decide +kernel
theorem dX10_init_6 : decode cX10_init 6 = .ok (.putfield 7, 3) := by decide +kernel
theorem dX10_init_9 : decode cX10_init 9 = .ok (.aload_n 0, 1) := by decide +kernel
theorem dX10_init_10 : decode cX10_init 10 = .ok (.iload_n 2, 1) := by decide +kernel
theorem dX10_init_11 : decode cX10_init 11 = .ok (.putfield 13, 3) := by decide +kernel
theorem dX10_init_14 : decode cX10_init 14 = .ok (.return_, 1) := by decide +kernel
theorem dX10_readLines_0 : decode cX10_readLines 0 = .ok (.aload_n 0, 1) := by decide +kernel
theorem dX10_readLines_1 : decode cX10_readLines 1 = .ok (.getfield 7, 3) := by decide +kernel
theorem dX10_readLines_4 : decode cX10_readLines 4 = .ok (.invokevirtual 17, 3) := by decide +kernel
theorem dX10_readLines_7 : decode cX10_readLines 7 = .ok (.aload_n 0, 1) := by decide +kernel
theorem dX10_readLines_8 : decode cX10_readLines 8 = .ok (.getfield 7, 3) := by decide +kernel
theorem dX10_readLines_11 : decode cX10_readLines 11 = .ok (.getfield 22, 3) := by decide +kernel
theorem dX10_readLines_14 : decode cX10_readLines 14 = .ok (.ifCond .ne 5, 3) := by decide +kernel
theorem dX10_readLines_17 : decode cX10_readLines 17 = .ok (.iconst 1, 1) := by decide +kernel
theorem dX10_readLines_18 : decode cX10_readLines 18 = .ok (.ireturn, 1) := by decide +kernel
theorem dX10_readLines_19 : decode cX10_readLines 19 = .ok (.iconst 0, 1) := by decide +kernel
theorem dX10_readLines_20 : decode cX10_readLines 20 = .ok (.istore_n 1, 1) := by decide +kernel
theorem dX10_readLines_21 : decode cX10_readLines 21 = .ok (.iload_n 1, 1) := by decide +kernel
theorem dX10_readLines_22 : decode cX10_readLines 22 = .ok (.aload_n 0, 1) := by decide +kernel
theorem dX10_readLines_23 : decode cX10_readLines 23 = .ok (.getfield 13, 3) := by decide +kernel
theorem dX10_readLines_26 : decode cX10_readLines 26 = .ok (.if_icmp .ge 63, 3) := by decide +kernel
theorem dX10_readLines_29 : decode cX10_readLines 29 = .ok (.aload_n 0, 1) := by decide +kernel
theorem dX10_readLines_30 : decode cX10_readLines 30 = .ok (.getfield 7, 3) := by decide +kernel
theorem dX10_readLines_33 : decode cX10_readLines 33 = .ok (.getfield 22, 3) := by decide +kernel
theorem dX10_readLines_36 : decode cX10_readLines 36 = .ok (.iconst 1, 1) := by decide +kernel
theorem dX10_readLines_37 : decode cX10_readLines 37 = .ok (.if_icmp .eq 11, 3) := by decide +kernel
theorem dX10_readLines_40 : decode cX10_readLines 40 = .ok (.aload_n 0, 1) := by decide +kernel
theorem dX10_readLines_41 : decode cX10_readLines 41 = .ok (.getfield 7, 3) := by decide +kernel
theorem dX10_readLines_44 : decode cX10_readLines 44 = .ok (.invokevirtual 25, 3) := by decide +kernel
theorem dX10_readLines_47 : decode cX10_readLines 47 = .ok (.ireturn, 1) := by decide +kernel
theorem dX10_readLines_48 : decode cX10_readLines 48 = .ok (.aload_n 0, 1) := by decide +kernel
theorem dX10_readLines_49 : decode cX10_readLines 49 = .ok (.invokevirtual 29, 3) := by decide +kernel
theorem dX10_readLines_52 : decode cX10_readLines 52 = .ok (.ifCond .ne 5, 3) := by decide +kernel
theorem dX10_readLines_55 : decode cX10_readLines 55 = .ok (.iconst 0, 1) := by decide +kernel
theorem dX10_readLines_56 : decode cX10_readLines 56 = .ok (.ireturn, 1) := by decide +kernel
theorem dX10_readLines_57 : decode cX10_readLines 57 = .ok (.aload_n 0, 1) := by decide +kernel
theorem dX10_readLines_58 : decode cX10_readLines 58 = .ok (.getfield 7, 3) := by decide +kernel
theorem dX10_readLines_61 : decode cX10_readLines 61 = .ok (.getfield 22, 3) := by decide +kernel
theorem dX10_readLines_64 : decode cX10_readLines 64 = .ok (.ifCond .ne 5, 3) := by decide +kernel
theorem dX10_readLines_67 : decode cX10_readLines 67 = .ok (.iconst 1, 1) := by decide +kernel
theorem dX10_readLines_68 : decode cX10_readLines 68 = .ok (.ireturn, 1) := by decide +kernel
theorem dX10_readLines_69 : decode cX10_readLines 69 = .ok (.aload_n 0, 1) := by decide +kernel
theorem dX10_readLines_70 : decode cX10_readLines 70 = .ok (.getfield 7, 3) := by decide +kernel
theorem dX10_readLines_73 : decode cX10_readLines 73 = .ok (.bipush 59, 2) := by decide +kernel
theorem dX10_readLines_75 : decode cX10_readLines 75 = .ok (.invokevirtual 32, 3) := by decide +kernel
theorem dX10_readLines_78 : decode cX10_readLines 78 = .ok (.ifCond .ne 5, 3) := by decide +kernel
theorem dX10_readLines_81 : decode cX10_readLines 81 = .ok (.iconst 0, 1) := by decide +kernel
theorem dX10_readLines_82 : decode cX10_readLines 82 = .ok (.ireturn, 1) := by decide +kernel
theorem dX10_readLines_83 : decode cX10_readLines 83 = .ok (.iinc 1 1, 3) := by decide +kernel
theorem dX10_readLines_86 : decode cX10_readLines 86 = .ok (.goto (-65), 3) := by decide +kernel
theorem dX10_readLines_89 : decode cX10_readLines 89 = .ok (.aload_n 0, 1) := by decide +kernel
theorem dX10_readLines_90 : decode cX10_readLines 90 = .ok (.getfield 7, 3) := by decide +kernel
theorem dX10_readLines_93 : decode cX10_readLines 93 = .ok (.invokevirtual 25, 3) := by decide +kernel
theorem dX10_readLines_96 : decode cX10_readLines 96 = .ok (.ireturn, 1) := by decide +kernel
theorem dX11_init_0 : decode cX11_init 0 = .ok (.aload_n 0, 1) := by decide +kernel
theorem dX11_init_1 : decode cX11_init 1 = .ok (.invokespecial 1, 3) := by decide +kernel
theorem dX11_init_4 : decode cX11_init 4 = .ok (.aload_n 0, 1) := by decide +kernel
theorem dX11_init_5 : decode cX11_init 5 = .ok (.new 7, 3) := by decide +kernel
theorem dX11_init_8 : decode cX11_init 8 = .ok (.dup, 1) := by decide +kernel
theorem dX11_init_9 : decode cX11_init 9 = .ok (.invokespecial 9, 3) := by decide +kernel
theorem dX11_init_12 : decode cX11_init 12 = .ok (.putfield 10, 3) := by decide +kernel
theorem dX11_init_15 : decode cX11_init 15 = .ok (.aload_n 0, 1) := by decide +kernel
theorem dX11_init_16 : decode cX11_init 16 = .ok (.new 16, 3) := by decide +kernel
theorem dX11_init_19 : decode cX11_init 19 = .ok (.dup, 1) := by decide +kernel
theorem dX11_init_20 : decode cX11_init 20 = .ok (.invokespecial 18, 3) := by decide +kernel
theorem dX11_init_23 : decode cX11_init 23 = .ok (.putfield 19, 3) := by decide +kernel
theorem dX11_init_26 : decode cX11_init 26 = .ok (.aload_n 0, 1) := by decide +kernel
theorem dX11_init_27 : decode cX11_init 27 = .ok (.new 16, 3) := by decide +kernel
theorem dX11_init_30 : decode cX11_init 30 = .ok (.dup, 1) := by decide +kernel
theorem dX11_init_31 : decode cX11_init 31 = .ok (.invokespecial 18, 3) := by decide +kernel
theorem dX11_init_34 : decode cX11_init 34 = .ok (.putfield 23, 3) := by decide +kernel
theorem dX11_init_37 : decode cX11_init 37 = .ok (.aload_n 0, 1) := by decide +kernel
theorem dX11_init_38 : decode cX11_init 38 = .ok (.new 16, 3) := by decide +kernel
theorem dX11_init_41 : decode cX11_init 41 = .ok (.dup, 1) := by decide +kernel
theorem dX11_init_42 : decode cX11_init 42 = .ok (.invokespecial 18, 3) := by decide +kernel
theorem dX11_init_45 : decode cX11_init 45 = .ok (.putfield 26, 3) := by decide +kernel
theorem dX11_init_48 : decode cX11_init 48 = .ok (.aload_n 0, 1) := by decide +kernel
theorem dX11_init_49 : decode cX11_init 49 = .ok (.new 29, 3) := by decide +kernel
theorem dX11_init_52 : decode cX11_init 52 = .ok (.dup, 1) := by decide +kernel
theorem dX11_init_53 : decode cX11_init 53 = .ok (.invokespecial 31, 3) := by decide +kernel
theorem dX11_init_56 : decode cX11_init 56 = .ok (.putfield 32, 3) := by decide +kernel
theorem dX11_init_59 : decode cX11_init 59 = .ok (.aload_n 0, 1) := by decide +kernel
theorem dX11_init_60 : decode cX11_init 60 = .ok (.new 36, 3) := by decide +kernel
theorem dX11_init_63 : decode cX11_init 63 = .ok (.dup, 1) := by decide +kernel
theorem dX11_init_64 : decode cX11_init 64 = .ok (.aload_n 0, 1) := by decide +kernel
theorem dX11_init_65 : decode cX11_init 65 = .ok (.getfield 19, 3) := by decide +kernel
theorem dX11_init_68 : decode cX11_init 68 = .ok (.invokespecial 38, 3) := by decide +kernel
theorem dX11_init_71 : decode cX11_init 71 = .ok (.putfield 41, 3) := by decide +kernel
theorem dX11_init_74 : decode cX11_init 74 = .ok (.aload_n 0, 1) := by decide +kernel
theorem dX11_init_75 : decode cX11_init 75 = .ok (.new 45, 3) := by decide +kernel
theorem dX11_init_78 : decode cX11_init 78 = .ok (.dup, 1) := by decide +kernel
theorem dX11_init_79 : decode cX11_init 79 = .ok (.aload_n 0, 1) := by decide +kernel
theorem dX11_init_80 : decode cX11_init 80 = .ok (.getfield 10, 3) := by decide +kernel
theorem dX11_init_83 : decode cX11_init 83 = .ok (.aload_n 0, 1) := by decide +kernel
theorem dX11_init_84 : decode cX11_init 84 = .ok (.getfield 23, 3) := by decide +kernel
theorem dX11_init_87 : decode cX11_init 87 = .ok (.invokespecial 47, 3) := by decide +kernel
theorem dX11_init_90 : decode cX11_init 90 = .ok (.putfield 50, 3) := by decide +kernel
theorem dX11_init_93 : decode cX11_init 93 = .ok (.aload_n 0, 1) := by decide +kernel
theorem dX11_init_94 : decode cX11_init 94 = .ok (.new 54, 3) := by decide +kernel
theorem dX11_init_97 : decode cX11_init 97 = .ok (.dup, 1) := by decide +kernel
theorem dX11_init_98 : decode cX11_init 98 = .ok (.aload_n 0, 1) := by decide +kernel
theorem dX11_init_99 : decode cX11_init 99 = .ok (.getfield 10, 3) := by decide +kernel
theorem dX11_init_102 : decode cX11_init 102 = .ok (.invokespecial 56, 3) := by decide +kernel
theorem dX11_init_105 : decode cX11_init 105 = .ok (.putfield 59, 3) := by decide +kernel
theorem dX11_init_108 : decode cX11_init 108 = .ok (.aload_n 0, 1) := by decide +kernel
theorem dX11_init_109 : decode cX11_init 109 = .ok (.iconst 0, 1) := by decide +kernel
theorem dX11_init_110 : decode cX11_init 110 = .ok (.putfield 63, 3) := by decide +kernel
theorem dX11_init_113 : decode cX11_init 113 = .ok (.aload_n 0, 1) := by decide +kernel
theorem dX11_init_114 : decode cX11_init 114 = .ok (.iconst (-1), 1) := by decide +kernel
theorem dX11_init_115 : decode cX11_init 115 = .ok (.putfield 67, 3) := by decide +kernel
theorem dX11_init_118 : decode cX11_init 118 = .ok (.return_, 1) := by decide +kernel
theorem dX11_feed_0 : decode cX11_feed 0 = .ok (.aload_n 0, 1) := by decide +kernel
theorem dX11_feed_1 : decode cX11_feed 1 = .ok (.getfield 10, 3) := by decide +kernel
theorem dX11_feed_4 : decode cX11_feed 4 = .ok (.getfield 71, 3) := by decide +kernel
theorem dX11_feed_7 : decode cX11_feed 7 = .ok (.bipush 20, 2) := by decide +kernel
theorem dX11_feed_9 : decode cX11_feed 9 = .ok (.iadd, 1) := by decide +kernel
theorem dX11_feed_10 : decode cX11_feed 10 = .ok (.sipush 400, 3) := by decide +kernel
theorem dX11_feed_13 : decode cX11_feed 13 = .ok (.if_icmp .le 5, 3) := by decide +kernel
theorem dX11_feed_16 : decode cX11_feed 16 = .ok (.iconst (-1), 1) := by decide +kernel
theorem dX11_feed_17 : decode cX11_feed 17 = .ok (.ireturn, 1) := by decide +kernel
theorem dX11_feed_18 : decode cX11_feed 18 = .ok (.aload_n 0, 1) := by decide +kernel
theorem dX11_feed_19 : decode cX11_feed 19 = .ok (.getfield 10, 3) := by decide +kernel
theorem dX11_feed_22 : decode cX11_feed 22 = .ok (.iload_n 1, 1) := by decide +kernel
theorem dX11_feed_23 : decode cX11_feed 23 = .ok (.invokevirtual 74, 3) := by decide +kernel
theorem dX11_feed_26 : decode cX11_feed 26 = .ok (.aload_n 0, 1) := by decide +kernel
theorem dX11_feed_27 : decode cX11_feed 27 = .ok (.getfield 10, 3) := by decide +kernel
theorem dX11_feed_30 : decode cX11_feed 30 = .ok (.iload_n 2, 1) := by decide +kernel
theorem dX11_feed_31 : decode cX11_feed 31 = .ok (.invokevirtual 74, 3) := by decide +kernel
theorem dX11_feed_34 : decode cX11_feed 34 = .ok (.aload_n 0, 1) := by decide +kernel
theorem dX11_feed_35 : decode cX11_feed 35 = .ok (.getfield 10, 3) := by decide +kernel
theorem dX11_feed_38 : decode cX11_feed 38 = .ok (.iload_n 3, 1) := by decide +kernel
theorem dX11_feed_39 : decode cX11_feed 39 = .ok (.invokevirtual 74, 3) := by decide +kernel
theorem dX11_feed_42 : decode cX11_feed 42 = .ok (.aload_n 0, 1) := by decide +kernel
theorem dX11_feed_43 : decode cX11_feed 43 = .ok (.getfield 10, 3) := by decide +kernel
theorem dX11_feed_46 : decode cX11_feed 46 = .ok (.iload 4, 2) := by decide +kernel
theorem dX11_feed_48 : decode cX11_feed 48 = .ok (.invokevirtual 74, 3) := by decide +kernel
theorem dX11_feed_51 : decode cX11_feed 51 = .ok (.aload_n 0, 1) := by decide +kernel
theorem dX11_feed_52 : decode cX11_feed 52 = .ok (.getfield 10, 3) := by decide +kernel
theorem dX11_feed_55 : decode cX11_feed 55 = .ok (.iload 5, 2) := by decide +kernel
theorem dX11_feed_57 : decode cX11_feed 57 = .ok (.invokevirtual 74, 3) := by decide +kernel
theorem dX11_feed_60 : decode cX11_feed 60 = .ok (.aload_n 0, 1) := by decide +kernel
theorem dX11_feed_61 : decode cX11_feed 61 = .ok (.getfield 10, 3) := by decide +kernel
theorem dX11_feed_64 : decode cX11_feed 64 = .ok (.getfield 71, 3) := by decide +kernel
theorem dX11_feed_67 : decode cX11_feed 67 = .ok (.ireturn, 1) := by decide +kernel
theorem dX11_end_0 : decode cX11_end 0 = .ok (.iload_n 1, 1) := by decide +kernel
theorem dX11_end_1 : decode cX11_end 1 = .ok (.ifCond .lt 14, 3) := by decide +kernel
theorem dX11_end_4 : decode cX11_end 4 = .ok (.iload_n 1, 1) := by decide +kernel
theorem dX11_end_5 : decode cX11_end 5 = .ok (.aload_n 0, 1) := by decide +kernel
theorem dX11_end_6 : decode cX11_end 6 = .ok (.getfield 10, 3) := by decide +kernel
theorem dX11_end_9 : decode cX11_end 9 = .ok (.getfield 71, 3) := by decide +kernel
theorem dX11_end_12 : decode cX11_end 12 = .ok (.if_icmp .le 5, 3) := by decide +kernel
theorem dX11_end_15 : decode cX11_end 15 = .ok (.iconst 0, 1) := by decide +kernel
theorem dX11_end_16 : decode cX11_end 16 = .ok (.ireturn, 1) := by decide +kernel
theorem dX11_end_17 : decode cX11_end 17 = .ok (.aload_n 0, 1) := by decide +kernel
theorem dX11_end_18 : decode cX11_end 18 = .ok (.getfield 10, 3) := by decide +kernel
theorem dX11_end_21 : decode cX11_end 21 = .ok (.iload_n 1, 1) := by decide +kernel
theorem dX11_end_22 : decode cX11_end 22 = .ok (.putfield 71, 3) := by decide +kernel
theorem dX11_end_25 : decode cX11_end 25 = .ok (.iconst 1, 1) := by decide +kernel
theorem dX11_end_26 : decode cX11_end 26 = .ok (.ireturn, 1) := by decide +kernel
theorem dX11_parish_0 : decode cX11_parish 0 = .ok (.aload_n 0, 1) := by decide +kernel
theorem dX11_parish_1 : decode cX11_parish 1 = .ok (.getfield 23, 3) := by decide +kernel
theorem dX11_parish_4 : decode cX11_parish 4 = .ok (.aload_n 0, 1) := by decide +kernel
theorem dX11_parish_5 : decode cX11_parish 5 = .ok (.getfield 19, 3) := by decide +kernel
theorem dX11_parish_8 : decode cX11_parish 8 = .ok (.invokevirtual 78, 3) := by decide +kernel
theorem dX11_parish_11 : decode cX11_parish 11 = .ok (.aload_n 0, 1) := by decide +kernel
theorem dX11_parish_12 : decode cX11_parish 12 = .ok (.getfield 50, 3) := by decide +kernel
theorem dX11_parish_15 : decode cX11_parish 15 = .ok (.invokevirtual 81, 3) := by decide +kernel
theorem dX11_parish_18 : decode cX11_parish 18 = .ok (.istore_n 1, 1) := by decide +kernel
theorem dX11_parish_19 : decode cX11_parish 19 = .ok (.aload_n 0, 1) := by decide +kernel
theorem dX11_parish_20 : decode cX11_parish 20 = .ok (.aload_n 0, 1) := by decide +kernel
theorem dX11_parish_21 : decode cX11_parish 21 = .ok (.getfield 10, 3) := by decide +kernel
theorem dX11_parish_24 : decode cX11_parish 24 = .ok (.getfield 85, 3) := by decide +kernel
theorem dX11_parish_27 : decode cX11_parish 27 = .ok (.putfield 67, 3) := by decide +kernel
theorem dX11_parish_30 : decode cX11_parish 30 = .ok (.aload_n 0, 1) := by decide +kernel
theorem dX11_parish_31 : decode cX11_parish 31 = .ok (.getfield 10, 3) := by decide +kernel
theorem dX11_parish_34 : decode cX11_parish 34 = .ok (.iconst 0, 1) := by decide +kernel
theorem dX11_parish_35 : decode cX11_parish 35 = .ok (.putfield 71, 3) := by decide +kernel
theorem dX11_parish_38 : decode cX11_parish 38 = .ok (.iload_n 1, 1) := by decide +kernel
theorem dX11_parish_39 : decode cX11_parish 39 = .ok (.ifCond .ne 13, 3) := by decide +kernel
theorem dX11_parish_42 : decode cX11_parish 42 = .ok (.new 88, 3) := by decide +kernel
theorem dX11_parish_45 : decode cX11_parish 45 = .ok (.dup, 1) := by decide +kernel
theorem dX11_parish_46 : decode cX11_parish 46 = .ok (.ldc 90, 2) := by decide +kernel
theorem dX11_parish_48 : decode cX11_parish 48 = .ok (.invokespecial 92, 3) := by decide +kernel
theorem dX11_parish_51 : decode cX11_parish 51 = .ok (.athrow, 1) := by decide +kernel
theorem dX11_parish_52 : decode cX11_parish 52 = .ok (.aload_n 0, 1) := by decide +kernel
theorem dX11_parish_53 : decode cX11_parish 53 = .ok (.getfield 19, 3) := by decide +kernel
theorem dX11_parish_56 : decode cX11_parish 56 = .ok (.getfield 95, 3) := by decide +kernel
theorem dX11_parish_59 : decode cX11_parish 59 = .ok (.bipush 12, 2) := by decide +kernel
theorem dX11_parish_61 : decode cX11_parish 61 = .ok (.if_icmp .lt 13, 3) := by decide +kernel
theorem dX11_parish_64 : decode cX11_parish 64 = .ok (.new 98, 3) := by decide +kernel
theorem dX11_parish_67 : decode cX11_parish 67 = .ok (.dup, 1) := by decide +kernel
theorem dX11_parish_68 : decode cX11_parish 68 = .ok (.ldc 100, 2) := by decide +kernel
theorem dX11_parish_70 : decode cX11_parish 70 = .ok (.invokespecial 102, 3) := by decide +kernel
theorem dX11_parish_73 : decode cX11_parish 73 = .ok (.athrow, 1) := by decide +kernel
theorem dX11_parish_74 : decode cX11_parish 74 = .ok (.aload_n 0, 1) := by decide +kernel
theorem dX11_parish_75 : decode cX11_parish 75 = .ok (.getfield 19, 3) := by decide +kernel
theorem dX11_parish_78 : decode cX11_parish 78 = .ok (.aload_n 0, 1) := by decide +kernel
theorem dX11_parish_79 : decode cX11_parish 79 = .ok (.getfield 23, 3) := by decide +kernel
theorem dX11_parish_82 : decode cX11_parish 82 = .ok (.invokevirtual 78, 3) := by decide +kernel
theorem dX11_parish_85 : decode cX11_parish 85 = .ok (.aload_n 0, 1) := by decide +kernel
theorem dX11_parish_86 : decode cX11_parish 86 = .ok (.getfield 19, 3) := by decide +kernel
theorem dX11_parish_89 : decode cX11_parish 89 = .ok (.dup, 1) := by decide +kernel
theorem dX11_parish_90 : decode cX11_parish 90 = .ok (.getfield 95, 3) := by decide +kernel
theorem dX11_parish_93 : decode cX11_parish 93 = .ok (.iconst 1, 1) := by decide +kernel
theorem dX11_parish_94 : decode cX11_parish 94 = .ok (.iadd, 1) := by decide +kernel
theorem dX11_parish_95 : decode cX11_parish 95 = .ok (.putfield 95, 3) := by decide +kernel
theorem dX11_parish_98 : decode cX11_parish 98 = .ok (.aload_n 0, 1) := by decide +kernel
theorem dX11_parish_99 : decode cX11_parish 99 = .ok (.getfield 32, 3) := by decide +kernel
theorem dX11_parish_102 : decode cX11_parish 102 = .ok (.invokevirtual 103, 3) := by decide +kernel
theorem dX11_parish_105 : decode cX11_parish 105 = .ok (.aload_n 0, 1) := by decide +kernel
theorem dX11_parish_106 : decode cX11_parish 106 = .ok (.getfield 19, 3) := by decide +kernel
theorem dX11_parish_109 : decode cX11_parish 109 = .ok (.getfield 95, 3) := by decide +kernel
theorem dX11_parish_112 : decode cX11_parish 112 = .ok (.ireturn, 1) := by decide +kernel
theorem dX11_law_0 : decode cX11_law 0 = .ok (.aload_n 0, 1) := by decide +kernel
theorem dX11_law_1 : decode cX11_law 1 = .ok (.getfield 59, 3) := by decide +kernel
theorem dX11_law_4 : decode cX11_law 4 = .ok (.invokevirtual 106, 3) := by decide +kernel
theorem dX11_law_7 : decode cX11_law 7 = .ok (.aload_n 0, 1) := by decide +kernel
theorem dX11_law_8 : decode cX11_law 8 = .ok (.getfield 59, 3) := by decide +kernel
theorem dX11_law_11 : decode cX11_law 11 = .ok (.invokevirtual 109, 3) := by decide +kernel
theorem dX11_law_14 : decode cX11_law 14 = .ok (.istore_n 1, 1) := by decide +kernel
theorem dX11_law_15 : decode cX11_law 15 = .ok (.aload_n 0, 1) := by decide +kernel
theorem dX11_law_16 : decode cX11_law 16 = .ok (.aload_n 0, 1) := by decide +kernel
theorem dX11_law_17 : decode cX11_law 17 = .ok (.getfield 10, 3) := by decide +kernel
theorem dX11_law_20 : decode cX11_law 20 = .ok (.getfield 85, 3) := by decide +kernel
theorem dX11_law_23 : decode cX11_law 23 = .ok (.putfield 67, 3) := by decide +kernel
theorem dX11_law_26 : decode cX11_law 26 = .ok (.aload_n 0, 1) := by decide +kernel
theorem dX11_law_27 : decode cX11_law 27 = .ok (.getfield 10, 3) := by decide +kernel
theorem dX11_law_30 : decode cX11_law 30 = .ok (.iconst 0, 1) := by decide +kernel
theorem dX11_law_31 : decode cX11_law 31 = .ok (.putfield 71, 3) := by decide +kernel
theorem dX11_law_34 : decode cX11_law 34 = .ok (.iload_n 1, 1) := by decide +kernel
theorem dX11_law_35 : decode cX11_law 35 = .ok (.ifCond .ne 13, 3) := by decide +kernel
theorem dX11_law_38 : decode cX11_law 38 = .ok (.new 88, 3) := by decide +kernel
theorem dX11_law_41 : decode cX11_law 41 = .ok (.dup, 1) := by decide +kernel
theorem dX11_law_42 : decode cX11_law 42 = .ok (.ldc 110, 2) := by decide +kernel
theorem dX11_law_44 : decode cX11_law 44 = .ok (.invokespecial 92, 3) := by decide +kernel
theorem dX11_law_47 : decode cX11_law 47 = .ok (.athrow, 1) := by decide +kernel
theorem dX11_law_48 : decode cX11_law 48 = .ok (.aload_n 0, 1) := by decide +kernel
theorem dX11_law_49 : decode cX11_law 49 = .ok (.getfield 59, 3) := by decide +kernel
theorem dX11_law_52 : decode cX11_law 52 = .ok (.invokevirtual 112, 3) := by decide +kernel
theorem dX11_law_55 : decode cX11_law 55 = .ok (.astore_n 2, 1) := by decide +kernel
theorem dX11_law_56 : decode cX11_law 56 = .ok (.aload_n 0, 1) := by decide +kernel
theorem dX11_law_57 : decode cX11_law 57 = .ok (.getfield 19, 3) := by decide +kernel
theorem dX11_law_60 : decode cX11_law 60 = .ok (.aload_n 2, 1) := by decide +kernel
theorem dX11_law_61 : decode cX11_law 61 = .ok (.putfield 116, 3) := by decide +kernel
theorem dX11_law_64 : decode cX11_law 64 = .ok (.aload_n 0, 1) := by decide +kernel
theorem dX11_law_65 : decode cX11_law 65 = .ok (.getfield 32, 3) := by decide +kernel
theorem dX11_law_68 : decode cX11_law 68 = .ok (.invokevirtual 103, 3) := by decide +kernel
theorem dX11_law_71 : decode cX11_law 71 = .ok (.aload_n 2, 1) := by decide +kernel
theorem dX11_law_72 : decode cX11_law 72 = .ok (.getfield 120, 3) := by decide +kernel
theorem dX11_law_75 : decode cX11_law 75 = .ok (.ireturn, 1) := by decide +kernel
theorem dX11_fault_0 : decode cX11_fault 0 = .ok (.aload_n 0, 1) := by decide +kernel
theorem dX11_fault_1 : decode cX11_fault 1 = .ok (.getfield 67, 3) := by decide +kernel
theorem dX11_fault_4 : decode cX11_fault 4 = .ok (.ireturn, 1) := by decide +kernel
theorem dX11_house_0 : decode cX11_house 0 = .ok (.aload_n 0, 1) := by decide +kernel
theorem dX11_house_1 : decode cX11_house 1 = .ok (.iload_n 1, 1) := by decide +kernel
theorem dX11_house_2 : decode cX11_house 2 = .ok (.invokevirtual 125, 3) := by decide +kernel
theorem dX11_house_5 : decode cX11_house 5 = .ok (.aload_n 0, 1) := by decide +kernel
theorem dX11_house_6 : decode cX11_house 6 = .ok (.getfield 19, 3) := by decide +kernel
theorem dX11_house_9 : decode cX11_house 9 = .ok (.getfield 128, 3) := by decide +kernel
theorem dX11_house_12 : decode cX11_house 12 = .ok (.iload_n 1, 1) := by decide +kernel
theorem dX11_house_13 : decode cX11_house 13 = .ok (.aaload, 1) := by decide +kernel
theorem dX11_house_14 : decode cX11_house 14 = .ok (.astore_n 3, 1) := by decide +kernel
theorem dX11_house_15 : decode cX11_house 15 = .ok (.iload_n 2, 1) := by decide +kernel
theorem dX11_house_16 : decode cX11_house 16 = .ok (.tableswitch 147 0 10 #[60, 65, 78, 83, 88, 93, 102, 111, 120, 129, 138], 60) := by decide +kernel
theorem dX11_house_76 : decode cX11_house 76 = .ok (.aload_n 3, 1) := by decide +kernel
theorem dX11_house_77 : decode cX11_house 77 = .ok (.getfield 132, 3) := by decide +kernel
theorem dX11_house_80 : decode cX11_house 80 = .ok (.ireturn, 1) := by decide +kernel
theorem dX11_house_81 : decode cX11_house 81 = .ok (.aload_n 3, 1) := by decide +kernel
theorem dX11_house_82 : decode cX11_house 82 = .ok (.getfield 137, 3) := by decide +kernel
theorem dX11_house_85 : decode cX11_house 85 = .ok (.ifCond .eq 7, 3) := by decide +kernel
theorem dX11_house_88 : decode cX11_house 88 = .ok (.iconst 1, 1) := by decide +kernel
theorem dX11_house_89 : decode cX11_house 89 = .ok (.goto 4, 3) := by decide +kernel
theorem dX11_house_92 : decode cX11_house 92 = .ok (.iconst 0, 1) := by decide +kernel
theorem dX11_house_93 : decode cX11_house 93 = .ok (.ireturn, 1) := by decide +kernel
theorem dX11_house_94 : decode cX11_house 94 = .ok (.aload_n 3, 1) := by decide +kernel
theorem dX11_house_95 : decode cX11_house 95 = .ok (.getfield 140, 3) := by decide +kernel
theorem dX11_house_98 : decode cX11_house 98 = .ok (.ireturn, 1) := by decide +kernel
theorem dX11_house_99 : decode cX11_house 99 = .ok (.aload_n 3, 1) := by decide +kernel
theorem dX11_house_100 : decode cX11_house 100 = .ok (.getfield 143, 3) := by decide +kernel
theorem dX11_house_103 : decode cX11_house 103 = .ok (.ireturn, 1) := by decide +kernel
theorem dX11_house_104 : decode cX11_house 104 = .ok (.aload_n 3, 1) := by decide +kernel
theorem dX11_house_105 : decode cX11_house 105 = .ok (.getfield 146, 3) := by decide +kernel
theorem dX11_house_108 : decode cX11_house 108 = .ok (.ireturn, 1) := by decide +kernel
theorem dX11_house_109 : decode cX11_house 109 = .ok (.aload_n 0, 1) := by decide +kernel
theorem dX11_house_110 : decode cX11_house 110 = .ok (.getfield 19, 3) := by decide +kernel
theorem dX11_house_113 : decode cX11_house 113 = .ok (.iload_n 1, 1) := by decide +kernel
theorem dX11_house_114 : decode cX11_house 114 = .ok (.invokevirtual 149, 3) := by decide +kernel
theorem dX11_house_117 : decode cX11_house 117 = .ok (.ireturn, 1) := by decide +kernel
theorem dX11_house_118 : decode cX11_house 118 = .ok (.aload_n 0, 1) := by decide +kernel
theorem dX11_house_119 : decode cX11_house 119 = .ok (.getfield 19, 3) := by decide +kernel
theorem dX11_house_122 : decode cX11_house 122 = .ok (.iload_n 1, 1) := by decide +kernel
theorem dX11_house_123 : decode cX11_house 123 = .ok (.invokevirtual 153, 3) := by decide +kernel
theorem dX11_house_126 : decode cX11_house 126 = .ok (.ireturn, 1) := by decide +kernel
theorem dX11_house_127 : decode cX11_house 127 = .ok (.aload_n 0, 1) := by decide +kernel
theorem dX11_house_128 : decode cX11_house 128 = .ok (.getfield 19, 3) := by decide +kernel
theorem dX11_house_131 : decode cX11_house 131 = .ok (.iload_n 1, 1) := by decide +kernel
theorem dX11_house_132 : decode cX11_house 132 = .ok (.invokevirtual 156, 3) := by decide +kernel
theorem dX11_house_135 : decode cX11_house 135 = .ok (.ireturn, 1) := by decide +kernel
theorem dX11_house_136 : decode cX11_house 136 = .ok (.aload_n 0, 1) := by decide +kernel
theorem dX11_house_137 : decode cX11_house 137 = .ok (.getfield 19, 3) := by decide +kernel
theorem dX11_house_140 : decode cX11_house 140 = .ok (.iload_n 1, 1) := by decide +kernel
theorem dX11_house_141 : decode cX11_house 141 = .ok (.invokevirtual 159, 3) := by decide +kernel
theorem dX11_house_144 : decode cX11_house 144 = .ok (.ireturn, 1) := by decide +kernel
theorem dX11_house_145 : decode cX11_house 145 = .ok (.aload_n 0, 1) := by decide +kernel
theorem dX11_house_146 : decode cX11_house 146 = .ok (.getfield 19, 3) := by decide +kernel
theorem dX11_house_149 : decode cX11_house 149 = .ok (.iload_n 1, 1) := by decide +kernel
theorem dX11_house_150 : decode cX11_house 150 = .ok (.invokevirtual 162, 3) := by decide +kernel
theorem dX11_house_153 : decode cX11_house 153 = .ok (.ireturn, 1) := by decide +kernel
theorem dX11_house_154 : decode cX11_house 154 = .ok (.aload_n 0, 1) := by decide +kernel
theorem dX11_house_155 : decode cX11_house 155 = .ok (.getfield 19, 3) := by decide +kernel
theorem dX11_house_158 : decode cX11_house 158 = .ok (.iload_n 1, 1) := by decide +kernel
theorem dX11_house_159 : decode cX11_house 159 = .ok (.invokevirtual 165, 3) := by decide +kernel
theorem dX11_house_162 : decode cX11_house 162 = .ok (.ireturn, 1) := by decide +kernel
theorem dX11_house_163 : decode cX11_house 163 = .ok (.new 168, 3) := by decide +kernel
theorem dX11_house_166 : decode cX11_house 166 = .ok (.dup, 1) := by decide +kernel
theorem dX11_house_167 : decode cX11_house 167 = .ok (.ldc 170, 2) := by decide +kernel
theorem dX11_house_169 : decode cX11_house 169 = .ok (.invokespecial 172, 3) := by decide +kernel
theorem dX11_house_172 : decode cX11_house 172 = .ok (.athrow, 1) := by decide +kernel
theorem dX11_hearth_0 : decode cX11_hearth 0 = .ok (.aload_n 0, 1) := by decide +kernel
theorem dX11_hearth_1 : decode cX11_hearth 1 = .ok (.iload_n 1, 1) := by decide +kernel
theorem dX11_hearth_2 : decode cX11_hearth 2 = .ok (.invokevirtual 173, 3) := by decide +kernel
theorem dX11_hearth_5 : decode cX11_hearth 5 = .ok (.aload_n 0, 1) := by decide +kernel
theorem dX11_hearth_6 : decode cX11_hearth 6 = .ok (.getfield 19, 3) := by decide +kernel
theorem dX11_hearth_9 : decode cX11_hearth 9 = .ok (.getfield 176, 3) := by decide +kernel
theorem dX11_hearth_12 : decode cX11_hearth 12 = .ok (.iload_n 1, 1) := by decide +kernel
theorem dX11_hearth_13 : decode cX11_hearth 13 = .ok (.aaload, 1) := by decide +kernel
theorem dX11_hearth_14 : decode cX11_hearth 14 = .ok (.astore_n 3, 1) := by decide +kernel
theorem dX11_hearth_15 : decode cX11_hearth 15 = .ok (.iload_n 2, 1) := by decide +kernel
theorem dX11_hearth_16 : decode cX11_hearth 16 = .ok (.tableswitch 96 0 7 #[48, 53, 58, 63, 68, 73, 78, 87], 48) := by decide +kernel
theorem dX11_hearth_64 : decode cX11_hearth 64 = .ok (.aload_n 3, 1) := by decide +kernel
theorem dX11_hearth_65 : decode cX11_hearth 65 = .ok (.getfield 180, 3) := by decide +kernel
theorem dX11_hearth_68 : decode cX11_hearth 68 = .ok (.ireturn, 1) := by decide +kernel
theorem dX11_hearth_69 : decode cX11_hearth 69 = .ok (.aload_n 3, 1) := by decide +kernel
theorem dX11_hearth_70 : decode cX11_hearth 70 = .ok (.getfield 185, 3) := by decide +kernel
theorem dX11_hearth_73 : decode cX11_hearth 73 = .ok (.ireturn, 1) := by decide +kernel
theorem dX11_hearth_74 : decode cX11_hearth 74 = .ok (.aload_n 3, 1) := by decide +kernel
theorem dX11_hearth_75 : decode cX11_hearth 75 = .ok (.getfield 188, 3) := by decide +kernel
theorem dX11_hearth_78 : decode cX11_hearth 78 = .ok (.ireturn, 1) := by decide +kernel
theorem dX11_hearth_79 : decode cX11_hearth 79 = .ok (.aload_n 3, 1) := by decide +kernel
theorem dX11_hearth_80 : decode cX11_hearth 80 = .ok (.getfield 191, 3) := by decide +kernel
theorem dX11_hearth_83 : decode cX11_hearth 83 = .ok (.ireturn, 1) := by decide +kernel
theorem dX11_hearth_84 : decode cX11_hearth 84 = .ok (.aload_n 3, 1) := by decide +kernel
theorem dX11_hearth_85 : decode cX11_hearth 85 = .ok (.getfield 194, 3) := by decide +kernel
theorem dX11_hearth_88 : decode cX11_hearth 88 = .ok (.ireturn, 1) := by decide +kernel
theorem dX11_hearth_89 : decode cX11_hearth 89 = .ok (.aload_n 3, 1) := by decide +kernel
theorem dX11_hearth_90 : decode cX11_hearth 90 = .ok (.getfield 197, 3) := by decide +kernel
theorem dX11_hearth_93 : decode cX11_hearth 93 = .ok (.ireturn, 1) := by decide +kernel
theorem dX11_hearth_94 : decode cX11_hearth 94 = .ok (.aload_n 0, 1) := by decide +kernel
theorem dX11_hearth_95 : decode cX11_hearth 95 = .ok (.getfield 19, 3) := by decide +kernel
theorem dX11_hearth_98 : decode cX11_hearth 98 = .ok (.iload_n 1, 1) := by decide +kernel
theorem dX11_hearth_99 : decode cX11_hearth 99 = .ok (.invokevirtual 200, 3) := by decide +kernel
theorem dX11_hearth_102 : decode cX11_hearth 102 = .ok (.ireturn, 1) := by decide +kernel
theorem dX11_hearth_103 : decode cX11_hearth 103 = .ok (.aload_n 0, 1) := by decide +kernel
theorem dX11_hearth_104 : decode cX11_hearth 104 = .ok (.getfield 19, 3) := by decide +kernel
theorem dX11_hearth_107 : decode cX11_hearth 107 = .ok (.iload_n 1, 1) := by decide +kernel
theorem dX11_hearth_108 : decode cX11_hearth 108 = .ok (.invokevirtual 203, 3) := by decide +kernel
theorem dX11_hearth_111 : decode cX11_hearth 111 = .ok (.ireturn, 1) := by decide +kernel
theorem dX11_hearth_112 : decode cX11_hearth 112 = .ok (.new 168, 3) := by decide +kernel
theorem dX11_hearth_115 : decode cX11_hearth 115 = .ok (.dup, 1) := by decide +kernel
theorem dX11_hearth_116 : decode cX11_hearth 116 = .ok (.ldc 206, 2) := by decide +kernel
theorem dX11_hearth_118 : decode cX11_hearth 118 = .ok (.invokespecial 172, 3) := by decide +kernel
theorem dX11_hearth_121 : decode cX11_hearth 121 = .ok (.athrow, 1) := by decide +kernel
theorem dX11_wall_0 : decode cX11_wall 0 = .ok (.aload_n 0, 1) := by decide +kernel
theorem dX11_wall_1 : decode cX11_wall 1 = .ok (.iload_n 1, 1) := by decide +kernel
theorem dX11_wall_2 : decode cX11_wall 2 = .ok (.invokevirtual 173, 3) := by decide +kernel
theorem dX11_wall_5 : decode cX11_wall 5 = .ok (.aload_n 0, 1) := by decide +kernel
theorem dX11_wall_6 : decode cX11_wall 6 = .ok (.getfield 19, 3) := by decide +kernel
theorem dX11_wall_9 : decode cX11_wall 9 = .ok (.getfield 176, 3) := by decide +kernel
theorem dX11_wall_12 : decode cX11_wall 12 = .ok (.iload_n 1, 1) := by decide +kernel
theorem dX11_wall_13 : decode cX11_wall 13 = .ok (.aaload, 1) := by decide +kernel
theorem dX11_wall_14 : decode cX11_wall 14 = .ok (.astore_n 2, 1) := by decide +kernel
theorem dX11_wall_15 : decode cX11_wall 15 = .ok (.aload_n 0, 1) := by decide +kernel
theorem dX11_wall_16 : decode cX11_wall 16 = .ok (.getfield 19, 3) := by decide +kernel
theorem dX11_wall_19 : decode cX11_wall 19 = .ok (.getfield 128, 3) := by decide +kernel
theorem dX11_wall_22 : decode cX11_wall 22 = .ok (.aload_n 2, 1) := by decide +kernel
theorem dX11_wall_23 : decode cX11_wall 23 = .ok (.getfield 180, 3) := by decide +kernel
theorem dX11_wall_26 : decode cX11_wall 26 = .ok (.aaload, 1) := by decide +kernel
theorem dX11_wall_27 : decode cX11_wall 27 = .ok (.astore_n 3, 1) := by decide +kernel
theorem dX11_wall_28 : decode cX11_wall 28 = .ok (.aload_n 2, 1) := by decide +kernel
theorem dX11_wall_29 : decode cX11_wall 29 = .ok (.getfield 197, 3) := by decide +kernel
theorem dX11_wall_32 : decode cX11_wall 32 = .ok (.iconst 1, 1) := by decide +kernel
theorem dX11_wall_33 : decode cX11_wall 33 = .ok (.if_icmp .eq 14, 3) := by decide +kernel
theorem dX11_wall_36 : decode cX11_wall 36 = .ok (.aload_n 3, 1) := by decide +kernel
theorem dX11_wall_37 : decode cX11_wall 37 = .ok (.getfield 132, 3) := by decide +kernel
theorem dX11_wall_40 : decode cX11_wall 40 = .ok (.aload_n 2, 1) := by decide +kernel
theorem dX11_wall_41 : decode cX11_wall 41 = .ok (.getfield 194, 3) := by decide +kernel
theorem dX11_wall_44 : decode cX11_wall 44 = .ok (.if_icmp .ge 13, 3) := by decide +kernel
theorem dX11_wall_47 : decode cX11_wall 47 = .ok (.new 208, 3) := by decide +kernel
theorem dX11_wall_50 : decode cX11_wall 50 = .ok (.dup, 1) := by decide +kernel
theorem dX11_wall_51 : decode cX11_wall 51 = .ok (.ldc 210, 2) := by decide +kernel
theorem dX11_wall_53 : decode cX11_wall 53 = .ok (.invokespecial 212, 3) := by decide +kernel
theorem dX11_wall_56 : decode cX11_wall 56 = .ok (.athrow, 1) := by decide +kernel
theorem dX11_wall_57 : decode cX11_wall 57 = .ok (.aload_n 0, 1) := by decide +kernel
theorem dX11_wall_58 : decode cX11_wall 58 = .ok (.getfield 32, 3) := by decide +kernel
theorem dX11_wall_61 : decode cX11_wall 61 = .ok (.aload_n 0, 1) := by decide +kernel
theorem dX11_wall_62 : decode cX11_wall 62 = .ok (.getfield 19, 3) := by decide +kernel
theorem dX11_wall_65 : decode cX11_wall 65 = .ok (.invokevirtual 213, 3) := by decide +kernel
theorem dX11_wall_68 : decode cX11_wall 68 = .ok (.aload_n 2, 1) := by decide +kernel
theorem dX11_wall_69 : decode cX11_wall 69 = .ok (.iconst 1, 1) := by decide +kernel
theorem dX11_wall_70 : decode cX11_wall 70 = .ok (.putfield 197, 3) := by decide +kernel
theorem dX11_wall_73 : decode cX11_wall 73 = .ok (.aload_n 3, 1) := by decide +kernel
theorem dX11_wall_74 : decode cX11_wall 74 = .ok (.dup, 1) := by decide +kernel
theorem dX11_wall_75 : decode cX11_wall 75 = .ok (.getfield 132, 3) := by decide +kernel
theorem dX11_wall_78 : decode cX11_wall 78 = .ok (.aload_n 2, 1) := by decide +kernel
theorem dX11_wall_79 : decode cX11_wall 79 = .ok (.getfield 194, 3) := by decide +kernel
theorem dX11_wall_82 : decode cX11_wall 82 = .ok (.isub, 1) := by decide +kernel
theorem dX11_wall_83 : decode cX11_wall 83 = .ok (.putfield 132, 3) := by decide +kernel
theorem dX11_wall_86 : decode cX11_wall 86 = .ok (.aload_n 3, 1) := by decide +kernel
theorem dX11_wall_87 : decode cX11_wall 87 = .ok (.getfield 132, 3) := by decide +kernel
theorem dX11_wall_90 : decode cX11_wall 90 = .ok (.ireturn, 1) := by decide +kernel
theorem dX11_open_0 : decode cX11_open 0 = .ok (.aload_n 0, 1) := by decide +kernel
theorem dX11_open_1 : decode cX11_open 1 = .ok (.iload_n 1, 1) := by decide +kernel
theorem dX11_open_2 : decode cX11_open 2 = .ok (.invokevirtual 173, 3) := by decide +kernel
theorem dX11_open_5 : decode cX11_open 5 = .ok (.aload_n 0, 1) := by decide +kernel
theorem dX11_open_6 : decode cX11_open 6 = .ok (.getfield 19, 3) := by decide +kernel
theorem dX11_open_9 : decode cX11_open 9 = .ok (.getfield 176, 3) := by decide +kernel
theorem dX11_open_12 : decode cX11_open 12 = .ok (.iload_n 1, 1) := by decide +kernel
theorem dX11_open_13 : decode cX11_open 13 = .ok (.aaload, 1) := by decide +kernel
theorem dX11_open_14 : decode cX11_open 14 = .ok (.astore_n 2, 1) := by decide +kernel
theorem dX11_open_15 : decode cX11_open 15 = .ok (.aload_n 2, 1) := by decide +kernel
theorem dX11_open_16 : decode cX11_open 16 = .ok (.getfield 197, 3) := by decide +kernel
theorem dX11_open_19 : decode cX11_open 19 = .ok (.ifCond .ne 13, 3) := by decide +kernel
theorem dX11_open_22 : decode cX11_open 22 = .ok (.new 208, 3) := by decide +kernel
theorem dX11_open_25 : decode cX11_open 25 = .ok (.dup, 1) := by decide +kernel
theorem dX11_open_26 : decode cX11_open 26 = .ok (.ldc 216, 2) := by decide +kernel
theorem dX11_open_28 : decode cX11_open 28 = .ok (.invokespecial 212, 3) := by decide +kernel
theorem dX11_open_31 : decode cX11_open 31 = .ok (.athrow, 1) := by decide +kernel
theorem dX11_open_32 : decode cX11_open 32 = .ok (.aload_n 0, 1) := by decide +kernel
theorem dX11_open_33 : decode cX11_open 33 = .ok (.getfield 32, 3) := by decide +kernel
theorem dX11_open_36 : decode cX11_open 36 = .ok (.aload_n 0, 1) := by decide +kernel
theorem dX11_open_37 : decode cX11_open 37 = .ok (.getfield 19, 3) := by decide +kernel
theorem dX11_open_40 : decode cX11_open 40 = .ok (.invokevirtual 213, 3) := by decide +kernel
theorem dX11_open_43 : decode cX11_open 43 = .ok (.aload_n 2, 1) := by decide +kernel
theorem dX11_open_44 : decode cX11_open 44 = .ok (.getfield 197, 3) := by decide +kernel
theorem dX11_open_47 : decode cX11_open 47 = .ok (.istore_n 3, 1) := by decide +kernel
theorem dX11_open_48 : decode cX11_open 48 = .ok (.aload_n 2, 1) := by decide +kernel
theorem dX11_open_49 : decode cX11_open 49 = .ok (.iconst 0, 1) := by decide +kernel
theorem dX11_open_50 : decode cX11_open 50 = .ok (.putfield 197, 3) := by decide +kernel
theorem dX11_open_53 : decode cX11_open 53 = .ok (.iload_n 3, 1) := by decide +kernel
theorem dX11_open_54 : decode cX11_open 54 = .ok (.ireturn, 1) := by decide +kernel
theorem dX11_hide_0 : decode cX11_hide 0 = .ok (.aload_n 0, 1) := by decide +kernel
theorem dX11_hide_1 : decode cX11_hide 1 = .ok (.iload_n 1, 1) := by decide +kernel
theorem dX11_hide_2 : decode cX11_hide 2 = .ok (.invokevirtual 173, 3) := by decide +kernel
theorem dX11_hide_5 : decode cX11_hide 5 = .ok (.aload_n 0, 1) := by decide +kernel
theorem dX11_hide_6 : decode cX11_hide 6 = .ok (.getfield 19, 3) := by decide +kernel
theorem dX11_hide_9 : decode cX11_hide 9 = .ok (.getfield 176, 3) := by decide +kernel
theorem dX11_hide_12 : decode cX11_hide 12 = .ok (.iload_n 1, 1) := by decide +kernel
theorem dX11_hide_13 : decode cX11_hide 13 = .ok (.aaload, 1) := by decide +kernel
theorem dX11_hide_14 : decode cX11_hide 14 = .ok (.astore_n 2, 1) := by decide +kernel
theorem dX11_hide_15 : decode cX11_hide 15 = .ok (.aload_n 0, 1) := by decide +kernel
theorem dX11_hide_16 : decode cX11_hide 16 = .ok (.getfield 19, 3) := by decide +kernel
theorem dX11_hide_19 : decode cX11_hide 19 = .ok (.getfield 128, 3) := by decide +kernel
theorem dX11_hide_22 : decode cX11_hide 22 = .ok (.aload_n 2, 1) := by decide +kernel
theorem dX11_hide_23 : decode cX11_hide 23 = .ok (.getfield 180, 3) := by decide +kernel
theorem dX11_hide_26 : decode cX11_hide 26 = .ok (.aaload, 1) := by decide +kernel
theorem dX11_hide_27 : decode cX11_hide 27 = .ok (.astore_n 3, 1) := by decide +kernel
theorem dX11_hide_28 : decode cX11_hide 28 = .ok (.aload_n 2, 1) := by decide +kernel
theorem dX11_hide_29 : decode cX11_hide 29 = .ok (.getfield 197, 3) := by decide +kernel
theorem dX11_hide_32 : decode cX11_hide 32 = .ok (.ifCond .ne 17, 3) := by decide +kernel
theorem dX11_hide_35 : decode cX11_hide 35 = .ok (.aload_n 3, 1) := by decide +kernel
theorem dX11_hide_36 : decode cX11_hide 36 = .ok (.getfield 132, 3) := by decide +kernel
theorem dX11_hide_39 : decode cX11_hide 39 = .ok (.aload_n 0, 1) := by decide +kernel
theorem dX11_hide_40 : decode cX11_hide 40 = .ok (.getfield 19, 3) := by decide +kernel
theorem dX11_hide_43 : decode cX11_hide 43 = .ok (.getfield 218, 3) := by decide +kernel
theorem dX11_hide_46 : decode cX11_hide 46 = .ok (.if_icmp .ge 13, 3) := by decide +kernel
theorem dX11_hide_49 : decode cX11_hide 49 = .ok (.new 208, 3) := by decide +kernel
theorem dX11_hide_52 : decode cX11_hide 52 = .ok (.dup, 1) := by decide +kernel
theorem dX11_hide_53 : decode cX11_hide 53 = .ok (.ldc 221, 2) := by decide +kernel
theorem dX11_hide_55 : decode cX11_hide 55 = .ok (.invokespecial 212, 3) := by decide +kernel
theorem dX11_hide_58 : decode cX11_hide 58 = .ok (.athrow, 1) := by decide +kernel
theorem dX11_hide_59 : decode cX11_hide 59 = .ok (.aload_n 0, 1) := by decide +kernel
theorem dX11_hide_60 : decode cX11_hide 60 = .ok (.getfield 32, 3) := by decide +kernel
theorem dX11_hide_63 : decode cX11_hide 63 = .ok (.aload_n 0, 1) := by decide +kernel
theorem dX11_hide_64 : decode cX11_hide 64 = .ok (.getfield 19, 3) := by decide +kernel
theorem dX11_hide_67 : decode cX11_hide 67 = .ok (.invokevirtual 213, 3) := by decide +kernel
theorem dX11_hide_70 : decode cX11_hide 70 = .ok (.aload_n 2, 1) := by decide +kernel
theorem dX11_hide_71 : decode cX11_hide 71 = .ok (.iconst 2, 1) := by decide +kernel
theorem dX11_hide_72 : decode cX11_hide 72 = .ok (.putfield 197, 3) := by decide +kernel
theorem dX11_hide_75 : decode cX11_hide 75 = .ok (.aload_n 3, 1) := by decide +kernel
theorem dX11_hide_76 : decode cX11_hide 76 = .ok (.dup, 1) := by decide +kernel
theorem dX11_hide_77 : decode cX11_hide 77 = .ok (.getfield 132, 3) := by decide +kernel
theorem dX11_hide_80 : decode cX11_hide 80 = .ok (.aload_n 0, 1) := by decide +kernel
theorem dX11_hide_81 : decode cX11_hide 81 = .ok (.getfield 19, 3) := by decide +kernel
theorem dX11_hide_84 : decode cX11_hide 84 = .ok (.getfield 218, 3) := by decide +kernel
theorem dX11_hide_87 : decode cX11_hide 87 = .ok (.isub, 1) := by decide +kernel
theorem dX11_hide_88 : decode cX11_hide 88 = .ok (.putfield 132, 3) := by decide +kernel
theorem dX11_hide_91 : decode cX11_hide 91 = .ok (.aload_n 3, 1) := by decide +kernel
theorem dX11_hide_92 : decode cX11_hide 92 = .ok (.getfield 132, 3) := by decide +kernel
theorem dX11_hide_95 : decode cX11_hide 95 = .ok (.ireturn, 1) := by decide +kernel
theorem dX11_paper_0 : decode cX11_paper 0 = .ok (.aload_n 0, 1) := by decide +kernel
theorem dX11_paper_1 : decode cX11_paper 1 = .ok (.iload_n 1, 1) := by decide +kernel
theorem dX11_paper_2 : decode cX11_paper 2 = .ok (.invokevirtual 125, 3) := by decide +kernel
theorem dX11_paper_5 : decode cX11_paper 5 = .ok (.aload_n 0, 1) := by decide +kernel
theorem dX11_paper_6 : decode cX11_paper 6 = .ok (.getfield 19, 3) := by decide +kernel
theorem dX11_paper_9 : decode cX11_paper 9 = .ok (.getfield 128, 3) := by decide +kernel
theorem dX11_paper_12 : decode cX11_paper 12 = .ok (.iload_n 1, 1) := by decide +kernel
theorem dX11_paper_13 : decode cX11_paper 13 = .ok (.aaload, 1) := by decide +kernel
theorem dX11_paper_14 : decode cX11_paper 14 = .ok (.astore_n 3, 1) := by decide +kernel
theorem dX11_paper_15 : decode cX11_paper 15 = .ok (.aload_n 3, 1) := by decide +kernel
theorem dX11_paper_16 : decode cX11_paper 16 = .ok (.getfield 137, 3) := by decide +kernel
theorem dX11_paper_19 : decode cX11_paper 19 = .ok (.iload_n 2, 1) := by decide +kernel
theorem dX11_paper_20 : decode cX11_paper 20 = .ok (.if_icmp .ne 5, 3) := by decide +kernel
theorem dX11_paper_23 : decode cX11_paper 23 = .ok (.iconst 0, 1) := by decide +kernel
theorem dX11_paper_24 : decode cX11_paper 24 = .ok (.ireturn, 1) := by decide +kernel
theorem dX11_paper_25 : decode cX11_paper 25 = .ok (.aload_n 0, 1) := by decide +kernel
theorem dX11_paper_26 : decode cX11_paper 26 = .ok (.getfield 32, 3) := by decide +kernel
theorem dX11_paper_29 : decode cX11_paper 29 = .ok (.aload_n 0, 1) := by decide +kernel
theorem dX11_paper_30 : decode cX11_paper 30 = .ok (.getfield 19, 3) := by decide +kernel
theorem dX11_paper_33 : decode cX11_paper 33 = .ok (.invokevirtual 213, 3) := by decide +kernel
theorem dX11_paper_36 : decode cX11_paper 36 = .ok (.aload_n 3, 1) := by decide +kernel
theorem dX11_paper_37 : decode cX11_paper 37 = .ok (.iload_n 2, 1) := by decide +kernel
theorem dX11_paper_38 : decode cX11_paper 38 = .ok (.putfield 137, 3) := by decide +kernel
theorem dX11_paper_41 : decode cX11_paper 41 = .ok (.iconst 1, 1) := by decide +kernel
theorem dX11_paper_42 : decode cX11_paper 42 = .ok (.ireturn, 1) := by decide +kernel
theorem dX11_flue_0 : decode cX11_flue 0 = .ok (.aload_n 0, 1) := by decide +kernel
theorem dX11_flue_1 : decode cX11_flue 1 = .ok (.iload_n 1, 1) := by decide +kernel
theorem dX11_flue_2 : decode cX11_flue 2 = .ok (.invokevirtual 173, 3) := by decide +kernel
theorem dX11_flue_5 : decode cX11_flue 5 = .ok (.iload_n 2, 1) := by decide +kernel
theorem dX11_flue_6 : decode cX11_flue 6 = .ok (.ifCond .lt 9, 3) := by decide +kernel
theorem dX11_flue_9 : decode cX11_flue 9 = .ok (.iload_n 2, 1) := by decide +kernel
theorem dX11_flue_10 : decode cX11_flue 10 = .ok (.bipush 10, 2) := by decide +kernel
theorem dX11_flue_12 : decode cX11_flue 12 = .ok (.if_icmp .lt 13, 3) := by decide +kernel
theorem dX11_flue_15 : decode cX11_flue 15 = .ok (.new 223, 3) := by decide +kernel
theorem dX11_flue_18 : decode cX11_flue 18 = .ok (.dup, 1) := by decide +kernel
theorem dX11_flue_19 : decode cX11_flue 19 = .ok (.ldc 225, 2) := by decide +kernel
theorem dX11_flue_21 : decode cX11_flue 21 = .ok (.invokespecial 227, 3) := by decide +kernel
theorem dX11_flue_24 : decode cX11_flue 24 = .ok (.athrow, 1) := by decide +kernel
theorem dX11_flue_25 : decode cX11_flue 25 = .ok (.aload_n 0, 1) := by decide +kernel
theorem dX11_flue_26 : decode cX11_flue 26 = .ok (.getfield 32, 3) := by decide +kernel
theorem dX11_flue_29 : decode cX11_flue 29 = .ok (.aload_n 0, 1) := by decide +kernel
theorem dX11_flue_30 : decode cX11_flue 30 = .ok (.getfield 19, 3) := by decide +kernel
theorem dX11_flue_33 : decode cX11_flue 33 = .ok (.invokevirtual 213, 3) := by decide +kernel
theorem dX11_flue_36 : decode cX11_flue 36 = .ok (.aload_n 0, 1) := by decide +kernel
theorem dX11_flue_37 : decode cX11_flue 37 = .ok (.getfield 19, 3) := by decide +kernel
theorem dX11_flue_40 : decode cX11_flue 40 = .ok (.getfield 176, 3) := by decide +kernel
theorem dX11_flue_43 : decode cX11_flue 43 = .ok (.iload_n 1, 1) := by decide +kernel
theorem dX11_flue_44 : decode cX11_flue 44 = .ok (.aaload, 1) := by decide +kernel
theorem dX11_flue_45 : decode cX11_flue 45 = .ok (.astore_n 3, 1) := by decide +kernel
theorem dX11_flue_46 : decode cX11_flue 46 = .ok (.aload_n 3, 1) := by decide +kernel
theorem dX11_flue_47 : decode cX11_flue 47 = .ok (.getfield 188, 3) := by decide +kernel
theorem dX11_flue_50 : decode cX11_flue 50 = .ok (.istore 4, 2) := by decide +kernel
theorem dX11_flue_52 : decode cX11_flue 52 = .ok (.aload_n 3, 1) := by decide +kernel
theorem dX11_flue_53 : decode cX11_flue 53 = .ok (.iload_n 2, 1) := by decide +kernel
theorem dX11_flue_54 : decode cX11_flue 54 = .ok (.putfield 188, 3) := by decide +kernel
theorem dX11_flue_57 : decode cX11_flue 57 = .ok (.iload 4, 2) := by decide +kernel
theorem dX11_flue_59 : decode cX11_flue 59 = .ok (.ireturn, 1) := by decide +kernel
theorem dX11_rate_0 : decode cX11_rate 0 = .ok (.aload_n 0, 1) := by decide +kernel
theorem dX11_rate_1 : decode cX11_rate 1 = .ok (.iload_n 1, 1) := by decide +kernel
theorem dX11_rate_2 : decode cX11_rate 2 = .ok (.iconst 0, 1) := by decide +kernel
theorem dX11_rate_3 : decode cX11_rate 3 = .ok (.bipush 20, 2) := by decide +kernel
theorem dX11_rate_5 : decode cX11_rate 5 = .ok (.invokevirtual 228, 3) := by decide +kernel
theorem dX11_rate_8 : decode cX11_rate 8 = .ok (.aload_n 0, 1) := by decide +kernel
theorem dX11_rate_9 : decode cX11_rate 9 = .ok (.getfield 32, 3) := by decide +kernel
theorem dX11_rate_12 : decode cX11_rate 12 = .ok (.aload_n 0, 1) := by decide +kernel
theorem dX11_rate_13 : decode cX11_rate 13 = .ok (.getfield 19, 3) := by decide +kernel
theorem dX11_rate_16 : decode cX11_rate 16 = .ok (.invokevirtual 213, 3) := by decide +kernel
theorem dX11_rate_19 : decode cX11_rate 19 = .ok (.aload_n 0, 1) := by decide +kernel
theorem dX11_rate_20 : decode cX11_rate 20 = .ok (.getfield 19, 3) := by decide +kernel
theorem dX11_rate_23 : decode cX11_rate 23 = .ok (.getfield 232, 3) := by decide +kernel
theorem dX11_rate_26 : decode cX11_rate 26 = .ok (.istore_n 2, 1) := by decide +kernel
theorem dX11_rate_27 : decode cX11_rate 27 = .ok (.aload_n 0, 1) := by decide +kernel
theorem dX11_rate_28 : decode cX11_rate 28 = .ok (.getfield 19, 3) := by decide +kernel
theorem dX11_rate_31 : decode cX11_rate 31 = .ok (.iload_n 1, 1) := by decide +kernel
theorem dX11_rate_32 : decode cX11_rate 32 = .ok (.putfield 232, 3) := by decide +kernel
theorem dX11_rate_35 : decode cX11_rate 35 = .ok (.iload_n 2, 1) := by decide +kernel
theorem dX11_rate_36 : decode cX11_rate 36 = .ok (.ireturn, 1) := by decide +kernel
theorem dX11_give_0 : decode cX11_give 0 = .ok (.aload_n 0, 1) := by decide +kernel
theorem dX11_give_1 : decode cX11_give 1 = .ok (.iload_n 1, 1) := by decide +kernel
theorem dX11_give_2 : decode cX11_give 2 = .ok (.invokevirtual 125, 3) := by decide +kernel
theorem dX11_give_5 : decode cX11_give 5 = .ok (.aload_n 0, 1) := by decide +kernel
theorem dX11_give_6 : decode cX11_give 6 = .ok (.iload_n 2, 1) := by decide +kernel
theorem dX11_give_7 : decode cX11_give 7 = .ok (.iconst 1, 1) := by decide +kernel
theorem dX11_give_8 : decode cX11_give 8 = .ok (.sipush 999, 3) := by decide +kernel
theorem dX11_give_11 : decode cX11_give 11 = .ok (.invokevirtual 228, 3) := by decide +kernel
theorem dX11_give_14 : decode cX11_give 14 = .ok (.aload_n 0, 1) := by decide +kernel
theorem dX11_give_15 : decode cX11_give 15 = .ok (.getfield 32, 3) := by decide +kernel
theorem dX11_give_18 : decode cX11_give 18 = .ok (.aload_n 0, 1) := by decide +kernel
theorem dX11_give_19 : decode cX11_give 19 = .ok (.getfield 19, 3) := by decide +kernel
theorem dX11_give_22 : decode cX11_give 22 = .ok (.invokevirtual 213, 3) := by decide +kernel
theorem dX11_give_25 : decode cX11_give 25 = .ok (.aload_n 0, 1) := by decide +kernel
theorem dX11_give_26 : decode cX11_give 26 = .ok (.getfield 19, 3) := by decide +kernel
theorem dX11_give_29 : decode cX11_give 29 = .ok (.getfield 128, 3) := by decide +kernel
theorem dX11_give_32 : decode cX11_give 32 = .ok (.iload_n 1, 1) := by decide +kernel
theorem dX11_give_33 : decode cX11_give 33 = .ok (.aaload, 1) := by decide +kernel
theorem dX11_give_34 : decode cX11_give 34 = .ok (.astore_n 3, 1) := by decide +kernel
theorem dX11_give_35 : decode cX11_give 35 = .ok (.aload_n 3, 1) := by decide +kernel
theorem dX11_give_36 : decode cX11_give 36 = .ok (.sipush 9999, 3) := by decide +kernel
theorem dX11_give_39 : decode cX11_give 39 = .ok (.aload_n 3, 1) := by decide +kernel
theorem dX11_give_40 : decode cX11_give 40 = .ok (.getfield 132, 3) := by decide +kernel
theorem dX11_give_43 : decode cX11_give 43 = .ok (.iload_n 2, 1) := by decide +kernel
theorem dX11_give_44 : decode cX11_give 44 = .ok (.iadd, 1) := by decide +kernel
theorem dX11_give_45 : decode cX11_give 45 = .ok (.invokestatic 235, 3) := by decide +kernel
theorem dX11_give_48 : decode cX11_give 48 = .ok (.putfield 132, 3) := by decide +kernel
theorem dX11_give_51 : decode cX11_give 51 = .ok (.aload_n 3, 1) := by decide +kernel
theorem dX11_give_52 : decode cX11_give 52 = .ok (.getfield 132, 3) := by decide +kernel
theorem dX11_give_55 : decode cX11_give 55 = .ok (.ireturn, 1) := by decide +kernel
theorem dX11_quarters_0 : decode cX11_quarters 0 = .ok (.aload_n 0, 1) := by decide +kernel
theorem dX11_quarters_1 : decode cX11_quarters 1 = .ok (.iload_n 1, 1) := by decide +kernel
theorem dX11_quarters_2 : decode cX11_quarters 2 = .ok (.iconst 1, 1) := by decide +kernel
theorem dX11_quarters_3 : decode cX11_quarters 3 = .ok (.bipush 60, 2) := by decide +kernel
theorem dX11_quarters_5 : decode cX11_quarters 5 = .ok (.invokevirtual 228, 3) := by decide +kernel
theorem dX11_quarters_8 : decode cX11_quarters 8 = .ok (.aload_n 0, 1) := by decide +kernel
theorem dX11_quarters_9 : decode cX11_quarters 9 = .ok (.getfield 32, 3) := by decide +kernel
theorem dX11_quarters_12 : decode cX11_quarters 12 = .ok (.aload_n 0, 1) := by decide +kernel
theorem dX11_quarters_13 : decode cX11_quarters 13 = .ok (.getfield 19, 3) := by decide +kernel
theorem dX11_quarters_16 : decode cX11_quarters 16 = .ok (.invokevirtual 213, 3) := by decide +kernel
theorem dX11_quarters_19 : decode cX11_quarters 19 = .ok (.iconst 0, 1) := by decide +kernel
theorem dX11_quarters_20 : decode cX11_quarters 20 = .ok (.istore_n 2, 1) := by decide +kernel
theorem dX11_quarters_21 : decode cX11_quarters 21 = .ok (.iconst 0, 1) := by decide +kernel
theorem dX11_quarters_22 : decode cX11_quarters 22 = .ok (.istore_n 3, 1) := by decide +kernel
theorem dX11_quarters_23 : decode cX11_quarters 23 = .ok (.iload_n 3, 1) := by decide +kernel
theorem dX11_quarters_24 : decode cX11_quarters 24 = .ok (.iload_n 1, 1) := by decide +kernel
theorem dX11_quarters_25 : decode cX11_quarters 25 = .ok (.if_icmp .ge 20, 3) := by decide +kernel
theorem dX11_quarters_28 : decode cX11_quarters 28 = .ok (.iload_n 2, 1) := by decide +kernel
theorem dX11_quarters_29 : decode cX11_quarters 29 = .ok (.aload_n 0, 1) := by decide +kernel
theorem dX11_quarters_30 : decode cX11_quarters 30 = .ok (.getfield 19, 3) := by decide +kernel
theorem dX11_quarters_33 : decode cX11_quarters 33 = .ok (.iconst 1, 1) := by decide +kernel
theorem dX11_quarters_34 : decode cX11_quarters 34 = .ok (.invokevirtual 241, 3) := by decide +kernel
theorem dX11_quarters_37 : decode cX11_quarters 37 = .ok (.iadd, 1) := by decide +kernel
theorem dX11_quarters_38 : decode cX11_quarters 38 = .ok (.istore_n 2, 1) := by decide +kernel
theorem dX11_quarters_39 : decode cX11_quarters 39 = .ok (.iinc 3 1, 3) := by decide +kernel
theorem dX11_quarters_42 : decode cX11_quarters 42 = .ok (.goto (-19), 3) := by decide +kernel
theorem dX11_quarters_45 : decode cX11_quarters 45 = .ok (.iload_n 2, 1) := by decide +kernel
theorem dX11_quarters_46 : decode cX11_quarters 46 = .ok (.ireturn, 1) := by decide +kernel
theorem dX11_stacks_0 : decode cX11_stacks 0 = .ok (.iload_n 1, 1) := by decide +kernel
theorem dX11_stacks_1 : decode cX11_stacks 1 = .ok (.ifCond .lt 8, 3) := by decide +kernel
theorem dX11_stacks_4 : decode cX11_stacks 4 = .ok (.iload_n 1, 1) := by decide +kernel
theorem dX11_stacks_5 : decode cX11_stacks 5 = .ok (.iconst 5, 1) := by decide +kernel
theorem dX11_stacks_6 : decode cX11_stacks 6 = .ok (.if_icmp .lt 13, 3) := by decide +kernel
theorem dX11_stacks_9 : decode cX11_stacks 9 = .ok (.new 223, 3) := by decide +kernel
theorem dX11_stacks_12 : decode cX11_stacks 12 = .ok (.dup, 1) := by decide +kernel
theorem dX11_stacks_13 : decode cX11_stacks 13 = .ok (.ldc 245, 2) := by decide +kernel
theorem dX11_stacks_15 : decode cX11_stacks 15 = .ok (.invokespecial 227, 3) := by decide +kernel
theorem dX11_stacks_18 : decode cX11_stacks 18 = .ok (.athrow, 1) := by decide +kernel
theorem dX11_stacks_19 : decode cX11_stacks 19 = .ok (.iconst 0, 1) := by decide +kernel
theorem dX11_stacks_20 : decode cX11_stacks 20 = .ok (.istore_n 2, 1) := by decide +kernel
theorem dX11_stacks_21 : decode cX11_stacks 21 = .ok (.iconst 0, 1) := by decide +kernel
theorem dX11_stacks_22 : decode cX11_stacks 22 = .ok (.istore_n 3, 1) := by decide +kernel
theorem dX11_stacks_23 : decode cX11_stacks 23 = .ok (.iload_n 3, 1) := by decide +kernel
theorem dX11_stacks_24 : decode cX11_stacks 24 = .ok (.aload_n 0, 1) := by decide +kernel
theorem dX11_stacks_25 : decode cX11_stacks 25 = .ok (.getfield 19, 3) := by decide +kernel
theorem dX11_stacks_28 : decode cX11_stacks 28 = .ok (.getfield 247, 3) := by decide +kernel
theorem dX11_stacks_31 : decode cX11_stacks 31 = .ok (.if_icmp .ge 43, 3) := by decide +kernel
theorem dX11_stacks_34 : decode cX11_stacks 34 = .ok (.aload_n 0, 1) := by decide +kernel
theorem dX11_stacks_35 : decode cX11_stacks 35 = .ok (.getfield 19, 3) := by decide +kernel
theorem dX11_stacks_38 : decode cX11_stacks 38 = .ok (.getfield 128, 3) := by decide +kernel
theorem dX11_stacks_41 : decode cX11_stacks 41 = .ok (.iload_n 3, 1) := by decide +kernel
theorem dX11_stacks_42 : decode cX11_stacks 42 = .ok (.aaload, 1) := by decide +kernel
theorem dX11_stacks_43 : decode cX11_stacks 43 = .ok (.getfield 143, 3) := by decide +kernel
theorem dX11_stacks_46 : decode cX11_stacks 46 = .ok (.iload_n 1, 1) := by decide +kernel
theorem dX11_stacks_47 : decode cX11_stacks 47 = .ok (.ishr, 1) := by decide +kernel
theorem dX11_stacks_48 : decode cX11_stacks 48 = .ok (.iconst 1, 1) := by decide +kernel
theorem dX11_stacks_49 : decode cX11_stacks 49 = .ok (.iand, 1) := by decide +kernel
theorem dX11_stacks_50 : decode cX11_stacks 50 = .ok (.iconst 1, 1) := by decide +kernel
theorem dX11_stacks_51 : decode cX11_stacks 51 = .ok (.if_icmp .ne 17, 3) := by decide +kernel
theorem dX11_stacks_54 : decode cX11_stacks 54 = .ok (.iload_n 2, 1) := by decide +kernel
theorem dX11_stacks_55 : decode cX11_stacks 55 = .ok (.aload_n 0, 1) := by decide +kernel
theorem dX11_stacks_56 : decode cX11_stacks 56 = .ok (.getfield 19, 3) := by decide +kernel
theorem dX11_stacks_59 : decode cX11_stacks 59 = .ok (.iload_n 3, 1) := by decide +kernel
theorem dX11_stacks_60 : decode cX11_stacks 60 = .ok (.invokevirtual 159, 3) := by decide +kernel
theorem dX11_stacks_63 : decode cX11_stacks 63 = .ok (.invokestatic 250, 3) := by decide +kernel
theorem dX11_stacks_66 : decode cX11_stacks 66 = .ok (.iadd, 1) := by decide +kernel
theorem dX11_stacks_67 : decode cX11_stacks 67 = .ok (.istore_n 2, 1) := by decide +kernel
theorem dX11_stacks_68 : decode cX11_stacks 68 = .ok (.iinc 3 1, 3) := by decide +kernel
theorem dX11_stacks_71 : decode cX11_stacks 71 = .ok (.goto (-48), 3) := by decide +kernel
theorem dX11_stacks_74 : decode cX11_stacks 74 = .ok (.iload_n 2, 1) := by decide +kernel
theorem dX11_stacks_75 : decode cX11_stacks 75 = .ok (.ireturn, 1) := by decide +kernel
theorem dX11_towers_0 : decode cX11_towers 0 = .ok (.iconst (-1), 1) := by decide +kernel
theorem dX11_towers_1 : decode cX11_towers 1 = .ok (.istore_n 1, 1) := by decide +kernel
theorem dX11_towers_2 : decode cX11_towers 2 = .ok (.iconst 0, 1) := by decide +kernel
theorem dX11_towers_3 : decode cX11_towers 3 = .ok (.istore_n 2, 1) := by decide +kernel
theorem dX11_towers_4 : decode cX11_towers 4 = .ok (.iload_n 2, 1) := by decide +kernel
theorem dX11_towers_5 : decode cX11_towers 5 = .ok (.bipush 32, 2) := by decide +kernel
theorem dX11_towers_7 : decode cX11_towers 7 = .ok (.if_icmp .ge 48, 3) := by decide +kernel
theorem dX11_towers_10 : decode cX11_towers 10 = .ok (.iload_n 1, 1) := by decide +kernel
theorem dX11_towers_11 : decode cX11_towers 11 = .ok (.iconst (-1), 1) := by decide +kernel
theorem dX11_towers_12 : decode cX11_towers 12 = .ok (.if_icmp .eq 14, 3) := by decide +kernel
theorem dX11_towers_15 : decode cX11_towers 15 = .ok (.iload_n 2, 1) := by decide +kernel
theorem dX11_towers_16 : decode cX11_towers 16 = .ok (.invokestatic 250, 3) := by decide +kernel
theorem dX11_towers_19 : decode cX11_towers 19 = .ok (.iload_n 1, 1) := by decide +kernel
theorem dX11_towers_20 : decode cX11_towers 20 = .ok (.invokestatic 250, 3) := by decide +kernel
theorem dX11_towers_23 : decode cX11_towers 23 = .ok (.if_icmp .ge 7, 3) := by decide +kernel
theorem dX11_towers_26 : decode cX11_towers 26 = .ok (.iconst 1, 1) := by decide +kernel
theorem dX11_towers_27 : decode cX11_towers 27 = .ok (.goto 4, 3) := by decide +kernel
theorem dX11_towers_30 : decode cX11_towers 30 = .ok (.iconst 0, 1) := by decide +kernel
theorem dX11_towers_31 : decode cX11_towers 31 = .ok (.istore_n 3, 1) := by decide +kernel
theorem dX11_towers_32 : decode cX11_towers 32 = .ok (.iload_n 3, 1) := by decide +kernel
theorem dX11_towers_33 : decode cX11_towers 33 = .ok (.ifCond .eq 16, 3) := by decide +kernel
theorem dX11_towers_36 : decode cX11_towers 36 = .ok (.aload_n 0, 1) := by decide +kernel
theorem dX11_towers_37 : decode cX11_towers 37 = .ok (.getfield 19, 3) := by decide +kernel
theorem dX11_towers_40 : decode cX11_towers 40 = .ok (.iload_n 2, 1) := by decide +kernel
theorem dX11_towers_41 : decode cX11_towers 41 = .ok (.invokevirtual 255, 3) := by decide +kernel
theorem dX11_towers_44 : decode cX11_towers 44 = .ok (.ifCond .eq 5, 3) := by decide +kernel
theorem dX11_towers_47 : decode cX11_towers 47 = .ok (.iload_n 2, 1) := by decide +kernel
theorem dX11_towers_48 : decode cX11_towers 48 = .ok (.istore_n 1, 1) := by decide +kernel
theorem dX11_towers_49 : decode cX11_towers 49 = .ok (.iinc 2 1, 3) := by decide +kernel
theorem dX11_towers_52 : decode cX11_towers 52 = .ok (.goto (-48), 3) := by decide +kernel
theorem dX11_towers_55 : decode cX11_towers 55 = .ok (.iload_n 1, 1) := by decide +kernel
theorem dX11_towers_56 : decode cX11_towers 56 = .ok (.ireturn, 1) := by decide +kernel
theorem dX11_plan_0 : decode cX11_plan 0 = .ok (.aload_n 0, 1) := by decide +kernel
theorem dX11_plan_1 : decode cX11_plan 1 = .ok (.iload_n 1, 1) := by decide +kernel
theorem dX11_plan_2 : decode cX11_plan 2 = .ok (.invokevirtual 125, 3) := by decide +kernel
theorem dX11_plan_5 : decode cX11_plan 5 = .ok (.aload_n 0, 1) := by decide +kernel
theorem dX11_plan_6 : decode cX11_plan 6 = .ok (.getfield 41, 3) := by decide +kernel
theorem dX11_plan_9 : decode cX11_plan 9 = .ok (.invokevirtual 259, 3) := by decide +kernel
theorem dX11_plan_12 : decode cX11_plan 12 = .ok (.aload_n 0, 1) := by decide +kernel
theorem dX11_plan_13 : decode cX11_plan 13 = .ok (.getfield 41, 3) := by decide +kernel
theorem dX11_plan_16 : decode cX11_plan 16 = .ok (.iload_n 1, 1) := by decide +kernel
theorem dX11_plan_17 : decode cX11_plan 17 = .ok (.aload_n 0, 1) := by decide +kernel
theorem dX11_plan_18 : decode cX11_plan 18 = .ok (.getfield 19, 3) := by decide +kernel
theorem dX11_plan_21 : decode cX11_plan 21 = .ok (.getfield 232, 3) := by decide +kernel
theorem dX11_plan_24 : decode cX11_plan 24 = .ok (.invokevirtual 262, 3) := by decide +kernel
theorem dX11_plan_27 : decode cX11_plan 27 = .ok (.istore_n 3, 1) := by decide +kernel
theorem dX11_plan_28 : decode cX11_plan 28 = .ok (.iload_n 2, 1) := by decide +kernel
theorem dX11_plan_29 : decode cX11_plan 29 = .ok (.ifCond .eq 13, 3) := by decide +kernel
theorem dX11_plan_32 : decode cX11_plan 32 = .ok (.aload_n 0, 1) := by decide +kernel
theorem dX11_plan_33 : decode cX11_plan 33 = .ok (.getfield 41, 3) := by decide +kernel
theorem dX11_plan_36 : decode cX11_plan 36 = .ok (.getfield 265, 3) := by decide +kernel
theorem dX11_plan_39 : decode cX11_plan 39 = .ok (.goto 4, 3) := by decide +kernel
theorem dX11_plan_42 : decode cX11_plan 42 = .ok (.iload_n 3, 1) := by decide +kernel
theorem dX11_plan_43 : decode cX11_plan 43 = .ok (.ireturn, 1) := by decide +kernel
theorem dX11_brings_0 : decode cX11_brings 0 = .ok (.aload_n 0, 1) := by decide +kernel
theorem dX11_brings_1 : decode cX11_brings 1 = .ok (.iload_n 1, 1) := by decide +kernel
theorem dX11_brings_2 : decode cX11_brings 2 = .ok (.iconst 0, 1) := by decide +kernel
theorem dX11_brings_3 : decode cX11_brings 3 = .ok (.bipush 20, 2) := by decide +kernel
theorem dX11_brings_5 : decode cX11_brings 5 = .ok (.invokevirtual 228, 3) := by decide +kernel
theorem dX11_brings_8 : decode cX11_brings 8 = .ok (.aload_n 0, 1) := by decide +kernel
theorem dX11_brings_9 : decode cX11_brings 9 = .ok (.getfield 41, 3) := by decide +kernel
theorem dX11_brings_12 : decode cX11_brings 12 = .ok (.invokevirtual 259, 3) := by decide +kernel
theorem dX11_brings_15 : decode cX11_brings 15 = .ok (.aload_n 0, 1) := by decide +kernel
theorem dX11_brings_16 : decode cX11_brings 16 = .ok (.getfield 41, 3) := by decide +kernel
theorem dX11_brings_19 : decode cX11_brings 19 = .ok (.iload_n 1, 1) := by decide +kernel
theorem dX11_brings_20 : decode cX11_brings 20 = .ok (.invokevirtual 268, 3) := by decide +kernel
theorem dX11_brings_23 : decode cX11_brings 23 = .ok (.ireturn, 1) := by decide +kernel
theorem dX11_dear_0 : decode cX11_dear 0 = .ok (.aload_n 0, 1) := by decide +kernel
theorem dX11_dear_1 : decode cX11_dear 1 = .ok (.getfield 41, 3) := by decide +kernel
theorem dX11_dear_4 : decode cX11_dear 4 = .ok (.invokevirtual 259, 3) := by decide +kernel
theorem dX11_dear_7 : decode cX11_dear 7 = .ok (.iconst 0, 1) := by decide +kernel
theorem dX11_dear_8 : decode cX11_dear 8 = .ok (.istore_n 1, 1) := by decide +kernel
theorem dX11_dear_9 : decode cX11_dear 9 = .ok (.iconst (-1), 1) := by decide +kernel
theorem dX11_dear_10 : decode cX11_dear 10 = .ok (.istore_n 2, 1) := by decide +kernel
theorem dX11_dear_11 : decode cX11_dear 11 = .ok (.iconst 0, 1) := by decide +kernel
theorem dX11_dear_12 : decode cX11_dear 12 = .ok (.istore_n 3, 1) := by decide +kernel
theorem dX11_dear_13 : decode cX11_dear 13 = .ok (.iload_n 3, 1) := by decide +kernel
theorem dX11_dear_14 : decode cX11_dear 14 = .ok (.bipush 20, 2) := by decide +kernel
theorem dX11_dear_16 : decode cX11_dear 16 = .ok (.if_icmp .gt 30, 3) := by decide +kernel
theorem dX11_dear_19 : decode cX11_dear 19 = .ok (.aload_n 0, 1) := by decide +kernel
theorem dX11_dear_20 : decode cX11_dear 20 = .ok (.getfield 41, 3) := by decide +kernel
theorem dX11_dear_23 : decode cX11_dear 23 = .ok (.iload_n 3, 1) := by decide +kernel
theorem dX11_dear_24 : decode cX11_dear 24 = .ok (.invokevirtual 268, 3) := by decide +kernel
theorem dX11_dear_27 : decode cX11_dear 27 = .ok (.istore 4, 2) := by decide +kernel
theorem dX11_dear_29 : decode cX11_dear 29 = .ok (.iload 4, 2) := by decide +kernel
theorem dX11_dear_31 : decode cX11_dear 31 = .ok (.iload_n 2, 1) := by decide +kernel
theorem dX11_dear_32 : decode cX11_dear 32 = .ok (.if_icmp .le 8, 3) := by decide +kernel
theorem dX11_dear_35 : decode cX11_dear 35 = .ok (.iload 4, 2) := by decide +kernel
theorem dX11_dear_37 : decode cX11_dear 37 = .ok (.istore_n 2, 1) := by decide +kernel
theorem dX11_dear_38 : decode cX11_dear 38 = .ok (.iload_n 3, 1) := by decide +kernel
theorem dX11_dear_39 : decode cX11_dear 39 = .ok (.istore_n 1, 1) := by decide +kernel
theorem dX11_dear_40 : decode cX11_dear 40 = .ok (.iinc 3 1, 3) := by decide +kernel
theorem dX11_dear_43 : decode cX11_dear 43 = .ok (.goto (-30), 3) := by decide +kernel
theorem dX11_dear_46 : decode cX11_dear 46 = .ok (.iload_n 1, 1) := by decide +kernel
theorem dX11_dear_47 : decode cX11_dear 47 = .ok (.ireturn, 1) := by decide +kernel
theorem dX11_round_0 : decode cX11_round 0 = .ok (.aload_n 0, 1) := by decide +kernel
theorem dX11_round_1 : decode cX11_round 1 = .ok (.iload_n 1, 1) := by decide +kernel
theorem dX11_round_2 : decode cX11_round 2 = .ok (.iconst 0, 1) := by decide +kernel
theorem dX11_round_3 : decode cX11_round 3 = .ok (.bipush 6, 2) := by decide +kernel
theorem dX11_round_5 : decode cX11_round 5 = .ok (.invokevirtual 228, 3) := by decide +kernel
theorem dX11_round_8 : decode cX11_round 8 = .ok (.iconst 0, 1) := by decide +kernel
theorem dX11_round_9 : decode cX11_round 9 = .ok (.istore_n 2, 1) := by decide +kernel
theorem dX11_round_10 : decode cX11_round 10 = .ok (.iconst 0, 1) := by decide +kernel
theorem dX11_round_11 : decode cX11_round 11 = .ok (.istore_n 3, 1) := by decide +kernel
theorem dX11_round_12 : decode cX11_round 12 = .ok (.iconst 1, 1) := by decide +kernel
theorem dX11_round_13 : decode cX11_round 13 = .ok (.istore 4, 2) := by decide +kernel
theorem dX11_round_15 : decode cX11_round 15 = .ok (.iload 4, 2) := by decide +kernel
theorem dX11_round_17 : decode cX11_round 17 = .ok (.iconst 1, 1) := by decide +kernel
theorem dX11_round_18 : decode cX11_round 18 = .ok (.aload_n 0, 1) := by decide +kernel
theorem dX11_round_19 : decode cX11_round 19 = .ok (.getfield 19, 3) := by decide +kernel
theorem dX11_round_22 : decode cX11_round 22 = .ok (.getfield 247, 3) := by decide +kernel
theorem dX11_round_25 : decode cX11_round 25 = .ok (.ishl, 1) := by decide +kernel
theorem dX11_round_26 : decode cX11_round 26 = .ok (.if_icmp .ge 64, 3) := by decide +kernel
theorem dX11_round_29 : decode cX11_round 29 = .ok (.iload 4, 2) := by decide +kernel
theorem dX11_round_31 : decode cX11_round 31 = .ok (.invokestatic 250, 3) := by decide +kernel
theorem dX11_round_34 : decode cX11_round 34 = .ok (.istore 5, 2) := by decide +kernel
theorem dX11_round_36 : decode cX11_round 36 = .ok (.iload 5, 2) := by decide +kernel
theorem dX11_round_38 : decode cX11_round 38 = .ok (.iload_n 1, 1) := by decide +kernel
theorem dX11_round_39 : decode cX11_round 39 = .ok (.if_icmp .le 7, 3) := by decide +kernel
theorem dX11_round_42 : decode cX11_round 42 = .ok (.iconst (-1), 1) := by decide +kernel
theorem dX11_round_43 : decode cX11_round 43 = .ok (.goto 12, 3) := by decide +kernel
theorem dX11_round_46 : decode cX11_round 46 = .ok (.aload_n 0, 1) := by decide +kernel
theorem dX11_round_47 : decode cX11_round 47 = .ok (.getfield 19, 3) := by decide +kernel
theorem dX11_round_50 : decode cX11_round 50 = .ok (.iload 4, 2) := by decide +kernel
theorem dX11_round_52 : decode cX11_round 52 = .ok (.invokevirtual 271, 3) := by decide +kernel
theorem dX11_round_55 : decode cX11_round 55 = .ok (.istore 6, 2) := by decide +kernel
theorem dX11_round_57 : decode cX11_round 57 = .ok (.iload 6, 2) := by decide +kernel
theorem dX11_round_59 : decode cX11_round 59 = .ok (.iload_n 3, 1) := by decide +kernel
theorem dX11_round_60 : decode cX11_round 60 = .ok (.if_icmp .gt 18, 3) := by decide +kernel
theorem dX11_round_63 : decode cX11_round 63 = .ok (.iload 6, 2) := by decide +kernel
theorem dX11_round_65 : decode cX11_round 65 = .ok (.iload_n 3, 1) := by decide +kernel
theorem dX11_round_66 : decode cX11_round 66 = .ok (.if_icmp .ne 18, 3) := by decide +kernel
theorem dX11_round_69 : decode cX11_round 69 = .ok (.iload 5, 2) := by decide +kernel
theorem dX11_round_71 : decode cX11_round 71 = .ok (.iload_n 2, 1) := by decide +kernel
theorem dX11_round_72 : decode cX11_round 72 = .ok (.invokestatic 250, 3) := by decide +kernel
theorem dX11_round_75 : decode cX11_round 75 = .ok (.if_icmp .ge 9, 3) := by decide +kernel
theorem dX11_round_78 : decode cX11_round 78 = .ok (.iload 6, 2) := by decide +kernel
theorem dX11_round_80 : decode cX11_round 80 = .ok (.istore_n 3, 1) := by decide +kernel
theorem dX11_round_81 : decode cX11_round 81 = .ok (.iload 4, 2) := by decide +kernel
theorem dX11_round_83 : decode cX11_round 83 = .ok (.istore_n 2, 1) := by decide +kernel
theorem dX11_round_84 : decode cX11_round 84 = .ok (.iinc 4 1, 3) := by decide +kernel
theorem dX11_round_87 : decode cX11_round 87 = .ok (.goto (-72), 3) := by decide +kernel
theorem dX11_round_90 : decode cX11_round 90 = .ok (.iload_n 2, 1) := by decide +kernel
theorem dX11_round_91 : decode cX11_round 91 = .ok (.ireturn, 1) := by decide +kernel
theorem dX11_smokes_0 : decode cX11_smokes 0 = .ok (.aload_n 0, 1) := by decide +kernel
theorem dX11_smokes_1 : decode cX11_smokes 1 = .ok (.iload_n 1, 1) := by decide +kernel
theorem dX11_smokes_2 : decode cX11_smokes 2 = .ok (.invokevirtual 274, 3) := by decide +kernel
theorem dX11_smokes_5 : decode cX11_smokes 5 = .ok (.iload_n 2, 1) := by decide +kernel
theorem dX11_smokes_6 : decode cX11_smokes 6 = .ok (.ifCond .eq 14, 3) := by decide +kernel
theorem dX11_smokes_9 : decode cX11_smokes 9 = .ok (.aload_n 0, 1) := by decide +kernel
theorem dX11_smokes_10 : decode cX11_smokes 10 = .ok (.getfield 41, 3) := by decide +kernel
theorem dX11_smokes_13 : decode cX11_smokes 13 = .ok (.iload_n 1, 1) := by decide +kernel
theorem dX11_smokes_14 : decode cX11_smokes 14 = .ok (.invokevirtual 277, 3) := by decide +kernel
theorem dX11_smokes_17 : decode cX11_smokes 17 = .ok (.goto 12, 3) := by decide +kernel
theorem dX11_smokes_20 : decode cX11_smokes 20 = .ok (.aload_n 0, 1) := by decide +kernel
theorem dX11_smokes_21 : decode cX11_smokes 21 = .ok (.getfield 41, 3) := by decide +kernel
theorem dX11_smokes_24 : decode cX11_smokes 24 = .ok (.iload_n 1, 1) := by decide +kernel
theorem dX11_smokes_25 : decode cX11_smokes 25 = .ok (.iconst 0, 1) := by decide +kernel
theorem dX11_smokes_26 : decode cX11_smokes 26 = .ok (.invokevirtual 280, 3) := by decide +kernel
theorem dX11_smokes_29 : decode cX11_smokes 29 = .ok (.ireturn, 1) := by decide +kernel
theorem dX11_look_0 : decode cX11_look 0 = .ok (.aload_n 0, 1) := by decide +kernel
theorem dX11_look_1 : decode cX11_look 1 = .ok (.iload_n 1, 1) := by decide +kernel
theorem dX11_look_2 : decode cX11_look 2 = .ok (.invokevirtual 274, 3) := by decide +kernel
theorem dX11_look_5 : decode cX11_look 5 = .ok (.aload_n 0, 1) := by decide +kernel
theorem dX11_look_6 : decode cX11_look 6 = .ok (.getfield 41, 3) := by decide +kernel
theorem dX11_look_9 : decode cX11_look 9 = .ok (.iload_n 1, 1) := by decide +kernel
theorem dX11_look_10 : decode cX11_look 10 = .ok (.iconst 0, 1) := by decide +kernel
theorem dX11_look_11 : decode cX11_look 11 = .ok (.invokevirtual 280, 3) := by decide +kernel
theorem dX11_look_14 : decode cX11_look 14 = .ok (.istore_n 2, 1) := by decide +kernel
theorem dX11_look_15 : decode cX11_look 15 = .ok (.iconst (-1), 1) := by decide +kernel
theorem dX11_look_16 : decode cX11_look 16 = .ok (.istore_n 3, 1) := by decide +kernel
theorem dX11_look_17 : decode cX11_look 17 = .ok (.iload_n 2, 1) := by decide +kernel
theorem dX11_look_18 : decode cX11_look 18 = .ok (.istore 4, 2) := by decide +kernel
theorem dX11_look_20 : decode cX11_look 20 = .ok (.iconst 0, 1) := by decide +kernel
theorem dX11_look_21 : decode cX11_look 21 = .ok (.istore 5, 2) := by decide +kernel
theorem dX11_look_23 : decode cX11_look 23 = .ok (.iload 5, 2) := by decide +kernel
theorem dX11_look_25 : decode cX11_look 25 = .ok (.aload_n 0, 1) := by decide +kernel
theorem dX11_look_26 : decode cX11_look 26 = .ok (.getfield 19, 3) := by decide +kernel
theorem dX11_look_29 : decode cX11_look 29 = .ok (.getfield 283, 3) := by decide +kernel
theorem dX11_look_32 : decode cX11_look 32 = .ok (.if_icmp .ge 69, 3) := by decide +kernel
theorem dX11_look_35 : decode cX11_look 35 = .ok (.aload_n 0, 1) := by decide +kernel
theorem dX11_look_36 : decode cX11_look 36 = .ok (.getfield 19, 3) := by decide +kernel
theorem dX11_look_39 : decode cX11_look 39 = .ok (.getfield 176, 3) := by decide +kernel
theorem dX11_look_42 : decode cX11_look 42 = .ok (.iload 5, 2) := by decide +kernel
theorem dX11_look_44 : decode cX11_look 44 = .ok (.aaload, 1) := by decide +kernel
theorem dX11_look_45 : decode cX11_look 45 = .ok (.getfield 180, 3) := by decide +kernel
theorem dX11_look_48 : decode cX11_look 48 = .ok (.iload_n 1, 1) := by decide +kernel
theorem dX11_look_49 : decode cX11_look 49 = .ok (.if_icmp .ne 18, 3) := by decide +kernel
theorem dX11_look_52 : decode cX11_look 52 = .ok (.aload_n 0, 1) := by decide +kernel
theorem dX11_look_53 : decode cX11_look 53 = .ok (.getfield 41, 3) := by decide +kernel
theorem dX11_look_56 : decode cX11_look 56 = .ok (.iload_n 1, 1) := by decide +kernel
theorem dX11_look_57 : decode cX11_look 57 = .ok (.iconst 1, 1) := by decide +kernel
theorem dX11_look_58 : decode cX11_look 58 = .ok (.iload 5, 2) := by decide +kernel
theorem dX11_look_60 : decode cX11_look 60 = .ok (.ishl, 1) := by decide +kernel
theorem dX11_look_61 : decode cX11_look 61 = .ok (.invokevirtual 280, 3) := by decide +kernel
theorem dX11_look_64 : decode cX11_look 64 = .ok (.goto 4, 3) := by decide +kernel
theorem dX11_look_67 : decode cX11_look 67 = .ok (.iconst 0, 1) := by decide +kernel
theorem dX11_look_68 : decode cX11_look 68 = .ok (.istore 6, 2) := by decide +kernel
theorem dX11_look_70 : decode cX11_look 70 = .ok (.iload 6, 2) := by decide +kernel
theorem dX11_look_72 : decode cX11_look 72 = .ok (.iload_n 2, 1) := by decide +kernel
theorem dX11_look_73 : decode cX11_look 73 = .ok (.iload 6, 2) := by decide +kernel
theorem dX11_look_75 : decode cX11_look 75 = .ok (.isub, 1) := by decide +kernel
theorem dX11_look_76 : decode cX11_look 76 = .ok (.invokestatic 286, 3) := by decide +kernel
theorem dX11_look_79 : decode cX11_look 79 = .ok (.istore 7, 2) := by decide +kernel
theorem dX11_look_81 : decode cX11_look 81 = .ok (.iload 7, 2) := by decide +kernel
theorem dX11_look_83 : decode cX11_look 83 = .ok (.iload 4, 2) := by decide +kernel
theorem dX11_look_85 : decode cX11_look 85 = .ok (.if_icmp .ge 10, 3) := by decide +kernel
theorem dX11_look_88 : decode cX11_look 88 = .ok (.iload 7, 2) := by decide +kernel
theorem dX11_look_90 : decode cX11_look 90 = .ok (.istore 4, 2) := by decide +kernel
theorem dX11_look_92 : decode cX11_look 92 = .ok (.iload 5, 2) := by decide +kernel
theorem dX11_look_94 : decode cX11_look 94 = .ok (.istore_n 3, 1) := by decide +kernel
theorem dX11_look_95 : decode cX11_look 95 = .ok (.iinc 5 1, 3) := by decide +kernel
theorem dX11_look_98 : decode cX11_look 98 = .ok (.goto (-75), 3) := by decide +kernel
theorem dX11_look_101 : decode cX11_look 101 = .ok (.iload_n 3, 1) := by decide +kernel
theorem dX11_look_102 : decode cX11_look 102 = .ok (.ireturn, 1) := by decide +kernel
theorem dX11_window_0 : decode cX11_window 0 = .ok (.aload_n 0, 1) := by decide +kernel
theorem dX11_window_1 : decode cX11_window 1 = .ok (.iload_n 1, 1) := by decide +kernel
theorem dX11_window_2 : decode cX11_window 2 = .ok (.invokevirtual 125, 3) := by decide +kernel
theorem dX11_window_5 : decode cX11_window 5 = .ok (.iconst 0, 1) := by decide +kernel
theorem dX11_window_6 : decode cX11_window 6 = .ok (.aload_n 0, 1) := by decide +kernel
theorem dX11_window_7 : decode cX11_window 7 = .ok (.getfield 19, 3) := by decide +kernel
theorem dX11_window_10 : decode cX11_window 10 = .ok (.getfield 128, 3) := by decide +kernel
theorem dX11_window_13 : decode cX11_window 13 = .ok (.iload_n 1, 1) := by decide +kernel
theorem dX11_window_14 : decode cX11_window 14 = .ok (.aaload, 1) := by decide +kernel
theorem dX11_window_15 : decode cX11_window 15 = .ok (.getfield 140, 3) := by decide +kernel
theorem dX11_window_18 : decode cX11_window 18 = .ok (.bipush 6, 2) := by decide +kernel
theorem dX11_window_20 : decode cX11_window 20 = .ok (.isub, 1) := by decide +kernel
theorem dX11_window_21 : decode cX11_window 21 = .ok (.invokestatic 286, 3) := by decide +kernel
theorem dX11_window_24 : decode cX11_window 24 = .ok (.aload_n 0, 1) := by decide +kernel
theorem dX11_window_25 : decode cX11_window 25 = .ok (.getfield 19, 3) := by decide +kernel
theorem dX11_window_28 : decode cX11_window 28 = .ok (.iload_n 1, 1) := by decide +kernel
theorem dX11_window_29 : decode cX11_window 29 = .ok (.invokevirtual 149, 3) := by decide +kernel
theorem dX11_window_32 : decode cX11_window 32 = .ok (.isub, 1) := by decide +kernel
theorem dX11_window_33 : decode cX11_window 33 = .ok (.ireturn, 1) := by decide +kernel
theorem dX11_odds_0 : decode cX11_odds 0 = .ok (.aload_n 0, 1) := by decide +kernel
theorem dX11_odds_1 : decode cX11_odds 1 = .ok (.iload_n 1, 1) := by decide +kernel
theorem dX11_odds_2 : decode cX11_odds 2 = .ok (.invokevirtual 125, 3) := by decide +kernel
theorem dX11_odds_5 : decode cX11_odds 5 = .ok (.aload_n 0, 1) := by decide +kernel
theorem dX11_odds_6 : decode cX11_odds 6 = .ok (.getfield 19, 3) := by decide +kernel
theorem dX11_odds_9 : decode cX11_odds 9 = .ok (.getfield 289, 3) := by decide +kernel
theorem dX11_odds_12 : decode cX11_odds 12 = .ok (.bipush 100, 2) := by decide +kernel
theorem dX11_odds_14 : decode cX11_odds 14 = .ok (.imul, 1) := by decide +kernel
theorem dX11_odds_15 : decode cX11_odds 15 = .ok (.bipush 100, 2) := by decide +kernel
theorem dX11_odds_17 : decode cX11_odds 17 = .ok (.aload_n 0, 1) := by decide +kernel
theorem dX11_odds_18 : decode cX11_odds 18 = .ok (.getfield 19, 3) := by decide +kernel
theorem dX11_odds_21 : decode cX11_odds 21 = .ok (.getfield 289, 3) := by decide +kernel
theorem dX11_odds_24 : decode cX11_odds 24 = .ok (.isub, 1) := by decide +kernel
theorem dX11_odds_25 : decode cX11_odds 25 = .ok (.aload_n 0, 1) := by decide +kernel
theorem dX11_odds_26 : decode cX11_odds 26 = .ok (.getfield 19, 3) := by decide +kernel
theorem dX11_odds_29 : decode cX11_odds 29 = .ok (.getfield 128, 3) := by decide +kernel
theorem dX11_odds_32 : decode cX11_odds 32 = .ok (.iload_n 1, 1) := by decide +kernel
theorem dX11_odds_33 : decode cX11_odds 33 = .ok (.aaload, 1) := by decide +kernel
theorem dX11_odds_34 : decode cX11_odds 34 = .ok (.getfield 146, 3) := by decide +kernel
theorem dX11_odds_37 : decode cX11_odds 37 = .ok (.imul, 1) := by decide +kernel
theorem dX11_odds_38 : decode cX11_odds 38 = .ok (.iadd, 1) := by decide +kernel
theorem dX11_odds_39 : decode cX11_odds 39 = .ok (.ireturn, 1) := by decide +kernel
theorem dX11_alike_0 : decode cX11_alike 0 = .ok (.iconst 0, 1) := by decide +kernel
theorem dX11_alike_1 : decode cX11_alike 1 = .ok (.istore_n 1, 1) := by decide +kernel
theorem dX11_alike_2 : decode cX11_alike 2 = .ok (.iconst 0, 1) := by decide +kernel
theorem dX11_alike_3 : decode cX11_alike 3 = .ok (.istore_n 2, 1) := by decide +kernel
theorem dX11_alike_4 : decode cX11_alike 4 = .ok (.iload_n 2, 1) := by decide +kernel
theorem dX11_alike_5 : decode cX11_alike 5 = .ok (.aload_n 0, 1) := by decide +kernel
theorem dX11_alike_6 : decode cX11_alike 6 = .ok (.getfield 19, 3) := by decide +kernel
theorem dX11_alike_9 : decode cX11_alike 9 = .ok (.getfield 247, 3) := by decide +kernel
theorem dX11_alike_12 : decode cX11_alike 12 = .ok (.if_icmp .ge 71, 3) := by decide +kernel
theorem dX11_alike_15 : decode cX11_alike 15 = .ok (.iload_n 2, 1) := by decide +kernel
theorem dX11_alike_16 : decode cX11_alike 16 = .ok (.iconst 1, 1) := by decide +kernel
theorem dX11_alike_17 : decode cX11_alike 17 = .ok (.iadd, 1) := by decide +kernel
theorem dX11_alike_18 : decode cX11_alike 18 = .ok (.istore_n 3, 1) := by decide +kernel
theorem dX11_alike_19 : decode cX11_alike 19 = .ok (.iload_n 3, 1) := by decide +kernel
theorem dX11_alike_20 : decode cX11_alike 20 = .ok (.aload_n 0, 1) := by decide +kernel
theorem dX11_alike_21 : decode cX11_alike 21 = .ok (.getfield 19, 3) := by decide +kernel
theorem dX11_alike_24 : decode cX11_alike 24 = .ok (.getfield 247, 3) := by decide +kernel
theorem dX11_alike_27 : decode cX11_alike 27 = .ok (.if_icmp .ge 50, 3) := by decide +kernel
theorem dX11_alike_30 : decode cX11_alike 30 = .ok (.aload_n 0, 1) := by decide +kernel
theorem dX11_alike_31 : decode cX11_alike 31 = .ok (.getfield 19, 3) := by decide +kernel
theorem dX11_alike_34 : decode cX11_alike 34 = .ok (.iload_n 2, 1) := by decide +kernel
theorem dX11_alike_35 : decode cX11_alike 35 = .ok (.invokevirtual 156, 3) := by decide +kernel
theorem dX11_alike_38 : decode cX11_alike 38 = .ok (.aload_n 0, 1) := by decide +kernel
theorem dX11_alike_39 : decode cX11_alike 39 = .ok (.getfield 19, 3) := by decide +kernel
theorem dX11_alike_42 : decode cX11_alike 42 = .ok (.iload_n 3, 1) := by decide +kernel
theorem dX11_alike_43 : decode cX11_alike 43 = .ok (.invokevirtual 156, 3) := by decide +kernel
theorem dX11_alike_46 : decode cX11_alike 46 = .ok (.if_icmp .ne 25, 3) := by decide +kernel
theorem dX11_alike_49 : decode cX11_alike 49 = .ok (.aload_n 0, 1) := by decide +kernel
theorem dX11_alike_50 : decode cX11_alike 50 = .ok (.getfield 19, 3) := by decide +kernel
theorem dX11_alike_53 : decode cX11_alike 53 = .ok (.iload_n 2, 1) := by decide +kernel
theorem dX11_alike_54 : decode cX11_alike 54 = .ok (.invokevirtual 149, 3) := by decide +kernel
theorem dX11_alike_57 : decode cX11_alike 57 = .ok (.aload_n 0, 1) := by decide +kernel
theorem dX11_alike_58 : decode cX11_alike 58 = .ok (.getfield 19, 3) := by decide +kernel
theorem dX11_alike_61 : decode cX11_alike 61 = .ok (.iload_n 3, 1) := by decide +kernel
theorem dX11_alike_62 : decode cX11_alike 62 = .ok (.invokevirtual 149, 3) := by decide +kernel
theorem dX11_alike_65 : decode cX11_alike 65 = .ok (.if_icmp .ne 6, 3) := by decide +kernel
theorem dX11_alike_68 : decode cX11_alike 68 = .ok (.iinc 1 1, 3) := by decide +kernel
theorem dX11_alike_71 : decode cX11_alike 71 = .ok (.iinc 3 1, 3) := by decide +kernel
theorem dX11_alike_74 : decode cX11_alike 74 = .ok (.goto (-55), 3) := by decide +kernel
theorem dX11_alike_77 : decode cX11_alike 77 = .ok (.iinc 2 1, 3) := by decide +kernel
theorem dX11_alike_80 : decode cX11_alike 80 = .ok (.goto (-76), 3) := by decide +kernel
theorem dX11_alike_83 : decode cX11_alike 83 = .ok (.iload_n 1, 1) := by decide +kernel
theorem dX11_alike_84 : decode cX11_alike 84 = .ok (.ireturn, 1) := by decide +kernel
theorem dX11_coldest_0 : decode cX11_coldest 0 = .ok (.iconst (-1), 1) := by decide +kernel
theorem dX11_coldest_1 : decode cX11_coldest 1 = .ok (.istore_n 1, 1) := by decide +kernel
theorem dX11_coldest_2 : decode cX11_coldest 2 = .ok (.iconst 0, 1) := by decide +kernel
theorem dX11_coldest_3 : decode cX11_coldest 3 = .ok (.istore_n 2, 1) := by decide +kernel
theorem dX11_coldest_4 : decode cX11_coldest 4 = .ok (.iconst 0, 1) := by decide +kernel
theorem dX11_coldest_5 : decode cX11_coldest 5 = .ok (.istore_n 3, 1) := by decide +kernel
theorem dX11_coldest_6 : decode cX11_coldest 6 = .ok (.iload_n 3, 1) := by decide +kernel
theorem dX11_coldest_7 : decode cX11_coldest 7 = .ok (.aload_n 0, 1) := by decide +kernel
theorem dX11_coldest_8 : decode cX11_coldest 8 = .ok (.getfield 19, 3) := by decide +kernel
theorem dX11_coldest_11 : decode cX11_coldest 11 = .ok (.getfield 247, 3) := by decide +kernel
theorem dX11_coldest_14 : decode cX11_coldest 14 = .ok (.if_icmp .ge 35, 3) := by decide +kernel
theorem dX11_coldest_17 : decode cX11_coldest 17 = .ok (.aload_n 0, 1) := by decide +kernel
theorem dX11_coldest_18 : decode cX11_coldest 18 = .ok (.getfield 19, 3) := by decide +kernel
theorem dX11_coldest_21 : decode cX11_coldest 21 = .ok (.iload_n 3, 1) := by decide +kernel
theorem dX11_coldest_22 : decode cX11_coldest 22 = .ok (.invokevirtual 156, 3) := by decide +kernel
theorem dX11_coldest_25 : decode cX11_coldest 25 = .ok (.istore 4, 2) := by decide +kernel
theorem dX11_coldest_27 : decode cX11_coldest 27 = .ok (.iload_n 1, 1) := by decide +kernel
theorem dX11_coldest_28 : decode cX11_coldest 28 = .ok (.iconst (-1), 1) := by decide +kernel
theorem dX11_coldest_29 : decode cX11_coldest 29 = .ok (.if_icmp .eq 9, 3) := by decide +kernel
theorem dX11_coldest_32 : decode cX11_coldest 32 = .ok (.iload 4, 2) := by decide +kernel
theorem dX11_coldest_34 : decode cX11_coldest 34 = .ok (.iload_n 2, 1) := by decide +kernel
theorem dX11_coldest_35 : decode cX11_coldest 35 = .ok (.if_icmp .ge 8, 3) := by decide +kernel
theorem dX11_coldest_38 : decode cX11_coldest 38 = .ok (.iload_n 3, 1) := by decide +kernel
theorem dX11_coldest_39 : decode cX11_coldest 39 = .ok (.istore_n 1, 1) := by decide +kernel
theorem dX11_coldest_40 : decode cX11_coldest 40 = .ok (.iload 4, 2) := by decide +kernel
theorem dX11_coldest_42 : decode cX11_coldest 42 = .ok (.istore_n 2, 1) := by decide +kernel
theorem dX11_coldest_43 : decode cX11_coldest 43 = .ok (.iinc 3 1, 3) := by decide +kernel
theorem dX11_coldest_46 : decode cX11_coldest 46 = .ok (.goto (-40), 3) := by decide +kernel
theorem dX11_coldest_49 : decode cX11_coldest 49 = .ok (.iload_n 1, 1) := by decide +kernel
theorem dX11_coldest_50 : decode cX11_coldest 50 = .ok (.ireturn, 1) := by decide +kernel
theorem dX11_broke_0 : decode cX11_broke 0 = .ok (.aload_n 0, 1) := by decide +kernel
theorem dX11_broke_1 : decode cX11_broke 1 = .ok (.iload_n 1, 1) := by decide +kernel
theorem dX11_broke_2 : decode cX11_broke 2 = .ok (.invokevirtual 125, 3) := by decide +kernel
theorem dX11_broke_5 : decode cX11_broke 5 = .ok (.aload_n 0, 1) := by decide +kernel
theorem dX11_broke_6 : decode cX11_broke 6 = .ok (.getfield 23, 3) := by decide +kernel
theorem dX11_broke_9 : decode cX11_broke 9 = .ok (.aload_n 0, 1) := by decide +kernel
theorem dX11_broke_10 : decode cX11_broke 10 = .ok (.getfield 19, 3) := by decide +kernel
theorem dX11_broke_13 : decode cX11_broke 13 = .ok (.invokevirtual 78, 3) := by decide +kernel
theorem dX11_broke_16 : decode cX11_broke 16 = .ok (.iconst 0, 1) := by decide +kernel
theorem dX11_broke_17 : decode cX11_broke 17 = .ok (.istore_n 2, 1) := by decide +kernel
theorem dX11_broke_18 : decode cX11_broke 18 = .ok (.iload_n 2, 1) := by decide +kernel
theorem dX11_broke_19 : decode cX11_broke 19 = .ok (.bipush 100, 2) := by decide +kernel
theorem dX11_broke_21 : decode cX11_broke 21 = .ok (.if_icmp .gt 35, 3) := by decide +kernel
theorem dX11_broke_24 : decode cX11_broke 24 = .ok (.aload_n 0, 1) := by decide +kernel
theorem dX11_broke_25 : decode cX11_broke 25 = .ok (.getfield 23, 3) := by decide +kernel
theorem dX11_broke_28 : decode cX11_broke 28 = .ok (.getfield 128, 3) := by decide +kernel
theorem dX11_broke_31 : decode cX11_broke 31 = .ok (.iload_n 1, 1) := by decide +kernel
theorem dX11_broke_32 : decode cX11_broke 32 = .ok (.aaload, 1) := by decide +kernel
theorem dX11_broke_33 : decode cX11_broke 33 = .ok (.getfield 132, 3) := by decide +kernel
theorem dX11_broke_36 : decode cX11_broke 36 = .ok (.ifCond .ne 5, 3) := by decide +kernel
theorem dX11_broke_39 : decode cX11_broke 39 = .ok (.iload_n 2, 1) := by decide +kernel
theorem dX11_broke_40 : decode cX11_broke 40 = .ok (.ireturn, 1) := by decide +kernel
theorem dX11_broke_41 : decode cX11_broke 41 = .ok (.aload_n 0, 1) := by decide +kernel
theorem dX11_broke_42 : decode cX11_broke 42 = .ok (.getfield 23, 3) := by decide +kernel
theorem dX11_broke_45 : decode cX11_broke 45 = .ok (.iconst 0, 1) := by decide +kernel
theorem dX11_broke_46 : decode cX11_broke 46 = .ok (.invokevirtual 241, 3) := by decide +kernel
theorem dX11_broke_49 : decode cX11_broke 49 = .ok (.pop, 1) := by decide +kernel
theorem dX11_broke_50 : decode cX11_broke 50 = .ok (.iinc 2 1, 3) := by decide +kernel
theorem dX11_broke_53 : decode cX11_broke 53 = .ok (.goto (-35), 3) := by decide +kernel
theorem dX11_broke_56 : decode cX11_broke 56 = .ok (.iconst (-1), 1) := by decide +kernel
theorem dX11_broke_57 : decode cX11_broke 57 = .ok (.ireturn, 1) := by decide +kernel
theorem dX11_game_0 : decode cX11_game 0 = .ok (.aload_n 0, 1) := by decide +kernel
theorem dX11_game_1 : decode cX11_game 1 = .ok (.iload_n 1, 1) := by decide +kernel
theorem dX11_game_2 : decode cX11_game 2 = .ok (.invokevirtual 173, 3) := by decide +kernel
theorem dX11_game_5 : decode cX11_game 5 = .ok (.aload_n 0, 1) := by decide +kernel
theorem dX11_game_6 : decode cX11_game 6 = .ok (.getfield 19, 3) := by decide +kernel
theorem dX11_game_9 : decode cX11_game 9 = .ok (.getfield 176, 3) := by decide +kernel
theorem dX11_game_12 : decode cX11_game 12 = .ok (.iload_n 1, 1) := by decide +kernel
theorem dX11_game_13 : decode cX11_game 13 = .ok (.aaload, 1) := by decide +kernel
theorem dX11_game_14 : decode cX11_game 14 = .ok (.getfield 197, 3) := by decide +kernel
theorem dX11_game_17 : decode cX11_game 17 = .ok (.iconst 1, 1) := by decide +kernel
theorem dX11_game_18 : decode cX11_game 18 = .ok (.if_icmp .ne 5, 3) := by decide +kernel
theorem dX11_game_21 : decode cX11_game 21 = .ok (.iconst (-1), 1) := by decide +kernel
theorem dX11_game_22 : decode cX11_game 22 = .ok (.ireturn, 1) := by decide +kernel
theorem dX11_game_23 : decode cX11_game 23 = .ok (.aload_n 0, 1) := by decide +kernel
theorem dX11_game_24 : decode cX11_game 24 = .ok (.getfield 19, 3) := by decide +kernel
theorem dX11_game_27 : decode cX11_game 27 = .ok (.iload_n 1, 1) := by decide +kernel
theorem dX11_game_28 : decode cX11_game 28 = .ok (.invokevirtual 200, 3) := by decide +kernel
theorem dX11_game_31 : decode cX11_game 31 = .ok (.istore_n 2, 1) := by decide +kernel
theorem dX11_game_32 : decode cX11_game 32 = .ok (.aload_n 0, 1) := by decide +kernel
theorem dX11_game_33 : decode cX11_game 33 = .ok (.getfield 19, 3) := by decide +kernel
theorem dX11_game_36 : decode cX11_game 36 = .ok (.iload_n 1, 1) := by decide +kernel
theorem dX11_game_37 : decode cX11_game 37 = .ok (.invokevirtual 203, 3) := by decide +kernel
theorem dX11_game_40 : decode cX11_game 40 = .ok (.bipush 10, 2) := by decide +kernel
theorem dX11_game_42 : decode cX11_game 42 = .ok (.idiv, 1) := by decide +kernel
theorem dX11_game_43 : decode cX11_game 43 = .ok (.iload_n 2, 1) := by decide +kernel
theorem dX11_game_44 : decode cX11_game 44 = .ok (.aload_n 0, 1) := by decide +kernel
theorem dX11_game_45 : decode cX11_game 45 = .ok (.getfield 19, 3) := by decide +kernel
theorem dX11_game_48 : decode cX11_game 48 = .ok (.getfield 292, 3) := by decide +kernel
theorem dX11_game_51 : decode cX11_game 51 = .ok (.iadd, 1) := by decide +kernel
theorem dX11_game_52 : decode cX11_game 52 = .ok (.imul, 1) := by decide +kernel
theorem dX11_game_53 : decode cX11_game 53 = .ok (.bipush 10, 2) := by decide +kernel
theorem dX11_game_55 : decode cX11_game 55 = .ok (.idiv, 1) := by decide +kernel
theorem dX11_game_56 : decode cX11_game 56 = .ok (.istore_n 3, 1) := by decide +kernel
theorem dX11_game_57 : decode cX11_game 57 = .ok (.iconst 4, 1) := by decide +kernel
theorem dX11_game_58 : decode cX11_game 58 = .ok (.newarray .int, 2) := by decide +kernel
theorem dX11_game_60 : decode cX11_game 60 = .ok (.dup, 1) := by decide +kernel
theorem dX11_game_61 : decode cX11_game 61 = .ok (.iconst 0, 1) := by decide +kernel
theorem dX11_game_62 : decode cX11_game 62 = .ok (.aload_n 0, 1) := by decide +kernel
theorem dX11_game_63 : decode cX11_game 63 = .ok (.getfield 19, 3) := by decide +kernel
theorem dX11_game_66 : decode cX11_game 66 = .ok (.getfield 218, 3) := by decide +kernel
theorem dX11_game_69 : decode cX11_game 69 = .ok (.iload_n 3, 1) := by decide +kernel
theorem dX11_game_70 : decode cX11_game 70 = .ok (.iadd, 1) := by decide +kernel
theorem dX11_game_71 : decode cX11_game 71 = .ok (.iastore, 1) := by decide +kernel
theorem dX11_game_72 : decode cX11_game 72 = .ok (.dup, 1) := by decide +kernel
theorem dX11_game_73 : decode cX11_game 73 = .ok (.iconst 1, 1) := by decide +kernel
theorem dX11_game_74 : decode cX11_game 74 = .ok (.aload_n 0, 1) := by decide +kernel
theorem dX11_game_75 : decode cX11_game 75 = .ok (.getfield 19, 3) := by decide +kernel
theorem dX11_game_78 : decode cX11_game 78 = .ok (.getfield 218, 3) := by decide +kernel
theorem dX11_game_81 : decode cX11_game 81 = .ok (.iastore, 1) := by decide +kernel
theorem dX11_game_82 : decode cX11_game 82 = .ok (.dup, 1) := by decide +kernel
theorem dX11_game_83 : decode cX11_game 83 = .ok (.iconst 2, 1) := by decide +kernel
theorem dX11_game_84 : decode cX11_game 84 = .ok (.iload_n 2, 1) := by decide +kernel
theorem dX11_game_85 : decode cX11_game 85 = .ok (.iastore, 1) := by decide +kernel
theorem dX11_game_86 : decode cX11_game 86 = .ok (.dup, 1) := by decide +kernel
theorem dX11_game_87 : decode cX11_game 87 = .ok (.iconst 3, 1) := by decide +kernel
theorem dX11_game_88 : decode cX11_game 88 = .ok (.iload_n 2, 1) := by decide +kernel
theorem dX11_game_89 : decode cX11_game 89 = .ok (.iastore, 1) := by decide +kernel
theorem dX11_game_90 : decode cX11_game 90 = .ok (.astore 4, 2) := by decide +kernel
theorem dX11_game_92 : decode cX11_game 92 = .ok (.iconst 4, 1) := by decide +kernel
theorem dX11_game_93 : decode cX11_game 93 = .ok (.newarray .int, 2) := by decide +kernel
theorem dX11_game_95 : decode cX11_game 95 = .ok (.dup, 1) := by decide +kernel
theorem dX11_game_96 : decode cX11_game 96 = .ok (.iconst 0, 1) := by decide +kernel
theorem dX11_game_97 : decode cX11_game 97 = .ok (.iload_n 3, 1) := by decide +kernel
theorem dX11_game_98 : decode cX11_game 98 = .ok (.iconst 1, 1) := by decide +kernel
theorem dX11_game_99 : decode cX11_game 99 = .ok (.isub, 1) := by decide +kernel
theorem dX11_game_100 : decode cX11_game 100 = .ok (.iastore, 1) := by decide +kernel
theorem dX11_game_101 : decode cX11_game 101 = .ok (.dup, 1) := by decide +kernel
theorem dX11_game_102 : decode cX11_game 102 = .ok (.iconst 1, 1) := by decide +kernel
theorem dX11_game_103 : decode cX11_game 103 = .ok (.iconst 0, 1) := by decide +kernel
theorem dX11_game_104 : decode cX11_game 104 = .ok (.iastore, 1) := by decide +kernel
theorem dX11_game_105 : decode cX11_game 105 = .ok (.dup, 1) := by decide +kernel
theorem dX11_game_106 : decode cX11_game 106 = .ok (.iconst 2, 1) := by decide +kernel
theorem dX11_game_107 : decode cX11_game 107 = .ok (.iload_n 2, 1) := by decide +kernel
theorem dX11_game_108 : decode cX11_game 108 = .ok (.iconst 1, 1) := by decide +kernel
theorem dX11_game_109 : decode cX11_game 109 = .ok (.isub, 1) := by decide +kernel
theorem dX11_game_110 : decode cX11_game 110 = .ok (.iastore, 1) := by decide +kernel
theorem dX11_game_111 : decode cX11_game 111 = .ok (.dup, 1) := by decide +kernel
theorem dX11_game_112 : decode cX11_game 112 = .ok (.iconst 3, 1) := by decide +kernel
theorem dX11_game_113 : decode cX11_game 113 = .ok (.iload_n 2, 1) := by decide +kernel
theorem dX11_game_114 : decode cX11_game 114 = .ok (.iastore, 1) := by decide +kernel
theorem dX11_game_115 : decode cX11_game 115 = .ok (.astore 5, 2) := by decide +kernel
theorem dX11_game_117 : decode cX11_game 117 = .ok (.iconst 0, 1) := by decide +kernel
theorem dX11_game_118 : decode cX11_game 118 = .ok (.istore 6, 2) := by decide +kernel
theorem dX11_game_120 : decode cX11_game 120 = .ok (.iconst 0, 1) := by decide +kernel
theorem dX11_game_121 : decode cX11_game 121 = .ok (.istore 7, 2) := by decide +kernel
theorem dX11_game_123 : decode cX11_game 123 = .ok (.iload 7, 2) := by decide +kernel
theorem dX11_game_125 : decode cX11_game 125 = .ok (.iconst 4, 1) := by decide +kernel
theorem dX11_game_126 : decode cX11_game 126 = .ok (.if_icmp .ge 48, 3) := by decide +kernel
theorem dX11_game_129 : decode cX11_game 129 = .ok (.aload 4, 2) := by decide +kernel
theorem dX11_game_131 : decode cX11_game 131 = .ok (.iload 7, 2) := by decide +kernel
theorem dX11_game_133 : decode cX11_game 133 = .ok (.iaload, 1) := by decide +kernel
theorem dX11_game_134 : decode cX11_game 134 = .ok (.aload 4, 2) := by decide +kernel
theorem dX11_game_136 : decode cX11_game 136 = .ok (.iload 7, 2) := by decide +kernel
theorem dX11_game_138 : decode cX11_game 138 = .ok (.iconst 2, 1) := by decide +kernel
theorem dX11_game_139 : decode cX11_game 139 = .ok (.ixor, 1) := by decide +kernel
theorem dX11_game_140 : decode cX11_game 140 = .ok (.iaload, 1) := by decide +kernel
theorem dX11_game_141 : decode cX11_game 141 = .ok (.if_icmp .gt 27, 3) := by decide +kernel
theorem dX11_game_144 : decode cX11_game 144 = .ok (.aload 5, 2) := by decide +kernel
theorem dX11_game_146 : decode cX11_game 146 = .ok (.iload 7, 2) := by decide +kernel
theorem dX11_game_148 : decode cX11_game 148 = .ok (.iaload, 1) := by decide +kernel
theorem dX11_game_149 : decode cX11_game 149 = .ok (.aload 5, 2) := by decide +kernel
theorem dX11_game_151 : decode cX11_game 151 = .ok (.iload 7, 2) := by decide +kernel
theorem dX11_game_153 : decode cX11_game 153 = .ok (.iconst 1, 1) := by decide +kernel
theorem dX11_game_154 : decode cX11_game 154 = .ok (.ixor, 1) := by decide +kernel
theorem dX11_game_155 : decode cX11_game 155 = .ok (.iaload, 1) := by decide +kernel
theorem dX11_game_156 : decode cX11_game 156 = .ok (.if_icmp .lt 12, 3) := by decide +kernel
theorem dX11_game_159 : decode cX11_game 159 = .ok (.iload 6, 2) := by decide +kernel
theorem dX11_game_161 : decode cX11_game 161 = .ok (.iconst 1, 1) := by decide +kernel
theorem dX11_game_162 : decode cX11_game 162 = .ok (.iload 7, 2) := by decide +kernel
theorem dX11_game_164 : decode cX11_game 164 = .ok (.ishl, 1) := by decide +kernel
theorem dX11_game_165 : decode cX11_game 165 = .ok (.ior, 1) := by decide +kernel
theorem dX11_game_166 : decode cX11_game 166 = .ok (.istore 6, 2) := by decide +kernel
theorem dX11_game_168 : decode cX11_game 168 = .ok (.iinc 7 1, 3) := by decide +kernel
theorem dX11_game_171 : decode cX11_game 171 = .ok (.goto (-48), 3) := by decide +kernel
theorem dX11_game_174 : decode cX11_game 174 = .ok (.iload 6, 2) := by decide +kernel
theorem dX11_game_176 : decode cX11_game 176 = .ok (.ireturn, 1) := by decide +kernel
theorem dX11_crowd_0 : decode cX11_crowd 0 = .ok (.aload_n 0, 1) := by decide +kernel
theorem dX11_crowd_1 : decode cX11_crowd 1 = .ok (.iload_n 1, 1) := by decide +kernel
theorem dX11_crowd_2 : decode cX11_crowd 2 = .ok (.invokevirtual 125, 3) := by decide +kernel
theorem dX11_crowd_5 : decode cX11_crowd 5 = .ok (.iconst (-1), 1) := by decide +kernel
theorem dX11_crowd_6 : decode cX11_crowd 6 = .ok (.istore_n 2, 1) := by decide +kernel
theorem dX11_crowd_7 : decode cX11_crowd 7 = .ok (.iconst 0, 1) := by decide +kernel
theorem dX11_crowd_8 : decode cX11_crowd 8 = .ok (.istore_n 3, 1) := by decide +kernel
theorem dX11_crowd_9 : decode cX11_crowd 9 = .ok (.iconst 0, 1) := by decide +kernel
theorem dX11_crowd_10 : decode cX11_crowd 10 = .ok (.istore 4, 2) := by decide +kernel
theorem dX11_crowd_12 : decode cX11_crowd 12 = .ok (.iload 4, 2) := by decide +kernel
theorem dX11_crowd_14 : decode cX11_crowd 14 = .ok (.bipush 10, 2) := by decide +kernel
theorem dX11_crowd_16 : decode cX11_crowd 16 = .ok (.if_icmp .ge 33, 3) := by decide +kernel
theorem dX11_crowd_19 : decode cX11_crowd 19 = .ok (.aload_n 0, 1) := by decide +kernel
theorem dX11_crowd_20 : decode cX11_crowd 20 = .ok (.getfield 19, 3) := by decide +kernel
theorem dX11_crowd_23 : decode cX11_crowd 23 = .ok (.iload_n 1, 1) := by decide +kernel
theorem dX11_crowd_24 : decode cX11_crowd 24 = .ok (.iload 4, 2) := by decide +kernel
theorem dX11_crowd_26 : decode cX11_crowd 26 = .ok (.invokevirtual 295, 3) := by decide +kernel
theorem dX11_crowd_29 : decode cX11_crowd 29 = .ok (.istore 5, 2) := by decide +kernel
theorem dX11_crowd_31 : decode cX11_crowd 31 = .ok (.iload 5, 2) := by decide +kernel
theorem dX11_crowd_33 : decode cX11_crowd 33 = .ok (.iload_n 3, 1) := by decide +kernel
theorem dX11_crowd_34 : decode cX11_crowd 34 = .ok (.if_icmp .le 9, 3) := by decide +kernel
theorem dX11_crowd_37 : decode cX11_crowd 37 = .ok (.iload 5, 2) := by decide +kernel
theorem dX11_crowd_39 : decode cX11_crowd 39 = .ok (.istore_n 3, 1) := by decide +kernel
theorem dX11_crowd_40 : decode cX11_crowd 40 = .ok (.iload 4, 2) := by decide +kernel
theorem dX11_crowd_42 : decode cX11_crowd 42 = .ok (.istore_n 2, 1) := by decide +kernel
theorem dX11_crowd_43 : decode cX11_crowd 43 = .ok (.iinc 4 1, 3) := by decide +kernel
theorem dX11_crowd_46 : decode cX11_crowd 46 = .ok (.goto (-34), 3) := by decide +kernel
theorem dX11_crowd_49 : decode cX11_crowd 49 = .ok (.iload_n 2, 1) := by decide +kernel
theorem dX11_crowd_50 : decode cX11_crowd 50 = .ok (.ireturn, 1) := by decide +kernel
theorem dX11_warmer_0 : decode cX11_warmer 0 = .ok (.aload_n 0, 1) := by decide +kernel
theorem dX11_warmer_1 : decode cX11_warmer 1 = .ok (.iload_n 1, 1) := by decide +kernel
theorem dX11_warmer_2 : decode cX11_warmer 2 = .ok (.invokevirtual 125, 3) := by decide +kernel
theorem dX11_warmer_5 : decode cX11_warmer 5 = .ok (.aload_n 0, 1) := by decide +kernel
theorem dX11_warmer_6 : decode cX11_warmer 6 = .ok (.getfield 41, 3) := by decide +kernel
theorem dX11_warmer_9 : decode cX11_warmer 9 = .ok (.invokevirtual 259, 3) := by decide +kernel
theorem dX11_warmer_12 : decode cX11_warmer 12 = .ok (.iconst (-1), 1) := by decide +kernel
theorem dX11_warmer_13 : decode cX11_warmer 13 = .ok (.istore_n 2, 1) := by decide +kernel
theorem dX11_warmer_14 : decode cX11_warmer 14 = .ok (.iconst 0, 1) := by decide +kernel
theorem dX11_warmer_15 : decode cX11_warmer 15 = .ok (.istore_n 3, 1) := by decide +kernel
theorem dX11_warmer_16 : decode cX11_warmer 16 = .ok (.iconst 0, 1) := by decide +kernel
theorem dX11_warmer_17 : decode cX11_warmer 17 = .ok (.istore 4, 2) := by decide +kernel
theorem dX11_warmer_19 : decode cX11_warmer 19 = .ok (.iload 4, 2) := by decide +kernel
theorem dX11_warmer_21 : decode cX11_warmer 21 = .ok (.aload_n 0, 1) := by decide +kernel
theorem dX11_warmer_22 : decode cX11_warmer 22 = .ok (.getfield 19, 3) := by decide +kernel
theorem dX11_warmer_25 : decode cX11_warmer 25 = .ok (.getfield 283, 3) := by decide +kernel
theorem dX11_warmer_28 : decode cX11_warmer 28 = .ok (.if_icmp .ge 66, 3) := by decide +kernel
theorem dX11_warmer_31 : decode cX11_warmer 31 = .ok (.aload_n 0, 1) := by decide +kernel
theorem dX11_warmer_32 : decode cX11_warmer 32 = .ok (.getfield 19, 3) := by decide +kernel
theorem dX11_warmer_35 : decode cX11_warmer 35 = .ok (.getfield 176, 3) := by decide +kernel
theorem dX11_warmer_38 : decode cX11_warmer 38 = .ok (.iload 4, 2) := by decide +kernel
theorem dX11_warmer_40 : decode cX11_warmer 40 = .ok (.aaload, 1) := by decide +kernel
theorem dX11_warmer_41 : decode cX11_warmer 41 = .ok (.astore 5, 2) := by decide +kernel
theorem dX11_warmer_43 : decode cX11_warmer 43 = .ok (.aload 5, 2) := by decide +kernel
theorem dX11_warmer_45 : decode cX11_warmer 45 = .ok (.getfield 180, 3) := by decide +kernel
theorem dX11_warmer_48 : decode cX11_warmer 48 = .ok (.iload_n 1, 1) := by decide +kernel
theorem dX11_warmer_49 : decode cX11_warmer 49 = .ok (.if_icmp .ne 24, 3) := by decide +kernel
theorem dX11_warmer_52 : decode cX11_warmer 52 = .ok (.aload 5, 2) := by decide +kernel
theorem dX11_warmer_54 : decode cX11_warmer 54 = .ok (.getfield 197, 3) := by decide +kernel
theorem dX11_warmer_57 : decode cX11_warmer 57 = .ok (.iconst 1, 1) := by decide +kernel
theorem dX11_warmer_58 : decode cX11_warmer 58 = .ok (.if_icmp .ne 15, 3) := by decide +kernel
theorem dX11_warmer_61 : decode cX11_warmer 61 = .ok (.aload_n 0, 1) := by decide +kernel
theorem dX11_warmer_62 : decode cX11_warmer 62 = .ok (.getfield 41, 3) := by decide +kernel
theorem dX11_warmer_65 : decode cX11_warmer 65 = .ok (.iload 4, 2) := by decide +kernel
theorem dX11_warmer_67 : decode cX11_warmer 67 = .ok (.invokevirtual 298, 3) := by decide +kernel
theorem dX11_warmer_70 : decode cX11_warmer 70 = .ok (.goto 4, 3) := by decide +kernel
theorem dX11_warmer_73 : decode cX11_warmer 73 = .ok (.iconst 0, 1) := by decide +kernel
theorem dX11_warmer_74 : decode cX11_warmer 74 = .ok (.istore 6, 2) := by decide +kernel
theorem dX11_warmer_76 : decode cX11_warmer 76 = .ok (.iload 6, 2) := by decide +kernel
theorem dX11_warmer_78 : decode cX11_warmer 78 = .ok (.iload_n 3, 1) := by decide +kernel
theorem dX11_warmer_79 : decode cX11_warmer 79 = .ok (.if_icmp .le 9, 3) := by decide +kernel
theorem dX11_warmer_82 : decode cX11_warmer 82 = .ok (.iload 6, 2) := by decide +kernel
theorem dX11_warmer_84 : decode cX11_warmer 84 = .ok (.istore_n 3, 1) := by decide +kernel
theorem dX11_warmer_85 : decode cX11_warmer 85 = .ok (.iload 4, 2) := by decide +kernel
theorem dX11_warmer_87 : decode cX11_warmer 87 = .ok (.istore_n 2, 1) := by decide +kernel
theorem dX11_warmer_88 : decode cX11_warmer 88 = .ok (.iinc 4 1, 3) := by decide +kernel
theorem dX11_warmer_91 : decode cX11_warmer 91 = .ok (.goto (-72), 3) := by decide +kernel
theorem dX11_warmer_94 : decode cX11_warmer 94 = .ok (.iload_n 2, 1) := by decide +kernel
theorem dX11_warmer_95 : decode cX11_warmer 95 = .ok (.ireturn, 1) := by decide +kernel
theorem dX11_first_0 : decode cX11_first 0 = .ok (.aload_n 0, 1) := by decide +kernel
theorem dX11_first_1 : decode cX11_first 1 = .ok (.iload_n 1, 1) := by decide +kernel
theorem dX11_first_2 : decode cX11_first 2 = .ok (.iconst 1, 1) := by decide +kernel
theorem dX11_first_3 : decode cX11_first 3 = .ok (.sipush 9999, 3) := by decide +kernel
theorem dX11_first_6 : decode cX11_first 6 = .ok (.invokevirtual 228, 3) := by decide +kernel
theorem dX11_first_9 : decode cX11_first 9 = .ok (.aload_n 0, 1) := by decide +kernel
theorem dX11_first_10 : decode cX11_first 10 = .ok (.getfield 23, 3) := by decide +kernel
theorem dX11_first_13 : decode cX11_first 13 = .ok (.aload_n 0, 1) := by decide +kernel
theorem dX11_first_14 : decode cX11_first 14 = .ok (.getfield 19, 3) := by decide +kernel
theorem dX11_first_17 : decode cX11_first 17 = .ok (.invokevirtual 78, 3) := by decide +kernel
theorem dX11_first_20 : decode cX11_first 20 = .ok (.iconst 0, 1) := by decide +kernel
theorem dX11_first_21 : decode cX11_first 21 = .ok (.istore_n 2, 1) := by decide +kernel
theorem dX11_first_22 : decode cX11_first 22 = .ok (.iload_n 2, 1) := by decide +kernel
theorem dX11_first_23 : decode cX11_first 23 = .ok (.bipush 100, 2) := by decide +kernel
theorem dX11_first_25 : decode cX11_first 25 = .ok (.if_icmp .gt 31, 3) := by decide +kernel
theorem dX11_first_28 : decode cX11_first 28 = .ok (.aload_n 0, 1) := by decide +kernel
theorem dX11_first_29 : decode cX11_first 29 = .ok (.getfield 23, 3) := by decide +kernel
theorem dX11_first_32 : decode cX11_first 32 = .ok (.getfield 301, 3) := by decide +kernel
theorem dX11_first_35 : decode cX11_first 35 = .ok (.iload_n 1, 1) := by decide +kernel
theorem dX11_first_36 : decode cX11_first 36 = .ok (.if_icmp .lt 5, 3) := by decide +kernel
theorem dX11_first_39 : decode cX11_first 39 = .ok (.iload_n 2, 1) := by decide +kernel
theorem dX11_first_40 : decode cX11_first 40 = .ok (.ireturn, 1) := by decide +kernel
theorem dX11_first_41 : decode cX11_first 41 = .ok (.aload_n 0, 1) := by decide +kernel
theorem dX11_first_42 : decode cX11_first 42 = .ok (.getfield 23, 3) := by decide +kernel
theorem dX11_first_45 : decode cX11_first 45 = .ok (.iconst 0, 1) := by decide +kernel
theorem dX11_first_46 : decode cX11_first 46 = .ok (.invokevirtual 241, 3) := by decide +kernel
theorem dX11_first_49 : decode cX11_first 49 = .ok (.pop, 1) := by decide +kernel
theorem dX11_first_50 : decode cX11_first 50 = .ok (.iinc 2 1, 3) := by decide +kernel
theorem dX11_first_53 : decode cX11_first 53 = .ok (.goto (-31), 3) := by decide +kernel
theorem dX11_first_56 : decode cX11_first 56 = .ok (.iconst (-1), 1) := by decide +kernel
theorem dX11_first_57 : decode cX11_first 57 = .ok (.ireturn, 1) := by decide +kernel
theorem dX11_free_0 : decode cX11_free 0 = .ok (.iconst 0, 1) := by decide +kernel
theorem dX11_free_1 : decode cX11_free 1 = .ok (.istore_n 1, 1) := by decide +kernel
theorem dX11_free_2 : decode cX11_free 2 = .ok (.iconst 0, 1) := by decide +kernel
theorem dX11_free_3 : decode cX11_free 3 = .ok (.istore_n 2, 1) := by decide +kernel
theorem dX11_free_4 : decode cX11_free 4 = .ok (.iload_n 2, 1) := by decide +kernel
theorem dX11_free_5 : decode cX11_free 5 = .ok (.aload_n 0, 1) := by decide +kernel
theorem dX11_free_6 : decode cX11_free 6 = .ok (.getfield 19, 3) := by decide +kernel
theorem dX11_free_9 : decode cX11_free 9 = .ok (.getfield 283, 3) := by decide +kernel
theorem dX11_free_12 : decode cX11_free 12 = .ok (.if_icmp .ge 42, 3) := by decide +kernel
theorem dX11_free_15 : decode cX11_free 15 = .ok (.aload_n 0, 1) := by decide +kernel
theorem dX11_free_16 : decode cX11_free 16 = .ok (.getfield 19, 3) := by decide +kernel
theorem dX11_free_19 : decode cX11_free 19 = .ok (.getfield 176, 3) := by decide +kernel
theorem dX11_free_22 : decode cX11_free 22 = .ok (.iload_n 2, 1) := by decide +kernel
theorem dX11_free_23 : decode cX11_free 23 = .ok (.aaload, 1) := by decide +kernel
theorem dX11_free_24 : decode cX11_free 24 = .ok (.getfield 197, 3) := by decide +kernel
theorem dX11_free_27 : decode cX11_free 27 = .ok (.iconst 1, 1) := by decide +kernel
theorem dX11_free_28 : decode cX11_free 28 = .ok (.if_icmp .eq 20, 3) := by decide +kernel
theorem dX11_free_31 : decode cX11_free 31 = .ok (.aload_n 0, 1) := by decide +kernel
theorem dX11_free_32 : decode cX11_free 32 = .ok (.getfield 19, 3) := by decide +kernel
theorem dX11_free_35 : decode cX11_free 35 = .ok (.iload_n 2, 1) := by decide +kernel
theorem dX11_free_36 : decode cX11_free 36 = .ok (.invokevirtual 200, 3) := by decide +kernel
theorem dX11_free_39 : decode cX11_free 39 = .ok (.ifCond .ne 9, 3) := by decide +kernel
theorem dX11_free_42 : decode cX11_free 42 = .ok (.iload_n 1, 1) := by decide +kernel
theorem dX11_free_43 : decode cX11_free 43 = .ok (.iconst 1, 1) := by decide +kernel
theorem dX11_free_44 : decode cX11_free 44 = .ok (.iload_n 2, 1) := by decide +kernel
theorem dX11_free_45 : decode cX11_free 45 = .ok (.ishl, 1) := by decide +kernel
theorem dX11_free_46 : decode cX11_free 46 = .ok (.ior, 1) := by decide +kernel
theorem dX11_free_47 : decode cX11_free 47 = .ok (.istore_n 1, 1) := by decide +kernel
theorem dX11_free_48 : decode cX11_free 48 = .ok (.iinc 2 1, 3) := by decide +kernel
theorem dX11_free_51 : decode cX11_free 51 = .ok (.goto (-47), 3) := by decide +kernel
theorem dX11_free_54 : decode cX11_free 54 = .ok (.iload_n 1, 1) := by decide +kernel
theorem dX11_free_55 : decode cX11_free 55 = .ok (.ireturn, 1) := by decide +kernel
theorem dX11_hidden_0 : decode cX11_hidden 0 = .ok (.aload_n 0, 1) := by decide +kernel
theorem dX11_hidden_1 : decode cX11_hidden 1 = .ok (.getfield 19, 3) := by decide +kernel
theorem dX11_hidden_4 : decode cX11_hidden 4 = .ok (.iconst 2, 1) := by decide +kernel
theorem dX11_hidden_5 : decode cX11_hidden 5 = .ok (.invokevirtual 304, 3) := by decide +kernel
theorem dX11_hidden_8 : decode cX11_hidden 8 = .ok (.ireturn, 1) := by decide +kernel
theorem dX11_cheapest_0 : decode cX11_cheapest 0 = .ok (.iconst (-1), 1) := by decide +kernel
theorem dX11_cheapest_1 : decode cX11_cheapest 1 = .ok (.istore_n 1, 1) := by decide +kernel
theorem dX11_cheapest_2 : decode cX11_cheapest 2 = .ok (.iconst 0, 1) := by decide +kernel
theorem dX11_cheapest_3 : decode cX11_cheapest 3 = .ok (.istore_n 2, 1) := by decide +kernel
theorem dX11_cheapest_4 : decode cX11_cheapest 4 = .ok (.iconst 0, 1) := by decide +kernel
theorem dX11_cheapest_5 : decode cX11_cheapest 5 = .ok (.istore_n 3, 1) := by decide +kernel
theorem dX11_cheapest_6 : decode cX11_cheapest 6 = .ok (.iconst 0, 1) := by decide +kernel
theorem dX11_cheapest_7 : decode cX11_cheapest 7 = .ok (.istore 4, 2) := by decide +kernel
theorem dX11_cheapest_9 : decode cX11_cheapest 9 = .ok (.iload 4, 2) := by decide +kernel
theorem dX11_cheapest_11 : decode cX11_cheapest 11 = .ok (.aload_n 0, 1) := by decide +kernel
theorem dX11_cheapest_12 : decode cX11_cheapest 12 = .ok (.getfield 19, 3) := by decide +kernel
theorem dX11_cheapest_15 : decode cX11_cheapest 15 = .ok (.getfield 283, 3) := by decide +kernel
theorem dX11_cheapest_18 : decode cX11_cheapest 18 = .ok (.if_icmp .ge 65, 3) := by decide +kernel
theorem dX11_cheapest_21 : decode cX11_cheapest 21 = .ok (.aload_n 0, 1) := by decide +kernel
theorem dX11_cheapest_22 : decode cX11_cheapest 22 = .ok (.getfield 19, 3) := by decide +kernel
theorem dX11_cheapest_25 : decode cX11_cheapest 25 = .ok (.getfield 176, 3) := by decide +kernel
theorem dX11_cheapest_28 : decode cX11_cheapest 28 = .ok (.iload 4, 2) := by decide +kernel
theorem dX11_cheapest_30 : decode cX11_cheapest 30 = .ok (.aaload, 1) := by decide +kernel
theorem dX11_cheapest_31 : decode cX11_cheapest 31 = .ok (.getfield 194, 3) := by decide +kernel
theorem dX11_cheapest_34 : decode cX11_cheapest 34 = .ok (.istore 5, 2) := by decide +kernel
theorem dX11_cheapest_36 : decode cX11_cheapest 36 = .ok (.aload_n 0, 1) := by decide +kernel
theorem dX11_cheapest_37 : decode cX11_cheapest 37 = .ok (.getfield 19, 3) := by decide +kernel
theorem dX11_cheapest_40 : decode cX11_cheapest 40 = .ok (.iload 4, 2) := by decide +kernel
theorem dX11_cheapest_42 : decode cX11_cheapest 42 = .ok (.invokevirtual 200, 3) := by decide +kernel
theorem dX11_cheapest_45 : decode cX11_cheapest 45 = .ok (.istore 6, 2) := by decide +kernel
theorem dX11_cheapest_47 : decode cX11_cheapest 47 = .ok (.iload 6, 2) := by decide +kernel
theorem dX11_cheapest_49 : decode cX11_cheapest 49 = .ok (.ifCond .le 28, 3) := by decide +kernel
theorem dX11_cheapest_52 : decode cX11_cheapest 52 = .ok (.iload_n 1, 1) := by decide +kernel
theorem dX11_cheapest_53 : decode cX11_cheapest 53 = .ok (.iconst (-1), 1) := by decide +kernel
theorem dX11_cheapest_54 : decode cX11_cheapest 54 = .ok (.if_icmp .eq 14, 3) := by decide +kernel
theorem dX11_cheapest_57 : decode cX11_cheapest 57 = .ok (.iload 5, 2) := by decide +kernel
theorem dX11_cheapest_59 : decode cX11_cheapest 59 = .ok (.iload_n 3, 1) := by decide +kernel
theorem dX11_cheapest_60 : decode cX11_cheapest 60 = .ok (.imul, 1) := by decide +kernel
theorem dX11_cheapest_61 : decode cX11_cheapest 61 = .ok (.iload_n 2, 1) := by decide +kernel
theorem dX11_cheapest_62 : decode cX11_cheapest 62 = .ok (.iload 6, 2) := by decide +kernel
theorem dX11_cheapest_64 : decode cX11_cheapest 64 = .ok (.imul, 1) := by decide +kernel
theorem dX11_cheapest_65 : decode cX11_cheapest 65 = .ok (.if_icmp .ge 12, 3) := by decide +kernel
theorem dX11_cheapest_68 : decode cX11_cheapest 68 = .ok (.iload 4, 2) := by decide +kernel
theorem dX11_cheapest_70 : decode cX11_cheapest 70 = .ok (.istore_n 1, 1) := by decide +kernel
theorem dX11_cheapest_71 : decode cX11_cheapest 71 = .ok (.iload 5, 2) := by decide +kernel
theorem dX11_cheapest_73 : decode cX11_cheapest 73 = .ok (.istore_n 2, 1) := by decide +kernel
theorem dX11_cheapest_74 : decode cX11_cheapest 74 = .ok (.iload 6, 2) := by decide +kernel
theorem dX11_cheapest_76 : decode cX11_cheapest 76 = .ok (.istore_n 3, 1) := by decide +kernel
theorem dX11_cheapest_77 : decode cX11_cheapest 77 = .ok (.iinc 4 1, 3) := by decide +kernel
theorem dX11_cheapest_80 : decode cX11_cheapest 80 = .ok (.goto (-71), 3) := by decide +kernel
theorem dX11_cheapest_83 : decode cX11_cheapest 83 = .ok (.iload_n 1, 1) := by decide +kernel
theorem dX11_cheapest_84 : decode cX11_cheapest 84 = .ok (.ireturn, 1) := by decide +kernel
theorem dX11_least_0 : decode cX11_least 0 = .ok (.aload_n 0, 1) := by decide +kernel
theorem dX11_least_1 : decode cX11_least 1 = .ok (.iload_n 1, 1) := by decide +kernel
theorem dX11_least_2 : decode cX11_least 2 = .ok (.invokevirtual 125, 3) := by decide +kernel
theorem dX11_least_5 : decode cX11_least 5 = .ok (.aload_n 0, 1) := by decide +kernel
theorem dX11_least_6 : decode cX11_least 6 = .ok (.iload_n 2, 1) := by decide +kernel
theorem dX11_least_7 : decode cX11_least 7 = .ok (.iconst 0, 1) := by decide +kernel
theorem dX11_least_8 : decode cX11_least 8 = .ok (.sipush 999, 3) := by decide +kernel
theorem dX11_least_11 : decode cX11_least 11 = .ok (.invokevirtual 228, 3) := by decide +kernel
theorem dX11_least_14 : decode cX11_least 14 = .ok (.aload_n 0, 1) := by decide +kernel
theorem dX11_least_15 : decode cX11_least 15 = .ok (.getfield 41, 3) := by decide +kernel
theorem dX11_least_18 : decode cX11_least 18 = .ok (.invokevirtual 259, 3) := by decide +kernel
theorem dX11_least_21 : decode cX11_least 21 = .ok (.aload_n 0, 1) := by decide +kernel
theorem dX11_least_22 : decode cX11_least 22 = .ok (.getfield 41, 3) := by decide +kernel
theorem dX11_least_25 : decode cX11_least 25 = .ok (.iload_n 1, 1) := by decide +kernel
theorem dX11_least_26 : decode cX11_least 26 = .ok (.iload_n 2, 1) := by decide +kernel
theorem dX11_least_27 : decode cX11_least 27 = .ok (.invokevirtual 307, 3) := by decide +kernel
theorem dX11_least_30 : decode cX11_least 30 = .ok (.ireturn, 1) := by decide +kernel
theorem dX11_ahead_0 : decode cX11_ahead 0 = .ok (.aload_n 0, 1) := by decide +kernel
theorem dX11_ahead_1 : decode cX11_ahead 1 = .ok (.iload_n 1, 1) := by decide +kernel
theorem dX11_ahead_2 : decode cX11_ahead 2 = .ok (.invokevirtual 125, 3) := by decide +kernel
theorem dX11_ahead_5 : decode cX11_ahead 5 = .ok (.aload_n 0, 1) := by decide +kernel
theorem dX11_ahead_6 : decode cX11_ahead 6 = .ok (.iload_n 2, 1) := by decide +kernel
theorem dX11_ahead_7 : decode cX11_ahead 7 = .ok (.iconst 0, 1) := by decide +kernel
theorem dX11_ahead_8 : decode cX11_ahead 8 = .ok (.bipush 100, 2) := by decide +kernel
theorem dX11_ahead_10 : decode cX11_ahead 10 = .ok (.invokevirtual 228, 3) := by decide +kernel
theorem dX11_ahead_13 : decode cX11_ahead 13 = .ok (.aload_n 0, 1) := by decide +kernel
theorem dX11_ahead_14 : decode cX11_ahead 14 = .ok (.getfield 23, 3) := by decide +kernel
theorem dX11_ahead_17 : decode cX11_ahead 17 = .ok (.aload_n 0, 1) := by decide +kernel
theorem dX11_ahead_18 : decode cX11_ahead 18 = .ok (.getfield 19, 3) := by decide +kernel
theorem dX11_ahead_21 : decode cX11_ahead 21 = .ok (.invokevirtual 78, 3) := by decide +kernel
theorem dX11_ahead_24 : decode cX11_ahead 24 = .ok (.iconst 0, 1) := by decide +kernel
theorem dX11_ahead_25 : decode cX11_ahead 25 = .ok (.istore_n 3, 1) := by decide +kernel
theorem dX11_ahead_26 : decode cX11_ahead 26 = .ok (.iload_n 3, 1) := by decide +kernel
theorem dX11_ahead_27 : decode cX11_ahead 27 = .ok (.iload_n 2, 1) := by decide +kernel
theorem dX11_ahead_28 : decode cX11_ahead 28 = .ok (.if_icmp .ge 18, 3) := by decide +kernel
theorem dX11_ahead_31 : decode cX11_ahead 31 = .ok (.aload_n 0, 1) := by decide +kernel
theorem dX11_ahead_32 : decode cX11_ahead 32 = .ok (.getfield 23, 3) := by decide +kernel
theorem dX11_ahead_35 : decode cX11_ahead 35 = .ok (.iconst 0, 1) := by decide +kernel
theorem dX11_ahead_36 : decode cX11_ahead 36 = .ok (.invokevirtual 241, 3) := by decide +kernel
theorem dX11_ahead_39 : decode cX11_ahead 39 = .ok (.pop, 1) := by decide +kernel
theorem dX11_ahead_40 : decode cX11_ahead 40 = .ok (.iinc 3 1, 3) := by decide +kernel
theorem dX11_ahead_43 : decode cX11_ahead 43 = .ok (.goto (-17), 3) := by decide +kernel
theorem dX11_ahead_46 : decode cX11_ahead 46 = .ok (.aload_n 0, 1) := by decide +kernel
theorem dX11_ahead_47 : decode cX11_ahead 47 = .ok (.getfield 23, 3) := by decide +kernel
theorem dX11_ahead_50 : decode cX11_ahead 50 = .ok (.getfield 128, 3) := by decide +kernel
theorem dX11_ahead_53 : decode cX11_ahead 53 = .ok (.iload_n 1, 1) := by decide +kernel
theorem dX11_ahead_54 : decode cX11_ahead 54 = .ok (.aaload, 1) := by decide +kernel
theorem dX11_ahead_55 : decode cX11_ahead 55 = .ok (.getfield 132, 3) := by decide +kernel
theorem dX11_ahead_58 : decode cX11_ahead 58 = .ok (.ireturn, 1) := by decide +kernel
theorem dX11_trial_0 : decode cX11_trial 0 = .ok (.aload_n 0, 1) := by decide +kernel
theorem dX11_trial_1 : decode cX11_trial 1 = .ok (.iload_n 1, 1) := by decide +kernel
theorem dX11_trial_2 : decode cX11_trial 2 = .ok (.iconst 0, 1) := by decide +kernel
theorem dX11_trial_3 : decode cX11_trial 3 = .ok (.bipush 100, 2) := by decide +kernel
theorem dX11_trial_5 : decode cX11_trial 5 = .ok (.invokevirtual 228, 3) := by decide +kernel
theorem dX11_trial_8 : decode cX11_trial 8 = .ok (.aload_n 0, 1) := by decide +kernel
theorem dX11_trial_9 : decode cX11_trial 9 = .ok (.iload_n 1, 1) := by decide +kernel
theorem dX11_trial_10 : decode cX11_trial 10 = .ok (.aload_n 0, 1) := by decide +kernel
theorem dX11_trial_11 : decode cX11_trial 11 = .ok (.getfield 19, 3) := by decide +kernel
theorem dX11_trial_14 : decode cX11_trial 14 = .ok (.getfield 310, 3) := by decide +kernel
theorem dX11_trial_17 : decode cX11_trial 17 = .ok (.invokevirtual 313, 3) := by decide +kernel
theorem dX11_trial_20 : decode cX11_trial 20 = .ok (.iload_n 2, 1) := by decide +kernel
theorem dX11_trial_21 : decode cX11_trial 21 = .ok (.ifCond .eq 14, 3) := by decide +kernel
theorem dX11_trial_24 : decode cX11_trial 24 = .ok (.aload_n 0, 1) := by decide +kernel
theorem dX11_trial_25 : decode cX11_trial 25 = .ok (.getfield 23, 3) := by decide +kernel
theorem dX11_trial_28 : decode cX11_trial 28 = .ok (.iconst 2, 1) := by decide +kernel
theorem dX11_trial_29 : decode cX11_trial 29 = .ok (.invokevirtual 304, 3) := by decide +kernel
theorem dX11_trial_32 : decode cX11_trial 32 = .ok (.goto 10, 3) := by decide +kernel
theorem dX11_trial_35 : decode cX11_trial 35 = .ok (.aload_n 0, 1) := by decide +kernel
theorem dX11_trial_36 : decode cX11_trial 36 = .ok (.getfield 23, 3) := by decide +kernel
theorem dX11_trial_39 : decode cX11_trial 39 = .ok (.getfield 301, 3) := by decide +kernel
theorem dX11_trial_42 : decode cX11_trial 42 = .ok (.ireturn, 1) := by decide +kernel
theorem dX11_span_0 : decode cX11_span 0 = .ok (.aload_n 0, 1) := by decide +kernel
theorem dX11_span_1 : decode cX11_span 1 = .ok (.iload_n 1, 1) := by decide +kernel
theorem dX11_span_2 : decode cX11_span 2 = .ok (.iconst 0, 1) := by decide +kernel
theorem dX11_span_3 : decode cX11_span 3 = .ok (.bipush 100, 2) := by decide +kernel
theorem dX11_span_5 : decode cX11_span 5 = .ok (.invokevirtual 228, 3) := by decide +kernel
theorem dX11_span_8 : decode cX11_span 8 = .ok (.iconst (-1), 1) := by decide +kernel
theorem dX11_span_9 : decode cX11_span 9 = .ok (.istore_n 3, 1) := by decide +kernel
theorem dX11_span_10 : decode cX11_span 10 = .ok (.iconst 1, 1) := by decide +kernel
theorem dX11_span_11 : decode cX11_span 11 = .ok (.istore 4, 2) := by decide +kernel
theorem dX11_span_13 : decode cX11_span 13 = .ok (.iload 4, 2) := by decide +kernel
theorem dX11_span_15 : decode cX11_span 15 = .ok (.bipush 6, 2) := by decide +kernel
theorem dX11_span_17 : decode cX11_span 17 = .ok (.if_icmp .gt 58, 3) := by decide +kernel
theorem dX11_span_20 : decode cX11_span 20 = .ok (.aload_n 0, 1) := by decide +kernel
theorem dX11_span_21 : decode cX11_span 21 = .ok (.iload_n 1, 1) := by decide +kernel
theorem dX11_span_22 : decode cX11_span 22 = .ok (.iload 4, 2) := by decide +kernel
theorem dX11_span_24 : decode cX11_span 24 = .ok (.invokevirtual 313, 3) := by decide +kernel
theorem dX11_span_27 : decode cX11_span 27 = .ok (.iload_n 3, 1) := by decide +kernel
theorem dX11_span_28 : decode cX11_span 28 = .ok (.iconst (-1), 1) := by decide +kernel
theorem dX11_span_29 : decode cX11_span 29 = .ok (.if_icmp .eq 32, 3) := by decide +kernel
theorem dX11_span_32 : decode cX11_span 32 = .ok (.iload_n 2, 1) := by decide +kernel
theorem dX11_span_33 : decode cX11_span 33 = .ok (.ifCond .eq 17, 3) := by decide +kernel
theorem dX11_span_36 : decode cX11_span 36 = .ok (.aload_n 0, 1) := by decide +kernel
theorem dX11_span_37 : decode cX11_span 37 = .ok (.getfield 23, 3) := by decide +kernel
theorem dX11_span_40 : decode cX11_span 40 = .ok (.getfield 301, 3) := by decide +kernel
theorem dX11_span_43 : decode cX11_span 43 = .ok (.iload_n 3, 1) := by decide +kernel
theorem dX11_span_44 : decode cX11_span 44 = .ok (.if_icmp .le 25, 3) := by decide +kernel
theorem dX11_span_47 : decode cX11_span 47 = .ok (.goto 14, 3) := by decide +kernel
theorem dX11_span_50 : decode cX11_span 50 = .ok (.aload_n 0, 1) := by decide +kernel
theorem dX11_span_51 : decode cX11_span 51 = .ok (.getfield 23, 3) := by decide +kernel
theorem dX11_span_54 : decode cX11_span 54 = .ok (.getfield 301, 3) := by decide +kernel
theorem dX11_span_57 : decode cX11_span 57 = .ok (.iload_n 3, 1) := by decide +kernel
theorem dX11_span_58 : decode cX11_span 58 = .ok (.if_icmp .ge 11, 3) := by decide +kernel
theorem dX11_span_61 : decode cX11_span 61 = .ok (.aload_n 0, 1) := by decide +kernel
theorem dX11_span_62 : decode cX11_span 62 = .ok (.getfield 23, 3) := by decide +kernel
theorem dX11_span_65 : decode cX11_span 65 = .ok (.getfield 301, 3) := by decide +kernel
theorem dX11_span_68 : decode cX11_span 68 = .ok (.istore_n 3, 1) := by decide +kernel
theorem dX11_span_69 : decode cX11_span 69 = .ok (.iinc 4 1, 3) := by decide +kernel
theorem dX11_span_72 : decode cX11_span 72 = .ok (.goto (-59), 3) := by decide +kernel
theorem dX11_span_75 : decode cX11_span 75 = .ok (.iload_n 3, 1) := by decide +kernel
theorem dX11_span_76 : decode cX11_span 76 = .ok (.ireturn, 1) := by decide +kernel
theorem dX11_led_0 : decode cX11_led 0 = .ok (.aload_n 0, 1) := by decide +kernel
theorem dX11_led_1 : decode cX11_led 1 = .ok (.iload_n 1, 1) := by decide +kernel
theorem dX11_led_2 : decode cX11_led 2 = .ok (.invokevirtual 125, 3) := by decide +kernel
theorem dX11_led_5 : decode cX11_led 5 = .ok (.iload_n 2, 1) := by decide +kernel
theorem dX11_led_6 : decode cX11_led 6 = .ok (.ifCond .eq 17, 3) := by decide +kernel
theorem dX11_led_9 : decode cX11_led 9 = .ok (.aload_n 0, 1) := by decide +kernel
theorem dX11_led_10 : decode cX11_led 10 = .ok (.getfield 19, 3) := by decide +kernel
theorem dX11_led_13 : decode cX11_led 13 = .ok (.getfield 317, 3) := by decide +kernel
theorem dX11_led_16 : decode cX11_led 16 = .ok (.iload_n 1, 1) := by decide +kernel
theorem dX11_led_17 : decode cX11_led 17 = .ok (.invokevirtual 321, 3) := by decide +kernel
theorem dX11_led_20 : decode cX11_led 20 = .ok (.goto 14, 3) := by decide +kernel
theorem dX11_led_23 : decode cX11_led 23 = .ok (.aload_n 0, 1) := by decide +kernel
theorem dX11_led_24 : decode cX11_led 24 = .ok (.getfield 19, 3) := by decide +kernel
theorem dX11_led_27 : decode cX11_led 27 = .ok (.getfield 317, 3) := by decide +kernel
theorem dX11_led_30 : decode cX11_led 30 = .ok (.iload_n 1, 1) := by decide +kernel
theorem dX11_led_31 : decode cX11_led 31 = .ok (.invokevirtual 326, 3) := by decide +kernel
theorem dX11_led_34 : decode cX11_led 34 = .ok (.ireturn, 1) := by decide +kernel
theorem dX11_log_0 : decode cX11_log 0 = .ok (.iload_n 2, 1) := by decide +kernel
theorem dX11_log_1 : decode cX11_log 1 = .ok (.ifCond .lt 8, 3) := by decide +kernel
theorem dX11_log_4 : decode cX11_log 4 = .ok (.iload_n 2, 1) := by decide +kernel
theorem dX11_log_5 : decode cX11_log 5 = .ok (.iconst 4, 1) := by decide +kernel
theorem dX11_log_6 : decode cX11_log 6 = .ok (.if_icmp .lt 14, 3) := by decide +kernel
theorem dX11_log_9 : decode cX11_log 9 = .ok (.new 168, 3) := by decide +kernel
theorem dX11_log_12 : decode cX11_log 12 = .ok (.dup, 1) := by decide +kernel
theorem dX11_log_13 : decode cX11_log 13 = .ok (.ldc_w 329, 3) := by decide +kernel
theorem dX11_log_16 : decode cX11_log 16 = .ok (.invokespecial 172, 3) := by decide +kernel
theorem dX11_log_19 : decode cX11_log 19 = .ok (.athrow, 1) := by decide +kernel
theorem dX11_log_20 : decode cX11_log 20 = .ok (.aload_n 0, 1) := by decide +kernel
theorem dX11_log_21 : decode cX11_log 21 = .ok (.getfield 19, 3) := by decide +kernel
theorem dX11_log_24 : decode cX11_log 24 = .ok (.getfield 317, 3) := by decide +kernel
theorem dX11_log_27 : decode cX11_log 27 = .ok (.iload_n 1, 1) := by decide +kernel
theorem dX11_log_28 : decode cX11_log 28 = .ok (.iload_n 2, 1) := by decide +kernel
theorem dX11_log_29 : decode cX11_log 29 = .ok (.invokevirtual 331, 3) := by decide +kernel
theorem dX11_log_32 : decode cX11_log 32 = .ok (.ireturn, 1) := by decide +kernel
theorem dX11_seed_0 : decode cX11_seed 0 = .ok (.aload_n 0, 1) := by decide +kernel
theorem dX11_seed_1 : decode cX11_seed 1 = .ok (.getfield 19, 3) := by decide +kernel
theorem dX11_seed_4 : decode cX11_seed 4 = .ok (.getfield 310, 3) := by decide +kernel
theorem dX11_seed_7 : decode cX11_seed 7 = .ok (.istore_n 2, 1) := by decide +kernel
theorem dX11_seed_8 : decode cX11_seed 8 = .ok (.aload_n 0, 1) := by decide +kernel
theorem dX11_seed_9 : decode cX11_seed 9 = .ok (.getfield 19, 3) := by decide +kernel
theorem dX11_seed_12 : decode cX11_seed 12 = .ok (.iload_n 1, 1) := by decide +kernel
theorem dX11_seed_13 : decode cX11_seed 13 = .ok (.putfield 310, 3) := by decide +kernel
theorem dX11_seed_16 : decode cX11_seed 16 = .ok (.iload_n 2, 1) := by decide +kernel
theorem dX11_seed_17 : decode cX11_seed 17 = .ok (.ireturn, 1) := by decide +kernel
theorem dX11_undo_0 : decode cX11_undo 0 = .ok (.aload_n 0, 1) := by decide +kernel
theorem dX11_undo_1 : decode cX11_undo 1 = .ok (.getfield 32, 3) := by decide +kernel
theorem dX11_undo_4 : decode cX11_undo 4 = .ok (.aload_n 0, 1) := by decide +kernel
theorem dX11_undo_5 : decode cX11_undo 5 = .ok (.getfield 19, 3) := by decide +kernel
theorem dX11_undo_8 : decode cX11_undo 8 = .ok (.invokevirtual 334, 3) := by decide +kernel
theorem dX11_undo_11 : decode cX11_undo 11 = .ok (.ireturn, 1) := by decide +kernel
theorem dX11_image_0 : decode cX11_image 0 = .ok (.aload_n 0, 1) := by decide +kernel
theorem dX11_image_1 : decode cX11_image 1 = .ok (.getfield 26, 3) := by decide +kernel
theorem dX11_image_4 : decode cX11_image 4 = .ok (.aload_n 0, 1) := by decide +kernel
theorem dX11_image_5 : decode cX11_image 5 = .ok (.getfield 19, 3) := by decide +kernel
theorem dX11_image_8 : decode cX11_image 8 = .ok (.invokevirtual 78, 3) := by decide +kernel
theorem dX11_image_11 : decode cX11_image 11 = .ok (.aload_n 0, 1) := by decide +kernel
theorem dX11_image_12 : decode cX11_image 12 = .ok (.iconst 1, 1) := by decide +kernel
theorem dX11_image_13 : decode cX11_image 13 = .ok (.putfield 63, 3) := by decide +kernel
theorem dX11_image_16 : decode cX11_image 16 = .ok (.return_, 1) := by decide +kernel
theorem dX11_back_0 : decode cX11_back 0 = .ok (.aload_n 0, 1) := by decide +kernel
theorem dX11_back_1 : decode cX11_back 1 = .ok (.getfield 63, 3) := by decide +kernel
theorem dX11_back_4 : decode cX11_back 4 = .ok (.ifCond .ne 5, 3) := by decide +kernel
theorem dX11_back_7 : decode cX11_back 7 = .ok (.iconst 0, 1) := by decide +kernel
theorem dX11_back_8 : decode cX11_back 8 = .ok (.ireturn, 1) := by decide +kernel
theorem dX11_back_9 : decode cX11_back 9 = .ok (.aload_n 0, 1) := by decide +kernel
theorem dX11_back_10 : decode cX11_back 10 = .ok (.getfield 19, 3) := by decide +kernel
theorem dX11_back_13 : decode cX11_back 13 = .ok (.aload_n 0, 1) := by decide +kernel
theorem dX11_back_14 : decode cX11_back 14 = .ok (.getfield 26, 3) := by decide +kernel
theorem dX11_back_17 : decode cX11_back 17 = .ok (.invokevirtual 78, 3) := by decide +kernel
theorem dX11_back_20 : decode cX11_back 20 = .ok (.aload_n 0, 1) := by decide +kernel
theorem dX11_back_21 : decode cX11_back 21 = .ok (.getfield 32, 3) := by decide +kernel
theorem dX11_back_24 : decode cX11_back 24 = .ok (.invokevirtual 103, 3) := by decide +kernel
theorem dX11_back_27 : decode cX11_back 27 = .ok (.iconst 1, 1) := by decide +kernel
theorem dX11_back_28 : decode cX11_back 28 = .ok (.ireturn, 1) := by decide +kernel
theorem dX11_count_0 : decode cX11_count 0 = .ok (.iload_n 1, 1) := by decide +kernel
theorem dX11_count_1 : decode cX11_count 1 = .ok (.tableswitch 217 0 14 #[75, 83, 91, 99, 124, 132, 140, 148, 156, 164, 172, 181, 190, 198, 209], 75) := by decide +kernel
theorem dX11_count_76 : decode cX11_count 76 = .ok (.aload_n 0, 1) := by decide +kernel
theorem dX11_count_77 : decode cX11_count 77 = .ok (.getfield 19, 3) := by decide +kernel
theorem dX11_count_80 : decode cX11_count 80 = .ok (.getfield 247, 3) := by decide +kernel
theorem dX11_count_83 : decode cX11_count 83 = .ok (.ireturn, 1) := by decide +kernel
theorem dX11_count_84 : decode cX11_count 84 = .ok (.aload_n 0, 1) := by decide +kernel
theorem dX11_count_85 : decode cX11_count 85 = .ok (.getfield 19, 3) := by decide +kernel
theorem dX11_count_88 : decode cX11_count 88 = .ok (.getfield 283, 3) := by decide +kernel
theorem dX11_count_91 : decode cX11_count 91 = .ok (.ireturn, 1) := by decide +kernel
theorem dX11_count_92 : decode cX11_count 92 = .ok (.aload_n 0, 1) := by decide +kernel
theorem dX11_count_93 : decode cX11_count 93 = .ok (.getfield 19, 3) := by decide +kernel
theorem dX11_count_96 : decode cX11_count 96 = .ok (.getfield 95, 3) := by decide +kernel
theorem dX11_count_99 : decode cX11_count 99 = .ok (.ireturn, 1) := by decide +kernel
theorem dX11_count_100 : decode cX11_count 100 = .ok (.aload_n 0, 1) := by decide +kernel
theorem dX11_count_101 : decode cX11_count 101 = .ok (.getfield 19, 3) := by decide +kernel
theorem dX11_count_104 : decode cX11_count 104 = .ok (.getfield 116, 3) := by decide +kernel
theorem dX11_count_107 : decode cX11_count 107 = .ok (.ifnonnull 7, 3) := by decide +kernel
theorem dX11_count_110 : decode cX11_count 110 = .ok (.iconst (-1), 1) := by decide +kernel
theorem dX11_count_111 : decode cX11_count 111 = .ok (.goto 13, 3) := by decide +kernel
theorem dX11_count_114 : decode cX11_count 114 = .ok (.aload_n 0, 1) := by decide +kernel
theorem dX11_count_115 : decode cX11_count 115 = .ok (.getfield 19, 3) := by decide +kernel
theorem dX11_count_118 : decode cX11_count 118 = .ok (.getfield 116, 3) := by decide +kernel
theorem dX11_count_121 : decode cX11_count 121 = .ok (.getfield 120, 3) := by decide +kernel
theorem dX11_count_124 : decode cX11_count 124 = .ok (.ireturn, 1) := by decide +kernel
theorem dX11_count_125 : decode cX11_count 125 = .ok (.aload_n 0, 1) := by decide +kernel
theorem dX11_count_126 : decode cX11_count 126 = .ok (.getfield 19, 3) := by decide +kernel
theorem dX11_count_129 : decode cX11_count 129 = .ok (.getfield 338, 3) := by decide +kernel
theorem dX11_count_132 : decode cX11_count 132 = .ok (.ireturn, 1) := by decide +kernel
theorem dX11_count_133 : decode cX11_count 133 = .ok (.aload_n 0, 1) := by decide +kernel
theorem dX11_count_134 : decode cX11_count 134 = .ok (.getfield 19, 3) := by decide +kernel
theorem dX11_count_137 : decode cX11_count 137 = .ok (.getfield 232, 3) := by decide +kernel
theorem dX11_count_140 : decode cX11_count 140 = .ok (.ireturn, 1) := by decide +kernel
theorem dX11_count_141 : decode cX11_count 141 = .ok (.aload_n 0, 1) := by decide +kernel
theorem dX11_count_142 : decode cX11_count 142 = .ok (.getfield 19, 3) := by decide +kernel
theorem dX11_count_145 : decode cX11_count 145 = .ok (.getfield 292, 3) := by decide +kernel
theorem dX11_count_148 : decode cX11_count 148 = .ok (.ireturn, 1) := by decide +kernel
theorem dX11_count_149 : decode cX11_count 149 = .ok (.aload_n 0, 1) := by decide +kernel
theorem dX11_count_150 : decode cX11_count 150 = .ok (.getfield 19, 3) := by decide +kernel
theorem dX11_count_153 : decode cX11_count 153 = .ok (.getfield 289, 3) := by decide +kernel
theorem dX11_count_156 : decode cX11_count 156 = .ok (.ireturn, 1) := by decide +kernel
theorem dX11_count_157 : decode cX11_count 157 = .ok (.aload_n 0, 1) := by decide +kernel
theorem dX11_count_158 : decode cX11_count 158 = .ok (.getfield 19, 3) := by decide +kernel
theorem dX11_count_161 : decode cX11_count 161 = .ok (.getfield 218, 3) := by decide +kernel
theorem dX11_count_164 : decode cX11_count 164 = .ok (.ireturn, 1) := by decide +kernel
theorem dX11_count_165 : decode cX11_count 165 = .ok (.aload_n 0, 1) := by decide +kernel
theorem dX11_count_166 : decode cX11_count 166 = .ok (.getfield 19, 3) := by decide +kernel
theorem dX11_count_169 : decode cX11_count 169 = .ok (.getfield 301, 3) := by decide +kernel
theorem dX11_count_172 : decode cX11_count 172 = .ok (.ireturn, 1) := by decide +kernel
theorem dX11_count_173 : decode cX11_count 173 = .ok (.aload_n 0, 1) := by decide +kernel
theorem dX11_count_174 : decode cX11_count 174 = .ok (.getfield 19, 3) := by decide +kernel
theorem dX11_count_177 : decode cX11_count 177 = .ok (.iconst 0, 1) := by decide +kernel
theorem dX11_count_178 : decode cX11_count 178 = .ok (.invokevirtual 304, 3) := by decide +kernel
theorem dX11_count_181 : decode cX11_count 181 = .ok (.ireturn, 1) := by decide +kernel
theorem dX11_count_182 : decode cX11_count 182 = .ok (.aload_n 0, 1) := by decide +kernel
theorem dX11_count_183 : decode cX11_count 183 = .ok (.getfield 19, 3) := by decide +kernel
theorem dX11_count_186 : decode cX11_count 186 = .ok (.iconst 1, 1) := by decide +kernel
theorem dX11_count_187 : decode cX11_count 187 = .ok (.invokevirtual 304, 3) := by decide +kernel
theorem dX11_count_190 : decode cX11_count 190 = .ok (.ireturn, 1) := by decide +kernel
theorem dX11_count_191 : decode cX11_count 191 = .ok (.aload_n 0, 1) := by decide +kernel
theorem dX11_count_192 : decode cX11_count 192 = .ok (.getfield 19, 3) := by decide +kernel
theorem dX11_count_195 : decode cX11_count 195 = .ok (.invokevirtual 341, 3) := by decide +kernel
theorem dX11_count_198 : decode cX11_count 198 = .ok (.ireturn, 1) := by decide +kernel
theorem dX11_count_199 : decode cX11_count 199 = .ok (.aload_n 0, 1) := by decide +kernel
theorem dX11_count_200 : decode cX11_count 200 = .ok (.getfield 19, 3) := by decide +kernel
theorem dX11_count_203 : decode cX11_count 203 = .ok (.getfield 317, 3) := by decide +kernel
theorem dX11_count_206 : decode cX11_count 206 = .ok (.getfield 345, 3) := by decide +kernel
theorem dX11_count_209 : decode cX11_count 209 = .ok (.ireturn, 1) := by decide +kernel
theorem dX11_count_210 : decode cX11_count 210 = .ok (.aload_n 0, 1) := by decide +kernel
theorem dX11_count_211 : decode cX11_count 211 = .ok (.getfield 32, 3) := by decide +kernel
theorem dX11_count_214 : decode cX11_count 214 = .ok (.getfield 348, 3) := by decide +kernel
theorem dX11_count_217 : decode cX11_count 217 = .ok (.ireturn, 1) := by decide +kernel
theorem dX11_count_218 : decode cX11_count 218 = .ok (.iconst (-1), 1) := by decide +kernel
theorem dX11_count_219 : decode cX11_count 219 = .ok (.ireturn, 1) := by decide +kernel
theorem dX11_needHouse_0 : decode cX11_needHouse 0 = .ok (.iload_n 1, 1) := by decide +kernel
theorem dX11_needHouse_1 : decode cX11_needHouse 1 = .ok (.ifCond .lt 14, 3) := by decide +kernel
theorem dX11_needHouse_4 : decode cX11_needHouse 4 = .ok (.iload_n 1, 1) := by decide +kernel
theorem dX11_needHouse_5 : decode cX11_needHouse 5 = .ok (.aload_n 0, 1) := by decide +kernel
theorem dX11_needHouse_6 : decode cX11_needHouse 6 = .ok (.getfield 19, 3) := by decide +kernel
theorem dX11_needHouse_9 : decode cX11_needHouse 9 = .ok (.getfield 247, 3) := by decide +kernel
theorem dX11_needHouse_12 : decode cX11_needHouse 12 = .ok (.if_icmp .lt 14, 3) := by decide +kernel
theorem dX11_needHouse_15 : decode cX11_needHouse 15 = .ok (.new 223, 3) := by decide +kernel
theorem dX11_needHouse_18 : decode cX11_needHouse 18 = .ok (.dup, 1) := by decide +kernel
theorem dX11_needHouse_19 : decode cX11_needHouse 19 = .ok (.ldc_w 349, 3) := by decide +kernel
theorem dX11_needHouse_22 : decode cX11_needHouse 22 = .ok (.invokespecial 227, 3) := by decide +kernel
theorem dX11_needHouse_25 : decode cX11_needHouse 25 = .ok (.athrow, 1) := by decide +kernel
theorem dX11_needHouse_26 : decode cX11_needHouse 26 = .ok (.return_, 1) := by decide +kernel
theorem dX11_needHearth_0 : decode cX11_needHearth 0 = .ok (.iload_n 1, 1) := by decide +kernel
theorem dX11_needHearth_1 : decode cX11_needHearth 1 = .ok (.ifCond .lt 14, 3) := by decide +kernel
theorem dX11_needHearth_4 : decode cX11_needHearth 4 = .ok (.iload_n 1, 1) := by decide +kernel
theorem dX11_needHearth_5 : decode cX11_needHearth 5 = .ok (.aload_n 0, 1) := by decide +kernel
theorem dX11_needHearth_6 : decode cX11_needHearth 6 = .ok (.getfield 19, 3) := by decide +kernel
theorem dX11_needHearth_9 : decode cX11_needHearth 9 = .ok (.getfield 283, 3) := by decide +kernel
theorem dX11_needHearth_12 : decode cX11_needHearth 12 = .ok (.if_icmp .lt 14, 3) := by decide +kernel
theorem dX11_needHearth_15 : decode cX11_needHearth 15 = .ok (.new 223, 3) := by decide +kernel
theorem dX11_needHearth_18 : decode cX11_needHearth 18 = .ok (.dup, 1) := by decide +kernel
theorem dX11_needHearth_19 : decode cX11_needHearth 19 = .ok (.ldc_w 351, 3) := by decide +kernel
theorem dX11_needHearth_22 : decode cX11_needHearth 22 = .ok (.invokespecial 227, 3) := by decide +kernel
theorem dX11_needHearth_25 : decode cX11_needHearth 25 = .ok (.athrow, 1) := by decide +kernel
theorem dX11_needHearth_26 : decode cX11_needHearth 26 = .ok (.return_, 1) := by decide +kernel
theorem dX11_needNumber_0 : decode cX11_needNumber 0 = .ok (.iload_n 1, 1) := by decide +kernel
theorem dX11_needNumber_1 : decode cX11_needNumber 1 = .ok (.iload_n 2, 1) := by decide +kernel
theorem dX11_needNumber_2 : decode cX11_needNumber 2 = .ok (.if_icmp .lt 8, 3) := by decide +kernel
theorem dX11_needNumber_5 : decode cX11_needNumber 5 = .ok (.iload_n 1, 1) := by decide +kernel
theorem dX11_needNumber_6 : decode cX11_needNumber 6 = .ok (.iload_n 3, 1) := by decide +kernel
theorem dX11_needNumber_7 : decode cX11_needNumber 7 = .ok (.if_icmp .le 14, 3) := by decide +kernel
theorem dX11_needNumber_10 : decode cX11_needNumber 10 = .ok (.new 88, 3) := by decide +kernel
theorem dX11_needNumber_13 : decode cX11_needNumber 13 = .ok (.dup, 1) := by decide +kernel
theorem dX11_needNumber_14 : decode cX11_needNumber 14 = .ok (.ldc_w 353, 3) := by decide +kernel
theorem dX11_needNumber_17 : decode cX11_needNumber 17 = .ok (.invokespecial 92, 3) := by decide +kernel
theorem dX11_needNumber_20 : decode cX11_needNumber 20 = .ok (.athrow, 1) := by decide +kernel
theorem dX11_needNumber_21 : decode cX11_needNumber 21 = .ok (.return_, 1) := by decide +kernel
theorem dX11_needTold_0 : decode cX11_needTold 0 = .ok (.aload_n 0, 1) := by decide +kernel
theorem dX11_needTold_1 : decode cX11_needTold 1 = .ok (.getfield 41, 3) := by decide +kernel
theorem dX11_needTold_4 : decode cX11_needTold 4 = .ok (.aload_n 0, 1) := by decide +kernel
theorem dX11_needTold_5 : decode cX11_needTold 5 = .ok (.getfield 10, 3) := by decide +kernel
theorem dX11_needTold_8 : decode cX11_needTold 8 = .ok (.invokevirtual 355, 3) := by decide +kernel
theorem dX11_needTold_11 : decode cX11_needTold 11 = .ok (.istore_n 2, 1) := by decide +kernel
theorem dX11_needTold_12 : decode cX11_needTold 12 = .ok (.aload_n 0, 1) := by decide +kernel
theorem dX11_needTold_13 : decode cX11_needTold 13 = .ok (.getfield 10, 3) := by decide +kernel
theorem dX11_needTold_16 : decode cX11_needTold 16 = .ok (.iconst 0, 1) := by decide +kernel
theorem dX11_needTold_17 : decode cX11_needTold 17 = .ok (.putfield 71, 3) := by decide +kernel
theorem dX11_needTold_20 : decode cX11_needTold 20 = .ok (.aload_n 0, 1) := by decide +kernel
theorem dX11_needTold_21 : decode cX11_needTold 21 = .ok (.iload_n 1, 1) := by decide +kernel
theorem dX11_needTold_22 : decode cX11_needTold 22 = .ok (.invokevirtual 125, 3) := by decide +kernel
theorem dX11_needTold_25 : decode cX11_needTold 25 = .ok (.iload_n 2, 1) := by decide +kernel
theorem dX11_needTold_26 : decode cX11_needTold 26 = .ok (.ifCond .ne 14, 3) := by decide +kernel
theorem dX11_needTold_29 : decode cX11_needTold 29 = .ok (.new 88, 3) := by decide +kernel
theorem dX11_needTold_32 : decode cX11_needTold 32 = .ok (.dup, 1) := by decide +kernel
theorem dX11_needTold_33 : decode cX11_needTold 33 = .ok (.ldc_w 359, 3) := by decide +kernel
theorem dX11_needTold_36 : decode cX11_needTold 36 = .ok (.invokespecial 92, 3) := by decide +kernel
theorem dX11_needTold_39 : decode cX11_needTold 39 = .ok (.athrow, 1) := by decide +kernel
theorem dX11_needTold_40 : decode cX11_needTold 40 = .ok (.return_, 1) := by decide +kernel
theorem dX11_tryOut_0 : decode cX11_tryOut 0 = .ok (.aload_n 0, 1) := by decide +kernel
theorem dX11_tryOut_1 : decode cX11_tryOut 1 = .ok (.getfield 23, 3) := by decide +kernel
theorem dX11_tryOut_4 : decode cX11_tryOut 4 = .ok (.aload_n 0, 1) := by decide +kernel
theorem dX11_tryOut_5 : decode cX11_tryOut 5 = .ok (.getfield 19, 3) := by decide +kernel
theorem dX11_tryOut_8 : decode cX11_tryOut 8 = .ok (.invokevirtual 78, 3) := by decide +kernel
theorem dX11_tryOut_11 : decode cX11_tryOut 11 = .ok (.aload_n 0, 1) := by decide +kernel
theorem dX11_tryOut_12 : decode cX11_tryOut 12 = .ok (.getfield 23, 3) := by decide +kernel
theorem dX11_tryOut_15 : decode cX11_tryOut 15 = .ok (.iload_n 2, 1) := by decide +kernel
theorem dX11_tryOut_16 : decode cX11_tryOut 16 = .ok (.putfield 310, 3) := by decide +kernel
theorem dX11_tryOut_19 : decode cX11_tryOut 19 = .ok (.iconst 0, 1) := by decide +kernel
theorem dX11_tryOut_20 : decode cX11_tryOut 20 = .ok (.istore_n 3, 1) := by decide +kernel
theorem dX11_tryOut_21 : decode cX11_tryOut 21 = .ok (.iload_n 3, 1) := by decide +kernel
theorem dX11_tryOut_22 : decode cX11_tryOut 22 = .ok (.iload_n 1, 1) := by decide +kernel
theorem dX11_tryOut_23 : decode cX11_tryOut 23 = .ok (.if_icmp .ge 18, 3) := by decide +kernel
theorem dX11_tryOut_26 : decode cX11_tryOut 26 = .ok (.aload_n 0, 1) := by decide +kernel
theorem dX11_tryOut_27 : decode cX11_tryOut 27 = .ok (.getfield 23, 3) := by decide +kernel
theorem dX11_tryOut_30 : decode cX11_tryOut 30 = .ok (.iconst 1, 1) := by decide +kernel
theorem dX11_tryOut_31 : decode cX11_tryOut 31 = .ok (.invokevirtual 241, 3) := by decide +kernel
theorem dX11_tryOut_34 : decode cX11_tryOut 34 = .ok (.pop, 1) := by decide +kernel
theorem dX11_tryOut_35 : decode cX11_tryOut 35 = .ok (.iinc 3 1, 3) := by decide +kernel
theorem dX11_tryOut_38 : decode cX11_tryOut 38 = .ok (.goto (-17), 3) := by decide +kernel
theorem dX11_tryOut_41 : decode cX11_tryOut 41 = .ok (.return_, 1) := by decide +kernel
theorem dX12_thrown_0 : decode cX12_thrown 0 = .ok (.aload_n 0, 1) := by decide +kernel
theorem dX12_thrown_1 : decode cX12_thrown 1 = .ok (.getfield 3, 3) := by decide +kernel
theorem dX12_thrown_4 : decode cX12_thrown 4 = .ok (.ireturn, 1) := by decide +kernel
theorem dX12_throwsIf_0 : decode cX12_throwsIf 0 = .ok (.iload_n 1, 1) := by decide +kernel
theorem dX12_throwsIf_1 : decode cX12_throwsIf 1 = .ok (.ifCond .eq 8, 3) := by decide +kernel
theorem dX12_throwsIf_4 : decode cX12_throwsIf 4 = .ok (.aload_n 0, 1) := by decide +kernel
theorem dX12_throwsIf_5 : decode cX12_throwsIf 5 = .ok (.iload_n 2, 1) := by decide +kernel
theorem dX12_throwsIf_6 : decode cX12_throwsIf 6 = .ok (.putfield 3, 3) := by decide +kernel
theorem dX12_throwsIf_9 : decode cX12_throwsIf 9 = .ok (.iload_n 1, 1) := by decide +kernel
theorem dX12_throwsIf_10 : decode cX12_throwsIf 10 = .ok (.ireturn, 1) := by decide +kernel
theorem dX12_in_0 : decode cX12_in 0 = .ok (.iload_n 0, 1) := by decide +kernel
theorem dX12_in_1 : decode cX12_in 1 = .ok (.iload_n 1, 1) := by decide +kernel
theorem dX12_in_2 : decode cX12_in 2 = .ok (.if_icmp .lt 12, 3) := by decide +kernel
theorem dX12_in_5 : decode cX12_in 5 = .ok (.iload_n 0, 1) := by decide +kernel
theorem dX12_in_6 : decode cX12_in 6 = .ok (.iload_n 2, 1) := by decide +kernel
theorem dX12_in_7 : decode cX12_in 7 = .ok (.if_icmp .gt 7, 3) := by decide +kernel
theorem dX12_in_10 : decode cX12_in 10 = .ok (.iconst 1, 1) := by decide +kernel
theorem dX12_in_11 : decode cX12_in 11 = .ok (.goto 4, 3) := by decide +kernel
theorem dX12_in_14 : decode cX12_in 14 = .ok (.iconst 0, 1) := by decide +kernel
theorem dX12_in_15 : decode cX12_in 15 = .ok (.ireturn, 1) := by decide +kernel
theorem dX12_has_0 : decode cX12_has 0 = .ok (.iload_n 0, 1) := by decide +kernel
theorem dX12_has_1 : decode cX12_has 1 = .ok (.iload_n 1, 1) := by decide +kernel
theorem dX12_has_2 : decode cX12_has 2 = .ok (.ishr, 1) := by decide +kernel
theorem dX12_has_3 : decode cX12_has 3 = .ok (.iconst 1, 1) := by decide +kernel
theorem dX12_has_4 : decode cX12_has 4 = .ok (.iand, 1) := by decide +kernel
theorem dX12_has_5 : decode cX12_has 5 = .ok (.iconst 1, 1) := by decide +kernel
theorem dX12_has_6 : decode cX12_has 6 = .ok (.if_icmp .ne 7, 3) := by decide +kernel
theorem dX12_has_9 : decode cX12_has 9 = .ok (.iconst 1, 1) := by decide +kernel
theorem dX12_has_10 : decode cX12_has 10 = .ok (.goto 4, 3) := by decide +kernel
theorem dX12_has_13 : decode cX12_has 13 = .ok (.iconst 0, 1) := by decide +kernel
theorem dX12_has_14 : decode cX12_has 14 = .ok (.ireturn, 1) := by decide +kernel
theorem dX12_init_0 : decode cX12_init 0 = .ok (.aload_n 0, 1) := by decide +kernel
theorem dX12_init_1 : decode cX12_init 1 = .ok (.invokespecial 7, 3) := by decide +kernel
theorem dX12_init_4 : decode cX12_init 4 = .ok (.aload_n 0, 1) := by decide +kernel
theorem dX12_init_5 : decode cX12_init 5 = .ok (.sipush 2052, 3) := by decide +kernel
theorem dX12_init_8 : decode cX12_init 8 = .ok (.newarray .int, 2) := by decide +kernel
theorem dX12_init_10 : decode cX12_init 10 = .ok (.putfield 13, 3) := by decide +kernel
theorem dX12_init_13 : decode cX12_init 13 = .ok (.aload_n 0, 1) := by decide +kernel
theorem dX12_init_14 : decode cX12_init 14 = .ok (.sipush 1203, 3) := by decide +kernel
theorem dX12_init_17 : decode cX12_init 17 = .ok (.newarray .int, 2) := by decide +kernel
theorem dX12_init_19 : decode cX12_init 19 = .ok (.putfield 17, 3) := by decide +kernel
theorem dX12_init_22 : decode cX12_init 22 = .ok (.aload_n 0, 1) := by decide +kernel
theorem dX12_init_23 : decode cX12_init 23 = .ok (.sipush 1203, 3) := by decide +kernel
theorem dX12_init_26 : decode cX12_init 26 = .ok (.newarray .int, 2) := by decide +kernel
theorem dX12_init_28 : decode cX12_init 28 = .ok (.putfield 20, 3) := by decide +kernel
theorem dX12_init_31 : decode cX12_init 31 = .ok (.aload_n 0, 1) := by decide +kernel
theorem dX12_init_32 : decode cX12_init 32 = .ok (.sipush 354, 3) := by decide +kernel
theorem dX12_init_35 : decode cX12_init 35 = .ok (.newarray .int, 2) := by decide +kernel
theorem dX12_init_37 : decode cX12_init 37 = .ok (.putfield 23, 3) := by decide +kernel
theorem dX12_init_40 : decode cX12_init 40 = .ok (.aload_n 0, 1) := by decide +kernel
theorem dX12_init_41 : decode cX12_init 41 = .ok (.sipush 4248, 3) := by decide +kernel
theorem dX12_init_44 : decode cX12_init 44 = .ok (.newarray .int, 2) := by decide +kernel
theorem dX12_init_46 : decode cX12_init 46 = .ok (.putfield 26, 3) := by decide +kernel
theorem dX12_init_49 : decode cX12_init 49 = .ok (.aload_n 0, 1) := by decide +kernel
theorem dX12_init_50 : decode cX12_init 50 = .ok (.sipush 400, 3) := by decide +kernel
theorem dX12_init_53 : decode cX12_init 53 = .ok (.newarray .byte, 2) := by decide +kernel
theorem dX12_init_55 : decode cX12_init 55 = .ok (.putfield 29, 3) := by decide +kernel
theorem dX12_init_58 : decode cX12_init 58 = .ok (.aload_n 0, 1) := by decide +kernel
theorem dX12_init_59 : decode cX12_init 59 = .ok (.iconst (-1), 1) := by decide +kernel
theorem dX12_init_60 : decode cX12_init 60 = .ok (.putfield 33, 3) := by decide +kernel
theorem dX12_init_63 : decode cX12_init 63 = .ok (.aload_n 0, 1) := by decide +kernel
theorem dX12_init_64 : decode cX12_init 64 = .ok (.iconst 5, 1) := by decide +kernel
theorem dX12_init_65 : decode cX12_init 65 = .ok (.newarray .int, 2) := by decide +kernel
theorem dX12_init_67 : decode cX12_init 67 = .ok (.putfield 36, 3) := by decide +kernel
theorem dX12_init_70 : decode cX12_init 70 = .ok (.aload_n 0, 1) := by decide +kernel
theorem dX12_init_71 : decode cX12_init 71 = .ok (.sipush 400, 3) := by decide +kernel
theorem dX12_init_74 : decode cX12_init 74 = .ok (.newarray .int, 2) := by decide +kernel
theorem dX12_init_76 : decode cX12_init 76 = .ok (.putfield 39, 3) := by decide +kernel
theorem dX12_init_79 : decode cX12_init 79 = .ok (.aload_n 0, 1) := by decide +kernel
theorem dX12_init_80 : decode cX12_init 80 = .ok (.getfield 13, 3) := by decide +kernel
theorem dX12_init_83 : decode cX12_init 83 = .ok (.iconst 5, 1) := by decide +kernel
theorem dX12_init_84 : decode cX12_init 84 = .ok (.iconst 2, 1) := by decide +kernel
theorem dX12_init_85 : decode cX12_init 85 = .ok (.iastore, 1) := by decide +kernel
theorem dX12_init_86 : decode cX12_init 86 = .ok (.aload_n 0, 1) := by decide +kernel
theorem dX12_init_87 : decode cX12_init 87 = .ok (.getfield 13, 3) := by decide +kernel
theorem dX12_init_90 : decode cX12_init 90 = .ok (.bipush 6, 2) := by decide +kernel
theorem dX12_init_92 : decode cX12_init 92 = .ok (.iconst 5, 1) := by decide +kernel
theorem dX12_init_93 : decode cX12_init 93 = .ok (.iastore, 1) := by decide +kernel
theorem dX12_init_94 : decode cX12_init 94 = .ok (.aload_n 0, 1) := by decide +kernel
theorem dX12_init_95 : decode cX12_init 95 = .ok (.getfield 13, 3) := by decide +kernel
theorem dX12_init_98 : decode cX12_init 98 = .ok (.bipush 7, 2) := by decide +kernel
theorem dX12_init_100 : decode cX12_init 100 = .ok (.bipush 50, 2) := by decide +kernel
theorem dX12_init_102 : decode cX12_init 102 = .ok (.iastore, 1) := by decide +kernel
theorem dX12_init_103 : decode cX12_init 103 = .ok (.aload_n 0, 1) := by decide +kernel
theorem dX12_init_104 : decode cX12_init 104 = .ok (.getfield 13, 3) := by decide +kernel
theorem dX12_init_107 : decode cX12_init 107 = .ok (.bipush 8, 2) := by decide +kernel
theorem dX12_init_109 : decode cX12_init 109 = .ok (.iconst 1, 1) := by decide +kernel
theorem dX12_init_110 : decode cX12_init 110 = .ok (.iastore, 1) := by decide +kernel
theorem dX12_init_111 : decode cX12_init 111 = .ok (.aload_n 0, 1) := by decide +kernel
theorem dX12_init_112 : decode cX12_init 112 = .ok (.getfield 13, 3) := by decide +kernel
theorem dX12_init_115 : decode cX12_init 115 = .ok (.bipush 11, 2) := by decide +kernel
theorem dX12_init_117 : decode cX12_init 117 = .ok (.iconst 1, 1) := by decide +kernel
theorem dX12_init_118 : decode cX12_init 118 = .ok (.iastore, 1) := by decide +kernel
theorem dX12_init_119 : decode cX12_init 119 = .ok (.return_, 1) := by decide +kernel
theorem dX12_image_0 : decode cX12_image 0 = .ok (.aload_n 0, 1) := by decide +kernel
theorem dX12_image_1 : decode cX12_image 1 = .ok (.iconst 0, 1) := by decide +kernel
theorem dX12_image_2 : decode cX12_image 2 = .ok (.putfield 3, 3) := by decide +kernel
theorem dX12_image_5 : decode cX12_image 5 = .ok (.iconst 0, 1) := by decide +kernel
theorem dX12_image_6 : decode cX12_image 6 = .ok (.istore_n 1, 1) := by decide +kernel
theorem dX12_image_7 : decode cX12_image 7 = .ok (.iload_n 1, 1) := by decide +kernel
theorem dX12_image_8 : decode cX12_image 8 = .ok (.sipush 1203, 3) := by decide +kernel
theorem dX12_image_11 : decode cX12_image 11 = .ok (.if_icmp .ge 21, 3) := by decide +kernel
theorem dX12_image_14 : decode cX12_image 14 = .ok (.aload_n 0, 1) := by decide +kernel
theorem dX12_image_15 : decode cX12_image 15 = .ok (.getfield 17, 3) := by decide +kernel
theorem dX12_image_18 : decode cX12_image 18 = .ok (.iload_n 1, 1) := by decide +kernel
theorem dX12_image_19 : decode cX12_image 19 = .ok (.aload_n 0, 1) := by decide +kernel
theorem dX12_image_20 : decode cX12_image 20 = .ok (.getfield 13, 3) := by decide +kernel
theorem dX12_image_23 : decode cX12_image 23 = .ok (.iload_n 1, 1) := by decide +kernel
theorem dX12_image_24 : decode cX12_image 24 = .ok (.iaload, 1) := by decide +kernel
theorem dX12_image_25 : decode cX12_image 25 = .ok (.iastore, 1) := by decide +kernel
theorem dX12_image_26 : decode cX12_image 26 = .ok (.iinc 1 1, 3) := by decide +kernel
theorem dX12_image_29 : decode cX12_image 29 = .ok (.goto (-22), 3) := by decide +kernel
theorem dX12_image_32 : decode cX12_image 32 = .ok (.aload_n 0, 1) := by decide +kernel
theorem dX12_image_33 : decode cX12_image 33 = .ok (.iconst 1, 1) := by decide +kernel
theorem dX12_image_34 : decode cX12_image 34 = .ok (.putfield 42, 3) := by decide +kernel
theorem dX12_image_37 : decode cX12_image 37 = .ok (.return_, 1) := by decide +kernel
theorem dX12_back_0 : decode cX12_back 0 = .ok (.aload_n 0, 1) := by decide +kernel
theorem dX12_back_1 : decode cX12_back 1 = .ok (.iconst 0, 1) := by decide +kernel
theorem dX12_back_2 : decode cX12_back 2 = .ok (.putfield 3, 3) := by decide +kernel
theorem dX12_back_5 : decode cX12_back 5 = .ok (.aload_n 0, 1) := by decide +kernel
theorem dX12_back_6 : decode cX12_back 6 = .ok (.getfield 42, 3) := by decide +kernel
theorem dX12_back_9 : decode cX12_back 9 = .ok (.ifCond .ne 5, 3) := by decide +kernel
theorem dX12_back_12 : decode cX12_back 12 = .ok (.iconst 0, 1) := by decide +kernel
theorem dX12_back_13 : decode cX12_back 13 = .ok (.ireturn, 1) := by decide +kernel
theorem dX12_back_14 : decode cX12_back 14 = .ok (.iconst 0, 1) := by decide +kernel
theorem dX12_back_15 : decode cX12_back 15 = .ok (.istore_n 1, 1) := by decide +kernel
theorem dX12_back_16 : decode cX12_back 16 = .ok (.iload_n 1, 1) := by decide +kernel
theorem dX12_back_17 : decode cX12_back 17 = .ok (.sipush 1203, 3) := by decide +kernel
theorem dX12_back_20 : decode cX12_back 20 = .ok (.if_icmp .ge 21, 3) := by decide +kernel
theorem dX12_back_23 : decode cX12_back 23 = .ok (.aload_n 0, 1) := by decide +kernel
theorem dX12_back_24 : decode cX12_back 24 = .ok (.getfield 13, 3) := by decide +kernel
theorem dX12_back_27 : decode cX12_back 27 = .ok (.iload_n 1, 1) := by decide +kernel
theorem dX12_back_28 : decode cX12_back 28 = .ok (.aload_n 0, 1) := by decide +kernel
theorem dX12_back_29 : decode cX12_back 29 = .ok (.getfield 17, 3) := by decide +kernel
theorem dX12_back_32 : decode cX12_back 32 = .ok (.iload_n 1, 1) := by decide +kernel
theorem dX12_back_33 : decode cX12_back 33 = .ok (.iaload, 1) := by decide +kernel
theorem dX12_back_34 : decode cX12_back 34 = .ok (.iastore, 1) := by decide +kernel
theorem dX12_back_35 : decode cX12_back 35 = .ok (.iinc 1 1, 3) := by decide +kernel
theorem dX12_back_38 : decode cX12_back 38 = .ok (.goto (-22), 3) := by decide +kernel
theorem dX12_back_41 : decode cX12_back 41 = .ok (.aload_n 0, 1) := by decide +kernel
theorem dX12_back_42 : decode cX12_back 42 = .ok (.iconst 0, 1) := by decide +kernel
theorem dX12_back_43 : decode cX12_back 43 = .ok (.putfield 46, 3) := by decide +kernel
theorem dX12_back_46 : decode cX12_back 46 = .ok (.iconst 1, 1) := by decide +kernel
theorem dX12_back_47 : decode cX12_back 47 = .ok (.ireturn, 1) := by decide +kernel
theorem dX12_remembers_0 : decode cX12_remembers 0 = .ok (.aload_n 0, 1) := by decide +kernel
theorem dX12_remembers_1 : decode cX12_remembers 1 = .ok (.getfield 46, 3) := by decide +kernel
theorem dX12_remembers_4 : decode cX12_remembers 4 = .ok (.bipush 12, 2) := by decide +kernel
theorem dX12_remembers_6 : decode cX12_remembers 6 = .ok (.if_icmp .ne 37, 3) := by decide +kernel
theorem dX12_remembers_9 : decode cX12_remembers 9 = .ok (.iconst 0, 1) := by decide +kernel
theorem dX12_remembers_10 : decode cX12_remembers 10 = .ok (.istore_n 1, 1) := by decide +kernel
theorem dX12_remembers_11 : decode cX12_remembers 11 = .ok (.iload_n 1, 1) := by decide +kernel
theorem dX12_remembers_12 : decode cX12_remembers 12 = .ok (.sipush 3894, 3) := by decide +kernel
theorem dX12_remembers_15 : decode cX12_remembers 15 = .ok (.if_icmp .ge 25, 3) := by decide +kernel
theorem dX12_remembers_18 : decode cX12_remembers 18 = .ok (.aload_n 0, 1) := by decide +kernel
theorem dX12_remembers_19 : decode cX12_remembers 19 = .ok (.getfield 26, 3) := by decide +kernel
theorem dX12_remembers_22 : decode cX12_remembers 22 = .ok (.iload_n 1, 1) := by decide +kernel
theorem dX12_remembers_23 : decode cX12_remembers 23 = .ok (.aload_n 0, 1) := by decide +kernel
theorem dX12_remembers_24 : decode cX12_remembers 24 = .ok (.getfield 26, 3) := by decide +kernel
theorem dX12_remembers_27 : decode cX12_remembers 27 = .ok (.iload_n 1, 1) := by decide +kernel
theorem dX12_remembers_28 : decode cX12_remembers 28 = .ok (.sipush 354, 3) := by decide +kernel
theorem dX12_remembers_31 : decode cX12_remembers 31 = .ok (.iadd, 1) := by decide +kernel
theorem dX12_remembers_32 : decode cX12_remembers 32 = .ok (.iaload, 1) := by decide +kernel
theorem dX12_remembers_33 : decode cX12_remembers 33 = .ok (.iastore, 1) := by decide +kernel
theorem dX12_remembers_34 : decode cX12_remembers 34 = .ok (.iinc 1 1, 3) := by decide +kernel
theorem dX12_remembers_37 : decode cX12_remembers 37 = .ok (.goto (-26), 3) := by decide +kernel
theorem dX12_remembers_40 : decode cX12_remembers 40 = .ok (.goto 13, 3) := by decide +kernel
theorem dX12_remembers_43 : decode cX12_remembers 43 = .ok (.aload_n 0, 1) := by decide +kernel
theorem dX12_remembers_44 : decode cX12_remembers 44 = .ok (.dup, 1) := by decide +kernel
theorem dX12_remembers_45 : decode cX12_remembers 45 = .ok (.getfield 46, 3) := by decide +kernel
theorem dX12_remembers_48 : decode cX12_remembers 48 = .ok (.iconst 1, 1) := by decide +kernel
theorem dX12_remembers_49 : decode cX12_remembers 49 = .ok (.iadd, 1) := by decide +kernel
theorem dX12_remembers_50 : decode cX12_remembers 50 = .ok (.putfield 46, 3) := by decide +kernel
theorem dX12_remembers_53 : decode cX12_remembers 53 = .ok (.iconst 0, 1) := by decide +kernel
theorem dX12_remembers_54 : decode cX12_remembers 54 = .ok (.istore_n 1, 1) := by decide +kernel
theorem dX12_remembers_55 : decode cX12_remembers 55 = .ok (.iload_n 1, 1) := by decide +kernel
theorem dX12_remembers_56 : decode cX12_remembers 56 = .ok (.sipush 354, 3) := by decide +kernel
theorem dX12_remembers_59 : decode cX12_remembers 59 = .ok (.if_icmp .ge 32, 3) := by decide +kernel
theorem dX12_remembers_62 : decode cX12_remembers 62 = .ok (.aload_n 0, 1) := by decide +kernel
theorem dX12_remembers_63 : decode cX12_remembers 63 = .ok (.getfield 26, 3) := by decide +kernel
theorem dX12_remembers_66 : decode cX12_remembers 66 = .ok (.sipush 354, 3) := by decide +kernel
theorem dX12_remembers_69 : decode cX12_remembers 69 = .ok (.aload_n 0, 1) := by decide +kernel
theorem dX12_remembers_70 : decode cX12_remembers 70 = .ok (.getfield 46, 3) := by decide +kernel
theorem dX12_remembers_73 : decode cX12_remembers 73 = .ok (.iconst 1, 1) := by decide +kernel
theorem dX12_remembers_74 : decode cX12_remembers 74 = .ok (.isub, 1) := by decide +kernel
theorem dX12_remembers_75 : decode cX12_remembers 75 = .ok (.imul, 1) := by decide +kernel
theorem dX12_remembers_76 : decode cX12_remembers 76 = .ok (.iload_n 1, 1) := by decide +kernel
theorem dX12_remembers_77 : decode cX12_remembers 77 = .ok (.iadd, 1) := by decide +kernel
theorem dX12_remembers_78 : decode cX12_remembers 78 = .ok (.aload_n 0, 1) := by decide +kernel
theorem dX12_remembers_79 : decode cX12_remembers 79 = .ok (.getfield 13, 3) := by decide +kernel
theorem dX12_remembers_82 : decode cX12_remembers 82 = .ok (.iload_n 1, 1) := by decide +kernel
theorem dX12_remembers_83 : decode cX12_remembers 83 = .ok (.iaload, 1) := by decide +kernel
theorem dX12_remembers_84 : decode cX12_remembers 84 = .ok (.iastore, 1) := by decide +kernel
theorem dX12_remembers_85 : decode cX12_remembers 85 = .ok (.iinc 1 1, 3) := by decide +kernel
theorem dX12_remembers_88 : decode cX12_remembers 88 = .ok (.goto (-33), 3) := by decide +kernel
theorem dX12_remembers_91 : decode cX12_remembers 91 = .ok (.return_, 1) := by decide +kernel
theorem dX12_undo_0 : decode cX12_undo 0 = .ok (.aload_n 0, 1) := by decide +kernel
theorem dX12_undo_1 : decode cX12_undo 1 = .ok (.iconst 0, 1) := by decide +kernel
theorem dX12_undo_2 : decode cX12_undo 2 = .ok (.putfield 3, 3) := by decide +kernel
theorem dX12_undo_5 : decode cX12_undo 5 = .ok (.aload_n 0, 1) := by decide +kernel
theorem dX12_undo_6 : decode cX12_undo 6 = .ok (.getfield 46, 3) := by decide +kernel
theorem dX12_undo_9 : decode cX12_undo 9 = .ok (.ifCond .ne 5, 3) := by decide +kernel
theorem dX12_undo_12 : decode cX12_undo 12 = .ok (.iconst 0, 1) := by decide +kernel
theorem dX12_undo_13 : decode cX12_undo 13 = .ok (.ireturn, 1) := by decide +kernel
theorem dX12_undo_14 : decode cX12_undo 14 = .ok (.aload_n 0, 1) := by decide +kernel
theorem dX12_undo_15 : decode cX12_undo 15 = .ok (.dup, 1) := by decide +kernel
theorem dX12_undo_16 : decode cX12_undo 16 = .ok (.getfield 46, 3) := by decide +kernel
theorem dX12_undo_19 : decode cX12_undo 19 = .ok (.iconst 1, 1) := by decide +kernel
theorem dX12_undo_20 : decode cX12_undo 20 = .ok (.isub, 1) := by decide +kernel
theorem dX12_undo_21 : decode cX12_undo 21 = .ok (.putfield 46, 3) := by decide +kernel
theorem dX12_undo_24 : decode cX12_undo 24 = .ok (.iconst 0, 1) := by decide +kernel
theorem dX12_undo_25 : decode cX12_undo 25 = .ok (.istore_n 1, 1) := by decide +kernel
theorem dX12_undo_26 : decode cX12_undo 26 = .ok (.iload_n 1, 1) := by decide +kernel
theorem dX12_undo_27 : decode cX12_undo 27 = .ok (.sipush 354, 3) := by decide +kernel
theorem dX12_undo_30 : decode cX12_undo 30 = .ok (.if_icmp .ge 30, 3) := by decide +kernel
theorem dX12_undo_33 : decode cX12_undo 33 = .ok (.aload_n 0, 1) := by decide +kernel
theorem dX12_undo_34 : decode cX12_undo 34 = .ok (.getfield 13, 3) := by decide +kernel
theorem dX12_undo_37 : decode cX12_undo 37 = .ok (.iload_n 1, 1) := by decide +kernel
theorem dX12_undo_38 : decode cX12_undo 38 = .ok (.aload_n 0, 1) := by decide +kernel
theorem dX12_undo_39 : decode cX12_undo 39 = .ok (.getfield 26, 3) := by decide +kernel
theorem dX12_undo_42 : decode cX12_undo 42 = .ok (.sipush 354, 3) := by decide +kernel
theorem dX12_undo_45 : decode cX12_undo 45 = .ok (.aload_n 0, 1) := by decide +kernel
theorem dX12_undo_46 : decode cX12_undo 46 = .ok (.getfield 46, 3) := by decide +kernel
theorem dX12_undo_49 : decode cX12_undo 49 = .ok (.imul, 1) := by decide +kernel
theorem dX12_undo_50 : decode cX12_undo 50 = .ok (.iload_n 1, 1) := by decide +kernel
theorem dX12_undo_51 : decode cX12_undo 51 = .ok (.iadd, 1) := by decide +kernel
theorem dX12_undo_52 : decode cX12_undo 52 = .ok (.iaload, 1) := by decide +kernel
theorem dX12_undo_53 : decode cX12_undo 53 = .ok (.iastore, 1) := by decide +kernel
theorem dX12_undo_54 : decode cX12_undo 54 = .ok (.iinc 1 1, 3) := by decide +kernel
theorem dX12_undo_57 : decode cX12_undo 57 = .ok (.goto (-31), 3) := by decide +kernel
theorem dX12_undo_60 : decode cX12_undo 60 = .ok (.iconst 1, 1) := by decide +kernel
theorem dX12_undo_61 : decode cX12_undo 61 = .ok (.ireturn, 1) := by decide +kernel
theorem dX12_houses_0 : decode cX12_houses 0 = .ok (.aload_n 0, 1) := by decide +kernel
theorem dX12_houses_1 : decode cX12_houses 1 = .ok (.getfield 13, 3) := by decide +kernel
theorem dX12_houses_4 : decode cX12_houses 4 = .ok (.iconst 0, 1) := by decide +kernel
theorem dX12_houses_5 : decode cX12_houses 5 = .ok (.iaload, 1) := by decide +kernel
theorem dX12_houses_6 : decode cX12_houses 6 = .ok (.ireturn, 1) := by decide +kernel
theorem dX12_hearths_0 : decode cX12_hearths 0 = .ok (.aload_n 0, 1) := by decide +kernel
theorem dX12_hearths_1 : decode cX12_hearths 1 = .ok (.getfield 13, 3) := by decide +kernel
theorem dX12_hearths_4 : decode cX12_hearths 4 = .ok (.iconst 1, 1) := by decide +kernel
theorem dX12_hearths_5 : decode cX12_hearths 5 = .ok (.iaload, 1) := by decide +kernel
theorem dX12_hearths_6 : decode cX12_hearths 6 = .ok (.ireturn, 1) := by decide +kernel
theorem dX12_houseAt_0 : decode cX12_houseAt 0 = .ok (.bipush 12, 2) := by decide +kernel
theorem dX12_houseAt_2 : decode cX12_houseAt 2 = .ok (.iconst 5, 1) := by decide +kernel
theorem dX12_houseAt_3 : decode cX12_houseAt 3 = .ok (.iload_n 0, 1) := by decide +kernel
theorem dX12_houseAt_4 : decode cX12_houseAt 4 = .ok (.imul, 1) := by decide +kernel
theorem dX12_houseAt_5 : decode cX12_houseAt 5 = .ok (.iadd, 1) := by decide +kernel
theorem dX12_houseAt_6 : decode cX12_houseAt 6 = .ok (.iload_n 1, 1) := by decide +kernel
theorem dX12_houseAt_7 : decode cX12_houseAt 7 = .ok (.iadd, 1) := by decide +kernel
theorem dX12_houseAt_8 : decode cX12_houseAt 8 = .ok (.ireturn, 1) := by decide +kernel
theorem dX12_of_0 : decode cX12_of 0 = .ok (.aload_n 0, 1) := by decide +kernel
theorem dX12_of_1 : decode cX12_of 1 = .ok (.getfield 13, 3) := by decide +kernel
theorem dX12_of_4 : decode cX12_of 4 = .ok (.iload_n 1, 1) := by decide +kernel
theorem dX12_of_5 : decode cX12_of 5 = .ok (.iload_n 2, 1) := by decide +kernel
theorem dX12_of_6 : decode cX12_of 6 = .ok (.invokestatic 49, 3) := by decide +kernel
theorem dX12_of_9 : decode cX12_of 9 = .ok (.iaload, 1) := by decide +kernel
theorem dX12_of_10 : decode cX12_of 10 = .ok (.ireturn, 1) := by decide +kernel
theorem dX12_hearthAt_0 : decode cX12_hearthAt 0 = .ok (.bipush 42, 2) := by decide +kernel
theorem dX12_hearthAt_2 : decode cX12_hearthAt 2 = .ok (.bipush 6, 2) := by decide +kernel
theorem dX12_hearthAt_4 : decode cX12_hearthAt 4 = .ok (.iload_n 0, 1) := by decide +kernel
theorem dX12_hearthAt_5 : decode cX12_hearthAt 5 = .ok (.imul, 1) := by decide +kernel
theorem dX12_hearthAt_6 : decode cX12_hearthAt 6 = .ok (.iadd, 1) := by decide +kernel
theorem dX12_hearthAt_7 : decode cX12_hearthAt 7 = .ok (.iload_n 1, 1) := by decide +kernel
theorem dX12_hearthAt_8 : decode cX12_hearthAt 8 = .ok (.iadd, 1) := by decide +kernel
theorem dX12_hearthAt_9 : decode cX12_hearthAt 9 = .ok (.ireturn, 1) := by decide +kernel
theorem dX12_ofHearth_0 : decode cX12_ofHearth 0 = .ok (.aload_n 0, 1) := by decide +kernel
theorem dX12_ofHearth_1 : decode cX12_ofHearth 1 = .ok (.getfield 13, 3) := by decide +kernel
theorem dX12_ofHearth_4 : decode cX12_ofHearth 4 = .ok (.iload_n 1, 1) := by decide +kernel
theorem dX12_ofHearth_5 : decode cX12_ofHearth 5 = .ok (.iload_n 2, 1) := by decide +kernel
theorem dX12_ofHearth_6 : decode cX12_ofHearth 6 = .ok (.invokestatic 53, 3) := by decide +kernel
theorem dX12_ofHearth_9 : decode cX12_ofHearth 9 = .ok (.iaload, 1) := by decide +kernel
theorem dX12_ofHearth_10 : decode cX12_ofHearth 10 = .ok (.ireturn, 1) := by decide +kernel
theorem dX12_isOf_0 : decode cX12_isOf 0 = .ok (.aload_n 0, 1) := by decide +kernel
theorem dX12_isOf_1 : decode cX12_isOf 1 = .ok (.iload_n 1, 1) := by decide +kernel
theorem dX12_isOf_2 : decode cX12_isOf 2 = .ok (.iconst 0, 1) := by decide +kernel
theorem dX12_isOf_3 : decode cX12_isOf 3 = .ok (.invokevirtual 56, 3) := by decide +kernel
theorem dX12_isOf_6 : decode cX12_isOf 6 = .ok (.iload_n 2, 1) := by decide +kernel
theorem dX12_isOf_7 : decode cX12_isOf 7 = .ok (.if_icmp .ne 7, 3) := by decide +kernel
theorem dX12_isOf_10 : decode cX12_isOf 10 = .ok (.iconst 1, 1) := by decide +kernel
theorem dX12_isOf_11 : decode cX12_isOf 11 = .ok (.goto 4, 3) := by decide +kernel
theorem dX12_isOf_14 : decode cX12_isOf 14 = .ok (.iconst 0, 1) := by decide +kernel
theorem dX12_isOf_15 : decode cX12_isOf 15 = .ok (.ireturn, 1) := by decide +kernel
theorem dX12_isOpen_0 : decode cX12_isOpen 0 = .ok (.aload_n 0, 1) := by decide +kernel
theorem dX12_isOpen_1 : decode cX12_isOpen 1 = .ok (.iload_n 1, 1) := by decide +kernel
theorem dX12_isOpen_2 : decode cX12_isOpen 2 = .ok (.iconst 5, 1) := by decide +kernel
theorem dX12_isOpen_3 : decode cX12_isOpen 3 = .ok (.invokevirtual 56, 3) := by decide +kernel
theorem dX12_isOpen_6 : decode cX12_isOpen 6 = .ok (.ifCond .ne 7, 3) := by decide +kernel
theorem dX12_isOpen_9 : decode cX12_isOpen 9 = .ok (.iconst 1, 1) := by decide +kernel
theorem dX12_isOpen_10 : decode cX12_isOpen 10 = .ok (.goto 4, 3) := by decide +kernel
theorem dX12_isOpen_13 : decode cX12_isOpen 13 = .ok (.iconst 0, 1) := by decide +kernel
theorem dX12_isOpen_14 : decode cX12_isOpen 14 = .ok (.ireturn, 1) := by decide +kernel
theorem dX12_isWalled_0 : decode cX12_isWalled 0 = .ok (.aload_n 0, 1) := by decide +kernel
theorem dX12_isWalled_1 : decode cX12_isWalled 1 = .ok (.iload_n 1, 1) := by decide +kernel
theorem dX12_isWalled_2 : decode cX12_isWalled 2 = .ok (.iconst 5, 1) := by decide +kernel
theorem dX12_isWalled_3 : decode cX12_isWalled 3 = .ok (.invokevirtual 56, 3) := by decide +kernel
theorem dX12_isWalled_6 : decode cX12_isWalled 6 = .ok (.iconst 1, 1) := by decide +kernel
theorem dX12_isWalled_7 : decode cX12_isWalled 7 = .ok (.if_icmp .ne 7, 3) := by decide +kernel
theorem dX12_isWalled_10 : decode cX12_isWalled 10 = .ok (.iconst 1, 1) := by decide +kernel
theorem dX12_isWalled_11 : decode cX12_isWalled 11 = .ok (.goto 4, 3) := by decide +kernel
theorem dX12_isWalled_14 : decode cX12_isWalled 14 = .ok (.iconst 0, 1) := by decide +kernel
theorem dX12_isWalled_15 : decode cX12_isWalled 15 = .ok (.ireturn, 1) := by decide +kernel
theorem dX12_isHidden_0 : decode cX12_isHidden 0 = .ok (.aload_n 0, 1) := by decide +kernel
theorem dX12_isHidden_1 : decode cX12_isHidden 1 = .ok (.iload_n 1, 1) := by decide +kernel
theorem dX12_isHidden_2 : decode cX12_isHidden 2 = .ok (.iconst 5, 1) := by decide +kernel
theorem dX12_isHidden_3 : decode cX12_isHidden 3 = .ok (.invokevirtual 56, 3) := by decide +kernel
theorem dX12_isHidden_6 : decode cX12_isHidden 6 = .ok (.iconst 2, 1) := by decide +kernel
theorem dX12_isHidden_7 : decode cX12_isHidden 7 = .ok (.if_icmp .ne 7, 3) := by decide +kernel
theorem dX12_isHidden_10 : decode cX12_isHidden 10 = .ok (.iconst 1, 1) := by decide +kernel
theorem dX12_isHidden_11 : decode cX12_isHidden 11 = .ok (.goto 4, 3) := by decide +kernel
theorem dX12_isHidden_14 : decode cX12_isHidden 14 = .ok (.iconst 0, 1) := by decide +kernel
theorem dX12_isHidden_15 : decode cX12_isHidden 15 = .ok (.ireturn, 1) := by decide +kernel
theorem dX12_noHouse_0 : decode cX12_noHouse 0 = .ok (.iload_n 1, 1) := by decide +kernel
theorem dX12_noHouse_1 : decode cX12_noHouse 1 = .ok (.iconst 0, 1) := by decide +kernel
theorem dX12_noHouse_2 : decode cX12_noHouse 2 = .ok (.aload_n 0, 1) := by decide +kernel
theorem dX12_noHouse_3 : decode cX12_noHouse 3 = .ok (.invokevirtual 59, 3) := by decide +kernel
theorem dX12_noHouse_6 : decode cX12_noHouse 6 = .ok (.iconst 1, 1) := by decide +kernel
theorem dX12_noHouse_7 : decode cX12_noHouse 7 = .ok (.isub, 1) := by decide +kernel
theorem dX12_noHouse_8 : decode cX12_noHouse 8 = .ok (.invokestatic 63, 3) := by decide +kernel
theorem dX12_noHouse_11 : decode cX12_noHouse 11 = .ok (.ifCond .ne 7, 3) := by decide +kernel
theorem dX12_noHouse_14 : decode cX12_noHouse 14 = .ok (.iconst 1, 1) := by decide +kernel
theorem dX12_noHouse_15 : decode cX12_noHouse 15 = .ok (.goto 4, 3) := by decide +kernel
theorem dX12_noHouse_18 : decode cX12_noHouse 18 = .ok (.iconst 0, 1) := by decide +kernel
theorem dX12_noHouse_19 : decode cX12_noHouse 19 = .ok (.ireturn, 1) := by decide +kernel
theorem dX12_noHearth_0 : decode cX12_noHearth 0 = .ok (.iload_n 1, 1) := by decide +kernel
theorem dX12_noHearth_1 : decode cX12_noHearth 1 = .ok (.iconst 0, 1) := by decide +kernel
theorem dX12_noHearth_2 : decode cX12_noHearth 2 = .ok (.aload_n 0, 1) := by decide +kernel
theorem dX12_noHearth_3 : decode cX12_noHearth 3 = .ok (.invokevirtual 67, 3) := by decide +kernel
theorem dX12_noHearth_6 : decode cX12_noHearth 6 = .ok (.iconst 1, 1) := by decide +kernel
theorem dX12_noHearth_7 : decode cX12_noHearth 7 = .ok (.isub, 1) := by decide +kernel
theorem dX12_noHearth_8 : decode cX12_noHearth 8 = .ok (.invokestatic 63, 3) := by decide +kernel
theorem dX12_noHearth_11 : decode cX12_noHearth 11 = .ok (.ifCond .ne 7, 3) := by decide +kernel
theorem dX12_noHearth_14 : decode cX12_noHearth 14 = .ok (.iconst 1, 1) := by decide +kernel
theorem dX12_noHearth_15 : decode cX12_noHearth 15 = .ok (.goto 4, 3) := by decide +kernel
theorem dX12_noHearth_18 : decode cX12_noHearth 18 = .ok (.iconst 0, 1) := by decide +kernel
theorem dX12_noHearth_19 : decode cX12_noHearth 19 = .ok (.ireturn, 1) := by decide +kernel
theorem dX12_hearthsOf_0 : decode cX12_hearthsOf 0 = .ok (.iconst 0, 1) := by decide +kernel
theorem dX12_hearthsOf_1 : decode cX12_hearthsOf 1 = .ok (.istore_n 2, 1) := by decide +kernel
theorem dX12_hearthsOf_2 : decode cX12_hearthsOf 2 = .ok (.iconst 0, 1) := by decide +kernel
theorem dX12_hearthsOf_3 : decode cX12_hearthsOf 3 = .ok (.istore_n 3, 1) := by decide +kernel
theorem dX12_hearthsOf_4 : decode cX12_hearthsOf 4 = .ok (.iload_n 3, 1) := by decide +kernel
theorem dX12_hearthsOf_5 : decode cX12_hearthsOf 5 = .ok (.aload_n 0, 1) := by decide +kernel
theorem dX12_hearthsOf_6 : decode cX12_hearthsOf 6 = .ok (.invokevirtual 67, 3) := by decide +kernel
theorem dX12_hearthsOf_9 : decode cX12_hearthsOf 9 = .ok (.if_icmp .ge 28, 3) := by decide +kernel
theorem dX12_hearthsOf_12 : decode cX12_hearthsOf 12 = .ok (.iload_n 2, 1) := by decide +kernel
theorem dX12_hearthsOf_13 : decode cX12_hearthsOf 13 = .ok (.aload_n 0, 1) := by decide +kernel
theorem dX12_hearthsOf_14 : decode cX12_hearthsOf 14 = .ok (.iload_n 3, 1) := by decide +kernel
theorem dX12_hearthsOf_15 : decode cX12_hearthsOf 15 = .ok (.iload_n 1, 1) := by decide +kernel
theorem dX12_hearthsOf_16 : decode cX12_hearthsOf 16 = .ok (.invokevirtual 70, 3) := by decide +kernel
theorem dX12_hearthsOf_19 : decode cX12_hearthsOf 19 = .ok (.ifCond .eq 9, 3) := by decide +kernel
theorem dX12_hearthsOf_22 : decode cX12_hearthsOf 22 = .ok (.iconst 1, 1) := by decide +kernel
theorem dX12_hearthsOf_23 : decode cX12_hearthsOf 23 = .ok (.iload_n 3, 1) := by decide +kernel
theorem dX12_hearthsOf_24 : decode cX12_hearthsOf 24 = .ok (.ishl, 1) := by decide +kernel
theorem dX12_hearthsOf_25 : decode cX12_hearthsOf 25 = .ok (.goto 4, 3) := by decide +kernel
theorem dX12_hearthsOf_28 : decode cX12_hearthsOf 28 = .ok (.iconst 0, 1) := by decide +kernel
theorem dX12_hearthsOf_29 : decode cX12_hearthsOf 29 = .ok (.ior, 1) := by decide +kernel
theorem dX12_hearthsOf_30 : decode cX12_hearthsOf 30 = .ok (.istore_n 2, 1) := by decide +kernel
theorem dX12_hearthsOf_31 : decode cX12_hearthsOf 31 = .ok (.iinc 3 1, 3) := by decide +kernel
theorem dX12_hearthsOf_34 : decode cX12_hearthsOf 34 = .ok (.goto (-30), 3) := by decide +kernel
theorem dX12_hearthsOf_37 : decode cX12_hearthsOf 37 = .ok (.iload_n 2, 1) := by decide +kernel
theorem dX12_hearthsOf_38 : decode cX12_hearthsOf 38 = .ok (.ireturn, 1) := by decide +kernel
theorem dX12_ofState_0 : decode cX12_ofState 0 = .ok (.iconst 0, 1) := by decide +kernel
theorem dX12_ofState_1 : decode cX12_ofState 1 = .ok (.istore_n 2, 1) := by decide +kernel
theorem dX12_ofState_2 : decode cX12_ofState 2 = .ok (.iconst 0, 1) := by decide +kernel
theorem dX12_ofState_3 : decode cX12_ofState 3 = .ok (.istore_n 3, 1) := by decide +kernel
theorem dX12_ofState_4 : decode cX12_ofState 4 = .ok (.iload_n 3, 1) := by decide +kernel
theorem dX12_ofState_5 : decode cX12_ofState 5 = .ok (.aload_n 0, 1) := by decide +kernel
theorem dX12_ofState_6 : decode cX12_ofState 6 = .ok (.invokevirtual 67, 3) := by decide +kernel
theorem dX12_ofState_9 : decode cX12_ofState 9 = .ok (.if_icmp .ge 29, 3) := by decide +kernel
theorem dX12_ofState_12 : decode cX12_ofState 12 = .ok (.iload_n 2, 1) := by decide +kernel
theorem dX12_ofState_13 : decode cX12_ofState 13 = .ok (.aload_n 0, 1) := by decide +kernel
theorem dX12_ofState_14 : decode cX12_ofState 14 = .ok (.iload_n 3, 1) := by decide +kernel
theorem dX12_ofState_15 : decode cX12_ofState 15 = .ok (.iconst 5, 1) := by decide +kernel
theorem dX12_ofState_16 : decode cX12_ofState 16 = .ok (.invokevirtual 56, 3) := by decide +kernel
theorem dX12_ofState_19 : decode cX12_ofState 19 = .ok (.iload_n 1, 1) := by decide +kernel
theorem dX12_ofState_20 : decode cX12_ofState 20 = .ok (.if_icmp .ne 9, 3) := by decide +kernel
theorem dX12_ofState_23 : decode cX12_ofState 23 = .ok (.iconst 1, 1) := by decide +kernel
theorem dX12_ofState_24 : decode cX12_ofState 24 = .ok (.iload_n 3, 1) := by decide +kernel
