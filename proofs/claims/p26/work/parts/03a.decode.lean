theorem dX0_init_0 : decode cX0_init 0 = .ok (.aload_n 0, 1) := by decide +kernel
theorem dX0_init_1 : decode cX0_init 1 = .ok (.invokespecial 3, 3) := by decide +kernel
theorem dX0_init_4 : decode cX0_init 4 = .ok (.aload_n 0, 1) := by decide +kernel
theorem dX0_init_5 : decode cX0_init 5 = .ok (.iconst 4, 1) := by decide +kernel
theorem dX0_init_6 : decode cX0_init 6 = .ok (.bipush 60, 2) := by decide +kernel
theorem dX0_init_8 : decode cX0_init 8 = .ok (.multianewarray 11 2, 4) := by decide +kernel
theorem dX0_init_12 : decode cX0_init 12 = .ok (.putfield 13, 3) := by decide +kernel
theorem dX0_init_15 : decode cX0_init 15 = .ok (.aload_n 0, 1) := by decide +kernel
theorem dX0_init_16 : decode cX0_init 16 = .ok (.iconst 0, 1) := by decide +kernel
theorem dX0_init_17 : decode cX0_init 17 = .ok (.putfield 16, 3) := by decide +kernel
theorem dX0_init_20 : decode cX0_init 20 = .ok (.aload_n 0, 1) := by decide +kernel
theorem dX0_init_21 : decode cX0_init 21 = .ok (.iconst 0, 1) := by decide +kernel
theorem dX0_init_22 : decode cX0_init 22 = .ok (.putfield 20, 3) := by decide +kernel
theorem dX0_init_25 : decode cX0_init 25 = .ok (.return_, 1) := by decide +kernel
theorem dX0_add_0 : decode cX0_add 0 = .ok (.aload_n 0, 1) := by decide +kernel
theorem dX0_add_1 : decode cX0_add 1 = .ok (.getfield 13, 3) := by decide +kernel
theorem dX0_add_4 : decode cX0_add 4 = .ok (.iconst 0, 1) := by decide +kernel
theorem dX0_add_5 : decode cX0_add 5 = .ok (.aaload, 1) := by decide +kernel
theorem dX0_add_6 : decode cX0_add 6 = .ok (.aload_n 0, 1) := by decide +kernel
theorem dX0_add_7 : decode cX0_add 7 = .ok (.getfield 16, 3) := by decide +kernel
theorem dX0_add_10 : decode cX0_add 10 = .ok (.iload_n 1, 1) := by decide +kernel
theorem dX0_add_11 : decode cX0_add 11 = .ok (.iastore, 1) := by decide +kernel
theorem dX0_add_12 : decode cX0_add 12 = .ok (.aload_n 0, 1) := by decide +kernel
theorem dX0_add_13 : decode cX0_add 13 = .ok (.getfield 13, 3) := by decide +kernel
theorem dX0_add_16 : decode cX0_add 16 = .ok (.iconst 1, 1) := by decide +kernel
theorem dX0_add_17 : decode cX0_add 17 = .ok (.aaload, 1) := by decide +kernel
theorem dX0_add_18 : decode cX0_add 18 = .ok (.aload_n 0, 1) := by decide +kernel
theorem dX0_add_19 : decode cX0_add 19 = .ok (.getfield 16, 3) := by decide +kernel
theorem dX0_add_22 : decode cX0_add 22 = .ok (.iload_n 2, 1) := by decide +kernel
theorem dX0_add_23 : decode cX0_add 23 = .ok (.iastore, 1) := by decide +kernel
theorem dX0_add_24 : decode cX0_add 24 = .ok (.aload_n 0, 1) := by decide +kernel
theorem dX0_add_25 : decode cX0_add 25 = .ok (.getfield 13, 3) := by decide +kernel
theorem dX0_add_28 : decode cX0_add 28 = .ok (.iconst 2, 1) := by decide +kernel
theorem dX0_add_29 : decode cX0_add 29 = .ok (.aaload, 1) := by decide +kernel
theorem dX0_add_30 : decode cX0_add 30 = .ok (.aload_n 0, 1) := by decide +kernel
theorem dX0_add_31 : decode cX0_add 31 = .ok (.getfield 16, 3) := by decide +kernel
theorem dX0_add_34 : decode cX0_add 34 = .ok (.iload_n 3, 1) := by decide +kernel
theorem dX0_add_35 : decode cX0_add 35 = .ok (.iastore, 1) := by decide +kernel
theorem dX0_add_36 : decode cX0_add 36 = .ok (.aload_n 0, 1) := by decide +kernel
theorem dX0_add_37 : decode cX0_add 37 = .ok (.getfield 13, 3) := by decide +kernel
theorem dX0_add_40 : decode cX0_add 40 = .ok (.iconst 3, 1) := by decide +kernel
theorem dX0_add_41 : decode cX0_add 41 = .ok (.aaload, 1) := by decide +kernel
theorem dX0_add_42 : decode cX0_add 42 = .ok (.aload_n 0, 1) := by decide +kernel
theorem dX0_add_43 : decode cX0_add 43 = .ok (.getfield 16, 3) := by decide +kernel
theorem dX0_add_46 : decode cX0_add 46 = .ok (.iload 4, 2) := by decide +kernel
theorem dX0_add_48 : decode cX0_add 48 = .ok (.iastore, 1) := by decide +kernel
theorem dX0_add_49 : decode cX0_add 49 = .ok (.aload_n 0, 1) := by decide +kernel
theorem dX0_add_50 : decode cX0_add 50 = .ok (.aload_n 0, 1) := by decide +kernel
theorem dX0_add_51 : decode cX0_add 51 = .ok (.getfield 16, 3) := by decide +kernel
theorem dX0_add_54 : decode cX0_add 54 = .ok (.iconst 1, 1) := by decide +kernel
theorem dX0_add_55 : decode cX0_add 55 = .ok (.iadd, 1) := by decide +kernel
theorem dX0_add_56 : decode cX0_add 56 = .ok (.bipush 60, 2) := by decide +kernel
theorem dX0_add_58 : decode cX0_add 58 = .ok (.irem, 1) := by decide +kernel
theorem dX0_add_59 : decode cX0_add 59 = .ok (.putfield 16, 3) := by decide +kernel
theorem dX0_add_62 : decode cX0_add 62 = .ok (.aload_n 0, 1) := by decide +kernel
theorem dX0_add_63 : decode cX0_add 63 = .ok (.bipush 60, 2) := by decide +kernel
theorem dX0_add_65 : decode cX0_add 65 = .ok (.aload_n 0, 1) := by decide +kernel
theorem dX0_add_66 : decode cX0_add 66 = .ok (.getfield 20, 3) := by decide +kernel
theorem dX0_add_69 : decode cX0_add 69 = .ok (.iconst 1, 1) := by decide +kernel
theorem dX0_add_70 : decode cX0_add 70 = .ok (.iadd, 1) := by decide +kernel
theorem dX0_add_71 : decode cX0_add 71 = .ok (.invokestatic 23, 3) := by decide +kernel
theorem dX0_add_74 : decode cX0_add 74 = .ok (.putfield 20, 3) := by decide +kernel
theorem dX0_add_77 : decode cX0_add 77 = .ok (.return_, 1) := by decide +kernel
theorem dX0_cell_0 : decode cX0_cell 0 = .ok (.iload_n 1, 1) := by decide +kernel
theorem dX0_cell_1 : decode cX0_cell 1 = .ok (.ifCond .lt 11, 3) := by decide +kernel
theorem dX0_cell_4 : decode cX0_cell 4 = .ok (.iload_n 1, 1) := by decide +kernel
theorem dX0_cell_5 : decode cX0_cell 5 = .ok (.aload_n 0, 1) := by decide +kernel
theorem dX0_cell_6 : decode cX0_cell 6 = .ok (.getfield 20, 3) := by decide +kernel
theorem dX0_cell_9 : decode cX0_cell 9 = .ok (.if_icmp .lt 5, 3) := by decide +kernel
theorem dX0_cell_12 : decode cX0_cell 12 = .ok (.iconst (-1), 1) := by decide +kernel
theorem dX0_cell_13 : decode cX0_cell 13 = .ok (.ireturn, 1) := by decide +kernel
theorem dX0_cell_14 : decode cX0_cell 14 = .ok (.aload_n 0, 1) := by decide +kernel
theorem dX0_cell_15 : decode cX0_cell 15 = .ok (.getfield 13, 3) := by decide +kernel
theorem dX0_cell_18 : decode cX0_cell 18 = .ok (.iload_n 2, 1) := by decide +kernel
theorem dX0_cell_19 : decode cX0_cell 19 = .ok (.aaload, 1) := by decide +kernel
theorem dX0_cell_20 : decode cX0_cell 20 = .ok (.aload_n 0, 1) := by decide +kernel
theorem dX0_cell_21 : decode cX0_cell 21 = .ok (.getfield 16, 3) := by decide +kernel
theorem dX0_cell_24 : decode cX0_cell 24 = .ok (.iconst 1, 1) := by decide +kernel
theorem dX0_cell_25 : decode cX0_cell 25 = .ok (.isub, 1) := by decide +kernel
theorem dX0_cell_26 : decode cX0_cell 26 = .ok (.iload_n 1, 1) := by decide +kernel
theorem dX0_cell_27 : decode cX0_cell 27 = .ok (.isub, 1) := by decide +kernel
theorem dX0_cell_28 : decode cX0_cell 28 = .ok (.bipush 60, 2) := by decide +kernel
theorem dX0_cell_30 : decode cX0_cell 30 = .ok (.iadd, 1) := by decide +kernel
theorem dX0_cell_31 : decode cX0_cell 31 = .ok (.bipush 60, 2) := by decide +kernel
theorem dX0_cell_33 : decode cX0_cell 33 = .ok (.irem, 1) := by decide +kernel
theorem dX0_cell_34 : decode cX0_cell 34 = .ok (.iaload, 1) := by decide +kernel
theorem dX0_cell_35 : decode cX0_cell 35 = .ok (.ireturn, 1) := by decide +kernel
theorem dX0_rowsOf_0 : decode cX0_rowsOf 0 = .ok (.iconst 0, 1) := by decide +kernel
theorem dX0_rowsOf_1 : decode cX0_rowsOf 1 = .ok (.istore_n 2, 1) := by decide +kernel
theorem dX0_rowsOf_2 : decode cX0_rowsOf 2 = .ok (.iconst 0, 1) := by decide +kernel
theorem dX0_rowsOf_3 : decode cX0_rowsOf 3 = .ok (.istore_n 3, 1) := by decide +kernel
theorem dX0_rowsOf_4 : decode cX0_rowsOf 4 = .ok (.iload_n 3, 1) := by decide +kernel
theorem dX0_rowsOf_5 : decode cX0_rowsOf 5 = .ok (.aload_n 0, 1) := by decide +kernel
theorem dX0_rowsOf_6 : decode cX0_rowsOf 6 = .ok (.getfield 20, 3) := by decide +kernel
theorem dX0_rowsOf_9 : decode cX0_rowsOf 9 = .ok (.if_icmp .ge 22, 3) := by decide +kernel
theorem dX0_rowsOf_12 : decode cX0_rowsOf 12 = .ok (.aload_n 0, 1) := by decide +kernel
theorem dX0_rowsOf_13 : decode cX0_rowsOf 13 = .ok (.iload_n 3, 1) := by decide +kernel
theorem dX0_rowsOf_14 : decode cX0_rowsOf 14 = .ok (.iconst 2, 1) := by decide +kernel
theorem dX0_rowsOf_15 : decode cX0_rowsOf 15 = .ok (.invokevirtual 29, 3) := by decide +kernel
theorem dX0_rowsOf_18 : decode cX0_rowsOf 18 = .ok (.iload_n 1, 1) := by decide +kernel
theorem dX0_rowsOf_19 : decode cX0_rowsOf 19 = .ok (.if_icmp .ne 6, 3) := by decide +kernel
theorem dX0_rowsOf_22 : decode cX0_rowsOf 22 = .ok (.iinc 2 1, 3) := by decide +kernel
theorem dX0_rowsOf_25 : decode cX0_rowsOf 25 = .ok (.iinc 3 1, 3) := by decide +kernel
theorem dX0_rowsOf_28 : decode cX0_rowsOf 28 = .ok (.goto (-24), 3) := by decide +kernel
theorem dX0_rowsOf_31 : decode cX0_rowsOf 31 = .ok (.iload_n 2, 1) := by decide +kernel
theorem dX0_rowsOf_32 : decode cX0_rowsOf 32 = .ok (.ireturn, 1) := by decide +kernel
theorem dX0_latestOf_0 : decode cX0_latestOf 0 = .ok (.iconst 0, 1) := by decide +kernel
theorem dX0_latestOf_1 : decode cX0_latestOf 1 = .ok (.istore_n 2, 1) := by decide +kernel
theorem dX0_latestOf_2 : decode cX0_latestOf 2 = .ok (.iload_n 2, 1) := by decide +kernel
theorem dX0_latestOf_3 : decode cX0_latestOf 3 = .ok (.aload_n 0, 1) := by decide +kernel
theorem dX0_latestOf_4 : decode cX0_latestOf 4 = .ok (.getfield 20, 3) := by decide +kernel
theorem dX0_latestOf_7 : decode cX0_latestOf 7 = .ok (.if_icmp .ge 26, 3) := by decide +kernel
theorem dX0_latestOf_10 : decode cX0_latestOf 10 = .ok (.aload_n 0, 1) := by decide +kernel
theorem dX0_latestOf_11 : decode cX0_latestOf 11 = .ok (.iload_n 2, 1) := by decide +kernel
theorem dX0_latestOf_12 : decode cX0_latestOf 12 = .ok (.iconst 2, 1) := by decide +kernel
theorem dX0_latestOf_13 : decode cX0_latestOf 13 = .ok (.invokevirtual 29, 3) := by decide +kernel
theorem dX0_latestOf_16 : decode cX0_latestOf 16 = .ok (.iload_n 1, 1) := by decide +kernel
theorem dX0_latestOf_17 : decode cX0_latestOf 17 = .ok (.if_icmp .ne 10, 3) := by decide +kernel
theorem dX0_latestOf_20 : decode cX0_latestOf 20 = .ok (.aload_n 0, 1) := by decide +kernel
theorem dX0_latestOf_21 : decode cX0_latestOf 21 = .ok (.iload_n 2, 1) := by decide +kernel
theorem dX0_latestOf_22 : decode cX0_latestOf 22 = .ok (.iconst 0, 1) := by decide +kernel
theorem dX0_latestOf_23 : decode cX0_latestOf 23 = .ok (.invokevirtual 29, 3) := by decide +kernel
theorem dX0_latestOf_26 : decode cX0_latestOf 26 = .ok (.ireturn, 1) := by decide +kernel
theorem dX0_latestOf_27 : decode cX0_latestOf 27 = .ok (.iinc 2 1, 3) := by decide +kernel
theorem dX0_latestOf_30 : decode cX0_latestOf 30 = .ok (.goto (-28), 3) := by decide +kernel
theorem dX0_latestOf_33 : decode cX0_latestOf 33 = .ok (.iconst (-1), 1) := by decide +kernel
theorem dX0_latestOf_34 : decode cX0_latestOf 34 = .ok (.ireturn, 1) := by decide +kernel
theorem dX0_become_0 : decode cX0_become 0 = .ok (.iconst 0, 1) := by decide +kernel
theorem dX0_become_1 : decode cX0_become 1 = .ok (.istore_n 2, 1) := by decide +kernel
theorem dX0_become_2 : decode cX0_become 2 = .ok (.iload_n 2, 1) := by decide +kernel
theorem dX0_become_3 : decode cX0_become 3 = .ok (.iconst 4, 1) := by decide +kernel
theorem dX0_become_4 : decode cX0_become 4 = .ok (.if_icmp .ge 28, 3) := by decide +kernel
theorem dX0_become_7 : decode cX0_become 7 = .ok (.aload_n 1, 1) := by decide +kernel
theorem dX0_become_8 : decode cX0_become 8 = .ok (.getfield 13, 3) := by decide +kernel
theorem dX0_become_11 : decode cX0_become 11 = .ok (.iload_n 2, 1) := by decide +kernel
theorem dX0_become_12 : decode cX0_become 12 = .ok (.aaload, 1) := by decide +kernel
theorem dX0_become_13 : decode cX0_become 13 = .ok (.iconst 0, 1) := by decide +kernel
theorem dX0_become_14 : decode cX0_become 14 = .ok (.aload_n 0, 1) := by decide +kernel
theorem dX0_become_15 : decode cX0_become 15 = .ok (.getfield 13, 3) := by decide +kernel
theorem dX0_become_18 : decode cX0_become 18 = .ok (.iload_n 2, 1) := by decide +kernel
theorem dX0_become_19 : decode cX0_become 19 = .ok (.aaload, 1) := by decide +kernel
theorem dX0_become_20 : decode cX0_become 20 = .ok (.iconst 0, 1) := by decide +kernel
theorem dX0_become_21 : decode cX0_become 21 = .ok (.bipush 60, 2) := by decide +kernel
theorem dX0_become_23 : decode cX0_become 23 = .ok (.invokestatic 32, 3) := by decide +kernel
theorem dX0_become_26 : decode cX0_become 26 = .ok (.iinc 2 1, 3) := by decide +kernel
theorem dX0_become_29 : decode cX0_become 29 = .ok (.goto (-27), 3) := by decide +kernel
theorem dX0_become_32 : decode cX0_become 32 = .ok (.aload_n 0, 1) := by decide +kernel
theorem dX0_become_33 : decode cX0_become 33 = .ok (.aload_n 1, 1) := by decide +kernel
theorem dX0_become_34 : decode cX0_become 34 = .ok (.getfield 16, 3) := by decide +kernel
theorem dX0_become_37 : decode cX0_become 37 = .ok (.putfield 16, 3) := by decide +kernel
theorem dX0_become_40 : decode cX0_become 40 = .ok (.aload_n 0, 1) := by decide +kernel
theorem dX0_become_41 : decode cX0_become 41 = .ok (.aload_n 1, 1) := by decide +kernel
theorem dX0_become_42 : decode cX0_become 42 = .ok (.getfield 20, 3) := by decide +kernel
theorem dX0_become_45 : decode cX0_become 45 = .ok (.putfield 20, 3) := by decide +kernel
theorem dX0_become_48 : decode cX0_become 48 = .ok (.return_, 1) := by decide +kernel
theorem dX1_init_0 : decode cX1_init 0 = .ok (.aload_n 0, 1) := by decide +kernel
theorem dX1_init_1 : decode cX1_init 1 = .ok (.invokespecial 1, 3) := by decide +kernel
theorem dX1_init_4 : decode cX1_init 4 = .ok (.return_, 1) := by decide +kernel
theorem dX1_become_0 : decode cX1_become 0 = .ok (.aload_n 0, 1) := by decide +kernel
theorem dX1_become_1 : decode cX1_become 1 = .ok (.aload_n 1, 1) := by decide +kernel
theorem dX1_become_2 : decode cX1_become 2 = .ok (.getfield 7, 3) := by decide +kernel
theorem dX1_become_5 : decode cX1_become 5 = .ok (.putfield 7, 3) := by decide +kernel
theorem dX1_become_8 : decode cX1_become 8 = .ok (.aload_n 0, 1) := by decide +kernel
theorem dX1_become_9 : decode cX1_become 9 = .ok (.aload_n 1, 1) := by decide +kernel
theorem dX1_become_10 : decode cX1_become 10 = .ok (.getfield 13, 3) := by decide +kernel
theorem dX1_become_13 : decode cX1_become 13 = .ok (.putfield 13, 3) := by decide +kernel
theorem dX1_become_16 : decode cX1_become 16 = .ok (.aload_n 0, 1) := by decide +kernel
theorem dX1_become_17 : decode cX1_become 17 = .ok (.aload_n 1, 1) := by decide +kernel
theorem dX1_become_18 : decode cX1_become 18 = .ok (.getfield 16, 3) := by decide +kernel
theorem dX1_become_21 : decode cX1_become 21 = .ok (.putfield 16, 3) := by decide +kernel
theorem dX1_become_24 : decode cX1_become 24 = .ok (.aload_n 0, 1) := by decide +kernel
theorem dX1_become_25 : decode cX1_become 25 = .ok (.aload_n 1, 1) := by decide +kernel
theorem dX1_become_26 : decode cX1_become 26 = .ok (.getfield 19, 3) := by decide +kernel
theorem dX1_become_29 : decode cX1_become 29 = .ok (.putfield 19, 3) := by decide +kernel
theorem dX1_become_32 : decode cX1_become 32 = .ok (.aload_n 0, 1) := by decide +kernel
theorem dX1_become_33 : decode cX1_become 33 = .ok (.aload_n 1, 1) := by decide +kernel
theorem dX1_become_34 : decode cX1_become 34 = .ok (.getfield 22, 3) := by decide +kernel
theorem dX1_become_37 : decode cX1_become 37 = .ok (.putfield 22, 3) := by decide +kernel
theorem dX1_become_40 : decode cX1_become 40 = .ok (.aload_n 0, 1) := by decide +kernel
theorem dX1_become_41 : decode cX1_become 41 = .ok (.aload_n 1, 1) := by decide +kernel
theorem dX1_become_42 : decode cX1_become 42 = .ok (.getfield 25, 3) := by decide +kernel
theorem dX1_become_45 : decode cX1_become 45 = .ok (.putfield 25, 3) := by decide +kernel
theorem dX1_become_48 : decode cX1_become 48 = .ok (.return_, 1) := by decide +kernel
theorem dX2_init_0 : decode cX2_init 0 = .ok (.aload_n 0, 1) := by decide +kernel
theorem dX2_init_1 : decode cX2_init 1 = .ok (.invokespecial 1, 3) := by decide +kernel
theorem dX2_init_4 : decode cX2_init 4 = .ok (.return_, 1) := by decide +kernel
theorem dX2_become_0 : decode cX2_become 0 = .ok (.aload_n 0, 1) := by decide +kernel
theorem dX2_become_1 : decode cX2_become 1 = .ok (.aload_n 1, 1) := by decide +kernel
theorem dX2_become_2 : decode cX2_become 2 = .ok (.getfield 7, 3) := by decide +kernel
theorem dX2_become_5 : decode cX2_become 5 = .ok (.putfield 7, 3) := by decide +kernel
theorem dX2_become_8 : decode cX2_become 8 = .ok (.aload_n 0, 1) := by decide +kernel
theorem dX2_become_9 : decode cX2_become 9 = .ok (.aload_n 1, 1) := by decide +kernel
theorem dX2_become_10 : decode cX2_become 10 = .ok (.getfield 13, 3) := by decide +kernel
theorem dX2_become_13 : decode cX2_become 13 = .ok (.putfield 13, 3) := by decide +kernel
theorem dX2_become_16 : decode cX2_become 16 = .ok (.aload_n 0, 1) := by decide +kernel
theorem dX2_become_17 : decode cX2_become 17 = .ok (.aload_n 1, 1) := by decide +kernel
theorem dX2_become_18 : decode cX2_become 18 = .ok (.getfield 17, 3) := by decide +kernel
theorem dX2_become_21 : decode cX2_become 21 = .ok (.putfield 17, 3) := by decide +kernel
theorem dX2_become_24 : decode cX2_become 24 = .ok (.aload_n 0, 1) := by decide +kernel
theorem dX2_become_25 : decode cX2_become 25 = .ok (.aload_n 1, 1) := by decide +kernel
theorem dX2_become_26 : decode cX2_become 26 = .ok (.getfield 20, 3) := by decide +kernel
theorem dX2_become_29 : decode cX2_become 29 = .ok (.putfield 20, 3) := by decide +kernel
theorem dX2_become_32 : decode cX2_become 32 = .ok (.aload_n 0, 1) := by decide +kernel
theorem dX2_become_33 : decode cX2_become 33 = .ok (.aload_n 1, 1) := by decide +kernel
theorem dX2_become_34 : decode cX2_become 34 = .ok (.getfield 23, 3) := by decide +kernel
theorem dX2_become_37 : decode cX2_become 37 = .ok (.putfield 23, 3) := by decide +kernel
theorem dX2_become_40 : decode cX2_become 40 = .ok (.return_, 1) := by decide +kernel
theorem dX3_init_0 : decode cX3_init 0 = .ok (.aload_n 0, 1) := by decide +kernel
theorem dX3_init_1 : decode cX3_init 1 = .ok (.invokespecial 3, 3) := by decide +kernel
theorem dX3_init_4 : decode cX3_init 4 = .ok (.aload_n 0, 1) := by decide +kernel
theorem dX3_init_5 : decode cX3_init 5 = .ok (.bipush 32, 2) := by decide +kernel
theorem dX3_init_7 : decode cX3_init 7 = .ok (.newarray .int, 2) := by decide +kernel
theorem dX3_init_9 : decode cX3_init 9 = .ok (.putfield 11, 3) := by decide +kernel
theorem dX3_init_12 : decode cX3_init 12 = .ok (.aload_n 0, 1) := by decide +kernel
theorem dX3_init_13 : decode cX3_init 13 = .ok (.bipush 13, 2) := by decide +kernel
theorem dX3_init_15 : decode cX3_init 15 = .ok (.newarray .int, 2) := by decide +kernel
theorem dX3_init_17 : decode cX3_init 17 = .ok (.putfield 15, 3) := by decide +kernel
theorem dX3_init_20 : decode cX3_init 20 = .ok (.aload_n 0, 1) := by decide +kernel
theorem dX3_init_21 : decode cX3_init 21 = .ok (.aload_n 1, 1) := by decide +kernel
theorem dX3_init_22 : decode cX3_init 22 = .ok (.putfield 18, 3) := by decide +kernel
theorem dX3_init_25 : decode cX3_init 25 = .ok (.aload_n 0, 1) := by decide +kernel
theorem dX3_init_26 : decode cX3_init 26 = .ok (.iload_n 2, 1) := by decide +kernel
theorem dX3_init_27 : decode cX3_init 27 = .ok (.putfield 21, 3) := by decide +kernel
theorem dX3_init_30 : decode cX3_init 30 = .ok (.return_, 1) := by decide +kernel
theorem dX3_total_0 : decode cX3_total 0 = .ok (.aload_n 0, 1) := by decide +kernel
theorem dX3_total_1 : decode cX3_total 1 = .ok (.aload_n 2, 1) := by decide +kernel
theorem dX3_total_2 : decode cX3_total 2 = .ok (.aload_n 3, 1) := by decide +kernel
theorem dX3_total_3 : decode cX3_total 3 = .ok (.iload 4, 2) := by decide +kernel
theorem dX3_total_5 : decode cX3_total 5 = .ok (.iload 5, 2) := by decide +kernel
theorem dX3_total_7 : decode cX3_total 7 = .ok (.invokevirtual 25, 3) := by decide +kernel
theorem dX3_total_10 : decode cX3_total 10 = .ok (.iconst 0, 1) := by decide +kernel
theorem dX3_total_11 : decode cX3_total 11 = .ok (.istore 6, 2) := by decide +kernel
theorem dX3_total_13 : decode cX3_total 13 = .ok (.iconst 0, 1) := by decide +kernel
theorem dX3_total_14 : decode cX3_total 14 = .ok (.istore 7, 2) := by decide +kernel
theorem dX3_total_16 : decode cX3_total 16 = .ok (.iconst 0, 1) := by decide +kernel
theorem dX3_total_17 : decode cX3_total 17 = .ok (.istore 8, 2) := by decide +kernel
theorem dX3_total_19 : decode cX3_total 19 = .ok (.iload 8, 2) := by decide +kernel
theorem dX3_total_21 : decode cX3_total 21 = .ok (.aload_n 0, 1) := by decide +kernel
theorem dX3_total_22 : decode cX3_total 22 = .ok (.getfield 21, 3) := by decide +kernel
theorem dX3_total_25 : decode cX3_total 25 = .ok (.if_icmp .ge 82, 3) := by decide +kernel
theorem dX3_total_28 : decode cX3_total 28 = .ok (.iload 7, 2) := by decide +kernel
theorem dX3_total_30 : decode cX3_total 30 = .ok (.iconst 3, 1) := by decide +kernel
theorem dX3_total_31 : decode cX3_total 31 = .ok (.iadd, 1) := by decide +kernel
theorem dX3_total_32 : decode cX3_total 32 = .ok (.aload_n 0, 1) := by decide +kernel
theorem dX3_total_33 : decode cX3_total 33 = .ok (.getfield 18, 3) := by decide +kernel
theorem dX3_total_36 : decode cX3_total 36 = .ok (.arraylength, 1) := by decide +kernel
theorem dX3_total_37 : decode cX3_total 37 = .ok (.if_icmp .gt 70, 3) := by decide +kernel
theorem dX3_total_40 : decode cX3_total 40 = .ok (.aload_n 0, 1) := by decide +kernel
theorem dX3_total_41 : decode cX3_total 41 = .ok (.getfield 18, 3) := by decide +kernel
theorem dX3_total_44 : decode cX3_total 44 = .ok (.arraylength, 1) := by decide +kernel
theorem dX3_total_45 : decode cX3_total 45 = .ok (.aload_n 0, 1) := by decide +kernel
theorem dX3_total_46 : decode cX3_total 46 = .ok (.getfield 18, 3) := by decide +kernel
theorem dX3_total_49 : decode cX3_total 49 = .ok (.iload 7, 2) := by decide +kernel
theorem dX3_total_51 : decode cX3_total 51 = .ok (.iconst 2, 1) := by decide +kernel
theorem dX3_total_52 : decode cX3_total 52 = .ok (.iadd, 1) := by decide +kernel
theorem dX3_total_53 : decode cX3_total 53 = .ok (.iaload, 1) := by decide +kernel
theorem dX3_total_54 : decode cX3_total 54 = .ok (.invokestatic 29, 3) := by decide +kernel
theorem dX3_total_57 : decode cX3_total 57 = .ok (.istore 9, 2) := by decide +kernel
theorem dX3_total_59 : decode cX3_total 59 = .ok (.aload_n 0, 1) := by decide +kernel
theorem dX3_total_60 : decode cX3_total 60 = .ok (.getfield 18, 3) := by decide +kernel
theorem dX3_total_63 : decode cX3_total 63 = .ok (.iload 7, 2) := by decide +kernel
theorem dX3_total_65 : decode cX3_total 65 = .ok (.iaload, 1) := by decide +kernel
theorem dX3_total_66 : decode cX3_total 66 = .ok (.iload_n 1, 1) := by decide +kernel
theorem dX3_total_67 : decode cX3_total 67 = .ok (.if_icmp .ne 30, 3) := by decide +kernel
theorem dX3_total_70 : decode cX3_total 70 = .ok (.aload_n 0, 1) := by decide +kernel
theorem dX3_total_71 : decode cX3_total 71 = .ok (.iload 7, 2) := by decide +kernel
theorem dX3_total_73 : decode cX3_total 73 = .ok (.iconst 3, 1) := by decide +kernel
theorem dX3_total_74 : decode cX3_total 74 = .ok (.iadd, 1) := by decide +kernel
theorem dX3_total_75 : decode cX3_total 75 = .ok (.iload 9, 2) := by decide +kernel
theorem dX3_total_77 : decode cX3_total 77 = .ok (.invokevirtual 35, 3) := by decide +kernel
theorem dX3_total_80 : decode cX3_total 80 = .ok (.ifCond .eq 17, 3) := by decide +kernel
theorem dX3_total_83 : decode cX3_total 83 = .ok (.iload 6, 2) := by decide +kernel
theorem dX3_total_85 : decode cX3_total 85 = .ok (.aload_n 0, 1) := by decide +kernel
theorem dX3_total_86 : decode cX3_total 86 = .ok (.getfield 18, 3) := by decide +kernel
theorem dX3_total_89 : decode cX3_total 89 = .ok (.iload 7, 2) := by decide +kernel
theorem dX3_total_91 : decode cX3_total 91 = .ok (.iconst 1, 1) := by decide +kernel
theorem dX3_total_92 : decode cX3_total 92 = .ok (.iadd, 1) := by decide +kernel
theorem dX3_total_93 : decode cX3_total 93 = .ok (.iaload, 1) := by decide +kernel
theorem dX3_total_94 : decode cX3_total 94 = .ok (.iadd, 1) := by decide +kernel
theorem dX3_total_95 : decode cX3_total 95 = .ok (.istore 6, 2) := by decide +kernel
theorem dX3_total_97 : decode cX3_total 97 = .ok (.iload 9, 2) := by decide +kernel
theorem dX3_total_99 : decode cX3_total 99 = .ok (.istore 7, 2) := by decide +kernel
theorem dX3_total_101 : decode cX3_total 101 = .ok (.iinc 8 1, 3) := by decide +kernel
theorem dX3_total_104 : decode cX3_total 104 = .ok (.goto (-85), 3) := by decide +kernel
theorem dX3_total_107 : decode cX3_total 107 = .ok (.iload 6, 2) := by decide +kernel
theorem dX3_total_109 : decode cX3_total 109 = .ok (.ireturn, 1) := by decide +kernel
theorem dX3_consider_0 : decode cX3_consider 0 = .ok (.aload_n 0, 1) := by decide +kernel
theorem dX3_consider_1 : decode cX3_consider 1 = .ok (.getfield 15, 3) := by decide +kernel
theorem dX3_consider_4 : decode cX3_consider 4 = .ok (.iconst 2, 1) := by decide +kernel
theorem dX3_consider_5 : decode cX3_consider 5 = .ok (.aload_n 2, 1) := by decide +kernel
theorem dX3_consider_6 : decode cX3_consider 6 = .ok (.getfield 39, 3) := by decide +kernel
theorem dX3_consider_9 : decode cX3_consider 9 = .ok (.ifCond .eq 7, 3) := by decide +kernel
theorem dX3_consider_12 : decode cX3_consider 12 = .ok (.iconst 1, 1) := by decide +kernel
theorem dX3_consider_13 : decode cX3_consider 13 = .ok (.goto 4, 3) := by decide +kernel
theorem dX3_consider_16 : decode cX3_consider 16 = .ok (.iconst 0, 1) := by decide +kernel
theorem dX3_consider_17 : decode cX3_consider 17 = .ok (.iastore, 1) := by decide +kernel
theorem dX3_consider_18 : decode cX3_consider 18 = .ok (.aload_n 0, 1) := by decide +kernel
theorem dX3_consider_19 : decode cX3_consider 19 = .ok (.getfield 15, 3) := by decide +kernel
theorem dX3_consider_22 : decode cX3_consider 22 = .ok (.iconst 3, 1) := by decide +kernel
theorem dX3_consider_23 : decode cX3_consider 23 = .ok (.aload_n 1, 1) := by decide +kernel
theorem dX3_consider_24 : decode cX3_consider 24 = .ok (.getfield 45, 3) := by decide +kernel
theorem dX3_consider_27 : decode cX3_consider 27 = .ok (.ifCond .ne 7, 3) := by decide +kernel
theorem dX3_consider_30 : decode cX3_consider 30 = .ok (.iconst 1, 1) := by decide +kernel
theorem dX3_consider_31 : decode cX3_consider 31 = .ok (.goto 4, 3) := by decide +kernel
theorem dX3_consider_34 : decode cX3_consider 34 = .ok (.iconst 0, 1) := by decide +kernel
theorem dX3_consider_35 : decode cX3_consider 35 = .ok (.iastore, 1) := by decide +kernel
theorem dX3_consider_36 : decode cX3_consider 36 = .ok (.aload_n 0, 1) := by decide +kernel
theorem dX3_consider_37 : decode cX3_consider 37 = .ok (.getfield 15, 3) := by decide +kernel
theorem dX3_consider_40 : decode cX3_consider 40 = .ok (.iconst 4, 1) := by decide +kernel
theorem dX3_consider_41 : decode cX3_consider 41 = .ok (.aload_n 1, 1) := by decide +kernel
theorem dX3_consider_42 : decode cX3_consider 42 = .ok (.getfield 45, 3) := by decide +kernel
theorem dX3_consider_45 : decode cX3_consider 45 = .ok (.iconst 1, 1) := by decide +kernel
theorem dX3_consider_46 : decode cX3_consider 46 = .ok (.if_icmp .ne 7, 3) := by decide +kernel
theorem dX3_consider_49 : decode cX3_consider 49 = .ok (.iconst 1, 1) := by decide +kernel
theorem dX3_consider_50 : decode cX3_consider 50 = .ok (.goto 4, 3) := by decide +kernel
theorem dX3_consider_53 : decode cX3_consider 53 = .ok (.iconst 0, 1) := by decide +kernel
theorem dX3_consider_54 : decode cX3_consider 54 = .ok (.iastore, 1) := by decide +kernel
theorem dX3_consider_55 : decode cX3_consider 55 = .ok (.aload_n 0, 1) := by decide +kernel
theorem dX3_consider_56 : decode cX3_consider 56 = .ok (.getfield 15, 3) := by decide +kernel
theorem dX3_consider_59 : decode cX3_consider 59 = .ok (.iconst 5, 1) := by decide +kernel
theorem dX3_consider_60 : decode cX3_consider 60 = .ok (.aload_n 1, 1) := by decide +kernel
theorem dX3_consider_61 : decode cX3_consider 61 = .ok (.getfield 45, 3) := by decide +kernel
theorem dX3_consider_64 : decode cX3_consider 64 = .ok (.iconst 2, 1) := by decide +kernel
theorem dX3_consider_65 : decode cX3_consider 65 = .ok (.if_icmp .ne 7, 3) := by decide +kernel
theorem dX3_consider_68 : decode cX3_consider 68 = .ok (.iconst 1, 1) := by decide +kernel
theorem dX3_consider_69 : decode cX3_consider 69 = .ok (.goto 4, 3) := by decide +kernel
theorem dX3_consider_72 : decode cX3_consider 72 = .ok (.iconst 0, 1) := by decide +kernel
theorem dX3_consider_73 : decode cX3_consider 73 = .ok (.iastore, 1) := by decide +kernel
theorem dX3_consider_74 : decode cX3_consider 74 = .ok (.aload_n 0, 1) := by decide +kernel
theorem dX3_consider_75 : decode cX3_consider 75 = .ok (.getfield 15, 3) := by decide +kernel
theorem dX3_consider_78 : decode cX3_consider 78 = .ok (.bipush 6, 2) := by decide +kernel
theorem dX3_consider_80 : decode cX3_consider 80 = .ok (.aload_n 1, 1) := by decide +kernel
theorem dX3_consider_81 : decode cX3_consider 81 = .ok (.getfield 45, 3) := by decide +kernel
theorem dX3_consider_84 : decode cX3_consider 84 = .ok (.iconst 3, 1) := by decide +kernel
theorem dX3_consider_85 : decode cX3_consider 85 = .ok (.if_icmp .ne 7, 3) := by decide +kernel
theorem dX3_consider_88 : decode cX3_consider 88 = .ok (.iconst 1, 1) := by decide +kernel
theorem dX3_consider_89 : decode cX3_consider 89 = .ok (.goto 4, 3) := by decide +kernel
theorem dX3_consider_92 : decode cX3_consider 92 = .ok (.iconst 0, 1) := by decide +kernel
theorem dX3_consider_93 : decode cX3_consider 93 = .ok (.iastore, 1) := by decide +kernel
theorem dX3_consider_94 : decode cX3_consider 94 = .ok (.aload_n 0, 1) := by decide +kernel
theorem dX3_consider_95 : decode cX3_consider 95 = .ok (.getfield 15, 3) := by decide +kernel
theorem dX3_consider_98 : decode cX3_consider 98 = .ok (.bipush 7, 2) := by decide +kernel
theorem dX3_consider_100 : decode cX3_consider 100 = .ok (.aload_n 1, 1) := by decide +kernel
theorem dX3_consider_101 : decode cX3_consider 101 = .ok (.getfield 50, 3) := by decide +kernel
theorem dX3_consider_104 : decode cX3_consider 104 = .ok (.iastore, 1) := by decide +kernel
theorem dX3_consider_105 : decode cX3_consider 105 = .ok (.aload_n 0, 1) := by decide +kernel
theorem dX3_consider_106 : decode cX3_consider 106 = .ok (.getfield 15, 3) := by decide +kernel
theorem dX3_consider_109 : decode cX3_consider 109 = .ok (.bipush 8, 2) := by decide +kernel
theorem dX3_consider_111 : decode cX3_consider 111 = .ok (.aload_n 1, 1) := by decide +kernel
theorem dX3_consider_112 : decode cX3_consider 112 = .ok (.getfield 53, 3) := by decide +kernel
theorem dX3_consider_115 : decode cX3_consider 115 = .ok (.iastore, 1) := by decide +kernel
theorem dX3_consider_116 : decode cX3_consider 116 = .ok (.aload_n 0, 1) := by decide +kernel
theorem dX3_consider_117 : decode cX3_consider 117 = .ok (.getfield 15, 3) := by decide +kernel
theorem dX3_consider_120 : decode cX3_consider 120 = .ok (.bipush 9, 2) := by decide +kernel
theorem dX3_consider_122 : decode cX3_consider 122 = .ok (.aload_n 1, 1) := by decide +kernel
theorem dX3_consider_123 : decode cX3_consider 123 = .ok (.getfield 56, 3) := by decide +kernel
theorem dX3_consider_126 : decode cX3_consider 126 = .ok (.iastore, 1) := by decide +kernel
theorem dX3_consider_127 : decode cX3_consider 127 = .ok (.aload_n 0, 1) := by decide +kernel
theorem dX3_consider_128 : decode cX3_consider 128 = .ok (.getfield 15, 3) := by decide +kernel
theorem dX3_consider_131 : decode cX3_consider 131 = .ok (.bipush 10, 2) := by decide +kernel
theorem dX3_consider_133 : decode cX3_consider 133 = .ok (.iload_n 3, 1) := by decide +kernel
theorem dX3_consider_134 : decode cX3_consider 134 = .ok (.iastore, 1) := by decide +kernel
theorem dX3_consider_135 : decode cX3_consider 135 = .ok (.aload_n 0, 1) := by decide +kernel
theorem dX3_consider_136 : decode cX3_consider 136 = .ok (.getfield 15, 3) := by decide +kernel
theorem dX3_consider_139 : decode cX3_consider 139 = .ok (.bipush 11, 2) := by decide +kernel
theorem dX3_consider_141 : decode cX3_consider 141 = .ok (.aload_n 2, 1) := by decide +kernel
theorem dX3_consider_142 : decode cX3_consider 142 = .ok (.getfield 59, 3) := by decide +kernel
theorem dX3_consider_145 : decode cX3_consider 145 = .ok (.iastore, 1) := by decide +kernel
theorem dX3_consider_146 : decode cX3_consider 146 = .ok (.aload_n 0, 1) := by decide +kernel
theorem dX3_consider_147 : decode cX3_consider 147 = .ok (.getfield 15, 3) := by decide +kernel
theorem dX3_consider_150 : decode cX3_consider 150 = .ok (.bipush 12, 2) := by decide +kernel
theorem dX3_consider_152 : decode cX3_consider 152 = .ok (.iload 4, 2) := by decide +kernel
theorem dX3_consider_154 : decode cX3_consider 154 = .ok (.iastore, 1) := by decide +kernel
theorem dX3_consider_155 : decode cX3_consider 155 = .ok (.return_, 1) := by decide +kernel
theorem dX3_holds_0 : decode cX3_holds 0 = .ok (.iconst 0, 1) := by decide +kernel
theorem dX3_holds_1 : decode cX3_holds 1 = .ok (.istore_n 3, 1) := by decide +kernel
theorem dX3_holds_2 : decode cX3_holds 2 = .ok (.iload_n 1, 1) := by decide +kernel
theorem dX3_holds_3 : decode cX3_holds 3 = .ok (.istore 4, 2) := by decide +kernel
theorem dX3_holds_5 : decode cX3_holds 5 = .ok (.iload 4, 2) := by decide +kernel
theorem dX3_holds_7 : decode cX3_holds 7 = .ok (.iload_n 2, 1) := by decide +kernel
theorem dX3_holds_8 : decode cX3_holds 8 = .ok (.if_icmp .ge 245, 3) := by decide +kernel
theorem dX3_holds_11 : decode cX3_holds 11 = .ok (.aload_n 0, 1) := by decide +kernel
theorem dX3_holds_12 : decode cX3_holds 12 = .ok (.getfield 18, 3) := by decide +kernel
theorem dX3_holds_15 : decode cX3_holds 15 = .ok (.iload 4, 2) := by decide +kernel
theorem dX3_holds_17 : decode cX3_holds 17 = .ok (.iaload, 1) := by decide +kernel
theorem dX3_holds_18 : decode cX3_holds 18 = .ok (.istore 5, 2) := by decide +kernel
theorem dX3_holds_20 : decode cX3_holds 20 = .ok (.iload 5, 2) := by decide +kernel
theorem dX3_holds_22 : decode cX3_holds 22 = .ok (.bipush (-13), 2) := by decide +kernel
theorem dX3_holds_24 : decode cX3_holds 24 = .ok (.if_icmp .le 39, 3) := by decide +kernel
theorem dX3_holds_27 : decode cX3_holds 27 = .ok (.iload_n 3, 1) := by decide +kernel
theorem dX3_holds_28 : decode cX3_holds 28 = .ok (.bipush 32, 2) := by decide +kernel
theorem dX3_holds_30 : decode cX3_holds 30 = .ok (.if_icmp .ge 217, 3) := by decide +kernel
theorem dX3_holds_33 : decode cX3_holds 33 = .ok (.aload_n 0, 1) := by decide +kernel
theorem dX3_holds_34 : decode cX3_holds 34 = .ok (.getfield 11, 3) := by decide +kernel
theorem dX3_holds_37 : decode cX3_holds 37 = .ok (.iload_n 3, 1) := by decide +kernel
theorem dX3_holds_38 : decode cX3_holds 38 = .ok (.iload 5, 2) := by decide +kernel
theorem dX3_holds_40 : decode cX3_holds 40 = .ok (.ifCond .lt 8, 3) := by decide +kernel
theorem dX3_holds_43 : decode cX3_holds 43 = .ok (.iload 5, 2) := by decide +kernel
theorem dX3_holds_45 : decode cX3_holds 45 = .ok (.goto 11, 3) := by decide +kernel
theorem dX3_holds_48 : decode cX3_holds 48 = .ok (.aload_n 0, 1) := by decide +kernel
theorem dX3_holds_49 : decode cX3_holds 49 = .ok (.getfield 15, 3) := by decide +kernel
theorem dX3_holds_52 : decode cX3_holds 52 = .ok (.iload 5, 2) := by decide +kernel
theorem dX3_holds_54 : decode cX3_holds 54 = .ok (.ineg, 1) := by decide +kernel
theorem dX3_holds_55 : decode cX3_holds 55 = .ok (.iaload, 1) := by decide +kernel
theorem dX3_holds_56 : decode cX3_holds 56 = .ok (.iastore, 1) := by decide +kernel
theorem dX3_holds_57 : decode cX3_holds 57 = .ok (.iinc 3 1, 3) := by decide +kernel
theorem dX3_holds_60 : decode cX3_holds 60 = .ok (.goto 187, 3) := by decide +kernel
theorem dX3_holds_63 : decode cX3_holds 63 = .ok (.iload 5, 2) := by decide +kernel
theorem dX3_holds_65 : decode cX3_holds 65 = .ok (.bipush (-13), 2) := by decide +kernel
theorem dX3_holds_67 : decode cX3_holds 67 = .ok (.if_icmp .ne 29, 3) := by decide +kernel
theorem dX3_holds_70 : decode cX3_holds 70 = .ok (.iload_n 3, 1) := by decide +kernel
theorem dX3_holds_71 : decode cX3_holds 71 = .ok (.iconst 1, 1) := by decide +kernel
theorem dX3_holds_72 : decode cX3_holds 72 = .ok (.if_icmp .lt 175, 3) := by decide +kernel
theorem dX3_holds_75 : decode cX3_holds 75 = .ok (.aload_n 0, 1) := by decide +kernel
theorem dX3_holds_76 : decode cX3_holds 76 = .ok (.getfield 11, 3) := by decide +kernel
theorem dX3_holds_79 : decode cX3_holds 79 = .ok (.iload_n 3, 1) := by decide +kernel
theorem dX3_holds_80 : decode cX3_holds 80 = .ok (.iconst 1, 1) := by decide +kernel
theorem dX3_holds_81 : decode cX3_holds 81 = .ok (.isub, 1) := by decide +kernel
theorem dX3_holds_82 : decode cX3_holds 82 = .ok (.iconst 1, 1) := by decide +kernel
theorem dX3_holds_83 : decode cX3_holds 83 = .ok (.aload_n 0, 1) := by decide +kernel
theorem dX3_holds_84 : decode cX3_holds 84 = .ok (.getfield 11, 3) := by decide +kernel
theorem dX3_holds_87 : decode cX3_holds 87 = .ok (.iload_n 3, 1) := by decide +kernel
theorem dX3_holds_88 : decode cX3_holds 88 = .ok (.iconst 1, 1) := by decide +kernel
theorem dX3_holds_89 : decode cX3_holds 89 = .ok (.isub, 1) := by decide +kernel
theorem dX3_holds_90 : decode cX3_holds 90 = .ok (.iaload, 1) := by decide +kernel
theorem dX3_holds_91 : decode cX3_holds 91 = .ok (.isub, 1) := by decide +kernel
theorem dX3_holds_92 : decode cX3_holds 92 = .ok (.iastore, 1) := by decide +kernel
theorem dX3_holds_93 : decode cX3_holds 93 = .ok (.goto 154, 3) := by decide +kernel
theorem dX3_holds_96 : decode cX3_holds 96 = .ok (.iload_n 3, 1) := by decide +kernel
theorem dX3_holds_97 : decode cX3_holds 97 = .ok (.iconst 2, 1) := by decide +kernel
theorem dX3_holds_98 : decode cX3_holds 98 = .ok (.if_icmp .lt 149, 3) := by decide +kernel
theorem dX3_holds_101 : decode cX3_holds 101 = .ok (.iinc 3 (-1), 3) := by decide +kernel
theorem dX3_holds_104 : decode cX3_holds 104 = .ok (.aload_n 0, 1) := by decide +kernel
theorem dX3_holds_105 : decode cX3_holds 105 = .ok (.getfield 11, 3) := by decide +kernel
theorem dX3_holds_108 : decode cX3_holds 108 = .ok (.iload_n 3, 1) := by decide +kernel
theorem dX3_holds_109 : decode cX3_holds 109 = .ok (.iconst 1, 1) := by decide +kernel
theorem dX3_holds_110 : decode cX3_holds 110 = .ok (.isub, 1) := by decide +kernel
theorem dX3_holds_111 : decode cX3_holds 111 = .ok (.iaload, 1) := by decide +kernel
theorem dX3_holds_112 : decode cX3_holds 112 = .ok (.istore 6, 2) := by decide +kernel
theorem dX3_holds_114 : decode cX3_holds 114 = .ok (.aload_n 0, 1) := by decide +kernel
theorem dX3_holds_115 : decode cX3_holds 115 = .ok (.getfield 11, 3) := by decide +kernel
theorem dX3_holds_118 : decode cX3_holds 118 = .ok (.iload_n 3, 1) := by decide +kernel
theorem dX3_holds_119 : decode cX3_holds 119 = .ok (.iaload, 1) := by decide +kernel
theorem dX3_holds_120 : decode cX3_holds 120 = .ok (.istore 7, 2) := by decide +kernel
theorem dX3_holds_122 : decode cX3_holds 122 = .ok (.iload 5, 2) := by decide +kernel
theorem dX3_holds_124 : decode cX3_holds 124 = .ok (.tableswitch 110 (-17) (-14) #[94, 71, 48, 32], 32) := by decide +kernel
theorem dX3_holds_156 : decode cX3_holds 156 = .ok (.aload_n 0, 1) := by decide +kernel
theorem dX3_holds_157 : decode cX3_holds 157 = .ok (.getfield 11, 3) := by decide +kernel
theorem dX3_holds_160 : decode cX3_holds 160 = .ok (.iload_n 3, 1) := by decide +kernel
theorem dX3_holds_161 : decode cX3_holds 161 = .ok (.iconst 1, 1) := by decide +kernel
theorem dX3_holds_162 : decode cX3_holds 162 = .ok (.isub, 1) := by decide +kernel
theorem dX3_holds_163 : decode cX3_holds 163 = .ok (.iload 6, 2) := by decide +kernel
theorem dX3_holds_165 : decode cX3_holds 165 = .ok (.iload 7, 2) := by decide +kernel
theorem dX3_holds_167 : decode cX3_holds 167 = .ok (.iadd, 1) := by decide +kernel
theorem dX3_holds_168 : decode cX3_holds 168 = .ok (.iastore, 1) := by decide +kernel
theorem dX3_holds_169 : decode cX3_holds 169 = .ok (.goto 78, 3) := by decide +kernel
theorem dX3_holds_172 : decode cX3_holds 172 = .ok (.aload_n 0, 1) := by decide +kernel
theorem dX3_holds_173 : decode cX3_holds 173 = .ok (.getfield 11, 3) := by decide +kernel
theorem dX3_holds_176 : decode cX3_holds 176 = .ok (.iload_n 3, 1) := by decide +kernel
theorem dX3_holds_177 : decode cX3_holds 177 = .ok (.iconst 1, 1) := by decide +kernel
theorem dX3_holds_178 : decode cX3_holds 178 = .ok (.isub, 1) := by decide +kernel
theorem dX3_holds_179 : decode cX3_holds 179 = .ok (.iload 6, 2) := by decide +kernel
theorem dX3_holds_181 : decode cX3_holds 181 = .ok (.iload 7, 2) := by decide +kernel
theorem dX3_holds_183 : decode cX3_holds 183 = .ok (.if_icmp .ge 7, 3) := by decide +kernel
theorem dX3_holds_186 : decode cX3_holds 186 = .ok (.iconst 1, 1) := by decide +kernel
theorem dX3_holds_187 : decode cX3_holds 187 = .ok (.goto 4, 3) := by decide +kernel
theorem dX3_holds_190 : decode cX3_holds 190 = .ok (.iconst 0, 1) := by decide +kernel
theorem dX3_holds_191 : decode cX3_holds 191 = .ok (.iastore, 1) := by decide +kernel
theorem dX3_holds_192 : decode cX3_holds 192 = .ok (.goto 55, 3) := by decide +kernel
theorem dX3_holds_195 : decode cX3_holds 195 = .ok (.aload_n 0, 1) := by decide +kernel
theorem dX3_holds_196 : decode cX3_holds 196 = .ok (.getfield 11, 3) := by decide +kernel
theorem dX3_holds_199 : decode cX3_holds 199 = .ok (.iload_n 3, 1) := by decide +kernel
theorem dX3_holds_200 : decode cX3_holds 200 = .ok (.iconst 1, 1) := by decide +kernel
theorem dX3_holds_201 : decode cX3_holds 201 = .ok (.isub, 1) := by decide +kernel
theorem dX3_holds_202 : decode cX3_holds 202 = .ok (.iload 6, 2) := by decide +kernel
theorem dX3_holds_204 : decode cX3_holds 204 = .ok (.iload 7, 2) := by decide +kernel
theorem dX3_holds_206 : decode cX3_holds 206 = .ok (.if_icmp .le 7, 3) := by decide +kernel
theorem dX3_holds_209 : decode cX3_holds 209 = .ok (.iconst 1, 1) := by decide +kernel
theorem dX3_holds_210 : decode cX3_holds 210 = .ok (.goto 4, 3) := by decide +kernel
theorem dX3_holds_213 : decode cX3_holds 213 = .ok (.iconst 0, 1) := by decide +kernel
theorem dX3_holds_214 : decode cX3_holds 214 = .ok (.iastore, 1) := by decide +kernel
theorem dX3_holds_215 : decode cX3_holds 215 = .ok (.goto 32, 3) := by decide +kernel
theorem dX3_holds_218 : decode cX3_holds 218 = .ok (.aload_n 0, 1) := by decide +kernel
theorem dX3_holds_219 : decode cX3_holds 219 = .ok (.getfield 11, 3) := by decide +kernel
theorem dX3_holds_222 : decode cX3_holds 222 = .ok (.iload_n 3, 1) := by decide +kernel
theorem dX3_holds_223 : decode cX3_holds 223 = .ok (.iconst 1, 1) := by decide +kernel
theorem dX3_holds_224 : decode cX3_holds 224 = .ok (.isub, 1) := by decide +kernel
theorem dX3_holds_225 : decode cX3_holds 225 = .ok (.iload 6, 2) := by decide +kernel
theorem dX3_holds_227 : decode cX3_holds 227 = .ok (.iload 7, 2) := by decide +kernel
theorem dX3_holds_229 : decode cX3_holds 229 = .ok (.iand, 1) := by decide +kernel
theorem dX3_holds_230 : decode cX3_holds 230 = .ok (.iastore, 1) := by decide +kernel
theorem dX3_holds_231 : decode cX3_holds 231 = .ok (.goto 16, 3) := by decide +kernel
theorem dX3_holds_234 : decode cX3_holds 234 = .ok (.aload_n 0, 1) := by decide +kernel
theorem dX3_holds_235 : decode cX3_holds 235 = .ok (.getfield 11, 3) := by decide +kernel
theorem dX3_holds_238 : decode cX3_holds 238 = .ok (.iload_n 3, 1) := by decide +kernel
theorem dX3_holds_239 : decode cX3_holds 239 = .ok (.iconst 1, 1) := by decide +kernel
theorem dX3_holds_240 : decode cX3_holds 240 = .ok (.isub, 1) := by decide +kernel
theorem dX3_holds_241 : decode cX3_holds 241 = .ok (.iload 6, 2) := by decide +kernel
theorem dX3_holds_243 : decode cX3_holds 243 = .ok (.iload 7, 2) := by decide +kernel
theorem dX3_holds_245 : decode cX3_holds 245 = .ok (.ior, 1) := by decide +kernel
theorem dX3_holds_246 : decode cX3_holds 246 = .ok (.iastore, 1) := by decide +kernel
theorem dX3_holds_247 : decode cX3_holds 247 = .ok (.iinc 4 1, 3) := by decide +kernel
theorem dX3_holds_250 : decode cX3_holds 250 = .ok (.goto (-245), 3) := by decide +kernel
theorem dX3_holds_253 : decode cX3_holds 253 = .ok (.iload_n 3, 1) := by decide +kernel
theorem dX3_holds_254 : decode cX3_holds 254 = .ok (.ifCond .eq 12, 3) := by decide +kernel
theorem dX3_holds_257 : decode cX3_holds 257 = .ok (.aload_n 0, 1) := by decide +kernel
theorem dX3_holds_258 : decode cX3_holds 258 = .ok (.getfield 11, 3) := by decide +kernel
theorem dX3_holds_261 : decode cX3_holds 261 = .ok (.iconst 0, 1) := by decide +kernel
theorem dX3_holds_262 : decode cX3_holds 262 = .ok (.iaload, 1) := by decide +kernel
theorem dX3_holds_263 : decode cX3_holds 263 = .ok (.ifCond .eq 7, 3) := by decide +kernel
theorem dX3_holds_266 : decode cX3_holds 266 = .ok (.iconst 1, 1) := by decide +kernel
theorem dX3_holds_267 : decode cX3_holds 267 = .ok (.goto 4, 3) := by decide +kernel
theorem dX3_holds_270 : decode cX3_holds 270 = .ok (.iconst 0, 1) := by decide +kernel
theorem dX3_holds_271 : decode cX3_holds 271 = .ok (.ireturn, 1) := by decide +kernel
theorem dX4_init_0 : decode cX4_init 0 = .ok (.aload_n 0, 1) := by decide +kernel
theorem dX4_init_1 : decode cX4_init 1 = .ok (.aload_n 1, 1) := by decide +kernel
theorem dX4_init_2 : decode cX4_init 2 = .ok (.bipush 12, 2) := by decide +kernel
theorem dX4_init_4 : decode cX4_init 4 = .ok (.invokespecial 5, 3) := by decide +kernel
theorem dX4_init_7 : decode cX4_init 7 = .ok (.aload_n 0, 1) := by decide +kernel
theorem dX4_init_8 : decode cX4_init 8 = .ok (.sipush 400, 3) := by decide +kernel
theorem dX4_init_11 : decode cX4_init 11 = .ok (.newarray .int, 2) := by decide +kernel
theorem dX4_init_13 : decode cX4_init 13 = .ok (.putfield 13, 3) := by decide +kernel
theorem dX4_init_16 : decode cX4_init 16 = .ok (.aload_n 0, 1) := by decide +kernel
theorem dX4_init_17 : decode cX4_init 17 = .ok (.iconst 0, 1) := by decide +kernel
theorem dX4_init_18 : decode cX4_init 18 = .ok (.putfield 17, 3) := by decide +kernel
theorem dX4_init_21 : decode cX4_init 21 = .ok (.aload_n 0, 1) := by decide +kernel
theorem dX4_init_22 : decode cX4_init 22 = .ok (.iconst 0, 1) := by decide +kernel
theorem dX4_init_23 : decode cX4_init 23 = .ok (.putfield 21, 3) := by decide +kernel
theorem dX4_init_26 : decode cX4_init 26 = .ok (.return_, 1) := by decide +kernel
theorem dX4_clear_0 : decode cX4_clear 0 = .ok (.aload_n 0, 1) := by decide +kernel
theorem dX4_clear_1 : decode cX4_clear 1 = .ok (.iconst 0, 1) := by decide +kernel
theorem dX4_clear_2 : decode cX4_clear 2 = .ok (.putfield 17, 3) := by decide +kernel
theorem dX4_clear_5 : decode cX4_clear 5 = .ok (.aload_n 0, 1) := by decide +kernel
theorem dX4_clear_6 : decode cX4_clear 6 = .ok (.iconst 0, 1) := by decide +kernel
theorem dX4_clear_7 : decode cX4_clear 7 = .ok (.putfield 21, 3) := by decide +kernel
theorem dX4_clear_10 : decode cX4_clear 10 = .ok (.return_, 1) := by decide +kernel
theorem dX4_told_0 : decode cX4_told 0 = .ok (.new 24, 3) := by decide +kernel
theorem dX4_told_3 : decode cX4_told 3 = .ok (.dup, 1) := by decide +kernel
theorem dX4_told_4 : decode cX4_told 4 = .ok (.aload_n 0, 1) := by decide +kernel
theorem dX4_told_5 : decode cX4_told 5 = .ok (.getfield 13, 3) := by decide +kernel
theorem dX4_told_8 : decode cX4_told 8 = .ok (.aload_n 0, 1) := by decide +kernel
theorem dX4_told_9 : decode cX4_told 9 = .ok (.getfield 17, 3) := by decide +kernel
theorem dX4_told_12 : decode cX4_told 12 = .ok (.invokestatic 26, 3) := by decide +kernel
theorem dX4_told_15 : decode cX4_told 15 = .ok (.aload_n 0, 1) := by decide +kernel
theorem dX4_told_16 : decode cX4_told 16 = .ok (.getfield 21, 3) := by decide +kernel
theorem dX4_told_19 : decode cX4_told 19 = .ok (.invokespecial 32, 3) := by decide +kernel
theorem dX4_told_22 : decode cX4_told 22 = .ok (.areturn, 1) := by decide +kernel
theorem dX4_readLine_0 : decode cX4_readLine 0 = .ok (.aload_n 0, 1) := by decide +kernel
theorem dX4_readLine_1 : decode cX4_readLine 1 = .ok (.invokevirtual 35, 3) := by decide +kernel
theorem dX4_readLine_4 : decode cX4_readLine 4 = .ok (.istore_n 1, 1) := by decide +kernel
theorem dX4_readLine_5 : decode cX4_readLine 5 = .ok (.iload_n 1, 1) := by decide +kernel
theorem dX4_readLine_6 : decode cX4_readLine 6 = .ok (.iconst (-1), 1) := by decide +kernel
theorem dX4_readLine_7 : decode cX4_readLine 7 = .ok (.if_icmp .ne 11, 3) := by decide +kernel
theorem dX4_readLine_10 : decode cX4_readLine 10 = .ok (.aload_n 0, 1) := by decide +kernel
theorem dX4_readLine_11 : decode cX4_readLine 11 = .ok (.getfield 39, 3) := by decide +kernel
theorem dX4_readLine_14 : decode cX4_readLine 14 = .ok (.invokevirtual 43, 3) := by decide +kernel
theorem dX4_readLine_17 : decode cX4_readLine 17 = .ok (.ireturn, 1) := by decide +kernel
theorem dX4_readLine_18 : decode cX4_readLine 18 = .ok (.aload_n 0, 1) := by decide +kernel
theorem dX4_readLine_19 : decode cX4_readLine 19 = .ok (.getfield 39, 3) := by decide +kernel
theorem dX4_readLine_22 : decode cX4_readLine 22 = .ok (.invokevirtual 47, 3) := by decide +kernel
theorem dX4_readLine_25 : decode cX4_readLine 25 = .ok (.iload_n 1, 1) := by decide +kernel
theorem dX4_readLine_26 : decode cX4_readLine 26 = .ok (.iconst 1, 1) := by decide +kernel
theorem dX4_readLine_27 : decode cX4_readLine 27 = .ok (.if_icmp .ne 7, 3) := by decide +kernel
theorem dX4_readLine_30 : decode cX4_readLine 30 = .ok (.iconst 1, 1) := by decide +kernel
theorem dX4_readLine_31 : decode cX4_readLine 31 = .ok (.goto 13, 3) := by decide +kernel
theorem dX4_readLine_34 : decode cX4_readLine 34 = .ok (.aload_n 0, 1) := by decide +kernel
theorem dX4_readLine_35 : decode cX4_readLine 35 = .ok (.getfield 39, 3) := by decide +kernel
theorem dX4_readLine_38 : decode cX4_readLine 38 = .ok (.iconst 0, 1) := by decide +kernel
theorem dX4_readLine_39 : decode cX4_readLine 39 = .ok (.bipush 99, 2) := by decide +kernel
theorem dX4_readLine_41 : decode cX4_readLine 41 = .ok (.invokevirtual 51, 3) := by decide +kernel
theorem dX4_readLine_44 : decode cX4_readLine 44 = .ok (.istore_n 2, 1) := by decide +kernel
theorem dX4_readLine_45 : decode cX4_readLine 45 = .ok (.iload_n 2, 1) := by decide +kernel
theorem dX4_readLine_46 : decode cX4_readLine 46 = .ok (.iconst (-1), 1) := by decide +kernel
theorem dX4_readLine_47 : decode cX4_readLine 47 = .ok (.if_icmp .ne 5, 3) := by decide +kernel
theorem dX4_readLine_50 : decode cX4_readLine 50 = .ok (.iconst 0, 1) := by decide +kernel
theorem dX4_readLine_51 : decode cX4_readLine 51 = .ok (.ireturn, 1) := by decide +kernel
theorem dX4_readLine_52 : decode cX4_readLine 52 = .ok (.aload_n 0, 1) := by decide +kernel
theorem dX4_readLine_53 : decode cX4_readLine 53 = .ok (.iload_n 1, 1) := by decide +kernel
theorem dX4_readLine_54 : decode cX4_readLine 54 = .ok (.invokevirtual 55, 3) := by decide +kernel
theorem dX4_readLine_57 : decode cX4_readLine 57 = .ok (.aload_n 0, 1) := by decide +kernel
theorem dX4_readLine_58 : decode cX4_readLine 58 = .ok (.iload_n 2, 1) := by decide +kernel
theorem dX4_readLine_59 : decode cX4_readLine 59 = .ok (.invokevirtual 55, 3) := by decide +kernel
theorem dX4_readLine_62 : decode cX4_readLine 62 = .ok (.aload_n 0, 1) := by decide +kernel
theorem dX4_readLine_63 : decode cX4_readLine 63 = .ok (.getfield 17, 3) := by decide +kernel
theorem dX4_readLine_66 : decode cX4_readLine 66 = .ok (.istore_n 3, 1) := by decide +kernel
theorem dX4_readLine_67 : decode cX4_readLine 67 = .ok (.aload_n 0, 1) := by decide +kernel
theorem dX4_readLine_68 : decode cX4_readLine 68 = .ok (.iconst 0, 1) := by decide +kernel
theorem dX4_readLine_69 : decode cX4_readLine 69 = .ok (.invokevirtual 55, 3) := by decide +kernel
theorem dX4_readLine_72 : decode cX4_readLine 72 = .ok (.aload_n 0, 1) := by decide +kernel
theorem dX4_readLine_73 : decode cX4_readLine 73 = .ok (.getfield 39, 3) := by decide +kernel
theorem dX4_readLine_76 : decode cX4_readLine 76 = .ok (.ldc 59, 2) := by decide +kernel
theorem dX4_readLine_78 : decode cX4_readLine 78 = .ok (.invokevirtual 61, 3) := by decide +kernel
theorem dX4_readLine_81 : decode cX4_readLine 81 = .ok (.ifCond .eq 20, 3) := by decide +kernel
theorem dX4_readLine_84 : decode cX4_readLine 84 = .ok (.aload_n 0, 1) := by decide +kernel
theorem dX4_readLine_85 : decode cX4_readLine 85 = .ok (.getfield 39, 3) := by decide +kernel
theorem dX4_readLine_88 : decode cX4_readLine 88 = .ok (.invokevirtual 47, 3) := by decide +kernel
theorem dX4_readLine_91 : decode cX4_readLine 91 = .ok (.aload_n 0, 1) := by decide +kernel
theorem dX4_readLine_92 : decode cX4_readLine 92 = .ok (.iconst 0, 1) := by decide +kernel
theorem dX4_readLine_93 : decode cX4_readLine 93 = .ok (.invokevirtual 65, 3) := by decide +kernel
theorem dX4_readLine_96 : decode cX4_readLine 96 = .ok (.ifCond .ne 5, 3) := by decide +kernel
theorem dX4_readLine_99 : decode cX4_readLine 99 = .ok (.iconst 0, 1) := by decide +kernel
theorem dX4_readLine_100 : decode cX4_readLine 100 = .ok (.ireturn, 1) := by decide +kernel
theorem dX4_readLine_101 : decode cX4_readLine 101 = .ok (.iload_n 3, 1) := by decide +kernel
theorem dX4_readLine_102 : decode cX4_readLine 102 = .ok (.aload_n 0, 1) := by decide +kernel
theorem dX4_readLine_103 : decode cX4_readLine 103 = .ok (.getfield 13, 3) := by decide +kernel
theorem dX4_readLine_106 : decode cX4_readLine 106 = .ok (.arraylength, 1) := by decide +kernel
theorem dX4_readLine_107 : decode cX4_readLine 107 = .ok (.if_icmp .ge 13, 3) := by decide +kernel
theorem dX4_readLine_110 : decode cX4_readLine 110 = .ok (.aload_n 0, 1) := by decide +kernel
theorem dX4_readLine_111 : decode cX4_readLine 111 = .ok (.getfield 13, 3) := by decide +kernel
theorem dX4_readLine_114 : decode cX4_readLine 114 = .ok (.iload_n 3, 1) := by decide +kernel
theorem dX4_readLine_115 : decode cX4_readLine 115 = .ok (.aload_n 0, 1) := by decide +kernel
theorem dX4_readLine_116 : decode cX4_readLine 116 = .ok (.getfield 17, 3) := by decide +kernel
theorem dX4_readLine_119 : decode cX4_readLine 119 = .ok (.iastore, 1) := by decide +kernel
theorem dX4_readLine_120 : decode cX4_readLine 120 = .ok (.aload_n 0, 1) := by decide +kernel
theorem dX4_readLine_121 : decode cX4_readLine 121 = .ok (.dup, 1) := by decide +kernel
theorem dX4_readLine_122 : decode cX4_readLine 122 = .ok (.getfield 21, 3) := by decide +kernel
theorem dX4_readLine_125 : decode cX4_readLine 125 = .ok (.iconst 1, 1) := by decide +kernel
theorem dX4_readLine_126 : decode cX4_readLine 126 = .ok (.iadd, 1) := by decide +kernel
theorem dX4_readLine_127 : decode cX4_readLine 127 = .ok (.putfield 21, 3) := by decide +kernel
theorem dX4_readLine_130 : decode cX4_readLine 130 = .ok (.iconst 1, 1) := by decide +kernel
theorem dX4_readLine_131 : decode cX4_readLine 131 = .ok (.ireturn, 1) := by decide +kernel
theorem dX4_presentSort_0 : decode cX4_presentSort 0 = .ok (.aload_n 0, 1) := by decide +kernel
theorem dX4_presentSort_1 : decode cX4_presentSort 1 = .ok (.getfield 39, 3) := by decide +kernel
theorem dX4_presentSort_4 : decode cX4_presentSort 4 = .ok (.ldc 69, 2) := by decide +kernel
theorem dX4_presentSort_6 : decode cX4_presentSort 6 = .ok (.invokevirtual 61, 3) := by decide +kernel
theorem dX4_presentSort_9 : decode cX4_presentSort 9 = .ok (.ifCond .eq 5, 3) := by decide +kernel
theorem dX4_presentSort_12 : decode cX4_presentSort 12 = .ok (.iconst 0, 1) := by decide +kernel
theorem dX4_presentSort_13 : decode cX4_presentSort 13 = .ok (.ireturn, 1) := by decide +kernel
theorem dX4_presentSort_14 : decode cX4_presentSort 14 = .ok (.aload_n 0, 1) := by decide +kernel
theorem dX4_presentSort_15 : decode cX4_presentSort 15 = .ok (.getfield 39, 3) := by decide +kernel
theorem dX4_presentSort_18 : decode cX4_presentSort 18 = .ok (.ldc 71, 2) := by decide +kernel
theorem dX4_presentSort_20 : decode cX4_presentSort 20 = .ok (.invokevirtual 61, 3) := by decide +kernel
theorem dX4_presentSort_23 : decode cX4_presentSort 23 = .ok (.ifCond .eq 5, 3) := by decide +kernel
theorem dX4_presentSort_26 : decode cX4_presentSort 26 = .ok (.iconst 1, 1) := by decide +kernel
theorem dX4_presentSort_27 : decode cX4_presentSort 27 = .ok (.ireturn, 1) := by decide +kernel
theorem dX4_presentSort_28 : decode cX4_presentSort 28 = .ok (.aload_n 0, 1) := by decide +kernel
theorem dX4_presentSort_29 : decode cX4_presentSort 29 = .ok (.getfield 39, 3) := by decide +kernel
theorem dX4_presentSort_32 : decode cX4_presentSort 32 = .ok (.ldc 73, 2) := by decide +kernel
theorem dX4_presentSort_34 : decode cX4_presentSort 34 = .ok (.invokevirtual 61, 3) := by decide +kernel
theorem dX4_presentSort_37 : decode cX4_presentSort 37 = .ok (.ifCond .eq 7, 3) := by decide +kernel
theorem dX4_presentSort_40 : decode cX4_presentSort 40 = .ok (.iconst 2, 1) := by decide +kernel
theorem dX4_presentSort_41 : decode cX4_presentSort 41 = .ok (.goto 4, 3) := by decide +kernel
theorem dX4_presentSort_44 : decode cX4_presentSort 44 = .ok (.iconst (-1), 1) := by decide +kernel
theorem dX4_presentSort_45 : decode cX4_presentSort 45 = .ok (.ireturn, 1) := by decide +kernel
theorem dX4_put_0 : decode cX4_put 0 = .ok (.aload_n 0, 1) := by decide +kernel
theorem dX4_put_1 : decode cX4_put 1 = .ok (.getfield 17, 3) := by decide +kernel
theorem dX4_put_4 : decode cX4_put 4 = .ok (.aload_n 0, 1) := by decide +kernel
theorem dX4_put_5 : decode cX4_put 5 = .ok (.getfield 13, 3) := by decide +kernel
theorem dX4_put_8 : decode cX4_put 8 = .ok (.arraylength, 1) := by decide +kernel
theorem dX4_put_9 : decode cX4_put 9 = .ok (.if_icmp .ge 23, 3) := by decide +kernel
theorem dX4_put_12 : decode cX4_put 12 = .ok (.aload_n 0, 1) := by decide +kernel
theorem dX4_put_13 : decode cX4_put 13 = .ok (.getfield 13, 3) := by decide +kernel
theorem dX4_put_16 : decode cX4_put 16 = .ok (.aload_n 0, 1) := by decide +kernel
theorem dX4_put_17 : decode cX4_put 17 = .ok (.getfield 17, 3) := by decide +kernel
theorem dX4_put_20 : decode cX4_put 20 = .ok (.iload_n 1, 1) := by decide +kernel
theorem dX4_put_21 : decode cX4_put 21 = .ok (.iastore, 1) := by decide +kernel
theorem dX4_put_22 : decode cX4_put 22 = .ok (.aload_n 0, 1) := by decide +kernel
theorem dX4_put_23 : decode cX4_put 23 = .ok (.dup, 1) := by decide +kernel
theorem dX4_put_24 : decode cX4_put 24 = .ok (.getfield 17, 3) := by decide +kernel
theorem dX4_put_27 : decode cX4_put 27 = .ok (.iconst 1, 1) := by decide +kernel
theorem dX4_put_28 : decode cX4_put 28 = .ok (.iadd, 1) := by decide +kernel
theorem dX4_put_29 : decode cX4_put 29 = .ok (.putfield 17, 3) := by decide +kernel
theorem dX4_put_32 : decode cX4_put 32 = .ok (.return_, 1) := by decide +kernel
theorem dX4_readCondition_0 : decode cX4_readCondition 0 = .ok (.iconst 0, 1) := by decide +kernel
theorem dX4_readCondition_1 : decode cX4_readCondition 1 = .ok (.istore_n 2, 1) := by decide +kernel
theorem dX4_readCondition_2 : decode cX4_readCondition 2 = .ok (.iconst 0, 1) := by decide +kernel
theorem dX4_readCondition_3 : decode cX4_readCondition 3 = .ok (.istore_n 3, 1) := by decide +kernel
theorem dX4_readCondition_4 : decode cX4_readCondition 4 = .ok (.iconst 0, 1) := by decide +kernel
theorem dX4_readCondition_5 : decode cX4_readCondition 5 = .ok (.istore 4, 2) := by decide +kernel
theorem dX4_readCondition_7 : decode cX4_readCondition 7 = .ok (.iload 4, 2) := by decide +kernel
theorem dX4_readCondition_9 : decode cX4_readCondition 9 = .ok (.sipush 400, 3) := by decide +kernel
theorem dX4_readCondition_12 : decode cX4_readCondition 12 = .ok (.if_icmp .ge 76, 3) := by decide +kernel
theorem dX4_readCondition_15 : decode cX4_readCondition 15 = .ok (.aload_n 0, 1) := by decide +kernel
theorem dX4_readCondition_16 : decode cX4_readCondition 16 = .ok (.iload_n 1, 1) := by decide +kernel
theorem dX4_readCondition_17 : decode cX4_readCondition 17 = .ok (.invokevirtual 75, 3) := by decide +kernel
theorem dX4_readCondition_20 : decode cX4_readCondition 20 = .ok (.ifCond .ne 5, 3) := by decide +kernel
theorem dX4_readCondition_23 : decode cX4_readCondition 23 = .ok (.iconst 0, 1) := by decide +kernel
theorem dX4_readCondition_24 : decode cX4_readCondition 24 = .ok (.ireturn, 1) := by decide +kernel
theorem dX4_readCondition_25 : decode cX4_readCondition 25 = .ok (.iload_n 3, 1) := by decide +kernel
theorem dX4_readCondition_26 : decode cX4_readCondition 26 = .ok (.ifCond .eq 9, 3) := by decide +kernel
theorem dX4_readCondition_29 : decode cX4_readCondition 29 = .ok (.aload_n 0, 1) := by decide +kernel
theorem dX4_readCondition_30 : decode cX4_readCondition 30 = .ok (.bipush (-17), 2) := by decide +kernel
theorem dX4_readCondition_32 : decode cX4_readCondition 32 = .ok (.invokevirtual 55, 3) := by decide +kernel
theorem dX4_readCondition_35 : decode cX4_readCondition 35 = .ok (.aload_n 0, 1) := by decide +kernel
theorem dX4_readCondition_36 : decode cX4_readCondition 36 = .ok (.getfield 39, 3) := by decide +kernel
theorem dX4_readCondition_39 : decode cX4_readCondition 39 = .ok (.ldc 78, 2) := by decide +kernel
theorem dX4_readCondition_41 : decode cX4_readCondition 41 = .ok (.invokevirtual 61, 3) := by decide +kernel
theorem dX4_readCondition_44 : decode cX4_readCondition 44 = .ok (.istore_n 3, 1) := by decide +kernel
theorem dX4_readCondition_45 : decode cX4_readCondition 45 = .ok (.iload_n 3, 1) := by decide +kernel
theorem dX4_readCondition_46 : decode cX4_readCondition 46 = .ok (.ifCond .ne 29, 3) := by decide +kernel
theorem dX4_readCondition_49 : decode cX4_readCondition 49 = .ok (.iload_n 2, 1) := by decide +kernel
theorem dX4_readCondition_50 : decode cX4_readCondition 50 = .ok (.ifCond .eq 9, 3) := by decide +kernel
theorem dX4_readCondition_53 : decode cX4_readCondition 53 = .ok (.aload_n 0, 1) := by decide +kernel
theorem dX4_readCondition_54 : decode cX4_readCondition 54 = .ok (.bipush (-18), 2) := by decide +kernel
theorem dX4_readCondition_56 : decode cX4_readCondition 56 = .ok (.invokevirtual 55, 3) := by decide +kernel
theorem dX4_readCondition_59 : decode cX4_readCondition 59 = .ok (.aload_n 0, 1) := by decide +kernel
theorem dX4_readCondition_60 : decode cX4_readCondition 60 = .ok (.getfield 39, 3) := by decide +kernel
theorem dX4_readCondition_63 : decode cX4_readCondition 63 = .ok (.ldc 80, 2) := by decide +kernel
theorem dX4_readCondition_65 : decode cX4_readCondition 65 = .ok (.invokevirtual 61, 3) := by decide +kernel
theorem dX4_readCondition_68 : decode cX4_readCondition 68 = .ok (.istore_n 2, 1) := by decide +kernel
theorem dX4_readCondition_69 : decode cX4_readCondition 69 = .ok (.iload_n 2, 1) := by decide +kernel
theorem dX4_readCondition_70 : decode cX4_readCondition 70 = .ok (.ifCond .ne 5, 3) := by decide +kernel
theorem dX4_readCondition_73 : decode cX4_readCondition 73 = .ok (.iconst 1, 1) := by decide +kernel
theorem dX4_readCondition_74 : decode cX4_readCondition 74 = .ok (.ireturn, 1) := by decide +kernel
theorem dX4_readCondition_75 : decode cX4_readCondition 75 = .ok (.aload_n 0, 1) := by decide +kernel
theorem dX4_readCondition_76 : decode cX4_readCondition 76 = .ok (.getfield 39, 3) := by decide +kernel
theorem dX4_readCondition_79 : decode cX4_readCondition 79 = .ok (.invokevirtual 47, 3) := by decide +kernel
theorem dX4_readCondition_82 : decode cX4_readCondition 82 = .ok (.iinc 4 1, 3) := by decide +kernel
theorem dX4_readCondition_85 : decode cX4_readCondition 85 = .ok (.goto (-78), 3) := by decide +kernel
theorem dX4_readCondition_88 : decode cX4_readCondition 88 = .ok (.aload_n 0, 1) := by decide +kernel
theorem dX4_readCondition_89 : decode cX4_readCondition 89 = .ok (.getfield 39, 3) := by decide +kernel
theorem dX4_readCondition_92 : decode cX4_readCondition 92 = .ok (.invokevirtual 43, 3) := by decide +kernel
theorem dX4_readCondition_95 : decode cX4_readCondition 95 = .ok (.ireturn, 1) := by decide +kernel
theorem dX4_readAtom_0 : decode cX4_readAtom 0 = .ok (.aload_n 0, 1) := by decide +kernel
theorem dX4_readAtom_1 : decode cX4_readAtom 1 = .ok (.getfield 39, 3) := by decide +kernel
theorem dX4_readAtom_4 : decode cX4_readAtom 4 = .ok (.ldc 82, 2) := by decide +kernel
theorem dX4_readAtom_6 : decode cX4_readAtom 6 = .ok (.invokevirtual 61, 3) := by decide +kernel
theorem dX4_readAtom_9 : decode cX4_readAtom 9 = .ok (.istore_n 2, 1) := by decide +kernel
theorem dX4_readAtom_10 : decode cX4_readAtom 10 = .ok (.iload_n 2, 1) := by decide +kernel
theorem dX4_readAtom_11 : decode cX4_readAtom 11 = .ok (.ifCond .ne 15, 3) := by decide +kernel
theorem dX4_readAtom_14 : decode cX4_readAtom 14 = .ok (.aload_n 0, 1) := by decide +kernel
theorem dX4_readAtom_15 : decode cX4_readAtom 15 = .ok (.getfield 39, 3) := by decide +kernel
theorem dX4_readAtom_18 : decode cX4_readAtom 18 = .ok (.bipush 40, 2) := by decide +kernel
theorem dX4_readAtom_20 : decode cX4_readAtom 20 = .ok (.invokevirtual 84, 3) := by decide +kernel
theorem dX4_readAtom_23 : decode cX4_readAtom 23 = .ok (.ifCond .eq 76, 3) := by decide +kernel
theorem dX4_readAtom_26 : decode cX4_readAtom 26 = .ok (.iload_n 1, 1) := by decide +kernel
theorem dX4_readAtom_27 : decode cX4_readAtom 27 = .ok (.bipush 6, 2) := by decide +kernel
theorem dX4_readAtom_29 : decode cX4_readAtom 29 = .ok (.if_icmp .lt 11, 3) := by decide +kernel
theorem dX4_readAtom_32 : decode cX4_readAtom 32 = .ok (.aload_n 0, 1) := by decide +kernel
theorem dX4_readAtom_33 : decode cX4_readAtom 33 = .ok (.getfield 39, 3) := by decide +kernel
theorem dX4_readAtom_36 : decode cX4_readAtom 36 = .ok (.invokevirtual 43, 3) := by decide +kernel
theorem dX4_readAtom_39 : decode cX4_readAtom 39 = .ok (.ireturn, 1) := by decide +kernel
theorem dX4_readAtom_40 : decode cX4_readAtom 40 = .ok (.aload_n 0, 1) := by decide +kernel
theorem dX4_readAtom_41 : decode cX4_readAtom 41 = .ok (.getfield 39, 3) := by decide +kernel
theorem dX4_readAtom_44 : decode cX4_readAtom 44 = .ok (.invokevirtual 47, 3) := by decide +kernel
theorem dX4_readAtom_47 : decode cX4_readAtom 47 = .ok (.iload_n 2, 1) := by decide +kernel
theorem dX4_readAtom_48 : decode cX4_readAtom 48 = .ok (.ifCond .ne 31, 3) := by decide +kernel
theorem dX4_readAtom_51 : decode cX4_readAtom 51 = .ok (.aload_n 0, 1) := by decide +kernel
theorem dX4_readAtom_52 : decode cX4_readAtom 52 = .ok (.iload_n 1, 1) := by decide +kernel
theorem dX4_readAtom_53 : decode cX4_readAtom 53 = .ok (.iconst 1, 1) := by decide +kernel
theorem dX4_readAtom_54 : decode cX4_readAtom 54 = .ok (.iadd, 1) := by decide +kernel
theorem dX4_readAtom_55 : decode cX4_readAtom 55 = .ok (.invokevirtual 65, 3) := by decide +kernel
theorem dX4_readAtom_58 : decode cX4_readAtom 58 = .ok (.ifCond .eq 19, 3) := by decide +kernel
theorem dX4_readAtom_61 : decode cX4_readAtom 61 = .ok (.aload_n 0, 1) := by decide +kernel
theorem dX4_readAtom_62 : decode cX4_readAtom 62 = .ok (.getfield 39, 3) := by decide +kernel
theorem dX4_readAtom_65 : decode cX4_readAtom 65 = .ok (.bipush 41, 2) := by decide +kernel
theorem dX4_readAtom_67 : decode cX4_readAtom 67 = .ok (.invokevirtual 88, 3) := by decide +kernel
theorem dX4_readAtom_70 : decode cX4_readAtom 70 = .ok (.ifCond .eq 7, 3) := by decide +kernel
theorem dX4_readAtom_73 : decode cX4_readAtom 73 = .ok (.iconst 1, 1) := by decide +kernel
theorem dX4_readAtom_74 : decode cX4_readAtom 74 = .ok (.goto 4, 3) := by decide +kernel
theorem dX4_readAtom_77 : decode cX4_readAtom 77 = .ok (.iconst 0, 1) := by decide +kernel
theorem dX4_readAtom_78 : decode cX4_readAtom 78 = .ok (.ireturn, 1) := by decide +kernel
theorem dX4_readAtom_79 : decode cX4_readAtom 79 = .ok (.aload_n 0, 1) := by decide +kernel
theorem dX4_readAtom_80 : decode cX4_readAtom 80 = .ok (.iload_n 1, 1) := by decide +kernel
theorem dX4_readAtom_81 : decode cX4_readAtom 81 = .ok (.iconst 1, 1) := by decide +kernel
theorem dX4_readAtom_82 : decode cX4_readAtom 82 = .ok (.iadd, 1) := by decide +kernel
theorem dX4_readAtom_83 : decode cX4_readAtom 83 = .ok (.invokevirtual 75, 3) := by decide +kernel
theorem dX4_readAtom_86 : decode cX4_readAtom 86 = .ok (.ifCond .ne 5, 3) := by decide +kernel
theorem dX4_readAtom_89 : decode cX4_readAtom 89 = .ok (.iconst 0, 1) := by decide +kernel
theorem dX4_readAtom_90 : decode cX4_readAtom 90 = .ok (.ireturn, 1) := by decide +kernel
theorem dX4_readAtom_91 : decode cX4_readAtom 91 = .ok (.aload_n 0, 1) := by decide +kernel
theorem dX4_readAtom_92 : decode cX4_readAtom 92 = .ok (.bipush (-13), 2) := by decide +kernel
theorem dX4_readAtom_94 : decode cX4_readAtom 94 = .ok (.invokevirtual 55, 3) := by decide +kernel
theorem dX4_readAtom_97 : decode cX4_readAtom 97 = .ok (.iconst 1, 1) := by decide +kernel
theorem dX4_readAtom_98 : decode cX4_readAtom 98 = .ok (.ireturn, 1) := by decide +kernel
theorem dX4_readAtom_99 : decode cX4_readAtom 99 = .ok (.aload_n 0, 1) := by decide +kernel
theorem dX4_readAtom_100 : decode cX4_readAtom 100 = .ok (.invokevirtual 91, 3) := by decide +kernel
theorem dX4_readAtom_103 : decode cX4_readAtom 103 = .ok (.istore_n 3, 1) := by decide +kernel
theorem dX4_readAtom_104 : decode cX4_readAtom 104 = .ok (.iload_n 3, 1) := by decide +kernel
theorem dX4_readAtom_105 : decode cX4_readAtom 105 = .ok (.iconst (-1), 1) := by decide +kernel
theorem dX4_readAtom_106 : decode cX4_readAtom 106 = .ok (.if_icmp .ne 8, 3) := by decide +kernel
theorem dX4_readAtom_109 : decode cX4_readAtom 109 = .ok (.aload_n 0, 1) := by decide +kernel
theorem dX4_readAtom_110 : decode cX4_readAtom 110 = .ok (.invokevirtual 94, 3) := by decide +kernel
theorem dX4_readAtom_113 : decode cX4_readAtom 113 = .ok (.ireturn, 1) := by decide +kernel
theorem dX4_readAtom_114 : decode cX4_readAtom 114 = .ok (.aload_n 0, 1) := by decide +kernel
theorem dX4_readAtom_115 : decode cX4_readAtom 115 = .ok (.iload_n 3, 1) := by decide +kernel
theorem dX4_readAtom_116 : decode cX4_readAtom 116 = .ok (.invokevirtual 55, 3) := by decide +kernel
theorem dX4_readAtom_119 : decode cX4_readAtom 119 = .ok (.aload_n 0, 1) := by decide +kernel
theorem dX4_readAtom_120 : decode cX4_readAtom 120 = .ok (.getfield 39, 3) := by decide +kernel
theorem dX4_readAtom_123 : decode cX4_readAtom 123 = .ok (.invokevirtual 47, 3) := by decide +kernel
theorem dX4_readAtom_126 : decode cX4_readAtom 126 = .ok (.iconst 1, 1) := by decide +kernel
theorem dX4_readAtom_127 : decode cX4_readAtom 127 = .ok (.ireturn, 1) := by decide +kernel
theorem dX4_presentTruth_0 : decode cX4_presentTruth 0 = .ok (.aload_n 0, 1) := by decide +kernel
theorem dX4_presentTruth_1 : decode cX4_presentTruth 1 = .ok (.getfield 39, 3) := by decide +kernel
theorem dX4_presentTruth_4 : decode cX4_presentTruth 4 = .ok (.ldc 97, 2) := by decide +kernel
theorem dX4_presentTruth_6 : decode cX4_presentTruth 6 = .ok (.invokevirtual 61, 3) := by decide +kernel
theorem dX4_presentTruth_9 : decode cX4_presentTruth 9 = .ok (.ifCond .eq 6, 3) := by decide +kernel
theorem dX4_presentTruth_12 : decode cX4_presentTruth 12 = .ok (.bipush (-2), 2) := by decide +kernel
theorem dX4_presentTruth_14 : decode cX4_presentTruth 14 = .ok (.ireturn, 1) := by decide +kernel
theorem dX4_presentTruth_15 : decode cX4_presentTruth 15 = .ok (.aload_n 0, 1) := by decide +kernel
theorem dX4_presentTruth_16 : decode cX4_presentTruth 16 = .ok (.getfield 39, 3) := by decide +kernel
theorem dX4_presentTruth_19 : decode cX4_presentTruth 19 = .ok (.ldc 99, 2) := by decide +kernel
theorem dX4_presentTruth_21 : decode cX4_presentTruth 21 = .ok (.invokevirtual 61, 3) := by decide +kernel
theorem dX4_presentTruth_24 : decode cX4_presentTruth 24 = .ok (.ifCond .eq 6, 3) := by decide +kernel
theorem dX4_presentTruth_27 : decode cX4_presentTruth 27 = .ok (.bipush (-3), 2) := by decide +kernel
theorem dX4_presentTruth_29 : decode cX4_presentTruth 29 = .ok (.ireturn, 1) := by decide +kernel
theorem dX4_presentTruth_30 : decode cX4_presentTruth 30 = .ok (.aload_n 0, 1) := by decide +kernel
theorem dX4_presentTruth_31 : decode cX4_presentTruth 31 = .ok (.getfield 39, 3) := by decide +kernel
theorem dX4_presentTruth_34 : decode cX4_presentTruth 34 = .ok (.ldc 101, 2) := by decide +kernel
theorem dX4_presentTruth_36 : decode cX4_presentTruth 36 = .ok (.invokevirtual 61, 3) := by decide +kernel
theorem dX4_presentTruth_39 : decode cX4_presentTruth 39 = .ok (.ifCond .eq 6, 3) := by decide +kernel
theorem dX4_presentTruth_42 : decode cX4_presentTruth 42 = .ok (.bipush (-4), 2) := by decide +kernel
theorem dX4_presentTruth_44 : decode cX4_presentTruth 44 = .ok (.ireturn, 1) := by decide +kernel
theorem dX4_presentTruth_45 : decode cX4_presentTruth 45 = .ok (.aload_n 0, 1) := by decide +kernel
theorem dX4_presentTruth_46 : decode cX4_presentTruth 46 = .ok (.getfield 39, 3) := by decide +kernel
theorem dX4_presentTruth_49 : decode cX4_presentTruth 49 = .ok (.ldc 103, 2) := by decide +kernel
theorem dX4_presentTruth_51 : decode cX4_presentTruth 51 = .ok (.invokevirtual 61, 3) := by decide +kernel
theorem dX4_presentTruth_54 : decode cX4_presentTruth 54 = .ok (.ifCond .eq 6, 3) := by decide +kernel
theorem dX4_presentTruth_57 : decode cX4_presentTruth 57 = .ok (.bipush (-5), 2) := by decide +kernel
theorem dX4_presentTruth_59 : decode cX4_presentTruth 59 = .ok (.ireturn, 1) := by decide +kernel
theorem dX4_presentTruth_60 : decode cX4_presentTruth 60 = .ok (.aload_n 0, 1) := by decide +kernel
theorem dX4_presentTruth_61 : decode cX4_presentTruth 61 = .ok (.getfield 39, 3) := by decide +kernel
theorem dX4_presentTruth_64 : decode cX4_presentTruth 64 = .ok (.ldc 105, 2) := by decide +kernel
theorem dX4_presentTruth_66 : decode cX4_presentTruth 66 = .ok (.invokevirtual 61, 3) := by decide +kernel
theorem dX4_presentTruth_69 : decode cX4_presentTruth 69 = .ok (.ifCond .eq 8, 3) := by decide +kernel
theorem dX4_presentTruth_72 : decode cX4_presentTruth 72 = .ok (.bipush (-6), 2) := by decide +kernel
theorem dX4_presentTruth_74 : decode cX4_presentTruth 74 = .ok (.goto 4, 3) := by decide +kernel
theorem dX4_presentTruth_77 : decode cX4_presentTruth 77 = .ok (.iconst (-1), 1) := by decide +kernel
theorem dX4_presentTruth_78 : decode cX4_presentTruth 78 = .ok (.ireturn, 1) := by decide +kernel
theorem dX4_readComparison_0 : decode cX4_readComparison 0 = .ok (.aload_n 0, 1) := by decide +kernel
theorem dX4_readComparison_1 : decode cX4_readComparison 1 = .ok (.invokevirtual 107, 3) := by decide +kernel
theorem dX4_readComparison_4 : decode cX4_readComparison 4 = .ok (.ifCond .ne 5, 3) := by decide +kernel
theorem dX4_readComparison_7 : decode cX4_readComparison 7 = .ok (.iconst 0, 1) := by decide +kernel
theorem dX4_readComparison_8 : decode cX4_readComparison 8 = .ok (.ireturn, 1) := by decide +kernel
theorem dX4_readComparison_9 : decode cX4_readComparison 9 = .ok (.aload_n 0, 1) := by decide +kernel
theorem dX4_readComparison_10 : decode cX4_readComparison 10 = .ok (.getfield 39, 3) := by decide +kernel
theorem dX4_readComparison_13 : decode cX4_readComparison 13 = .ok (.bipush 60, 2) := by decide +kernel
theorem dX4_readComparison_15 : decode cX4_readComparison 15 = .ok (.invokevirtual 84, 3) := by decide +kernel
theorem dX4_readComparison_18 : decode cX4_readComparison 18 = .ok (.istore_n 1, 1) := by decide +kernel
theorem dX4_readComparison_19 : decode cX4_readComparison 19 = .ok (.iload_n 1, 1) := by decide +kernel
theorem dX4_readComparison_20 : decode cX4_readComparison 20 = .ok (.ifCond .ne 23, 3) := by decide +kernel
theorem dX4_readComparison_23 : decode cX4_readComparison 23 = .ok (.aload_n 0, 1) := by decide +kernel
theorem dX4_readComparison_24 : decode cX4_readComparison 24 = .ok (.getfield 39, 3) := by decide +kernel
theorem dX4_readComparison_27 : decode cX4_readComparison 27 = .ok (.bipush 62, 2) := by decide +kernel
theorem dX4_readComparison_29 : decode cX4_readComparison 29 = .ok (.invokevirtual 84, 3) := by decide +kernel
theorem dX4_readComparison_32 : decode cX4_readComparison 32 = .ok (.ifCond .ne 11, 3) := by decide +kernel
theorem dX4_readComparison_35 : decode cX4_readComparison 35 = .ok (.aload_n 0, 1) := by decide +kernel
theorem dX4_readComparison_36 : decode cX4_readComparison 36 = .ok (.getfield 39, 3) := by decide +kernel
theorem dX4_readComparison_39 : decode cX4_readComparison 39 = .ok (.invokevirtual 43, 3) := by decide +kernel
theorem dX4_readComparison_42 : decode cX4_readComparison 42 = .ok (.ireturn, 1) := by decide +kernel
theorem dX4_readComparison_43 : decode cX4_readComparison 43 = .ok (.aload_n 0, 1) := by decide +kernel
theorem dX4_readComparison_44 : decode cX4_readComparison 44 = .ok (.getfield 39, 3) := by decide +kernel
theorem dX4_readComparison_47 : decode cX4_readComparison 47 = .ok (.invokevirtual 47, 3) := by decide +kernel
theorem dX4_readComparison_50 : decode cX4_readComparison 50 = .ok (.aload_n 0, 1) := by decide +kernel
theorem dX4_readComparison_51 : decode cX4_readComparison 51 = .ok (.invokevirtual 107, 3) := by decide +kernel
theorem dX4_readComparison_54 : decode cX4_readComparison 54 = .ok (.ifCond .ne 5, 3) := by decide +kernel
theorem dX4_readComparison_57 : decode cX4_readComparison 57 = .ok (.iconst 0, 1) := by decide +kernel
theorem dX4_readComparison_58 : decode cX4_readComparison 58 = .ok (.ireturn, 1) := by decide +kernel
theorem dX4_readComparison_59 : decode cX4_readComparison 59 = .ok (.aload_n 0, 1) := by decide +kernel
theorem dX4_readComparison_60 : decode cX4_readComparison 60 = .ok (.iload_n 1, 1) := by decide +kernel
theorem dX4_readComparison_61 : decode cX4_readComparison 61 = .ok (.ifCond .eq 8, 3) := by decide +kernel
theorem dX4_readComparison_64 : decode cX4_readComparison 64 = .ok (.bipush (-15), 2) := by decide +kernel
theorem dX4_readComparison_66 : decode cX4_readComparison 66 = .ok (.goto 5, 3) := by decide +kernel
theorem dX4_readComparison_69 : decode cX4_readComparison 69 = .ok (.bipush (-16), 2) := by decide +kernel
theorem dX4_readComparison_71 : decode cX4_readComparison 71 = .ok (.invokevirtual 55, 3) := by decide +kernel
theorem dX4_readComparison_74 : decode cX4_readComparison 74 = .ok (.iconst 1, 1) := by decide +kernel
theorem dX4_readComparison_75 : decode cX4_readComparison 75 = .ok (.ireturn, 1) := by decide +kernel
theorem dX4_readSum_0 : decode cX4_readSum 0 = .ok (.iconst 0, 1) := by decide +kernel
theorem dX4_readSum_1 : decode cX4_readSum 1 = .ok (.istore_n 1, 1) := by decide +kernel
theorem dX4_readSum_2 : decode cX4_readSum 2 = .ok (.iload_n 1, 1) := by decide +kernel
theorem dX4_readSum_3 : decode cX4_readSum 3 = .ok (.sipush 400, 3) := by decide +kernel
theorem dX4_readSum_6 : decode cX4_readSum 6 = .ok (.if_icmp .ge 219, 3) := by decide +kernel
theorem dX4_readSum_9 : decode cX4_readSum 9 = .ok (.aload_n 0, 1) := by decide +kernel
theorem dX4_readSum_10 : decode cX4_readSum 10 = .ok (.getfield 39, 3) := by decide +kernel
theorem dX4_readSum_13 : decode cX4_readSum 13 = .ok (.getfield 110, 3) := by decide +kernel
theorem dX4_readSum_16 : decode cX4_readSum 16 = .ok (.iconst 2, 1) := by decide +kernel
theorem dX4_readSum_17 : decode cX4_readSum 17 = .ok (.if_icmp .ne 30, 3) := by decide +kernel
theorem dX4_readSum_20 : decode cX4_readSum 20 = .ok (.aload_n 0, 1) := by decide +kernel
theorem dX4_readSum_21 : decode cX4_readSum 21 = .ok (.getfield 39, 3) := by decide +kernel
theorem dX4_readSum_24 : decode cX4_readSum 24 = .ok (.getfield 113, 3) := by decide +kernel
theorem dX4_readSum_27 : decode cX4_readSum 27 = .ok (.sipush 999, 3) := by decide +kernel
theorem dX4_readSum_30 : decode cX4_readSum 30 = .ok (.if_icmp .gt 17, 3) := by decide +kernel
theorem dX4_readSum_33 : decode cX4_readSum 33 = .ok (.aload_n 0, 1) := by decide +kernel
theorem dX4_readSum_34 : decode cX4_readSum 34 = .ok (.aload_n 0, 1) := by decide +kernel
theorem dX4_readSum_35 : decode cX4_readSum 35 = .ok (.getfield 39, 3) := by decide +kernel
theorem dX4_readSum_38 : decode cX4_readSum 38 = .ok (.getfield 113, 3) := by decide +kernel
theorem dX4_readSum_41 : decode cX4_readSum 41 = .ok (.invokevirtual 55, 3) := by decide +kernel
theorem dX4_readSum_44 : decode cX4_readSum 44 = .ok (.goto 137, 3) := by decide +kernel
theorem dX4_readSum_47 : decode cX4_readSum 47 = .ok (.aload_n 0, 1) := by decide +kernel
theorem dX4_readSum_48 : decode cX4_readSum 48 = .ok (.getfield 39, 3) := by decide +kernel
theorem dX4_readSum_51 : decode cX4_readSum 51 = .ok (.ldc 116, 2) := by decide +kernel
theorem dX4_readSum_53 : decode cX4_readSum 53 = .ok (.invokevirtual 61, 3) := by decide +kernel
theorem dX4_readSum_56 : decode cX4_readSum 56 = .ok (.ifCond .eq 12, 3) := by decide +kernel
theorem dX4_readSum_59 : decode cX4_readSum 59 = .ok (.aload_n 0, 1) := by decide +kernel
theorem dX4_readSum_60 : decode cX4_readSum 60 = .ok (.bipush (-7), 2) := by decide +kernel
theorem dX4_readSum_62 : decode cX4_readSum 62 = .ok (.invokevirtual 55, 3) := by decide +kernel
theorem dX4_readSum_65 : decode cX4_readSum 65 = .ok (.goto 116, 3) := by decide +kernel
theorem dX4_readSum_68 : decode cX4_readSum 68 = .ok (.aload_n 0, 1) := by decide +kernel
theorem dX4_readSum_69 : decode cX4_readSum 69 = .ok (.getfield 39, 3) := by decide +kernel
theorem dX4_readSum_72 : decode cX4_readSum 72 = .ok (.ldc 118, 2) := by decide +kernel
theorem dX4_readSum_74 : decode cX4_readSum 74 = .ok (.invokevirtual 61, 3) := by decide +kernel
theorem dX4_readSum_77 : decode cX4_readSum 77 = .ok (.ifCond .eq 12, 3) := by decide +kernel
theorem dX4_readSum_80 : decode cX4_readSum 80 = .ok (.aload_n 0, 1) := by decide +kernel
theorem dX4_readSum_81 : decode cX4_readSum 81 = .ok (.bipush (-8), 2) := by decide +kernel
theorem dX4_readSum_83 : decode cX4_readSum 83 = .ok (.invokevirtual 55, 3) := by decide +kernel
theorem dX4_readSum_86 : decode cX4_readSum 86 = .ok (.goto 95, 3) := by decide +kernel
theorem dX4_readSum_89 : decode cX4_readSum 89 = .ok (.aload_n 0, 1) := by decide +kernel
theorem dX4_readSum_90 : decode cX4_readSum 90 = .ok (.getfield 39, 3) := by decide +kernel
theorem dX4_readSum_93 : decode cX4_readSum 93 = .ok (.ldc 120, 2) := by decide +kernel
theorem dX4_readSum_95 : decode cX4_readSum 95 = .ok (.invokevirtual 61, 3) := by decide +kernel
theorem dX4_readSum_98 : decode cX4_readSum 98 = .ok (.ifCond .eq 12, 3) := by decide +kernel
theorem dX4_readSum_101 : decode cX4_readSum 101 = .ok (.aload_n 0, 1) := by decide +kernel
theorem dX4_readSum_102 : decode cX4_readSum 102 = .ok (.bipush (-9), 2) := by decide +kernel
theorem dX4_readSum_104 : decode cX4_readSum 104 = .ok (.invokevirtual 55, 3) := by decide +kernel
theorem dX4_readSum_107 : decode cX4_readSum 107 = .ok (.goto 74, 3) := by decide +kernel
theorem dX4_readSum_110 : decode cX4_readSum 110 = .ok (.aload_n 0, 1) := by decide +kernel
theorem dX4_readSum_111 : decode cX4_readSum 111 = .ok (.getfield 39, 3) := by decide +kernel
theorem dX4_readSum_114 : decode cX4_readSum 114 = .ok (.ldc 122, 2) := by decide +kernel
theorem dX4_readSum_116 : decode cX4_readSum 116 = .ok (.invokevirtual 61, 3) := by decide +kernel
theorem dX4_readSum_119 : decode cX4_readSum 119 = .ok (.ifCond .eq 12, 3) := by decide +kernel
theorem dX4_readSum_122 : decode cX4_readSum 122 = .ok (.aload_n 0, 1) := by decide +kernel
theorem dX4_readSum_123 : decode cX4_readSum 123 = .ok (.bipush (-10), 2) := by decide +kernel
theorem dX4_readSum_125 : decode cX4_readSum 125 = .ok (.invokevirtual 55, 3) := by decide +kernel
theorem dX4_readSum_128 : decode cX4_readSum 128 = .ok (.goto 53, 3) := by decide +kernel
theorem dX4_readSum_131 : decode cX4_readSum 131 = .ok (.aload_n 0, 1) := by decide +kernel
theorem dX4_readSum_132 : decode cX4_readSum 132 = .ok (.getfield 39, 3) := by decide +kernel
theorem dX4_readSum_135 : decode cX4_readSum 135 = .ok (.ldc 124, 2) := by decide +kernel
theorem dX4_readSum_137 : decode cX4_readSum 137 = .ok (.invokevirtual 61, 3) := by decide +kernel
theorem dX4_readSum_140 : decode cX4_readSum 140 = .ok (.ifCond .eq 12, 3) := by decide +kernel
theorem dX4_readSum_143 : decode cX4_readSum 143 = .ok (.aload_n 0, 1) := by decide +kernel
theorem dX4_readSum_144 : decode cX4_readSum 144 = .ok (.bipush (-11), 2) := by decide +kernel
theorem dX4_readSum_146 : decode cX4_readSum 146 = .ok (.invokevirtual 55, 3) := by decide +kernel
theorem dX4_readSum_149 : decode cX4_readSum 149 = .ok (.goto 32, 3) := by decide +kernel
theorem dX4_readSum_152 : decode cX4_readSum 152 = .ok (.aload_n 0, 1) := by decide +kernel
theorem dX4_readSum_153 : decode cX4_readSum 153 = .ok (.getfield 39, 3) := by decide +kernel
theorem dX4_readSum_156 : decode cX4_readSum 156 = .ok (.ldc 126, 2) := by decide +kernel
theorem dX4_readSum_158 : decode cX4_readSum 158 = .ok (.invokevirtual 61, 3) := by decide +kernel
theorem dX4_readSum_161 : decode cX4_readSum 161 = .ok (.ifCond .eq 12, 3) := by decide +kernel
theorem dX4_readSum_164 : decode cX4_readSum 164 = .ok (.aload_n 0, 1) := by decide +kernel
theorem dX4_readSum_165 : decode cX4_readSum 165 = .ok (.bipush (-12), 2) := by decide +kernel
theorem dX4_readSum_167 : decode cX4_readSum 167 = .ok (.invokevirtual 55, 3) := by decide +kernel
theorem dX4_readSum_170 : decode cX4_readSum 170 = .ok (.goto 11, 3) := by decide +kernel
theorem dX4_readSum_173 : decode cX4_readSum 173 = .ok (.aload_n 0, 1) := by decide +kernel
theorem dX4_readSum_174 : decode cX4_readSum 174 = .ok (.getfield 39, 3) := by decide +kernel
theorem dX4_readSum_177 : decode cX4_readSum 177 = .ok (.invokevirtual 43, 3) := by decide +kernel
theorem dX4_readSum_180 : decode cX4_readSum 180 = .ok (.ireturn, 1) := by decide +kernel
theorem dX4_readSum_181 : decode cX4_readSum 181 = .ok (.aload_n 0, 1) := by decide +kernel
theorem dX4_readSum_182 : decode cX4_readSum 182 = .ok (.getfield 39, 3) := by decide +kernel
theorem dX4_readSum_185 : decode cX4_readSum 185 = .ok (.invokevirtual 47, 3) := by decide +kernel
theorem dX4_readSum_188 : decode cX4_readSum 188 = .ok (.iload_n 1, 1) := by decide +kernel
theorem dX4_readSum_189 : decode cX4_readSum 189 = .ok (.ifCond .le 9, 3) := by decide +kernel
theorem dX4_readSum_192 : decode cX4_readSum 192 = .ok (.aload_n 0, 1) := by decide +kernel
theorem dX4_readSum_193 : decode cX4_readSum 193 = .ok (.bipush (-14), 2) := by decide +kernel
theorem dX4_readSum_195 : decode cX4_readSum 195 = .ok (.invokevirtual 55, 3) := by decide +kernel
theorem dX4_readSum_198 : decode cX4_readSum 198 = .ok (.aload_n 0, 1) := by decide +kernel
theorem dX4_readSum_199 : decode cX4_readSum 199 = .ok (.getfield 39, 3) := by decide +kernel
theorem dX4_readSum_202 : decode cX4_readSum 202 = .ok (.bipush 43, 2) := by decide +kernel
theorem dX4_readSum_204 : decode cX4_readSum 204 = .ok (.invokevirtual 84, 3) := by decide +kernel
theorem dX4_readSum_207 : decode cX4_readSum 207 = .ok (.ifCond .ne 5, 3) := by decide +kernel
theorem dX4_readSum_210 : decode cX4_readSum 210 = .ok (.iconst 1, 1) := by decide +kernel
theorem dX4_readSum_211 : decode cX4_readSum 211 = .ok (.ireturn, 1) := by decide +kernel
theorem dX4_readSum_212 : decode cX4_readSum 212 = .ok (.aload_n 0, 1) := by decide +kernel
theorem dX4_readSum_213 : decode cX4_readSum 213 = .ok (.getfield 39, 3) := by decide +kernel
theorem dX4_readSum_216 : decode cX4_readSum 216 = .ok (.invokevirtual 47, 3) := by decide +kernel
theorem dX4_readSum_219 : decode cX4_readSum 219 = .ok (.iinc 1 1, 3) := by decide +kernel
theorem dX4_readSum_222 : decode cX4_readSum 222 = .ok (.goto (-220), 3) := by decide +kernel
theorem dX4_readSum_225 : decode cX4_readSum 225 = .ok (.aload_n 0, 1) := by decide +kernel
theorem dX4_readSum_226 : decode cX4_readSum 226 = .ok (.getfield 39, 3) := by decide +kernel
theorem dX4_readSum_229 : decode cX4_readSum 229 = .ok (.invokevirtual 43, 3) := by decide +kernel
theorem dX4_readSum_232 : decode cX4_readSum 232 = .ok (.ireturn, 1) := by decide +kernel
theorem dX5_init_0 : decode cX5_init 0 = .ok (.aload_n 0, 1) := by decide +kernel
theorem dX5_init_1 : decode cX5_init 1 = .ok (.invokespecial 3, 3) := by decide +kernel
theorem dX5_init_4 : decode cX5_init 4 = .ok (.aload_n 0, 1) := by decide +kernel
theorem dX5_init_5 : decode cX5_init 5 = .ok (.bipush 6, 2) := by decide +kernel
theorem dX5_init_7 : decode cX5_init 7 = .ok (.anewarray 9, 3) := by decide +kernel
theorem dX5_init_10 : decode cX5_init 10 = .ok (.putfield 11, 3) := by decide +kernel
theorem dX5_init_13 : decode cX5_init 13 = .ok (.aload_n 0, 1) := by decide +kernel
theorem dX5_init_14 : decode cX5_init 14 = .ok (.bipush 12, 2) := by decide +kernel
theorem dX5_init_16 : decode cX5_init 16 = .ok (.anewarray 17, 3) := by decide +kernel
theorem dX5_init_19 : decode cX5_init 19 = .ok (.putfield 19, 3) := by decide +kernel
theorem dX5_init_22 : decode cX5_init 22 = .ok (.aload_n 0, 1) := by decide +kernel
theorem dX5_init_23 : decode cX5_init 23 = .ok (.new 23, 3) := by decide +kernel
theorem dX5_init_26 : decode cX5_init 26 = .ok (.dup, 1) := by decide +kernel
theorem dX5_init_27 : decode cX5_init 27 = .ok (.invokespecial 25, 3) := by decide +kernel
theorem dX5_init_30 : decode cX5_init 30 = .ok (.putfield 26, 3) := by decide +kernel
theorem dX5_init_33 : decode cX5_init 33 = .ok (.aload_n 0, 1) := by decide +kernel
theorem dX5_init_34 : decode cX5_init 34 = .ok (.iconst 0, 1) := by decide +kernel
theorem dX5_init_35 : decode cX5_init 35 = .ok (.putfield 30, 3) := by decide +kernel
theorem dX5_init_38 : decode cX5_init 38 = .ok (.aload_n 0, 1) := by decide +kernel
theorem dX5_init_39 : decode cX5_init 39 = .ok (.iconst 0, 1) := by decide +kernel
theorem dX5_init_40 : decode cX5_init 40 = .ok (.putfield 34, 3) := by decide +kernel
theorem dX5_init_43 : decode cX5_init 43 = .ok (.aload_n 0, 1) := by decide +kernel
theorem dX5_init_44 : decode cX5_init 44 = .ok (.iconst 0, 1) := by decide +kernel
theorem dX5_init_45 : decode cX5_init 45 = .ok (.putfield 37, 3) := by decide +kernel
theorem dX5_init_48 : decode cX5_init 48 = .ok (.aload_n 0, 1) := by decide +kernel
theorem dX5_init_49 : decode cX5_init 49 = .ok (.iconst 2, 1) := by decide +kernel
theorem dX5_init_50 : decode cX5_init 50 = .ok (.putfield 40, 3) := by decide +kernel
theorem dX5_init_53 : decode cX5_init 53 = .ok (.aload_n 0, 1) := by decide +kernel
theorem dX5_init_54 : decode cX5_init 54 = .ok (.iconst 5, 1) := by decide +kernel
theorem dX5_init_55 : decode cX5_init 55 = .ok (.putfield 43, 3) := by decide +kernel
theorem dX5_init_58 : decode cX5_init 58 = .ok (.aload_n 0, 1) := by decide +kernel
theorem dX5_init_59 : decode cX5_init 59 = .ok (.bipush 50, 2) := by decide +kernel
theorem dX5_init_61 : decode cX5_init 61 = .ok (.putfield 46, 3) := by decide +kernel
theorem dX5_init_64 : decode cX5_init 64 = .ok (.aload_n 0, 1) := by decide +kernel
theorem dX5_init_65 : decode cX5_init 65 = .ok (.iconst 1, 1) := by decide +kernel
theorem dX5_init_66 : decode cX5_init 66 = .ok (.putfield 49, 3) := by decide +kernel
theorem dX5_init_69 : decode cX5_init 69 = .ok (.aload_n 0, 1) := by decide +kernel
theorem dX5_init_70 : decode cX5_init 70 = .ok (.iconst 0, 1) := by decide +kernel
theorem dX5_init_71 : decode cX5_init 71 = .ok (.putfield 52, 3) := by decide +kernel
theorem dX5_init_74 : decode cX5_init 74 = .ok (.aload_n 0, 1) := by decide +kernel
theorem dX5_init_75 : decode cX5_init 75 = .ok (.iconst 0, 1) := by decide +kernel
theorem dX5_init_76 : decode cX5_init 76 = .ok (.putfield 55, 3) := by decide +kernel
theorem dX5_init_79 : decode cX5_init 79 = .ok (.aload_n 0, 1) := by decide +kernel
theorem dX5_init_80 : decode cX5_init 80 = .ok (.iconst 1, 1) := by decide +kernel
theorem dX5_init_81 : decode cX5_init 81 = .ok (.putfield 58, 3) := by decide +kernel
theorem dX5_init_84 : decode cX5_init 84 = .ok (.aload_n 0, 1) := by decide +kernel
theorem dX5_init_85 : decode cX5_init 85 = .ok (.aconst_null, 1) := by decide +kernel
theorem dX5_init_86 : decode cX5_init 86 = .ok (.putfield 61, 3) := by decide +kernel
theorem dX5_init_89 : decode cX5_init 89 = .ok (.iconst 0, 1) := by decide +kernel
theorem dX5_init_90 : decode cX5_init 90 = .ok (.istore_n 1, 1) := by decide +kernel
theorem dX5_init_91 : decode cX5_init 91 = .ok (.iload_n 1, 1) := by decide +kernel
theorem dX5_init_92 : decode cX5_init 92 = .ok (.bipush 6, 2) := by decide +kernel
theorem dX5_init_94 : decode cX5_init 94 = .ok (.if_icmp .ge 22, 3) := by decide +kernel
theorem dX5_init_97 : decode cX5_init 97 = .ok (.aload_n 0, 1) := by decide +kernel
theorem dX5_init_98 : decode cX5_init 98 = .ok (.getfield 11, 3) := by decide +kernel
theorem dX5_init_101 : decode cX5_init 101 = .ok (.iload_n 1, 1) := by decide +kernel
theorem dX5_init_102 : decode cX5_init 102 = .ok (.new 9, 3) := by decide +kernel
theorem dX5_init_105 : decode cX5_init 105 = .ok (.dup, 1) := by decide +kernel
theorem dX5_init_106 : decode cX5_init 106 = .ok (.invokespecial 65, 3) := by decide +kernel
theorem dX5_init_109 : decode cX5_init 109 = .ok (.aastore, 1) := by decide +kernel
theorem dX5_init_110 : decode cX5_init 110 = .ok (.iinc 1 1, 3) := by decide +kernel
theorem dX5_init_113 : decode cX5_init 113 = .ok (.goto (-22), 3) := by decide +kernel
theorem dX5_init_116 : decode cX5_init 116 = .ok (.iconst 0, 1) := by decide +kernel
theorem dX5_init_117 : decode cX5_init 117 = .ok (.istore_n 1, 1) := by decide +kernel
theorem dX5_init_118 : decode cX5_init 118 = .ok (.iload_n 1, 1) := by decide +kernel
theorem dX5_init_119 : decode cX5_init 119 = .ok (.bipush 12, 2) := by decide +kernel
theorem dX5_init_121 : decode cX5_init 121 = .ok (.if_icmp .ge 22, 3) := by decide +kernel
theorem dX5_init_124 : decode cX5_init 124 = .ok (.aload_n 0, 1) := by decide +kernel
theorem dX5_init_125 : decode cX5_init 125 = .ok (.getfield 19, 3) := by decide +kernel
theorem dX5_init_128 : decode cX5_init 128 = .ok (.iload_n 1, 1) := by decide +kernel
theorem dX5_init_129 : decode cX5_init 129 = .ok (.new 17, 3) := by decide +kernel
theorem dX5_init_132 : decode cX5_init 132 = .ok (.dup, 1) := by decide +kernel
theorem dX5_init_133 : decode cX5_init 133 = .ok (.invokespecial 66, 3) := by decide +kernel
theorem dX5_init_136 : decode cX5_init 136 = .ok (.aastore, 1) := by decide +kernel
theorem dX5_init_137 : decode cX5_init 137 = .ok (.iinc 1 1, 3) := by decide +kernel
theorem dX5_init_140 : decode cX5_init 140 = .ok (.goto (-22), 3) := by decide +kernel
theorem dX5_init_143 : decode cX5_init 143 = .ok (.return_, 1) := by decide +kernel
theorem dX5_become_0 : decode cX5_become 0 = .ok (.iconst 0, 1) := by decide +kernel
theorem dX5_become_1 : decode cX5_become 1 = .ok (.istore_n 2, 1) := by decide +kernel
theorem dX5_become_2 : decode cX5_become 2 = .ok (.iload_n 2, 1) := by decide +kernel
theorem dX5_become_3 : decode cX5_become 3 = .ok (.bipush 6, 2) := by decide +kernel
theorem dX5_become_5 : decode cX5_become 5 = .ok (.if_icmp .ge 24, 3) := by decide +kernel
theorem dX5_become_8 : decode cX5_become 8 = .ok (.aload_n 0, 1) := by decide +kernel
theorem dX5_become_9 : decode cX5_become 9 = .ok (.getfield 11, 3) := by decide +kernel
theorem dX5_become_12 : decode cX5_become 12 = .ok (.iload_n 2, 1) := by decide +kernel
theorem dX5_become_13 : decode cX5_become 13 = .ok (.aaload, 1) := by decide +kernel
theorem dX5_become_14 : decode cX5_become 14 = .ok (.aload_n 1, 1) := by decide +kernel
theorem dX5_become_15 : decode cX5_become 15 = .ok (.getfield 11, 3) := by decide +kernel
theorem dX5_become_18 : decode cX5_become 18 = .ok (.iload_n 2, 1) := by decide +kernel
theorem dX5_become_19 : decode cX5_become 19 = .ok (.aaload, 1) := by decide +kernel
theorem dX5_become_20 : decode cX5_become 20 = .ok (.invokevirtual 67, 3) := by decide +kernel
theorem dX5_become_23 : decode cX5_become 23 = .ok (.iinc 2 1, 3) := by decide +kernel
theorem dX5_become_26 : decode cX5_become 26 = .ok (.goto (-24), 3) := by decide +kernel
theorem dX5_become_29 : decode cX5_become 29 = .ok (.iconst 0, 1) := by decide +kernel
theorem dX5_become_30 : decode cX5_become 30 = .ok (.istore_n 2, 1) := by decide +kernel
theorem dX5_become_31 : decode cX5_become 31 = .ok (.iload_n 2, 1) := by decide +kernel
theorem dX5_become_32 : decode cX5_become 32 = .ok (.bipush 12, 2) := by decide +kernel
theorem dX5_become_34 : decode cX5_become 34 = .ok (.if_icmp .ge 24, 3) := by decide +kernel
theorem dX5_become_37 : decode cX5_become 37 = .ok (.aload_n 0, 1) := by decide +kernel
theorem dX5_become_38 : decode cX5_become 38 = .ok (.getfield 19, 3) := by decide +kernel
theorem dX5_become_41 : decode cX5_become 41 = .ok (.iload_n 2, 1) := by decide +kernel
theorem dX5_become_42 : decode cX5_become 42 = .ok (.aaload, 1) := by decide +kernel
theorem dX5_become_43 : decode cX5_become 43 = .ok (.aload_n 1, 1) := by decide +kernel
theorem dX5_become_44 : decode cX5_become 44 = .ok (.getfield 19, 3) := by decide +kernel
theorem dX5_become_47 : decode cX5_become 47 = .ok (.iload_n 2, 1) := by decide +kernel
theorem dX5_become_48 : decode cX5_become 48 = .ok (.aaload, 1) := by decide +kernel
theorem dX5_become_49 : decode cX5_become 49 = .ok (.invokevirtual 71, 3) := by decide +kernel
theorem dX5_become_52 : decode cX5_become 52 = .ok (.iinc 2 1, 3) := by decide +kernel
theorem dX5_become_55 : decode cX5_become 55 = .ok (.goto (-24), 3) := by decide +kernel
theorem dX5_become_58 : decode cX5_become 58 = .ok (.aload_n 0, 1) := by decide +kernel
theorem dX5_become_59 : decode cX5_become 59 = .ok (.getfield 26, 3) := by decide +kernel
theorem dX5_become_62 : decode cX5_become 62 = .ok (.aload_n 1, 1) := by decide +kernel
theorem dX5_become_63 : decode cX5_become 63 = .ok (.getfield 26, 3) := by decide +kernel
theorem dX5_become_66 : decode cX5_become 66 = .ok (.invokevirtual 74, 3) := by decide +kernel
theorem dX5_become_69 : decode cX5_become 69 = .ok (.aload_n 0, 1) := by decide +kernel
theorem dX5_become_70 : decode cX5_become 70 = .ok (.aload_n 1, 1) := by decide +kernel
theorem dX5_become_71 : decode cX5_become 71 = .ok (.getfield 30, 3) := by decide +kernel
theorem dX5_become_74 : decode cX5_become 74 = .ok (.putfield 30, 3) := by decide +kernel
theorem dX5_become_77 : decode cX5_become 77 = .ok (.aload_n 0, 1) := by decide +kernel
theorem dX5_become_78 : decode cX5_become 78 = .ok (.aload_n 1, 1) := by decide +kernel
theorem dX5_become_79 : decode cX5_become 79 = .ok (.getfield 34, 3) := by decide +kernel
theorem dX5_become_82 : decode cX5_become 82 = .ok (.putfield 34, 3) := by decide +kernel
theorem dX5_become_85 : decode cX5_become 85 = .ok (.aload_n 0, 1) := by decide +kernel
theorem dX5_become_86 : decode cX5_become 86 = .ok (.aload_n 1, 1) := by decide +kernel
theorem dX5_become_87 : decode cX5_become 87 = .ok (.getfield 37, 3) := by decide +kernel
theorem dX5_become_90 : decode cX5_become 90 = .ok (.putfield 37, 3) := by decide +kernel
theorem dX5_become_93 : decode cX5_become 93 = .ok (.aload_n 0, 1) := by decide +kernel
theorem dX5_become_94 : decode cX5_become 94 = .ok (.aload_n 1, 1) := by decide +kernel
theorem dX5_become_95 : decode cX5_become 95 = .ok (.getfield 40, 3) := by decide +kernel
theorem dX5_become_98 : decode cX5_become 98 = .ok (.putfield 40, 3) := by decide +kernel
theorem dX5_become_101 : decode cX5_become 101 = .ok (.aload_n 0, 1) := by decide +kernel
theorem dX5_become_102 : decode cX5_become 102 = .ok (.aload_n 1, 1) := by decide +kernel
theorem dX5_become_103 : decode cX5_become 103 = .ok (.getfield 43, 3) := by decide +kernel
theorem dX5_become_106 : decode cX5_become 106 = .ok (.putfield 43, 3) := by decide +kernel
theorem dX5_become_109 : decode cX5_become 109 = .ok (.aload_n 0, 1) := by decide +kernel
theorem dX5_become_110 : decode cX5_become 110 = .ok (.aload_n 1, 1) := by decide +kernel
theorem dX5_become_111 : decode cX5_become 111 = .ok (.getfield 46, 3) := by decide +kernel
theorem dX5_become_114 : decode cX5_become 114 = .ok (.putfield 46, 3) := by decide +kernel
theorem dX5_become_117 : decode cX5_become 117 = .ok (.aload_n 0, 1) := by decide +kernel
theorem dX5_become_118 : decode cX5_become 118 = .ok (.aload_n 1, 1) := by decide +kernel
theorem dX5_become_119 : decode cX5_become 119 = .ok (.getfield 49, 3) := by decide +kernel
theorem dX5_become_122 : decode cX5_become 122 = .ok (.putfield 49, 3) := by decide +kernel
theorem dX5_become_125 : decode cX5_become 125 = .ok (.aload_n 0, 1) := by decide +kernel
theorem dX5_become_126 : decode cX5_become 126 = .ok (.aload_n 1, 1) := by decide +kernel
theorem dX5_become_127 : decode cX5_become 127 = .ok (.getfield 52, 3) := by decide +kernel
theorem dX5_become_130 : decode cX5_become 130 = .ok (.putfield 52, 3) := by decide +kernel
theorem dX5_become_133 : decode cX5_become 133 = .ok (.aload_n 0, 1) := by decide +kernel
theorem dX5_become_134 : decode cX5_become 134 = .ok (.aload_n 1, 1) := by decide +kernel
theorem dX5_become_135 : decode cX5_become 135 = .ok (.getfield 55, 3) := by decide +kernel
theorem dX5_become_138 : decode cX5_become 138 = .ok (.putfield 55, 3) := by decide +kernel
theorem dX5_become_141 : decode cX5_become 141 = .ok (.aload_n 0, 1) := by decide +kernel
theorem dX5_become_142 : decode cX5_become 142 = .ok (.aload_n 1, 1) := by decide +kernel
theorem dX5_become_143 : decode cX5_become 143 = .ok (.getfield 58, 3) := by decide +kernel
theorem dX5_become_146 : decode cX5_become 146 = .ok (.putfield 58, 3) := by decide +kernel
theorem dX5_become_149 : decode cX5_become 149 = .ok (.aload_n 0, 1) := by decide +kernel
theorem dX5_become_150 : decode cX5_become 150 = .ok (.aload_n 1, 1) := by decide +kernel
theorem dX5_become_151 : decode cX5_become 151 = .ok (.getfield 61, 3) := by decide +kernel
theorem dX5_become_154 : decode cX5_become 154 = .ok (.putfield 61, 3) := by decide +kernel
theorem dX5_become_157 : decode cX5_become 157 = .ok (.return_, 1) := by decide +kernel
theorem dX5_bitsOf_0 : decode cX5_bitsOf 0 = .ok (.iconst 0, 1) := by decide +kernel
theorem dX5_bitsOf_1 : decode cX5_bitsOf 1 = .ok (.istore_n 2, 1) := by decide +kernel
theorem dX5_bitsOf_2 : decode cX5_bitsOf 2 = .ok (.iconst 0, 1) := by decide +kernel
theorem dX5_bitsOf_3 : decode cX5_bitsOf 3 = .ok (.istore_n 3, 1) := by decide +kernel
theorem dX5_bitsOf_4 : decode cX5_bitsOf 4 = .ok (.iload_n 3, 1) := by decide +kernel
theorem dX5_bitsOf_5 : decode cX5_bitsOf 5 = .ok (.aload_n 0, 1) := by decide +kernel
theorem dX5_bitsOf_6 : decode cX5_bitsOf 6 = .ok (.getfield 34, 3) := by decide +kernel
theorem dX5_bitsOf_9 : decode cX5_bitsOf 9 = .ok (.if_icmp .ge 28, 3) := by decide +kernel
theorem dX5_bitsOf_12 : decode cX5_bitsOf 12 = .ok (.aload_n 0, 1) := by decide +kernel
theorem dX5_bitsOf_13 : decode cX5_bitsOf 13 = .ok (.getfield 19, 3) := by decide +kernel
theorem dX5_bitsOf_16 : decode cX5_bitsOf 16 = .ok (.iload_n 3, 1) := by decide +kernel
theorem dX5_bitsOf_17 : decode cX5_bitsOf 17 = .ok (.aaload, 1) := by decide +kernel
theorem dX5_bitsOf_18 : decode cX5_bitsOf 18 = .ok (.getfield 77, 3) := by decide +kernel
theorem dX5_bitsOf_21 : decode cX5_bitsOf 21 = .ok (.iload_n 1, 1) := by decide +kernel
theorem dX5_bitsOf_22 : decode cX5_bitsOf 22 = .ok (.if_icmp .ne 9, 3) := by decide +kernel
theorem dX5_bitsOf_25 : decode cX5_bitsOf 25 = .ok (.iload_n 2, 1) := by decide +kernel
theorem dX5_bitsOf_26 : decode cX5_bitsOf 26 = .ok (.iconst 1, 1) := by decide +kernel
theorem dX5_bitsOf_27 : decode cX5_bitsOf 27 = .ok (.iload_n 3, 1) := by decide +kernel
theorem dX5_bitsOf_28 : decode cX5_bitsOf 28 = .ok (.ishl, 1) := by decide +kernel
theorem dX5_bitsOf_29 : decode cX5_bitsOf 29 = .ok (.ior, 1) := by decide +kernel
theorem dX5_bitsOf_30 : decode cX5_bitsOf 30 = .ok (.istore_n 2, 1) := by decide +kernel
theorem dX5_bitsOf_31 : decode cX5_bitsOf 31 = .ok (.iinc 3 1, 3) := by decide +kernel
theorem dX5_bitsOf_34 : decode cX5_bitsOf 34 = .ok (.goto (-30), 3) := by decide +kernel
theorem dX5_bitsOf_37 : decode cX5_bitsOf 37 = .ok (.iload_n 2, 1) := by decide +kernel
theorem dX5_bitsOf_38 : decode cX5_bitsOf 38 = .ok (.ireturn, 1) := by decide +kernel
theorem dX5_bitsIn_0 : decode cX5_bitsIn 0 = .ok (.iconst 0, 1) := by decide +kernel
theorem dX5_bitsIn_1 : decode cX5_bitsIn 1 = .ok (.istore_n 2, 1) := by decide +kernel
theorem dX5_bitsIn_2 : decode cX5_bitsIn 2 = .ok (.iconst 0, 1) := by decide +kernel
theorem dX5_bitsIn_3 : decode cX5_bitsIn 3 = .ok (.istore_n 3, 1) := by decide +kernel
theorem dX5_bitsIn_4 : decode cX5_bitsIn 4 = .ok (.iload_n 3, 1) := by decide +kernel
theorem dX5_bitsIn_5 : decode cX5_bitsIn 5 = .ok (.aload_n 0, 1) := by decide +kernel
theorem dX5_bitsIn_6 : decode cX5_bitsIn 6 = .ok (.getfield 34, 3) := by decide +kernel
theorem dX5_bitsIn_9 : decode cX5_bitsIn 9 = .ok (.if_icmp .ge 28, 3) := by decide +kernel
theorem dX5_bitsIn_12 : decode cX5_bitsIn 12 = .ok (.aload_n 0, 1) := by decide +kernel
theorem dX5_bitsIn_13 : decode cX5_bitsIn 13 = .ok (.getfield 19, 3) := by decide +kernel
theorem dX5_bitsIn_16 : decode cX5_bitsIn 16 = .ok (.iload_n 3, 1) := by decide +kernel
theorem dX5_bitsIn_17 : decode cX5_bitsIn 17 = .ok (.aaload, 1) := by decide +kernel
theorem dX5_bitsIn_18 : decode cX5_bitsIn 18 = .ok (.getfield 80, 3) := by decide +kernel
theorem dX5_bitsIn_21 : decode cX5_bitsIn 21 = .ok (.iload_n 1, 1) := by decide +kernel
theorem dX5_bitsIn_22 : decode cX5_bitsIn 22 = .ok (.if_icmp .ne 9, 3) := by decide +kernel
theorem dX5_bitsIn_25 : decode cX5_bitsIn 25 = .ok (.iload_n 2, 1) := by decide +kernel
theorem dX5_bitsIn_26 : decode cX5_bitsIn 26 = .ok (.iconst 1, 1) := by decide +kernel
theorem dX5_bitsIn_27 : decode cX5_bitsIn 27 = .ok (.iload_n 3, 1) := by decide +kernel
theorem dX5_bitsIn_28 : decode cX5_bitsIn 28 = .ok (.ishl, 1) := by decide +kernel
theorem dX5_bitsIn_29 : decode cX5_bitsIn 29 = .ok (.ior, 1) := by decide +kernel
theorem dX5_bitsIn_30 : decode cX5_bitsIn 30 = .ok (.istore_n 2, 1) := by decide +kernel
theorem dX5_bitsIn_31 : decode cX5_bitsIn 31 = .ok (.iinc 3 1, 3) := by decide +kernel
theorem dX5_bitsIn_34 : decode cX5_bitsIn 34 = .ok (.goto (-30), 3) := by decide +kernel
theorem dX5_bitsIn_37 : decode cX5_bitsIn 37 = .ok (.iload_n 2, 1) := by decide +kernel
theorem dX5_bitsIn_38 : decode cX5_bitsIn 38 = .ok (.ireturn, 1) := by decide +kernel
theorem dX5_standing_0 : decode cX5_standing 0 = .ok (.aload_n 0, 1) := by decide +kernel
theorem dX5_standing_1 : decode cX5_standing 1 = .ok (.iload_n 1, 1) := by decide +kernel
theorem dX5_standing_2 : decode cX5_standing 2 = .ok (.invokevirtual 83, 3) := by decide +kernel
theorem dX5_standing_5 : decode cX5_standing 5 = .ok (.aload_n 0, 1) := by decide +kernel
theorem dX5_standing_6 : decode cX5_standing 6 = .ok (.iconst 1, 1) := by decide +kernel
theorem dX5_standing_7 : decode cX5_standing 7 = .ok (.invokevirtual 87, 3) := by decide +kernel
theorem dX5_standing_10 : decode cX5_standing 10 = .ok (.iconst (-1), 1) := by decide +kernel
theorem dX5_standing_11 : decode cX5_standing 11 = .ok (.ixor, 1) := by decide +kernel
theorem dX5_standing_12 : decode cX5_standing 12 = .ok (.iand, 1) := by decide +kernel
theorem dX5_standing_13 : decode cX5_standing 13 = .ok (.invokestatic 90, 3) := by decide +kernel
theorem dX5_standing_16 : decode cX5_standing 16 = .ok (.ireturn, 1) := by decide +kernel
theorem dX5_charge_0 : decode cX5_charge 0 = .ok (.aload_n 0, 1) := by decide +kernel
theorem dX5_charge_1 : decode cX5_charge 1 = .ok (.getfield 19, 3) := by decide +kernel
theorem dX5_charge_4 : decode cX5_charge 4 = .ok (.iload_n 1, 1) := by decide +kernel
theorem dX5_charge_5 : decode cX5_charge 5 = .ok (.aaload, 1) := by decide +kernel
theorem dX5_charge_6 : decode cX5_charge 6 = .ok (.astore_n 3, 1) := by decide +kernel
theorem dX5_charge_7 : decode cX5_charge 7 = .ok (.aload_n 0, 1) := by decide +kernel
theorem dX5_charge_8 : decode cX5_charge 8 = .ok (.getfield 11, 3) := by decide +kernel
theorem dX5_charge_11 : decode cX5_charge 11 = .ok (.aload_n 3, 1) := by decide +kernel
theorem dX5_charge_12 : decode cX5_charge 12 = .ok (.getfield 77, 3) := by decide +kernel
theorem dX5_charge_15 : decode cX5_charge 15 = .ok (.aaload, 1) := by decide +kernel
theorem dX5_charge_16 : decode cX5_charge 16 = .ok (.astore 4, 2) := by decide +kernel
theorem dX5_charge_18 : decode cX5_charge 18 = .ok (.aload_n 0, 1) := by decide +kernel
theorem dX5_charge_19 : decode cX5_charge 19 = .ok (.getfield 61, 3) := by decide +kernel
theorem dX5_charge_22 : decode cX5_charge 22 = .ok (.ifnonnull 17, 3) := by decide +kernel
theorem dX5_charge_25 : decode cX5_charge 25 = .ok (.aload 4, 2) := by decide +kernel
theorem dX5_charge_27 : decode cX5_charge 27 = .ok (.getfield 95, 3) := by decide +kernel
theorem dX5_charge_30 : decode cX5_charge 30 = .ok (.ifCond .eq 7, 3) := by decide +kernel
theorem dX5_charge_33 : decode cX5_charge 33 = .ok (.iconst (-1), 1) := by decide +kernel
theorem dX5_charge_34 : decode cX5_charge 34 = .ok (.goto 4, 3) := by decide +kernel
theorem dX5_charge_37 : decode cX5_charge 37 = .ok (.iconst 0, 1) := by decide +kernel
theorem dX5_charge_38 : decode cX5_charge 38 = .ok (.ireturn, 1) := by decide +kernel
theorem dX5_charge_39 : decode cX5_charge 39 = .ok (.aload_n 0, 1) := by decide +kernel
theorem dX5_charge_40 : decode cX5_charge 40 = .ok (.getfield 61, 3) := by decide +kernel
theorem dX5_charge_43 : decode cX5_charge 43 = .ok (.iconst 1, 1) := by decide +kernel
theorem dX5_charge_44 : decode cX5_charge 44 = .ok (.aload_n 3, 1) := by decide +kernel
theorem dX5_charge_45 : decode cX5_charge 45 = .ok (.aload 4, 2) := by decide +kernel
theorem dX5_charge_47 : decode cX5_charge 47 = .ok (.iload_n 2, 1) := by decide +kernel
theorem dX5_charge_48 : decode cX5_charge 48 = .ok (.aload_n 0, 1) := by decide +kernel
theorem dX5_charge_49 : decode cX5_charge 49 = .ok (.getfield 52, 3) := by decide +kernel
theorem dX5_charge_52 : decode cX5_charge 52 = .ok (.invokevirtual 101, 3) := by decide +kernel
theorem dX5_charge_55 : decode cX5_charge 55 = .ok (.ifCond .le 5, 3) := by decide +kernel
theorem dX5_charge_58 : decode cX5_charge 58 = .ok (.iconst (-1), 1) := by decide +kernel
theorem dX5_charge_59 : decode cX5_charge 59 = .ok (.ireturn, 1) := by decide +kernel
theorem dX5_charge_60 : decode cX5_charge 60 = .ok (.aload_n 0, 1) := by decide +kernel
theorem dX5_charge_61 : decode cX5_charge 61 = .ok (.getfield 61, 3) := by decide +kernel
theorem dX5_charge_64 : decode cX5_charge 64 = .ok (.iconst 0, 1) := by decide +kernel
theorem dX5_charge_65 : decode cX5_charge 65 = .ok (.aload_n 3, 1) := by decide +kernel
theorem dX5_charge_66 : decode cX5_charge 66 = .ok (.aload 4, 2) := by decide +kernel
theorem dX5_charge_68 : decode cX5_charge 68 = .ok (.iload_n 2, 1) := by decide +kernel
theorem dX5_charge_69 : decode cX5_charge 69 = .ok (.aload_n 0, 1) := by decide +kernel
theorem dX5_charge_70 : decode cX5_charge 70 = .ok (.getfield 52, 3) := by decide +kernel
theorem dX5_charge_73 : decode cX5_charge 73 = .ok (.invokevirtual 101, 3) := by decide +kernel
theorem dX5_charge_76 : decode cX5_charge 76 = .ok (.ireturn, 1) := by decide +kernel
theorem dX5_taxBy_0 : decode cX5_taxBy 0 = .ok (.iload_n 1, 1) := by decide +kernel
theorem dX5_taxBy_1 : decode cX5_taxBy 1 = .ok (.iconst (-1), 1) := by decide +kernel
theorem dX5_taxBy_2 : decode cX5_taxBy 2 = .ok (.if_icmp .ne 7, 3) := by decide +kernel
theorem dX5_taxBy_5 : decode cX5_taxBy 5 = .ok (.iconst 0, 1) := by decide +kernel
theorem dX5_taxBy_6 : decode cX5_taxBy 6 = .ok (.goto 6, 3) := by decide +kernel
theorem dX5_taxBy_9 : decode cX5_taxBy 9 = .ok (.iload_n 0, 1) := by decide +kernel
theorem dX5_taxBy_10 : decode cX5_taxBy 10 = .ok (.iload_n 1, 1) := by decide +kernel
theorem dX5_taxBy_11 : decode cX5_taxBy 11 = .ok (.iadd, 1) := by decide +kernel
theorem dX5_taxBy_12 : decode cX5_taxBy 12 = .ok (.ireturn, 1) := by decide +kernel
theorem dX5_taxOf_0 : decode cX5_taxOf 0 = .ok (.aload_n 0, 1) := by decide +kernel
theorem dX5_taxOf_1 : decode cX5_taxOf 1 = .ok (.getfield 19, 3) := by decide +kernel
theorem dX5_taxOf_4 : decode cX5_taxOf 4 = .ok (.iload_n 1, 1) := by decide +kernel
theorem dX5_taxOf_5 : decode cX5_taxOf 5 = .ok (.aaload, 1) := by decide +kernel
theorem dX5_taxOf_6 : decode cX5_taxOf 6 = .ok (.astore_n 2, 1) := by decide +kernel
theorem dX5_taxOf_7 : decode cX5_taxOf 7 = .ok (.aload_n 2, 1) := by decide +kernel
theorem dX5_taxOf_8 : decode cX5_taxOf 8 = .ok (.getfield 80, 3) := by decide +kernel
theorem dX5_taxOf_11 : decode cX5_taxOf 11 = .ok (.iconst 1, 1) := by decide +kernel
theorem dX5_taxOf_12 : decode cX5_taxOf 12 = .ok (.if_icmp .ne 7, 3) := by decide +kernel
theorem dX5_taxOf_15 : decode cX5_taxOf 15 = .ok (.iconst 0, 1) := by decide +kernel
theorem dX5_taxOf_16 : decode cX5_taxOf 16 = .ok (.goto 23, 3) := by decide +kernel
theorem dX5_taxOf_19 : decode cX5_taxOf 19 = .ok (.aload_n 0, 1) := by decide +kernel
theorem dX5_taxOf_20 : decode cX5_taxOf 20 = .ok (.getfield 40, 3) := by decide +kernel
theorem dX5_taxOf_23 : decode cX5_taxOf 23 = .ok (.aload_n 0, 1) := by decide +kernel
theorem dX5_taxOf_24 : decode cX5_taxOf 24 = .ok (.iload_n 1, 1) := by decide +kernel
theorem dX5_taxOf_25 : decode cX5_taxOf 25 = .ok (.aload_n 0, 1) := by decide +kernel
theorem dX5_taxOf_26 : decode cX5_taxOf 26 = .ok (.aload_n 2, 1) := by decide +kernel
theorem dX5_taxOf_27 : decode cX5_taxOf 27 = .ok (.getfield 77, 3) := by decide +kernel
theorem dX5_taxOf_30 : decode cX5_taxOf 30 = .ok (.invokevirtual 105, 3) := by decide +kernel
theorem dX5_taxOf_33 : decode cX5_taxOf 33 = .ok (.invokevirtual 108, 3) := by decide +kernel
theorem dX5_taxOf_36 : decode cX5_taxOf 36 = .ok (.invokestatic 112, 3) := by decide +kernel
theorem dX5_taxOf_39 : decode cX5_taxOf 39 = .ok (.ireturn, 1) := by decide +kernel
theorem dX5_foundBy_0 : decode cX5_foundBy 0 = .ok (.aload_n 0, 1) := by decide +kernel
theorem dX5_foundBy_1 : decode cX5_foundBy 1 = .ok (.getfield 61, 3) := by decide +kernel
theorem dX5_foundBy_4 : decode cX5_foundBy 4 = .ok (.ifnonnull 6, 3) := by decide +kernel
theorem dX5_foundBy_7 : decode cX5_foundBy 7 = .ok (.bipush 30, 2) := by decide +kernel
theorem dX5_foundBy_9 : decode cX5_foundBy 9 = .ok (.ireturn, 1) := by decide +kernel
theorem dX5_foundBy_10 : decode cX5_foundBy 10 = .ok (.aload_n 0, 1) := by decide +kernel
theorem dX5_foundBy_11 : decode cX5_foundBy 11 = .ok (.getfield 19, 3) := by decide +kernel
theorem dX5_foundBy_14 : decode cX5_foundBy 14 = .ok (.iload_n 1, 1) := by decide +kernel
theorem dX5_foundBy_15 : decode cX5_foundBy 15 = .ok (.aaload, 1) := by decide +kernel
theorem dX5_foundBy_16 : decode cX5_foundBy 16 = .ok (.astore_n 2, 1) := by decide +kernel
theorem dX5_foundBy_17 : decode cX5_foundBy 17 = .ok (.aload_n 0, 1) := by decide +kernel
theorem dX5_foundBy_18 : decode cX5_foundBy 18 = .ok (.getfield 61, 3) := by decide +kernel
theorem dX5_foundBy_21 : decode cX5_foundBy 21 = .ok (.iconst 2, 1) := by decide +kernel
theorem dX5_foundBy_22 : decode cX5_foundBy 22 = .ok (.aload_n 2, 1) := by decide +kernel
theorem dX5_foundBy_23 : decode cX5_foundBy 23 = .ok (.aload_n 0, 1) := by decide +kernel
theorem dX5_foundBy_24 : decode cX5_foundBy 24 = .ok (.getfield 11, 3) := by decide +kernel
theorem dX5_foundBy_27 : decode cX5_foundBy 27 = .ok (.aload_n 2, 1) := by decide +kernel
theorem dX5_foundBy_28 : decode cX5_foundBy 28 = .ok (.getfield 77, 3) := by decide +kernel
theorem dX5_foundBy_31 : decode cX5_foundBy 31 = .ok (.aaload, 1) := by decide +kernel
theorem dX5_foundBy_32 : decode cX5_foundBy 32 = .ok (.aload_n 0, 1) := by decide +kernel
theorem dX5_foundBy_33 : decode cX5_foundBy 33 = .ok (.aload_n 2, 1) := by decide +kernel
theorem dX5_foundBy_34 : decode cX5_foundBy 34 = .ok (.getfield 77, 3) := by decide +kernel
theorem dX5_foundBy_37 : decode cX5_foundBy 37 = .ok (.invokevirtual 105, 3) := by decide +kernel
theorem dX5_foundBy_40 : decode cX5_foundBy 40 = .ok (.aload_n 0, 1) := by decide +kernel
theorem dX5_foundBy_41 : decode cX5_foundBy 41 = .ok (.getfield 52, 3) := by decide +kernel
theorem dX5_foundBy_44 : decode cX5_foundBy 44 = .ok (.invokevirtual 101, 3) := by decide +kernel
theorem dX5_foundBy_47 : decode cX5_foundBy 47 = .ok (.istore_n 3, 1) := by decide +kernel
theorem dX5_foundBy_48 : decode cX5_foundBy 48 = .ok (.bipush 100, 2) := by decide +kernel
theorem dX5_foundBy_50 : decode cX5_foundBy 50 = .ok (.iload_n 3, 1) := by decide +kernel
theorem dX5_foundBy_51 : decode cX5_foundBy 51 = .ok (.invokestatic 115, 3) := by decide +kernel
theorem dX5_foundBy_54 : decode cX5_foundBy 54 = .ok (.ireturn, 1) := by decide +kernel
theorem dX5_paysOf_0 : decode cX5_paysOf 0 = .ok (.aload_n 0, 1) := by decide +kernel
theorem dX5_paysOf_1 : decode cX5_paysOf 1 = .ok (.iload_n 1, 1) := by decide +kernel
theorem dX5_paysOf_2 : decode cX5_paysOf 2 = .ok (.invokevirtual 105, 3) := by decide +kernel
theorem dX5_paysOf_5 : decode cX5_paysOf 5 = .ok (.istore_n 2, 1) := by decide +kernel
theorem dX5_paysOf_6 : decode cX5_paysOf 6 = .ok (.iconst 0, 1) := by decide +kernel
theorem dX5_paysOf_7 : decode cX5_paysOf 7 = .ok (.istore_n 3, 1) := by decide +kernel
theorem dX5_paysOf_8 : decode cX5_paysOf 8 = .ok (.iconst 0, 1) := by decide +kernel
theorem dX5_paysOf_9 : decode cX5_paysOf 9 = .ok (.istore 4, 2) := by decide +kernel
theorem dX5_paysOf_11 : decode cX5_paysOf 11 = .ok (.iload 4, 2) := by decide +kernel
theorem dX5_paysOf_13 : decode cX5_paysOf 13 = .ok (.aload_n 0, 1) := by decide +kernel
theorem dX5_paysOf_14 : decode cX5_paysOf 14 = .ok (.getfield 34, 3) := by decide +kernel
theorem dX5_paysOf_17 : decode cX5_paysOf 17 = .ok (.if_icmp .ge 53, 3) := by decide +kernel
theorem dX5_paysOf_20 : decode cX5_paysOf 20 = .ok (.aload_n 0, 1) := by decide +kernel
theorem dX5_paysOf_21 : decode cX5_paysOf 21 = .ok (.getfield 19, 3) := by decide +kernel
theorem dX5_paysOf_24 : decode cX5_paysOf 24 = .ok (.iload 4, 2) := by decide +kernel
theorem dX5_paysOf_26 : decode cX5_paysOf 26 = .ok (.aaload, 1) := by decide +kernel
theorem dX5_paysOf_27 : decode cX5_paysOf 27 = .ok (.getfield 77, 3) := by decide +kernel
theorem dX5_paysOf_30 : decode cX5_paysOf 30 = .ok (.iload_n 1, 1) := by decide +kernel
theorem dX5_paysOf_31 : decode cX5_paysOf 31 = .ok (.if_icmp .ne 33, 3) := by decide +kernel
theorem dX5_paysOf_34 : decode cX5_paysOf 34 = .ok (.aload_n 0, 1) := by decide +kernel
theorem dX5_paysOf_35 : decode cX5_paysOf 35 = .ok (.getfield 19, 3) := by decide +kernel
theorem dX5_paysOf_38 : decode cX5_paysOf 38 = .ok (.iload 4, 2) := by decide +kernel
theorem dX5_paysOf_40 : decode cX5_paysOf 40 = .ok (.aaload, 1) := by decide +kernel
theorem dX5_paysOf_41 : decode cX5_paysOf 41 = .ok (.getfield 80, 3) := by decide +kernel
theorem dX5_paysOf_44 : decode cX5_paysOf 44 = .ok (.ifCond .ne 20, 3) := by decide +kernel
theorem dX5_paysOf_47 : decode cX5_paysOf 47 = .ok (.iload_n 3, 1) := by decide +kernel
theorem dX5_paysOf_48 : decode cX5_paysOf 48 = .ok (.aload_n 0, 1) := by decide +kernel
theorem dX5_paysOf_49 : decode cX5_paysOf 49 = .ok (.getfield 40, 3) := by decide +kernel
theorem dX5_paysOf_52 : decode cX5_paysOf 52 = .ok (.aload_n 0, 1) := by decide +kernel
theorem dX5_paysOf_53 : decode cX5_paysOf 53 = .ok (.iload 4, 2) := by decide +kernel
theorem dX5_paysOf_55 : decode cX5_paysOf 55 = .ok (.iload_n 2, 1) := by decide +kernel
theorem dX5_paysOf_56 : decode cX5_paysOf 56 = .ok (.invokevirtual 108, 3) := by decide +kernel
theorem dX5_paysOf_59 : decode cX5_paysOf 59 = .ok (.invokestatic 112, 3) := by decide +kernel
theorem dX5_paysOf_62 : decode cX5_paysOf 62 = .ok (.iadd, 1) := by decide +kernel
theorem dX5_paysOf_63 : decode cX5_paysOf 63 = .ok (.istore_n 3, 1) := by decide +kernel
theorem dX5_paysOf_64 : decode cX5_paysOf 64 = .ok (.iinc 4 1, 3) := by decide +kernel
theorem dX5_paysOf_67 : decode cX5_paysOf 67 = .ok (.goto (-56), 3) := by decide +kernel
theorem dX5_paysOf_70 : decode cX5_paysOf 70 = .ok (.iload_n 3, 1) := by decide +kernel
theorem dX5_paysOf_71 : decode cX5_paysOf 71 = .ok (.ireturn, 1) := by decide +kernel
theorem dX5_hopesOf_0 : decode cX5_hopesOf 0 = .ok (.iconst 0, 1) := by decide +kernel
theorem dX5_hopesOf_1 : decode cX5_hopesOf 1 = .ok (.istore_n 2, 1) := by decide +kernel
theorem dX5_hopesOf_2 : decode cX5_hopesOf 2 = .ok (.iconst 0, 1) := by decide +kernel
theorem dX5_hopesOf_3 : decode cX5_hopesOf 3 = .ok (.istore_n 3, 1) := by decide +kernel
theorem dX5_hopesOf_4 : decode cX5_hopesOf 4 = .ok (.iload_n 3, 1) := by decide +kernel
theorem dX5_hopesOf_5 : decode cX5_hopesOf 5 = .ok (.aload_n 0, 1) := by decide +kernel
theorem dX5_hopesOf_6 : decode cX5_hopesOf 6 = .ok (.getfield 34, 3) := by decide +kernel
theorem dX5_hopesOf_9 : decode cX5_hopesOf 9 = .ok (.if_icmp .ge 54, 3) := by decide +kernel
theorem dX5_hopesOf_12 : decode cX5_hopesOf 12 = .ok (.aload_n 0, 1) := by decide +kernel
theorem dX5_hopesOf_13 : decode cX5_hopesOf 13 = .ok (.getfield 19, 3) := by decide +kernel
theorem dX5_hopesOf_16 : decode cX5_hopesOf 16 = .ok (.iload_n 3, 1) := by decide +kernel
theorem dX5_hopesOf_17 : decode cX5_hopesOf 17 = .ok (.aaload, 1) := by decide +kernel
theorem dX5_hopesOf_18 : decode cX5_hopesOf 18 = .ok (.getfield 77, 3) := by decide +kernel
theorem dX5_hopesOf_21 : decode cX5_hopesOf 21 = .ok (.iload_n 1, 1) := by decide +kernel
theorem dX5_hopesOf_22 : decode cX5_hopesOf 22 = .ok (.if_icmp .ne 35, 3) := by decide +kernel
theorem dX5_hopesOf_25 : decode cX5_hopesOf 25 = .ok (.aload_n 0, 1) := by decide +kernel
theorem dX5_hopesOf_26 : decode cX5_hopesOf 26 = .ok (.getfield 19, 3) := by decide +kernel
theorem dX5_hopesOf_29 : decode cX5_hopesOf 29 = .ok (.iload_n 3, 1) := by decide +kernel
theorem dX5_hopesOf_30 : decode cX5_hopesOf 30 = .ok (.aaload, 1) := by decide +kernel
theorem dX5_hopesOf_31 : decode cX5_hopesOf 31 = .ok (.getfield 80, 3) := by decide +kernel
theorem dX5_hopesOf_34 : decode cX5_hopesOf 34 = .ok (.iconst 2, 1) := by decide +kernel
theorem dX5_hopesOf_35 : decode cX5_hopesOf 35 = .ok (.if_icmp .ne 22, 3) := by decide +kernel
theorem dX5_hopesOf_38 : decode cX5_hopesOf 38 = .ok (.iload_n 2, 1) := by decide +kernel
theorem dX5_hopesOf_39 : decode cX5_hopesOf 39 = .ok (.aload_n 0, 1) := by decide +kernel
theorem dX5_hopesOf_40 : decode cX5_hopesOf 40 = .ok (.iload_n 3, 1) := by decide +kernel
theorem dX5_hopesOf_41 : decode cX5_hopesOf 41 = .ok (.invokevirtual 120, 3) := by decide +kernel
theorem dX5_hopesOf_44 : decode cX5_hopesOf 44 = .ok (.aload_n 0, 1) := by decide +kernel
theorem dX5_hopesOf_45 : decode cX5_hopesOf 45 = .ok (.iload_n 3, 1) := by decide +kernel
theorem dX5_hopesOf_46 : decode cX5_hopesOf 46 = .ok (.invokevirtual 123, 3) := by decide +kernel
theorem dX5_hopesOf_49 : decode cX5_hopesOf 49 = .ok (.aload_n 0, 1) := by decide +kernel
theorem dX5_hopesOf_50 : decode cX5_hopesOf 50 = .ok (.getfield 43, 3) := by decide +kernel
theorem dX5_hopesOf_53 : decode cX5_hopesOf 53 = .ok (.iadd, 1) := by decide +kernel
theorem dX5_hopesOf_54 : decode cX5_hopesOf 54 = .ok (.imul, 1) := by decide +kernel
theorem dX5_hopesOf_55 : decode cX5_hopesOf 55 = .ok (.iadd, 1) := by decide +kernel
theorem dX5_hopesOf_56 : decode cX5_hopesOf 56 = .ok (.istore_n 2, 1) := by decide +kernel
theorem dX5_hopesOf_57 : decode cX5_hopesOf 57 = .ok (.iinc 3 1, 3) := by decide +kernel
theorem dX5_hopesOf_60 : decode cX5_hopesOf 60 = .ok (.goto (-56), 3) := by decide +kernel
theorem dX5_hopesOf_63 : decode cX5_hopesOf 63 = .ok (.iload_n 2, 1) := by decide +kernel
theorem dX5_hopesOf_64 : decode cX5_hopesOf 64 = .ok (.bipush 100, 2) := by decide +kernel
theorem dX5_hopesOf_66 : decode cX5_hopesOf 66 = .ok (.idiv, 1) := by decide +kernel
theorem dX5_hopesOf_67 : decode cX5_hopesOf 67 = .ok (.ireturn, 1) := by decide +kernel
theorem dX5_hopesOfSet_0 : decode cX5_hopesOfSet 0 = .ok (.iconst 0, 1) := by decide +kernel
theorem dX5_hopesOfSet_1 : decode cX5_hopesOfSet 1 = .ok (.istore_n 2, 1) := by decide +kernel
theorem dX5_hopesOfSet_2 : decode cX5_hopesOfSet 2 = .ok (.iconst 0, 1) := by decide +kernel
theorem dX5_hopesOfSet_3 : decode cX5_hopesOfSet 3 = .ok (.istore_n 3, 1) := by decide +kernel
theorem dX5_hopesOfSet_4 : decode cX5_hopesOfSet 4 = .ok (.iload_n 3, 1) := by decide +kernel
theorem dX5_hopesOfSet_5 : decode cX5_hopesOfSet 5 = .ok (.aload_n 0, 1) := by decide +kernel
theorem dX5_hopesOfSet_6 : decode cX5_hopesOfSet 6 = .ok (.getfield 30, 3) := by decide +kernel
theorem dX5_hopesOfSet_9 : decode cX5_hopesOfSet 9 = .ok (.if_icmp .ge 26, 3) := by decide +kernel
theorem dX5_hopesOfSet_12 : decode cX5_hopesOfSet 12 = .ok (.iload_n 1, 1) := by decide +kernel
theorem dX5_hopesOfSet_13 : decode cX5_hopesOfSet 13 = .ok (.iload_n 3, 1) := by decide +kernel
theorem dX5_hopesOfSet_14 : decode cX5_hopesOfSet 14 = .ok (.ishr, 1) := by decide +kernel
theorem dX5_hopesOfSet_15 : decode cX5_hopesOfSet 15 = .ok (.iconst 1, 1) := by decide +kernel
theorem dX5_hopesOfSet_16 : decode cX5_hopesOfSet 16 = .ok (.iand, 1) := by decide +kernel
theorem dX5_hopesOfSet_17 : decode cX5_hopesOfSet 17 = .ok (.iconst 1, 1) := by decide +kernel
theorem dX5_hopesOfSet_18 : decode cX5_hopesOfSet 18 = .ok (.if_icmp .ne 11, 3) := by decide +kernel
theorem dX5_hopesOfSet_21 : decode cX5_hopesOfSet 21 = .ok (.iload_n 2, 1) := by decide +kernel
theorem dX5_hopesOfSet_22 : decode cX5_hopesOfSet 22 = .ok (.aload_n 0, 1) := by decide +kernel
theorem dX5_hopesOfSet_23 : decode cX5_hopesOfSet 23 = .ok (.iload_n 3, 1) := by decide +kernel
theorem dX5_hopesOfSet_24 : decode cX5_hopesOfSet 24 = .ok (.invokevirtual 126, 3) := by decide +kernel
theorem dX5_hopesOfSet_27 : decode cX5_hopesOfSet 27 = .ok (.iadd, 1) := by decide +kernel
theorem dX5_hopesOfSet_28 : decode cX5_hopesOfSet 28 = .ok (.istore_n 2, 1) := by decide +kernel
theorem dX5_hopesOfSet_29 : decode cX5_hopesOfSet 29 = .ok (.iinc 3 1, 3) := by decide +kernel
theorem dX5_hopesOfSet_32 : decode cX5_hopesOfSet 32 = .ok (.goto (-28), 3) := by decide +kernel
theorem dX5_hopesOfSet_35 : decode cX5_hopesOfSet 35 = .ok (.iload_n 2, 1) := by decide +kernel
theorem dX5_hopesOfSet_36 : decode cX5_hopesOfSet 36 = .ok (.ireturn, 1) := by decide +kernel
theorem dX5_warmthOf_0 : decode cX5_warmthOf 0 = .ok (.iconst 0, 1) := by decide +kernel
theorem dX5_warmthOf_1 : decode cX5_warmthOf 1 = .ok (.istore_n 2, 1) := by decide +kernel
theorem dX5_warmthOf_2 : decode cX5_warmthOf 2 = .ok (.iconst 0, 1) := by decide +kernel
theorem dX5_warmthOf_3 : decode cX5_warmthOf 3 = .ok (.istore_n 3, 1) := by decide +kernel
theorem dX5_warmthOf_4 : decode cX5_warmthOf 4 = .ok (.iload_n 3, 1) := by decide +kernel
theorem dX5_warmthOf_5 : decode cX5_warmthOf 5 = .ok (.aload_n 0, 1) := by decide +kernel
theorem dX5_warmthOf_6 : decode cX5_warmthOf 6 = .ok (.getfield 34, 3) := by decide +kernel
theorem dX5_warmthOf_9 : decode cX5_warmthOf 9 = .ok (.if_icmp .ge 47, 3) := by decide +kernel
theorem dX5_warmthOf_12 : decode cX5_warmthOf 12 = .ok (.aload_n 0, 1) := by decide +kernel
theorem dX5_warmthOf_13 : decode cX5_warmthOf 13 = .ok (.getfield 19, 3) := by decide +kernel
theorem dX5_warmthOf_16 : decode cX5_warmthOf 16 = .ok (.iload_n 3, 1) := by decide +kernel
theorem dX5_warmthOf_17 : decode cX5_warmthOf 17 = .ok (.aaload, 1) := by decide +kernel
theorem dX5_warmthOf_18 : decode cX5_warmthOf 18 = .ok (.getfield 77, 3) := by decide +kernel
theorem dX5_warmthOf_21 : decode cX5_warmthOf 21 = .ok (.iload_n 1, 1) := by decide +kernel
theorem dX5_warmthOf_22 : decode cX5_warmthOf 22 = .ok (.if_icmp .ne 28, 3) := by decide +kernel
theorem dX5_warmthOf_25 : decode cX5_warmthOf 25 = .ok (.aload_n 0, 1) := by decide +kernel
theorem dX5_warmthOf_26 : decode cX5_warmthOf 26 = .ok (.getfield 19, 3) := by decide +kernel
theorem dX5_warmthOf_29 : decode cX5_warmthOf 29 = .ok (.iload_n 3, 1) := by decide +kernel
theorem dX5_warmthOf_30 : decode cX5_warmthOf 30 = .ok (.aaload, 1) := by decide +kernel
theorem dX5_warmthOf_31 : decode cX5_warmthOf 31 = .ok (.getfield 80, 3) := by decide +kernel
theorem dX5_warmthOf_34 : decode cX5_warmthOf 34 = .ok (.iconst 1, 1) := by decide +kernel
theorem dX5_warmthOf_35 : decode cX5_warmthOf 35 = .ok (.if_icmp .eq 15, 3) := by decide +kernel
theorem dX5_warmthOf_38 : decode cX5_warmthOf 38 = .ok (.iload_n 2, 1) := by decide +kernel
theorem dX5_warmthOf_39 : decode cX5_warmthOf 39 = .ok (.aload_n 0, 1) := by decide +kernel
theorem dX5_warmthOf_40 : decode cX5_warmthOf 40 = .ok (.getfield 19, 3) := by decide +kernel
theorem dX5_warmthOf_43 : decode cX5_warmthOf 43 = .ok (.iload_n 3, 1) := by decide +kernel
theorem dX5_warmthOf_44 : decode cX5_warmthOf 44 = .ok (.aaload, 1) := by decide +kernel
theorem dX5_warmthOf_45 : decode cX5_warmthOf 45 = .ok (.getfield 129, 3) := by decide +kernel
theorem dX5_warmthOf_48 : decode cX5_warmthOf 48 = .ok (.iadd, 1) := by decide +kernel
theorem dX5_warmthOf_49 : decode cX5_warmthOf 49 = .ok (.istore_n 2, 1) := by decide +kernel
theorem dX5_warmthOf_50 : decode cX5_warmthOf 50 = .ok (.iinc 3 1, 3) := by decide +kernel
theorem dX5_warmthOf_53 : decode cX5_warmthOf 53 = .ok (.goto (-49), 3) := by decide +kernel
theorem dX5_warmthOf_56 : decode cX5_warmthOf 56 = .ok (.iload_n 2, 1) := by decide +kernel
theorem dX5_warmthOf_57 : decode cX5_warmthOf 57 = .ok (.ireturn, 1) := by decide +kernel
theorem dX5_smokeOf_0 : decode cX5_smokeOf 0 = .ok (.iconst 0, 1) := by decide +kernel
theorem dX5_smokeOf_1 : decode cX5_smokeOf 1 = .ok (.istore_n 2, 1) := by decide +kernel
theorem dX5_smokeOf_2 : decode cX5_smokeOf 2 = .ok (.iconst 0, 1) := by decide +kernel
theorem dX5_smokeOf_3 : decode cX5_smokeOf 3 = .ok (.istore_n 3, 1) := by decide +kernel
theorem dX5_smokeOf_4 : decode cX5_smokeOf 4 = .ok (.iload_n 3, 1) := by decide +kernel
theorem dX5_smokeOf_5 : decode cX5_smokeOf 5 = .ok (.aload_n 0, 1) := by decide +kernel
theorem dX5_smokeOf_6 : decode cX5_smokeOf 6 = .ok (.getfield 34, 3) := by decide +kernel
theorem dX5_smokeOf_9 : decode cX5_smokeOf 9 = .ok (.if_icmp .ge 49, 3) := by decide +kernel
theorem dX5_smokeOf_12 : decode cX5_smokeOf 12 = .ok (.aload_n 0, 1) := by decide +kernel
theorem dX5_smokeOf_13 : decode cX5_smokeOf 13 = .ok (.getfield 19, 3) := by decide +kernel
theorem dX5_smokeOf_16 : decode cX5_smokeOf 16 = .ok (.iload_n 3, 1) := by decide +kernel
theorem dX5_smokeOf_17 : decode cX5_smokeOf 17 = .ok (.aaload, 1) := by decide +kernel
theorem dX5_smokeOf_18 : decode cX5_smokeOf 18 = .ok (.getfield 77, 3) := by decide +kernel
theorem dX5_smokeOf_21 : decode cX5_smokeOf 21 = .ok (.iload_n 1, 1) := by decide +kernel
theorem dX5_smokeOf_22 : decode cX5_smokeOf 22 = .ok (.if_icmp .ne 30, 3) := by decide +kernel
theorem dX5_smokeOf_25 : decode cX5_smokeOf 25 = .ok (.aload_n 0, 1) := by decide +kernel
theorem dX5_smokeOf_26 : decode cX5_smokeOf 26 = .ok (.getfield 19, 3) := by decide +kernel
theorem dX5_smokeOf_29 : decode cX5_smokeOf 29 = .ok (.iload_n 3, 1) := by decide +kernel
theorem dX5_smokeOf_30 : decode cX5_smokeOf 30 = .ok (.aaload, 1) := by decide +kernel
theorem dX5_smokeOf_31 : decode cX5_smokeOf 31 = .ok (.getfield 80, 3) := by decide +kernel
theorem dX5_smokeOf_34 : decode cX5_smokeOf 34 = .ok (.iconst 1, 1) := by decide +kernel
theorem dX5_smokeOf_35 : decode cX5_smokeOf 35 = .ok (.if_icmp .eq 17, 3) := by decide +kernel
theorem dX5_smokeOf_38 : decode cX5_smokeOf 38 = .ok (.iload_n 2, 1) := by decide +kernel
theorem dX5_smokeOf_39 : decode cX5_smokeOf 39 = .ok (.iconst 1, 1) := by decide +kernel
theorem dX5_smokeOf_40 : decode cX5_smokeOf 40 = .ok (.aload_n 0, 1) := by decide +kernel
theorem dX5_smokeOf_41 : decode cX5_smokeOf 41 = .ok (.getfield 19, 3) := by decide +kernel
theorem dX5_smokeOf_44 : decode cX5_smokeOf 44 = .ok (.iload_n 3, 1) := by decide +kernel
theorem dX5_smokeOf_45 : decode cX5_smokeOf 45 = .ok (.aaload, 1) := by decide +kernel
theorem dX5_smokeOf_46 : decode cX5_smokeOf 46 = .ok (.getfield 132, 3) := by decide +kernel
theorem dX5_smokeOf_49 : decode cX5_smokeOf 49 = .ok (.ishl, 1) := by decide +kernel
theorem dX5_smokeOf_50 : decode cX5_smokeOf 50 = .ok (.ior, 1) := by decide +kernel
theorem dX5_smokeOf_51 : decode cX5_smokeOf 51 = .ok (.istore_n 2, 1) := by decide +kernel
theorem dX5_smokeOf_52 : decode cX5_smokeOf 52 = .ok (.iinc 3 1, 3) := by decide +kernel
theorem dX5_smokeOf_55 : decode cX5_smokeOf 55 = .ok (.goto (-51), 3) := by decide +kernel
theorem dX5_smokeOf_58 : decode cX5_smokeOf 58 = .ok (.iload_n 2, 1) := by decide +kernel
theorem dX5_smokeOf_59 : decode cX5_smokeOf 59 = .ok (.ireturn, 1) := by decide +kernel
theorem dX5_shareOf_0 : decode cX5_shareOf 0 = .ok (.iconst 0, 1) := by decide +kernel
theorem dX5_shareOf_1 : decode cX5_shareOf 1 = .ok (.istore_n 2, 1) := by decide +kernel
theorem dX5_shareOf_2 : decode cX5_shareOf 2 = .ok (.iconst 0, 1) := by decide +kernel
theorem dX5_shareOf_3 : decode cX5_shareOf 3 = .ok (.istore_n 3, 1) := by decide +kernel
theorem dX5_shareOf_4 : decode cX5_shareOf 4 = .ok (.iload_n 3, 1) := by decide +kernel
theorem dX5_shareOf_5 : decode cX5_shareOf 5 = .ok (.aload_n 0, 1) := by decide +kernel
theorem dX5_shareOf_6 : decode cX5_shareOf 6 = .ok (.getfield 30, 3) := by decide +kernel
theorem dX5_shareOf_9 : decode cX5_shareOf 9 = .ok (.if_icmp .ge 17, 3) := by decide +kernel
theorem dX5_shareOf_12 : decode cX5_shareOf 12 = .ok (.iload_n 2, 1) := by decide +kernel
theorem dX5_shareOf_13 : decode cX5_shareOf 13 = .ok (.aload_n 0, 1) := by decide +kernel
theorem dX5_shareOf_14 : decode cX5_shareOf 14 = .ok (.iload_n 3, 1) := by decide +kernel
theorem dX5_shareOf_15 : decode cX5_shareOf 15 = .ok (.invokevirtual 135, 3) := by decide +kernel
theorem dX5_shareOf_18 : decode cX5_shareOf 18 = .ok (.iadd, 1) := by decide +kernel
theorem dX5_shareOf_19 : decode cX5_shareOf 19 = .ok (.istore_n 2, 1) := by decide +kernel
theorem dX5_shareOf_20 : decode cX5_shareOf 20 = .ok (.iinc 3 1, 3) := by decide +kernel
theorem dX5_shareOf_23 : decode cX5_shareOf 23 = .ok (.goto (-19), 3) := by decide +kernel
theorem dX5_shareOf_26 : decode cX5_shareOf 26 = .ok (.iload_n 2, 1) := by decide +kernel
theorem dX5_shareOf_27 : decode cX5_shareOf 27 = .ok (.ifCond .ne 7, 3) := by decide +kernel
theorem dX5_shareOf_30 : decode cX5_shareOf 30 = .ok (.iconst 0, 1) := by decide +kernel
theorem dX5_shareOf_31 : decode cX5_shareOf 31 = .ok (.goto 13, 3) := by decide +kernel
theorem dX5_shareOf_34 : decode cX5_shareOf 34 = .ok (.aload_n 0, 1) := by decide +kernel
theorem dX5_shareOf_35 : decode cX5_shareOf 35 = .ok (.iload_n 1, 1) := by decide +kernel
theorem dX5_shareOf_36 : decode cX5_shareOf 36 = .ok (.invokevirtual 135, 3) := by decide +kernel
theorem dX5_shareOf_39 : decode cX5_shareOf 39 = .ok (.bipush 100, 2) := by decide +kernel
theorem dX5_shareOf_41 : decode cX5_shareOf 41 = .ok (.imul, 1) := by decide +kernel
theorem dX5_shareOf_42 : decode cX5_shareOf 42 = .ok (.iload_n 2, 1) := by decide +kernel
theorem dX5_shareOf_43 : decode cX5_shareOf 43 = .ok (.idiv, 1) := by decide +kernel
theorem dX5_shareOf_44 : decode cX5_shareOf 44 = .ok (.ireturn, 1) := by decide +kernel
theorem dX5_isSeenFrom_0 : decode cX5_isSeenFrom 0 = .ok (.iconst 0, 1) := by decide +kernel
theorem dX5_isSeenFrom_1 : decode cX5_isSeenFrom 1 = .ok (.istore_n 2, 1) := by decide +kernel
theorem dX5_isSeenFrom_2 : decode cX5_isSeenFrom 2 = .ok (.iload_n 2, 1) := by decide +kernel
theorem dX5_isSeenFrom_3 : decode cX5_isSeenFrom 3 = .ok (.aload_n 0, 1) := by decide +kernel
theorem dX5_isSeenFrom_4 : decode cX5_isSeenFrom 4 = .ok (.getfield 30, 3) := by decide +kernel
theorem dX5_isSeenFrom_7 : decode cX5_isSeenFrom 7 = .ok (.if_icmp .ge 33, 3) := by decide +kernel
theorem dX5_isSeenFrom_10 : decode cX5_isSeenFrom 10 = .ok (.aload_n 0, 1) := by decide +kernel
theorem dX5_isSeenFrom_11 : decode cX5_isSeenFrom 11 = .ok (.iload_n 2, 1) := by decide +kernel
theorem dX5_isSeenFrom_12 : decode cX5_isSeenFrom 12 = .ok (.invokevirtual 138, 3) := by decide +kernel
theorem dX5_isSeenFrom_15 : decode cX5_isSeenFrom 15 = .ok (.ifCond .eq 19, 3) := by decide +kernel
theorem dX5_isSeenFrom_18 : decode cX5_isSeenFrom 18 = .ok (.aload_n 0, 1) := by decide +kernel
theorem dX5_isSeenFrom_19 : decode cX5_isSeenFrom 19 = .ok (.getfield 11, 3) := by decide +kernel
theorem dX5_isSeenFrom_22 : decode cX5_isSeenFrom 22 = .ok (.iload_n 2, 1) := by decide +kernel
theorem dX5_isSeenFrom_23 : decode cX5_isSeenFrom 23 = .ok (.aaload, 1) := by decide +kernel
theorem dX5_isSeenFrom_24 : decode cX5_isSeenFrom 24 = .ok (.getfield 141, 3) := by decide +kernel
theorem dX5_isSeenFrom_27 : decode cX5_isSeenFrom 27 = .ok (.iload_n 1, 1) := by decide +kernel
theorem dX5_isSeenFrom_28 : decode cX5_isSeenFrom 28 = .ok (.iand, 1) := by decide +kernel
theorem dX5_isSeenFrom_29 : decode cX5_isSeenFrom 29 = .ok (.ifCond .ne 5, 3) := by decide +kernel
theorem dX5_isSeenFrom_32 : decode cX5_isSeenFrom 32 = .ok (.iconst 0, 1) := by decide +kernel
theorem dX5_isSeenFrom_33 : decode cX5_isSeenFrom 33 = .ok (.ireturn, 1) := by decide +kernel
theorem dX5_isSeenFrom_34 : decode cX5_isSeenFrom 34 = .ok (.iinc 2 1, 3) := by decide +kernel
theorem dX5_isSeenFrom_37 : decode cX5_isSeenFrom 37 = .ok (.goto (-35), 3) := by decide +kernel
theorem dX5_isSeenFrom_40 : decode cX5_isSeenFrom 40 = .ok (.iconst 1, 1) := by decide +kernel
theorem dX5_isSeenFrom_41 : decode cX5_isSeenFrom 41 = .ok (.ireturn, 1) := by decide +kernel
theorem dX5_sharing_0 : decode cX5_sharing 0 = .ok (.iconst 0, 1) := by decide +kernel
theorem dX5_sharing_1 : decode cX5_sharing 1 = .ok (.istore_n 3, 1) := by decide +kernel
theorem dX5_sharing_2 : decode cX5_sharing 2 = .ok (.iconst 0, 1) := by decide +kernel
theorem dX5_sharing_3 : decode cX5_sharing 3 = .ok (.istore 4, 2) := by decide +kernel
theorem dX5_sharing_5 : decode cX5_sharing 5 = .ok (.iload 4, 2) := by decide +kernel
theorem dX5_sharing_7 : decode cX5_sharing 7 = .ok (.aload_n 0, 1) := by decide +kernel
theorem dX5_sharing_8 : decode cX5_sharing 8 = .ok (.getfield 34, 3) := by decide +kernel
theorem dX5_sharing_11 : decode cX5_sharing 11 = .ok (.if_icmp .ge 40, 3) := by decide +kernel
theorem dX5_sharing_14 : decode cX5_sharing 14 = .ok (.aload_n 0, 1) := by decide +kernel
theorem dX5_sharing_15 : decode cX5_sharing 15 = .ok (.getfield 19, 3) := by decide +kernel
theorem dX5_sharing_18 : decode cX5_sharing 18 = .ok (.iload 4, 2) := by decide +kernel
theorem dX5_sharing_20 : decode cX5_sharing 20 = .ok (.aaload, 1) := by decide +kernel
theorem dX5_sharing_21 : decode cX5_sharing 21 = .ok (.getfield 77, 3) := by decide +kernel
theorem dX5_sharing_24 : decode cX5_sharing 24 = .ok (.iload_n 1, 1) := by decide +kernel
theorem dX5_sharing_25 : decode cX5_sharing 25 = .ok (.if_icmp .ne 20, 3) := by decide +kernel
theorem dX5_sharing_28 : decode cX5_sharing 28 = .ok (.aload_n 0, 1) := by decide +kernel
theorem dX5_sharing_29 : decode cX5_sharing 29 = .ok (.getfield 19, 3) := by decide +kernel
theorem dX5_sharing_32 : decode cX5_sharing 32 = .ok (.iload 4, 2) := by decide +kernel
theorem dX5_sharing_34 : decode cX5_sharing 34 = .ok (.aaload, 1) := by decide +kernel
theorem dX5_sharing_35 : decode cX5_sharing 35 = .ok (.getfield 132, 3) := by decide +kernel
theorem dX5_sharing_38 : decode cX5_sharing 38 = .ok (.iload_n 2, 1) := by decide +kernel
theorem dX5_sharing_39 : decode cX5_sharing 39 = .ok (.if_icmp .ne 6, 3) := by decide +kernel
theorem dX5_sharing_42 : decode cX5_sharing 42 = .ok (.iinc 3 1, 3) := by decide +kernel
theorem dX5_sharing_45 : decode cX5_sharing 45 = .ok (.iinc 4 1, 3) := by decide +kernel
theorem dX5_sharing_48 : decode cX5_sharing 48 = .ok (.goto (-43), 3) := by decide +kernel
theorem dX5_sharing_51 : decode cX5_sharing 51 = .ok (.iload_n 3, 1) := by decide +kernel
theorem dX5_sharing_52 : decode cX5_sharing 52 = .ok (.ireturn, 1) := by decide +kernel
theorem dX5_purses_0 : decode cX5_purses 0 = .ok (.iconst 0, 1) := by decide +kernel
theorem dX5_purses_1 : decode cX5_purses 1 = .ok (.istore_n 1, 1) := by decide +kernel
theorem dX5_purses_2 : decode cX5_purses 2 = .ok (.iconst 0, 1) := by decide +kernel
theorem dX5_purses_3 : decode cX5_purses 3 = .ok (.istore_n 2, 1) := by decide +kernel
theorem dX5_purses_4 : decode cX5_purses 4 = .ok (.iload_n 2, 1) := by decide +kernel
theorem dX5_purses_5 : decode cX5_purses 5 = .ok (.aload_n 0, 1) := by decide +kernel
theorem dX5_purses_6 : decode cX5_purses 6 = .ok (.getfield 30, 3) := by decide +kernel
theorem dX5_purses_9 : decode cX5_purses 9 = .ok (.if_icmp .ge 21, 3) := by decide +kernel
theorem dX5_purses_12 : decode cX5_purses 12 = .ok (.iload_n 1, 1) := by decide +kernel
theorem dX5_purses_13 : decode cX5_purses 13 = .ok (.aload_n 0, 1) := by decide +kernel
theorem dX5_purses_14 : decode cX5_purses 14 = .ok (.getfield 11, 3) := by decide +kernel
theorem dX5_purses_17 : decode cX5_purses 17 = .ok (.iload_n 2, 1) := by decide +kernel
theorem dX5_purses_18 : decode cX5_purses 18 = .ok (.aaload, 1) := by decide +kernel
theorem dX5_purses_19 : decode cX5_purses 19 = .ok (.getfield 144, 3) := by decide +kernel
theorem dX5_purses_22 : decode cX5_purses 22 = .ok (.iadd, 1) := by decide +kernel
theorem dX5_purses_23 : decode cX5_purses 23 = .ok (.istore_n 1, 1) := by decide +kernel
theorem dX5_purses_24 : decode cX5_purses 24 = .ok (.iinc 2 1, 3) := by decide +kernel
theorem dX5_purses_27 : decode cX5_purses 27 = .ok (.goto (-23), 3) := by decide +kernel
theorem dX5_purses_30 : decode cX5_purses 30 = .ok (.iload_n 1, 1) := by decide +kernel
theorem dX5_purses_31 : decode cX5_purses 31 = .ok (.ireturn, 1) := by decide +kernel
theorem dX5_passQuarter_0 : decode cX5_passQuarter 0 = .ok (.iconst 0, 1) := by decide +kernel
theorem dX5_passQuarter_1 : decode cX5_passQuarter 1 = .ok (.istore_n 2, 1) := by decide +kernel
theorem dX5_passQuarter_2 : decode cX5_passQuarter 2 = .ok (.iconst 0, 1) := by decide +kernel
theorem dX5_passQuarter_3 : decode cX5_passQuarter 3 = .ok (.istore_n 3, 1) := by decide +kernel
theorem dX5_passQuarter_4 : decode cX5_passQuarter 4 = .ok (.iload_n 3, 1) := by decide +kernel
theorem dX5_passQuarter_5 : decode cX5_passQuarter 5 = .ok (.aload_n 0, 1) := by decide +kernel
theorem dX5_passQuarter_6 : decode cX5_passQuarter 6 = .ok (.getfield 30, 3) := by decide +kernel
theorem dX5_passQuarter_9 : decode cX5_passQuarter 9 = .ok (.if_icmp .ge 93, 3) := by decide +kernel
theorem dX5_passQuarter_12 : decode cX5_passQuarter 12 = .ok (.aload_n 0, 1) := by decide +kernel
theorem dX5_passQuarter_13 : decode cX5_passQuarter 13 = .ok (.getfield 11, 3) := by decide +kernel
theorem dX5_passQuarter_16 : decode cX5_passQuarter 16 = .ok (.iload_n 3, 1) := by decide +kernel
theorem dX5_passQuarter_17 : decode cX5_passQuarter 17 = .ok (.aaload, 1) := by decide +kernel
theorem dX5_passQuarter_18 : decode cX5_passQuarter 18 = .ok (.astore 4, 2) := by decide +kernel
theorem dX5_passQuarter_20 : decode cX5_passQuarter 20 = .ok (.iload_n 1, 1) := by decide +kernel
theorem dX5_passQuarter_21 : decode cX5_passQuarter 21 = .ok (.ifCond .eq 20, 3) := by decide +kernel
theorem dX5_passQuarter_24 : decode cX5_passQuarter 24 = .ok (.aload_n 0, 1) := by decide +kernel
theorem dX5_passQuarter_25 : decode cX5_passQuarter 25 = .ok (.aload 4, 2) := by decide +kernel
theorem dX5_passQuarter_27 : decode cX5_passQuarter 27 = .ok (.invokevirtual 147, 3) := by decide +kernel
theorem dX5_passQuarter_30 : decode cX5_passQuarter 30 = .ok (.ifCond .eq 11, 3) := by decide +kernel
theorem dX5_passQuarter_33 : decode cX5_passQuarter 33 = .ok (.aload_n 0, 1) := by decide +kernel
theorem dX5_passQuarter_34 : decode cX5_passQuarter 34 = .ok (.iload_n 3, 1) := by decide +kernel
theorem dX5_passQuarter_35 : decode cX5_passQuarter 35 = .ok (.invokevirtual 151, 3) := by decide +kernel
theorem dX5_passQuarter_38 : decode cX5_passQuarter 38 = .ok (.goto 4, 3) := by decide +kernel
theorem dX5_passQuarter_41 : decode cX5_passQuarter 41 = .ok (.iconst 0, 1) := by decide +kernel
theorem dX5_passQuarter_42 : decode cX5_passQuarter 42 = .ok (.istore 5, 2) := by decide +kernel
theorem dX5_passQuarter_44 : decode cX5_passQuarter 44 = .ok (.aload 4, 2) := by decide +kernel
theorem dX5_passQuarter_46 : decode cX5_passQuarter 46 = .ok (.getfield 144, 3) := by decide +kernel
theorem dX5_passQuarter_49 : decode cX5_passQuarter 49 = .ok (.aload_n 0, 1) := by decide +kernel
theorem dX5_passQuarter_50 : decode cX5_passQuarter 50 = .ok (.iload_n 3, 1) := by decide +kernel
theorem dX5_passQuarter_51 : decode cX5_passQuarter 51 = .ok (.invokevirtual 135, 3) := by decide +kernel
theorem dX5_passQuarter_54 : decode cX5_passQuarter 54 = .ok (.iload 5, 2) := by decide +kernel
theorem dX5_passQuarter_56 : decode cX5_passQuarter 56 = .ok (.iadd, 1) := by decide +kernel
theorem dX5_passQuarter_57 : decode cX5_passQuarter 57 = .ok (.invokestatic 115, 3) := by decide +kernel
theorem dX5_passQuarter_60 : decode cX5_passQuarter 60 = .ok (.istore 6, 2) := by decide +kernel
theorem dX5_passQuarter_62 : decode cX5_passQuarter 62 = .ok (.aload 4, 2) := by decide +kernel
theorem dX5_passQuarter_64 : decode cX5_passQuarter 64 = .ok (.dup, 1) := by decide +kernel
theorem dX5_passQuarter_65 : decode cX5_passQuarter 65 = .ok (.getfield 144, 3) := by decide +kernel
theorem dX5_passQuarter_68 : decode cX5_passQuarter 68 = .ok (.iload 6, 2) := by decide +kernel
theorem dX5_passQuarter_70 : decode cX5_passQuarter 70 = .ok (.isub, 1) := by decide +kernel
theorem dX5_passQuarter_71 : decode cX5_passQuarter 71 = .ok (.putfield 144, 3) := by decide +kernel
theorem dX5_passQuarter_74 : decode cX5_passQuarter 74 = .ok (.aload_n 0, 1) := by decide +kernel
theorem dX5_passQuarter_75 : decode cX5_passQuarter 75 = .ok (.sipush 9999, 3) := by decide +kernel
theorem dX5_passQuarter_78 : decode cX5_passQuarter 78 = .ok (.aload_n 0, 1) := by decide +kernel
theorem dX5_passQuarter_79 : decode cX5_passQuarter 79 = .ok (.getfield 55, 3) := by decide +kernel
theorem dX5_passQuarter_82 : decode cX5_passQuarter 82 = .ok (.iload 6, 2) := by decide +kernel
theorem dX5_passQuarter_84 : decode cX5_passQuarter 84 = .ok (.iadd, 1) := by decide +kernel
theorem dX5_passQuarter_85 : decode cX5_passQuarter 85 = .ok (.invokestatic 115, 3) := by decide +kernel
theorem dX5_passQuarter_88 : decode cX5_passQuarter 88 = .ok (.putfield 55, 3) := by decide +kernel
theorem dX5_passQuarter_91 : decode cX5_passQuarter 91 = .ok (.iload_n 2, 1) := by decide +kernel
theorem dX5_passQuarter_92 : decode cX5_passQuarter 92 = .ok (.iload 6, 2) := by decide +kernel
theorem dX5_passQuarter_94 : decode cX5_passQuarter 94 = .ok (.iadd, 1) := by decide +kernel
theorem dX5_passQuarter_95 : decode cX5_passQuarter 95 = .ok (.istore_n 2, 1) := by decide +kernel
theorem dX5_passQuarter_96 : decode cX5_passQuarter 96 = .ok (.iinc 3 1, 3) := by decide +kernel
theorem dX5_passQuarter_99 : decode cX5_passQuarter 99 = .ok (.goto (-95), 3) := by decide +kernel
theorem dX5_passQuarter_102 : decode cX5_passQuarter 102 = .ok (.aload_n 0, 1) := by decide +kernel
theorem dX5_passQuarter_103 : decode cX5_passQuarter 103 = .ok (.sipush 9999, 3) := by decide +kernel
theorem dX5_passQuarter_106 : decode cX5_passQuarter 106 = .ok (.aload_n 0, 1) := by decide +kernel
theorem dX5_passQuarter_107 : decode cX5_passQuarter 107 = .ok (.getfield 52, 3) := by decide +kernel
theorem dX5_passQuarter_110 : decode cX5_passQuarter 110 = .ok (.iconst 1, 1) := by decide +kernel
theorem dX5_passQuarter_111 : decode cX5_passQuarter 111 = .ok (.iadd, 1) := by decide +kernel
theorem dX5_passQuarter_112 : decode cX5_passQuarter 112 = .ok (.invokestatic 115, 3) := by decide +kernel
theorem dX5_passQuarter_115 : decode cX5_passQuarter 115 = .ok (.putfield 52, 3) := by decide +kernel
theorem dX5_passQuarter_118 : decode cX5_passQuarter 118 = .ok (.iload_n 2, 1) := by decide +kernel
theorem dX5_passQuarter_119 : decode cX5_passQuarter 119 = .ok (.ireturn, 1) := by decide +kernel
theorem dX5_manComes_0 : decode cX5_manComes 0 = .ok (.aload_n 0, 1) := by decide +kernel
theorem dX5_manComes_1 : decode cX5_manComes 1 = .ok (.invokevirtual 154, 3) := by decide +kernel
theorem dX5_manComes_4 : decode cX5_manComes 4 = .ok (.bipush 100, 2) := by decide +kernel
theorem dX5_manComes_6 : decode cX5_manComes 6 = .ok (.irem, 1) := by decide +kernel
theorem dX5_manComes_7 : decode cX5_manComes 7 = .ok (.aload_n 0, 1) := by decide +kernel
theorem dX5_manComes_8 : decode cX5_manComes 8 = .ok (.getfield 46, 3) := by decide +kernel
theorem dX5_manComes_11 : decode cX5_manComes 11 = .ok (.if_icmp .ge 5, 3) := by decide +kernel
theorem dX5_manComes_14 : decode cX5_manComes 14 = .ok (.iconst 1, 1) := by decide +kernel
theorem dX5_manComes_15 : decode cX5_manComes 15 = .ok (.ireturn, 1) := by decide +kernel
theorem dX5_manComes_16 : decode cX5_manComes 16 = .ok (.aload_n 0, 1) := by decide +kernel
theorem dX5_manComes_17 : decode cX5_manComes 17 = .ok (.invokevirtual 154, 3) := by decide +kernel
theorem dX5_manComes_20 : decode cX5_manComes 20 = .ok (.bipush 100, 2) := by decide +kernel
theorem dX5_manComes_22 : decode cX5_manComes 22 = .ok (.irem, 1) := by decide +kernel
theorem dX5_manComes_23 : decode cX5_manComes 23 = .ok (.aload_n 1, 1) := by decide +kernel
theorem dX5_manComes_24 : decode cX5_manComes 24 = .ok (.getfield 158, 3) := by decide +kernel
theorem dX5_manComes_27 : decode cX5_manComes 27 = .ok (.if_icmp .ge 7, 3) := by decide +kernel
theorem dX5_manComes_30 : decode cX5_manComes 30 = .ok (.iconst 1, 1) := by decide +kernel
theorem dX5_manComes_31 : decode cX5_manComes 31 = .ok (.goto 4, 3) := by decide +kernel
theorem dX5_manComes_34 : decode cX5_manComes 34 = .ok (.iconst 0, 1) := by decide +kernel
theorem dX5_manComes_35 : decode cX5_manComes 35 = .ok (.ireturn, 1) := by decide +kernel
theorem dX5_searchedFor_0 : decode cX5_searchedFor 0 = .ok (.iconst 0, 1) := by decide +kernel
theorem dX5_searchedFor_1 : decode cX5_searchedFor 1 = .ok (.istore_n 2, 1) := by decide +kernel
theorem dX5_searchedFor_2 : decode cX5_searchedFor 2 = .ok (.iconst 0, 1) := by decide +kernel
theorem dX5_searchedFor_3 : decode cX5_searchedFor 3 = .ok (.istore_n 3, 1) := by decide +kernel
theorem dX5_searchedFor_4 : decode cX5_searchedFor 4 = .ok (.iload_n 3, 1) := by decide +kernel
theorem dX5_searchedFor_5 : decode cX5_searchedFor 5 = .ok (.aload_n 0, 1) := by decide +kernel
theorem dX5_searchedFor_6 : decode cX5_searchedFor 6 = .ok (.getfield 34, 3) := by decide +kernel
theorem dX5_searchedFor_9 : decode cX5_searchedFor 9 = .ok (.if_icmp .ge 81, 3) := by decide +kernel
theorem dX5_searchedFor_12 : decode cX5_searchedFor 12 = .ok (.aload_n 0, 1) := by decide +kernel
theorem dX5_searchedFor_13 : decode cX5_searchedFor 13 = .ok (.getfield 19, 3) := by decide +kernel
theorem dX5_searchedFor_16 : decode cX5_searchedFor 16 = .ok (.iload_n 3, 1) := by decide +kernel
theorem dX5_searchedFor_17 : decode cX5_searchedFor 17 = .ok (.aaload, 1) := by decide +kernel
theorem dX5_searchedFor_18 : decode cX5_searchedFor 18 = .ok (.astore 4, 2) := by decide +kernel
theorem dX5_searchedFor_20 : decode cX5_searchedFor 20 = .ok (.aload 4, 2) := by decide +kernel
theorem dX5_searchedFor_22 : decode cX5_searchedFor 22 = .ok (.getfield 77, 3) := by decide +kernel
theorem dX5_searchedFor_25 : decode cX5_searchedFor 25 = .ok (.iload_n 1, 1) := by decide +kernel
theorem dX5_searchedFor_26 : decode cX5_searchedFor 26 = .ok (.if_icmp .ne 58, 3) := by decide +kernel
theorem dX5_searchedFor_29 : decode cX5_searchedFor 29 = .ok (.aload 4, 2) := by decide +kernel
theorem dX5_searchedFor_31 : decode cX5_searchedFor 31 = .ok (.getfield 80, 3) := by decide +kernel
theorem dX5_searchedFor_34 : decode cX5_searchedFor 34 = .ok (.iconst 2, 1) := by decide +kernel
theorem dX5_searchedFor_35 : decode cX5_searchedFor 35 = .ok (.if_icmp .ne 49, 3) := by decide +kernel
theorem dX5_searchedFor_38 : decode cX5_searchedFor 38 = .ok (.aload_n 0, 1) := by decide +kernel
theorem dX5_searchedFor_39 : decode cX5_searchedFor 39 = .ok (.invokevirtual 154, 3) := by decide +kernel
theorem dX5_searchedFor_42 : decode cX5_searchedFor 42 = .ok (.bipush 100, 2) := by decide +kernel
theorem dX5_searchedFor_44 : decode cX5_searchedFor 44 = .ok (.irem, 1) := by decide +kernel
theorem dX5_searchedFor_45 : decode cX5_searchedFor 45 = .ok (.aload_n 0, 1) := by decide +kernel
theorem dX5_searchedFor_46 : decode cX5_searchedFor 46 = .ok (.iload_n 3, 1) := by decide +kernel
theorem dX5_searchedFor_47 : decode cX5_searchedFor 47 = .ok (.invokevirtual 120, 3) := by decide +kernel
theorem dX5_searchedFor_50 : decode cX5_searchedFor 50 = .ok (.if_icmp .ge 34, 3) := by decide +kernel
theorem dX5_searchedFor_53 : decode cX5_searchedFor 53 = .ok (.aload 4, 2) := by decide +kernel
theorem dX5_searchedFor_55 : decode cX5_searchedFor 55 = .ok (.iconst 0, 1) := by decide +kernel
theorem dX5_searchedFor_56 : decode cX5_searchedFor 56 = .ok (.putfield 80, 3) := by decide +kernel
theorem dX5_searchedFor_59 : decode cX5_searchedFor 59 = .ok (.iload_n 2, 1) := by decide +kernel
theorem dX5_searchedFor_60 : decode cX5_searchedFor 60 = .ok (.aload_n 0, 1) := by decide +kernel
theorem dX5_searchedFor_61 : decode cX5_searchedFor 61 = .ok (.getfield 43, 3) := by decide +kernel
theorem dX5_searchedFor_64 : decode cX5_searchedFor 64 = .ok (.iadd, 1) := by decide +kernel
theorem dX5_searchedFor_65 : decode cX5_searchedFor 65 = .ok (.istore_n 2, 1) := by decide +kernel
theorem dX5_searchedFor_66 : decode cX5_searchedFor 66 = .ok (.aload_n 0, 1) := by decide +kernel
theorem dX5_searchedFor_67 : decode cX5_searchedFor 67 = .ok (.getfield 26, 3) := by decide +kernel
theorem dX5_searchedFor_70 : decode cX5_searchedFor 70 = .ok (.aload_n 0, 1) := by decide +kernel
theorem dX5_searchedFor_71 : decode cX5_searchedFor 71 = .ok (.getfield 52, 3) := by decide +kernel
theorem dX5_searchedFor_74 : decode cX5_searchedFor 74 = .ok (.iload_n 3, 1) := by decide +kernel
theorem dX5_searchedFor_75 : decode cX5_searchedFor 75 = .ok (.iload_n 1, 1) := by decide +kernel
theorem dX5_searchedFor_76 : decode cX5_searchedFor 76 = .ok (.aload_n 0, 1) := by decide +kernel
theorem dX5_searchedFor_77 : decode cX5_searchedFor 77 = .ok (.iload_n 3, 1) := by decide +kernel
theorem dX5_searchedFor_78 : decode cX5_searchedFor 78 = .ok (.invokevirtual 123, 3) := by decide +kernel
theorem dX5_searchedFor_81 : decode cX5_searchedFor 81 = .ok (.invokevirtual 161, 3) := by decide +kernel
theorem dX5_searchedFor_84 : decode cX5_searchedFor 84 = .ok (.iinc 3 1, 3) := by decide +kernel
theorem dX5_searchedFor_87 : decode cX5_searchedFor 87 = .ok (.goto (-83), 3) := by decide +kernel
theorem dX5_searchedFor_90 : decode cX5_searchedFor 90 = .ok (.iload_n 2, 1) := by decide +kernel
theorem dX5_searchedFor_91 : decode cX5_searchedFor 91 = .ok (.ireturn, 1) := by decide +kernel
theorem dX5_draw_0 : decode cX5_draw 0 = .ok (.aload_n 0, 1) := by decide +kernel
theorem dX5_draw_1 : decode cX5_draw 1 = .ok (.ldc 165, 2) := by decide +kernel
theorem dX5_draw_3 : decode cX5_draw 3 = .ok (.aload_n 0, 1) := by decide +kernel
theorem dX5_draw_4 : decode cX5_draw 4 = .ok (.getfield 58, 3) := by decide +kernel
theorem dX5_draw_7 : decode cX5_draw 7 = .ok (.imul, 1) := by decide +kernel
theorem dX5_draw_8 : decode cX5_draw 8 = .ok (.sipush 12345, 3) := by decide +kernel
theorem dX5_draw_11 : decode cX5_draw 11 = .ok (.iadd, 1) := by decide +kernel
theorem dX5_draw_12 : decode cX5_draw 12 = .ok (.putfield 58, 3) := by decide +kernel
theorem dX5_draw_15 : decode cX5_draw 15 = .ok (.aload_n 0, 1) := by decide +kernel
theorem dX5_draw_16 : decode cX5_draw 16 = .ok (.getfield 58, 3) := by decide +kernel
theorem dX5_draw_19 : decode cX5_draw 19 = .ok (.bipush 16, 2) := by decide +kernel
theorem dX5_draw_21 : decode cX5_draw 21 = .ok (.iushr, 1) := by decide +kernel
theorem dX5_draw_22 : decode cX5_draw 22 = .ok (.sipush 32767, 3) := by decide +kernel
theorem dX5_draw_25 : decode cX5_draw 25 = .ok (.iand, 1) := by decide +kernel
theorem dX5_draw_26 : decode cX5_draw 26 = .ok (.ireturn, 1) := by decide +kernel
theorem dX6_init_0 : decode cX6_init 0 = .ok (.aload_n 0, 1) := by decide +kernel
theorem dX6_init_1 : decode cX6_init 1 = .ok (.aload_n 1, 1) := by decide +kernel
theorem dX6_init_2 : decode cX6_init 2 = .ok (.bipush 14, 2) := by decide +kernel
theorem dX6_init_4 : decode cX6_init 4 = .ok (.invokespecial 5, 3) := by decide +kernel
theorem dX6_init_7 : decode cX6_init 7 = .ok (.aload_n 0, 1) := by decide +kernel
theorem dX6_init_8 : decode cX6_init 8 = .ok (.aload_n 2, 1) := by decide +kernel
theorem dX6_init_9 : decode cX6_init 9 = .ok (.putfield 11, 3) := by decide +kernel
theorem dX6_init_12 : decode cX6_init 12 = .ok (.return_, 1) := by decide +kernel
theorem dX6_readLine_0 : decode cX6_readLine 0 = .ok (.aload_n 0, 1) := by decide +kernel
theorem dX6_readLine_1 : decode cX6_readLine 1 = .ok (.getfield 15, 3) := by decide +kernel
theorem dX6_readLine_4 : decode cX6_readLine 4 = .ok (.ldc 19, 2) := by decide +kernel
theorem dX6_readLine_6 : decode cX6_readLine 6 = .ok (.invokevirtual 21, 3) := by decide +kernel
theorem dX6_readLine_9 : decode cX6_readLine 9 = .ok (.ifCond .eq 8, 3) := by decide +kernel
theorem dX6_readLine_12 : decode cX6_readLine 12 = .ok (.aload_n 0, 1) := by decide +kernel
theorem dX6_readLine_13 : decode cX6_readLine 13 = .ok (.invokevirtual 27, 3) := by decide +kernel
theorem dX6_readLine_16 : decode cX6_readLine 16 = .ok (.ireturn, 1) := by decide +kernel
theorem dX6_readLine_17 : decode cX6_readLine 17 = .ok (.aload_n 0, 1) := by decide +kernel
theorem dX6_readLine_18 : decode cX6_readLine 18 = .ok (.getfield 15, 3) := by decide +kernel
theorem dX6_readLine_21 : decode cX6_readLine 21 = .ok (.ldc 31, 2) := by decide +kernel
theorem dX6_readLine_23 : decode cX6_readLine 23 = .ok (.invokevirtual 21, 3) := by decide +kernel
theorem dX6_readLine_26 : decode cX6_readLine 26 = .ok (.ifCond .eq 8, 3) := by decide +kernel
theorem dX6_readLine_29 : decode cX6_readLine 29 = .ok (.aload_n 0, 1) := by decide +kernel
theorem dX6_readLine_30 : decode cX6_readLine 30 = .ok (.invokevirtual 33, 3) := by decide +kernel
theorem dX6_readLine_33 : decode cX6_readLine 33 = .ok (.ireturn, 1) := by decide +kernel
theorem dX6_readLine_34 : decode cX6_readLine 34 = .ok (.aload_n 0, 1) := by decide +kernel
theorem dX6_readLine_35 : decode cX6_readLine 35 = .ok (.getfield 15, 3) := by decide +kernel
theorem dX6_readLine_38 : decode cX6_readLine 38 = .ok (.ldc 36, 2) := by decide +kernel
theorem dX6_readLine_40 : decode cX6_readLine 40 = .ok (.invokevirtual 21, 3) := by decide +kernel
theorem dX6_readLine_43 : decode cX6_readLine 43 = .ok (.ifCond .eq 8, 3) := by decide +kernel
theorem dX6_readLine_46 : decode cX6_readLine 46 = .ok (.aload_n 0, 1) := by decide +kernel
theorem dX6_readLine_47 : decode cX6_readLine 47 = .ok (.invokevirtual 38, 3) := by decide +kernel
theorem dX6_readLine_50 : decode cX6_readLine 50 = .ok (.ireturn, 1) := by decide +kernel
theorem dX6_readLine_51 : decode cX6_readLine 51 = .ok (.aload_n 0, 1) := by decide +kernel
theorem dX6_readLine_52 : decode cX6_readLine 52 = .ok (.invokevirtual 41, 3) := by decide +kernel
theorem dX6_readLine_55 : decode cX6_readLine 55 = .ok (.ireturn, 1) := by decide +kernel
theorem dX6_readHouse_0 : decode cX6_readHouse 0 = .ok (.aload_n 0, 1) := by decide +kernel
theorem dX6_readHouse_1 : decode cX6_readHouse 1 = .ok (.getfield 11, 3) := by decide +kernel
theorem dX6_readHouse_4 : decode cX6_readHouse 4 = .ok (.getfield 44, 3) := by decide +kernel
theorem dX6_readHouse_7 : decode cX6_readHouse 7 = .ok (.bipush 6, 2) := by decide +kernel
theorem dX6_readHouse_9 : decode cX6_readHouse 9 = .ok (.if_icmp .lt 11, 3) := by decide +kernel
theorem dX6_readHouse_12 : decode cX6_readHouse 12 = .ok (.aload_n 0, 1) := by decide +kernel
theorem dX6_readHouse_13 : decode cX6_readHouse 13 = .ok (.getfield 15, 3) := by decide +kernel
theorem dX6_readHouse_16 : decode cX6_readHouse 16 = .ok (.invokevirtual 50, 3) := by decide +kernel
theorem dX6_readHouse_19 : decode cX6_readHouse 19 = .ok (.ireturn, 1) := by decide +kernel
theorem dX6_readHouse_20 : decode cX6_readHouse 20 = .ok (.aload_n 0, 1) := by decide +kernel
theorem dX6_readHouse_21 : decode cX6_readHouse 21 = .ok (.getfield 11, 3) := by decide +kernel
theorem dX6_readHouse_24 : decode cX6_readHouse 24 = .ok (.getfield 53, 3) := by decide +kernel
theorem dX6_readHouse_27 : decode cX6_readHouse 27 = .ok (.aload_n 0, 1) := by decide +kernel
theorem dX6_readHouse_28 : decode cX6_readHouse 28 = .ok (.getfield 11, 3) := by decide +kernel
theorem dX6_readHouse_31 : decode cX6_readHouse 31 = .ok (.getfield 44, 3) := by decide +kernel
theorem dX6_readHouse_34 : decode cX6_readHouse 34 = .ok (.aaload, 1) := by decide +kernel
theorem dX6_readHouse_35 : decode cX6_readHouse 35 = .ok (.astore_n 1, 1) := by decide +kernel
theorem dX6_readHouse_36 : decode cX6_readHouse 36 = .ok (.aload_n 1, 1) := by decide +kernel
theorem dX6_readHouse_37 : decode cX6_readHouse 37 = .ok (.aload_n 0, 1) := by decide +kernel
theorem dX6_readHouse_38 : decode cX6_readHouse 38 = .ok (.ldc 19, 2) := by decide +kernel
theorem dX6_readHouse_40 : decode cX6_readHouse 40 = .ok (.iconst 0, 1) := by decide +kernel
theorem dX6_readHouse_41 : decode cX6_readHouse 41 = .ok (.sipush 999, 3) := by decide +kernel
theorem dX6_readHouse_44 : decode cX6_readHouse 44 = .ok (.invokevirtual 57, 3) := by decide +kernel
theorem dX6_readHouse_47 : decode cX6_readHouse 47 = .ok (.putfield 61, 3) := by decide +kernel
theorem dX6_readHouse_50 : decode cX6_readHouse 50 = .ok (.aload_n 1, 1) := by decide +kernel
theorem dX6_readHouse_51 : decode cX6_readHouse 51 = .ok (.getfield 61, 3) := by decide +kernel
theorem dX6_readHouse_54 : decode cX6_readHouse 54 = .ok (.iconst (-1), 1) := by decide +kernel
theorem dX6_readHouse_55 : decode cX6_readHouse 55 = .ok (.if_icmp .ne 5, 3) := by decide +kernel
theorem dX6_readHouse_58 : decode cX6_readHouse 58 = .ok (.iconst 0, 1) := by decide +kernel
theorem dX6_readHouse_59 : decode cX6_readHouse 59 = .ok (.ireturn, 1) := by decide +kernel
theorem dX6_readHouse_60 : decode cX6_readHouse 60 = .ok (.aload_n 1, 1) := by decide +kernel
theorem dX6_readHouse_61 : decode cX6_readHouse 61 = .ok (.aload_n 0, 1) := by decide +kernel
theorem dX6_readHouse_62 : decode cX6_readHouse 62 = .ok (.ldc 66, 2) := by decide +kernel
theorem dX6_readHouse_64 : decode cX6_readHouse 64 = .ok (.iconst 0, 1) := by decide +kernel
theorem dX6_readHouse_65 : decode cX6_readHouse 65 = .ok (.bipush 30, 2) := by decide +kernel
theorem dX6_readHouse_67 : decode cX6_readHouse 67 = .ok (.invokevirtual 57, 3) := by decide +kernel
theorem dX6_readHouse_70 : decode cX6_readHouse 70 = .ok (.putfield 68, 3) := by decide +kernel
theorem dX6_readHouse_73 : decode cX6_readHouse 73 = .ok (.aload_n 1, 1) := by decide +kernel
theorem dX6_readHouse_74 : decode cX6_readHouse 74 = .ok (.getfield 68, 3) := by decide +kernel
theorem dX6_readHouse_77 : decode cX6_readHouse 77 = .ok (.iconst (-1), 1) := by decide +kernel
theorem dX6_readHouse_78 : decode cX6_readHouse 78 = .ok (.if_icmp .ne 5, 3) := by decide +kernel
theorem dX6_readHouse_81 : decode cX6_readHouse 81 = .ok (.iconst 0, 1) := by decide +kernel
theorem dX6_readHouse_82 : decode cX6_readHouse 82 = .ok (.ireturn, 1) := by decide +kernel
theorem dX6_readHouse_83 : decode cX6_readHouse 83 = .ok (.aload_n 1, 1) := by decide +kernel
theorem dX6_readHouse_84 : decode cX6_readHouse 84 = .ok (.iconst 0, 1) := by decide +kernel
theorem dX6_readHouse_85 : decode cX6_readHouse 85 = .ok (.putfield 70, 3) := by decide +kernel
theorem dX6_readHouse_88 : decode cX6_readHouse 88 = .ok (.aload_n 1, 1) := by decide +kernel
theorem dX6_readHouse_89 : decode cX6_readHouse 89 = .ok (.iconst 0, 1) := by decide +kernel
theorem dX6_readHouse_90 : decode cX6_readHouse 90 = .ok (.putfield 73, 3) := by decide +kernel
theorem dX6_readHouse_93 : decode cX6_readHouse 93 = .ok (.aload_n 1, 1) := by decide +kernel
theorem dX6_readHouse_94 : decode cX6_readHouse 94 = .ok (.aload_n 0, 1) := by decide +kernel
theorem dX6_readHouse_95 : decode cX6_readHouse 95 = .ok (.getfield 15, 3) := by decide +kernel
theorem dX6_readHouse_98 : decode cX6_readHouse 98 = .ok (.ldc 76, 2) := by decide +kernel
theorem dX6_readHouse_100 : decode cX6_readHouse 100 = .ok (.invokevirtual 21, 3) := by decide +kernel
theorem dX6_readHouse_103 : decode cX6_readHouse 103 = .ok (.putfield 78, 3) := by decide +kernel
theorem dX6_readHouse_106 : decode cX6_readHouse 106 = .ok (.aload_n 1, 1) := by decide +kernel
theorem dX6_readHouse_107 : decode cX6_readHouse 107 = .ok (.getfield 78, 3) := by decide +kernel
theorem dX6_readHouse_110 : decode cX6_readHouse 110 = .ok (.ifCond .eq 10, 3) := by decide +kernel
theorem dX6_readHouse_113 : decode cX6_readHouse 113 = .ok (.aload_n 0, 1) := by decide +kernel
theorem dX6_readHouse_114 : decode cX6_readHouse 114 = .ok (.getfield 15, 3) := by decide +kernel
theorem dX6_readHouse_117 : decode cX6_readHouse 117 = .ok (.invokevirtual 81, 3) := by decide +kernel
theorem dX6_readHouse_120 : decode cX6_readHouse 120 = .ok (.aload_n 0, 1) := by decide +kernel
theorem dX6_readHouse_121 : decode cX6_readHouse 121 = .ok (.getfield 15, 3) := by decide +kernel
theorem dX6_readHouse_124 : decode cX6_readHouse 124 = .ok (.ldc 85, 2) := by decide +kernel
theorem dX6_readHouse_126 : decode cX6_readHouse 126 = .ok (.invokevirtual 21, 3) := by decide +kernel
theorem dX6_readHouse_129 : decode cX6_readHouse 129 = .ok (.ifCond .eq 26, 3) := by decide +kernel
theorem dX6_readHouse_132 : decode cX6_readHouse 132 = .ok (.aload_n 1, 1) := by decide +kernel
theorem dX6_readHouse_133 : decode cX6_readHouse 133 = .ok (.aload_n 0, 1) := by decide +kernel
theorem dX6_readHouse_134 : decode cX6_readHouse 134 = .ok (.ldc 85, 2) := by decide +kernel
theorem dX6_readHouse_136 : decode cX6_readHouse 136 = .ok (.iconst 0, 1) := by decide +kernel
theorem dX6_readHouse_137 : decode cX6_readHouse 137 = .ok (.bipush 100, 2) := by decide +kernel
theorem dX6_readHouse_139 : decode cX6_readHouse 139 = .ok (.invokevirtual 57, 3) := by decide +kernel
theorem dX6_readHouse_142 : decode cX6_readHouse 142 = .ok (.putfield 73, 3) := by decide +kernel
theorem dX6_readHouse_145 : decode cX6_readHouse 145 = .ok (.aload_n 1, 1) := by decide +kernel
theorem dX6_readHouse_146 : decode cX6_readHouse 146 = .ok (.getfield 73, 3) := by decide +kernel
theorem dX6_readHouse_149 : decode cX6_readHouse 149 = .ok (.iconst (-1), 1) := by decide +kernel
theorem dX6_readHouse_150 : decode cX6_readHouse 150 = .ok (.if_icmp .ne 5, 3) := by decide +kernel
theorem dX6_readHouse_153 : decode cX6_readHouse 153 = .ok (.iconst 0, 1) := by decide +kernel
theorem dX6_readHouse_154 : decode cX6_readHouse 154 = .ok (.ireturn, 1) := by decide +kernel
theorem dX6_readHouse_155 : decode cX6_readHouse 155 = .ok (.aload_n 0, 1) := by decide +kernel
theorem dX6_readHouse_156 : decode cX6_readHouse 156 = .ok (.getfield 11, 3) := by decide +kernel
theorem dX6_readHouse_159 : decode cX6_readHouse 159 = .ok (.dup, 1) := by decide +kernel
theorem dX6_readHouse_160 : decode cX6_readHouse 160 = .ok (.getfield 44, 3) := by decide +kernel
theorem dX6_readHouse_163 : decode cX6_readHouse 163 = .ok (.iconst 1, 1) := by decide +kernel
theorem dX6_readHouse_164 : decode cX6_readHouse 164 = .ok (.iadd, 1) := by decide +kernel
theorem dX6_readHouse_165 : decode cX6_readHouse 165 = .ok (.putfield 44, 3) := by decide +kernel
theorem dX6_readHouse_168 : decode cX6_readHouse 168 = .ok (.iconst 1, 1) := by decide +kernel
theorem dX6_readHouse_169 : decode cX6_readHouse 169 = .ok (.ireturn, 1) := by decide +kernel
theorem dX6_readSees_0 : decode cX6_readSees 0 = .ok (.aload_n 0, 1) := by decide +kernel
theorem dX6_readSees_1 : decode cX6_readSees 1 = .ok (.ldc 31, 2) := by decide +kernel
theorem dX6_readSees_3 : decode cX6_readSees 3 = .ok (.iconst 0, 1) := by decide +kernel
theorem dX6_readSees_4 : decode cX6_readSees 4 = .ok (.iconst 4, 1) := by decide +kernel
theorem dX6_readSees_5 : decode cX6_readSees 5 = .ok (.invokevirtual 57, 3) := by decide +kernel
theorem dX6_readSees_8 : decode cX6_readSees 8 = .ok (.istore_n 1, 1) := by decide +kernel
theorem dX6_readSees_9 : decode cX6_readSees 9 = .ok (.iload_n 1, 1) := by decide +kernel
theorem dX6_readSees_10 : decode cX6_readSees 10 = .ok (.iconst (-1), 1) := by decide +kernel
theorem dX6_readSees_11 : decode cX6_readSees 11 = .ok (.if_icmp .ne 5, 3) := by decide +kernel
theorem dX6_readSees_14 : decode cX6_readSees 14 = .ok (.iconst 0, 1) := by decide +kernel
theorem dX6_readSees_15 : decode cX6_readSees 15 = .ok (.ireturn, 1) := by decide +kernel
theorem dX6_readSees_16 : decode cX6_readSees 16 = .ok (.aload_n 0, 1) := by decide +kernel
theorem dX6_readSees_17 : decode cX6_readSees 17 = .ok (.getfield 15, 3) := by decide +kernel
theorem dX6_readSees_20 : decode cX6_readSees 20 = .ok (.iconst 0, 1) := by decide +kernel
theorem dX6_readSees_21 : decode cX6_readSees 21 = .ok (.aload_n 0, 1) := by decide +kernel
theorem dX6_readSees_22 : decode cX6_readSees 22 = .ok (.getfield 11, 3) := by decide +kernel
theorem dX6_readSees_25 : decode cX6_readSees 25 = .ok (.getfield 44, 3) := by decide +kernel
theorem dX6_readSees_28 : decode cX6_readSees 28 = .ok (.iconst 1, 1) := by decide +kernel
theorem dX6_readSees_29 : decode cX6_readSees 29 = .ok (.isub, 1) := by decide +kernel
theorem dX6_readSees_30 : decode cX6_readSees 30 = .ok (.invokevirtual 86, 3) := by decide +kernel
theorem dX6_readSees_33 : decode cX6_readSees 33 = .ok (.istore_n 2, 1) := by decide +kernel
theorem dX6_readSees_34 : decode cX6_readSees 34 = .ok (.iload_n 2, 1) := by decide +kernel
theorem dX6_readSees_35 : decode cX6_readSees 35 = .ok (.iconst (-1), 1) := by decide +kernel
theorem dX6_readSees_36 : decode cX6_readSees 36 = .ok (.if_icmp .ne 5, 3) := by decide +kernel
theorem dX6_readSees_39 : decode cX6_readSees 39 = .ok (.iconst 0, 1) := by decide +kernel
theorem dX6_readSees_40 : decode cX6_readSees 40 = .ok (.ireturn, 1) := by decide +kernel
theorem dX6_readSees_41 : decode cX6_readSees 41 = .ok (.aload_n 0, 1) := by decide +kernel
theorem dX6_readSees_42 : decode cX6_readSees 42 = .ok (.getfield 11, 3) := by decide +kernel
theorem dX6_readSees_45 : decode cX6_readSees 45 = .ok (.getfield 53, 3) := by decide +kernel
theorem dX6_readSees_48 : decode cX6_readSees 48 = .ok (.iload_n 2, 1) := by decide +kernel
theorem dX6_readSees_49 : decode cX6_readSees 49 = .ok (.aaload, 1) := by decide +kernel
theorem dX6_readSees_50 : decode cX6_readSees 50 = .ok (.dup, 1) := by decide +kernel
theorem dX6_readSees_51 : decode cX6_readSees 51 = .ok (.getfield 70, 3) := by decide +kernel
theorem dX6_readSees_54 : decode cX6_readSees 54 = .ok (.iconst 1, 1) := by decide +kernel
theorem dX6_readSees_55 : decode cX6_readSees 55 = .ok (.iload_n 1, 1) := by decide +kernel
theorem dX6_readSees_56 : decode cX6_readSees 56 = .ok (.ishl, 1) := by decide +kernel
theorem dX6_readSees_57 : decode cX6_readSees 57 = .ok (.ior, 1) := by decide +kernel
theorem dX6_readSees_58 : decode cX6_readSees 58 = .ok (.putfield 70, 3) := by decide +kernel
theorem dX6_readSees_61 : decode cX6_readSees 61 = .ok (.iconst 1, 1) := by decide +kernel
theorem dX6_readSees_62 : decode cX6_readSees 62 = .ok (.ireturn, 1) := by decide +kernel
theorem dX6_readHearth_0 : decode cX6_readHearth 0 = .ok (.aload_n 0, 1) := by decide +kernel
theorem dX6_readHearth_1 : decode cX6_readHearth 1 = .ok (.getfield 11, 3) := by decide +kernel
theorem dX6_readHearth_4 : decode cX6_readHearth 4 = .ok (.getfield 90, 3) := by decide +kernel
theorem dX6_readHearth_7 : decode cX6_readHearth 7 = .ok (.bipush 12, 2) := by decide +kernel
theorem dX6_readHearth_9 : decode cX6_readHearth 9 = .ok (.if_icmp .lt 11, 3) := by decide +kernel
theorem dX6_readHearth_12 : decode cX6_readHearth 12 = .ok (.aload_n 0, 1) := by decide +kernel
theorem dX6_readHearth_13 : decode cX6_readHearth 13 = .ok (.getfield 15, 3) := by decide +kernel
theorem dX6_readHearth_16 : decode cX6_readHearth 16 = .ok (.invokevirtual 50, 3) := by decide +kernel
theorem dX6_readHearth_19 : decode cX6_readHearth 19 = .ok (.ireturn, 1) := by decide +kernel
theorem dX6_readHearth_20 : decode cX6_readHearth 20 = .ok (.aload_n 0, 1) := by decide +kernel
theorem dX6_readHearth_21 : decode cX6_readHearth 21 = .ok (.getfield 11, 3) := by decide +kernel
theorem dX6_readHearth_24 : decode cX6_readHearth 24 = .ok (.getfield 93, 3) := by decide +kernel
theorem dX6_readHearth_27 : decode cX6_readHearth 27 = .ok (.aload_n 0, 1) := by decide +kernel
theorem dX6_readHearth_28 : decode cX6_readHearth 28 = .ok (.getfield 11, 3) := by decide +kernel
theorem dX6_readHearth_31 : decode cX6_readHearth 31 = .ok (.getfield 90, 3) := by decide +kernel
theorem dX6_readHearth_34 : decode cX6_readHearth 34 = .ok (.aaload, 1) := by decide +kernel
theorem dX6_readHearth_35 : decode cX6_readHearth 35 = .ok (.astore_n 1, 1) := by decide +kernel
theorem dX6_readHearth_36 : decode cX6_readHearth 36 = .ok (.aload_n 0, 1) := by decide +kernel
theorem dX6_readHearth_37 : decode cX6_readHearth 37 = .ok (.getfield 15, 3) := by decide +kernel
theorem dX6_readHearth_40 : decode cX6_readHearth 40 = .ok (.invokevirtual 81, 3) := by decide +kernel
theorem dX6_readHearth_43 : decode cX6_readHearth 43 = .ok (.aload_n 1, 1) := by decide +kernel
theorem dX6_readHearth_44 : decode cX6_readHearth 44 = .ok (.aload_n 0, 1) := by decide +kernel
theorem dX6_readHearth_45 : decode cX6_readHearth 45 = .ok (.invokevirtual 97, 3) := by decide +kernel
theorem dX6_readHearth_48 : decode cX6_readHearth 48 = .ok (.putfield 101, 3) := by decide +kernel
theorem dX6_readHearth_51 : decode cX6_readHearth 51 = .ok (.aload_n 1, 1) := by decide +kernel
theorem dX6_readHearth_52 : decode cX6_readHearth 52 = .ok (.getfield 101, 3) := by decide +kernel
theorem dX6_readHearth_55 : decode cX6_readHearth 55 = .ok (.iconst (-1), 1) := by decide +kernel
theorem dX6_readHearth_56 : decode cX6_readHearth 56 = .ok (.if_icmp .ne 11, 3) := by decide +kernel
theorem dX6_readHearth_59 : decode cX6_readHearth 59 = .ok (.aload_n 0, 1) := by decide +kernel
theorem dX6_readHearth_60 : decode cX6_readHearth 60 = .ok (.getfield 15, 3) := by decide +kernel
theorem dX6_readHearth_63 : decode cX6_readHearth 63 = .ok (.invokevirtual 50, 3) := by decide +kernel
theorem dX6_readHearth_66 : decode cX6_readHearth 66 = .ok (.ireturn, 1) := by decide +kernel
theorem dX6_readHearth_67 : decode cX6_readHearth 67 = .ok (.aload_n 0, 1) := by decide +kernel
theorem dX6_readHearth_68 : decode cX6_readHearth 68 = .ok (.getfield 15, 3) := by decide +kernel
theorem dX6_readHearth_71 : decode cX6_readHearth 71 = .ok (.invokevirtual 81, 3) := by decide +kernel
theorem dX6_readHearth_74 : decode cX6_readHearth 74 = .ok (.aload_n 0, 1) := by decide +kernel
theorem dX6_readHearth_75 : decode cX6_readHearth 75 = .ok (.getfield 15, 3) := by decide +kernel
theorem dX6_readHearth_78 : decode cX6_readHearth 78 = .ok (.ldc 106, 2) := by decide +kernel
theorem dX6_readHearth_80 : decode cX6_readHearth 80 = .ok (.invokevirtual 108, 3) := by decide +kernel
theorem dX6_readHearth_83 : decode cX6_readHearth 83 = .ok (.ifCond .ne 5, 3) := by decide +kernel
theorem dX6_readHearth_86 : decode cX6_readHearth 86 = .ok (.iconst 0, 1) := by decide +kernel
theorem dX6_readHearth_87 : decode cX6_readHearth 87 = .ok (.ireturn, 1) := by decide +kernel
theorem dX6_readHearth_88 : decode cX6_readHearth 88 = .ok (.aload_n 1, 1) := by decide +kernel
theorem dX6_readHearth_89 : decode cX6_readHearth 89 = .ok (.aload_n 0, 1) := by decide +kernel
theorem dX6_readHearth_90 : decode cX6_readHearth 90 = .ok (.invokevirtual 111, 3) := by decide +kernel
theorem dX6_readHearth_93 : decode cX6_readHearth 93 = .ok (.putfield 114, 3) := by decide +kernel
theorem dX6_readHearth_96 : decode cX6_readHearth 96 = .ok (.aload_n 1, 1) := by decide +kernel
theorem dX6_readHearth_97 : decode cX6_readHearth 97 = .ok (.getfield 114, 3) := by decide +kernel
theorem dX6_readHearth_100 : decode cX6_readHearth 100 = .ok (.iconst (-1), 1) := by decide +kernel
theorem dX6_readHearth_101 : decode cX6_readHearth 101 = .ok (.if_icmp .ne 5, 3) := by decide +kernel
theorem dX6_readHearth_104 : decode cX6_readHearth 104 = .ok (.iconst 0, 1) := by decide +kernel
theorem dX6_readHearth_105 : decode cX6_readHearth 105 = .ok (.ireturn, 1) := by decide +kernel
theorem dX6_readHearth_106 : decode cX6_readHearth 106 = .ok (.aload_n 1, 1) := by decide +kernel
theorem dX6_readHearth_107 : decode cX6_readHearth 107 = .ok (.aload_n 0, 1) := by decide +kernel
theorem dX6_readHearth_108 : decode cX6_readHearth 108 = .ok (.ldc 116, 2) := by decide +kernel
theorem dX6_readHearth_110 : decode cX6_readHearth 110 = .ok (.iconst 0, 1) := by decide +kernel
theorem dX6_readHearth_111 : decode cX6_readHearth 111 = .ok (.bipush 9, 2) := by decide +kernel
theorem dX6_readHearth_113 : decode cX6_readHearth 113 = .ok (.invokevirtual 57, 3) := by decide +kernel
theorem dX6_readHearth_116 : decode cX6_readHearth 116 = .ok (.putfield 118, 3) := by decide +kernel
theorem dX6_readHearth_119 : decode cX6_readHearth 119 = .ok (.aload_n 1, 1) := by decide +kernel
theorem dX6_readHearth_120 : decode cX6_readHearth 120 = .ok (.getfield 118, 3) := by decide +kernel
theorem dX6_readHearth_123 : decode cX6_readHearth 123 = .ok (.iconst (-1), 1) := by decide +kernel
theorem dX6_readHearth_124 : decode cX6_readHearth 124 = .ok (.if_icmp .ne 5, 3) := by decide +kernel
theorem dX6_readHearth_127 : decode cX6_readHearth 127 = .ok (.iconst 0, 1) := by decide +kernel
theorem dX6_readHearth_128 : decode cX6_readHearth 128 = .ok (.ireturn, 1) := by decide +kernel
theorem dX6_readHearth_129 : decode cX6_readHearth 129 = .ok (.aload_n 1, 1) := by decide +kernel
theorem dX6_readHearth_130 : decode cX6_readHearth 130 = .ok (.aload_n 0, 1) := by decide +kernel
theorem dX6_readHearth_131 : decode cX6_readHearth 131 = .ok (.ldc 120, 2) := by decide +kernel
theorem dX6_readHearth_133 : decode cX6_readHearth 133 = .ok (.iconst 1, 1) := by decide +kernel
theorem dX6_readHearth_134 : decode cX6_readHearth 134 = .ok (.bipush 9, 2) := by decide +kernel
theorem dX6_readHearth_136 : decode cX6_readHearth 136 = .ok (.invokevirtual 57, 3) := by decide +kernel
theorem dX6_readHearth_139 : decode cX6_readHearth 139 = .ok (.putfield 122, 3) := by decide +kernel
theorem dX6_readHearth_142 : decode cX6_readHearth 142 = .ok (.aload_n 1, 1) := by decide +kernel
theorem dX6_readHearth_143 : decode cX6_readHearth 143 = .ok (.getfield 122, 3) := by decide +kernel
theorem dX6_readHearth_146 : decode cX6_readHearth 146 = .ok (.iconst (-1), 1) := by decide +kernel
theorem dX6_readHearth_147 : decode cX6_readHearth 147 = .ok (.if_icmp .ne 5, 3) := by decide +kernel
theorem dX6_readHearth_150 : decode cX6_readHearth 150 = .ok (.iconst 0, 1) := by decide +kernel
theorem dX6_readHearth_151 : decode cX6_readHearth 151 = .ok (.ireturn, 1) := by decide +kernel
theorem dX6_readHearth_152 : decode cX6_readHearth 152 = .ok (.aload_n 1, 1) := by decide +kernel
theorem dX6_readHearth_153 : decode cX6_readHearth 153 = .ok (.aload_n 0, 1) := by decide +kernel
theorem dX6_readHearth_154 : decode cX6_readHearth 154 = .ok (.ldc 124, 2) := by decide +kernel
theorem dX6_readHearth_156 : decode cX6_readHearth 156 = .ok (.iconst 1, 1) := by decide +kernel
theorem dX6_readHearth_157 : decode cX6_readHearth 157 = .ok (.bipush 30, 2) := by decide +kernel
theorem dX6_readHearth_159 : decode cX6_readHearth 159 = .ok (.invokevirtual 57, 3) := by decide +kernel
theorem dX6_readHearth_162 : decode cX6_readHearth 162 = .ok (.putfield 126, 3) := by decide +kernel
theorem dX6_readHearth_165 : decode cX6_readHearth 165 = .ok (.aload_n 1, 1) := by decide +kernel
theorem dX6_readHearth_166 : decode cX6_readHearth 166 = .ok (.getfield 126, 3) := by decide +kernel
theorem dX6_readHearth_169 : decode cX6_readHearth 169 = .ok (.iconst (-1), 1) := by decide +kernel
theorem dX6_readHearth_170 : decode cX6_readHearth 170 = .ok (.if_icmp .ne 5, 3) := by decide +kernel
theorem dX6_readHearth_173 : decode cX6_readHearth 173 = .ok (.iconst 0, 1) := by decide +kernel
theorem dX6_readHearth_174 : decode cX6_readHearth 174 = .ok (.ireturn, 1) := by decide +kernel
theorem dX6_readHearth_175 : decode cX6_readHearth 175 = .ok (.aload_n 1, 1) := by decide +kernel
theorem dX6_readHearth_176 : decode cX6_readHearth 176 = .ok (.iconst 0, 1) := by decide +kernel
theorem dX6_readHearth_177 : decode cX6_readHearth 177 = .ok (.putfield 128, 3) := by decide +kernel
theorem dX6_readHearth_180 : decode cX6_readHearth 180 = .ok (.aload_n 0, 1) := by decide +kernel
theorem dX6_readHearth_181 : decode cX6_readHearth 181 = .ok (.getfield 11, 3) := by decide +kernel
theorem dX6_readHearth_184 : decode cX6_readHearth 184 = .ok (.dup, 1) := by decide +kernel
theorem dX6_readHearth_185 : decode cX6_readHearth 185 = .ok (.getfield 90, 3) := by decide +kernel
theorem dX6_readHearth_188 : decode cX6_readHearth 188 = .ok (.iconst 1, 1) := by decide +kernel
theorem dX6_readHearth_189 : decode cX6_readHearth 189 = .ok (.iadd, 1) := by decide +kernel
theorem dX6_readHearth_190 : decode cX6_readHearth 190 = .ok (.putfield 90, 3) := by decide +kernel
theorem dX6_readHearth_193 : decode cX6_readHearth 193 = .ok (.iconst 1, 1) := by decide +kernel
theorem dX6_readHearth_194 : decode cX6_readHearth 194 = .ok (.ireturn, 1) := by decide +kernel
theorem dX6_presentKind_0 : decode cX6_presentKind 0 = .ok (.aload_n 0, 1) := by decide +kernel
theorem dX6_presentKind_1 : decode cX6_presentKind 1 = .ok (.getfield 15, 3) := by decide +kernel
theorem dX6_presentKind_4 : decode cX6_presentKind 4 = .ok (.ldc 131, 2) := by decide +kernel
theorem dX6_presentKind_6 : decode cX6_presentKind 6 = .ok (.invokevirtual 21, 3) := by decide +kernel
theorem dX6_presentKind_9 : decode cX6_presentKind 9 = .ok (.ifCond .eq 5, 3) := by decide +kernel
theorem dX6_presentKind_12 : decode cX6_presentKind 12 = .ok (.iconst 0, 1) := by decide +kernel
theorem dX6_presentKind_13 : decode cX6_presentKind 13 = .ok (.ireturn, 1) := by decide +kernel
theorem dX6_presentKind_14 : decode cX6_presentKind 14 = .ok (.aload_n 0, 1) := by decide +kernel
theorem dX6_presentKind_15 : decode cX6_presentKind 15 = .ok (.getfield 15, 3) := by decide +kernel
theorem dX6_presentKind_18 : decode cX6_presentKind 18 = .ok (.ldc 133, 2) := by decide +kernel
theorem dX6_presentKind_20 : decode cX6_presentKind 20 = .ok (.invokevirtual 21, 3) := by decide +kernel
theorem dX6_presentKind_23 : decode cX6_presentKind 23 = .ok (.ifCond .eq 5, 3) := by decide +kernel
theorem dX6_presentKind_26 : decode cX6_presentKind 26 = .ok (.iconst 1, 1) := by decide +kernel
theorem dX6_presentKind_27 : decode cX6_presentKind 27 = .ok (.ireturn, 1) := by decide +kernel
theorem dX6_presentKind_28 : decode cX6_presentKind 28 = .ok (.aload_n 0, 1) := by decide +kernel
theorem dX6_presentKind_29 : decode cX6_presentKind 29 = .ok (.getfield 15, 3) := by decide +kernel
theorem dX6_presentKind_32 : decode cX6_presentKind 32 = .ok (.ldc 135, 2) := by decide +kernel
theorem dX6_presentKind_34 : decode cX6_presentKind 34 = .ok (.invokevirtual 21, 3) := by decide +kernel
theorem dX6_presentKind_37 : decode cX6_presentKind 37 = .ok (.ifCond .eq 5, 3) := by decide +kernel
theorem dX6_presentKind_40 : decode cX6_presentKind 40 = .ok (.iconst 2, 1) := by decide +kernel
theorem dX6_presentKind_41 : decode cX6_presentKind 41 = .ok (.ireturn, 1) := by decide +kernel
theorem dX6_presentKind_42 : decode cX6_presentKind 42 = .ok (.aload_n 0, 1) := by decide +kernel
theorem dX6_presentKind_43 : decode cX6_presentKind 43 = .ok (.getfield 15, 3) := by decide +kernel
theorem dX6_presentKind_46 : decode cX6_presentKind 46 = .ok (.ldc 137, 2) := by decide +kernel
theorem dX6_presentKind_48 : decode cX6_presentKind 48 = .ok (.invokevirtual 21, 3) := by decide +kernel
theorem dX6_presentKind_51 : decode cX6_presentKind 51 = .ok (.ifCond .eq 7, 3) := by decide +kernel
theorem dX6_presentKind_54 : decode cX6_presentKind 54 = .ok (.iconst 3, 1) := by decide +kernel
theorem dX6_presentKind_55 : decode cX6_presentKind 55 = .ok (.goto 4, 3) := by decide +kernel
theorem dX6_presentKind_58 : decode cX6_presentKind 58 = .ok (.iconst (-1), 1) := by decide +kernel
theorem dX6_presentKind_59 : decode cX6_presentKind 59 = .ok (.ireturn, 1) := by decide +kernel
theorem dX6_roomyHouse_0 : decode cX6_roomyHouse 0 = .ok (.aload_n 0, 1) := by decide +kernel
theorem dX6_roomyHouse_1 : decode cX6_roomyHouse 1 = .ok (.getfield 15, 3) := by decide +kernel
theorem dX6_roomyHouse_4 : decode cX6_roomyHouse 4 = .ok (.getfield 139, 3) := by decide +kernel
theorem dX6_roomyHouse_7 : decode cX6_roomyHouse 7 = .ok (.iconst 2, 1) := by decide +kernel
theorem dX6_roomyHouse_8 : decode cX6_roomyHouse 8 = .ok (.if_icmp .ne 29, 3) := by decide +kernel
theorem dX6_roomyHouse_11 : decode cX6_roomyHouse 11 = .ok (.aload_n 0, 1) := by decide +kernel
theorem dX6_roomyHouse_12 : decode cX6_roomyHouse 12 = .ok (.getfield 11, 3) := by decide +kernel
theorem dX6_roomyHouse_15 : decode cX6_roomyHouse 15 = .ok (.aload_n 0, 1) := by decide +kernel
theorem dX6_roomyHouse_16 : decode cX6_roomyHouse 16 = .ok (.getfield 15, 3) := by decide +kernel
theorem dX6_roomyHouse_19 : decode cX6_roomyHouse 19 = .ok (.getfield 142, 3) := by decide +kernel
theorem dX6_roomyHouse_22 : decode cX6_roomyHouse 22 = .ok (.invokevirtual 145, 3) := by decide +kernel
theorem dX6_roomyHouse_25 : decode cX6_roomyHouse 25 = .ok (.invokestatic 149, 3) := by decide +kernel
theorem dX6_roomyHouse_28 : decode cX6_roomyHouse 28 = .ok (.bipush 6, 2) := by decide +kernel
theorem dX6_roomyHouse_30 : decode cX6_roomyHouse 30 = .ok (.if_icmp .lt 7, 3) := by decide +kernel
theorem dX6_roomyHouse_33 : decode cX6_roomyHouse 33 = .ok (.iconst 1, 1) := by decide +kernel
theorem dX6_roomyHouse_34 : decode cX6_roomyHouse 34 = .ok (.goto 4, 3) := by decide +kernel
theorem dX6_roomyHouse_37 : decode cX6_roomyHouse 37 = .ok (.iconst 0, 1) := by decide +kernel
theorem dX6_roomyHouse_38 : decode cX6_roomyHouse 38 = .ok (.istore_n 1, 1) := by decide +kernel
theorem dX6_roomyHouse_39 : decode cX6_roomyHouse 39 = .ok (.iload_n 1, 1) := by decide +kernel
theorem dX6_roomyHouse_40 : decode cX6_roomyHouse 40 = .ok (.ifCond .eq 13, 3) := by decide +kernel
theorem dX6_roomyHouse_43 : decode cX6_roomyHouse 43 = .ok (.aload_n 0, 1) := by decide +kernel
theorem dX6_roomyHouse_44 : decode cX6_roomyHouse 44 = .ok (.getfield 15, 3) := by decide +kernel
theorem dX6_roomyHouse_47 : decode cX6_roomyHouse 47 = .ok (.invokevirtual 50, 3) := by decide +kernel
theorem dX6_roomyHouse_50 : decode cX6_roomyHouse 50 = .ok (.pop, 1) := by decide +kernel
theorem dX6_roomyHouse_51 : decode cX6_roomyHouse 51 = .ok (.iconst (-1), 1) := by decide +kernel
theorem dX6_roomyHouse_52 : decode cX6_roomyHouse 52 = .ok (.ireturn, 1) := by decide +kernel
theorem dX6_roomyHouse_53 : decode cX6_roomyHouse 53 = .ok (.aload_n 0, 1) := by decide +kernel
theorem dX6_roomyHouse_54 : decode cX6_roomyHouse 54 = .ok (.getfield 15, 3) := by decide +kernel
theorem dX6_roomyHouse_57 : decode cX6_roomyHouse 57 = .ok (.iconst 0, 1) := by decide +kernel
theorem dX6_roomyHouse_58 : decode cX6_roomyHouse 58 = .ok (.aload_n 0, 1) := by decide +kernel
theorem dX6_roomyHouse_59 : decode cX6_roomyHouse 59 = .ok (.getfield 11, 3) := by decide +kernel
theorem dX6_roomyHouse_62 : decode cX6_roomyHouse 62 = .ok (.getfield 44, 3) := by decide +kernel
theorem dX6_roomyHouse_65 : decode cX6_roomyHouse 65 = .ok (.iconst 1, 1) := by decide +kernel
theorem dX6_roomyHouse_66 : decode cX6_roomyHouse 66 = .ok (.isub, 1) := by decide +kernel
theorem dX6_roomyHouse_67 : decode cX6_roomyHouse 67 = .ok (.invokevirtual 86, 3) := by decide +kernel
theorem dX6_roomyHouse_70 : decode cX6_roomyHouse 70 = .ok (.ireturn, 1) := by decide +kernel
theorem dX6_readSetting_0 : decode cX6_readSetting 0 = .ok (.aload_n 0, 1) := by decide +kernel
theorem dX6_readSetting_1 : decode cX6_readSetting 1 = .ok (.getfield 15, 3) := by decide +kernel
theorem dX6_readSetting_4 : decode cX6_readSetting 4 = .ok (.ldc 154, 2) := by decide +kernel
theorem dX6_readSetting_6 : decode cX6_readSetting 6 = .ok (.invokevirtual 21, 3) := by decide +kernel
theorem dX6_readSetting_9 : decode cX6_readSetting 9 = .ok (.ifCond .eq 36, 3) := by decide +kernel
theorem dX6_readSetting_12 : decode cX6_readSetting 12 = .ok (.aload_n 0, 1) := by decide +kernel
theorem dX6_readSetting_13 : decode cX6_readSetting 13 = .ok (.getfield 11, 3) := by decide +kernel
theorem dX6_readSetting_16 : decode cX6_readSetting 16 = .ok (.aload_n 0, 1) := by decide +kernel
theorem dX6_readSetting_17 : decode cX6_readSetting 17 = .ok (.ldc 154, 2) := by decide +kernel
theorem dX6_readSetting_19 : decode cX6_readSetting 19 = .ok (.iconst 0, 1) := by decide +kernel
theorem dX6_readSetting_20 : decode cX6_readSetting 20 = .ok (.bipush 20, 2) := by decide +kernel
theorem dX6_readSetting_22 : decode cX6_readSetting 22 = .ok (.invokevirtual 57, 3) := by decide +kernel
theorem dX6_readSetting_25 : decode cX6_readSetting 25 = .ok (.putfield 156, 3) := by decide +kernel
theorem dX6_readSetting_28 : decode cX6_readSetting 28 = .ok (.aload_n 0, 1) := by decide +kernel
theorem dX6_readSetting_29 : decode cX6_readSetting 29 = .ok (.getfield 11, 3) := by decide +kernel
theorem dX6_readSetting_32 : decode cX6_readSetting 32 = .ok (.getfield 156, 3) := by decide +kernel
theorem dX6_readSetting_35 : decode cX6_readSetting 35 = .ok (.iconst (-1), 1) := by decide +kernel
theorem dX6_readSetting_36 : decode cX6_readSetting 36 = .ok (.if_icmp .eq 7, 3) := by decide +kernel
theorem dX6_readSetting_39 : decode cX6_readSetting 39 = .ok (.iconst 1, 1) := by decide +kernel
theorem dX6_readSetting_40 : decode cX6_readSetting 40 = .ok (.goto 4, 3) := by decide +kernel
theorem dX6_readSetting_43 : decode cX6_readSetting 43 = .ok (.iconst 0, 1) := by decide +kernel
theorem dX6_readSetting_44 : decode cX6_readSetting 44 = .ok (.ireturn, 1) := by decide +kernel
theorem dX6_readSetting_45 : decode cX6_readSetting 45 = .ok (.aload_n 0, 1) := by decide +kernel
theorem dX6_readSetting_46 : decode cX6_readSetting 46 = .ok (.getfield 15, 3) := by decide +kernel
theorem dX6_readSetting_49 : decode cX6_readSetting 49 = .ok (.ldc 158, 2) := by decide +kernel
theorem dX6_readSetting_51 : decode cX6_readSetting 51 = .ok (.invokevirtual 21, 3) := by decide +kernel
theorem dX6_readSetting_54 : decode cX6_readSetting 54 = .ok (.ifCond .eq 36, 3) := by decide +kernel
theorem dX6_readSetting_57 : decode cX6_readSetting 57 = .ok (.aload_n 0, 1) := by decide +kernel
theorem dX6_readSetting_58 : decode cX6_readSetting 58 = .ok (.getfield 11, 3) := by decide +kernel
theorem dX6_readSetting_61 : decode cX6_readSetting 61 = .ok (.aload_n 0, 1) := by decide +kernel
theorem dX6_readSetting_62 : decode cX6_readSetting 62 = .ok (.ldc 158, 2) := by decide +kernel
theorem dX6_readSetting_64 : decode cX6_readSetting 64 = .ok (.iconst 0, 1) := by decide +kernel
theorem dX6_readSetting_65 : decode cX6_readSetting 65 = .ok (.bipush 50, 2) := by decide +kernel
theorem dX6_readSetting_67 : decode cX6_readSetting 67 = .ok (.invokevirtual 57, 3) := by decide +kernel
theorem dX6_readSetting_70 : decode cX6_readSetting 70 = .ok (.putfield 160, 3) := by decide +kernel
theorem dX6_readSetting_73 : decode cX6_readSetting 73 = .ok (.aload_n 0, 1) := by decide +kernel
theorem dX6_readSetting_74 : decode cX6_readSetting 74 = .ok (.getfield 11, 3) := by decide +kernel
theorem dX6_readSetting_77 : decode cX6_readSetting 77 = .ok (.getfield 160, 3) := by decide +kernel
theorem dX6_readSetting_80 : decode cX6_readSetting 80 = .ok (.iconst (-1), 1) := by decide +kernel
theorem dX6_readSetting_81 : decode cX6_readSetting 81 = .ok (.if_icmp .eq 7, 3) := by decide +kernel
theorem dX6_readSetting_84 : decode cX6_readSetting 84 = .ok (.iconst 1, 1) := by decide +kernel
theorem dX6_readSetting_85 : decode cX6_readSetting 85 = .ok (.goto 4, 3) := by decide +kernel
theorem dX6_readSetting_88 : decode cX6_readSetting 88 = .ok (.iconst 0, 1) := by decide +kernel
theorem dX6_readSetting_89 : decode cX6_readSetting 89 = .ok (.ireturn, 1) := by decide +kernel
theorem dX6_readSetting_90 : decode cX6_readSetting 90 = .ok (.aload_n 0, 1) := by decide +kernel
theorem dX6_readSetting_91 : decode cX6_readSetting 91 = .ok (.getfield 15, 3) := by decide +kernel
theorem dX6_readSetting_94 : decode cX6_readSetting 94 = .ok (.ldc 162, 2) := by decide +kernel
theorem dX6_readSetting_96 : decode cX6_readSetting 96 = .ok (.invokevirtual 21, 3) := by decide +kernel
theorem dX6_readSetting_99 : decode cX6_readSetting 99 = .ok (.ifCond .eq 36, 3) := by decide +kernel
theorem dX6_readSetting_102 : decode cX6_readSetting 102 = .ok (.aload_n 0, 1) := by decide +kernel
theorem dX6_readSetting_103 : decode cX6_readSetting 103 = .ok (.getfield 11, 3) := by decide +kernel
theorem dX6_readSetting_106 : decode cX6_readSetting 106 = .ok (.aload_n 0, 1) := by decide +kernel
theorem dX6_readSetting_107 : decode cX6_readSetting 107 = .ok (.ldc 162, 2) := by decide +kernel
theorem dX6_readSetting_109 : decode cX6_readSetting 109 = .ok (.iconst 0, 1) := by decide +kernel
theorem dX6_readSetting_110 : decode cX6_readSetting 110 = .ok (.bipush 100, 2) := by decide +kernel
theorem dX6_readSetting_112 : decode cX6_readSetting 112 = .ok (.invokevirtual 57, 3) := by decide +kernel
theorem dX6_readSetting_115 : decode cX6_readSetting 115 = .ok (.putfield 164, 3) := by decide +kernel
theorem dX6_readSetting_118 : decode cX6_readSetting 118 = .ok (.aload_n 0, 1) := by decide +kernel
theorem dX6_readSetting_119 : decode cX6_readSetting 119 = .ok (.getfield 11, 3) := by decide +kernel
theorem dX6_readSetting_122 : decode cX6_readSetting 122 = .ok (.getfield 164, 3) := by decide +kernel
theorem dX6_readSetting_125 : decode cX6_readSetting 125 = .ok (.iconst (-1), 1) := by decide +kernel
theorem dX6_readSetting_126 : decode cX6_readSetting 126 = .ok (.if_icmp .eq 7, 3) := by decide +kernel
theorem dX6_readSetting_129 : decode cX6_readSetting 129 = .ok (.iconst 1, 1) := by decide +kernel
theorem dX6_readSetting_130 : decode cX6_readSetting 130 = .ok (.goto 4, 3) := by decide +kernel
theorem dX6_readSetting_133 : decode cX6_readSetting 133 = .ok (.iconst 0, 1) := by decide +kernel
theorem dX6_readSetting_134 : decode cX6_readSetting 134 = .ok (.ireturn, 1) := by decide +kernel
theorem dX6_readSetting_135 : decode cX6_readSetting 135 = .ok (.aload_n 0, 1) := by decide +kernel
theorem dX6_readSetting_136 : decode cX6_readSetting 136 = .ok (.getfield 15, 3) := by decide +kernel
theorem dX6_readSetting_139 : decode cX6_readSetting 139 = .ok (.ldc 166, 2) := by decide +kernel
theorem dX6_readSetting_141 : decode cX6_readSetting 141 = .ok (.invokevirtual 21, 3) := by decide +kernel
theorem dX6_readSetting_144 : decode cX6_readSetting 144 = .ok (.ifCond .eq 36, 3) := by decide +kernel
theorem dX6_readSetting_147 : decode cX6_readSetting 147 = .ok (.aload_n 0, 1) := by decide +kernel
theorem dX6_readSetting_148 : decode cX6_readSetting 148 = .ok (.getfield 11, 3) := by decide +kernel
theorem dX6_readSetting_151 : decode cX6_readSetting 151 = .ok (.aload_n 0, 1) := by decide +kernel
theorem dX6_readSetting_152 : decode cX6_readSetting 152 = .ok (.ldc 166, 2) := by decide +kernel
theorem dX6_readSetting_154 : decode cX6_readSetting 154 = .ok (.iconst 0, 1) := by decide +kernel
theorem dX6_readSetting_155 : decode cX6_readSetting 155 = .ok (.bipush 20, 2) := by decide +kernel
theorem dX6_readSetting_157 : decode cX6_readSetting 157 = .ok (.invokevirtual 57, 3) := by decide +kernel
theorem dX6_readSetting_160 : decode cX6_readSetting 160 = .ok (.putfield 168, 3) := by decide +kernel
theorem dX6_readSetting_163 : decode cX6_readSetting 163 = .ok (.aload_n 0, 1) := by decide +kernel
theorem dX6_readSetting_164 : decode cX6_readSetting 164 = .ok (.getfield 11, 3) := by decide +kernel
theorem dX6_readSetting_167 : decode cX6_readSetting 167 = .ok (.getfield 168, 3) := by decide +kernel
theorem dX6_readSetting_170 : decode cX6_readSetting 170 = .ok (.iconst (-1), 1) := by decide +kernel
theorem dX6_readSetting_171 : decode cX6_readSetting 171 = .ok (.if_icmp .eq 7, 3) := by decide +kernel
theorem dX6_readSetting_174 : decode cX6_readSetting 174 = .ok (.iconst 1, 1) := by decide +kernel
theorem dX6_readSetting_175 : decode cX6_readSetting 175 = .ok (.goto 4, 3) := by decide +kernel
theorem dX6_readSetting_178 : decode cX6_readSetting 178 = .ok (.iconst 0, 1) := by decide +kernel
theorem dX6_readSetting_179 : decode cX6_readSetting 179 = .ok (.ireturn, 1) := by decide +kernel
theorem dX6_readSetting_180 : decode cX6_readSetting 180 = .ok (.aload_n 0, 1) := by decide +kernel
theorem dX6_readSetting_181 : decode cX6_readSetting 181 = .ok (.getfield 15, 3) := by decide +kernel
theorem dX6_readSetting_184 : decode cX6_readSetting 184 = .ok (.ldc 170, 2) := by decide +kernel
theorem dX6_readSetting_186 : decode cX6_readSetting 186 = .ok (.invokevirtual 21, 3) := by decide +kernel
theorem dX6_readSetting_189 : decode cX6_readSetting 189 = .ok (.ifCond .eq 37, 3) := by decide +kernel
theorem dX6_readSetting_192 : decode cX6_readSetting 192 = .ok (.aload_n 0, 1) := by decide +kernel
theorem dX6_readSetting_193 : decode cX6_readSetting 193 = .ok (.getfield 11, 3) := by decide +kernel
theorem dX6_readSetting_196 : decode cX6_readSetting 196 = .ok (.aload_n 0, 1) := by decide +kernel
theorem dX6_readSetting_197 : decode cX6_readSetting 197 = .ok (.ldc 170, 2) := by decide +kernel
theorem dX6_readSetting_199 : decode cX6_readSetting 199 = .ok (.iconst 0, 1) := by decide +kernel
theorem dX6_readSetting_200 : decode cX6_readSetting 200 = .ok (.sipush 999, 3) := by decide +kernel
theorem dX6_readSetting_203 : decode cX6_readSetting 203 = .ok (.invokevirtual 57, 3) := by decide +kernel
theorem dX6_readSetting_206 : decode cX6_readSetting 206 = .ok (.putfield 172, 3) := by decide +kernel
theorem dX6_readSetting_209 : decode cX6_readSetting 209 = .ok (.aload_n 0, 1) := by decide +kernel
theorem dX6_readSetting_210 : decode cX6_readSetting 210 = .ok (.getfield 11, 3) := by decide +kernel
theorem dX6_readSetting_213 : decode cX6_readSetting 213 = .ok (.getfield 172, 3) := by decide +kernel
theorem dX6_readSetting_216 : decode cX6_readSetting 216 = .ok (.iconst (-1), 1) := by decide +kernel
theorem dX6_readSetting_217 : decode cX6_readSetting 217 = .ok (.if_icmp .eq 7, 3) := by decide +kernel
theorem dX6_readSetting_220 : decode cX6_readSetting 220 = .ok (.iconst 1, 1) := by decide +kernel
theorem dX6_readSetting_221 : decode cX6_readSetting 221 = .ok (.goto 4, 3) := by decide +kernel
theorem dX6_readSetting_224 : decode cX6_readSetting 224 = .ok (.iconst 0, 1) := by decide +kernel
theorem dX6_readSetting_225 : decode cX6_readSetting 225 = .ok (.ireturn, 1) := by decide +kernel
theorem dX6_readSetting_226 : decode cX6_readSetting 226 = .ok (.aload_n 0, 1) := by decide +kernel
theorem dX6_readSetting_227 : decode cX6_readSetting 227 = .ok (.getfield 15, 3) := by decide +kernel
theorem dX6_readSetting_230 : decode cX6_readSetting 230 = .ok (.invokevirtual 50, 3) := by decide +kernel
theorem dX6_readSetting_233 : decode cX6_readSetting 233 = .ok (.ireturn, 1) := by decide +kernel
theorem dX6_numberAfter_0 : decode cX6_numberAfter 0 = .ok (.aload_n 0, 1) := by decide +kernel
theorem dX6_numberAfter_1 : decode cX6_numberAfter 1 = .ok (.getfield 15, 3) := by decide +kernel
theorem dX6_numberAfter_4 : decode cX6_numberAfter 4 = .ok (.aload_n 1, 1) := by decide +kernel
theorem dX6_numberAfter_5 : decode cX6_numberAfter 5 = .ok (.invokevirtual 108, 3) := by decide +kernel
theorem dX6_numberAfter_8 : decode cX6_numberAfter 8 = .ok (.ifCond .ne 5, 3) := by decide +kernel
theorem dX6_numberAfter_11 : decode cX6_numberAfter 11 = .ok (.iconst (-1), 1) := by decide +kernel
theorem dX6_numberAfter_12 : decode cX6_numberAfter 12 = .ok (.ireturn, 1) := by decide +kernel
theorem dX6_numberAfter_13 : decode cX6_numberAfter 13 = .ok (.aload_n 0, 1) := by decide +kernel
theorem dX6_numberAfter_14 : decode cX6_numberAfter 14 = .ok (.getfield 15, 3) := by decide +kernel
theorem dX6_numberAfter_17 : decode cX6_numberAfter 17 = .ok (.iload_n 2, 1) := by decide +kernel
theorem dX6_numberAfter_18 : decode cX6_numberAfter 18 = .ok (.iload_n 3, 1) := by decide +kernel
theorem dX6_numberAfter_19 : decode cX6_numberAfter 19 = .ok (.invokevirtual 86, 3) := by decide +kernel
theorem dX6_numberAfter_22 : decode cX6_numberAfter 22 = .ok (.ireturn, 1) := by decide +kernel
theorem dX7_init_0 : decode cX7_init 0 = .ok (.aload_n 0, 1) := by decide +kernel
theorem dX7_init_1 : decode cX7_init 1 = .ok (.invokespecial 1, 3) := by decide +kernel
theorem dX7_init_4 : decode cX7_init 4 = .ok (.aload_n 0, 1) := by decide +kernel
theorem dX7_init_5 : decode cX7_init 5 = .ok (.bipush 12, 2) := by decide +kernel
theorem dX7_init_7 : decode cX7_init 7 = .ok (.anewarray 9, 3) := by decide +kernel
theorem dX7_init_10 : decode cX7_init 10 = .ok (.putfield 11, 3) := by decide +kernel
theorem dX7_init_13 : decode cX7_init 13 = .ok (.aload_n 0, 1) := by decide +kernel
theorem dX7_init_14 : decode cX7_init 14 = .ok (.iconst 0, 1) := by decide +kernel
theorem dX7_init_15 : decode cX7_init 15 = .ok (.putfield 15, 3) := by decide +kernel
theorem dX7_init_18 : decode cX7_init 18 = .ok (.aload_n 0, 1) := by decide +kernel
theorem dX7_init_19 : decode cX7_init 19 = .ok (.iconst 0, 1) := by decide +kernel
theorem dX7_init_20 : decode cX7_init 20 = .ok (.putfield 19, 3) := by decide +kernel
theorem dX7_init_23 : decode cX7_init 23 = .ok (.iconst 0, 1) := by decide +kernel
theorem dX7_init_24 : decode cX7_init 24 = .ok (.istore_n 1, 1) := by decide +kernel
theorem dX7_init_25 : decode cX7_init 25 = .ok (.iload_n 1, 1) := by decide +kernel
theorem dX7_init_26 : decode cX7_init 26 = .ok (.bipush 12, 2) := by decide +kernel
theorem dX7_init_28 : decode cX7_init 28 = .ok (.if_icmp .ge 22, 3) := by decide +kernel
theorem dX7_init_31 : decode cX7_init 31 = .ok (.aload_n 0, 1) := by decide +kernel
theorem dX7_init_32 : decode cX7_init 32 = .ok (.getfield 11, 3) := by decide +kernel
theorem dX7_init_35 : decode cX7_init 35 = .ok (.iload_n 1, 1) := by decide +kernel
theorem dX7_init_36 : decode cX7_init 36 = .ok (.new 9, 3) := by decide +kernel
theorem dX7_init_39 : decode cX7_init 39 = .ok (.dup, 1) := by decide +kernel
theorem dX7_init_40 : decode cX7_init 40 = .ok (.invokespecial 22, 3) := by decide +kernel
theorem dX7_init_43 : decode cX7_init 43 = .ok (.aastore, 1) := by decide +kernel
theorem dX7_init_44 : decode cX7_init 44 = .ok (.iinc 1 1, 3) := by decide +kernel
theorem dX7_init_47 : decode cX7_init 47 = .ok (.goto (-22), 3) := by decide +kernel
theorem dX7_init_50 : decode cX7_init 50 = .ok (.return_, 1) := by decide +kernel
theorem dX7_remember_0 : decode cX7_remember 0 = .ok (.aload_n 0, 1) := by decide +kernel
theorem dX7_remember_1 : decode cX7_remember 1 = .ok (.getfield 11, 3) := by decide +kernel
theorem dX7_remember_4 : decode cX7_remember 4 = .ok (.aload_n 0, 1) := by decide +kernel
theorem dX7_remember_5 : decode cX7_remember 5 = .ok (.getfield 15, 3) := by decide +kernel
theorem dX7_remember_8 : decode cX7_remember 8 = .ok (.aaload, 1) := by decide +kernel
theorem dX7_remember_9 : decode cX7_remember 9 = .ok (.aload_n 1, 1) := by decide +kernel
theorem dX7_remember_10 : decode cX7_remember 10 = .ok (.invokevirtual 23, 3) := by decide +kernel
theorem dX7_remember_13 : decode cX7_remember 13 = .ok (.aload_n 0, 1) := by decide +kernel
theorem dX7_remember_14 : decode cX7_remember 14 = .ok (.aload_n 0, 1) := by decide +kernel
theorem dX7_remember_15 : decode cX7_remember 15 = .ok (.getfield 15, 3) := by decide +kernel
theorem dX7_remember_18 : decode cX7_remember 18 = .ok (.iconst 1, 1) := by decide +kernel
theorem dX7_remember_19 : decode cX7_remember 19 = .ok (.iadd, 1) := by decide +kernel
theorem dX7_remember_20 : decode cX7_remember 20 = .ok (.bipush 12, 2) := by decide +kernel
theorem dX7_remember_22 : decode cX7_remember 22 = .ok (.irem, 1) := by decide +kernel
theorem dX7_remember_23 : decode cX7_remember 23 = .ok (.putfield 15, 3) := by decide +kernel
theorem dX7_remember_26 : decode cX7_remember 26 = .ok (.aload_n 0, 1) := by decide +kernel
theorem dX7_remember_27 : decode cX7_remember 27 = .ok (.bipush 12, 2) := by decide +kernel
theorem dX7_remember_29 : decode cX7_remember 29 = .ok (.aload_n 0, 1) := by decide +kernel
theorem dX7_remember_30 : decode cX7_remember 30 = .ok (.getfield 19, 3) := by decide +kernel
theorem dX7_remember_33 : decode cX7_remember 33 = .ok (.iconst 1, 1) := by decide +kernel
theorem dX7_remember_34 : decode cX7_remember 34 = .ok (.iadd, 1) := by decide +kernel
theorem dX7_remember_35 : decode cX7_remember 35 = .ok (.invokestatic 27, 3) := by decide +kernel
theorem dX7_remember_38 : decode cX7_remember 38 = .ok (.putfield 19, 3) := by decide +kernel
theorem dX7_remember_41 : decode cX7_remember 41 = .ok (.return_, 1) := by decide +kernel
theorem dX7_recall_0 : decode cX7_recall 0 = .ok (.aload_n 0, 1) := by decide +kernel
theorem dX7_recall_1 : decode cX7_recall 1 = .ok (.getfield 19, 3) := by decide +kernel
theorem dX7_recall_4 : decode cX7_recall 4 = .ok (.ifCond .ne 5, 3) := by decide +kernel
theorem dX7_recall_7 : decode cX7_recall 7 = .ok (.iconst 0, 1) := by decide +kernel
theorem dX7_recall_8 : decode cX7_recall 8 = .ok (.ireturn, 1) := by decide +kernel
theorem dX7_recall_9 : decode cX7_recall 9 = .ok (.aload_n 0, 1) := by decide +kernel
theorem dX7_recall_10 : decode cX7_recall 10 = .ok (.aload_n 0, 1) := by decide +kernel
theorem dX7_recall_11 : decode cX7_recall 11 = .ok (.getfield 15, 3) := by decide +kernel
theorem dX7_recall_14 : decode cX7_recall 14 = .ok (.bipush 12, 2) := by decide +kernel
theorem dX7_recall_16 : decode cX7_recall 16 = .ok (.iadd, 1) := by decide +kernel
theorem dX7_recall_17 : decode cX7_recall 17 = .ok (.iconst 1, 1) := by decide +kernel
theorem dX7_recall_18 : decode cX7_recall 18 = .ok (.isub, 1) := by decide +kernel
theorem dX7_recall_19 : decode cX7_recall 19 = .ok (.bipush 12, 2) := by decide +kernel
theorem dX7_recall_21 : decode cX7_recall 21 = .ok (.irem, 1) := by decide +kernel
theorem dX7_recall_22 : decode cX7_recall 22 = .ok (.putfield 15, 3) := by decide +kernel
theorem dX7_recall_25 : decode cX7_recall 25 = .ok (.aload_n 0, 1) := by decide +kernel
theorem dX7_recall_26 : decode cX7_recall 26 = .ok (.dup, 1) := by decide +kernel
theorem dX7_recall_27 : decode cX7_recall 27 = .ok (.getfield 19, 3) := by decide +kernel
theorem dX7_recall_30 : decode cX7_recall 30 = .ok (.iconst 1, 1) := by decide +kernel
theorem dX7_recall_31 : decode cX7_recall 31 = .ok (.isub, 1) := by decide +kernel
theorem dX7_recall_32 : decode cX7_recall 32 = .ok (.putfield 19, 3) := by decide +kernel
theorem dX7_recall_35 : decode cX7_recall 35 = .ok (.aload_n 1, 1) := by decide +kernel
theorem dX7_recall_36 : decode cX7_recall 36 = .ok (.aload_n 0, 1) := by decide +kernel
theorem dX7_recall_37 : decode cX7_recall 37 = .ok (.getfield 11, 3) := by decide +kernel
theorem dX7_recall_40 : decode cX7_recall 40 = .ok (.aload_n 0, 1) := by decide +kernel
theorem dX7_recall_41 : decode cX7_recall 41 = .ok (.getfield 15, 3) := by decide +kernel
theorem dX7_recall_44 : decode cX7_recall 44 = .ok (.aaload, 1) := by decide +kernel
theorem dX7_recall_45 : decode cX7_recall 45 = .ok (.invokevirtual 23, 3) := by decide +kernel
theorem dX7_recall_48 : decode cX7_recall 48 = .ok (.iconst 1, 1) := by decide +kernel
theorem dX7_recall_49 : decode cX7_recall 49 = .ok (.ireturn, 1) := by decide +kernel
theorem dX7_forget_0 : decode cX7_forget 0 = .ok (.aload_n 0, 1) := by decide +kernel
theorem dX7_forget_1 : decode cX7_forget 1 = .ok (.iconst 0, 1) := by decide +kernel
theorem dX7_forget_2 : decode cX7_forget 2 = .ok (.putfield 19, 3) := by decide +kernel
theorem dX7_forget_5 : decode cX7_forget 5 = .ok (.return_, 1) := by decide +kernel
theorem dX8_init_0 : decode cX8_init 0 = .ok (.aload_n 0, 1) := by decide +kernel
theorem dX8_init_1 : decode cX8_init 1 = .ok (.invokespecial 3, 3) := by decide +kernel
theorem dX8_init_4 : decode cX8_init 4 = .ok (.aload_n 0, 1) := by decide +kernel
theorem dX8_init_5 : decode cX8_init 5 = .ok (.bipush 84, 2) := by decide +kernel
theorem dX8_init_7 : decode cX8_init 7 = .ok (.newarray .int, 2) := by decide +kernel
theorem dX8_init_9 : decode cX8_init 9 = .ok (.putfield 11, 3) := by decide +kernel
theorem dX8_init_12 : decode cX8_init 12 = .ok (.aload_n 0, 1) := by decide +kernel
theorem dX8_init_13 : decode cX8_init 13 = .ok (.iconst 0, 1) := by decide +kernel
theorem dX8_init_14 : decode cX8_init 14 = .ok (.putfield 15, 3) := by decide +kernel
theorem dX8_init_17 : decode cX8_init 17 = .ok (.aload_n 0, 1) := by decide +kernel
theorem dX8_init_18 : decode cX8_init 18 = .ok (.iconst 0, 1) := by decide +kernel
theorem dX8_init_19 : decode cX8_init 19 = .ok (.putfield 19, 3) := by decide +kernel
theorem dX8_init_22 : decode cX8_init 22 = .ok (.aload_n 0, 1) := by decide +kernel
theorem dX8_init_23 : decode cX8_init 23 = .ok (.iconst 0, 1) := by decide +kernel
theorem dX8_init_24 : decode cX8_init 24 = .ok (.putfield 22, 3) := by decide +kernel
theorem dX8_init_27 : decode cX8_init 27 = .ok (.aload_n 0, 1) := by decide +kernel
theorem dX8_init_28 : decode cX8_init 28 = .ok (.aload_n 1, 1) := by decide +kernel
theorem dX8_init_29 : decode cX8_init 29 = .ok (.putfield 25, 3) := by decide +kernel
theorem dX8_init_32 : decode cX8_init 32 = .ok (.return_, 1) := by decide +kernel
theorem dX8_learnCharges_0 : decode cX8_learnCharges 0 = .ok (.iconst 0, 1) := by decide +kernel
theorem dX8_learnCharges_1 : decode cX8_learnCharges 1 = .ok (.istore_n 1, 1) := by decide +kernel
theorem dX8_learnCharges_2 : decode cX8_learnCharges 2 = .ok (.iload_n 1, 1) := by decide +kernel
theorem dX8_learnCharges_3 : decode cX8_learnCharges 3 = .ok (.aload_n 0, 1) := by decide +kernel
theorem dX8_learnCharges_4 : decode cX8_learnCharges 4 = .ok (.getfield 25, 3) := by decide +kernel
theorem dX8_learnCharges_7 : decode cX8_learnCharges 7 = .ok (.getfield 29, 3) := by decide +kernel
theorem dX8_learnCharges_10 : decode cX8_learnCharges 10 = .ok (.if_icmp .ge 43, 3) := by decide +kernel
theorem dX8_learnCharges_13 : decode cX8_learnCharges 13 = .ok (.iconst 0, 1) := by decide +kernel
theorem dX8_learnCharges_14 : decode cX8_learnCharges 14 = .ok (.istore_n 2, 1) := by decide +kernel
theorem dX8_learnCharges_15 : decode cX8_learnCharges 15 = .ok (.iload_n 2, 1) := by decide +kernel
theorem dX8_learnCharges_16 : decode cX8_learnCharges 16 = .ok (.bipush 7, 2) := by decide +kernel
theorem dX8_learnCharges_18 : decode cX8_learnCharges 18 = .ok (.if_icmp .ge 29, 3) := by decide +kernel
theorem dX8_learnCharges_21 : decode cX8_learnCharges 21 = .ok (.aload_n 0, 1) := by decide +kernel
theorem dX8_learnCharges_22 : decode cX8_learnCharges 22 = .ok (.getfield 11, 3) := by decide +kernel
theorem dX8_learnCharges_25 : decode cX8_learnCharges 25 = .ok (.iload_n 1, 1) := by decide +kernel
theorem dX8_learnCharges_26 : decode cX8_learnCharges 26 = .ok (.bipush 7, 2) := by decide +kernel
theorem dX8_learnCharges_28 : decode cX8_learnCharges 28 = .ok (.imul, 1) := by decide +kernel
theorem dX8_learnCharges_29 : decode cX8_learnCharges 29 = .ok (.iload_n 2, 1) := by decide +kernel
theorem dX8_learnCharges_30 : decode cX8_learnCharges 30 = .ok (.iadd, 1) := by decide +kernel
theorem dX8_learnCharges_31 : decode cX8_learnCharges 31 = .ok (.aload_n 0, 1) := by decide +kernel
theorem dX8_learnCharges_32 : decode cX8_learnCharges 32 = .ok (.getfield 25, 3) := by decide +kernel
theorem dX8_learnCharges_35 : decode cX8_learnCharges 35 = .ok (.iload_n 1, 1) := by decide +kernel
theorem dX8_learnCharges_36 : decode cX8_learnCharges 36 = .ok (.iload_n 2, 1) := by decide +kernel
theorem dX8_learnCharges_37 : decode cX8_learnCharges 37 = .ok (.invokevirtual 34, 3) := by decide +kernel
theorem dX8_learnCharges_40 : decode cX8_learnCharges 40 = .ok (.iastore, 1) := by decide +kernel
theorem dX8_learnCharges_41 : decode cX8_learnCharges 41 = .ok (.iinc 2 1, 3) := by decide +kernel
theorem dX8_learnCharges_44 : decode cX8_learnCharges 44 = .ok (.goto (-29), 3) := by decide +kernel
theorem dX8_learnCharges_47 : decode cX8_learnCharges 47 = .ok (.iinc 1 1, 3) := by decide +kernel
theorem dX8_learnCharges_50 : decode cX8_learnCharges 50 = .ok (.goto (-48), 3) := by decide +kernel
theorem dX8_learnCharges_53 : decode cX8_learnCharges 53 = .ok (.return_, 1) := by decide +kernel
theorem dX8_bestWalls_0 : decode cX8_bestWalls 0 = .ok (.aload_n 0, 1) := by decide +kernel
theorem dX8_bestWalls_1 : decode cX8_bestWalls 1 = .ok (.iload_n 1, 1) := by decide +kernel
theorem dX8_bestWalls_2 : decode cX8_bestWalls 2 = .ok (.invokevirtual 38, 3) := by decide +kernel
theorem dX8_bestWalls_5 : decode cX8_bestWalls 5 = .ok (.istore_n 3, 1) := by decide +kernel
theorem dX8_bestWalls_6 : decode cX8_bestWalls 6 = .ok (.aload_n 0, 1) := by decide +kernel
theorem dX8_bestWalls_7 : decode cX8_bestWalls 7 = .ok (.getfield 25, 3) := by decide +kernel
theorem dX8_bestWalls_10 : decode cX8_bestWalls 10 = .ok (.iload_n 1, 1) := by decide +kernel
theorem dX8_bestWalls_11 : decode cX8_bestWalls 11 = .ok (.invokevirtual 42, 3) := by decide +kernel
theorem dX8_bestWalls_14 : decode cX8_bestWalls 14 = .ok (.istore 4, 2) := by decide +kernel
theorem dX8_bestWalls_16 : decode cX8_bestWalls 16 = .ok (.aload_n 0, 1) := by decide +kernel
theorem dX8_bestWalls_17 : decode cX8_bestWalls 17 = .ok (.getfield 25, 3) := by decide +kernel
theorem dX8_bestWalls_20 : decode cX8_bestWalls 20 = .ok (.iload_n 1, 1) := by decide +kernel
theorem dX8_bestWalls_21 : decode cX8_bestWalls 21 = .ok (.invokevirtual 45, 3) := by decide +kernel
theorem dX8_bestWalls_24 : decode cX8_bestWalls 24 = .ok (.istore 5, 2) := by decide +kernel
theorem dX8_bestWalls_26 : decode cX8_bestWalls 26 = .ok (.iconst 1, 1) := by decide +kernel
theorem dX8_bestWalls_27 : decode cX8_bestWalls 27 = .ok (.iload_n 3, 1) := by decide +kernel
theorem dX8_bestWalls_28 : decode cX8_bestWalls 28 = .ok (.invokestatic 48, 3) := by decide +kernel
theorem dX8_bestWalls_31 : decode cX8_bestWalls 31 = .ok (.ishl, 1) := by decide +kernel
theorem dX8_bestWalls_32 : decode cX8_bestWalls 32 = .ok (.istore 6, 2) := by decide +kernel
theorem dX8_bestWalls_34 : decode cX8_bestWalls 34 = .ok (.iconst 0, 1) := by decide +kernel
theorem dX8_bestWalls_35 : decode cX8_bestWalls 35 = .ok (.istore 7, 2) := by decide +kernel
theorem dX8_bestWalls_37 : decode cX8_bestWalls 37 = .ok (.iconst 0, 1) := by decide +kernel
theorem dX8_bestWalls_38 : decode cX8_bestWalls 38 = .ok (.istore 8, 2) := by decide +kernel
theorem dX8_bestWalls_40 : decode cX8_bestWalls 40 = .ok (.iconst 0, 1) := by decide +kernel
theorem dX8_bestWalls_41 : decode cX8_bestWalls 41 = .ok (.istore 9, 2) := by decide +kernel
theorem dX8_bestWalls_43 : decode cX8_bestWalls 43 = .ok (.iload 9, 2) := by decide +kernel
theorem dX8_bestWalls_45 : decode cX8_bestWalls 45 = .ok (.iload 6, 2) := by decide +kernel
theorem dX8_bestWalls_47 : decode cX8_bestWalls 47 = .ok (.if_icmp .ge 85, 3) := by decide +kernel
theorem dX8_bestWalls_50 : decode cX8_bestWalls 50 = .ok (.iload 4, 2) := by decide +kernel
theorem dX8_bestWalls_52 : decode cX8_bestWalls 52 = .ok (.iload 8, 2) := by decide +kernel
theorem dX8_bestWalls_54 : decode cX8_bestWalls 54 = .ok (.invokestatic 48, 3) := by decide +kernel
theorem dX8_bestWalls_57 : decode cX8_bestWalls 57 = .ok (.isub, 1) := by decide +kernel
theorem dX8_bestWalls_58 : decode cX8_bestWalls 58 = .ok (.istore 10, 2) := by decide +kernel
theorem dX8_bestWalls_60 : decode cX8_bestWalls 60 = .ok (.iconst 2, 1) := by decide +kernel
theorem dX8_bestWalls_61 : decode cX8_bestWalls 61 = .ok (.iload 5, 2) := by decide +kernel
theorem dX8_bestWalls_63 : decode cX8_bestWalls 63 = .ok (.aload_n 0, 1) := by decide +kernel
theorem dX8_bestWalls_64 : decode cX8_bestWalls 64 = .ok (.iload 8, 2) := by decide +kernel
theorem dX8_bestWalls_66 : decode cX8_bestWalls 66 = .ok (.invokevirtual 53, 3) := by decide +kernel
theorem dX8_bestWalls_69 : decode cX8_bestWalls 69 = .ok (.isub, 1) := by decide +kernel
theorem dX8_bestWalls_70 : decode cX8_bestWalls 70 = .ok (.imul, 1) := by decide +kernel
theorem dX8_bestWalls_71 : decode cX8_bestWalls 71 = .ok (.aload_n 0, 1) := by decide +kernel
theorem dX8_bestWalls_72 : decode cX8_bestWalls 72 = .ok (.iload_n 3, 1) := by decide +kernel
theorem dX8_bestWalls_73 : decode cX8_bestWalls 73 = .ok (.iload 8, 2) := by decide +kernel
theorem dX8_bestWalls_75 : decode cX8_bestWalls 75 = .ok (.iconst (-1), 1) := by decide +kernel
theorem dX8_bestWalls_76 : decode cX8_bestWalls 76 = .ok (.ixor, 1) := by decide +kernel
theorem dX8_bestWalls_77 : decode cX8_bestWalls 77 = .ok (.iand, 1) := by decide +kernel
theorem dX8_bestWalls_78 : decode cX8_bestWalls 78 = .ok (.iload 10, 2) := by decide +kernel
theorem dX8_bestWalls_80 : decode cX8_bestWalls 80 = .ok (.iload_n 2, 1) := by decide +kernel
theorem dX8_bestWalls_81 : decode cX8_bestWalls 81 = .ok (.invokevirtual 56, 3) := by decide +kernel
theorem dX8_bestWalls_84 : decode cX8_bestWalls 84 = .ok (.isub, 1) := by decide +kernel
theorem dX8_bestWalls_85 : decode cX8_bestWalls 85 = .ok (.aload_n 0, 1) := by decide +kernel
theorem dX8_bestWalls_86 : decode cX8_bestWalls 86 = .ok (.iload 8, 2) := by decide +kernel
theorem dX8_bestWalls_88 : decode cX8_bestWalls 88 = .ok (.invokevirtual 60, 3) := by decide +kernel
theorem dX8_bestWalls_91 : decode cX8_bestWalls 91 = .ok (.isub, 1) := by decide +kernel
theorem dX8_bestWalls_92 : decode cX8_bestWalls 92 = .ok (.istore 11, 2) := by decide +kernel
theorem dX8_bestWalls_94 : decode cX8_bestWalls 94 = .ok (.iload 9, 2) := by decide +kernel
theorem dX8_bestWalls_96 : decode cX8_bestWalls 96 = .ok (.ifCond .eq 12, 3) := by decide +kernel
theorem dX8_bestWalls_99 : decode cX8_bestWalls 99 = .ok (.iload 11, 2) := by decide +kernel
theorem dX8_bestWalls_101 : decode cX8_bestWalls 101 = .ok (.aload_n 0, 1) := by decide +kernel
theorem dX8_bestWalls_102 : decode cX8_bestWalls 102 = .ok (.getfield 15, 3) := by decide +kernel
theorem dX8_bestWalls_105 : decode cX8_bestWalls 105 = .ok (.if_icmp .le 13, 3) := by decide +kernel
theorem dX8_bestWalls_108 : decode cX8_bestWalls 108 = .ok (.aload_n 0, 1) := by decide +kernel
theorem dX8_bestWalls_109 : decode cX8_bestWalls 109 = .ok (.iload 11, 2) := by decide +kernel
theorem dX8_bestWalls_111 : decode cX8_bestWalls 111 = .ok (.putfield 15, 3) := by decide +kernel
theorem dX8_bestWalls_114 : decode cX8_bestWalls 114 = .ok (.iload 8, 2) := by decide +kernel
theorem dX8_bestWalls_116 : decode cX8_bestWalls 116 = .ok (.istore 7, 2) := by decide +kernel
theorem dX8_bestWalls_118 : decode cX8_bestWalls 118 = .ok (.iload 8, 2) := by decide +kernel
theorem dX8_bestWalls_120 : decode cX8_bestWalls 120 = .ok (.iload_n 3, 1) := by decide +kernel
theorem dX8_bestWalls_121 : decode cX8_bestWalls 121 = .ok (.invokestatic 63, 3) := by decide +kernel
theorem dX8_bestWalls_124 : decode cX8_bestWalls 124 = .ok (.istore 8, 2) := by decide +kernel
theorem dX8_bestWalls_126 : decode cX8_bestWalls 126 = .ok (.iinc 9 1, 3) := by decide +kernel
theorem dX8_bestWalls_129 : decode cX8_bestWalls 129 = .ok (.goto (-86), 3) := by decide +kernel
theorem dX8_bestWalls_132 : decode cX8_bestWalls 132 = .ok (.iload 7, 2) := by decide +kernel
theorem dX8_bestWalls_134 : decode cX8_bestWalls 134 = .ok (.ireturn, 1) := by decide +kernel
theorem dX8_yieldBy_0 : decode cX8_yieldBy 0 = .ok (.iconst 0, 1) := by decide +kernel
theorem dX8_yieldBy_1 : decode cX8_yieldBy 1 = .ok (.istore_n 2, 1) := by decide +kernel
theorem dX8_yieldBy_2 : decode cX8_yieldBy 2 = .ok (.iconst 0, 1) := by decide +kernel
theorem dX8_yieldBy_3 : decode cX8_yieldBy 3 = .ok (.istore_n 3, 1) := by decide +kernel
theorem dX8_yieldBy_4 : decode cX8_yieldBy 4 = .ok (.iload_n 3, 1) := by decide +kernel
theorem dX8_yieldBy_5 : decode cX8_yieldBy 5 = .ok (.aload_n 0, 1) := by decide +kernel
theorem dX8_yieldBy_6 : decode cX8_yieldBy 6 = .ok (.getfield 25, 3) := by decide +kernel
theorem dX8_yieldBy_9 : decode cX8_yieldBy 9 = .ok (.getfield 66, 3) := by decide +kernel
theorem dX8_yieldBy_12 : decode cX8_yieldBy 12 = .ok (.if_icmp .ge 53, 3) := by decide +kernel
theorem dX8_yieldBy_15 : decode cX8_yieldBy 15 = .ok (.aload_n 0, 1) := by decide +kernel
theorem dX8_yieldBy_16 : decode cX8_yieldBy 16 = .ok (.iload_n 3, 1) := by decide +kernel
theorem dX8_yieldBy_17 : decode cX8_yieldBy 17 = .ok (.iload_n 1, 1) := by decide +kernel
theorem dX8_yieldBy_18 : decode cX8_yieldBy 18 = .ok (.invokevirtual 69, 3) := by decide +kernel
theorem dX8_yieldBy_21 : decode cX8_yieldBy 21 = .ok (.istore 4, 2) := by decide +kernel
theorem dX8_yieldBy_23 : decode cX8_yieldBy 23 = .ok (.aload_n 0, 1) := by decide +kernel
theorem dX8_yieldBy_24 : decode cX8_yieldBy 24 = .ok (.getfield 25, 3) := by decide +kernel
theorem dX8_yieldBy_27 : decode cX8_yieldBy 27 = .ok (.iload_n 3, 1) := by decide +kernel
theorem dX8_yieldBy_28 : decode cX8_yieldBy 28 = .ok (.invokevirtual 42, 3) := by decide +kernel
theorem dX8_yieldBy_31 : decode cX8_yieldBy 31 = .ok (.iload 4, 2) := by decide +kernel
theorem dX8_yieldBy_33 : decode cX8_yieldBy 33 = .ok (.invokestatic 48, 3) := by decide +kernel
theorem dX8_yieldBy_36 : decode cX8_yieldBy 36 = .ok (.isub, 1) := by decide +kernel
theorem dX8_yieldBy_37 : decode cX8_yieldBy 37 = .ok (.istore 5, 2) := by decide +kernel
theorem dX8_yieldBy_39 : decode cX8_yieldBy 39 = .ok (.iload_n 2, 1) := by decide +kernel
theorem dX8_yieldBy_40 : decode cX8_yieldBy 40 = .ok (.aload_n 0, 1) := by decide +kernel
theorem dX8_yieldBy_41 : decode cX8_yieldBy 41 = .ok (.aload_n 0, 1) := by decide +kernel
theorem dX8_yieldBy_42 : decode cX8_yieldBy 42 = .ok (.iload_n 3, 1) := by decide +kernel
theorem dX8_yieldBy_43 : decode cX8_yieldBy 43 = .ok (.invokevirtual 38, 3) := by decide +kernel
theorem dX8_yieldBy_46 : decode cX8_yieldBy 46 = .ok (.iload 4, 2) := by decide +kernel
theorem dX8_yieldBy_48 : decode cX8_yieldBy 48 = .ok (.iconst (-1), 1) := by decide +kernel
theorem dX8_yieldBy_49 : decode cX8_yieldBy 49 = .ok (.ixor, 1) := by decide +kernel
theorem dX8_yieldBy_50 : decode cX8_yieldBy 50 = .ok (.iand, 1) := by decide +kernel
theorem dX8_yieldBy_51 : decode cX8_yieldBy 51 = .ok (.iload 5, 2) := by decide +kernel
theorem dX8_yieldBy_53 : decode cX8_yieldBy 53 = .ok (.iload_n 1, 1) := by decide +kernel
theorem dX8_yieldBy_54 : decode cX8_yieldBy 54 = .ok (.invokevirtual 56, 3) := by decide +kernel
theorem dX8_yieldBy_57 : decode cX8_yieldBy 57 = .ok (.iadd, 1) := by decide +kernel
theorem dX8_yieldBy_58 : decode cX8_yieldBy 58 = .ok (.istore_n 2, 1) := by decide +kernel
theorem dX8_yieldBy_59 : decode cX8_yieldBy 59 = .ok (.iinc 3 1, 3) := by decide +kernel
theorem dX8_yieldBy_62 : decode cX8_yieldBy 62 = .ok (.goto (-58), 3) := by decide +kernel
theorem dX8_yieldBy_65 : decode cX8_yieldBy 65 = .ok (.iload_n 2, 1) := by decide +kernel
theorem dX8_yieldBy_66 : decode cX8_yieldBy 66 = .ok (.ireturn, 1) := by decide +kernel
theorem dX8_fewestWalls_0 : decode cX8_fewestWalls 0 = .ok (.aload_n 0, 1) := by decide +kernel
theorem dX8_fewestWalls_1 : decode cX8_fewestWalls 1 = .ok (.iload_n 1, 1) := by decide +kernel
theorem dX8_fewestWalls_2 : decode cX8_fewestWalls 2 = .ok (.invokevirtual 38, 3) := by decide +kernel
theorem dX8_fewestWalls_5 : decode cX8_fewestWalls 5 = .ok (.istore_n 3, 1) := by decide +kernel
theorem dX8_fewestWalls_6 : decode cX8_fewestWalls 6 = .ok (.aload_n 0, 1) := by decide +kernel
theorem dX8_fewestWalls_7 : decode cX8_fewestWalls 7 = .ok (.getfield 25, 3) := by decide +kernel
theorem dX8_fewestWalls_10 : decode cX8_fewestWalls 10 = .ok (.iload_n 1, 1) := by decide +kernel
theorem dX8_fewestWalls_11 : decode cX8_fewestWalls 11 = .ok (.invokevirtual 42, 3) := by decide +kernel
theorem dX8_fewestWalls_14 : decode cX8_fewestWalls 14 = .ok (.istore 4, 2) := by decide +kernel
theorem dX8_fewestWalls_16 : decode cX8_fewestWalls 16 = .ok (.iconst 1, 1) := by decide +kernel
theorem dX8_fewestWalls_17 : decode cX8_fewestWalls 17 = .ok (.iload_n 3, 1) := by decide +kernel
theorem dX8_fewestWalls_18 : decode cX8_fewestWalls 18 = .ok (.invokestatic 48, 3) := by decide +kernel
theorem dX8_fewestWalls_21 : decode cX8_fewestWalls 21 = .ok (.ishl, 1) := by decide +kernel
theorem dX8_fewestWalls_22 : decode cX8_fewestWalls 22 = .ok (.istore 5, 2) := by decide +kernel
theorem dX8_fewestWalls_24 : decode cX8_fewestWalls 24 = .ok (.iload_n 3, 1) := by decide +kernel
theorem dX8_fewestWalls_25 : decode cX8_fewestWalls 25 = .ok (.istore 6, 2) := by decide +kernel
theorem dX8_fewestWalls_27 : decode cX8_fewestWalls 27 = .ok (.iconst 0, 1) := by decide +kernel
theorem dX8_fewestWalls_28 : decode cX8_fewestWalls 28 = .ok (.istore 7, 2) := by decide +kernel
theorem dX8_fewestWalls_30 : decode cX8_fewestWalls 30 = .ok (.iconst 0, 1) := by decide +kernel
theorem dX8_fewestWalls_31 : decode cX8_fewestWalls 31 = .ok (.istore 8, 2) := by decide +kernel
theorem dX8_fewestWalls_33 : decode cX8_fewestWalls 33 = .ok (.iload 8, 2) := by decide +kernel
theorem dX8_fewestWalls_35 : decode cX8_fewestWalls 35 = .ok (.iload 5, 2) := by decide +kernel
theorem dX8_fewestWalls_37 : decode cX8_fewestWalls 37 = .ok (.if_icmp .ge 64, 3) := by decide +kernel
theorem dX8_fewestWalls_40 : decode cX8_fewestWalls 40 = .ok (.iload 7, 2) := by decide +kernel
theorem dX8_fewestWalls_42 : decode cX8_fewestWalls 42 = .ok (.invokestatic 48, 3) := by decide +kernel
theorem dX8_fewestWalls_45 : decode cX8_fewestWalls 45 = .ok (.istore 9, 2) := by decide +kernel
theorem dX8_fewestWalls_47 : decode cX8_fewestWalls 47 = .ok (.iload 9, 2) := by decide +kernel
theorem dX8_fewestWalls_49 : decode cX8_fewestWalls 49 = .ok (.iload 6, 2) := by decide +kernel
theorem dX8_fewestWalls_51 : decode cX8_fewestWalls 51 = .ok (.invokestatic 48, 3) := by decide +kernel
theorem dX8_fewestWalls_54 : decode cX8_fewestWalls 54 = .ok (.if_icmp .ge 33, 3) := by decide +kernel
theorem dX8_fewestWalls_57 : decode cX8_fewestWalls 57 = .ok (.aload_n 0, 1) := by decide +kernel
theorem dX8_fewestWalls_58 : decode cX8_fewestWalls 58 = .ok (.iload_n 3, 1) := by decide +kernel
theorem dX8_fewestWalls_59 : decode cX8_fewestWalls 59 = .ok (.iload 7, 2) := by decide +kernel
theorem dX8_fewestWalls_61 : decode cX8_fewestWalls 61 = .ok (.iconst (-1), 1) := by decide +kernel
theorem dX8_fewestWalls_62 : decode cX8_fewestWalls 62 = .ok (.ixor, 1) := by decide +kernel
theorem dX8_fewestWalls_63 : decode cX8_fewestWalls 63 = .ok (.iand, 1) := by decide +kernel
theorem dX8_fewestWalls_64 : decode cX8_fewestWalls 64 = .ok (.iload 4, 2) := by decide +kernel
theorem dX8_fewestWalls_66 : decode cX8_fewestWalls 66 = .ok (.iload 9, 2) := by decide +kernel
theorem dX8_fewestWalls_68 : decode cX8_fewestWalls 68 = .ok (.isub, 1) := by decide +kernel
theorem dX8_fewestWalls_69 : decode cX8_fewestWalls 69 = .ok (.aload_n 0, 1) := by decide +kernel
theorem dX8_fewestWalls_70 : decode cX8_fewestWalls 70 = .ok (.getfield 25, 3) := by decide +kernel
theorem dX8_fewestWalls_73 : decode cX8_fewestWalls 73 = .ok (.getfield 72, 3) := by decide +kernel
theorem dX8_fewestWalls_76 : decode cX8_fewestWalls 76 = .ok (.invokevirtual 56, 3) := by decide +kernel
theorem dX8_fewestWalls_79 : decode cX8_fewestWalls 79 = .ok (.iload_n 2, 1) := by decide +kernel
theorem dX8_fewestWalls_80 : decode cX8_fewestWalls 80 = .ok (.if_icmp .gt 7, 3) := by decide +kernel
theorem dX8_fewestWalls_83 : decode cX8_fewestWalls 83 = .ok (.iload 7, 2) := by decide +kernel
theorem dX8_fewestWalls_85 : decode cX8_fewestWalls 85 = .ok (.istore 6, 2) := by decide +kernel
theorem dX8_fewestWalls_87 : decode cX8_fewestWalls 87 = .ok (.iload 7, 2) := by decide +kernel
theorem dX8_fewestWalls_89 : decode cX8_fewestWalls 89 = .ok (.iload_n 3, 1) := by decide +kernel
theorem dX8_fewestWalls_90 : decode cX8_fewestWalls 90 = .ok (.invokestatic 63, 3) := by decide +kernel
theorem dX8_fewestWalls_93 : decode cX8_fewestWalls 93 = .ok (.istore 7, 2) := by decide +kernel
theorem dX8_fewestWalls_95 : decode cX8_fewestWalls 95 = .ok (.iinc 8 1, 3) := by decide +kernel
theorem dX8_fewestWalls_98 : decode cX8_fewestWalls 98 = .ok (.goto (-65), 3) := by decide +kernel
theorem dX8_fewestWalls_101 : decode cX8_fewestWalls 101 = .ok (.iload 6, 2) := by decide +kernel
theorem dX8_fewestWalls_103 : decode cX8_fewestWalls 103 = .ok (.ireturn, 1) := by decide +kernel
theorem dX8_growthBy_0 : decode cX8_growthBy 0 = .ok (.aload_n 0, 1) := by decide +kernel
theorem dX8_growthBy_1 : decode cX8_growthBy 1 = .ok (.getfield 25, 3) := by decide +kernel
theorem dX8_growthBy_4 : decode cX8_growthBy 4 = .ok (.getfield 75, 3) := by decide +kernel
theorem dX8_growthBy_7 : decode cX8_growthBy 7 = .ok (.iload_n 1, 1) := by decide +kernel
theorem dX8_growthBy_8 : decode cX8_growthBy 8 = .ok (.aaload, 1) := by decide +kernel
theorem dX8_growthBy_9 : decode cX8_growthBy 9 = .ok (.astore_n 2, 1) := by decide +kernel
theorem dX8_growthBy_10 : decode cX8_growthBy 10 = .ok (.aload_n 0, 1) := by decide +kernel
theorem dX8_growthBy_11 : decode cX8_growthBy 11 = .ok (.aload_n 2, 1) := by decide +kernel
theorem dX8_growthBy_12 : decode cX8_growthBy 12 = .ok (.getfield 79, 3) := by decide +kernel
theorem dX8_growthBy_15 : decode cX8_growthBy 15 = .ok (.invokevirtual 38, 3) := by decide +kernel
theorem dX8_growthBy_18 : decode cX8_growthBy 18 = .ok (.istore_n 3, 1) := by decide +kernel
theorem dX8_growthBy_19 : decode cX8_growthBy 19 = .ok (.aload_n 0, 1) := by decide +kernel
theorem dX8_growthBy_20 : decode cX8_growthBy 20 = .ok (.getfield 25, 3) := by decide +kernel
theorem dX8_growthBy_23 : decode cX8_growthBy 23 = .ok (.aload_n 2, 1) := by decide +kernel
theorem dX8_growthBy_24 : decode cX8_growthBy 24 = .ok (.getfield 79, 3) := by decide +kernel
theorem dX8_growthBy_27 : decode cX8_growthBy 27 = .ok (.invokevirtual 42, 3) := by decide +kernel
theorem dX8_growthBy_30 : decode cX8_growthBy 30 = .ok (.istore 4, 2) := by decide +kernel
theorem dX8_growthBy_32 : decode cX8_growthBy 32 = .ok (.aload_n 0, 1) := by decide +kernel
theorem dX8_growthBy_33 : decode cX8_growthBy 33 = .ok (.iload_n 3, 1) := by decide +kernel
theorem dX8_growthBy_34 : decode cX8_growthBy 34 = .ok (.iload 4, 2) := by decide +kernel
theorem dX8_growthBy_36 : decode cX8_growthBy 36 = .ok (.aload_n 0, 1) := by decide +kernel
theorem dX8_growthBy_37 : decode cX8_growthBy 37 = .ok (.getfield 25, 3) := by decide +kernel
theorem dX8_growthBy_40 : decode cX8_growthBy 40 = .ok (.getfield 72, 3) := by decide +kernel
theorem dX8_growthBy_43 : decode cX8_growthBy 43 = .ok (.invokevirtual 56, 3) := by decide +kernel
theorem dX8_growthBy_46 : decode cX8_growthBy 46 = .ok (.istore 5, 2) := by decide +kernel
theorem dX8_growthBy_48 : decode cX8_growthBy 48 = .ok (.aload_n 0, 1) := by decide +kernel
theorem dX8_growthBy_49 : decode cX8_growthBy 49 = .ok (.iload_n 3, 1) := by decide +kernel
theorem dX8_growthBy_50 : decode cX8_growthBy 50 = .ok (.iconst 1, 1) := by decide +kernel
theorem dX8_growthBy_51 : decode cX8_growthBy 51 = .ok (.iload_n 1, 1) := by decide +kernel
theorem dX8_growthBy_52 : decode cX8_growthBy 52 = .ok (.ishl, 1) := by decide +kernel
theorem dX8_growthBy_53 : decode cX8_growthBy 53 = .ok (.ior, 1) := by decide +kernel
theorem dX8_growthBy_54 : decode cX8_growthBy 54 = .ok (.iload 4, 2) := by decide +kernel
theorem dX8_growthBy_56 : decode cX8_growthBy 56 = .ok (.iconst 1, 1) := by decide +kernel
theorem dX8_growthBy_57 : decode cX8_growthBy 57 = .ok (.iadd, 1) := by decide +kernel
theorem dX8_growthBy_58 : decode cX8_growthBy 58 = .ok (.aload_n 0, 1) := by decide +kernel
theorem dX8_growthBy_59 : decode cX8_growthBy 59 = .ok (.getfield 25, 3) := by decide +kernel
theorem dX8_growthBy_62 : decode cX8_growthBy 62 = .ok (.getfield 72, 3) := by decide +kernel
theorem dX8_growthBy_65 : decode cX8_growthBy 65 = .ok (.invokevirtual 56, 3) := by decide +kernel
theorem dX8_growthBy_68 : decode cX8_growthBy 68 = .ok (.istore 6, 2) := by decide +kernel
theorem dX8_growthBy_70 : decode cX8_growthBy 70 = .ok (.iconst 2, 1) := by decide +kernel
theorem dX8_growthBy_71 : decode cX8_growthBy 71 = .ok (.aload_n 2, 1) := by decide +kernel
theorem dX8_growthBy_72 : decode cX8_growthBy 72 = .ok (.getfield 84, 3) := by decide +kernel
theorem dX8_growthBy_75 : decode cX8_growthBy 75 = .ok (.imul, 1) := by decide +kernel
theorem dX8_growthBy_76 : decode cX8_growthBy 76 = .ok (.iload 6, 2) := by decide +kernel
theorem dX8_growthBy_78 : decode cX8_growthBy 78 = .ok (.iload 5, 2) := by decide +kernel
theorem dX8_growthBy_80 : decode cX8_growthBy 80 = .ok (.isub, 1) := by decide +kernel
theorem dX8_growthBy_81 : decode cX8_growthBy 81 = .ok (.isub, 1) := by decide +kernel
theorem dX8_growthBy_82 : decode cX8_growthBy 82 = .ok (.ireturn, 1) := by decide +kernel
theorem dX8_openOf_0 : decode cX8_openOf 0 = .ok (.aload_n 0, 1) := by decide +kernel
theorem dX8_openOf_1 : decode cX8_openOf 1 = .ok (.getfield 25, 3) := by decide +kernel
theorem dX8_openOf_4 : decode cX8_openOf 4 = .ok (.iload_n 1, 1) := by decide +kernel
theorem dX8_openOf_5 : decode cX8_openOf 5 = .ok (.invokevirtual 87, 3) := by decide +kernel
theorem dX8_openOf_8 : decode cX8_openOf 8 = .ok (.aload_n 0, 1) := by decide +kernel
theorem dX8_openOf_9 : decode cX8_openOf 9 = .ok (.getfield 25, 3) := by decide +kernel
theorem dX8_openOf_12 : decode cX8_openOf 12 = .ok (.iconst 0, 1) := by decide +kernel
theorem dX8_openOf_13 : decode cX8_openOf 13 = .ok (.invokevirtual 90, 3) := by decide +kernel
theorem dX8_openOf_16 : decode cX8_openOf 16 = .ok (.iand, 1) := by decide +kernel
theorem dX8_openOf_17 : decode cX8_openOf 17 = .ok (.ireturn, 1) := by decide +kernel
theorem dX8_nextSet_0 : decode cX8_nextSet 0 = .ok (.iload_n 0, 1) := by decide +kernel
theorem dX8_nextSet_1 : decode cX8_nextSet 1 = .ok (.iload_n 1, 1) := by decide +kernel
theorem dX8_nextSet_2 : decode cX8_nextSet 2 = .ok (.isub, 1) := by decide +kernel
theorem dX8_nextSet_3 : decode cX8_nextSet 3 = .ok (.iload_n 1, 1) := by decide +kernel
theorem dX8_nextSet_4 : decode cX8_nextSet 4 = .ok (.iand, 1) := by decide +kernel
theorem dX8_nextSet_5 : decode cX8_nextSet 5 = .ok (.ireturn, 1) := by decide +kernel
theorem dX8_paysWith_0 : decode cX8_paysWith 0 = .ok (.iconst 0, 1) := by decide +kernel
theorem dX8_paysWith_1 : decode cX8_paysWith 1 = .ok (.istore 4, 2) := by decide +kernel
theorem dX8_paysWith_3 : decode cX8_paysWith 3 = .ok (.iconst 0, 1) := by decide +kernel
theorem dX8_paysWith_4 : decode cX8_paysWith 4 = .ok (.istore 5, 2) := by decide +kernel
theorem dX8_paysWith_6 : decode cX8_paysWith 6 = .ok (.iload 5, 2) := by decide +kernel
theorem dX8_paysWith_8 : decode cX8_paysWith 8 = .ok (.aload_n 0, 1) := by decide +kernel
theorem dX8_paysWith_9 : decode cX8_paysWith 9 = .ok (.getfield 25, 3) := by decide +kernel
theorem dX8_paysWith_12 : decode cX8_paysWith 12 = .ok (.getfield 29, 3) := by decide +kernel
theorem dX8_paysWith_15 : decode cX8_paysWith 15 = .ok (.if_icmp .ge 50, 3) := by decide +kernel
theorem dX8_paysWith_18 : decode cX8_paysWith 18 = .ok (.iload_n 1, 1) := by decide +kernel
theorem dX8_paysWith_19 : decode cX8_paysWith 19 = .ok (.iload 5, 2) := by decide +kernel
theorem dX8_paysWith_21 : decode cX8_paysWith 21 = .ok (.ishr, 1) := by decide +kernel
theorem dX8_paysWith_22 : decode cX8_paysWith 22 = .ok (.iconst 1, 1) := by decide +kernel
theorem dX8_paysWith_23 : decode cX8_paysWith 23 = .ok (.iand, 1) := by decide +kernel
theorem dX8_paysWith_24 : decode cX8_paysWith 24 = .ok (.iconst 1, 1) := by decide +kernel
theorem dX8_paysWith_25 : decode cX8_paysWith 25 = .ok (.if_icmp .ne 34, 3) := by decide +kernel
theorem dX8_paysWith_28 : decode cX8_paysWith 28 = .ok (.iload_n 2, 1) := by decide +kernel
theorem dX8_paysWith_29 : decode cX8_paysWith 29 = .ok (.ifCond .lt 30, 3) := by decide +kernel
theorem dX8_paysWith_32 : decode cX8_paysWith 32 = .ok (.iload_n 2, 1) := by decide +kernel
theorem dX8_paysWith_33 : decode cX8_paysWith 33 = .ok (.bipush 7, 2) := by decide +kernel
theorem dX8_paysWith_35 : decode cX8_paysWith 35 = .ok (.if_icmp .ge 24, 3) := by decide +kernel
theorem dX8_paysWith_38 : decode cX8_paysWith 38 = .ok (.iload 4, 2) := by decide +kernel
theorem dX8_paysWith_40 : decode cX8_paysWith 40 = .ok (.iload_n 3, 1) := by decide +kernel
theorem dX8_paysWith_41 : decode cX8_paysWith 41 = .ok (.aload_n 0, 1) := by decide +kernel
theorem dX8_paysWith_42 : decode cX8_paysWith 42 = .ok (.getfield 11, 3) := by decide +kernel
theorem dX8_paysWith_45 : decode cX8_paysWith 45 = .ok (.iload 5, 2) := by decide +kernel
theorem dX8_paysWith_47 : decode cX8_paysWith 47 = .ok (.bipush 7, 2) := by decide +kernel
theorem dX8_paysWith_49 : decode cX8_paysWith 49 = .ok (.imul, 1) := by decide +kernel
theorem dX8_paysWith_50 : decode cX8_paysWith 50 = .ok (.iload_n 2, 1) := by decide +kernel
theorem dX8_paysWith_51 : decode cX8_paysWith 51 = .ok (.iadd, 1) := by decide +kernel
theorem dX8_paysWith_52 : decode cX8_paysWith 52 = .ok (.iaload, 1) := by decide +kernel
theorem dX8_paysWith_53 : decode cX8_paysWith 53 = .ok (.invokestatic 93, 3) := by decide +kernel
theorem dX8_paysWith_56 : decode cX8_paysWith 56 = .ok (.iadd, 1) := by decide +kernel
theorem dX8_paysWith_57 : decode cX8_paysWith 57 = .ok (.istore 4, 2) := by decide +kernel
theorem dX8_paysWith_59 : decode cX8_paysWith 59 = .ok (.iinc 5 1, 3) := by decide +kernel
theorem dX8_paysWith_62 : decode cX8_paysWith 62 = .ok (.goto (-56), 3) := by decide +kernel
theorem dX8_paysWith_65 : decode cX8_paysWith 65 = .ok (.iload 4, 2) := by decide +kernel
theorem dX8_paysWith_67 : decode cX8_paysWith 67 = .ok (.ireturn, 1) := by decide +kernel
theorem dX8_warmIn_0 : decode cX8_warmIn 0 = .ok (.iconst 0, 1) := by decide +kernel
theorem dX8_warmIn_1 : decode cX8_warmIn 1 = .ok (.istore_n 2, 1) := by decide +kernel
theorem dX8_warmIn_2 : decode cX8_warmIn 2 = .ok (.iconst 0, 1) := by decide +kernel
theorem dX8_warmIn_3 : decode cX8_warmIn 3 = .ok (.istore_n 3, 1) := by decide +kernel
theorem dX8_warmIn_4 : decode cX8_warmIn 4 = .ok (.iload_n 3, 1) := by decide +kernel
theorem dX8_warmIn_5 : decode cX8_warmIn 5 = .ok (.aload_n 0, 1) := by decide +kernel
theorem dX8_warmIn_6 : decode cX8_warmIn 6 = .ok (.getfield 25, 3) := by decide +kernel
theorem dX8_warmIn_9 : decode cX8_warmIn 9 = .ok (.getfield 29, 3) := by decide +kernel
theorem dX8_warmIn_12 : decode cX8_warmIn 12 = .ok (.if_icmp .ge 30, 3) := by decide +kernel
theorem dX8_warmIn_15 : decode cX8_warmIn 15 = .ok (.iload_n 2, 1) := by decide +kernel
theorem dX8_warmIn_16 : decode cX8_warmIn 16 = .ok (.iload_n 1, 1) := by decide +kernel
theorem dX8_warmIn_17 : decode cX8_warmIn 17 = .ok (.iload_n 3, 1) := by decide +kernel
theorem dX8_warmIn_18 : decode cX8_warmIn 18 = .ok (.ishr, 1) := by decide +kernel
theorem dX8_warmIn_19 : decode cX8_warmIn 19 = .ok (.iconst 1, 1) := by decide +kernel
theorem dX8_warmIn_20 : decode cX8_warmIn 20 = .ok (.iand, 1) := by decide +kernel
theorem dX8_warmIn_21 : decode cX8_warmIn 21 = .ok (.aload_n 0, 1) := by decide +kernel
theorem dX8_warmIn_22 : decode cX8_warmIn 22 = .ok (.getfield 25, 3) := by decide +kernel
theorem dX8_warmIn_25 : decode cX8_warmIn 25 = .ok (.getfield 75, 3) := by decide +kernel
theorem dX8_warmIn_28 : decode cX8_warmIn 28 = .ok (.iload_n 3, 1) := by decide +kernel
theorem dX8_warmIn_29 : decode cX8_warmIn 29 = .ok (.aaload, 1) := by decide +kernel
theorem dX8_warmIn_30 : decode cX8_warmIn 30 = .ok (.getfield 84, 3) := by decide +kernel
theorem dX8_warmIn_33 : decode cX8_warmIn 33 = .ok (.imul, 1) := by decide +kernel
theorem dX8_warmIn_34 : decode cX8_warmIn 34 = .ok (.iadd, 1) := by decide +kernel
theorem dX8_warmIn_35 : decode cX8_warmIn 35 = .ok (.istore_n 2, 1) := by decide +kernel
theorem dX8_warmIn_36 : decode cX8_warmIn 36 = .ok (.iinc 3 1, 3) := by decide +kernel
theorem dX8_warmIn_39 : decode cX8_warmIn 39 = .ok (.goto (-35), 3) := by decide +kernel
theorem dX8_warmIn_42 : decode cX8_warmIn 42 = .ok (.iload_n 2, 1) := by decide +kernel
