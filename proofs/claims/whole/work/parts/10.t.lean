theorem dX4_cells_0 : decode cX4_cells 0 = .ok (.aload_n 0, 1) := by decide +kernel
theorem dX4_cells_1 : decode cX4_cells 1 = .ok (.getfield 22, 3) := by decide +kernel
theorem dX4_cells_4 : decode cX4_cells 4 = .ok (.aload_n 0, 1) := by decide +kernel
theorem dX4_cells_5 : decode cX4_cells 5 = .ok (.getfield 26, 3) := by decide +kernel
theorem dX4_cells_8 : decode cX4_cells 8 = .ok (.imul, 1) := by decide +kernel
theorem dX4_cells_9 : decode cX4_cells 9 = .ok (.ireturn, 1) := by decide +kernel
theorem dX4_clearTaken_0 : decode cX4_clearTaken 0 = .ok (.iconst 0, 1) := by decide +kernel
theorem dX4_clearTaken_1 : decode cX4_clearTaken 1 = .ok (.istore_n 1, 1) := by decide +kernel
theorem dX4_clearTaken_2 : decode cX4_clearTaken 2 = .ok (.iload_n 1, 1) := by decide +kernel
theorem dX4_clearTaken_3 : decode cX4_clearTaken 3 = .ok (.bipush 64, 2) := by decide +kernel
theorem dX4_clearTaken_5 : decode cX4_clearTaken 5 = .ok (.if_icmp .ge 16, 3) := by decide +kernel
theorem dX4_clearTaken_8 : decode cX4_clearTaken 8 = .ok (.aload_n 0, 1) := by decide +kernel
theorem dX4_clearTaken_9 : decode cX4_clearTaken 9 = .ok (.getfield 18, 3) := by decide +kernel
theorem dX4_clearTaken_12 : decode cX4_clearTaken 12 = .ok (.iload_n 1, 1) := by decide +kernel
theorem dX4_clearTaken_13 : decode cX4_clearTaken 13 = .ok (.iconst 0, 1) := by decide +kernel
theorem dX4_clearTaken_14 : decode cX4_clearTaken 14 = .ok (.bastore, 1) := by decide +kernel
theorem dX4_clearTaken_15 : decode cX4_clearTaken 15 = .ok (.iinc 1 1, 3) := by decide +kernel
theorem dX4_clearTaken_18 : decode cX4_clearTaken 18 = .ok (.goto (-16), 3) := by decide +kernel
theorem dX4_clearTaken_21 : decode cX4_clearTaken 21 = .ok (.return_, 1) := by decide +kernel
theorem dX4_lay_0 : decode cX4_lay 0 = .ok (.aload_n 0, 1) := by decide +kernel
theorem dX4_lay_1 : decode cX4_lay 1 = .ok (.iload_n 1, 1) := by decide +kernel
theorem dX4_lay_2 : decode cX4_lay 2 = .ok (.putfield 22, 3) := by decide +kernel
theorem dX4_lay_5 : decode cX4_lay 5 = .ok (.aload_n 0, 1) := by decide +kernel
theorem dX4_lay_6 : decode cX4_lay 6 = .ok (.iload_n 2, 1) := by decide +kernel
theorem dX4_lay_7 : decode cX4_lay 7 = .ok (.putfield 26, 3) := by decide +kernel
theorem dX4_lay_10 : decode cX4_lay 10 = .ok (.iconst 0, 1) := by decide +kernel
theorem dX4_lay_11 : decode cX4_lay 11 = .ok (.istore_n 3, 1) := by decide +kernel
theorem dX4_lay_12 : decode cX4_lay 12 = .ok (.iload_n 3, 1) := by decide +kernel
theorem dX4_lay_13 : decode cX4_lay 13 = .ok (.iload_n 2, 1) := by decide +kernel
theorem dX4_lay_14 : decode cX4_lay 14 = .ok (.if_icmp .ge 62, 3) := by decide +kernel
theorem dX4_lay_17 : decode cX4_lay 17 = .ok (.iload_n 3, 1) := by decide +kernel
theorem dX4_lay_18 : decode cX4_lay 18 = .ok (.bipush 8, 2) := by decide +kernel
theorem dX4_lay_20 : decode cX4_lay 20 = .ok (.if_icmp .ge 56, 3) := by decide +kernel
theorem dX4_lay_23 : decode cX4_lay 23 = .ok (.iconst 0, 1) := by decide +kernel
theorem dX4_lay_24 : decode cX4_lay 24 = .ok (.istore 4, 2) := by decide +kernel
theorem dX4_lay_26 : decode cX4_lay 26 = .ok (.iload 4, 2) := by decide +kernel
theorem dX4_lay_28 : decode cX4_lay 28 = .ok (.iload_n 1, 1) := by decide +kernel
theorem dX4_lay_29 : decode cX4_lay 29 = .ok (.if_icmp .ge 41, 3) := by decide +kernel
theorem dX4_lay_32 : decode cX4_lay 32 = .ok (.iload 4, 2) := by decide +kernel
theorem dX4_lay_34 : decode cX4_lay 34 = .ok (.bipush 8, 2) := by decide +kernel
theorem dX4_lay_36 : decode cX4_lay 36 = .ok (.if_icmp .ge 34, 3) := by decide +kernel
theorem dX4_lay_39 : decode cX4_lay 39 = .ok (.aload_n 0, 1) := by decide +kernel
theorem dX4_lay_40 : decode cX4_lay 40 = .ok (.getfield 9, 3) := by decide +kernel
theorem dX4_lay_43 : decode cX4_lay 43 = .ok (.iload_n 3, 1) := by decide +kernel
theorem dX4_lay_44 : decode cX4_lay 44 = .ok (.iload_n 1, 1) := by decide +kernel
theorem dX4_lay_45 : decode cX4_lay 45 = .ok (.imul, 1) := by decide +kernel
theorem dX4_lay_46 : decode cX4_lay 46 = .ok (.iload 4, 2) := by decide +kernel
theorem dX4_lay_48 : decode cX4_lay 48 = .ok (.iadd, 1) := by decide +kernel
theorem dX4_lay_49 : decode cX4_lay 49 = .ok (.iload 4, 2) := by decide +kernel
theorem dX4_lay_51 : decode cX4_lay 51 = .ok (.iastore, 1) := by decide +kernel
theorem dX4_lay_52 : decode cX4_lay 52 = .ok (.aload_n 0, 1) := by decide +kernel
theorem dX4_lay_53 : decode cX4_lay 53 = .ok (.getfield 15, 3) := by decide +kernel
theorem dX4_lay_56 : decode cX4_lay 56 = .ok (.iload_n 3, 1) := by decide +kernel
theorem dX4_lay_57 : decode cX4_lay 57 = .ok (.iload_n 1, 1) := by decide +kernel
theorem dX4_lay_58 : decode cX4_lay 58 = .ok (.imul, 1) := by decide +kernel
theorem dX4_lay_59 : decode cX4_lay 59 = .ok (.iload 4, 2) := by decide +kernel
theorem dX4_lay_61 : decode cX4_lay 61 = .ok (.iadd, 1) := by decide +kernel
theorem dX4_lay_62 : decode cX4_lay 62 = .ok (.iload_n 3, 1) := by decide +kernel
theorem dX4_lay_63 : decode cX4_lay 63 = .ok (.iastore, 1) := by decide +kernel
theorem dX4_lay_64 : decode cX4_lay 64 = .ok (.iinc 4 1, 3) := by decide +kernel
theorem dX4_lay_67 : decode cX4_lay 67 = .ok (.goto (-41), 3) := by decide +kernel
theorem dX4_lay_70 : decode cX4_lay 70 = .ok (.iinc 3 1, 3) := by decide +kernel
theorem dX4_lay_73 : decode cX4_lay 73 = .ok (.goto (-61), 3) := by decide +kernel
theorem dX4_lay_76 : decode cX4_lay 76 = .ok (.aload_n 0, 1) := by decide +kernel
theorem dX4_lay_77 : decode cX4_lay 77 = .ok (.invokevirtual 29, 3) := by decide +kernel
theorem dX4_lay_80 : decode cX4_lay 80 = .ok (.return_, 1) := by decide +kernel
theorem dX4_steps_0 : decode cX4_steps 0 = .ok (.aload_n 0, 1) := by decide +kernel
theorem dX4_steps_1 : decode cX4_steps 1 = .ok (.getfield 9, 3) := by decide +kernel
theorem dX4_steps_4 : decode cX4_steps 4 = .ok (.iload_n 2, 1) := by decide +kernel
theorem dX4_steps_5 : decode cX4_steps 5 = .ok (.iaload, 1) := by decide +kernel
theorem dX4_steps_6 : decode cX4_steps 6 = .ok (.aload_n 0, 1) := by decide +kernel
theorem dX4_steps_7 : decode cX4_steps 7 = .ok (.getfield 9, 3) := by decide +kernel
theorem dX4_steps_10 : decode cX4_steps 10 = .ok (.iload_n 1, 1) := by decide +kernel
theorem dX4_steps_11 : decode cX4_steps 11 = .ok (.iaload, 1) := by decide +kernel
theorem dX4_steps_12 : decode cX4_steps 12 = .ok (.isub, 1) := by decide +kernel
theorem dX4_steps_13 : decode cX4_steps 13 = .ok (.invokestatic 32, 3) := by decide +kernel
theorem dX4_steps_16 : decode cX4_steps 16 = .ok (.aload_n 0, 1) := by decide +kernel
theorem dX4_steps_17 : decode cX4_steps 17 = .ok (.getfield 15, 3) := by decide +kernel
theorem dX4_steps_20 : decode cX4_steps 20 = .ok (.iload_n 2, 1) := by decide +kernel
theorem dX4_steps_21 : decode cX4_steps 21 = .ok (.iaload, 1) := by decide +kernel
theorem dX4_steps_22 : decode cX4_steps 22 = .ok (.aload_n 0, 1) := by decide +kernel
theorem dX4_steps_23 : decode cX4_steps 23 = .ok (.getfield 15, 3) := by decide +kernel
theorem dX4_steps_26 : decode cX4_steps 26 = .ok (.iload_n 1, 1) := by decide +kernel
theorem dX4_steps_27 : decode cX4_steps 27 = .ok (.iaload, 1) := by decide +kernel
theorem dX4_steps_28 : decode cX4_steps 28 = .ok (.isub, 1) := by decide +kernel
theorem dX4_steps_29 : decode cX4_steps 29 = .ok (.invokestatic 32, 3) := by decide +kernel
theorem dX4_steps_32 : decode cX4_steps 32 = .ok (.iadd, 1) := by decide +kernel
theorem dX4_steps_33 : decode cX4_steps 33 = .ok (.ireturn, 1) := by decide +kernel
theorem dX4_along_0 : decode cX4_along 0 = .ok (.iload_n 3, 1) := by decide +kernel
theorem dX4_along_1 : decode cX4_along 1 = .ok (.tableswitch 87 1 4 #[31, 45, 59, 73], 31) := by decide +kernel
theorem dX4_along_32 : decode cX4_along 32 = .ok (.aload_n 0, 1) := by decide +kernel
theorem dX4_along_33 : decode cX4_along 33 = .ok (.getfield 15, 3) := by decide +kernel
theorem dX4_along_36 : decode cX4_along 36 = .ok (.iload_n 1, 1) := by decide +kernel
theorem dX4_along_37 : decode cX4_along 37 = .ok (.iaload, 1) := by decide +kernel
theorem dX4_along_38 : decode cX4_along 38 = .ok (.aload_n 0, 1) := by decide +kernel
theorem dX4_along_39 : decode cX4_along 39 = .ok (.getfield 15, 3) := by decide +kernel
theorem dX4_along_42 : decode cX4_along 42 = .ok (.iload_n 2, 1) := by decide +kernel
theorem dX4_along_43 : decode cX4_along 43 = .ok (.iaload, 1) := by decide +kernel
theorem dX4_along_44 : decode cX4_along 44 = .ok (.isub, 1) := by decide +kernel
theorem dX4_along_45 : decode cX4_along 45 = .ok (.ireturn, 1) := by decide +kernel
theorem dX4_along_46 : decode cX4_along 46 = .ok (.aload_n 0, 1) := by decide +kernel
theorem dX4_along_47 : decode cX4_along 47 = .ok (.getfield 9, 3) := by decide +kernel
theorem dX4_along_50 : decode cX4_along 50 = .ok (.iload_n 2, 1) := by decide +kernel
theorem dX4_along_51 : decode cX4_along 51 = .ok (.iaload, 1) := by decide +kernel
theorem dX4_along_52 : decode cX4_along 52 = .ok (.aload_n 0, 1) := by decide +kernel
theorem dX4_along_53 : decode cX4_along 53 = .ok (.getfield 9, 3) := by decide +kernel
theorem dX4_along_56 : decode cX4_along 56 = .ok (.iload_n 1, 1) := by decide +kernel
theorem dX4_along_57 : decode cX4_along 57 = .ok (.iaload, 1) := by decide +kernel
theorem dX4_along_58 : decode cX4_along 58 = .ok (.isub, 1) := by decide +kernel
theorem dX4_along_59 : decode cX4_along 59 = .ok (.ireturn, 1) := by decide +kernel
theorem dX4_along_60 : decode cX4_along 60 = .ok (.aload_n 0, 1) := by decide +kernel
theorem dX4_along_61 : decode cX4_along 61 = .ok (.getfield 15, 3) := by decide +kernel
theorem dX4_along_64 : decode cX4_along 64 = .ok (.iload_n 2, 1) := by decide +kernel
theorem dX4_along_65 : decode cX4_along 65 = .ok (.iaload, 1) := by decide +kernel
theorem dX4_along_66 : decode cX4_along 66 = .ok (.aload_n 0, 1) := by decide +kernel
theorem dX4_along_67 : decode cX4_along 67 = .ok (.getfield 15, 3) := by decide +kernel
theorem dX4_along_70 : decode cX4_along 70 = .ok (.iload_n 1, 1) := by decide +kernel
theorem dX4_along_71 : decode cX4_along 71 = .ok (.iaload, 1) := by decide +kernel
theorem dX4_along_72 : decode cX4_along 72 = .ok (.isub, 1) := by decide +kernel
theorem dX4_along_73 : decode cX4_along 73 = .ok (.ireturn, 1) := by decide +kernel
theorem dX4_along_74 : decode cX4_along 74 = .ok (.aload_n 0, 1) := by decide +kernel
theorem dX4_along_75 : decode cX4_along 75 = .ok (.getfield 9, 3) := by decide +kernel
theorem dX4_along_78 : decode cX4_along 78 = .ok (.iload_n 1, 1) := by decide +kernel
theorem dX4_along_79 : decode cX4_along 79 = .ok (.iaload, 1) := by decide +kernel
theorem dX4_along_80 : decode cX4_along 80 = .ok (.aload_n 0, 1) := by decide +kernel
theorem dX4_along_81 : decode cX4_along 81 = .ok (.getfield 9, 3) := by decide +kernel
theorem dX4_along_84 : decode cX4_along 84 = .ok (.iload_n 2, 1) := by decide +kernel
theorem dX4_along_85 : decode cX4_along 85 = .ok (.iaload, 1) := by decide +kernel
theorem dX4_along_86 : decode cX4_along 86 = .ok (.isub, 1) := by decide +kernel
theorem dX4_along_87 : decode cX4_along 87 = .ok (.ireturn, 1) := by decide +kernel
theorem dX4_along_88 : decode cX4_along 88 = .ok (.iconst 0, 1) := by decide +kernel
theorem dX4_along_89 : decode cX4_along 89 = .ok (.ireturn, 1) := by decide +kernel
theorem dX8_smellsIn_0 : decode cX8_smellsIn 0 = .ok (.iload_n 1, 1) := by decide +kernel
theorem dX8_smellsIn_1 : decode cX8_smellsIn 1 = .ok (.aload_n 0, 1) := by decide +kernel
theorem dX8_smellsIn_2 : decode cX8_smellsIn 2 = .ok (.getfield 7, 3) := by decide +kernel
theorem dX8_smellsIn_5 : decode cX8_smellsIn 5 = .ok (.if_icmp .lt 31, 3) := by decide +kernel
theorem dX8_smellsIn_8 : decode cX8_smellsIn 8 = .ok (.iload_n 1, 1) := by decide +kernel
theorem dX8_smellsIn_9 : decode cX8_smellsIn 9 = .ok (.aload_n 0, 1) := by decide +kernel
theorem dX8_smellsIn_10 : decode cX8_smellsIn 10 = .ok (.getfield 13, 3) := by decide +kernel
theorem dX8_smellsIn_13 : decode cX8_smellsIn 13 = .ok (.if_icmp .gt 23, 3) := by decide +kernel
theorem dX8_smellsIn_16 : decode cX8_smellsIn 16 = .ok (.iload_n 2, 1) := by decide +kernel
theorem dX8_smellsIn_17 : decode cX8_smellsIn 17 = .ok (.aload_n 0, 1) := by decide +kernel
theorem dX8_smellsIn_18 : decode cX8_smellsIn 18 = .ok (.getfield 16, 3) := by decide +kernel
theorem dX8_smellsIn_21 : decode cX8_smellsIn 21 = .ok (.if_icmp .lt 15, 3) := by decide +kernel
theorem dX8_smellsIn_24 : decode cX8_smellsIn 24 = .ok (.iload_n 2, 1) := by decide +kernel
theorem dX8_smellsIn_25 : decode cX8_smellsIn 25 = .ok (.aload_n 0, 1) := by decide +kernel
theorem dX8_smellsIn_26 : decode cX8_smellsIn 26 = .ok (.getfield 19, 3) := by decide +kernel
theorem dX8_smellsIn_29 : decode cX8_smellsIn 29 = .ok (.if_icmp .gt 7, 3) := by decide +kernel
theorem dX8_smellsIn_32 : decode cX8_smellsIn 32 = .ok (.iconst 1, 1) := by decide +kernel
theorem dX8_smellsIn_33 : decode cX8_smellsIn 33 = .ok (.goto 4, 3) := by decide +kernel
theorem dX8_smellsIn_36 : decode cX8_smellsIn 36 = .ok (.iconst 0, 1) := by decide +kernel
theorem dX8_smellsIn_37 : decode cX8_smellsIn 37 = .ok (.ireturn, 1) := by decide +kernel
theorem dX6_scent_0 : decode cX6_scent 0 = .ok (.aload_n 0, 1) := by decide +kernel
theorem dX6_scent_1 : decode cX6_scent 1 = .ok (.getfield 20, 3) := by decide +kernel
theorem dX6_scent_4 : decode cX6_scent 4 = .ok (.iload_n 1, 1) := by decide +kernel
theorem dX6_scent_5 : decode cX6_scent 5 = .ok (.aaload, 1) := by decide +kernel
theorem dX6_scent_6 : decode cX6_scent 6 = .ok (.astore 8, 2) := by decide +kernel
theorem dX6_scent_8 : decode cX6_scent 8 = .ok (.aload_n 0, 1) := by decide +kernel
theorem dX6_scent_9 : decode cX6_scent 9 = .ok (.getfield 12, 3) := by decide +kernel
theorem dX6_scent_12 : decode cX6_scent 12 = .ok (.iload_n 3, 1) := by decide +kernel
theorem dX6_scent_13 : decode cX6_scent 13 = .ok (.iload 4, 2) := by decide +kernel
theorem dX6_scent_15 : decode cX6_scent 15 = .ok (.iload 7, 2) := by decide +kernel
theorem dX6_scent_17 : decode cX6_scent 17 = .ok (.invokevirtual 103, 3) := by decide +kernel
theorem dX6_scent_20 : decode cX6_scent 20 = .ok (.istore 9, 2) := by decide +kernel
theorem dX6_scent_22 : decode cX6_scent 22 = .ok (.aload 8, 2) := by decide +kernel
theorem dX6_scent_24 : decode cX6_scent 24 = .ok (.iload 5, 2) := by decide +kernel
theorem dX6_scent_26 : decode cX6_scent 26 = .ok (.iload 6, 2) := by decide +kernel
theorem dX6_scent_28 : decode cX6_scent 28 = .ok (.invokevirtual 107, 3) := by decide +kernel
theorem dX6_scent_31 : decode cX6_scent 31 = .ok (.ifCond .eq 13, 3) := by decide +kernel
theorem dX6_scent_34 : decode cX6_scent 34 = .ok (.iload 9, 2) := by decide +kernel
theorem dX6_scent_36 : decode cX6_scent 36 = .ok (.ineg, 1) := by decide +kernel
theorem dX6_scent_37 : decode cX6_scent 37 = .ok (.aload_n 0, 1) := by decide +kernel
theorem dX6_scent_38 : decode cX6_scent 38 = .ok (.getfield 74, 3) := by decide +kernel
theorem dX6_scent_41 : decode cX6_scent 41 = .ok (.if_icmp .le 5, 3) := by decide +kernel
theorem dX6_scent_44 : decode cX6_scent 44 = .ok (.iconst 0, 1) := by decide +kernel
theorem dX6_scent_45 : decode cX6_scent 45 = .ok (.ireturn, 1) := by decide +kernel
theorem dX6_scent_46 : decode cX6_scent 46 = .ok (.iconst 0, 1) := by decide +kernel
theorem dX6_scent_47 : decode cX6_scent 47 = .ok (.aload 8, 2) := by decide +kernel
theorem dX6_scent_49 : decode cX6_scent 49 = .ok (.getfield 111, 3) := by decide +kernel
theorem dX6_scent_52 : decode cX6_scent 52 = .ok (.iload_n 2, 1) := by decide +kernel
theorem dX6_scent_53 : decode cX6_scent 53 = .ok (.imul, 1) := by decide +kernel
theorem dX6_scent_54 : decode cX6_scent 54 = .ok (.aload_n 0, 1) := by decide +kernel
theorem dX6_scent_55 : decode cX6_scent 55 = .ok (.getfield 68, 3) := by decide +kernel
theorem dX6_scent_58 : decode cX6_scent 58 = .ok (.aload_n 0, 1) := by decide +kernel
theorem dX6_scent_59 : decode cX6_scent 59 = .ok (.getfield 12, 3) := by decide +kernel
theorem dX6_scent_62 : decode cX6_scent 62 = .ok (.iload_n 3, 1) := by decide +kernel
theorem dX6_scent_63 : decode cX6_scent 63 = .ok (.iload 4, 2) := by decide +kernel
theorem dX6_scent_65 : decode cX6_scent 65 = .ok (.invokevirtual 114, 3) := by decide +kernel
theorem dX6_scent_68 : decode cX6_scent 68 = .ok (.imul, 1) := by decide +kernel
theorem dX6_scent_69 : decode cX6_scent 69 = .ok (.isub, 1) := by decide +kernel
theorem dX6_scent_70 : decode cX6_scent 70 = .ok (.aload_n 0, 1) := by decide +kernel
theorem dX6_scent_71 : decode cX6_scent 71 = .ok (.getfield 71, 3) := by decide +kernel
theorem dX6_scent_74 : decode cX6_scent 74 = .ok (.iload 9, 2) := by decide +kernel
theorem dX6_scent_76 : decode cX6_scent 76 = .ok (.imul, 1) := by decide +kernel
theorem dX6_scent_77 : decode cX6_scent 77 = .ok (.iadd, 1) := by decide +kernel
theorem dX6_scent_78 : decode cX6_scent 78 = .ok (.invokestatic 118, 3) := by decide +kernel
theorem dX6_scent_81 : decode cX6_scent 81 = .ok (.ireturn, 1) := by decide +kernel
theorem dJ7_fill_53178_0 : decode cJ7_fill_53178 0 = .ok (.iconst 0, 1) := by decide +kernel
theorem dJ7_fill_53178_1 : decode cJ7_fill_53178 1 = .ok (.istore_n 2, 1) := by decide +kernel
theorem dJ7_fill_53178_2 : decode cJ7_fill_53178 2 = .ok (.aload_n 0, 1) := by decide +kernel
theorem dJ7_fill_53178_3 : decode cJ7_fill_53178 3 = .ok (.arraylength, 1) := by decide +kernel
theorem dJ7_fill_53178_4 : decode cJ7_fill_53178 4 = .ok (.istore_n 3, 1) := by decide +kernel
theorem dJ7_fill_53178_5 : decode cJ7_fill_53178 5 = .ok (.iload_n 2, 1) := by decide +kernel
theorem dJ7_fill_53178_6 : decode cJ7_fill_53178 6 = .ok (.iload_n 3, 1) := by decide +kernel
theorem dJ7_fill_53178_7 : decode cJ7_fill_53178 7 = .ok (.if_icmp .ge 13, 3) := by decide +kernel
theorem dJ7_fill_53178_10 : decode cJ7_fill_53178 10 = .ok (.aload_n 0, 1) := by decide +kernel
theorem dJ7_fill_53178_11 : decode cJ7_fill_53178 11 = .ok (.iload_n 2, 1) := by decide +kernel
theorem dJ7_fill_53178_12 : decode cJ7_fill_53178 12 = .ok (.iload_n 1, 1) := by decide +kernel
theorem dJ7_fill_53178_13 : decode cJ7_fill_53178 13 = .ok (.iastore, 1) := by decide +kernel
theorem dJ7_fill_53178_14 : decode cJ7_fill_53178 14 = .ok (.iinc 2 1, 3) := by decide +kernel
theorem dJ7_fill_53178_17 : decode cJ7_fill_53178 17 = .ok (.goto (-12), 3) := by decide +kernel
theorem dJ7_fill_53178_20 : decode cJ7_fill_53178 20 = .ok (.return_, 1) := by decide +kernel
theorem dX0_clear_0 : decode cX0_clear 0 = .ok (.aload_n 0, 1) := by decide +kernel
theorem dX0_clear_1 : decode cX0_clear 1 = .ok (.getfield 9, 3) := by decide +kernel
theorem dX0_clear_4 : decode cX0_clear 4 = .ok (.iconst 0, 1) := by decide +kernel
theorem dX0_clear_5 : decode cX0_clear 5 = .ok (.invokestatic 26, 3) := by decide +kernel
theorem dX0_clear_8 : decode cX0_clear 8 = .ok (.aload_n 0, 1) := by decide +kernel
theorem dX0_clear_9 : decode cX0_clear 9 = .ok (.getfield 15, 3) := by decide +kernel
theorem dX0_clear_12 : decode cX0_clear 12 = .ok (.iconst 0, 1) := by decide +kernel
theorem dX0_clear_13 : decode cX0_clear 13 = .ok (.invokestatic 26, 3) := by decide +kernel
theorem dX0_clear_16 : decode cX0_clear 16 = .ok (.return_, 1) := by decide +kernel
theorem dX0_plantScent_0 : decode cX0_plantScent 0 = .ok (.aload_n 0, 1) := by decide +kernel
theorem dX0_plantScent_1 : decode cX0_plantScent 1 = .ok (.getfield 22, 3) := by decide +kernel
theorem dX0_plantScent_4 : decode cX0_plantScent 4 = .ok (.getfield 55, 3) := by decide +kernel
theorem dX0_plantScent_7 : decode cX0_plantScent 7 = .ok (.iload_n 1, 1) := by decide +kernel
theorem dX0_plantScent_8 : decode cX0_plantScent 8 = .ok (.iaload, 1) := by decide +kernel
theorem dX0_plantScent_9 : decode cX0_plantScent 9 = .ok (.iconst 1, 1) := by decide +kernel
theorem dX0_plantScent_10 : decode cX0_plantScent 10 = .ok (.if_icmp .ne 5, 3) := by decide +kernel
theorem dX0_plantScent_13 : decode cX0_plantScent 13 = .ok (.iconst 0, 1) := by decide +kernel
theorem dX0_plantScent_14 : decode cX0_plantScent 14 = .ok (.ireturn, 1) := by decide +kernel
theorem dX0_plantScent_15 : decode cX0_plantScent 15 = .ok (.aload_n 0, 1) := by decide +kernel
theorem dX0_plantScent_16 : decode cX0_plantScent 16 = .ok (.getfield 22, 3) := by decide +kernel
theorem dX0_plantScent_19 : decode cX0_plantScent 19 = .ok (.getfield 55, 3) := by decide +kernel
theorem dX0_plantScent_22 : decode cX0_plantScent 22 = .ok (.iload_n 1, 1) := by decide +kernel
theorem dX0_plantScent_23 : decode cX0_plantScent 23 = .ok (.iaload, 1) := by decide +kernel
theorem dX0_plantScent_24 : decode cX0_plantScent 24 = .ok (.iconst 2, 1) := by decide +kernel
theorem dX0_plantScent_25 : decode cX0_plantScent 25 = .ok (.if_icmp .ne 7, 3) := by decide +kernel
theorem dX0_plantScent_28 : decode cX0_plantScent 28 = .ok (.iconst 3, 1) := by decide +kernel
theorem dX0_plantScent_29 : decode cX0_plantScent 29 = .ok (.goto 4, 3) := by decide +kernel
theorem dX0_plantScent_32 : decode cX0_plantScent 32 = .ok (.iconst 1, 1) := by decide +kernel
theorem dX0_plantScent_33 : decode cX0_plantScent 33 = .ok (.istore 5, 2) := by decide +kernel
theorem dX0_plantScent_35 : decode cX0_plantScent 35 = .ok (.aload_n 0, 1) := by decide +kernel
theorem dX0_plantScent_36 : decode cX0_plantScent 36 = .ok (.getfield 18, 3) := by decide +kernel
theorem dX0_plantScent_39 : decode cX0_plantScent 39 = .ok (.aload_n 0, 1) := by decide +kernel
theorem dX0_plantScent_40 : decode cX0_plantScent 40 = .ok (.getfield 18, 3) := by decide +kernel
theorem dX0_plantScent_43 : decode cX0_plantScent 43 = .ok (.getfield 45, 3) := by decide +kernel
theorem dX0_plantScent_46 : decode cX0_plantScent 46 = .ok (.iload_n 1, 1) := by decide +kernel
theorem dX0_plantScent_47 : decode cX0_plantScent 47 = .ok (.iaload, 1) := by decide +kernel
theorem dX0_plantScent_48 : decode cX0_plantScent 48 = .ok (.iload 5, 2) := by decide +kernel
theorem dX0_plantScent_50 : decode cX0_plantScent 50 = .ok (.aload_n 0, 1) := by decide +kernel
theorem dX0_plantScent_51 : decode cX0_plantScent 51 = .ok (.getfield 18, 3) := by decide +kernel
theorem dX0_plantScent_54 : decode cX0_plantScent 54 = .ok (.getfield 60, 3) := by decide +kernel
theorem dX0_plantScent_57 : decode cX0_plantScent 57 = .ok (.iload_n 1, 1) := by decide +kernel
theorem dX0_plantScent_58 : decode cX0_plantScent 58 = .ok (.iaload, 1) := by decide +kernel
theorem dX0_plantScent_59 : decode cX0_plantScent 59 = .ok (.iload_n 2, 1) := by decide +kernel
theorem dX0_plantScent_60 : decode cX0_plantScent 60 = .ok (.aload_n 0, 1) := by decide +kernel
theorem dX0_plantScent_61 : decode cX0_plantScent 61 = .ok (.getfield 22, 3) := by decide +kernel
theorem dX0_plantScent_64 : decode cX0_plantScent 64 = .ok (.getfield 63, 3) := by decide +kernel
theorem dX0_plantScent_67 : decode cX0_plantScent 67 = .ok (.iload_n 3, 1) := by decide +kernel
theorem dX0_plantScent_68 : decode cX0_plantScent 68 = .ok (.iload 4, 2) := by decide +kernel
theorem dX0_plantScent_70 : decode cX0_plantScent 70 = .ok (.invokevirtual 66, 3) := by decide +kernel
theorem dX0_plantScent_73 : decode cX0_plantScent 73 = .ok (.ireturn, 1) := by decide +kernel
theorem dX0_add_0 : decode cX0_add 0 = .ok (.aload_n 0, 1) := by decide +kernel
theorem dX0_add_1 : decode cX0_add 1 = .ok (.getfield 9, 3) := by decide +kernel
theorem dX0_add_4 : decode cX0_add 4 = .ok (.iload_n 1, 1) := by decide +kernel
theorem dX0_add_5 : decode cX0_add 5 = .ok (.dup2, 1) := by decide +kernel
theorem dX0_add_6 : decode cX0_add 6 = .ok (.iaload, 1) := by decide +kernel
theorem dX0_add_7 : decode cX0_add 7 = .ok (.iload_n 3, 1) := by decide +kernel
theorem dX0_add_8 : decode cX0_add 8 = .ok (.iadd, 1) := by decide +kernel
theorem dX0_add_9 : decode cX0_add 9 = .ok (.iastore, 1) := by decide +kernel
theorem dX0_add_10 : decode cX0_add 10 = .ok (.iload_n 2, 1) := by decide +kernel
theorem dX0_add_11 : decode cX0_add 11 = .ok (.iconst (-1), 1) := by decide +kernel
theorem dX0_add_12 : decode cX0_add 12 = .ok (.if_icmp .eq 18, 3) := by decide +kernel
theorem dX0_add_15 : decode cX0_add 15 = .ok (.aload_n 0, 1) := by decide +kernel
theorem dX0_add_16 : decode cX0_add 16 = .ok (.getfield 15, 3) := by decide +kernel
theorem dX0_add_19 : decode cX0_add 19 = .ok (.iload_n 2, 1) := by decide +kernel
theorem dX0_add_20 : decode cX0_add 20 = .ok (.bipush 6, 2) := by decide +kernel
theorem dX0_add_22 : decode cX0_add 22 = .ok (.imul, 1) := by decide +kernel
theorem dX0_add_23 : decode cX0_add 23 = .ok (.iload_n 1, 1) := by decide +kernel
theorem dX0_add_24 : decode cX0_add 24 = .ok (.iadd, 1) := by decide +kernel
theorem dX0_add_25 : decode cX0_add 25 = .ok (.dup2, 1) := by decide +kernel
theorem dX0_add_26 : decode cX0_add 26 = .ok (.iaload, 1) := by decide +kernel
theorem dX0_add_27 : decode cX0_add 27 = .ok (.iload_n 3, 1) := by decide +kernel
theorem dX0_add_28 : decode cX0_add 28 = .ok (.iadd, 1) := by decide +kernel
theorem dX0_add_29 : decode cX0_add 29 = .ok (.iastore, 1) := by decide +kernel
theorem dX0_add_30 : decode cX0_add 30 = .ok (.return_, 1) := by decide +kernel
theorem dX0_fill_0 : decode cX0_fill 0 = .ok (.aload_n 0, 1) := by decide +kernel
theorem dX0_fill_1 : decode cX0_fill 1 = .ok (.invokevirtual 32, 3) := by decide +kernel
theorem dX0_fill_4 : decode cX0_fill 4 = .ok (.iconst 0, 1) := by decide +kernel
theorem dX0_fill_5 : decode cX0_fill 5 = .ok (.istore 4, 2) := by decide +kernel
theorem dX0_fill_7 : decode cX0_fill 7 = .ok (.iload 4, 2) := by decide +kernel
theorem dX0_fill_9 : decode cX0_fill 9 = .ok (.aload_n 0, 1) := by decide +kernel
theorem dX0_fill_10 : decode cX0_fill 10 = .ok (.getfield 18, 3) := by decide +kernel
theorem dX0_fill_13 : decode cX0_fill 13 = .ok (.getfield 35, 3) := by decide +kernel
theorem dX0_fill_16 : decode cX0_fill 16 = .ok (.if_icmp .ge 46, 3) := by decide +kernel
theorem dX0_fill_19 : decode cX0_fill 19 = .ok (.aload_n 0, 1) := by decide +kernel
theorem dX0_fill_20 : decode cX0_fill 20 = .ok (.iload 4, 2) := by decide +kernel
theorem dX0_fill_22 : decode cX0_fill 22 = .ok (.iload_n 1, 1) := by decide +kernel
theorem dX0_fill_23 : decode cX0_fill 23 = .ok (.iload_n 2, 1) := by decide +kernel
theorem dX0_fill_24 : decode cX0_fill 24 = .ok (.iload_n 3, 1) := by decide +kernel
theorem dX0_fill_25 : decode cX0_fill 25 = .ok (.invokevirtual 41, 3) := by decide +kernel
theorem dX0_fill_28 : decode cX0_fill 28 = .ok (.istore 5, 2) := by decide +kernel
theorem dX0_fill_30 : decode cX0_fill 30 = .ok (.aload_n 0, 1) := by decide +kernel
theorem dX0_fill_31 : decode cX0_fill 31 = .ok (.aload_n 0, 1) := by decide +kernel
theorem dX0_fill_32 : decode cX0_fill 32 = .ok (.getfield 18, 3) := by decide +kernel
theorem dX0_fill_35 : decode cX0_fill 35 = .ok (.getfield 45, 3) := by decide +kernel
theorem dX0_fill_38 : decode cX0_fill 38 = .ok (.iload 4, 2) := by decide +kernel
theorem dX0_fill_40 : decode cX0_fill 40 = .ok (.iaload, 1) := by decide +kernel
theorem dX0_fill_41 : decode cX0_fill 41 = .ok (.aload_n 0, 1) := by decide +kernel
theorem dX0_fill_42 : decode cX0_fill 42 = .ok (.getfield 18, 3) := by decide +kernel
theorem dX0_fill_45 : decode cX0_fill 45 = .ok (.getfield 48, 3) := by decide +kernel
theorem dX0_fill_48 : decode cX0_fill 48 = .ok (.iload 4, 2) := by decide +kernel
theorem dX0_fill_50 : decode cX0_fill 50 = .ok (.iaload, 1) := by decide +kernel
theorem dX0_fill_51 : decode cX0_fill 51 = .ok (.iload 5, 2) := by decide +kernel
theorem dX0_fill_53 : decode cX0_fill 53 = .ok (.invokevirtual 51, 3) := by decide +kernel
theorem dX0_fill_56 : decode cX0_fill 56 = .ok (.iinc 4 1, 3) := by decide +kernel
theorem dX0_fill_59 : decode cX0_fill 59 = .ok (.goto (-52), 3) := by decide +kernel
theorem dX0_fill_62 : decode cX0_fill 62 = .ok (.return_, 1) := by decide +kernel
theorem dX0_masked_0 : decode cX0_masked 0 = .ok (.aload_n 0, 1) := by decide +kernel
theorem dX0_masked_1 : decode cX0_masked 1 = .ok (.getfield 9, 3) := by decide +kernel
theorem dX0_masked_4 : decode cX0_masked 4 = .ok (.iload_n 1, 1) := by decide +kernel
theorem dX0_masked_5 : decode cX0_masked 5 = .ok (.iaload, 1) := by decide +kernel
theorem dX0_masked_6 : decode cX0_masked 6 = .ok (.istore_n 2, 1) := by decide +kernel
theorem dX0_masked_7 : decode cX0_masked 7 = .ok (.aload_n 0, 1) := by decide +kernel
theorem dX0_masked_8 : decode cX0_masked 8 = .ok (.getfield 18, 3) := by decide +kernel
theorem dX0_masked_11 : decode cX0_masked 11 = .ok (.getfield 70, 3) := by decide +kernel
theorem dX0_masked_14 : decode cX0_masked 14 = .ok (.iload_n 1, 1) := by decide +kernel
theorem dX0_masked_15 : decode cX0_masked 15 = .ok (.baload, 1) := by decide +kernel
theorem dX0_masked_16 : decode cX0_masked 16 = .ok (.ifCond .ne 5, 3) := by decide +kernel
theorem dX0_masked_19 : decode cX0_masked 19 = .ok (.iload_n 2, 1) := by decide +kernel
theorem dX0_masked_20 : decode cX0_masked 20 = .ok (.ireturn, 1) := by decide +kernel
theorem dX0_masked_21 : decode cX0_masked 21 = .ok (.iconst 0, 1) := by decide +kernel
theorem dX0_masked_22 : decode cX0_masked 22 = .ok (.istore_n 3, 1) := by decide +kernel
theorem dX0_masked_23 : decode cX0_masked 23 = .ok (.iload_n 3, 1) := by decide +kernel
theorem dX0_masked_24 : decode cX0_masked 24 = .ok (.aload_n 0, 1) := by decide +kernel
theorem dX0_masked_25 : decode cX0_masked 25 = .ok (.getfield 18, 3) := by decide +kernel
theorem dX0_masked_28 : decode cX0_masked 28 = .ok (.getfield 74, 3) := by decide +kernel
theorem dX0_masked_31 : decode cX0_masked 31 = .ok (.if_icmp .ge 36, 3) := by decide +kernel
theorem dX0_masked_34 : decode cX0_masked 34 = .ok (.iload_n 2, 1) := by decide +kernel
theorem dX0_masked_35 : decode cX0_masked 35 = .ok (.aload_n 0, 1) := by decide +kernel
theorem dX0_masked_36 : decode cX0_masked 36 = .ok (.getfield 18, 3) := by decide +kernel
theorem dX0_masked_39 : decode cX0_masked 39 = .ok (.getfield 77, 3) := by decide +kernel
theorem dX0_masked_42 : decode cX0_masked 42 = .ok (.iload_n 3, 1) := by decide +kernel
theorem dX0_masked_43 : decode cX0_masked 43 = .ok (.bipush 6, 2) := by decide +kernel
theorem dX0_masked_45 : decode cX0_masked 45 = .ok (.imul, 1) := by decide +kernel
theorem dX0_masked_46 : decode cX0_masked 46 = .ok (.iload_n 1, 1) := by decide +kernel
theorem dX0_masked_47 : decode cX0_masked 47 = .ok (.iadd, 1) := by decide +kernel
theorem dX0_masked_48 : decode cX0_masked 48 = .ok (.iaload, 1) := by decide +kernel
theorem dX0_masked_49 : decode cX0_masked 49 = .ok (.aload_n 0, 1) := by decide +kernel
theorem dX0_masked_50 : decode cX0_masked 50 = .ok (.getfield 9, 3) := by decide +kernel
theorem dX0_masked_53 : decode cX0_masked 53 = .ok (.iload_n 3, 1) := by decide +kernel
theorem dX0_masked_54 : decode cX0_masked 54 = .ok (.iaload, 1) := by decide +kernel
theorem dX0_masked_55 : decode cX0_masked 55 = .ok (.imul, 1) := by decide +kernel
theorem dX0_masked_56 : decode cX0_masked 56 = .ok (.bipush 100, 2) := by decide +kernel
theorem dX0_masked_58 : decode cX0_masked 58 = .ok (.idiv, 1) := by decide +kernel
theorem dX0_masked_59 : decode cX0_masked 59 = .ok (.isub, 1) := by decide +kernel
theorem dX0_masked_60 : decode cX0_masked 60 = .ok (.istore_n 2, 1) := by decide +kernel
theorem dX0_masked_61 : decode cX0_masked 61 = .ok (.iinc 3 1, 3) := by decide +kernel
theorem dX0_masked_64 : decode cX0_masked 64 = .ok (.goto (-41), 3) := by decide +kernel
theorem dX0_masked_67 : decode cX0_masked 67 = .ok (.iload_n 2, 1) := by decide +kernel
theorem dX0_masked_68 : decode cX0_masked 68 = .ok (.ifCond .ge 7, 3) := by decide +kernel
theorem dX0_masked_71 : decode cX0_masked 71 = .ok (.iconst 0, 1) := by decide +kernel
theorem dX0_masked_72 : decode cX0_masked 72 = .ok (.goto 4, 3) := by decide +kernel
theorem dX0_masked_75 : decode cX0_masked 75 = .ok (.iload_n 2, 1) := by decide +kernel
theorem dX0_masked_76 : decode cX0_masked 76 = .ok (.ireturn, 1) := by decide +kernel
theorem dX11_isBelow_0 : decode cX11_isBelow 0 = .ok (.iload_n 0, 1) := by decide +kernel
theorem dX11_isBelow_1 : decode cX11_isBelow 1 = .ok (.ifCond .lt 12, 3) := by decide +kernel
theorem dX11_isBelow_4 : decode cX11_isBelow 4 = .ok (.iload_n 0, 1) := by decide +kernel
theorem dX11_isBelow_5 : decode cX11_isBelow 5 = .ok (.iload_n 1, 1) := by decide +kernel
theorem dX11_isBelow_6 : decode cX11_isBelow 6 = .ok (.if_icmp .ge 7, 3) := by decide +kernel
theorem dX11_isBelow_9 : decode cX11_isBelow 9 = .ok (.iconst 1, 1) := by decide +kernel
theorem dX11_isBelow_10 : decode cX11_isBelow 10 = .ok (.goto 4, 3) := by decide +kernel
theorem dX11_isBelow_13 : decode cX11_isBelow 13 = .ok (.iconst 0, 1) := by decide +kernel
theorem dX11_isBelow_14 : decode cX11_isBelow 14 = .ok (.ireturn, 1) := by decide +kernel
theorem dX11_need_0 : decode cX11_need 0 = .ok (.iload_n 0, 1) := by decide +kernel
theorem dX11_need_1 : decode cX11_need 1 = .ok (.ifCond .ne 14, 3) := by decide +kernel
theorem dX11_need_4 : decode cX11_need 4 = .ok (.new 321, 3) := by decide +kernel
theorem dX11_need_7 : decode cX11_need 7 = .ok (.dup, 1) := by decide +kernel
theorem dX11_need_8 : decode cX11_need 8 = .ok (.ldc_w 323, 3) := by decide +kernel
theorem dX11_need_11 : decode cX11_need 11 = .ok (.invokespecial 325, 3) := by decide +kernel
theorem dX11_need_14 : decode cX11_need 14 = .ok (.athrow, 1) := by decide +kernel
theorem dX11_need_15 : decode cX11_need 15 = .ok (.return_, 1) := by decide +kernel
theorem dX11_needWind_0 : decode cX11_needWind 0 = .ok (.iload_n 0, 1) := by decide +kernel
theorem dX11_needWind_1 : decode cX11_needWind 1 = .ok (.iconst 5, 1) := by decide +kernel
theorem dX11_needWind_2 : decode cX11_needWind 2 = .ok (.invokestatic 173, 3) := by decide +kernel
theorem dX11_needWind_5 : decode cX11_needWind 5 = .ok (.invokestatic 121, 3) := by decide +kernel
theorem dX11_needWind_8 : decode cX11_needWind 8 = .ok (.return_, 1) := by decide +kernel
theorem dX11_needAir_0 : decode cX11_needAir 0 = .ok (.iload_n 1, 1) := by decide +kernel
theorem dX11_needAir_1 : decode cX11_needAir 1 = .ok (.aload_n 0, 1) := by decide +kernel
theorem dX11_needAir_2 : decode cX11_needAir 2 = .ok (.getfield 20, 3) := by decide +kernel
theorem dX11_needAir_5 : decode cX11_needAir 5 = .ok (.getfield 128, 3) := by decide +kernel
theorem dX11_needAir_8 : decode cX11_needAir 8 = .ok (.invokevirtual 326, 3) := by decide +kernel
theorem dX11_needAir_11 : decode cX11_needAir 11 = .ok (.invokestatic 173, 3) := by decide +kernel
theorem dX11_needAir_14 : decode cX11_needAir 14 = .ok (.ifCond .eq 16, 3) := by decide +kernel
theorem dX11_needAir_17 : decode cX11_needAir 17 = .ok (.iload_n 2, 1) := by decide +kernel
theorem dX11_needAir_18 : decode cX11_needAir 18 = .ok (.bipush 24, 2) := by decide +kernel
theorem dX11_needAir_20 : decode cX11_needAir 20 = .ok (.invokestatic 173, 3) := by decide +kernel
theorem dX11_needAir_23 : decode cX11_needAir 23 = .ok (.ifCond .eq 7, 3) := by decide +kernel
theorem dX11_needAir_26 : decode cX11_needAir 26 = .ok (.iconst 1, 1) := by decide +kernel
theorem dX11_needAir_27 : decode cX11_needAir 27 = .ok (.goto 4, 3) := by decide +kernel
theorem dX11_needAir_30 : decode cX11_needAir 30 = .ok (.iconst 0, 1) := by decide +kernel
theorem dX11_needAir_31 : decode cX11_needAir 31 = .ok (.invokestatic 121, 3) := by decide +kernel
theorem dX11_needAir_34 : decode cX11_needAir 34 = .ok (.iload_n 3, 1) := by decide +kernel
theorem dX11_needAir_35 : decode cX11_needAir 35 = .ok (.invokestatic 229, 3) := by decide +kernel
theorem dX11_needAir_38 : decode cX11_needAir 38 = .ok (.return_, 1) := by decide +kernel
theorem dX0_noticed_0 : decode cX0_noticed 0 = .ok (.iload_n 1, 1) := by decide +kernel
theorem dX0_noticed_1 : decode cX0_noticed 1 = .ok (.aload_n 0, 1) := by decide +kernel
theorem dX0_noticed_2 : decode cX0_noticed 2 = .ok (.getfield 18, 3) := by decide +kernel
theorem dX0_noticed_5 : decode cX0_noticed 5 = .ok (.getfield 80, 3) := by decide +kernel
theorem dX0_noticed_8 : decode cX0_noticed 8 = .ok (.if_icmp .ge 7, 3) := by decide +kernel
theorem dX0_noticed_11 : decode cX0_noticed 11 = .ok (.iconst 0, 1) := by decide +kernel
theorem dX0_noticed_12 : decode cX0_noticed 12 = .ok (.goto 4, 3) := by decide +kernel
theorem dX0_noticed_15 : decode cX0_noticed 15 = .ok (.iload_n 1, 1) := by decide +kernel
theorem dX0_noticed_16 : decode cX0_noticed 16 = .ok (.ireturn, 1) := by decide +kernel
theorem dX11_smelt_0 : decode cX11_smelt 0 = .ok (.iload_n 1, 1) := by decide +kernel
theorem dX11_smelt_1 : decode cX11_smelt 1 = .ok (.aload_n 0, 1) := by decide +kernel
theorem dX11_smelt_2 : decode cX11_smelt 2 = .ok (.getfield 20, 3) := by decide +kernel
theorem dX11_smelt_5 : decode cX11_smelt 5 = .ok (.getfield 140, 3) := by decide +kernel
theorem dX11_smelt_8 : decode cX11_smelt 8 = .ok (.invokestatic 173, 3) := by decide +kernel
theorem dX11_smelt_11 : decode cX11_smelt 11 = .ok (.ifCond .eq 16, 3) := by decide +kernel
theorem dX11_smelt_14 : decode cX11_smelt 14 = .ok (.iload 5, 2) := by decide +kernel
theorem dX11_smelt_16 : decode cX11_smelt 16 = .ok (.iconst 3, 1) := by decide +kernel
theorem dX11_smelt_17 : decode cX11_smelt 17 = .ok (.invokestatic 173, 3) := by decide +kernel
theorem dX11_smelt_20 : decode cX11_smelt 20 = .ok (.ifCond .eq 7, 3) := by decide +kernel
theorem dX11_smelt_23 : decode cX11_smelt 23 = .ok (.iconst 1, 1) := by decide +kernel
theorem dX11_smelt_24 : decode cX11_smelt 24 = .ok (.goto 4, 3) := by decide +kernel
theorem dX11_smelt_27 : decode cX11_smelt 27 = .ok (.iconst 0, 1) := by decide +kernel
theorem dX11_smelt_28 : decode cX11_smelt 28 = .ok (.invokestatic 121, 3) := by decide +kernel
theorem dX11_smelt_31 : decode cX11_smelt 31 = .ok (.aload_n 0, 1) := by decide +kernel
theorem dX11_smelt_32 : decode cX11_smelt 32 = .ok (.iload_n 2, 1) := by decide +kernel
theorem dX11_smelt_33 : decode cX11_smelt 33 = .ok (.iload_n 3, 1) := by decide +kernel
theorem dX11_smelt_34 : decode cX11_smelt 34 = .ok (.iload 4, 2) := by decide +kernel
theorem dX11_smelt_36 : decode cX11_smelt 36 = .ok (.invokevirtual 203, 3) := by decide +kernel
theorem dX11_smelt_39 : decode cX11_smelt 39 = .ok (.aload_n 0, 1) := by decide +kernel
theorem dX11_smelt_40 : decode cX11_smelt 40 = .ok (.getfield 51, 3) := by decide +kernel
theorem dX11_smelt_43 : decode cX11_smelt 43 = .ok (.iload_n 2, 1) := by decide +kernel
theorem dX11_smelt_44 : decode cX11_smelt 44 = .ok (.iload_n 3, 1) := by decide +kernel
theorem dX11_smelt_45 : decode cX11_smelt 45 = .ok (.iload 4, 2) := by decide +kernel
theorem dX11_smelt_47 : decode cX11_smelt 47 = .ok (.invokevirtual 211, 3) := by decide +kernel
theorem dX11_smelt_50 : decode cX11_smelt 50 = .ok (.iload 5, 2) := by decide +kernel
theorem dX11_smelt_52 : decode cX11_smelt 52 = .ok (.ifCond .ne 13, 3) := by decide +kernel
theorem dX11_smelt_55 : decode cX11_smelt 55 = .ok (.aload_n 0, 1) := by decide +kernel
theorem dX11_smelt_56 : decode cX11_smelt 56 = .ok (.getfield 51, 3) := by decide +kernel
theorem dX11_smelt_59 : decode cX11_smelt 59 = .ok (.getfield 214, 3) := by decide +kernel
theorem dX11_smelt_62 : decode cX11_smelt 62 = .ok (.iload_n 1, 1) := by decide +kernel
theorem dX11_smelt_63 : decode cX11_smelt 63 = .ok (.iaload, 1) := by decide +kernel
theorem dX11_smelt_64 : decode cX11_smelt 64 = .ok (.ireturn, 1) := by decide +kernel
theorem dX11_smelt_65 : decode cX11_smelt 65 = .ok (.aload_n 0, 1) := by decide +kernel
theorem dX11_smelt_66 : decode cX11_smelt 66 = .ok (.getfield 51, 3) := by decide +kernel
theorem dX11_smelt_69 : decode cX11_smelt 69 = .ok (.iload_n 1, 1) := by decide +kernel
theorem dX11_smelt_70 : decode cX11_smelt 70 = .ok (.invokevirtual 217, 3) := by decide +kernel
theorem dX11_smelt_73 : decode cX11_smelt 73 = .ok (.istore 6, 2) := by decide +kernel
theorem dX11_smelt_75 : decode cX11_smelt 75 = .ok (.iload 5, 2) := by decide +kernel
theorem dX11_smelt_77 : decode cX11_smelt 77 = .ok (.iconst 1, 1) := by decide +kernel
theorem dX11_smelt_78 : decode cX11_smelt 78 = .ok (.if_icmp .ne 8, 3) := by decide +kernel
theorem dX11_smelt_81 : decode cX11_smelt 81 = .ok (.iload 6, 2) := by decide +kernel
theorem dX11_smelt_83 : decode cX11_smelt 83 = .ok (.goto 12, 3) := by decide +kernel
theorem dX11_smelt_86 : decode cX11_smelt 86 = .ok (.aload_n 0, 1) := by decide +kernel
theorem dX11_smelt_87 : decode cX11_smelt 87 = .ok (.getfield 51, 3) := by decide +kernel
theorem dX11_smelt_90 : decode cX11_smelt 90 = .ok (.iload 6, 2) := by decide +kernel
theorem dX11_smelt_92 : decode cX11_smelt 92 = .ok (.invokevirtual 220, 3) := by decide +kernel
theorem dX11_smelt_95 : decode cX11_smelt 95 = .ok (.ireturn, 1) := by decide +kernel
def f_X4_cells (D : aD) : Option (Int32 × aD) :=
  some ((gI D 3 0) * (gI D 3 1), D)
set_option maxRecDepth 100000 in
set_option maxHeartbeats 800000 in
theorem c_X4_cells {G : aG} (hG : gOK G) {shp : List aSh} (hS : aShp shp) {fr : Option Nat} {D : aD} {K : Int32 → aD → Prop} (h : Ok2 (f_X4_cells D) K) : AC G (aRm 1 0 0) M_X4_cells [.ref 3] fr shp D (aQi shp K) := by
  replace h := Ok2.ok h
  unfold f_X4_cells at h
  refine AC.of (al := [some (.ref 3)]) (r := 0) (by decide) (Nat.le_of_ble_eq_true rfl) rfl ?_
  refine aw_aload_n (n := 1) (i := 0) dX4_cells_0 rfl rfl rfl ?_
  refine aw_getI (n := 4) (j := 0) hG.1 fl_RX4_22 (sF_3 hS) rfl dX4_cells_1 rfl ?_
  refine aw_aload_n (n := 5) (i := 0) dX4_cells_4 rfl rfl rfl ?_
  refine aw_getI (n := 8) (j := 1) hG.1 fl_RX4_26 (sF_3 hS) rfl dX4_cells_5 rfl ?_
  refine aw_imul (n := 9) dX4_cells_8 rfl ?_
  exact aw_iret rfl (by decide) (by decide) dX4_cells_9 ⟨_, rfl, rfl, (Ok.dn h :)⟩
def J_X4_clearTaken_22_21 (D : aD) : Option (aD) :=
  some D
def B_X4_clearTaken_22_2 (v1 : Int32) (D : aD) : Option ((Int32 × aD) ⊕ ((aD))) :=
  if 64 ≤ v1 then (some (.inr D)) else (aGd (aIn v1 64) (aLet (pI D 25 v1.toNatClampNeg 0) (fun D_2 => aLet (v1 + 1) (fun v1_3 => some (.inl (v1_3, D_2))))))
def J_X4_clearTaken_22_2 (v1 : Int32) (D : aD) : Option (aD) :=
  (aLp (fun s => B_X4_clearTaken_22_2 s.1 s.2) (v1, D)).bind (fun r => J_X4_clearTaken_22_21 r)
def f_X4_clearTaken_22 (D : aD) : Option (aD) :=
  J_X4_clearTaken_22_2 0 D
set_option maxRecDepth 100000 in
set_option maxHeartbeats 800000 in
theorem c_X4_clearTaken_22 {G : aG} (hG : gOK G) {shp : List aSh} {fr : Option Nat} {D : aD} {K : aD → Prop} (h : Ok (f_X4_clearTaken_22 D) K) (hs_22 : shp[22]? = some (.inr (4, [none, none, some (some 23), some (some 24), some (some 25)]))) (hs_25 : shp[25]? = some (.inl (3, 64, []))) : AC G (aRm 1 0 0) M_X4_clearTaken [.ref 22] fr shp D (aQv shp K) := by
  unfold f_X4_clearTaken_22 at h
  refine AC.of (al := [some (.ref 22), none]) (r := 1) (by decide) (Nat.le_of_ble_eq_true rfl) rfl ?_
  have hJ_21 : ∀ (D : aD), Ok (J_X4_clearTaken_22_21 D) K → AW G (aRm 1 0 0) M_X4_clearTaken fr 0 0 21 [none, none] [] shp D (aQv shp K) := by
    intro D h
    unfold J_X4_clearTaken_22_21 at h
    exact aw_vret rfl (by decide) (by decide) dX4_clearTaken_21 ⟨rfl, rfl, (Ok.dn h :)⟩
  have hJ_2 : ∀ (v1 : Int32) (D : aD), Ok (J_X4_clearTaken_22_2 v1 D) K → AW G (aRm 1 0 0) M_X4_clearTaken fr 0 0 2 [some (.ref 22), some (.int v1)] [] shp D (aQv shp K) := by
    intro v1 D h
    unfold J_X4_clearTaken_22_2 at h
    refine Ok.lp (P := fun s => AW G (aRm 1 0 0) M_X4_clearTaken fr 0 0 2 [some (.ref 22), some (.int (s.1))] [] shp s.2 (aQv shp K)) (fun s Kb2 hL2 hR2 h => ?_) (v1, D) (Ok.bind h)
    obtain ⟨v1, D⟩ := s
    replace h : Ok (B_X4_clearTaken_22_2 v1 D) Kb2 := h
    unfold B_X4_clearTaken_22_2 at h
    refine aw_iload_n (n := 3) (i := 1) dX4_clearTaken_2 rfl rfl rfl ?_
    refine aw_bipush (n := 5) (v := 64) dX4_clearTaken_3 rfl (by decide) ?_
    refine aw_icmp_ge (n := 8) (tgt := 21) dX4_clearTaken_5 rfl (by decide) (fun c => ?_) (fun c => ?_)
    · replace h := Ok.ift h c
      exact aw_le' (hJ_21 D (hR2 D (Ok.dn h :))) trivial
    · replace h := Ok.iff h c
      refine aw_aload_n (n := 9) (i := 0) dX4_clearTaken_8 rfl rfl rfl ?_
      refine aw_getR (n := 12) (j := 4) (r := 25) hG.1 fl_RX4_18 hs_22 rfl dX4_clearTaken_9 rfl ?_
      refine aw_iload_n (n := 13) (i := 1) dX4_clearTaken_12 rfl rfl rfl ?_
      refine aw_iconst (n := 14) (v := 0) dX4_clearTaken_13 rfl (by decide) ?_
      obtain ⟨g_1, h⟩ := Ok.gd h
      obtain ⟨D_2, e_D_2, h⟩ := Ok.let_ h
      refine aw_zastore (n := 15) hG.1 (by decide) hs_25 (aIn_in g_1) e_D_2 dX4_clearTaken_14 rfl ?_
      obtain ⟨v1_3, e_v1_3, h⟩ := Ok.let_ h
      refine aw_iinc (n := 18) (al' := [some (.ref 22), some (.int v1_3)]) dX4_clearTaken_15 rfl rfl e_v1_3 (by decide) rfl ?_
      refine aw_goto (tgt := 2) dX4_clearTaken_18 (by decide) ?_
      exact aw_le' (hL2 (v1_3, D_2) (Ok.dn h :)) ⟨rfl, ⟨rfl, trivial⟩⟩
  refine aw_iconst (n := 1) (v := 0) dX4_clearTaken_0 rfl (by decide) ?_
  refine aw_istore_n (n := 2) (i := 1) (al' := [some (.ref 22), some (.int 0)]) dX4_clearTaken_1 rfl rfl rfl (by decide) rfl ?_
  exact aw_le' (hJ_2 0 D h) ⟨rfl, ⟨rfl, trivial⟩⟩
def J_X4_lay_22_76 (D : aD) : Option (aD) :=
  (f_X4_clearTaken_22 D).bind (fun D_3 => some D_3)
def J_X4_lay_22_70 (v1 : Int32) (v2 : Int32) (v3 : Int32) (D : aD) : Option ((Int32 × aD) ⊕ ((aD))) :=
  aLet (v3 + 1) (fun v3_4 => some (.inl (v3_4, D)))
def B_X4_lay_22_26 (v1 : Int32) (v2 : Int32) (v3 : Int32) (v4 : Int32) (D : aD) : Option ((Int32 × aD) ⊕ ((aD))) :=
  if v1 ≤ v4 then (some (.inr D)) else (if 8 ≤ v4 then (some (.inr D)) else (aGd (aIn ((v3 * v1) + v4) 64) (aLet (pI D 23 ((v3 * v1) + v4).toNatClampNeg v4) (fun D_6 => aGd (aIn ((v3 * v1) + v4) 64) (aLet (pI D_6 24 ((v3 * v1) + v4).toNatClampNeg v3) (fun D_8 => aLet (v4 + 1) (fun v4_9 => some (.inl (v4_9, D_8)))))))))
def J_X4_lay_22_26 (v1 : Int32) (v2 : Int32) (v3 : Int32) (v4 : Int32) (D : aD) : Option ((Int32 × aD) ⊕ ((aD))) :=
  (aLp (fun s => B_X4_lay_22_26 v1 v2 v3 s.1 s.2) (v4, D)).bind (fun r => J_X4_lay_22_70 v1 v2 v3 r)
def B_X4_lay_22_12 (v1 : Int32) (v2 : Int32) (v3 : Int32) (D : aD) : Option ((Int32 × aD) ⊕ ((aD))) :=
  if v2 ≤ v3 then (some (.inr D)) else (if 8 ≤ v3 then (some (.inr D)) else (J_X4_lay_22_26 v1 v2 v3 0 D))
def J_X4_lay_22_12 (v1 : Int32) (v2 : Int32) (v3 : Int32) (D : aD) : Option (aD) :=
  (aLp (fun s => B_X4_lay_22_12 v1 v2 s.1 s.2) (v3, D)).bind (fun r => J_X4_lay_22_76 r)
def f_X4_lay_22 (v1 : Int32) (v2 : Int32) (D : aD) : Option (aD) :=
  aLet (pI D 22 0 v1) (fun D_1 => aLet (pI D_1 22 1 v2) (fun D_2 => J_X4_lay_22_12 v1 v2 0 D_2))
set_option maxRecDepth 100000 in
set_option maxHeartbeats 800000 in
theorem c_X4_lay_22 {G : aG} (hG : gOK G) {shp : List aSh} {fr : Option Nat} {v1 : Int32} {v2 : Int32} {D : aD} {K : aD → Prop} (h : Ok (f_X4_lay_22 v1 v2 D) K) (hs_22 : shp[22]? = some (.inr (4, [none, none, some (some 23), some (some 24), some (some 25)]))) (hs_23 : shp[23]? = some (.inl (1, 64, []))) (hs_24 : shp[24]? = some (.inl (1, 64, []))) (hs_25 : shp[25]? = some (.inl (3, 64, []))) : AC G (aRm 2 0 0) M_X4_lay [.ref 22, .int v1, .int v2] fr shp D (aQv shp K) := by
  unfold f_X4_lay_22 at h
  refine AC.of (al := [some (.ref 22), some (.int v1), some (.int v2), none, none]) (r := 2) (by decide) (Nat.le_of_ble_eq_true rfl) rfl ?_
  have hJ_76 : ∀ (D : aD), Ok (J_X4_lay_22_76 D) K → AW G (aRm 2 0 0) M_X4_lay fr 0 0 76 [some (.ref 22), none, none, none, none] [] shp D (aQv shp K) := by
    intro D h
    unfold J_X4_lay_22_76 at h
    refine aw_aload_n (n := 77) (i := 0) dX4_lay_76 rfl rfl rfl ?_
    refine aw_cVv (M := M_X4_lay) (n := 80) (As := []) (rest := []) hG.1 lk_RX4_29 rfl rfl hs_22 (c_X4_clearTaken_22 hG (h := Ok.bind h) hs_22 hs_25) (by decide) (Nat.le_of_ble_eq_true rfl) (by decide) (by decide) dX4_lay_77 rfl (fun D_3 h => ?_)
    exact aw_vret rfl (by decide) (by decide) dX4_lay_80 ⟨rfl, rfl, (Ok.dn h :)⟩
  have hJ_12 : ∀ (v1 : Int32) (v2 : Int32) (v3 : Int32) (D : aD), Ok (J_X4_lay_22_12 v1 v2 v3 D) K → AW G (aRm 2 0 0) M_X4_lay fr 0 0 12 [some (.ref 22), some (.int v1), some (.int v2), some (.int v3), none] [] shp D (aQv shp K) := by
    intro v1 v2 v3 D h
    unfold J_X4_lay_22_12 at h
    refine Ok.lp (P := fun s => AW G (aRm 2 0 0) M_X4_lay fr 0 0 12 [some (.ref 22), some (.int v1), some (.int v2), some (.int (s.1)), none] [] shp s.2 (aQv shp K)) (fun s Kb12 hL12 hR12 h => ?_) (v3, D) (Ok.bind h)
    obtain ⟨v3, D⟩ := s
    replace h : Ok (B_X4_lay_22_12 v1 v2 v3 D) Kb12 := h
    unfold B_X4_lay_22_12 at h
    have hJ_70 : ∀ (v3 : Int32) (D : aD), Ok (J_X4_lay_22_70 v1 v2 v3 D) Kb12 → AW G (aRm 2 0 0) M_X4_lay fr 0 0 70 [some (.ref 22), some (.int v1), some (.int v2), some (.int v3), none] [] shp D (aQv shp K) := by
      intro v3 D h
      unfold J_X4_lay_22_70 at h
      obtain ⟨v3_4, e_v3_4, h⟩ := Ok.let_ h
      refine aw_iinc (n := 73) (al' := [some (.ref 22), some (.int v1), some (.int v2), some (.int v3_4), none]) dX4_lay_70 rfl rfl e_v3_4 (by decide) rfl ?_
      refine aw_goto (tgt := 12) dX4_lay_73 (by decide) ?_
      exact aw_le' (hL12 (v3_4, D) (Ok.dn h :)) ⟨rfl, ⟨rfl, ⟨rfl, ⟨rfl, trivial⟩⟩⟩⟩
    have hJ_26 : ∀ (v3 : Int32) (v4 : Int32) (D : aD), Ok (J_X4_lay_22_26 v1 v2 v3 v4 D) Kb12 → AW G (aRm 2 0 0) M_X4_lay fr 0 0 26 [some (.ref 22), some (.int v1), some (.int v2), some (.int v3), some (.int v4)] [] shp D (aQv shp K) := by
      intro v3 v4 D h
      unfold J_X4_lay_22_26 at h
      refine Ok.lp (P := fun s => AW G (aRm 2 0 0) M_X4_lay fr 0 0 26 [some (.ref 22), some (.int v1), some (.int v2), some (.int v3), some (.int (s.1))] [] shp s.2 (aQv shp K)) (fun s Kb26 hL26 hR26 h => ?_) (v4, D) (Ok.bind h)
      obtain ⟨v4, D⟩ := s
      replace h : Ok (B_X4_lay_22_26 v1 v2 v3 v4 D) Kb26 := h
      unfold B_X4_lay_22_26 at h
      refine aw_iload (n := 28) (i := 4) dX4_lay_26 rfl rfl ?_
      refine aw_iload_n (n := 29) (i := 1) dX4_lay_28 rfl rfl rfl ?_
      refine aw_icmp_ge (n := 32) (tgt := 70) dX4_lay_29 rfl (by decide) (fun c => ?_) (fun c => ?_)
      · replace h := Ok.ift h c
        exact aw_le' (hJ_70 v3 D (hR26 D (Ok.dn h :))) ⟨rfl, ⟨rfl, ⟨rfl, ⟨rfl, trivial⟩⟩⟩⟩
      · replace h := Ok.iff h c
        refine aw_iload (n := 34) (i := 4) dX4_lay_32 rfl rfl ?_
        refine aw_bipush (n := 36) (v := 8) dX4_lay_34 rfl (by decide) ?_
        refine aw_icmp_ge (n := 39) (tgt := 70) dX4_lay_36 rfl (by decide) (fun c => ?_) (fun c => ?_)
        · replace h := Ok.ift h c
          exact aw_le' (hJ_70 v3 D (hR26 D (Ok.dn h :))) ⟨rfl, ⟨rfl, ⟨rfl, ⟨rfl, trivial⟩⟩⟩⟩
        · replace h := Ok.iff h c
          refine aw_aload_n (n := 40) (i := 0) dX4_lay_39 rfl rfl rfl ?_
          refine aw_getR (n := 43) (j := 2) (r := 23) hG.1 fl_RX4_9 hs_22 rfl dX4_lay_40 rfl ?_
          refine aw_iload_n (n := 44) (i := 3) dX4_lay_43 rfl rfl rfl ?_
          refine aw_iload_n (n := 45) (i := 1) dX4_lay_44 rfl rfl rfl ?_
          refine aw_imul (n := 46) dX4_lay_45 rfl ?_
          refine aw_iload (n := 48) (i := 4) dX4_lay_46 rfl rfl ?_
          refine aw_iadd (n := 49) dX4_lay_48 rfl ?_
          refine aw_iload (n := 51) (i := 4) dX4_lay_49 rfl rfl ?_
          obtain ⟨g_5, h⟩ := Ok.gd h
          obtain ⟨D_6, e_D_6, h⟩ := Ok.let_ h
          refine aw_iastore (n := 52) hG.1 hs_23 (aIn_in g_5) e_D_6 dX4_lay_51 rfl ?_
          refine aw_aload_n (n := 53) (i := 0) dX4_lay_52 rfl rfl rfl ?_
          refine aw_getR (n := 56) (j := 3) (r := 24) hG.1 fl_RX4_15 hs_22 rfl dX4_lay_53 rfl ?_
          refine aw_iload_n (n := 57) (i := 3) dX4_lay_56 rfl rfl rfl ?_
          refine aw_iload_n (n := 58) (i := 1) dX4_lay_57 rfl rfl rfl ?_
          refine aw_imul (n := 59) dX4_lay_58 rfl ?_
          refine aw_iload (n := 61) (i := 4) dX4_lay_59 rfl rfl ?_
          refine aw_iadd (n := 62) dX4_lay_61 rfl ?_
          refine aw_iload_n (n := 63) (i := 3) dX4_lay_62 rfl rfl rfl ?_
          obtain ⟨g_7, h⟩ := Ok.gd h
          obtain ⟨D_8, e_D_8, h⟩ := Ok.let_ h
          refine aw_iastore (n := 64) hG.1 hs_24 (aIn_in g_7) e_D_8 dX4_lay_63 rfl ?_
          obtain ⟨v4_9, e_v4_9, h⟩ := Ok.let_ h
          refine aw_iinc (n := 67) (al' := [some (.ref 22), some (.int v1), some (.int v2), some (.int v3), some (.int v4_9)]) dX4_lay_64 rfl rfl e_v4_9 (by decide) rfl ?_
          refine aw_goto (tgt := 26) dX4_lay_67 (by decide) ?_
          exact aw_le' (hL26 (v4_9, D_8) (Ok.dn h :)) ⟨rfl, ⟨rfl, ⟨rfl, ⟨rfl, ⟨rfl, trivial⟩⟩⟩⟩⟩
    refine aw_iload_n (n := 13) (i := 3) dX4_lay_12 rfl rfl rfl ?_
    refine aw_iload_n (n := 14) (i := 2) dX4_lay_13 rfl rfl rfl ?_
    refine aw_icmp_ge (n := 17) (tgt := 76) dX4_lay_14 rfl (by decide) (fun c => ?_) (fun c => ?_)
    · replace h := Ok.ift h c
      exact aw_le' (hJ_76 D (hR12 D (Ok.dn h :))) ⟨rfl, trivial⟩
    · replace h := Ok.iff h c
      refine aw_iload_n (n := 18) (i := 3) dX4_lay_17 rfl rfl rfl ?_
      refine aw_bipush (n := 20) (v := 8) dX4_lay_18 rfl (by decide) ?_
      refine aw_icmp_ge (n := 23) (tgt := 76) dX4_lay_20 rfl (by decide) (fun c => ?_) (fun c => ?_)
      · replace h := Ok.ift h c
        exact aw_le' (hJ_76 D (hR12 D (Ok.dn h :))) ⟨rfl, trivial⟩
      · replace h := Ok.iff h c
        refine aw_iconst (n := 24) (v := 0) dX4_lay_23 rfl (by decide) ?_
        refine aw_istore (n := 26) (i := 4) (al' := [some (.ref 22), some (.int v1), some (.int v2), some (.int v3), some (.int 0)]) dX4_lay_24 rfl rfl (by decide) rfl ?_
        exact aw_le' (hJ_26 v3 0 D h) ⟨rfl, ⟨rfl, ⟨rfl, ⟨rfl, ⟨rfl, trivial⟩⟩⟩⟩⟩
  refine aw_aload_n (n := 1) (i := 0) dX4_lay_0 rfl rfl rfl ?_
  refine aw_iload_n (n := 2) (i := 1) dX4_lay_1 rfl rfl rfl ?_
  obtain ⟨D_1, e_D_1, h⟩ := Ok.let_ h
  refine aw_putI (n := 5) (j := 0) hG.1 fl_RX4_22 hs_22 rfl e_D_1 dX4_lay_2 rfl ?_
  refine aw_aload_n (n := 6) (i := 0) dX4_lay_5 rfl rfl rfl ?_
  refine aw_iload_n (n := 7) (i := 2) dX4_lay_6 rfl rfl rfl ?_
  obtain ⟨D_2, e_D_2, h⟩ := Ok.let_ h
  refine aw_putI (n := 10) (j := 1) hG.1 fl_RX4_26 hs_22 rfl e_D_2 dX4_lay_7 rfl ?_
  refine aw_iconst (n := 11) (v := 0) dX4_lay_10 rfl (by decide) ?_
  refine aw_istore_n (n := 12) (i := 3) (al' := [some (.ref 22), some (.int v1), some (.int v2), some (.int 0), none]) dX4_lay_11 rfl rfl rfl (by decide) rfl ?_
  exact aw_le' (hJ_12 v1 v2 0 D_2 h) ⟨rfl, ⟨rfl, ⟨rfl, ⟨rfl, trivial⟩⟩⟩⟩
def f_X4_steps (v1 : Int32) (v2 : Int32) (D : aD) : Option (Int32 × aD) :=
  aGd (aIn v2 64) (aGd (aIn v1 64) (aGd (aIn v2 64) (aGd (aIn v1 64) (some ((if 0 ≤ ((gI D 4 v2.toNatClampNeg) - (gI D 4 v1.toNatClampNeg)) then ((gI D 4 v2.toNatClampNeg) - (gI D 4 v1.toNatClampNeg)) else 0 - ((gI D 4 v2.toNatClampNeg) - (gI D 4 v1.toNatClampNeg))) + (if 0 ≤ ((gI D 5 v2.toNatClampNeg) - (gI D 5 v1.toNatClampNeg)) then ((gI D 5 v2.toNatClampNeg) - (gI D 5 v1.toNatClampNeg)) else 0 - ((gI D 5 v2.toNatClampNeg) - (gI D 5 v1.toNatClampNeg))), D)))))
set_option maxRecDepth 100000 in
set_option maxHeartbeats 800000 in
theorem c_X4_steps {G : aG} (hG : gOK G) {shp : List aSh} (hS : aShp shp) {fr : Option Nat} {v1 : Int32} {v2 : Int32} {D : aD} {K : Int32 → aD → Prop} (h : Ok2 (f_X4_steps v1 v2 D) K) : AC G (aRm 1 0 0) M_X4_steps [.ref 3, .int v1, .int v2] fr shp D (aQi shp K) := by
  replace h := Ok2.ok h
  unfold f_X4_steps at h
  refine AC.of (al := [some (.ref 3), some (.int v1), some (.int v2)]) (r := 0) (by decide) (Nat.le_of_ble_eq_true rfl) rfl ?_
  refine aw_aload_n (n := 1) (i := 0) dX4_steps_0 rfl rfl rfl ?_
  refine aw_getR (n := 4) (j := 2) (r := 4) hG.1 fl_RX4_9 (sF_3 hS) rfl dX4_steps_1 rfl ?_
  refine aw_iload_n (n := 5) (i := 2) dX4_steps_4 rfl rfl rfl ?_
  obtain ⟨g_1, h⟩ := Ok.gd h
  refine aw_iaload (n := 6) hG.1 (sF_4 hS) (aIn_in g_1) dX4_steps_5 rfl ?_
  refine aw_aload_n (n := 7) (i := 0) dX4_steps_6 rfl rfl rfl ?_
  refine aw_getR (n := 10) (j := 2) (r := 4) hG.1 fl_RX4_9 (sF_3 hS) rfl dX4_steps_7 rfl ?_
  refine aw_iload_n (n := 11) (i := 1) dX4_steps_10 rfl rfl rfl ?_
  obtain ⟨g_2, h⟩ := Ok.gd h
  refine aw_iaload (n := 12) hG.1 (sF_4 hS) (aIn_in g_2) dX4_steps_11 rfl ?_
  refine aw_isub (n := 13) dX4_steps_12 rfl ?_
  refine aw_abs (M := M_X4_steps) (n := 16) lm_RX4_32 mm_abs.1 mm_abs.2.1 mm_abs.2.2 (by decide) (Nat.le_of_ble_eq_true rfl) (by decide) (by decide) dX4_steps_13 rfl ?_
  refine aw_aload_n (n := 17) (i := 0) dX4_steps_16 rfl rfl rfl ?_
  refine aw_getR (n := 20) (j := 3) (r := 5) hG.1 fl_RX4_15 (sF_3 hS) rfl dX4_steps_17 rfl ?_
  refine aw_iload_n (n := 21) (i := 2) dX4_steps_20 rfl rfl rfl ?_
  obtain ⟨g_3, h⟩ := Ok.gd h
  refine aw_iaload (n := 22) hG.1 (sF_5 hS) (aIn_in g_3) dX4_steps_21 rfl ?_
  refine aw_aload_n (n := 23) (i := 0) dX4_steps_22 rfl rfl rfl ?_
  refine aw_getR (n := 26) (j := 3) (r := 5) hG.1 fl_RX4_15 (sF_3 hS) rfl dX4_steps_23 rfl ?_
  refine aw_iload_n (n := 27) (i := 1) dX4_steps_26 rfl rfl rfl ?_
  obtain ⟨g_4, h⟩ := Ok.gd h
  refine aw_iaload (n := 28) hG.1 (sF_5 hS) (aIn_in g_4) dX4_steps_27 rfl ?_
  refine aw_isub (n := 29) dX4_steps_28 rfl ?_
  refine aw_abs (M := M_X4_steps) (n := 32) lm_RX4_32 mm_abs.1 mm_abs.2.1 mm_abs.2.2 (by decide) (Nat.le_of_ble_eq_true rfl) (by decide) (by decide) dX4_steps_29 rfl ?_
  refine aw_iadd (n := 33) dX4_steps_32 rfl ?_
  exact aw_iret rfl (by decide) (by decide) dX4_steps_33 ⟨_, rfl, rfl, (Ok.dn h :)⟩
def f_X4_along (v1 : Int32) (v2 : Int32) (v3 : Int32) (D : aD) : Option (Int32 × aD) :=
  aLet v3 (fun sw_1 => if sw_1 = 1 then (aGd (aIn v1 64) (aGd (aIn v2 64) (some ((gI D 5 v1.toNatClampNeg) - (gI D 5 v2.toNatClampNeg), D)))) else (if sw_1 = 2 then (aGd (aIn v2 64) (aGd (aIn v1 64) (some ((gI D 4 v2.toNatClampNeg) - (gI D 4 v1.toNatClampNeg), D)))) else (if sw_1 = 3 then (aGd (aIn v2 64) (aGd (aIn v1 64) (some ((gI D 5 v2.toNatClampNeg) - (gI D 5 v1.toNatClampNeg), D)))) else (if sw_1 = 4 then (aGd (aIn v1 64) (aGd (aIn v2 64) (some ((gI D 4 v1.toNatClampNeg) - (gI D 4 v2.toNatClampNeg), D)))) else (some (0, D))))))
set_option maxRecDepth 100000 in
set_option maxHeartbeats 800000 in
theorem c_X4_along {G : aG} (hG : gOK G) {shp : List aSh} (hS : aShp shp) {fr : Option Nat} {v1 : Int32} {v2 : Int32} {v3 : Int32} {D : aD} {K : Int32 → aD → Prop} (h : Ok2 (f_X4_along v1 v2 v3 D) K) : AC G (aRm 1 0 0) M_X4_along [.ref 3, .int v1, .int v2, .int v3] fr shp D (aQi shp K) := by
  replace h := Ok2.ok h
  unfold f_X4_along at h
  refine AC.of (al := [some (.ref 3), some (.int v1), some (.int v2), some (.int v3)]) (r := 0) (by decide) (Nat.le_of_ble_eq_true rfl) rfl ?_
  refine aw_iload_n (n := 1) (i := 3) dX4_along_0 rfl rfl rfl ?_
  obtain ⟨sw_1, e_sw_1, h⟩ := Ok.let_ h
  rw [← e_sw_1]
  by_cases c0 : sw_1 = 1
  · replace h := Ok.ift h c0
    refine aw_tableIn (tgt := 32) dX4_along_1 (by rw [c0]; decide) (by rw [c0]; decide) (off := 31) (by rw [c0]; rfl) (by decide) ?_
    refine aw_aload_n (n := 33) (i := 0) dX4_along_32 rfl rfl rfl ?_
    refine aw_getR (n := 36) (j := 3) (r := 5) hG.1 fl_RX4_15 (sF_3 hS) rfl dX4_along_33 rfl ?_
    refine aw_iload_n (n := 37) (i := 1) dX4_along_36 rfl rfl rfl ?_
    obtain ⟨g_2, h⟩ := Ok.gd h
    refine aw_iaload (n := 38) hG.1 (sF_5 hS) (aIn_in g_2) dX4_along_37 rfl ?_
    refine aw_aload_n (n := 39) (i := 0) dX4_along_38 rfl rfl rfl ?_
    refine aw_getR (n := 42) (j := 3) (r := 5) hG.1 fl_RX4_15 (sF_3 hS) rfl dX4_along_39 rfl ?_
    refine aw_iload_n (n := 43) (i := 2) dX4_along_42 rfl rfl rfl ?_
    obtain ⟨g_3, h⟩ := Ok.gd h
    refine aw_iaload (n := 44) hG.1 (sF_5 hS) (aIn_in g_3) dX4_along_43 rfl ?_
    refine aw_isub (n := 45) dX4_along_44 rfl ?_
    exact aw_iret rfl (by decide) (by decide) dX4_along_45 ⟨_, rfl, rfl, (Ok.dn h :)⟩
  replace h := Ok.iff h c0
  by_cases c1 : sw_1 = 2
  · replace h := Ok.ift h c1
    refine aw_tableIn (tgt := 46) dX4_along_1 (by rw [c1]; decide) (by rw [c1]; decide) (off := 45) (by rw [c1]; rfl) (by decide) ?_
    refine aw_aload_n (n := 47) (i := 0) dX4_along_46 rfl rfl rfl ?_
    refine aw_getR (n := 50) (j := 2) (r := 4) hG.1 fl_RX4_9 (sF_3 hS) rfl dX4_along_47 rfl ?_
    refine aw_iload_n (n := 51) (i := 2) dX4_along_50 rfl rfl rfl ?_
    obtain ⟨g_4, h⟩ := Ok.gd h
    refine aw_iaload (n := 52) hG.1 (sF_4 hS) (aIn_in g_4) dX4_along_51 rfl ?_
    refine aw_aload_n (n := 53) (i := 0) dX4_along_52 rfl rfl rfl ?_
    refine aw_getR (n := 56) (j := 2) (r := 4) hG.1 fl_RX4_9 (sF_3 hS) rfl dX4_along_53 rfl ?_
    refine aw_iload_n (n := 57) (i := 1) dX4_along_56 rfl rfl rfl ?_
    obtain ⟨g_5, h⟩ := Ok.gd h
    refine aw_iaload (n := 58) hG.1 (sF_4 hS) (aIn_in g_5) dX4_along_57 rfl ?_
    refine aw_isub (n := 59) dX4_along_58 rfl ?_
    exact aw_iret rfl (by decide) (by decide) dX4_along_59 ⟨_, rfl, rfl, (Ok.dn h :)⟩
  replace h := Ok.iff h c1
  by_cases c2 : sw_1 = 3
  · replace h := Ok.ift h c2
    refine aw_tableIn (tgt := 60) dX4_along_1 (by rw [c2]; decide) (by rw [c2]; decide) (off := 59) (by rw [c2]; rfl) (by decide) ?_
    refine aw_aload_n (n := 61) (i := 0) dX4_along_60 rfl rfl rfl ?_
    refine aw_getR (n := 64) (j := 3) (r := 5) hG.1 fl_RX4_15 (sF_3 hS) rfl dX4_along_61 rfl ?_
    refine aw_iload_n (n := 65) (i := 2) dX4_along_64 rfl rfl rfl ?_
    obtain ⟨g_6, h⟩ := Ok.gd h
    refine aw_iaload (n := 66) hG.1 (sF_5 hS) (aIn_in g_6) dX4_along_65 rfl ?_
    refine aw_aload_n (n := 67) (i := 0) dX4_along_66 rfl rfl rfl ?_
    refine aw_getR (n := 70) (j := 3) (r := 5) hG.1 fl_RX4_15 (sF_3 hS) rfl dX4_along_67 rfl ?_
    refine aw_iload_n (n := 71) (i := 1) dX4_along_70 rfl rfl rfl ?_
    obtain ⟨g_7, h⟩ := Ok.gd h
    refine aw_iaload (n := 72) hG.1 (sF_5 hS) (aIn_in g_7) dX4_along_71 rfl ?_
    refine aw_isub (n := 73) dX4_along_72 rfl ?_
    exact aw_iret rfl (by decide) (by decide) dX4_along_73 ⟨_, rfl, rfl, (Ok.dn h :)⟩
  replace h := Ok.iff h c2
  by_cases c3 : sw_1 = 4
  · replace h := Ok.ift h c3
    refine aw_tableIn (tgt := 74) dX4_along_1 (by rw [c3]; decide) (by rw [c3]; decide) (off := 73) (by rw [c3]; rfl) (by decide) ?_
    refine aw_aload_n (n := 75) (i := 0) dX4_along_74 rfl rfl rfl ?_
    refine aw_getR (n := 78) (j := 2) (r := 4) hG.1 fl_RX4_9 (sF_3 hS) rfl dX4_along_75 rfl ?_
    refine aw_iload_n (n := 79) (i := 1) dX4_along_78 rfl rfl rfl ?_
    obtain ⟨g_8, h⟩ := Ok.gd h
    refine aw_iaload (n := 80) hG.1 (sF_4 hS) (aIn_in g_8) dX4_along_79 rfl ?_
    refine aw_aload_n (n := 81) (i := 0) dX4_along_80 rfl rfl rfl ?_
    refine aw_getR (n := 84) (j := 2) (r := 4) hG.1 fl_RX4_9 (sF_3 hS) rfl dX4_along_81 rfl ?_
    refine aw_iload_n (n := 85) (i := 2) dX4_along_84 rfl rfl rfl ?_
    obtain ⟨g_9, h⟩ := Ok.gd h
    refine aw_iaload (n := 86) hG.1 (sF_4 hS) (aIn_in g_9) dX4_along_85 rfl ?_
    refine aw_isub (n := 87) dX4_along_86 rfl ?_
    exact aw_iret rfl (by decide) (by decide) dX4_along_87 ⟨_, rfl, rfl, (Ok.dn h :)⟩
  replace h := Ok.iff h c3
  refine aw_tableOut (tgt := 88) dX4_along_1 (sw_out (lo := 1) (hi := 4) (fun n h1 h2 => ?_)) (by decide) ?_
  · rcases (by omega : n = 1 ∨ n = 2 ∨ n = 3 ∨ n = 4) with rfl | rfl | rfl | rfl
    · exact sw_at (by decide) c0
    · exact sw_at (by decide) c1
    · exact sw_at (by decide) c2
    · exact sw_at (by decide) c3
  refine aw_iconst (n := 89) (v := 0) dX4_along_88 rfl (by decide) ?_
  exact aw_iret rfl (by decide) (by decide) dX4_along_89 ⟨_, rfl, rfl, (Ok.dn h :)⟩
def f_X8_smellsIn (q0 : Nat) (v1 : Int32) (v2 : Int32) (D : aD) : Option (Int32 × aD) :=
  if v1 < gI D q0 1 then (some (0, D)) else (if gI D q0 2 < v1 then (some (0, D)) else (if v2 < gI D q0 3 then (some (0, D)) else (if gI D q0 4 < v2 then (some (0, D)) else (some (1, D)))))
set_option maxRecDepth 100000 in
set_option maxHeartbeats 800000 in
theorem c_X8_smellsIn {G : aG} (hG : gOK G) {shp : List aSh} (hS : aShp shp) {fr : Option Nat} {q0 : Nat} {v1 : Int32} {v2 : Int32} {D : aD} {K : Int32 → aD → Prop} (h : Ok2 (f_X8_smellsIn q0 v1 v2 D) K) (hq0 : shp[q0]? = some (.inr (8, [none, none, none, none, none, none, none]))) : AC G (aRm 1 0 0) M_X8_smellsIn [.ref q0, .int v1, .int v2] fr shp D (aQi shp K) := by
  replace h := Ok2.ok h
  unfold f_X8_smellsIn at h
  refine AC.of (al := [some (.ref q0), some (.int v1), some (.int v2)]) (r := 0) (by decide) (Nat.le_of_ble_eq_true rfl) rfl ?_
  refine aw_iload_n (n := 1) (i := 1) dX8_smellsIn_0 rfl rfl rfl ?_
  refine aw_aload_n (n := 2) (i := 0) dX8_smellsIn_1 rfl rfl rfl ?_
  refine aw_getI (n := 5) (j := 1) hG.1 fl_RX8_7 hq0 rfl dX8_smellsIn_2 rfl ?_
  refine aw_icmp_lt (n := 8) (tgt := 36) dX8_smellsIn_5 rfl (by decide) (fun c => ?_) (fun c => ?_)
  · replace h := Ok.ift h c
    refine aw_iconst (n := 37) (v := 0) dX8_smellsIn_36 rfl (by decide) ?_
    exact aw_zret rfl (by decide) (by decide) (by decide) dX8_smellsIn_37 ⟨_, rfl, rfl, (Ok.dn h :)⟩
  · replace h := Ok.iff h c
    refine aw_iload_n (n := 9) (i := 1) dX8_smellsIn_8 rfl rfl rfl ?_
    refine aw_aload_n (n := 10) (i := 0) dX8_smellsIn_9 rfl rfl rfl ?_
    refine aw_getI (n := 13) (j := 2) hG.1 fl_RX8_13 hq0 rfl dX8_smellsIn_10 rfl ?_
    refine aw_icmp_gt (n := 16) (tgt := 36) dX8_smellsIn_13 rfl (by decide) (fun c => ?_) (fun c => ?_)
    · replace h := Ok.ift h c
      refine aw_iconst (n := 37) (v := 0) dX8_smellsIn_36 rfl (by decide) ?_
      exact aw_zret rfl (by decide) (by decide) (by decide) dX8_smellsIn_37 ⟨_, rfl, rfl, (Ok.dn h :)⟩
    · replace h := Ok.iff h c
      refine aw_iload_n (n := 17) (i := 2) dX8_smellsIn_16 rfl rfl rfl ?_
      refine aw_aload_n (n := 18) (i := 0) dX8_smellsIn_17 rfl rfl rfl ?_
      refine aw_getI (n := 21) (j := 3) hG.1 fl_RX8_16 hq0 rfl dX8_smellsIn_18 rfl ?_
      refine aw_icmp_lt (n := 24) (tgt := 36) dX8_smellsIn_21 rfl (by decide) (fun c => ?_) (fun c => ?_)
      · replace h := Ok.ift h c
        refine aw_iconst (n := 37) (v := 0) dX8_smellsIn_36 rfl (by decide) ?_
        exact aw_zret rfl (by decide) (by decide) (by decide) dX8_smellsIn_37 ⟨_, rfl, rfl, (Ok.dn h :)⟩
      · replace h := Ok.iff h c
        refine aw_iload_n (n := 25) (i := 2) dX8_smellsIn_24 rfl rfl rfl ?_
        refine aw_aload_n (n := 26) (i := 0) dX8_smellsIn_25 rfl rfl rfl ?_
        refine aw_getI (n := 29) (j := 4) hG.1 fl_RX8_19 hq0 rfl dX8_smellsIn_26 rfl ?_
        refine aw_icmp_gt (n := 32) (tgt := 36) dX8_smellsIn_29 rfl (by decide) (fun c => ?_) (fun c => ?_)
        · replace h := Ok.ift h c
          refine aw_iconst (n := 37) (v := 0) dX8_smellsIn_36 rfl (by decide) ?_
          exact aw_zret rfl (by decide) (by decide) (by decide) dX8_smellsIn_37 ⟨_, rfl, rfl, (Ok.dn h :)⟩
        · replace h := Ok.iff h c
          refine aw_iconst (n := 33) (v := 1) dX8_smellsIn_32 rfl (by decide) ?_
          refine aw_goto (tgt := 37) dX8_smellsIn_33 (by decide) ?_
          exact aw_zret rfl (by decide) (by decide) (by decide) dX8_smellsIn_37 ⟨_, rfl, rfl, (Ok.dn h :)⟩
def f_X6_scent (v1 : Int32) (v2 : Int32) (v3 : Int32) (v4 : Int32) (v5 : Int32) (v6 : Int32) (v7 : Int32) (D : aD) : Option (Int32 × aD) :=
  aGd (aIn v1 6) (aBi (f_X4_along v3 v4 v7 D) (fun y_2 D_3 => aBi (f_X8_smellsIn (15 + v1.toNatClampNeg) v5 v6 D_3) (fun y_4 D_5 => if y_4 = 0 then (some (0, D_5)) else (if -y_2 ≤ gI D_5 2 8 then (aBi (f_X4_steps v3 v4 D_5) (fun y_6 D_7 => some (if 0 < ((((gI D_5 (15 + v1.toNatClampNeg) 0) * v2) - ((gI D_5 2 6) * y_6)) + ((gI D_7 2 7) * y_2)) then ((((gI D_5 (15 + v1.toNatClampNeg) 0) * v2) - ((gI D_5 2 6) * y_6)) + ((gI D_7 2 7) * y_2)) else 0, D_7))) else (some (0, D_5))))))
set_option maxRecDepth 100000 in
set_option maxHeartbeats 800000 in
theorem c_X6_scent {G : aG} (hG : gOK G) {shp : List aSh} (hS : aShp shp) {fr : Option Nat} {v1 : Int32} {v2 : Int32} {v3 : Int32} {v4 : Int32} {v5 : Int32} {v6 : Int32} {v7 : Int32} {D : aD} {K : Int32 → aD → Prop} (h : Ok2 (f_X6_scent v1 v2 v3 v4 v5 v6 v7 D) K) : AC G (aRm 2 0 0) M_X6_scent [.ref 2, .int v1, .int v2, .int v3, .int v4, .int v5, .int v6, .int v7] fr shp D (aQi shp K) := by
  replace h := Ok2.ok h
  unfold f_X6_scent at h
  refine AC.of (al := [some (.ref 2), some (.int v1), some (.int v2), some (.int v3), some (.int v4), some (.int v5), some (.int v6), some (.int v7), none, none]) (r := 2) (by decide) (Nat.le_of_ble_eq_true rfl) rfl ?_
  refine aw_aload_n (n := 1) (i := 0) dX6_scent_0 rfl rfl rfl ?_
  refine aw_getR (n := 4) (j := 1) (r := 7) hG.1 fl_RX6_20 (sF_2 hS) rfl dX6_scent_1 rfl ?_
  refine aw_iload_n (n := 5) (i := 1) dX6_scent_4 rfl rfl rfl ?_
  obtain ⟨g_1, h⟩ := Ok.gd h
  refine aw_aaload (n := 6) (t := 4) (r := (15 + v1.toNatClampNeg)) hG.1 (by decide) rfl (sF_7 hS) (aIn_in g_1) (rs_7 (aIn_lt g_1)) dX6_scent_5 rfl ?_
  refine aw_astore (n := 8) (i := 8) (al' := [some (.ref 2), some (.int v1), some (.int v2), some (.int v3), some (.int v4), some (.int v5), some (.int v6), some (.int v7), some (.ref (15 + v1.toNatClampNeg)), none]) dX6_scent_6 rfl rfl (by decide) rfl ?_
  refine aw_aload_n (n := 9) (i := 0) dX6_scent_8 rfl rfl rfl ?_
  refine aw_getR (n := 12) (j := 0) (r := 3) hG.1 fl_RX6_12 (sF_2 hS) rfl dX6_scent_9 rfl ?_
  refine aw_iload_n (n := 13) (i := 3) dX6_scent_12 rfl rfl rfl ?_
  refine aw_iload (n := 15) (i := 4) dX6_scent_13 rfl rfl ?_
  refine aw_iload (n := 17) (i := 7) dX6_scent_15 rfl rfl ?_
  refine aw_cVi (M := M_X6_scent) (n := 20) (As := [.int v3, .int v4, .int v7]) (rest := []) hG.1 lk_RX6_103 rfl rfl (sF_3 hS) (c_X4_along hG hS (h := Ok.bi h)) (by decide) (Nat.le_of_ble_eq_true rfl) (by decide) (by decide) dX6_scent_17 rfl (fun y_2 D_3 h => ?_)
  refine aw_istore (n := 22) (i := 9) (al' := [some (.ref 2), some (.int v1), some (.int v2), some (.int v3), some (.int v4), some (.int v5), some (.int v6), some (.int v7), some (.ref (15 + v1.toNatClampNeg)), some (.int y_2)]) dX6_scent_20 rfl rfl (by decide) rfl ?_
  refine aw_aload (n := 24) (i := 8) dX6_scent_22 rfl rfl ?_
  refine aw_iload (n := 26) (i := 5) dX6_scent_24 rfl rfl ?_
  refine aw_iload (n := 28) (i := 6) dX6_scent_26 rfl rfl ?_
  refine aw_cVi (M := M_X6_scent) (n := 31) (As := [.int v5, .int v6]) (rest := []) hG.1 lk_RX6_107 rfl rfl (so_15 hS (aIn_lt g_1)) (c_X8_smellsIn hG hS (h := Ok.bi h) (so_15 hS (aIn_lt g_1))) (by decide) (Nat.le_of_ble_eq_true rfl) (by decide) (by decide) dX6_scent_28 rfl (fun y_4 D_5 h => ?_)
  refine aw_if_eq (n := 34) (tgt := 44) dX6_scent_31 rfl (by decide) (fun c => ?_) (fun c => ?_)
  · replace h := Ok.ift h c
    refine aw_iconst (n := 45) (v := 0) dX6_scent_44 rfl (by decide) ?_
    exact aw_iret rfl (by decide) (by decide) dX6_scent_45 ⟨_, rfl, rfl, (Ok.dn h :)⟩
  · replace h := Ok.iff h c
    refine aw_iload (n := 36) (i := 9) dX6_scent_34 rfl rfl ?_
    refine aw_ineg (n := 37) dX6_scent_36 rfl ?_
    refine aw_aload_n (n := 38) (i := 0) dX6_scent_37 rfl rfl rfl ?_
    refine aw_getI (n := 41) (j := 8) hG.1 fl_RX6_74 (sF_2 hS) rfl dX6_scent_38 rfl ?_
    refine aw_icmp_le (n := 44) (tgt := 46) dX6_scent_41 rfl (by decide) (fun c => ?_) (fun c => ?_)
    · replace h := Ok.ift h c
      refine aw_iconst (n := 47) (v := 0) dX6_scent_46 rfl (by decide) ?_
      refine aw_aload (n := 49) (i := 8) dX6_scent_47 rfl rfl ?_
      refine aw_getI (n := 52) (j := 0) hG.1 fl_RX6_111 (so_15 hS (aIn_lt g_1)) rfl dX6_scent_49 rfl ?_
      refine aw_iload_n (n := 53) (i := 2) dX6_scent_52 rfl rfl rfl ?_
      refine aw_imul (n := 54) dX6_scent_53 rfl ?_
      refine aw_aload_n (n := 55) (i := 0) dX6_scent_54 rfl rfl rfl ?_
      refine aw_getI (n := 58) (j := 6) hG.1 fl_RX6_68 (sF_2 hS) rfl dX6_scent_55 rfl ?_
      refine aw_aload_n (n := 59) (i := 0) dX6_scent_58 rfl rfl rfl ?_
      refine aw_getR (n := 62) (j := 0) (r := 3) hG.1 fl_RX6_12 (sF_2 hS) rfl dX6_scent_59 rfl ?_
      refine aw_iload_n (n := 63) (i := 3) dX6_scent_62 rfl rfl rfl ?_
      refine aw_iload (n := 65) (i := 4) dX6_scent_63 rfl rfl ?_
      refine aw_cVi (M := M_X6_scent) (n := 68) (As := [.int v3, .int v4]) (rest := [.int (gI D_5 2 6), .int ((gI D_5 (15 + v1.toNatClampNeg) 0) * v2), .int 0]) hG.1 lk_RX6_114 rfl rfl (sF_3 hS) (c_X4_steps hG hS (h := Ok.bi h)) (by decide) (Nat.le_of_ble_eq_true rfl) (by decide) (by decide) dX6_scent_65 rfl (fun y_6 D_7 h => ?_)
      refine aw_imul (n := 69) dX6_scent_68 rfl ?_
      refine aw_isub (n := 70) dX6_scent_69 rfl ?_
      refine aw_aload_n (n := 71) (i := 0) dX6_scent_70 rfl rfl rfl ?_
      refine aw_getI (n := 74) (j := 7) hG.1 fl_RX6_71 (sF_2 hS) rfl dX6_scent_71 rfl ?_
      refine aw_iload (n := 76) (i := 9) dX6_scent_74 rfl rfl ?_
      refine aw_imul (n := 77) dX6_scent_76 rfl ?_
      refine aw_iadd (n := 78) dX6_scent_77 rfl ?_
      refine aw_max (M := M_X6_scent) (n := 81) lm_RX6_118 mm_max.1 mm_max.2.1 mm_max.2.2 (by decide) (Nat.le_of_ble_eq_true rfl) (by decide) (by decide) dX6_scent_78 rfl ?_
      exact aw_iret rfl (by decide) (by decide) dX6_scent_81 ⟨_, rfl, rfl, (Ok.dn h :)⟩
    · replace h := Ok.iff h c
      refine aw_iconst (n := 45) (v := 0) dX6_scent_44 rfl (by decide) ?_
      exact aw_iret rfl (by decide) (by decide) dX6_scent_45 ⟨_, rfl, rfl, (Ok.dn h :)⟩
def J_J7_fill_53178_20 (a0 : Nat) (na0 : Nat) (D : aD) : Option (aD) :=
  some D
def B_J7_fill_53178_5 (a0 : Nat) (na0 : Nat) (v1 : Int32) (v3 : Int32) (v2 : Int32) (D : aD) : Option ((Int32 × aD) ⊕ ((aD))) :=
  if v3 ≤ v2 then (some (.inr D)) else (aGd (aIn v2 na0) (aLet (pI D a0 v2.toNatClampNeg v1) (fun D_3 => aLet (v2 + 1) (fun v2_4 => some (.inl (v2_4, D_3))))))
def J_J7_fill_53178_5 (a0 : Nat) (na0 : Nat) (v1 : Int32) (v2 : Int32) (v3 : Int32) (D : aD) : Option (aD) :=
  (aLp (fun s => B_J7_fill_53178_5 a0 na0 v1 v3 s.1 s.2) (v2, D)).bind (fun r => J_J7_fill_53178_20 a0 na0 r)
def f_J7_fill_53178 (a0 : Nat) (na0 : Nat) (v1 : Int32) (D : aD) : Option (aD) :=
  aLet (Int32.ofNat na0) (fun v3_1 => J_J7_fill_53178_5 a0 na0 v1 0 v3_1 D)
set_option maxRecDepth 100000 in
set_option maxHeartbeats 800000 in
theorem c_J7_fill_53178 {G : aG} (hG : gOK G) {shp : List aSh} {fr : Option Nat} {a0 : Nat} {na0 : Nat} {v1 : Int32} {D : aD} {K : aD → Prop} (h : Ok (f_J7_fill_53178 a0 na0 v1 D) K) (ha0 : shp[a0]? = some (.inl (1, na0, []))) : AC G (aRm 1 0 0) M_J7_fill_53178 [.ref a0, .int v1] fr shp D (aQv shp K) := by
  unfold f_J7_fill_53178 at h
  refine AC.of (al := [some (.ref a0), some (.int v1), none, none]) (r := 2) (by decide) (Nat.le_of_ble_eq_true rfl) rfl ?_
  have hJ_20 : ∀ (D : aD), Ok (J_J7_fill_53178_20 a0 na0 D) K → AW G (aRm 1 0 0) M_J7_fill_53178 fr 0 0 20 [none, none, none, none] [] shp D (aQv shp K) := by
    intro D h
    unfold J_J7_fill_53178_20 at h
    exact aw_vret rfl (by decide) (by decide) dJ7_fill_53178_20 ⟨rfl, rfl, (Ok.dn h :)⟩
  have hJ_5 : ∀ (v1 : Int32) (v2 : Int32) (v3 : Int32) (D : aD), Ok (J_J7_fill_53178_5 a0 na0 v1 v2 v3 D) K → AW G (aRm 1 0 0) M_J7_fill_53178 fr 0 0 5 [some (.ref a0), some (.int v1), some (.int v2), some (.int v3)] [] shp D (aQv shp K) := by
    intro v1 v2 v3 D h
    unfold J_J7_fill_53178_5 at h
    refine Ok.lp (P := fun s => AW G (aRm 1 0 0) M_J7_fill_53178 fr 0 0 5 [some (.ref a0), some (.int v1), some (.int (s.1)), some (.int v3)] [] shp s.2 (aQv shp K)) (fun s Kb5 hL5 hR5 h => ?_) (v2, D) (Ok.bind h)
    obtain ⟨v2, D⟩ := s
    replace h : Ok (B_J7_fill_53178_5 a0 na0 v1 v3 v2 D) Kb5 := h
    unfold B_J7_fill_53178_5 at h
    refine aw_iload_n (n := 6) (i := 2) dJ7_fill_53178_5 rfl rfl rfl ?_
    refine aw_iload_n (n := 7) (i := 3) dJ7_fill_53178_6 rfl rfl rfl ?_
    refine aw_icmp_ge (n := 10) (tgt := 20) dJ7_fill_53178_7 rfl (by decide) (fun c => ?_) (fun c => ?_)
    · replace h := Ok.ift h c
      exact aw_le' (hJ_20 D (hR5 D (Ok.dn h :))) trivial
    · replace h := Ok.iff h c
      refine aw_aload_n (n := 11) (i := 0) dJ7_fill_53178_10 rfl rfl rfl ?_
      refine aw_iload_n (n := 12) (i := 2) dJ7_fill_53178_11 rfl rfl rfl ?_
      refine aw_iload_n (n := 13) (i := 1) dJ7_fill_53178_12 rfl rfl rfl ?_
      obtain ⟨g_2, h⟩ := Ok.gd h
      obtain ⟨D_3, e_D_3, h⟩ := Ok.let_ h
      refine aw_iastore (n := 14) hG.1 ha0 (aIn_in g_2) e_D_3 dJ7_fill_53178_13 rfl ?_
      obtain ⟨v2_4, e_v2_4, h⟩ := Ok.let_ h
      refine aw_iinc (n := 17) (al' := [some (.ref a0), some (.int v1), some (.int v2_4), some (.int v3)]) dJ7_fill_53178_14 rfl rfl e_v2_4 (by decide) rfl ?_
      refine aw_goto (tgt := 5) dJ7_fill_53178_17 (by decide) ?_
      exact aw_le' (hL5 (v2_4, D_3) (Ok.dn h :)) ⟨rfl, ⟨rfl, ⟨rfl, ⟨rfl, trivial⟩⟩⟩⟩
  refine aw_iconst (n := 1) (v := 0) dJ7_fill_53178_0 rfl (by decide) ?_
  refine aw_istore_n (n := 2) (i := 2) (al' := [some (.ref a0), some (.int v1), some (.int 0), none]) dJ7_fill_53178_1 rfl rfl rfl (by decide) rfl ?_
  refine aw_aload_n (n := 3) (i := 0) dJ7_fill_53178_2 rfl rfl rfl ?_
  refine aw_alen (n := 4) (t := 1) (v := Int32.ofNat na0) hG.1 rfl ha0 rfl dJ7_fill_53178_3 rfl ?_
  obtain ⟨v3_1, e_v3_1, h⟩ := Ok.let_ h
  refine aw_istore_n (n := 5) (i := 3) (al' := [some (.ref a0), some (.int v1), some (.int 0), some (.int v3_1)]) dJ7_fill_53178_4 rfl rfl e_v3_1 (by decide) rfl ?_
  exact aw_le' (hJ_5 v1 0 v3_1 D h) ⟨rfl, ⟨rfl, ⟨rfl, ⟨rfl, trivial⟩⟩⟩⟩
def f_X0_clear (D : aD) : Option (aD) :=
  (f_J7_fill_53178 58 6 0 D).bind (fun D_1 => (f_J7_fill_53178 59 30 0 D_1).bind (fun D_2 => some D_2))
set_option maxRecDepth 100000 in
set_option maxHeartbeats 800000 in
theorem c_X0_clear {G : aG} (hG : gOK G) {shp : List aSh} (hS : aShp shp) {fr : Option Nat} {D : aD} {K : aD → Prop} (h : Ok (f_X0_clear D) K) : AC G (aRm 2 0 0) M_X0_clear [.ref 57] fr shp D (aQv shp K) := by
  unfold f_X0_clear at h
  refine AC.of (al := [some (.ref 57)]) (r := 0) (by decide) (Nat.le_of_ble_eq_true rfl) rfl ?_
  refine aw_aload_n (n := 1) (i := 0) dX0_clear_0 rfl rfl rfl ?_
  refine aw_getR (n := 4) (j := 2) (r := 58) hG.1 fl_RX0_9 (sF_57 hS) rfl dX0_clear_1 rfl ?_
  refine aw_iconst (n := 5) (v := 0) dX0_clear_4 rfl (by decide) ?_
  refine aw_cSv (M := M_X0_clear) (n := 8) (As := [.ref 58, .int 0]) (rest := []) lk_RX0_26 rfl rfl (c_J7_fill_53178 hG (h := Ok.bind h) (sF_58 hS)) (by decide) (Nat.le_of_ble_eq_true rfl) (by decide) (by decide) dX0_clear_5 rfl (fun D_1 h => ?_)
  refine aw_aload_n (n := 9) (i := 0) dX0_clear_8 rfl rfl rfl ?_
  refine aw_getR (n := 12) (j := 3) (r := 59) hG.1 fl_RX0_15 (sF_57 hS) rfl dX0_clear_9 rfl ?_
  refine aw_iconst (n := 13) (v := 0) dX0_clear_12 rfl (by decide) ?_
  refine aw_cSv (M := M_X0_clear) (n := 16) (As := [.ref 59, .int 0]) (rest := []) lk_RX0_26 rfl rfl (c_J7_fill_53178 hG (h := Ok.bind h) (sF_59 hS)) (by decide) (Nat.le_of_ble_eq_true rfl) (by decide) (by decide) dX0_clear_13 rfl (fun D_2 h => ?_)
  exact aw_vret rfl (by decide) (by decide) dX0_clear_16 ⟨rfl, rfl, (Ok.dn h :)⟩
def J_X0_plantScent_33 (v1 : Int32) (v2 : Int32) (v3 : Int32) (v4 : Int32) (t0 : Int32) (D : aD) : Option (Int32 × aD) :=
  aGd (aIn v1 12) (aGd (aIn v1 12) (aBi (f_X6_scent (gI D 8 v1.toNatClampNeg) t0 (gI D 9 v1.toNatClampNeg) v2 (gI D 40 3) v3 v4 D) (fun y_5 D_6 => some (y_5, D_6))))
def f_X0_plantScent (v1 : Int32) (v2 : Int32) (v3 : Int32) (v4 : Int32) (D : aD) : Option (Int32 × aD) :=
  aGd (aIn v1 12) (if gI D 41 v1.toNatClampNeg ≠ 1 then (aGd (aIn v1 12) (if gI D 41 v1.toNatClampNeg ≠ 2 then (J_X0_plantScent_33 v1 v2 v3 v4 1 D) else (J_X0_plantScent_33 v1 v2 v3 v4 3 D))) else (some (0, D)))
set_option maxRecDepth 100000 in
set_option maxHeartbeats 800000 in
theorem c_X0_plantScent {G : aG} (hG : gOK G) {shp : List aSh} (hS : aShp shp) {fr : Option Nat} {v1 : Int32} {v2 : Int32} {v3 : Int32} {v4 : Int32} {D : aD} {K : Int32 → aD → Prop} (h : Ok2 (f_X0_plantScent v1 v2 v3 v4 D) K) : AC G (aRm 3 0 0) M_X0_plantScent [.ref 57, .int v1, .int v2, .int v3, .int v4] fr shp D (aQi shp K) := by
  replace h := Ok2.ok h
  unfold f_X0_plantScent at h
  refine AC.of (al := [some (.ref 57), some (.int v1), some (.int v2), some (.int v3), some (.int v4), none]) (r := 1) (by decide) (Nat.le_of_ble_eq_true rfl) rfl ?_
  have hJ_33 : ∀ (v1 : Int32) (v2 : Int32) (v3 : Int32) (v4 : Int32) (t0 : Int32) (D : aD), Ok (J_X0_plantScent_33 v1 v2 v3 v4 t0 D) (fun r => K r.1 r.2) → AW G (aRm 3 0 0) M_X0_plantScent fr 0 0 33 [some (.ref 57), some (.int v1), some (.int v2), some (.int v3), some (.int v4), none] [.int t0] shp D (aQi shp K) := by
    intro v1 v2 v3 v4 t0 D h
    unfold J_X0_plantScent_33 at h
    refine aw_istore (n := 35) (i := 5) (al' := [some (.ref 57), some (.int v1), some (.int v2), some (.int v3), some (.int v4), some (.int t0)]) dX0_plantScent_33 rfl rfl (by decide) rfl ?_
    refine aw_aload_n (n := 36) (i := 0) dX0_plantScent_35 rfl rfl rfl ?_
    refine aw_getR (n := 39) (j := 0) (r := 2) hG.1 fl_RX0_18 (sF_57 hS) rfl dX0_plantScent_36 rfl ?_
    refine aw_aload_n (n := 40) (i := 0) dX0_plantScent_39 rfl rfl rfl ?_
    refine aw_getR (n := 43) (j := 0) (r := 2) hG.1 fl_RX0_18 (sF_57 hS) rfl dX0_plantScent_40 rfl ?_
    refine aw_getR (n := 46) (j := 10) (r := 8) hG.1 fl_RX0_45 (sF_2 hS) rfl dX0_plantScent_43 rfl ?_
    refine aw_iload_n (n := 47) (i := 1) dX0_plantScent_46 rfl rfl rfl ?_
    obtain ⟨g_3, h⟩ := Ok.gd h
    refine aw_iaload (n := 48) hG.1 (sF_8 hS) (aIn_in g_3) dX0_plantScent_47 rfl ?_
    refine aw_iload (n := 50) (i := 5) dX0_plantScent_48 rfl rfl ?_
    refine aw_aload_n (n := 51) (i := 0) dX0_plantScent_50 rfl rfl rfl ?_
    refine aw_getR (n := 54) (j := 0) (r := 2) hG.1 fl_RX0_18 (sF_57 hS) rfl dX0_plantScent_51 rfl ?_
    refine aw_getR (n := 57) (j := 11) (r := 9) hG.1 fl_RX0_60 (sF_2 hS) rfl dX0_plantScent_54 rfl ?_
    refine aw_iload_n (n := 58) (i := 1) dX0_plantScent_57 rfl rfl rfl ?_
    obtain ⟨g_4, h⟩ := Ok.gd h
    refine aw_iaload (n := 59) hG.1 (sF_9 hS) (aIn_in g_4) dX0_plantScent_58 rfl ?_
    refine aw_iload_n (n := 60) (i := 2) dX0_plantScent_59 rfl rfl rfl ?_
    refine aw_aload_n (n := 61) (i := 0) dX0_plantScent_60 rfl rfl rfl ?_
    refine aw_getR (n := 64) (j := 1) (r := 40) hG.1 fl_RX0_22 (sF_57 hS) rfl dX0_plantScent_61 rfl ?_
    refine aw_getI (n := 67) (j := 3) hG.1 fl_RX0_63 (sF_40 hS) rfl dX0_plantScent_64 rfl ?_
    refine aw_iload_n (n := 68) (i := 3) dX0_plantScent_67 rfl rfl rfl ?_
    refine aw_iload (n := 70) (i := 4) dX0_plantScent_68 rfl rfl ?_
    refine aw_cVi (M := M_X0_plantScent) (n := 73) (As := [.int (gI D 8 v1.toNatClampNeg), .int t0, .int (gI D 9 v1.toNatClampNeg), .int v2, .int (gI D 40 3), .int v3, .int v4]) (rest := []) hG.1 lk_RX0_66 rfl rfl (sF_2 hS) (c_X6_scent hG hS (h := Ok.bi h)) (by decide) (Nat.le_of_ble_eq_true rfl) (by decide) (by decide) dX0_plantScent_70 rfl (fun y_5 D_6 h => ?_)
    exact aw_iret rfl (by decide) (by decide) dX0_plantScent_73 ⟨_, rfl, rfl, (Ok.dn h :)⟩
  refine aw_aload_n (n := 1) (i := 0) dX0_plantScent_0 rfl rfl rfl ?_
  refine aw_getR (n := 4) (j := 1) (r := 40) hG.1 fl_RX0_22 (sF_57 hS) rfl dX0_plantScent_1 rfl ?_
  refine aw_getR (n := 7) (j := 0) (r := 41) hG.1 fl_RX0_55 (sF_40 hS) rfl dX0_plantScent_4 rfl ?_
  refine aw_iload_n (n := 8) (i := 1) dX0_plantScent_7 rfl rfl rfl ?_
  obtain ⟨g_1, h⟩ := Ok.gd h
  refine aw_iaload (n := 9) hG.1 (sF_41 hS) (aIn_in g_1) dX0_plantScent_8 rfl ?_
  refine aw_iconst (n := 10) (v := 1) dX0_plantScent_9 rfl (by decide) ?_
  refine aw_icmp_ne (n := 13) (tgt := 15) dX0_plantScent_10 rfl (by decide) (fun c => ?_) (fun c => ?_)
  · replace h := Ok.ift h c
    refine aw_aload_n (n := 16) (i := 0) dX0_plantScent_15 rfl rfl rfl ?_
    refine aw_getR (n := 19) (j := 1) (r := 40) hG.1 fl_RX0_22 (sF_57 hS) rfl dX0_plantScent_16 rfl ?_
    refine aw_getR (n := 22) (j := 0) (r := 41) hG.1 fl_RX0_55 (sF_40 hS) rfl dX0_plantScent_19 rfl ?_
    refine aw_iload_n (n := 23) (i := 1) dX0_plantScent_22 rfl rfl rfl ?_
    obtain ⟨g_2, h⟩ := Ok.gd h
    refine aw_iaload (n := 24) hG.1 (sF_41 hS) (aIn_in g_2) dX0_plantScent_23 rfl ?_
    refine aw_iconst (n := 25) (v := 2) dX0_plantScent_24 rfl (by decide) ?_
    refine aw_icmp_ne (n := 28) (tgt := 32) dX0_plantScent_25 rfl (by decide) (fun c => ?_) (fun c => ?_)
    · replace h := Ok.ift h c
      refine aw_iconst (n := 33) (v := 1) dX0_plantScent_32 rfl (by decide) ?_
      exact aw_le' (hJ_33 v1 v2 v3 v4 1 D h) ⟨rfl, ⟨rfl, ⟨rfl, ⟨rfl, ⟨rfl, trivial⟩⟩⟩⟩⟩
    · replace h := Ok.iffn h c
      refine aw_iconst (n := 29) (v := 3) dX0_plantScent_28 rfl (by decide) ?_
      refine aw_goto (tgt := 33) dX0_plantScent_29 (by decide) ?_
      exact aw_le' (hJ_33 v1 v2 v3 v4 3 D h) ⟨rfl, ⟨rfl, ⟨rfl, ⟨rfl, ⟨rfl, trivial⟩⟩⟩⟩⟩
  · replace h := Ok.iffn h c
    refine aw_iconst (n := 14) (v := 0) dX0_plantScent_13 rfl (by decide) ?_
    exact aw_iret rfl (by decide) (by decide) dX0_plantScent_14 ⟨_, rfl, rfl, (Ok.dn h :)⟩
def f_X0_add (v1 : Int32) (v2 : Int32) (v3 : Int32) (D : aD) : Option (aD) :=
  aGd (aIn v1 6) (aGd (aIn v1 6) (aLet (pI D 58 v1.toNatClampNeg ((gI D 58 v1.toNatClampNeg) + v3)) (fun D_3 => if v2 = (-1) then (some D_3) else (aGd (aIn ((v2 * 6) + v1) 30) (aGd (aIn ((v2 * 6) + v1) 30) (aLet (pI D_3 59 ((v2 * 6) + v1).toNatClampNeg ((gI D_3 59 ((v2 * 6) + v1).toNatClampNeg) + v3)) (fun D_6 => some D_6)))))))
set_option maxRecDepth 100000 in
set_option maxHeartbeats 800000 in
theorem c_X0_add {G : aG} (hG : gOK G) {shp : List aSh} (hS : aShp shp) {fr : Option Nat} {v1 : Int32} {v2 : Int32} {v3 : Int32} {D : aD} {K : aD → Prop} (h : Ok (f_X0_add v1 v2 v3 D) K) : AC G (aRm 1 0 0) M_X0_add [.ref 57, .int v1, .int v2, .int v3] fr shp D (aQv shp K) := by
  unfold f_X0_add at h
  refine AC.of (al := [some (.ref 57), some (.int v1), some (.int v2), some (.int v3)]) (r := 0) (by decide) (Nat.le_of_ble_eq_true rfl) rfl ?_
  refine aw_aload_n (n := 1) (i := 0) dX0_add_0 rfl rfl rfl ?_
  refine aw_getR (n := 4) (j := 2) (r := 58) hG.1 fl_RX0_9 (sF_57 hS) rfl dX0_add_1 rfl ?_
  refine aw_iload_n (n := 5) (i := 1) dX0_add_4 rfl rfl rfl ?_
  refine aw_dup2 (n := 6) dX0_add_5 rfl rfl rfl ?_
  obtain ⟨g_1, h⟩ := Ok.gd h
  refine aw_iaload (n := 7) hG.1 (sF_58 hS) (aIn_in g_1) dX0_add_6 rfl ?_
  refine aw_iload_n (n := 8) (i := 3) dX0_add_7 rfl rfl rfl ?_
  refine aw_iadd (n := 9) dX0_add_8 rfl ?_
  obtain ⟨g_2, h⟩ := Ok.gd h
  obtain ⟨D_3, e_D_3, h⟩ := Ok.let_ h
  refine aw_iastore (n := 10) hG.1 (sF_58 hS) (aIn_in g_2) e_D_3 dX0_add_9 rfl ?_
  refine aw_iload_n (n := 11) (i := 2) dX0_add_10 rfl rfl rfl ?_
  refine aw_iconst (n := 12) (v := (-1)) dX0_add_11 rfl (by decide) ?_
  refine aw_icmp_eq (n := 15) (tgt := 30) dX0_add_12 rfl (by decide) (fun c => ?_) (fun c => ?_)
  · replace h := Ok.ift h c
    exact aw_vret rfl (by decide) (by decide) dX0_add_30 ⟨rfl, rfl, (Ok.dn h :)⟩
  · replace h := Ok.iff h c
    refine aw_aload_n (n := 16) (i := 0) dX0_add_15 rfl rfl rfl ?_
    refine aw_getR (n := 19) (j := 3) (r := 59) hG.1 fl_RX0_15 (sF_57 hS) rfl dX0_add_16 rfl ?_
    refine aw_iload_n (n := 20) (i := 2) dX0_add_19 rfl rfl rfl ?_
    refine aw_bipush (n := 22) (v := 6) dX0_add_20 rfl (by decide) ?_
    refine aw_imul (n := 23) dX0_add_22 rfl ?_
    refine aw_iload_n (n := 24) (i := 1) dX0_add_23 rfl rfl rfl ?_
    refine aw_iadd (n := 25) dX0_add_24 rfl ?_
    refine aw_dup2 (n := 26) dX0_add_25 rfl rfl rfl ?_
    obtain ⟨g_4, h⟩ := Ok.gd h
    refine aw_iaload (n := 27) hG.1 (sF_59 hS) (aIn_in g_4) dX0_add_26 rfl ?_
    refine aw_iload_n (n := 28) (i := 3) dX0_add_27 rfl rfl rfl ?_
    refine aw_iadd (n := 29) dX0_add_28 rfl ?_
    obtain ⟨g_5, h⟩ := Ok.gd h
    obtain ⟨D_6, e_D_6, h⟩ := Ok.let_ h
    refine aw_iastore (n := 30) hG.1 (sF_59 hS) (aIn_in g_5) e_D_6 dX0_add_29 rfl ?_
    exact aw_vret rfl (by decide) (by decide) dX0_add_30 ⟨rfl, rfl, (Ok.dn h :)⟩
def J_X0_fill_62 (D : aD) : Option (aD) :=
  some D
def B_X0_fill_7 (v1 : Int32) (v2 : Int32) (v3 : Int32) (v4 : Int32) (D : aD) : Option ((Int32 × aD) ⊕ ((aD))) :=
  if gI D 2 4 ≤ v4 then (some (.inr D)) else (aBi (f_X0_plantScent v4 v1 v2 v3 D) (fun y_2 D_3 => aGd (aIn v4 12) (aGd (aIn v4 12) ((f_X0_add (gI D_3 8 v4.toNatClampNeg) (gI D_3 10 v4.toNatClampNeg) y_2 D_3).bind (fun D_6 => aLet (v4 + 1) (fun v4_7 => some (.inl (v4_7, D_6))))))))
def J_X0_fill_7 (v1 : Int32) (v2 : Int32) (v3 : Int32) (v4 : Int32) (D : aD) : Option (aD) :=
  (aLp (fun s => B_X0_fill_7 v1 v2 v3 s.1 s.2) (v4, D)).bind (fun r => J_X0_fill_62 r)
def f_X0_fill (v1 : Int32) (v2 : Int32) (v3 : Int32) (D : aD) : Option (aD) :=
  (f_X0_clear D).bind (fun D_1 => J_X0_fill_7 v1 v2 v3 0 D_1)
set_option maxRecDepth 100000 in
set_option maxHeartbeats 800000 in
theorem c_X0_fill {G : aG} (hG : gOK G) {shp : List aSh} (hS : aShp shp) {fr : Option Nat} {v1 : Int32} {v2 : Int32} {v3 : Int32} {D : aD} {K : aD → Prop} (h : Ok (f_X0_fill v1 v2 v3 D) K) : AC G (aRm 4 0 0) M_X0_fill [.ref 57, .int v1, .int v2, .int v3] fr shp D (aQv shp K) := by
  unfold f_X0_fill at h
  refine AC.of (al := [some (.ref 57), some (.int v1), some (.int v2), some (.int v3), none, none]) (r := 2) (by decide) (Nat.le_of_ble_eq_true rfl) rfl ?_
  have hJ_62 : ∀ (D : aD), Ok (J_X0_fill_62 D) K → AW G (aRm 4 0 0) M_X0_fill fr 0 0 62 [none, none, none, none, none, none] [] shp D (aQv shp K) := by
    intro D h
    unfold J_X0_fill_62 at h
    exact aw_vret rfl (by decide) (by decide) dX0_fill_62 ⟨rfl, rfl, (Ok.dn h :)⟩
  have hJ_7 : ∀ (v1 : Int32) (v2 : Int32) (v3 : Int32) (v4 : Int32) (D : aD), Ok (J_X0_fill_7 v1 v2 v3 v4 D) K → AW G (aRm 4 0 0) M_X0_fill fr 0 0 7 [some (.ref 57), some (.int v1), some (.int v2), some (.int v3), some (.int v4), none] [] shp D (aQv shp K) := by
    intro v1 v2 v3 v4 D h
    unfold J_X0_fill_7 at h
    refine Ok.lp (P := fun s => AW G (aRm 4 0 0) M_X0_fill fr 0 0 7 [some (.ref 57), some (.int v1), some (.int v2), some (.int v3), some (.int (s.1)), none] [] shp s.2 (aQv shp K)) (fun s Kb7 hL7 hR7 h => ?_) (v4, D) (Ok.bind h)
    obtain ⟨v4, D⟩ := s
    replace h : Ok (B_X0_fill_7 v1 v2 v3 v4 D) Kb7 := h
    unfold B_X0_fill_7 at h
    refine aw_iload (n := 9) (i := 4) dX0_fill_7 rfl rfl ?_
    refine aw_aload_n (n := 10) (i := 0) dX0_fill_9 rfl rfl rfl ?_
    refine aw_getR (n := 13) (j := 0) (r := 2) hG.1 fl_RX0_18 (sF_57 hS) rfl dX0_fill_10 rfl ?_
    refine aw_getI (n := 16) (j := 4) hG.1 fl_RX0_35 (sF_2 hS) rfl dX0_fill_13 rfl ?_
    refine aw_icmp_ge (n := 19) (tgt := 62) dX0_fill_16 rfl (by decide) (fun c => ?_) (fun c => ?_)
    · replace h := Ok.ift h c
      exact aw_le' (hJ_62 D (hR7 D (Ok.dn h :))) trivial
    · replace h := Ok.iff h c
      refine aw_aload_n (n := 20) (i := 0) dX0_fill_19 rfl rfl rfl ?_
      refine aw_iload (n := 22) (i := 4) dX0_fill_20 rfl rfl ?_
      refine aw_iload_n (n := 23) (i := 1) dX0_fill_22 rfl rfl rfl ?_
      refine aw_iload_n (n := 24) (i := 2) dX0_fill_23 rfl rfl rfl ?_
      refine aw_iload_n (n := 25) (i := 3) dX0_fill_24 rfl rfl rfl ?_
      refine aw_cVi (M := M_X0_fill) (n := 28) (As := [.int v4, .int v1, .int v2, .int v3]) (rest := []) hG.1 lk_RX0_41 rfl rfl (sF_57 hS) (c_X0_plantScent hG hS (h := Ok.bi h)) (by decide) (Nat.le_of_ble_eq_true rfl) (by decide) (by decide) dX0_fill_25 rfl (fun y_2 D_3 h => ?_)
      refine aw_istore (n := 30) (i := 5) (al' := [some (.ref 57), some (.int v1), some (.int v2), some (.int v3), some (.int v4), some (.int y_2)]) dX0_fill_28 rfl rfl (by decide) rfl ?_
      refine aw_aload_n (n := 31) (i := 0) dX0_fill_30 rfl rfl rfl ?_
      refine aw_aload_n (n := 32) (i := 0) dX0_fill_31 rfl rfl rfl ?_
      refine aw_getR (n := 35) (j := 0) (r := 2) hG.1 fl_RX0_18 (sF_57 hS) rfl dX0_fill_32 rfl ?_
      refine aw_getR (n := 38) (j := 10) (r := 8) hG.1 fl_RX0_45 (sF_2 hS) rfl dX0_fill_35 rfl ?_
      refine aw_iload (n := 40) (i := 4) dX0_fill_38 rfl rfl ?_
      obtain ⟨g_4, h⟩ := Ok.gd h
      refine aw_iaload (n := 41) hG.1 (sF_8 hS) (aIn_in g_4) dX0_fill_40 rfl ?_
      refine aw_aload_n (n := 42) (i := 0) dX0_fill_41 rfl rfl rfl ?_
      refine aw_getR (n := 45) (j := 0) (r := 2) hG.1 fl_RX0_18 (sF_57 hS) rfl dX0_fill_42 rfl ?_
      refine aw_getR (n := 48) (j := 12) (r := 10) hG.1 fl_RX0_48 (sF_2 hS) rfl dX0_fill_45 rfl ?_
      refine aw_iload (n := 50) (i := 4) dX0_fill_48 rfl rfl ?_
      obtain ⟨g_5, h⟩ := Ok.gd h
      refine aw_iaload (n := 51) hG.1 (sF_10 hS) (aIn_in g_5) dX0_fill_50 rfl ?_
      refine aw_iload (n := 53) (i := 5) dX0_fill_51 rfl rfl ?_
      refine aw_cVv (M := M_X0_fill) (n := 56) (As := [.int (gI D_3 8 v4.toNatClampNeg), .int (gI D_3 10 v4.toNatClampNeg), .int y_2]) (rest := []) hG.1 lk_RX0_51 rfl rfl (sF_57 hS) (c_X0_add hG hS (h := Ok.bind h)) (by decide) (Nat.le_of_ble_eq_true rfl) (by decide) (by decide) dX0_fill_53 rfl (fun D_6 h => ?_)
      obtain ⟨v4_7, e_v4_7, h⟩ := Ok.let_ h
      refine aw_iinc (n := 59) (al' := [some (.ref 57), some (.int v1), some (.int v2), some (.int v3), some (.int v4_7), some (.int y_2)]) dX0_fill_56 rfl rfl e_v4_7 (by decide) rfl ?_
      refine aw_goto (tgt := 7) dX0_fill_59 (by decide) ?_
      exact aw_le' (hL7 (v4_7, D_6) (Ok.dn h :)) ⟨rfl, ⟨rfl, ⟨rfl, ⟨rfl, ⟨rfl, trivial⟩⟩⟩⟩⟩
  refine aw_aload_n (n := 1) (i := 0) dX0_fill_0 rfl rfl rfl ?_
  refine aw_cVv (M := M_X0_fill) (n := 4) (As := []) (rest := []) hG.1 lk_RX0_32 rfl rfl (sF_57 hS) (c_X0_clear hG hS (h := Ok.bind h)) (by decide) (Nat.le_of_ble_eq_true rfl) (by decide) (by decide) dX0_fill_1 rfl (fun D_1 h => ?_)
  refine aw_iconst (n := 5) (v := 0) dX0_fill_4 rfl (by decide) ?_
  refine aw_istore (n := 7) (i := 4) (al' := [some (.ref 57), some (.int v1), some (.int v2), some (.int v3), some (.int 0), none]) dX0_fill_5 rfl rfl (by decide) rfl ?_
  exact aw_le' (hJ_7 v1 v2 v3 0 D_1 h) ⟨rfl, ⟨rfl, ⟨rfl, ⟨rfl, ⟨rfl, trivial⟩⟩⟩⟩⟩
def J_X0_masked_67 (v2 : Int32) (D : aD) : Option (Int32 × aD) :=
  if 0 ≤ v2 then (some (v2, D)) else (some (0, D))
def B_X0_masked_23 (v1 : Int32) (v2 : Int32) (v3 : Int32) (D : aD) : Option ((Int32 × Int32 × aD) ⊕ ((Int32 × aD))) :=
  if gI D 2 2 ≤ v3 then (some (.inr (v2, D))) else (aGd (aIn ((v3 * 6) + v1) 36) (aGd (aIn v3 6) (aLet (v2 - (((gI D 12 ((v3 * 6) + v1).toNatClampNeg) * (gI D 58 v3.toNatClampNeg)) / 100)) (fun v2_6 => aLet (v3 + 1) (fun v3_7 => some (.inl (v2_6, v3_7, D)))))))
def J_X0_masked_23 (v1 : Int32) (v2 : Int32) (v3 : Int32) (D : aD) : Option (Int32 × aD) :=
  (aLp (fun s => B_X0_masked_23 v1 s.1 s.2.1 s.2.2) (v2, v3, D)).bind (fun r => J_X0_masked_67 (r.1) r.2)
def f_X0_masked (v1 : Int32) (D : aD) : Option (Int32 × aD) :=
  aGd (aIn v1 6) (aLet (gI D 58 v1.toNatClampNeg) (fun v2_2 => aGd (aIn v1 6) (if gI D 13 v1.toNatClampNeg ≠ 0 then (J_X0_masked_23 v1 v2_2 0 D) else (some (v2_2, D)))))
set_option maxRecDepth 100000 in
set_option maxHeartbeats 800000 in
theorem c_X0_masked {G : aG} (hG : gOK G) {shp : List aSh} (hS : aShp shp) {fr : Option Nat} {v1 : Int32} {D : aD} {K : Int32 → aD → Prop} (h : Ok2 (f_X0_masked v1 D) K) : AC G (aRm 1 0 0) M_X0_masked [.ref 57, .int v1] fr shp D (aQi shp K) := by
  replace h := Ok2.ok h
  unfold f_X0_masked at h
  refine AC.of (al := [some (.ref 57), some (.int v1), none, none]) (r := 2) (by decide) (Nat.le_of_ble_eq_true rfl) rfl ?_
  have hJ_67 : ∀ (v2 : Int32) (D : aD), Ok (J_X0_masked_67 v2 D) (fun r => K r.1 r.2) → AW G (aRm 1 0 0) M_X0_masked fr 0 0 67 [none, none, some (.int v2), none] [] shp D (aQi shp K) := by
    intro v2 D h
    unfold J_X0_masked_67 at h
    refine aw_iload_n (n := 68) (i := 2) dX0_masked_67 rfl rfl rfl ?_
    refine aw_if_ge (n := 71) (tgt := 75) dX0_masked_68 rfl (by decide) (fun c => ?_) (fun c => ?_)
    · replace h := Ok.ift h c
      refine aw_iload_n (n := 76) (i := 2) dX0_masked_75 rfl rfl rfl ?_
      exact aw_iret rfl (by decide) (by decide) dX0_masked_76 ⟨_, rfl, rfl, (Ok.dn h :)⟩
    · replace h := Ok.iff h c
      refine aw_iconst (n := 72) (v := 0) dX0_masked_71 rfl (by decide) ?_
      refine aw_goto (tgt := 76) dX0_masked_72 (by decide) ?_
      exact aw_iret rfl (by decide) (by decide) dX0_masked_76 ⟨_, rfl, rfl, (Ok.dn h :)⟩
  have hJ_23 : ∀ (v1 : Int32) (v2 : Int32) (v3 : Int32) (D : aD), Ok (J_X0_masked_23 v1 v2 v3 D) (fun r => K r.1 r.2) → AW G (aRm 1 0 0) M_X0_masked fr 0 0 23 [some (.ref 57), some (.int v1), some (.int v2), some (.int v3)] [] shp D (aQi shp K) := by
    intro v1 v2 v3 D h
    unfold J_X0_masked_23 at h
    refine Ok.lp (P := fun s => AW G (aRm 1 0 0) M_X0_masked fr 0 0 23 [some (.ref 57), some (.int v1), some (.int (s.1)), some (.int (s.2.1))] [] shp s.2.2 (aQi shp K)) (fun s Kb23 hL23 hR23 h => ?_) (v2, v3, D) (Ok.bind h)
    obtain ⟨v2, v3, D⟩ := s
    replace h : Ok (B_X0_masked_23 v1 v2 v3 D) Kb23 := h
    unfold B_X0_masked_23 at h
    refine aw_iload_n (n := 24) (i := 3) dX0_masked_23 rfl rfl rfl ?_
    refine aw_aload_n (n := 25) (i := 0) dX0_masked_24 rfl rfl rfl ?_
    refine aw_getR (n := 28) (j := 0) (r := 2) hG.1 fl_RX0_18 (sF_57 hS) rfl dX0_masked_25 rfl ?_
    refine aw_getI (n := 31) (j := 2) hG.1 fl_RX0_74 (sF_2 hS) rfl dX0_masked_28 rfl ?_
    refine aw_icmp_ge (n := 34) (tgt := 67) dX0_masked_31 rfl (by decide) (fun c => ?_) (fun c => ?_)
    · replace h := Ok.ift h c
      exact aw_le' (hJ_67 v2 D (hR23 (v2, D) (Ok.dn h :))) ⟨rfl, trivial⟩
    · replace h := Ok.iff h c
      refine aw_iload_n (n := 35) (i := 2) dX0_masked_34 rfl rfl rfl ?_
      refine aw_aload_n (n := 36) (i := 0) dX0_masked_35 rfl rfl rfl ?_
      refine aw_getR (n := 39) (j := 0) (r := 2) hG.1 fl_RX0_18 (sF_57 hS) rfl dX0_masked_36 rfl ?_
      refine aw_getR (n := 42) (j := 14) (r := 12) hG.1 fl_RX0_77 (sF_2 hS) rfl dX0_masked_39 rfl ?_
      refine aw_iload_n (n := 43) (i := 3) dX0_masked_42 rfl rfl rfl ?_
      refine aw_bipush (n := 45) (v := 6) dX0_masked_43 rfl (by decide) ?_
      refine aw_imul (n := 46) dX0_masked_45 rfl ?_
      refine aw_iload_n (n := 47) (i := 1) dX0_masked_46 rfl rfl rfl ?_
      refine aw_iadd (n := 48) dX0_masked_47 rfl ?_
      obtain ⟨g_4, h⟩ := Ok.gd h
      refine aw_iaload (n := 49) hG.1 (sF_12 hS) (aIn_in g_4) dX0_masked_48 rfl ?_
      refine aw_aload_n (n := 50) (i := 0) dX0_masked_49 rfl rfl rfl ?_
      refine aw_getR (n := 53) (j := 2) (r := 58) hG.1 fl_RX0_9 (sF_57 hS) rfl dX0_masked_50 rfl ?_
      refine aw_iload_n (n := 54) (i := 3) dX0_masked_53 rfl rfl rfl ?_
      obtain ⟨g_5, h⟩ := Ok.gd h
      refine aw_iaload (n := 55) hG.1 (sF_58 hS) (aIn_in g_5) dX0_masked_54 rfl ?_
      refine aw_imul (n := 56) dX0_masked_55 rfl ?_
      refine aw_bipush (n := 58) (v := 100) dX0_masked_56 rfl (by decide) ?_
      refine aw_idiv (n := 59) dX0_masked_58 rfl (by decide) ?_
      refine aw_isub (n := 60) dX0_masked_59 rfl ?_
      obtain ⟨v2_6, e_v2_6, h⟩ := Ok.let_ h
      refine aw_istore_n (n := 61) (i := 2) (al' := [some (.ref 57), some (.int v1), some (.int v2_6), some (.int v3)]) dX0_masked_60 rfl rfl e_v2_6 (by decide) rfl ?_
      obtain ⟨v3_7, e_v3_7, h⟩ := Ok.let_ h
      refine aw_iinc (n := 64) (al' := [some (.ref 57), some (.int v1), some (.int v2_6), some (.int v3_7)]) dX0_masked_61 rfl rfl e_v3_7 (by decide) rfl ?_
      refine aw_goto (tgt := 23) dX0_masked_64 (by decide) ?_
      exact aw_le' (hL23 (v2_6, v3_7, D) (Ok.dn h :)) ⟨rfl, ⟨rfl, ⟨rfl, ⟨rfl, trivial⟩⟩⟩⟩
  refine aw_aload_n (n := 1) (i := 0) dX0_masked_0 rfl rfl rfl ?_
  refine aw_getR (n := 4) (j := 2) (r := 58) hG.1 fl_RX0_9 (sF_57 hS) rfl dX0_masked_1 rfl ?_
  refine aw_iload_n (n := 5) (i := 1) dX0_masked_4 rfl rfl rfl ?_
  obtain ⟨g_1, h⟩ := Ok.gd h
  refine aw_iaload (n := 6) hG.1 (sF_58 hS) (aIn_in g_1) dX0_masked_5 rfl ?_
  obtain ⟨v2_2, e_v2_2, h⟩ := Ok.let_ h
  refine aw_istore_n (n := 7) (i := 2) (al' := [some (.ref 57), some (.int v1), some (.int v2_2), none]) dX0_masked_6 rfl rfl e_v2_2 (by decide) rfl ?_
  refine aw_aload_n (n := 8) (i := 0) dX0_masked_7 rfl rfl rfl ?_
  refine aw_getR (n := 11) (j := 0) (r := 2) hG.1 fl_RX0_18 (sF_57 hS) rfl dX0_masked_8 rfl ?_
  refine aw_getR (n := 14) (j := 15) (r := 13) hG.1 fl_RX0_70 (sF_2 hS) rfl dX0_masked_11 rfl ?_
  refine aw_iload_n (n := 15) (i := 1) dX0_masked_14 rfl rfl rfl ?_
  obtain ⟨g_3, h⟩ := Ok.gd h
  refine aw_zaload (n := 16) hG.1 (sF_13 hS) (aIn_in g_3) dX0_masked_15 rfl ?_
  refine aw_if_ne (n := 19) (tgt := 21) dX0_masked_16 rfl (by decide) (fun c => ?_) (fun c => ?_)
  · replace h := Ok.ift h c
    refine aw_iconst (n := 22) (v := 0) dX0_masked_21 rfl (by decide) ?_
    refine aw_istore_n (n := 23) (i := 3) (al' := [some (.ref 57), some (.int v1), some (.int v2_2), some (.int 0)]) dX0_masked_22 rfl rfl rfl (by decide) rfl ?_
    exact aw_le' (hJ_23 v1 v2_2 0 D h) ⟨rfl, ⟨rfl, ⟨rfl, ⟨rfl, trivial⟩⟩⟩⟩
  · replace h := Ok.iffn h c
    refine aw_iload_n (n := 20) (i := 2) dX0_masked_19 rfl rfl rfl ?_
    exact aw_iret rfl (by decide) (by decide) dX0_masked_20 ⟨_, rfl, rfl, (Ok.dn h :)⟩
def f_X11_isBelow (v0 : Int32) (v1 : Int32) (D : aD) : Option (Int32 × aD) :=
  if v0 < 0 then (some (0, D)) else (if v1 ≤ v0 then (some (0, D)) else (some (1, D)))
set_option maxRecDepth 100000 in
set_option maxHeartbeats 800000 in
theorem c_X11_isBelow {G : aG} (hG : gOK G) {shp : List aSh} (hS : aShp shp) {fr : Option Nat} {v0 : Int32} {v1 : Int32} {D : aD} {K : Int32 → aD → Prop} (h : Ok2 (f_X11_isBelow v0 v1 D) K) : AC G (aRm 1 0 0) M_X11_isBelow [.int v0, .int v1] fr shp D (aQi shp K) := by
  replace h := Ok2.ok h
  unfold f_X11_isBelow at h
  refine AC.of (al := [some (.int v0), some (.int v1)]) (r := 0) (by decide) (Nat.le_of_ble_eq_true rfl) rfl ?_
  refine aw_iload_n (n := 1) (i := 0) dX11_isBelow_0 rfl rfl rfl ?_
  refine aw_if_lt (n := 4) (tgt := 13) dX11_isBelow_1 rfl (by decide) (fun c => ?_) (fun c => ?_)
  · replace h := Ok.ift h c
    refine aw_iconst (n := 14) (v := 0) dX11_isBelow_13 rfl (by decide) ?_
    exact aw_zret rfl (by decide) (by decide) (by decide) dX11_isBelow_14 ⟨_, rfl, rfl, (Ok.dn h :)⟩
  · replace h := Ok.iff h c
    refine aw_iload_n (n := 5) (i := 0) dX11_isBelow_4 rfl rfl rfl ?_
    refine aw_iload_n (n := 6) (i := 1) dX11_isBelow_5 rfl rfl rfl ?_
    refine aw_icmp_ge (n := 9) (tgt := 13) dX11_isBelow_6 rfl (by decide) (fun c => ?_) (fun c => ?_)
    · replace h := Ok.ift h c
      refine aw_iconst (n := 14) (v := 0) dX11_isBelow_13 rfl (by decide) ?_
      exact aw_zret rfl (by decide) (by decide) (by decide) dX11_isBelow_14 ⟨_, rfl, rfl, (Ok.dn h :)⟩
    · replace h := Ok.iff h c
      refine aw_iconst (n := 10) (v := 1) dX11_isBelow_9 rfl (by decide) ?_
      refine aw_goto (tgt := 14) dX11_isBelow_10 (by decide) ?_
      exact aw_zret rfl (by decide) (by decide) (by decide) dX11_isBelow_14 ⟨_, rfl, rfl, (Ok.dn h :)⟩
def f_X11_need (v0 : Int32) (D : aD) : Option ((String ⊕ Int32) × aD) :=
  if v0 ≠ 0 then (some (.inr 0, D)) else (some (.inl "java/util/NoSuchElementException", D))
set_option maxRecDepth 100000 in
set_option maxHeartbeats 800000 in
theorem c_X11_need {G : aG} (hG : gOK G) {shp : List aSh} (hS : aShp shp) {fr : Option Nat} {v0 : Int32} {D : aD} {K : (String ⊕ Int32) → aD → Prop} (h : Ok2 (f_X11_need v0 D) K) : AC G (aRm 6 1 6) M_X11_need [.int v0] fr shp D (aQxv shp K) := by
  replace h := Ok2.ok h
  unfold f_X11_need at h
  refine AC.of (al := [some (.int v0)]) (r := 0) (by decide) (Nat.le_of_ble_eq_true rfl) rfl ?_
  refine aw_iload_n (n := 1) (i := 0) dX11_need_0 rfl rfl rfl ?_
  refine aw_if_ne (n := 4) (tgt := 15) dX11_need_1 rfl (by decide) (fun c => ?_) (fun c => ?_)
  · replace h := Ok.ift h c
    exact aw_vret rfl (by decide) (by decide) dX11_need_15 ⟨rfl, Or.inl ⟨rfl, (Ok.dn h :)⟩⟩
  · replace h := Ok.iffn h c
    exact aw_throwN (M := M_X11_need) (sk := 10000 + 14) (Y1 := "java/lang/RuntimeException") (r := ["java/lang/Exception"]) hG.2.2.2.1 (by decide) (by decide) kx_RX11_325.1 kx_RX11_325.2.1 (gS_RX11_323 hG) kx_RX11_325.2.2 dX11_need_4 dX11_need_7 dX11_need_8 dX11_need_11 dX11_need_14 (by decide) (by decide) (by decide) (by decide) ⟨rfl, Or.inr ⟨_, rfl, (Ok.dn h :)⟩⟩
def f_X11_needWind (v0 : Int32) (D : aD) : Option ((String ⊕ Int32) × aD) :=
  aBi (f_X11_isBelow v0 5 D) (fun y_1 D_2 => aTry (f_X11_need y_1 D_2) (fun y_3 D_4 => some (.inr 0, D_4)))
set_option maxRecDepth 100000 in
set_option maxHeartbeats 800000 in
theorem c_X11_needWind {G : aG} (hG : gOK G) {shp : List aSh} (hS : aShp shp) {fr : Option Nat} {v0 : Int32} {D : aD} {K : (String ⊕ Int32) → aD → Prop} (h : Ok2 (f_X11_needWind v0 D) K) : AC G (aRm 7 1 6) M_X11_needWind [.int v0] fr shp D (aQxv shp K) := by
  replace h := Ok2.ok h
  unfold f_X11_needWind at h
  refine AC.of (al := [some (.int v0)]) (r := 0) (by decide) (Nat.le_of_ble_eq_true rfl) rfl ?_
  refine aw_iload_n (n := 1) (i := 0) dX11_needWind_0 rfl rfl rfl ?_
  refine aw_iconst (n := 2) (v := 5) dX11_needWind_1 rfl (by decide) ?_
  refine aw_cSi (M := M_X11_needWind) (n := 5) (As := [.int v0, .int 5]) (rest := []) lk_RX11_173 rfl rfl (c_X11_isBelow hG hS (h := Ok.bi h)) (by decide) (Nat.le_of_ble_eq_true rfl) (by decide) (by decide) dX11_needWind_2 rfl (fun y_1 D_2 h => ?_)
  refine aw_cSxv (M := M_X11_needWind) (n := 8) (As := [.int y_1]) (rest := []) (kn := 1) (kn2 := 6) lk_RX11_121 rfl rfl (c_X11_need hG hS (h := Ok.try_ h)) (by decide) (Nat.le_of_ble_eq_true rfl) rfl rfl (by decide) (by decide) rfl dX11_needWind_5 rfl (fun E D hx => ⟨rfl, Or.inr ⟨E, rfl, hx⟩⟩) (fun y_3 D_4 h => ?_)
  exact aw_vret rfl (by decide) (by decide) dX11_needWind_8 ⟨rfl, Or.inl ⟨rfl, (Ok.dn h :)⟩⟩
def J_X11_needAir_31 (v3 : Int32) (t0 : Int32) (D : aD) : Option ((String ⊕ Int32) × aD) :=
  aTry (f_X11_need t0 D) (fun y_5 D_6 => aTry (f_X11_needWind v3 D_6) (fun y_7 D_8 => some (.inr 0, D_8)))
def J_X11_needAir_30 (v3 : Int32) (D : aD) : Option ((String ⊕ Int32) × aD) :=
  J_X11_needAir_31 v3 0 D
def f_X11_needAir (v1 : Int32) (v2 : Int32) (v3 : Int32) (D : aD) : Option ((String ⊕ Int32) × aD) :=
  aBi (f_X4_cells D) (fun y_1 D_2 => aBi (f_X11_isBelow v1 y_1 D_2) (fun y_3 D_4 => if y_3 = 0 then (J_X11_needAir_30 v3 D_4) else (aBi (f_X11_isBelow v2 24 D_4) (fun y_9 D_10 => if y_9 = 0 then (J_X11_needAir_30 v3 D_10) else (J_X11_needAir_31 v3 1 D_10)))))
set_option maxRecDepth 100000 in
set_option maxHeartbeats 800000 in
theorem c_X11_needAir {G : aG} (hG : gOK G) {shp : List aSh} (hS : aShp shp) {fr : Option Nat} {v1 : Int32} {v2 : Int32} {v3 : Int32} {D : aD} {K : (String ⊕ Int32) → aD → Prop} (h : Ok2 (f_X11_needAir v1 v2 v3 D) K) : AC G (aRm 8 2 12) M_X11_needAir [.ref 0, .int v1, .int v2, .int v3] fr shp D (aQxv shp K) := by
  replace h := Ok2.ok h
  unfold f_X11_needAir at h
  refine AC.of (al := [some (.ref 0), some (.int v1), some (.int v2), some (.int v3)]) (r := 0) (by decide) (Nat.le_of_ble_eq_true rfl) rfl ?_
  have hJ_31 : ∀ (v3 : Int32) (t0 : Int32) (D : aD), Ok (J_X11_needAir_31 v3 t0 D) (fun r => K r.1 r.2) → AW G (aRm 8 2 12) M_X11_needAir fr 0 0 31 [none, none, none, some (.int v3)] [.int t0] shp D (aQxv shp K) := by
    intro v3 t0 D h
    unfold J_X11_needAir_31 at h
    refine aw_cSxv (M := M_X11_needAir) (n := 34) (As := [.int t0]) (rest := []) (kn := 1) (kn2 := 6) lk_RX11_121 rfl rfl (c_X11_need hG hS (h := Ok.try_ h)) (by decide) (Nat.le_of_ble_eq_true rfl) rfl rfl (by decide) (by decide) rfl dX11_needAir_31 rfl (fun E D hx => ⟨rfl, Or.inr ⟨E, rfl, hx⟩⟩) (fun y_5 D_6 h => ?_)
    refine aw_iload_n (n := 35) (i := 3) dX11_needAir_34 rfl rfl rfl ?_
    refine aw_cSxv (M := M_X11_needAir) (n := 38) (As := [.int v3]) (rest := []) (kn := 2) (kn2 := 12) lk_RX11_229 rfl rfl (c_X11_needWind hG hS (h := Ok.try_ h)) (by decide) (Nat.le_of_ble_eq_true rfl) rfl rfl (by decide) (by decide) rfl dX11_needAir_35 rfl (fun E D hx => ⟨rfl, Or.inr ⟨E, rfl, hx⟩⟩) (fun y_7 D_8 h => ?_)
    exact aw_vret rfl (by decide) (by decide) dX11_needAir_38 ⟨rfl, Or.inl ⟨rfl, (Ok.dn h :)⟩⟩
  have hJ_30 : ∀ (v3 : Int32) (D : aD), Ok (J_X11_needAir_30 v3 D) (fun r => K r.1 r.2) → AW G (aRm 8 2 12) M_X11_needAir fr 0 0 30 [none, none, none, some (.int v3)] [] shp D (aQxv shp K) := by
    intro v3 D h
    unfold J_X11_needAir_30 at h
    refine aw_iconst (n := 31) (v := 0) dX11_needAir_30 rfl (by decide) ?_
    exact aw_wid (by decide) (by decide) <| aw_le' (hJ_31 v3 0 D h) ⟨rfl, trivial⟩
  refine aw_iload_n (n := 1) (i := 1) dX11_needAir_0 rfl rfl rfl ?_
  refine aw_aload_n (n := 2) (i := 0) dX11_needAir_1 rfl rfl rfl ?_
  refine aw_getR (n := 5) (j := 3) (r := 2) hG.1 fl_RX11_20 (sF_0 hS) rfl dX11_needAir_2 rfl ?_
  refine aw_getR (n := 8) (j := 0) (r := 3) hG.1 fl_RX11_128 (sF_2 hS) rfl dX11_needAir_5 rfl ?_
  refine aw_cVi (M := M_X11_needAir) (n := 11) (As := []) (rest := [.int v1]) hG.1 lk_RX11_326 rfl rfl (sF_3 hS) (c_X4_cells hG hS (h := Ok.bi h)) (by decide) (Nat.le_of_ble_eq_true rfl) (by decide) (by decide) dX11_needAir_8 rfl (fun y_1 D_2 h => ?_)
  refine aw_cSi (M := M_X11_needAir) (n := 14) (As := [.int v1, .int y_1]) (rest := []) lk_RX11_173 rfl rfl (c_X11_isBelow hG hS (h := Ok.bi h)) (by decide) (Nat.le_of_ble_eq_true rfl) (by decide) (by decide) dX11_needAir_11 rfl (fun y_3 D_4 h => ?_)
  refine aw_if_eq (n := 17) (tgt := 30) dX11_needAir_14 rfl (by decide) (fun c => ?_) (fun c => ?_)
  · replace h := Ok.ift h c
    exact aw_wid (by decide) (by decide) <| aw_le' (hJ_30 v3 D_4 h) ⟨rfl, trivial⟩
  · replace h := Ok.iff h c
    refine aw_iload_n (n := 18) (i := 2) dX11_needAir_17 rfl rfl rfl ?_
    refine aw_bipush (n := 20) (v := 24) dX11_needAir_18 rfl (by decide) ?_
    refine aw_cSi (M := M_X11_needAir) (n := 23) (As := [.int v2, .int 24]) (rest := []) lk_RX11_173 rfl rfl (c_X11_isBelow hG hS (h := Ok.bi h)) (by decide) (Nat.le_of_ble_eq_true rfl) (by decide) (by decide) dX11_needAir_20 rfl (fun y_9 D_10 h => ?_)
    refine aw_if_eq (n := 26) (tgt := 30) dX11_needAir_23 rfl (by decide) (fun c => ?_) (fun c => ?_)
    · replace h := Ok.ift h c
      exact aw_wid (by decide) (by decide) <| aw_le' (hJ_30 v3 D_10 h) ⟨rfl, trivial⟩
    · replace h := Ok.iff h c
      refine aw_iconst (n := 27) (v := 1) dX11_needAir_26 rfl (by decide) ?_
      refine aw_goto (tgt := 31) dX11_needAir_27 (by decide) ?_
      exact aw_wid (by decide) (by decide) <| aw_le' (hJ_31 v3 1 D_10 h) ⟨rfl, trivial⟩
def f_X0_noticed (v1 : Int32) (D : aD) : Option (Int32 × aD) :=
  if gI D 2 9 ≤ v1 then (some (v1, D)) else (some (0, D))
set_option maxRecDepth 100000 in
set_option maxHeartbeats 800000 in
theorem c_X0_noticed {G : aG} (hG : gOK G) {shp : List aSh} (hS : aShp shp) {fr : Option Nat} {v1 : Int32} {D : aD} {K : Int32 → aD → Prop} (h : Ok2 (f_X0_noticed v1 D) K) : AC G (aRm 1 0 0) M_X0_noticed [.ref 57, .int v1] fr shp D (aQi shp K) := by
  replace h := Ok2.ok h
  unfold f_X0_noticed at h
  refine AC.of (al := [some (.ref 57), some (.int v1)]) (r := 0) (by decide) (Nat.le_of_ble_eq_true rfl) rfl ?_
  refine aw_iload_n (n := 1) (i := 1) dX0_noticed_0 rfl rfl rfl ?_
  refine aw_aload_n (n := 2) (i := 0) dX0_noticed_1 rfl rfl rfl ?_
  refine aw_getR (n := 5) (j := 0) (r := 2) hG.1 fl_RX0_18 (sF_57 hS) rfl dX0_noticed_2 rfl ?_
  refine aw_getI (n := 8) (j := 9) hG.1 fl_RX0_80 (sF_2 hS) rfl dX0_noticed_5 rfl ?_
  refine aw_icmp_ge (n := 11) (tgt := 15) dX0_noticed_8 rfl (by decide) (fun c => ?_) (fun c => ?_)
  · replace h := Ok.ift h c
    refine aw_iload_n (n := 16) (i := 1) dX0_noticed_15 rfl rfl rfl ?_
    exact aw_iret rfl (by decide) (by decide) dX0_noticed_16 ⟨_, rfl, rfl, (Ok.dn h :)⟩
  · replace h := Ok.iff h c
    refine aw_iconst (n := 12) (v := 0) dX0_noticed_11 rfl (by decide) ?_
    refine aw_goto (tgt := 16) dX0_noticed_12 (by decide) ?_
    exact aw_iret rfl (by decide) (by decide) dX0_noticed_16 ⟨_, rfl, rfl, (Ok.dn h :)⟩
def J_X11_smelt_28 (v1 : Int32) (v2 : Int32) (v3 : Int32) (v4 : Int32) (v5 : Int32) (t0 : Int32) (D : aD) : Option ((String ⊕ Int32) × aD) :=
  aTry (f_X11_need t0 D) (fun y_3 D_4 => aTry (f_X11_needAir v2 v3 v4 D_4) (fun y_5 D_6 => (f_X0_fill v2 v3 v4 D_6).bind (fun D_7 => if v5 ≠ 0 then (aBi (f_X0_masked v1 D_7) (fun y_8 D_9 => if v5 ≠ 1 then (aBi (f_X0_noticed y_8 D_9) (fun y_10 D_11 => some (.inr y_10, D_11))) else (some (.inr y_8, D_9)))) else (aGd (aIn v1 6) (some (.inr (gI D_7 58 v1.toNatClampNeg), D_7))))))
def J_X11_smelt_27 (v1 : Int32) (v2 : Int32) (v3 : Int32) (v4 : Int32) (v5 : Int32) (D : aD) : Option ((String ⊕ Int32) × aD) :=
  J_X11_smelt_28 v1 v2 v3 v4 v5 0 D
def f_X11_smelt (v1 : Int32) (v2 : Int32) (v3 : Int32) (v4 : Int32) (v5 : Int32) (D : aD) : Option ((String ⊕ Int32) × aD) :=
  aBi (f_X11_isBelow v1 (gI D 2 2) D) (fun y_1 D_2 => if y_1 = 0 then (J_X11_smelt_27 v1 v2 v3 v4 v5 D_2) else (aBi (f_X11_isBelow v5 3 D_2) (fun y_13 D_14 => if y_13 = 0 then (J_X11_smelt_27 v1 v2 v3 v4 v5 D_14) else (J_X11_smelt_28 v1 v2 v3 v4 v5 1 D_14))))
set_option maxRecDepth 100000 in
set_option maxHeartbeats 800000 in
theorem c_X11_smelt {G : aG} (hG : gOK G) {shp : List aSh} (hS : aShp shp) {fr : Option Nat} {v1 : Int32} {v2 : Int32} {v3 : Int32} {v4 : Int32} {v5 : Int32} {D : aD} {K : (String ⊕ Int32) → aD → Prop} (h : Ok2 (f_X11_smelt v1 v2 v3 v4 v5 D) K) : AC G (aRm 9 3 18) M_X11_smelt [.ref 0, .int v1, .int v2, .int v3, .int v4, .int v5] fr shp D (aQxi shp K) := by
  replace h := Ok2.ok h
  unfold f_X11_smelt at h
  refine AC.of (al := [some (.ref 0), some (.int v1), some (.int v2), some (.int v3), some (.int v4), some (.int v5), none]) (r := 1) (by decide) (Nat.le_of_ble_eq_true rfl) rfl ?_
  have hJ_28 : ∀ (v1 : Int32) (v2 : Int32) (v3 : Int32) (v4 : Int32) (v5 : Int32) (t0 : Int32) (D : aD), Ok (J_X11_smelt_28 v1 v2 v3 v4 v5 t0 D) (fun r => K r.1 r.2) → AW G (aRm 9 3 18) M_X11_smelt fr 0 0 28 [some (.ref 0), some (.int v1), some (.int v2), some (.int v3), some (.int v4), some (.int v5), none] [.int t0] shp D (aQxi shp K) := by
    intro v1 v2 v3 v4 v5 t0 D h
    unfold J_X11_smelt_28 at h
    refine aw_cSxv (M := M_X11_smelt) (n := 31) (As := [.int t0]) (rest := []) (kn := 1) (kn2 := 6) lk_RX11_121 rfl rfl (c_X11_need hG hS (h := Ok.try_ h)) (by decide) (Nat.le_of_ble_eq_true rfl) rfl rfl (by decide) (by decide) rfl dX11_smelt_28 rfl (fun E D hx => ⟨rfl, Or.inr ⟨E, rfl, hx⟩⟩) (fun y_3 D_4 h => ?_)
    refine aw_aload_n (n := 32) (i := 0) dX11_smelt_31 rfl rfl rfl ?_
    refine aw_iload_n (n := 33) (i := 2) dX11_smelt_32 rfl rfl rfl ?_
    refine aw_iload_n (n := 34) (i := 3) dX11_smelt_33 rfl rfl rfl ?_
    refine aw_iload (n := 36) (i := 4) dX11_smelt_34 rfl rfl ?_
    refine aw_cVxv (M := M_X11_smelt) (n := 39) (As := [.int v2, .int v3, .int v4]) (rest := []) (kn := 3) (kn2 := 18) hG.1 lk_RX11_203 rfl rfl (sF_0 hS) (c_X11_needAir hG hS (h := Ok.try_ h)) (by decide) (Nat.le_of_ble_eq_true rfl) rfl rfl (by decide) (by decide) rfl dX11_smelt_36 rfl (fun E D hx => ⟨rfl, Or.inr ⟨E, rfl, hx⟩⟩) (fun y_5 D_6 h => ?_)
    refine aw_aload_n (n := 40) (i := 0) dX11_smelt_39 rfl rfl rfl ?_
    refine aw_getR (n := 43) (j := 9) (r := 57) hG.1 fl_RX11_51 (sF_0 hS) rfl dX11_smelt_40 rfl ?_
    refine aw_iload_n (n := 44) (i := 2) dX11_smelt_43 rfl rfl rfl ?_
    refine aw_iload_n (n := 45) (i := 3) dX11_smelt_44 rfl rfl rfl ?_
    refine aw_iload (n := 47) (i := 4) dX11_smelt_45 rfl rfl ?_
    refine aw_cVv (M := M_X11_smelt) (n := 50) (As := [.int v2, .int v3, .int v4]) (rest := []) hG.1 lk_RX11_211 rfl rfl (sF_57 hS) (c_X0_fill hG hS (h := Ok.bind h)) (by decide) (Nat.le_of_ble_eq_true rfl) (by decide) (by decide) dX11_smelt_47 rfl (fun D_7 h => ?_)
    refine aw_iload (n := 52) (i := 5) dX11_smelt_50 rfl rfl ?_
    refine aw_if_ne (n := 55) (tgt := 65) dX11_smelt_52 rfl (by decide) (fun c => ?_) (fun c => ?_)
    · replace h := Ok.ift h c
      refine aw_aload_n (n := 66) (i := 0) dX11_smelt_65 rfl rfl rfl ?_
      refine aw_getR (n := 69) (j := 9) (r := 57) hG.1 fl_RX11_51 (sF_0 hS) rfl dX11_smelt_66 rfl ?_
      refine aw_iload_n (n := 70) (i := 1) dX11_smelt_69 rfl rfl rfl ?_
      refine aw_cVi (M := M_X11_smelt) (n := 73) (As := [.int v1]) (rest := []) hG.1 lk_RX11_217 rfl rfl (sF_57 hS) (c_X0_masked hG hS (h := Ok.bi h)) (by decide) (Nat.le_of_ble_eq_true rfl) (by decide) (by decide) dX11_smelt_70 rfl (fun y_8 D_9 h => ?_)
      refine aw_istore (n := 75) (i := 6) (al' := [some (.ref 0), some (.int v1), some (.int v2), some (.int v3), some (.int v4), some (.int v5), some (.int y_8)]) dX11_smelt_73 rfl rfl (by decide) rfl ?_
      refine aw_iload (n := 77) (i := 5) dX11_smelt_75 rfl rfl ?_
      refine aw_iconst (n := 78) (v := 1) dX11_smelt_77 rfl (by decide) ?_
      refine aw_icmp_ne (n := 81) (tgt := 86) dX11_smelt_78 rfl (by decide) (fun c => ?_) (fun c => ?_)
      · replace h := Ok.ift h c
        refine aw_aload_n (n := 87) (i := 0) dX11_smelt_86 rfl rfl rfl ?_
        refine aw_getR (n := 90) (j := 9) (r := 57) hG.1 fl_RX11_51 (sF_0 hS) rfl dX11_smelt_87 rfl ?_
        refine aw_iload (n := 92) (i := 6) dX11_smelt_90 rfl rfl ?_
        refine aw_cVi (M := M_X11_smelt) (n := 95) (As := [.int y_8]) (rest := []) hG.1 lk_RX11_220 rfl rfl (sF_57 hS) (c_X0_noticed hG hS (h := Ok.bi h)) (by decide) (Nat.le_of_ble_eq_true rfl) (by decide) (by decide) dX11_smelt_92 rfl (fun y_10 D_11 h => ?_)
        exact aw_iret rfl (by decide) (by decide) dX11_smelt_95 ⟨rfl, Or.inl ⟨_, rfl, (Ok.dn h :)⟩⟩
      · replace h := Ok.iffn h c
        refine aw_iload (n := 83) (i := 6) dX11_smelt_81 rfl rfl ?_
        refine aw_goto (tgt := 95) dX11_smelt_83 (by decide) ?_
        exact aw_iret rfl (by decide) (by decide) dX11_smelt_95 ⟨rfl, Or.inl ⟨_, rfl, (Ok.dn h :)⟩⟩
    · replace h := Ok.iffn h c
      refine aw_aload_n (n := 56) (i := 0) dX11_smelt_55 rfl rfl rfl ?_
      refine aw_getR (n := 59) (j := 9) (r := 57) hG.1 fl_RX11_51 (sF_0 hS) rfl dX11_smelt_56 rfl ?_
      refine aw_getR (n := 62) (j := 2) (r := 58) hG.1 fl_RX11_214 (sF_57 hS) rfl dX11_smelt_59 rfl ?_
      refine aw_iload_n (n := 63) (i := 1) dX11_smelt_62 rfl rfl rfl ?_
      obtain ⟨g_12, h⟩ := Ok.gd h
      refine aw_iaload (n := 64) hG.1 (sF_58 hS) (aIn_in g_12) dX11_smelt_63 rfl ?_
      exact aw_iret rfl (by decide) (by decide) dX11_smelt_64 ⟨rfl, Or.inl ⟨_, rfl, (Ok.dn h :)⟩⟩
  have hJ_27 : ∀ (v1 : Int32) (v2 : Int32) (v3 : Int32) (v4 : Int32) (v5 : Int32) (D : aD), Ok (J_X11_smelt_27 v1 v2 v3 v4 v5 D) (fun r => K r.1 r.2) → AW G (aRm 9 3 18) M_X11_smelt fr 0 0 27 [some (.ref 0), some (.int v1), some (.int v2), some (.int v3), some (.int v4), some (.int v5), none] [] shp D (aQxi shp K) := by
    intro v1 v2 v3 v4 v5 D h
    unfold J_X11_smelt_27 at h
    refine aw_iconst (n := 28) (v := 0) dX11_smelt_27 rfl (by decide) ?_
    exact aw_wid (by decide) (by decide) <| aw_le' (hJ_28 v1 v2 v3 v4 v5 0 D h) ⟨rfl, ⟨rfl, ⟨rfl, ⟨rfl, ⟨rfl, ⟨rfl, trivial⟩⟩⟩⟩⟩⟩
  refine aw_iload_n (n := 1) (i := 1) dX11_smelt_0 rfl rfl rfl ?_
  refine aw_aload_n (n := 2) (i := 0) dX11_smelt_1 rfl rfl rfl ?_
  refine aw_getR (n := 5) (j := 3) (r := 2) hG.1 fl_RX11_20 (sF_0 hS) rfl dX11_smelt_2 rfl ?_
  refine aw_getI (n := 8) (j := 2) hG.1 fl_RX11_140 (sF_2 hS) rfl dX11_smelt_5 rfl ?_
  refine aw_cSi (M := M_X11_smelt) (n := 11) (As := [.int v1, .int (gI D 2 2)]) (rest := []) lk_RX11_173 rfl rfl (c_X11_isBelow hG hS (h := Ok.bi h)) (by decide) (Nat.le_of_ble_eq_true rfl) (by decide) (by decide) dX11_smelt_8 rfl (fun y_1 D_2 h => ?_)
  refine aw_if_eq (n := 14) (tgt := 27) dX11_smelt_11 rfl (by decide) (fun c => ?_) (fun c => ?_)
  · replace h := Ok.ift h c
    exact aw_wid (by decide) (by decide) <| aw_le' (hJ_27 v1 v2 v3 v4 v5 D_2 h) ⟨rfl, ⟨rfl, ⟨rfl, ⟨rfl, ⟨rfl, ⟨rfl, trivial⟩⟩⟩⟩⟩⟩
  · replace h := Ok.iff h c
    refine aw_iload (n := 16) (i := 5) dX11_smelt_14 rfl rfl ?_
    refine aw_iconst (n := 17) (v := 3) dX11_smelt_16 rfl (by decide) ?_
    refine aw_cSi (M := M_X11_smelt) (n := 20) (As := [.int v5, .int 3]) (rest := []) lk_RX11_173 rfl rfl (c_X11_isBelow hG hS (h := Ok.bi h)) (by decide) (Nat.le_of_ble_eq_true rfl) (by decide) (by decide) dX11_smelt_17 rfl (fun y_13 D_14 h => ?_)
    refine aw_if_eq (n := 23) (tgt := 27) dX11_smelt_20 rfl (by decide) (fun c => ?_) (fun c => ?_)
    · replace h := Ok.ift h c
      exact aw_wid (by decide) (by decide) <| aw_le' (hJ_27 v1 v2 v3 v4 v5 D_14 h) ⟨rfl, ⟨rfl, ⟨rfl, ⟨rfl, ⟨rfl, ⟨rfl, trivial⟩⟩⟩⟩⟩⟩
    · replace h := Ok.iff h c
      refine aw_iconst (n := 24) (v := 1) dX11_smelt_23 rfl (by decide) ?_
      refine aw_goto (tgt := 28) dX11_smelt_24 (by decide) ?_
      exact aw_wid (by decide) (by decide) <| aw_le' (hJ_28 v1 v2 v3 v4 v5 1 D_14 h) ⟨rfl, ⟨rfl, ⟨rfl, ⟨rfl, ⟨rfl, ⟨rfl, trivial⟩⟩⟩⟩⟩⟩
