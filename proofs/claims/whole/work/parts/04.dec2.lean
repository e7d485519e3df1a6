theorem dX6_init_0 : decode cX6_init 0 = .ok (.aload_n 0, 1) := by decide +kernel
theorem dX6_init_1 : decode cX6_init 1 = .ok (.invokespecial 1, 3) := by decide +kernel
theorem dX6_init_4 : decode cX6_init 4 = .ok (.aload_n 0, 1) := by decide +kernel
theorem dX6_init_5 : decode cX6_init 5 = .ok (.new 7, 3) := by decide +kernel
theorem dX6_init_8 : decode cX6_init 8 = .ok (.dup, 1) := by decide +kernel
theorem dX6_init_9 : decode cX6_init 9 = .ok (.invokespecial 9, 3) := by decide +kernel
theorem dX6_init_12 : decode cX6_init 12 = .ok (.putfield 10, 3) := by decide +kernel
theorem dX6_init_15 : decode cX6_init 15 = .ok (.aload_n 0, 1) := by decide +kernel
theorem dX6_init_16 : decode cX6_init 16 = .ok (.new 7, 3) := by decide +kernel
theorem dX6_init_19 : decode cX6_init 19 = .ok (.dup, 1) := by decide +kernel
theorem dX6_init_20 : decode cX6_init 20 = .ok (.invokespecial 9, 3) := by decide +kernel
theorem dX6_init_23 : decode cX6_init 23 = .ok (.putfield 16, 3) := by decide +kernel
theorem dX6_init_26 : decode cX6_init 26 = .ok (.aload_n 0, 1) := by decide +kernel
theorem dX6_init_27 : decode cX6_init 27 = .ok (.new 7, 3) := by decide +kernel
theorem dX6_init_30 : decode cX6_init 30 = .ok (.dup, 1) := by decide +kernel
theorem dX6_init_31 : decode cX6_init 31 = .ok (.invokespecial 9, 3) := by decide +kernel
theorem dX6_init_34 : decode cX6_init 34 = .ok (.putfield 19, 3) := by decide +kernel
theorem dX6_init_37 : decode cX6_init 37 = .ok (.aload_n 0, 1) := by decide +kernel
theorem dX6_init_38 : decode cX6_init 38 = .ok (.iconst 0, 1) := by decide +kernel
theorem dX6_init_39 : decode cX6_init 39 = .ok (.putfield 22, 3) := by decide +kernel
theorem dX6_init_42 : decode cX6_init 42 = .ok (.aload_n 0, 1) := by decide +kernel
theorem dX6_init_43 : decode cX6_init 43 = .ok (.new 26, 3) := by decide +kernel
theorem dX6_init_46 : decode cX6_init 46 = .ok (.dup, 1) := by decide +kernel
theorem dX6_init_47 : decode cX6_init 47 = .ok (.invokespecial 28, 3) := by decide +kernel
theorem dX6_init_50 : decode cX6_init 50 = .ok (.putfield 29, 3) := by decide +kernel
theorem dX6_init_53 : decode cX6_init 53 = .ok (.aload_n 0, 1) := by decide +kernel
theorem dX6_init_54 : decode cX6_init 54 = .ok (.new 33, 3) := by decide +kernel
theorem dX6_init_57 : decode cX6_init 57 = .ok (.dup, 1) := by decide +kernel
theorem dX6_init_58 : decode cX6_init 58 = .ok (.aload_n 0, 1) := by decide +kernel
theorem dX6_init_59 : decode cX6_init 59 = .ok (.getfield 29, 3) := by decide +kernel
theorem dX6_init_62 : decode cX6_init 62 = .ok (.invokespecial 35, 3) := by decide +kernel
theorem dX6_init_65 : decode cX6_init 65 = .ok (.putfield 38, 3) := by decide +kernel
theorem dX6_init_68 : decode cX6_init 68 = .ok (.aload_n 0, 1) := by decide +kernel
theorem dX6_init_69 : decode cX6_init 69 = .ok (.iconst 4, 1) := by decide +kernel
theorem dX6_init_70 : decode cX6_init 70 = .ok (.anewarray 42, 3) := by decide +kernel
theorem dX6_init_73 : decode cX6_init 73 = .ok (.putfield 44, 3) := by decide +kernel
theorem dX6_init_76 : decode cX6_init 76 = .ok (.iconst 0, 1) := by decide +kernel
theorem dX6_init_77 : decode cX6_init 77 = .ok (.istore_n 1, 1) := by decide +kernel
theorem dX6_init_78 : decode cX6_init 78 = .ok (.iload_n 1, 1) := by decide +kernel
theorem dX6_init_79 : decode cX6_init 79 = .ok (.iconst 4, 1) := by decide +kernel
theorem dX6_init_80 : decode cX6_init 80 = .ok (.if_icmp .ge 22, 3) := by decide +kernel
theorem dX6_init_83 : decode cX6_init 83 = .ok (.aload_n 0, 1) := by decide +kernel
theorem dX6_init_84 : decode cX6_init 84 = .ok (.getfield 44, 3) := by decide +kernel
theorem dX6_init_87 : decode cX6_init 87 = .ok (.iload_n 1, 1) := by decide +kernel
theorem dX6_init_88 : decode cX6_init 88 = .ok (.new 42, 3) := by decide +kernel
theorem dX6_init_91 : decode cX6_init 91 = .ok (.dup, 1) := by decide +kernel
theorem dX6_init_92 : decode cX6_init 92 = .ok (.invokespecial 48, 3) := by decide +kernel
theorem dX6_init_95 : decode cX6_init 95 = .ok (.aastore, 1) := by decide +kernel
theorem dX6_init_96 : decode cX6_init 96 = .ok (.iinc 1 1, 3) := by decide +kernel
theorem dX6_init_99 : decode cX6_init 99 = .ok (.goto (-21), 3) := by decide +kernel
theorem dX6_init_102 : decode cX6_init 102 = .ok (.aload_n 0, 1) := by decide +kernel
theorem dX6_init_103 : decode cX6_init 103 = .ok (.bipush 7, 2) := by decide +kernel
theorem dX6_init_105 : decode cX6_init 105 = .ok (.newarray .int, 2) := by decide +kernel
theorem dX6_init_107 : decode cX6_init 107 = .ok (.putfield 49, 3) := by decide +kernel
theorem dX6_init_110 : decode cX6_init 110 = .ok (.return_, 1) := by decide +kernel
theorem dX6_wind_0 : decode cX6_wind 0 = .ok (.iload_n 1, 1) := by decide +kernel
theorem dX6_wind_1 : decode cX6_wind 1 = .ok (.ifCond .ne 32, 3) := by decide +kernel
theorem dX6_wind_4 : decode cX6_wind 4 = .ok (.iload_n 2, 1) := by decide +kernel
theorem dX6_wind_5 : decode cX6_wind 5 = .ok (.iconst 0, 1) := by decide +kernel
theorem dX6_wind_6 : decode cX6_wind 6 = .ok (.sipush 255, 3) := by decide +kernel
theorem dX6_wind_9 : decode cX6_wind 9 = .ok (.invokestatic 53, 3) := by decide +kernel
theorem dX6_wind_12 : decode cX6_wind 12 = .ok (.ifCond .eq 21, 3) := by decide +kernel
theorem dX6_wind_15 : decode cX6_wind 15 = .ok (.aload_n 0, 1) := by decide +kernel
theorem dX6_wind_16 : decode cX6_wind 16 = .ok (.getfield 10, 3) := by decide +kernel
theorem dX6_wind_19 : decode cX6_wind 19 = .ok (.getfield 57, 3) := by decide +kernel
theorem dX6_wind_22 : decode cX6_wind 22 = .ok (.istore_n 3, 1) := by decide +kernel
theorem dX6_wind_23 : decode cX6_wind 23 = .ok (.aload_n 0, 1) := by decide +kernel
theorem dX6_wind_24 : decode cX6_wind 24 = .ok (.getfield 10, 3) := by decide +kernel
theorem dX6_wind_27 : decode cX6_wind 27 = .ok (.iload_n 2, 1) := by decide +kernel
theorem dX6_wind_28 : decode cX6_wind 28 = .ok (.putfield 57, 3) := by decide +kernel
theorem dX6_wind_31 : decode cX6_wind 31 = .ok (.iload_n 3, 1) := by decide +kernel
theorem dX6_wind_32 : decode cX6_wind 32 = .ok (.ireturn, 1) := by decide +kernel
theorem dX6_wind_33 : decode cX6_wind 33 = .ok (.iload_n 1, 1) := by decide +kernel
theorem dX6_wind_34 : decode cX6_wind 34 = .ok (.iconst 1, 1) := by decide +kernel
theorem dX6_wind_35 : decode cX6_wind 35 = .ok (.if_icmp .ne 30, 3) := by decide +kernel
theorem dX6_wind_38 : decode cX6_wind 38 = .ok (.iload_n 2, 1) := by decide +kernel
theorem dX6_wind_39 : decode cX6_wind 39 = .ok (.iconst 0, 1) := by decide +kernel
theorem dX6_wind_40 : decode cX6_wind 40 = .ok (.iconst 1, 1) := by decide +kernel
theorem dX6_wind_41 : decode cX6_wind 41 = .ok (.invokestatic 53, 3) := by decide +kernel
theorem dX6_wind_44 : decode cX6_wind 44 = .ok (.ifCond .eq 21, 3) := by decide +kernel
theorem dX6_wind_47 : decode cX6_wind 47 = .ok (.aload_n 0, 1) := by decide +kernel
theorem dX6_wind_48 : decode cX6_wind 48 = .ok (.getfield 10, 3) := by decide +kernel
theorem dX6_wind_51 : decode cX6_wind 51 = .ok (.getfield 61, 3) := by decide +kernel
theorem dX6_wind_54 : decode cX6_wind 54 = .ok (.istore_n 3, 1) := by decide +kernel
theorem dX6_wind_55 : decode cX6_wind 55 = .ok (.aload_n 0, 1) := by decide +kernel
theorem dX6_wind_56 : decode cX6_wind 56 = .ok (.getfield 10, 3) := by decide +kernel
theorem dX6_wind_59 : decode cX6_wind 59 = .ok (.iload_n 2, 1) := by decide +kernel
theorem dX6_wind_60 : decode cX6_wind 60 = .ok (.putfield 61, 3) := by decide +kernel
theorem dX6_wind_63 : decode cX6_wind 63 = .ok (.iload_n 3, 1) := by decide +kernel
theorem dX6_wind_64 : decode cX6_wind 64 = .ok (.ireturn, 1) := by decide +kernel
theorem dX6_wind_65 : decode cX6_wind 65 = .ok (.aload_n 0, 1) := by decide +kernel
theorem dX6_wind_66 : decode cX6_wind 66 = .ok (.ldc 64, 2) := by decide +kernel
theorem dX6_wind_68 : decode cX6_wind 68 = .ok (.invokevirtual 65, 3) := by decide +kernel
theorem dX6_wind_71 : decode cX6_wind 71 = .ok (.ireturn, 1) := by decide +kernel
theorem dX6_cell_0 : decode cX6_cell 0 = .ok (.iload_n 1, 1) := by decide +kernel
theorem dX6_cell_1 : decode cX6_cell 1 = .ok (.invokestatic 69, 3) := by decide +kernel
theorem dX6_cell_4 : decode cX6_cell 4 = .ok (.ifCond .ne 10, 3) := by decide +kernel
theorem dX6_cell_7 : decode cX6_cell 7 = .ok (.aload_n 0, 1) := by decide +kernel
theorem dX6_cell_8 : decode cX6_cell 8 = .ok (.ldc 64, 2) := by decide +kernel
theorem dX6_cell_10 : decode cX6_cell 10 = .ok (.invokevirtual 65, 3) := by decide +kernel
theorem dX6_cell_13 : decode cX6_cell 13 = .ok (.ireturn, 1) := by decide +kernel
theorem dX6_cell_14 : decode cX6_cell 14 = .ok (.iload_n 2, 1) := by decide +kernel
theorem dX6_cell_15 : decode cX6_cell 15 = .ok (.tableswitch 65 0 3 #[29, 38, 47, 56], 29) := by decide +kernel
theorem dX6_cell_44 : decode cX6_cell 44 = .ok (.aload_n 0, 1) := by decide +kernel
theorem dX6_cell_45 : decode cX6_cell 45 = .ok (.getfield 10, 3) := by decide +kernel
theorem dX6_cell_48 : decode cX6_cell 48 = .ok (.iload_n 1, 1) := by decide +kernel
theorem dX6_cell_49 : decode cX6_cell 49 = .ok (.invokevirtual 73, 3) := by decide +kernel
theorem dX6_cell_52 : decode cX6_cell 52 = .ok (.ireturn, 1) := by decide +kernel
theorem dX6_cell_53 : decode cX6_cell 53 = .ok (.aload_n 0, 1) := by decide +kernel
theorem dX6_cell_54 : decode cX6_cell 54 = .ok (.getfield 10, 3) := by decide +kernel
theorem dX6_cell_57 : decode cX6_cell 57 = .ok (.iload_n 1, 1) := by decide +kernel
theorem dX6_cell_58 : decode cX6_cell 58 = .ok (.invokevirtual 76, 3) := by decide +kernel
theorem dX6_cell_61 : decode cX6_cell 61 = .ok (.ireturn, 1) := by decide +kernel
theorem dX6_cell_62 : decode cX6_cell 62 = .ok (.aload_n 0, 1) := by decide +kernel
theorem dX6_cell_63 : decode cX6_cell 63 = .ok (.getfield 10, 3) := by decide +kernel
theorem dX6_cell_66 : decode cX6_cell 66 = .ok (.iload_n 1, 1) := by decide +kernel
theorem dX6_cell_67 : decode cX6_cell 67 = .ok (.invokevirtual 79, 3) := by decide +kernel
theorem dX6_cell_70 : decode cX6_cell 70 = .ok (.ireturn, 1) := by decide +kernel
theorem dX6_cell_71 : decode cX6_cell 71 = .ok (.aload_n 0, 1) := by decide +kernel
theorem dX6_cell_72 : decode cX6_cell 72 = .ok (.getfield 10, 3) := by decide +kernel
theorem dX6_cell_75 : decode cX6_cell 75 = .ok (.iload_n 1, 1) := by decide +kernel
theorem dX6_cell_76 : decode cX6_cell 76 = .ok (.invokevirtual 82, 3) := by decide +kernel
theorem dX6_cell_79 : decode cX6_cell 79 = .ok (.ireturn, 1) := by decide +kernel
theorem dX6_cell_80 : decode cX6_cell 80 = .ok (.aload_n 0, 1) := by decide +kernel
theorem dX6_cell_81 : decode cX6_cell 81 = .ok (.ldc 64, 2) := by decide +kernel
theorem dX6_cell_83 : decode cX6_cell 83 = .ok (.invokevirtual 65, 3) := by decide +kernel
theorem dX6_cell_86 : decode cX6_cell 86 = .ok (.ireturn, 1) := by decide +kernel
theorem dX6_thing_0 : decode cX6_thing 0 = .ok (.iload_n 1, 1) := by decide +kernel
theorem dX6_thing_1 : decode cX6_thing 1 = .ok (.invokestatic 85, 3) := by decide +kernel
theorem dX6_thing_4 : decode cX6_thing 4 = .ok (.ifCond .eq 20, 3) := by decide +kernel
theorem dX6_thing_7 : decode cX6_thing 7 = .ok (.iload_n 2, 1) := by decide +kernel
theorem dX6_thing_8 : decode cX6_thing 8 = .ok (.invokestatic 88, 3) := by decide +kernel
theorem dX6_thing_11 : decode cX6_thing 11 = .ok (.ifCond .eq 13, 3) := by decide +kernel
theorem dX6_thing_14 : decode cX6_thing 14 = .ok (.iload_n 3, 1) := by decide +kernel
theorem dX6_thing_15 : decode cX6_thing 15 = .ok (.iconst 1, 1) := by decide +kernel
theorem dX6_thing_16 : decode cX6_thing 16 = .ok (.bipush 6, 2) := by decide +kernel
theorem dX6_thing_18 : decode cX6_thing 18 = .ok (.invokestatic 53, 3) := by decide +kernel
theorem dX6_thing_21 : decode cX6_thing 21 = .ok (.ifCond .ne 10, 3) := by decide +kernel
theorem dX6_thing_24 : decode cX6_thing 24 = .ok (.aload_n 0, 1) := by decide +kernel
theorem dX6_thing_25 : decode cX6_thing 25 = .ok (.ldc 64, 2) := by decide +kernel
theorem dX6_thing_27 : decode cX6_thing 27 = .ok (.invokevirtual 65, 3) := by decide +kernel
theorem dX6_thing_30 : decode cX6_thing 30 = .ok (.ireturn, 1) := by decide +kernel
theorem dX6_thing_31 : decode cX6_thing 31 = .ok (.aload_n 0, 1) := by decide +kernel
theorem dX6_thing_32 : decode cX6_thing 32 = .ok (.getfield 10, 3) := by decide +kernel
theorem dX6_thing_35 : decode cX6_thing 35 = .ok (.getfield 91, 3) := by decide +kernel
theorem dX6_thing_38 : decode cX6_thing 38 = .ok (.bipush 8, 2) := by decide +kernel
theorem dX6_thing_40 : decode cX6_thing 40 = .ok (.if_icmp .lt 10, 3) := by decide +kernel
theorem dX6_thing_43 : decode cX6_thing 43 = .ok (.aload_n 0, 1) := by decide +kernel
theorem dX6_thing_44 : decode cX6_thing 44 = .ok (.ldc 94, 2) := by decide +kernel
theorem dX6_thing_46 : decode cX6_thing 46 = .ok (.invokevirtual 65, 3) := by decide +kernel
theorem dX6_thing_49 : decode cX6_thing 49 = .ok (.ireturn, 1) := by decide +kernel
theorem dX6_thing_50 : decode cX6_thing 50 = .ok (.aload_n 0, 1) := by decide +kernel
theorem dX6_thing_51 : decode cX6_thing 51 = .ok (.getfield 10, 3) := by decide +kernel
theorem dX6_thing_54 : decode cX6_thing 54 = .ok (.iload_n 1, 1) := by decide +kernel
theorem dX6_thing_55 : decode cX6_thing 55 = .ok (.iload_n 2, 1) := by decide +kernel
theorem dX6_thing_56 : decode cX6_thing 56 = .ok (.iload_n 3, 1) := by decide +kernel
theorem dX6_thing_57 : decode cX6_thing 57 = .ok (.bipush 40, 2) := by decide +kernel
theorem dX6_thing_59 : decode cX6_thing 59 = .ok (.iconst 1, 1) := by decide +kernel
theorem dX6_thing_60 : decode cX6_thing 60 = .ok (.invokevirtual 95, 3) := by decide +kernel
theorem dX6_thing_63 : decode cX6_thing 63 = .ok (.aload_n 0, 1) := by decide +kernel
theorem dX6_thing_64 : decode cX6_thing 64 = .ok (.getfield 10, 3) := by decide +kernel
theorem dX6_thing_67 : decode cX6_thing 67 = .ok (.getfield 91, 3) := by decide +kernel
theorem dX6_thing_70 : decode cX6_thing 70 = .ok (.iconst 1, 1) := by decide +kernel
theorem dX6_thing_71 : decode cX6_thing 71 = .ok (.isub, 1) := by decide +kernel
theorem dX6_thing_72 : decode cX6_thing 72 = .ok (.ireturn, 1) := by decide +kernel
theorem dX6_of_0 : decode cX6_of 0 = .ok (.aload_n 0, 1) := by decide +kernel
theorem dX6_of_1 : decode cX6_of 1 = .ok (.iload_n 1, 1) := by decide +kernel
theorem dX6_of_2 : decode cX6_of 2 = .ok (.invokevirtual 99, 3) := by decide +kernel
theorem dX6_of_5 : decode cX6_of 5 = .ok (.ifCond .ne 10, 3) := by decide +kernel
theorem dX6_of_8 : decode cX6_of 8 = .ok (.aload_n 0, 1) := by decide +kernel
theorem dX6_of_9 : decode cX6_of 9 = .ok (.ldc 64, 2) := by decide +kernel
theorem dX6_of_11 : decode cX6_of 11 = .ok (.invokevirtual 65, 3) := by decide +kernel
theorem dX6_of_14 : decode cX6_of 14 = .ok (.ireturn, 1) := by decide +kernel
theorem dX6_of_15 : decode cX6_of 15 = .ok (.aload_n 0, 1) := by decide +kernel
theorem dX6_of_16 : decode cX6_of 16 = .ok (.getfield 10, 3) := by decide +kernel
theorem dX6_of_19 : decode cX6_of 19 = .ok (.getfield 102, 3) := by decide +kernel
theorem dX6_of_22 : decode cX6_of 22 = .ok (.iload_n 1, 1) := by decide +kernel
theorem dX6_of_23 : decode cX6_of 23 = .ok (.aaload, 1) := by decide +kernel
theorem dX6_of_24 : decode cX6_of 24 = .ok (.astore_n 3, 1) := by decide +kernel
theorem dX6_of_25 : decode cX6_of 25 = .ok (.iload_n 2, 1) := by decide +kernel
theorem dX6_of_26 : decode cX6_of 26 = .ok (.tableswitch 100 0 7 #[46, 51, 56, 61, 66, 71, 83, 88], 46) := by decide +kernel
theorem dX6_of_72 : decode cX6_of 72 = .ok (.aload_n 3, 1) := by decide +kernel
theorem dX6_of_73 : decode cX6_of 73 = .ok (.getfield 106, 3) := by decide +kernel
theorem dX6_of_76 : decode cX6_of 76 = .ok (.ireturn, 1) := by decide +kernel
theorem dX6_of_77 : decode cX6_of 77 = .ok (.aload_n 3, 1) := by decide +kernel
theorem dX6_of_78 : decode cX6_of 78 = .ok (.getfield 111, 3) := by decide +kernel
theorem dX6_of_81 : decode cX6_of 81 = .ok (.ireturn, 1) := by decide +kernel
theorem dX6_of_82 : decode cX6_of 82 = .ok (.aload_n 3, 1) := by decide +kernel
theorem dX6_of_83 : decode cX6_of 83 = .ok (.getfield 114, 3) := by decide +kernel
theorem dX6_of_86 : decode cX6_of 86 = .ok (.ireturn, 1) := by decide +kernel
theorem dX6_of_87 : decode cX6_of 87 = .ok (.aload_n 3, 1) := by decide +kernel
theorem dX6_of_88 : decode cX6_of 88 = .ok (.getfield 117, 3) := by decide +kernel
theorem dX6_of_91 : decode cX6_of 91 = .ok (.ireturn, 1) := by decide +kernel
theorem dX6_of_92 : decode cX6_of 92 = .ok (.aload_n 3, 1) := by decide +kernel
theorem dX6_of_93 : decode cX6_of 93 = .ok (.getfield 120, 3) := by decide +kernel
theorem dX6_of_96 : decode cX6_of 96 = .ok (.ireturn, 1) := by decide +kernel
theorem dX6_of_97 : decode cX6_of 97 = .ok (.aload_n 3, 1) := by decide +kernel
theorem dX6_of_98 : decode cX6_of 98 = .ok (.aload_n 0, 1) := by decide +kernel
theorem dX6_of_99 : decode cX6_of 99 = .ok (.getfield 10, 3) := by decide +kernel
theorem dX6_of_102 : decode cX6_of 102 = .ok (.getfield 123, 3) := by decide +kernel
theorem dX6_of_105 : decode cX6_of 105 = .ok (.invokevirtual 126, 3) := by decide +kernel
theorem dX6_of_108 : decode cX6_of 108 = .ok (.ireturn, 1) := by decide +kernel
theorem dX6_of_109 : decode cX6_of 109 = .ok (.aload_n 3, 1) := by decide +kernel
theorem dX6_of_110 : decode cX6_of 110 = .ok (.invokevirtual 129, 3) := by decide +kernel
theorem dX6_of_113 : decode cX6_of 113 = .ok (.ireturn, 1) := by decide +kernel
theorem dX6_of_114 : decode cX6_of 114 = .ok (.aload_n 3, 1) := by decide +kernel
theorem dX6_of_115 : decode cX6_of 115 = .ok (.aload_n 0, 1) := by decide +kernel
theorem dX6_of_116 : decode cX6_of 116 = .ok (.getfield 10, 3) := by decide +kernel
theorem dX6_of_119 : decode cX6_of 119 = .ok (.getfield 123, 3) := by decide +kernel
theorem dX6_of_122 : decode cX6_of 122 = .ok (.invokevirtual 133, 3) := by decide +kernel
theorem dX6_of_125 : decode cX6_of 125 = .ok (.ireturn, 1) := by decide +kernel
theorem dX6_of_126 : decode cX6_of 126 = .ok (.aload_n 0, 1) := by decide +kernel
theorem dX6_of_127 : decode cX6_of 127 = .ok (.ldc 64, 2) := by decide +kernel
theorem dX6_of_129 : decode cX6_of 129 = .ok (.invokevirtual 65, 3) := by decide +kernel
theorem dX6_of_132 : decode cX6_of 132 = .ok (.ireturn, 1) := by decide +kernel
theorem dX6_set_0 : decode cX6_set 0 = .ok (.aload_n 0, 1) := by decide +kernel
theorem dX6_set_1 : decode cX6_set 1 = .ok (.iload_n 1, 1) := by decide +kernel
theorem dX6_set_2 : decode cX6_set 2 = .ok (.invokevirtual 99, 3) := by decide +kernel
theorem dX6_set_5 : decode cX6_set 5 = .ok (.ifCond .ne 10, 3) := by decide +kernel
theorem dX6_set_8 : decode cX6_set 8 = .ok (.aload_n 0, 1) := by decide +kernel
theorem dX6_set_9 : decode cX6_set 9 = .ok (.ldc 64, 2) := by decide +kernel
theorem dX6_set_11 : decode cX6_set 11 = .ok (.invokevirtual 65, 3) := by decide +kernel
theorem dX6_set_14 : decode cX6_set 14 = .ok (.ireturn, 1) := by decide +kernel
theorem dX6_set_15 : decode cX6_set 15 = .ok (.aload_n 0, 1) := by decide +kernel
theorem dX6_set_16 : decode cX6_set 16 = .ok (.getfield 10, 3) := by decide +kernel
theorem dX6_set_19 : decode cX6_set 19 = .ok (.getfield 102, 3) := by decide +kernel
theorem dX6_set_22 : decode cX6_set 22 = .ok (.iload_n 1, 1) := by decide +kernel
theorem dX6_set_23 : decode cX6_set 23 = .ok (.aaload, 1) := by decide +kernel
theorem dX6_set_24 : decode cX6_set 24 = .ok (.astore 4, 2) := by decide +kernel
theorem dX6_set_26 : decode cX6_set 26 = .ok (.iload_n 2, 1) := by decide +kernel
theorem dX6_set_27 : decode cX6_set 27 = .ok (.iconst 1, 1) := by decide +kernel
theorem dX6_set_28 : decode cX6_set 28 = .ok (.if_icmp .ne 26, 3) := by decide +kernel
theorem dX6_set_31 : decode cX6_set 31 = .ok (.iload_n 3, 1) := by decide +kernel
theorem dX6_set_32 : decode cX6_set 32 = .ok (.invokestatic 88, 3) := by decide +kernel
theorem dX6_set_35 : decode cX6_set 35 = .ok (.ifCond .eq 19, 3) := by decide +kernel
theorem dX6_set_38 : decode cX6_set 38 = .ok (.aload 4, 2) := by decide +kernel
theorem dX6_set_40 : decode cX6_set 40 = .ok (.getfield 111, 3) := by decide +kernel
theorem dX6_set_43 : decode cX6_set 43 = .ok (.istore 5, 2) := by decide +kernel
theorem dX6_set_45 : decode cX6_set 45 = .ok (.aload 4, 2) := by decide +kernel
theorem dX6_set_47 : decode cX6_set 47 = .ok (.iload_n 3, 1) := by decide +kernel
theorem dX6_set_48 : decode cX6_set 48 = .ok (.putfield 111, 3) := by decide +kernel
theorem dX6_set_51 : decode cX6_set 51 = .ok (.goto 104, 3) := by decide +kernel
theorem dX6_set_54 : decode cX6_set 54 = .ok (.iload_n 2, 1) := by decide +kernel
theorem dX6_set_55 : decode cX6_set 55 = .ok (.iconst 2, 1) := by decide +kernel
theorem dX6_set_56 : decode cX6_set 56 = .ok (.if_icmp .ne 29, 3) := by decide +kernel
theorem dX6_set_59 : decode cX6_set 59 = .ok (.iload_n 3, 1) := by decide +kernel
theorem dX6_set_60 : decode cX6_set 60 = .ok (.iconst 1, 1) := by decide +kernel
theorem dX6_set_61 : decode cX6_set 61 = .ok (.bipush 6, 2) := by decide +kernel
theorem dX6_set_63 : decode cX6_set 63 = .ok (.invokestatic 53, 3) := by decide +kernel
theorem dX6_set_66 : decode cX6_set 66 = .ok (.ifCond .eq 19, 3) := by decide +kernel
theorem dX6_set_69 : decode cX6_set 69 = .ok (.aload 4, 2) := by decide +kernel
theorem dX6_set_71 : decode cX6_set 71 = .ok (.getfield 114, 3) := by decide +kernel
theorem dX6_set_74 : decode cX6_set 74 = .ok (.istore 5, 2) := by decide +kernel
theorem dX6_set_76 : decode cX6_set 76 = .ok (.aload 4, 2) := by decide +kernel
theorem dX6_set_78 : decode cX6_set 78 = .ok (.iload_n 3, 1) := by decide +kernel
theorem dX6_set_79 : decode cX6_set 79 = .ok (.putfield 114, 3) := by decide +kernel
theorem dX6_set_82 : decode cX6_set 82 = .ok (.goto 73, 3) := by decide +kernel
theorem dX6_set_85 : decode cX6_set 85 = .ok (.iload_n 2, 1) := by decide +kernel
theorem dX6_set_86 : decode cX6_set 86 = .ok (.iconst 3, 1) := by decide +kernel
theorem dX6_set_87 : decode cX6_set 87 = .ok (.if_icmp .ne 29, 3) := by decide +kernel
theorem dX6_set_90 : decode cX6_set 90 = .ok (.iload_n 3, 1) := by decide +kernel
theorem dX6_set_91 : decode cX6_set 91 = .ok (.iconst 0, 1) := by decide +kernel
theorem dX6_set_92 : decode cX6_set 92 = .ok (.bipush 99, 2) := by decide +kernel
theorem dX6_set_94 : decode cX6_set 94 = .ok (.invokestatic 53, 3) := by decide +kernel
theorem dX6_set_97 : decode cX6_set 97 = .ok (.ifCond .eq 19, 3) := by decide +kernel
theorem dX6_set_100 : decode cX6_set 100 = .ok (.aload 4, 2) := by decide +kernel
theorem dX6_set_102 : decode cX6_set 102 = .ok (.getfield 117, 3) := by decide +kernel
theorem dX6_set_105 : decode cX6_set 105 = .ok (.istore 5, 2) := by decide +kernel
theorem dX6_set_107 : decode cX6_set 107 = .ok (.aload 4, 2) := by decide +kernel
theorem dX6_set_109 : decode cX6_set 109 = .ok (.iload_n 3, 1) := by decide +kernel
theorem dX6_set_110 : decode cX6_set 110 = .ok (.putfield 117, 3) := by decide +kernel
theorem dX6_set_113 : decode cX6_set 113 = .ok (.goto 42, 3) := by decide +kernel
theorem dX6_set_116 : decode cX6_set 116 = .ok (.iload_n 2, 1) := by decide +kernel
theorem dX6_set_117 : decode cX6_set 117 = .ok (.iconst 4, 1) := by decide +kernel
theorem dX6_set_118 : decode cX6_set 118 = .ok (.if_icmp .ne 29, 3) := by decide +kernel
theorem dX6_set_121 : decode cX6_set 121 = .ok (.iload_n 3, 1) := by decide +kernel
theorem dX6_set_122 : decode cX6_set 122 = .ok (.iconst 0, 1) := by decide +kernel
theorem dX6_set_123 : decode cX6_set 123 = .ok (.bipush 9, 2) := by decide +kernel
theorem dX6_set_125 : decode cX6_set 125 = .ok (.invokestatic 53, 3) := by decide +kernel
theorem dX6_set_128 : decode cX6_set 128 = .ok (.ifCond .eq 19, 3) := by decide +kernel
theorem dX6_set_131 : decode cX6_set 131 = .ok (.aload 4, 2) := by decide +kernel
theorem dX6_set_133 : decode cX6_set 133 = .ok (.getfield 120, 3) := by decide +kernel
theorem dX6_set_136 : decode cX6_set 136 = .ok (.istore 5, 2) := by decide +kernel
theorem dX6_set_138 : decode cX6_set 138 = .ok (.aload 4, 2) := by decide +kernel
theorem dX6_set_140 : decode cX6_set 140 = .ok (.iload_n 3, 1) := by decide +kernel
theorem dX6_set_141 : decode cX6_set 141 = .ok (.putfield 120, 3) := by decide +kernel
theorem dX6_set_144 : decode cX6_set 144 = .ok (.goto 11, 3) := by decide +kernel
theorem dX6_set_147 : decode cX6_set 147 = .ok (.aload_n 0, 1) := by decide +kernel
theorem dX6_set_148 : decode cX6_set 148 = .ok (.ldc 64, 2) := by decide +kernel
theorem dX6_set_150 : decode cX6_set 150 = .ok (.invokevirtual 65, 3) := by decide +kernel
theorem dX6_set_153 : decode cX6_set 153 = .ok (.istore 5, 2) := by decide +kernel
theorem dX6_set_155 : decode cX6_set 155 = .ok (.iload 5, 2) := by decide +kernel
theorem dX6_set_157 : decode cX6_set 157 = .ok (.ireturn, 1) := by decide +kernel
theorem dX6_turn_0 : decode cX6_turn 0 = .ok (.aload_n 0, 1) := by decide +kernel
theorem dX6_turn_1 : decode cX6_turn 1 = .ok (.iload_n 1, 1) := by decide +kernel
theorem dX6_turn_2 : decode cX6_turn 2 = .ok (.invokevirtual 99, 3) := by decide +kernel
theorem dX6_turn_5 : decode cX6_turn 5 = .ok (.ifCond .eq 10, 3) := by decide +kernel
theorem dX6_turn_8 : decode cX6_turn 8 = .ok (.iload_n 2, 1) := by decide +kernel
theorem dX6_turn_9 : decode cX6_turn 9 = .ok (.invokestatic 85, 3) := by decide +kernel
theorem dX6_turn_12 : decode cX6_turn 12 = .ok (.ifCond .ne 10, 3) := by decide +kernel
theorem dX6_turn_15 : decode cX6_turn 15 = .ok (.aload_n 0, 1) := by decide +kernel
theorem dX6_turn_16 : decode cX6_turn 16 = .ok (.ldc 64, 2) := by decide +kernel
theorem dX6_turn_18 : decode cX6_turn 18 = .ok (.invokevirtual 65, 3) := by decide +kernel
theorem dX6_turn_21 : decode cX6_turn 21 = .ok (.ireturn, 1) := by decide +kernel
theorem dX6_turn_22 : decode cX6_turn 22 = .ok (.aload_n 0, 1) := by decide +kernel
theorem dX6_turn_23 : decode cX6_turn 23 = .ok (.getfield 10, 3) := by decide +kernel
theorem dX6_turn_26 : decode cX6_turn 26 = .ok (.getfield 102, 3) := by decide +kernel
theorem dX6_turn_29 : decode cX6_turn 29 = .ok (.iload_n 1, 1) := by decide +kernel
theorem dX6_turn_30 : decode cX6_turn 30 = .ok (.aaload, 1) := by decide +kernel
theorem dX6_turn_31 : decode cX6_turn 31 = .ok (.getfield 106, 3) := by decide +kernel
theorem dX6_turn_34 : decode cX6_turn 34 = .ok (.istore_n 3, 1) := by decide +kernel
theorem dX6_turn_35 : decode cX6_turn 35 = .ok (.aload_n 0, 1) := by decide +kernel
theorem dX6_turn_36 : decode cX6_turn 36 = .ok (.getfield 10, 3) := by decide +kernel
theorem dX6_turn_39 : decode cX6_turn 39 = .ok (.getfield 102, 3) := by decide +kernel
theorem dX6_turn_42 : decode cX6_turn 42 = .ok (.iload_n 1, 1) := by decide +kernel
theorem dX6_turn_43 : decode cX6_turn 43 = .ok (.aaload, 1) := by decide +kernel
theorem dX6_turn_44 : decode cX6_turn 44 = .ok (.iload_n 2, 1) := by decide +kernel
theorem dX6_turn_45 : decode cX6_turn 45 = .ok (.putfield 106, 3) := by decide +kernel
theorem dX6_turn_48 : decode cX6_turn 48 = .ok (.iload_n 3, 1) := by decide +kernel
theorem dX6_turn_49 : decode cX6_turn 49 = .ok (.ireturn, 1) := by decide +kernel
theorem dX6_as_0 : decode cX6_as 0 = .ok (.aload_n 0, 1) := by decide +kernel
theorem dX6_as_1 : decode cX6_as 1 = .ok (.iload_n 1, 1) := by decide +kernel
theorem dX6_as_2 : decode cX6_as 2 = .ok (.invokevirtual 99, 3) := by decide +kernel
theorem dX6_as_5 : decode cX6_as 5 = .ok (.ifCond .eq 10, 3) := by decide +kernel
theorem dX6_as_8 : decode cX6_as 8 = .ok (.iload_n 2, 1) := by decide +kernel
theorem dX6_as_9 : decode cX6_as 9 = .ok (.invokestatic 85, 3) := by decide +kernel
theorem dX6_as_12 : decode cX6_as 12 = .ok (.ifCond .ne 10, 3) := by decide +kernel
theorem dX6_as_15 : decode cX6_as 15 = .ok (.aload_n 0, 1) := by decide +kernel
theorem dX6_as_16 : decode cX6_as 16 = .ok (.ldc 64, 2) := by decide +kernel
theorem dX6_as_18 : decode cX6_as 18 = .ok (.invokevirtual 65, 3) := by decide +kernel
theorem dX6_as_21 : decode cX6_as 21 = .ok (.ireturn, 1) := by decide +kernel
theorem dX6_as_22 : decode cX6_as 22 = .ok (.aload_n 0, 1) := by decide +kernel
theorem dX6_as_23 : decode cX6_as 23 = .ok (.getfield 10, 3) := by decide +kernel
theorem dX6_as_26 : decode cX6_as 26 = .ok (.getfield 102, 3) := by decide +kernel
theorem dX6_as_29 : decode cX6_as 29 = .ok (.iload_n 1, 1) := by decide +kernel
theorem dX6_as_30 : decode cX6_as 30 = .ok (.aaload, 1) := by decide +kernel
theorem dX6_as_31 : decode cX6_as 31 = .ok (.iload_n 2, 1) := by decide +kernel
theorem dX6_as_32 : decode cX6_as 32 = .ok (.invokevirtual 136, 3) := by decide +kernel
theorem dX6_as_35 : decode cX6_as 35 = .ok (.ifCond .ne 10, 3) := by decide +kernel
theorem dX6_as_38 : decode cX6_as 38 = .ok (.aload_n 0, 1) := by decide +kernel
theorem dX6_as_39 : decode cX6_as 39 = .ok (.ldc 139, 2) := by decide +kernel
theorem dX6_as_41 : decode cX6_as 41 = .ok (.invokevirtual 65, 3) := by decide +kernel
theorem dX6_as_44 : decode cX6_as 44 = .ok (.ireturn, 1) := by decide +kernel
theorem dX6_as_45 : decode cX6_as 45 = .ok (.aload_n 0, 1) := by decide +kernel
theorem dX6_as_46 : decode cX6_as 46 = .ok (.getfield 10, 3) := by decide +kernel
theorem dX6_as_49 : decode cX6_as 49 = .ok (.getfield 102, 3) := by decide +kernel
theorem dX6_as_52 : decode cX6_as 52 = .ok (.iload_n 1, 1) := by decide +kernel
theorem dX6_as_53 : decode cX6_as 53 = .ok (.aaload, 1) := by decide +kernel
theorem dX6_as_54 : decode cX6_as 54 = .ok (.getfield 117, 3) := by decide +kernel
theorem dX6_as_57 : decode cX6_as 57 = .ok (.ireturn, 1) := by decide +kernel
theorem dX6_boat_0 : decode cX6_boat 0 = .ok (.iload_n 1, 1) := by decide +kernel
theorem dX6_boat_1 : decode cX6_boat 1 = .ok (.invokestatic 69, 3) := by decide +kernel
theorem dX6_boat_4 : decode cX6_boat 4 = .ok (.ifCond .ne 10, 3) := by decide +kernel
theorem dX6_boat_7 : decode cX6_boat 7 = .ok (.aload_n 0, 1) := by decide +kernel
theorem dX6_boat_8 : decode cX6_boat 8 = .ok (.ldc 64, 2) := by decide +kernel
theorem dX6_boat_10 : decode cX6_boat 10 = .ok (.invokevirtual 65, 3) := by decide +kernel
theorem dX6_boat_13 : decode cX6_boat 13 = .ok (.ireturn, 1) := by decide +kernel
theorem dX6_boat_14 : decode cX6_boat 14 = .ok (.aload_n 0, 1) := by decide +kernel
theorem dX6_boat_15 : decode cX6_boat 15 = .ok (.getfield 10, 3) := by decide +kernel
theorem dX6_boat_18 : decode cX6_boat 18 = .ok (.getfield 140, 3) := by decide +kernel
theorem dX6_boat_21 : decode cX6_boat 21 = .ok (.iconst 5, 1) := by decide +kernel
theorem dX6_boat_22 : decode cX6_boat 22 = .ok (.if_icmp .lt 10, 3) := by decide +kernel
theorem dX6_boat_25 : decode cX6_boat 25 = .ok (.aload_n 0, 1) := by decide +kernel
theorem dX6_boat_26 : decode cX6_boat 26 = .ok (.ldc 94, 2) := by decide +kernel
theorem dX6_boat_28 : decode cX6_boat 28 = .ok (.invokevirtual 65, 3) := by decide +kernel
theorem dX6_boat_31 : decode cX6_boat 31 = .ok (.ireturn, 1) := by decide +kernel
theorem dX6_boat_32 : decode cX6_boat 32 = .ok (.aload_n 0, 1) := by decide +kernel
theorem dX6_boat_33 : decode cX6_boat 33 = .ok (.getfield 10, 3) := by decide +kernel
theorem dX6_boat_36 : decode cX6_boat 36 = .ok (.iload_n 1, 1) := by decide +kernel
theorem dX6_boat_37 : decode cX6_boat 37 = .ok (.bipush 10, 2) := by decide +kernel
theorem dX6_boat_39 : decode cX6_boat 39 = .ok (.invokevirtual 143, 3) := by decide +kernel
theorem dX6_boat_42 : decode cX6_boat 42 = .ok (.aload_n 0, 1) := by decide +kernel
theorem dX6_boat_43 : decode cX6_boat 43 = .ok (.getfield 10, 3) := by decide +kernel
theorem dX6_boat_46 : decode cX6_boat 46 = .ok (.getfield 140, 3) := by decide +kernel
theorem dX6_boat_49 : decode cX6_boat 49 = .ok (.iconst 1, 1) := by decide +kernel
theorem dX6_boat_50 : decode cX6_boat 50 = .ok (.isub, 1) := by decide +kernel
theorem dX6_boat_51 : decode cX6_boat 51 = .ok (.ireturn, 1) := by decide +kernel
theorem dX6_told_0 : decode cX6_told 0 = .ok (.aload_n 0, 1) := by decide +kernel
theorem dX6_told_1 : decode cX6_told 1 = .ok (.iload_n 1, 1) := by decide +kernel
theorem dX6_told_2 : decode cX6_told 2 = .ok (.invokevirtual 147, 3) := by decide +kernel
theorem dX6_told_5 : decode cX6_told 5 = .ok (.ifCond .ne 10, 3) := by decide +kernel
theorem dX6_told_8 : decode cX6_told 8 = .ok (.aload_n 0, 1) := by decide +kernel
theorem dX6_told_9 : decode cX6_told 9 = .ok (.ldc 64, 2) := by decide +kernel
theorem dX6_told_11 : decode cX6_told 11 = .ok (.invokevirtual 65, 3) := by decide +kernel
theorem dX6_told_14 : decode cX6_told 14 = .ok (.ireturn, 1) := by decide +kernel
theorem dX6_told_15 : decode cX6_told 15 = .ok (.aload_n 0, 1) := by decide +kernel
theorem dX6_told_16 : decode cX6_told 16 = .ok (.getfield 10, 3) := by decide +kernel
theorem dX6_told_19 : decode cX6_told 19 = .ok (.getfield 150, 3) := by decide +kernel
theorem dX6_told_22 : decode cX6_told 22 = .ok (.iload_n 1, 1) := by decide +kernel
theorem dX6_told_23 : decode cX6_told 23 = .ok (.aaload, 1) := by decide +kernel
theorem dX6_told_24 : decode cX6_told 24 = .ok (.astore_n 3, 1) := by decide +kernel
theorem dX6_told_25 : decode cX6_told 25 = .ok (.iload_n 2, 1) := by decide +kernel
theorem dX6_told_26 : decode cX6_told 26 = .ok (.tableswitch 70 0 4 #[34, 39, 44, 49, 54], 34) := by decide +kernel
theorem dX6_told_60 : decode cX6_told 60 = .ok (.aload_n 3, 1) := by decide +kernel
theorem dX6_told_61 : decode cX6_told 61 = .ok (.getfield 154, 3) := by decide +kernel
theorem dX6_told_64 : decode cX6_told 64 = .ok (.ireturn, 1) := by decide +kernel
theorem dX6_told_65 : decode cX6_told 65 = .ok (.aload_n 3, 1) := by decide +kernel
theorem dX6_told_66 : decode cX6_told 66 = .ok (.getfield 159, 3) := by decide +kernel
theorem dX6_told_69 : decode cX6_told 69 = .ok (.ireturn, 1) := by decide +kernel
theorem dX6_told_70 : decode cX6_told 70 = .ok (.aload_n 3, 1) := by decide +kernel
theorem dX6_told_71 : decode cX6_told 71 = .ok (.getfield 162, 3) := by decide +kernel
theorem dX6_told_74 : decode cX6_told 74 = .ok (.ireturn, 1) := by decide +kernel
theorem dX6_told_75 : decode cX6_told 75 = .ok (.aload_n 3, 1) := by decide +kernel
theorem dX6_told_76 : decode cX6_told 76 = .ok (.getfield 165, 3) := by decide +kernel
theorem dX6_told_79 : decode cX6_told 79 = .ok (.ireturn, 1) := by decide +kernel
theorem dX6_told_80 : decode cX6_told 80 = .ok (.aload_n 3, 1) := by decide +kernel
theorem dX6_told_81 : decode cX6_told 81 = .ok (.aload_n 0, 1) := by decide +kernel
theorem dX6_told_82 : decode cX6_told 82 = .ok (.getfield 10, 3) := by decide +kernel
theorem dX6_told_85 : decode cX6_told 85 = .ok (.aload_n 3, 1) := by decide +kernel
theorem dX6_told_86 : decode cX6_told 86 = .ok (.getfield 154, 3) := by decide +kernel
theorem dX6_told_89 : decode cX6_told 89 = .ok (.invokevirtual 73, 3) := by decide +kernel
theorem dX6_told_92 : decode cX6_told 92 = .ok (.invokevirtual 168, 3) := by decide +kernel
theorem dX6_told_95 : decode cX6_told 95 = .ok (.ireturn, 1) := by decide +kernel
theorem dX6_told_96 : decode cX6_told 96 = .ok (.aload_n 0, 1) := by decide +kernel
theorem dX6_told_97 : decode cX6_told 97 = .ok (.ldc 64, 2) := by decide +kernel
theorem dX6_told_99 : decode cX6_told 99 = .ok (.invokevirtual 65, 3) := by decide +kernel
theorem dX6_told_102 : decode cX6_told 102 = .ok (.ireturn, 1) := by decide +kernel
theorem dX6_fit_0 : decode cX6_fit 0 = .ok (.aload_n 0, 1) := by decide +kernel
theorem dX6_fit_1 : decode cX6_fit 1 = .ok (.iload_n 1, 1) := by decide +kernel
theorem dX6_fit_2 : decode cX6_fit 2 = .ok (.invokevirtual 147, 3) := by decide +kernel
theorem dX6_fit_5 : decode cX6_fit 5 = .ok (.ifCond .ne 10, 3) := by decide +kernel
theorem dX6_fit_8 : decode cX6_fit 8 = .ok (.aload_n 0, 1) := by decide +kernel
theorem dX6_fit_9 : decode cX6_fit 9 = .ok (.ldc 64, 2) := by decide +kernel
theorem dX6_fit_11 : decode cX6_fit 11 = .ok (.invokevirtual 65, 3) := by decide +kernel
theorem dX6_fit_14 : decode cX6_fit 14 = .ok (.ireturn, 1) := by decide +kernel
theorem dX6_fit_15 : decode cX6_fit 15 = .ok (.aload_n 0, 1) := by decide +kernel
theorem dX6_fit_16 : decode cX6_fit 16 = .ok (.getfield 10, 3) := by decide +kernel
theorem dX6_fit_19 : decode cX6_fit 19 = .ok (.getfield 150, 3) := by decide +kernel
theorem dX6_fit_22 : decode cX6_fit 22 = .ok (.iload_n 1, 1) := by decide +kernel
theorem dX6_fit_23 : decode cX6_fit 23 = .ok (.aaload, 1) := by decide +kernel
theorem dX6_fit_24 : decode cX6_fit 24 = .ok (.astore 4, 2) := by decide +kernel
theorem dX6_fit_26 : decode cX6_fit 26 = .ok (.iload_n 2, 1) := by decide +kernel
theorem dX6_fit_27 : decode cX6_fit 27 = .ok (.ifCond .ne 26, 3) := by decide +kernel
theorem dX6_fit_30 : decode cX6_fit 30 = .ok (.iload_n 3, 1) := by decide +kernel
theorem dX6_fit_31 : decode cX6_fit 31 = .ok (.invokestatic 69, 3) := by decide +kernel
theorem dX6_fit_34 : decode cX6_fit 34 = .ok (.ifCond .eq 19, 3) := by decide +kernel
theorem dX6_fit_37 : decode cX6_fit 37 = .ok (.aload 4, 2) := by decide +kernel
theorem dX6_fit_39 : decode cX6_fit 39 = .ok (.getfield 154, 3) := by decide +kernel
theorem dX6_fit_42 : decode cX6_fit 42 = .ok (.istore 5, 2) := by decide +kernel
theorem dX6_fit_44 : decode cX6_fit 44 = .ok (.aload 4, 2) := by decide +kernel
theorem dX6_fit_46 : decode cX6_fit 46 = .ok (.iload_n 3, 1) := by decide +kernel
theorem dX6_fit_47 : decode cX6_fit 47 = .ok (.putfield 154, 3) := by decide +kernel
theorem dX6_fit_50 : decode cX6_fit 50 = .ok (.iload 5, 2) := by decide +kernel
theorem dX6_fit_52 : decode cX6_fit 52 = .ok (.ireturn, 1) := by decide +kernel
theorem dX6_fit_53 : decode cX6_fit 53 = .ok (.iload_n 2, 1) := by decide +kernel
theorem dX6_fit_54 : decode cX6_fit 54 = .ok (.iconst 1, 1) := by decide +kernel
theorem dX6_fit_55 : decode cX6_fit 55 = .ok (.if_icmp .ne 29, 3) := by decide +kernel
theorem dX6_fit_58 : decode cX6_fit 58 = .ok (.iload_n 3, 1) := by decide +kernel
theorem dX6_fit_59 : decode cX6_fit 59 = .ok (.iconst 0, 1) := by decide +kernel
theorem dX6_fit_60 : decode cX6_fit 60 = .ok (.bipush 99, 2) := by decide +kernel
theorem dX6_fit_62 : decode cX6_fit 62 = .ok (.invokestatic 53, 3) := by decide +kernel
theorem dX6_fit_65 : decode cX6_fit 65 = .ok (.ifCond .eq 19, 3) := by decide +kernel
theorem dX6_fit_68 : decode cX6_fit 68 = .ok (.aload 4, 2) := by decide +kernel
theorem dX6_fit_70 : decode cX6_fit 70 = .ok (.getfield 159, 3) := by decide +kernel
theorem dX6_fit_73 : decode cX6_fit 73 = .ok (.istore 5, 2) := by decide +kernel
theorem dX6_fit_75 : decode cX6_fit 75 = .ok (.aload 4, 2) := by decide +kernel
theorem dX6_fit_77 : decode cX6_fit 77 = .ok (.iload_n 3, 1) := by decide +kernel
theorem dX6_fit_78 : decode cX6_fit 78 = .ok (.putfield 159, 3) := by decide +kernel
theorem dX6_fit_81 : decode cX6_fit 81 = .ok (.iload 5, 2) := by decide +kernel
theorem dX6_fit_83 : decode cX6_fit 83 = .ok (.ireturn, 1) := by decide +kernel
theorem dX6_fit_84 : decode cX6_fit 84 = .ok (.aload_n 0, 1) := by decide +kernel
theorem dX6_fit_85 : decode cX6_fit 85 = .ok (.ldc 64, 2) := by decide +kernel
theorem dX6_fit_87 : decode cX6_fit 87 = .ok (.invokevirtual 65, 3) := by decide +kernel
theorem dX6_fit_90 : decode cX6_fit 90 = .ok (.ireturn, 1) := by decide +kernel
theorem dX6_hours_0 : decode cX6_hours 0 = .ok (.iload_n 1, 1) := by decide +kernel
theorem dX6_hours_1 : decode cX6_hours 1 = .ok (.iconst 1, 1) := by decide +kernel
theorem dX6_hours_2 : decode cX6_hours 2 = .ok (.bipush 60, 2) := by decide +kernel
theorem dX6_hours_4 : decode cX6_hours 4 = .ok (.invokestatic 53, 3) := by decide +kernel
theorem dX6_hours_7 : decode cX6_hours 7 = .ok (.ifCond .ne 10, 3) := by decide +kernel
theorem dX6_hours_10 : decode cX6_hours 10 = .ok (.aload_n 0, 1) := by decide +kernel
theorem dX6_hours_11 : decode cX6_hours 11 = .ok (.ldc 64, 2) := by decide +kernel
theorem dX6_hours_13 : decode cX6_hours 13 = .ok (.invokevirtual 65, 3) := by decide +kernel
theorem dX6_hours_16 : decode cX6_hours 16 = .ok (.ireturn, 1) := by decide +kernel
theorem dX6_hours_17 : decode cX6_hours 17 = .ok (.aload_n 0, 1) := by decide +kernel
theorem dX6_hours_18 : decode cX6_hours 18 = .ok (.getfield 10, 3) := by decide +kernel
theorem dX6_hours_21 : decode cX6_hours 21 = .ok (.getfield 123, 3) := by decide +kernel
theorem dX6_hours_24 : decode cX6_hours 24 = .ok (.iload_n 1, 1) := by decide +kernel
theorem dX6_hours_25 : decode cX6_hours 25 = .ok (.iadd, 1) := by decide +kernel
theorem dX6_hours_26 : decode cX6_hours 26 = .ok (.sipush 9999, 3) := by decide +kernel
theorem dX6_hours_29 : decode cX6_hours 29 = .ok (.if_icmp .le 10, 3) := by decide +kernel
theorem dX6_hours_32 : decode cX6_hours 32 = .ok (.aload_n 0, 1) := by decide +kernel
theorem dX6_hours_33 : decode cX6_hours 33 = .ok (.ldc 171, 2) := by decide +kernel
theorem dX6_hours_35 : decode cX6_hours 35 = .ok (.invokevirtual 65, 3) := by decide +kernel
theorem dX6_hours_38 : decode cX6_hours 38 = .ok (.ireturn, 1) := by decide +kernel
theorem dX6_hours_39 : decode cX6_hours 39 = .ok (.aload_n 0, 1) := by decide +kernel
theorem dX6_hours_40 : decode cX6_hours 40 = .ok (.getfield 10, 3) := by decide +kernel
theorem dX6_hours_43 : decode cX6_hours 43 = .ok (.iload_n 1, 1) := by decide +kernel
theorem dX6_hours_44 : decode cX6_hours 44 = .ok (.invokevirtual 172, 3) := by decide +kernel
theorem dX6_hours_47 : decode cX6_hours 47 = .ok (.aload_n 0, 1) := by decide +kernel
theorem dX6_hours_48 : decode cX6_hours 48 = .ok (.getfield 10, 3) := by decide +kernel
theorem dX6_hours_51 : decode cX6_hours 51 = .ok (.invokevirtual 176, 3) := by decide +kernel
theorem dX6_hours_54 : decode cX6_hours 54 = .ok (.ireturn, 1) := by decide +kernel
theorem dX6_now_0 : decode cX6_now 0 = .ok (.iload_n 1, 1) := by decide +kernel
theorem dX6_now_1 : decode cX6_now 1 = .ok (.tableswitch 102 0 6 #[43, 51, 62, 70, 78, 86, 94], 43) := by decide +kernel
theorem dX6_now_44 : decode cX6_now 44 = .ok (.aload_n 0, 1) := by decide +kernel
theorem dX6_now_45 : decode cX6_now 45 = .ok (.getfield 10, 3) := by decide +kernel
theorem dX6_now_48 : decode cX6_now 48 = .ok (.getfield 123, 3) := by decide +kernel
theorem dX6_now_51 : decode cX6_now 51 = .ok (.ireturn, 1) := by decide +kernel
theorem dX6_now_52 : decode cX6_now 52 = .ok (.aload_n 0, 1) := by decide +kernel
theorem dX6_now_53 : decode cX6_now 53 = .ok (.getfield 10, 3) := by decide +kernel
theorem dX6_now_56 : decode cX6_now 56 = .ok (.getfield 123, 3) := by decide +kernel
theorem dX6_now_59 : decode cX6_now 59 = .ok (.bipush 24, 2) := by decide +kernel
theorem dX6_now_61 : decode cX6_now 61 = .ok (.irem, 1) := by decide +kernel
theorem dX6_now_62 : decode cX6_now 62 = .ok (.ireturn, 1) := by decide +kernel
theorem dX6_now_63 : decode cX6_now 63 = .ok (.aload_n 0, 1) := by decide +kernel
theorem dX6_now_64 : decode cX6_now 64 = .ok (.getfield 10, 3) := by decide +kernel
theorem dX6_now_67 : decode cX6_now 67 = .ok (.getfield 57, 3) := by decide +kernel
theorem dX6_now_70 : decode cX6_now 70 = .ok (.ireturn, 1) := by decide +kernel
theorem dX6_now_71 : decode cX6_now 71 = .ok (.aload_n 0, 1) := by decide +kernel
theorem dX6_now_72 : decode cX6_now 72 = .ok (.getfield 10, 3) := by decide +kernel
theorem dX6_now_75 : decode cX6_now 75 = .ok (.getfield 61, 3) := by decide +kernel
theorem dX6_now_78 : decode cX6_now 78 = .ok (.ireturn, 1) := by decide +kernel
theorem dX6_now_79 : decode cX6_now 79 = .ok (.aload_n 0, 1) := by decide +kernel
theorem dX6_now_80 : decode cX6_now 80 = .ok (.getfield 10, 3) := by decide +kernel
theorem dX6_now_83 : decode cX6_now 83 = .ok (.invokevirtual 179, 3) := by decide +kernel
theorem dX6_now_86 : decode cX6_now 86 = .ok (.ireturn, 1) := by decide +kernel
theorem dX6_now_87 : decode cX6_now 87 = .ok (.aload_n 0, 1) := by decide +kernel
theorem dX6_now_88 : decode cX6_now 88 = .ok (.getfield 10, 3) := by decide +kernel
theorem dX6_now_91 : decode cX6_now 91 = .ok (.invokevirtual 182, 3) := by decide +kernel
theorem dX6_now_94 : decode cX6_now 94 = .ok (.ireturn, 1) := by decide +kernel
theorem dX6_now_95 : decode cX6_now 95 = .ok (.aload_n 0, 1) := by decide +kernel
theorem dX6_now_96 : decode cX6_now 96 = .ok (.getfield 10, 3) := by decide +kernel
theorem dX6_now_99 : decode cX6_now 99 = .ok (.invokevirtual 185, 3) := by decide +kernel
theorem dX6_now_102 : decode cX6_now 102 = .ok (.ireturn, 1) := by decide +kernel
theorem dX6_now_103 : decode cX6_now 103 = .ok (.aload_n 0, 1) := by decide +kernel
theorem dX6_now_104 : decode cX6_now 104 = .ok (.ldc 64, 2) := by decide +kernel
theorem dX6_now_106 : decode cX6_now 106 = .ok (.invokevirtual 65, 3) := by decide +kernel
theorem dX6_now_109 : decode cX6_now 109 = .ok (.ireturn, 1) := by decide +kernel
theorem dX6_on_0 : decode cX6_on 0 = .ok (.aload_n 0, 1) := by decide +kernel
theorem dX6_on_1 : decode cX6_on 1 = .ok (.iload_n 1, 1) := by decide +kernel
theorem dX6_on_2 : decode cX6_on 2 = .ok (.invokevirtual 147, 3) := by decide +kernel
theorem dX6_on_5 : decode cX6_on 5 = .ok (.ifCond .eq 22, 3) := by decide +kernel
theorem dX6_on_8 : decode cX6_on 8 = .ok (.iload_n 2, 1) := by decide +kernel
theorem dX6_on_9 : decode cX6_on 9 = .ok (.iconst 0, 1) := by decide +kernel
theorem dX6_on_10 : decode cX6_on 10 = .ok (.bipush 72, 2) := by decide +kernel
theorem dX6_on_12 : decode cX6_on 12 = .ok (.invokestatic 53, 3) := by decide +kernel
theorem dX6_on_15 : decode cX6_on 15 = .ok (.ifCond .eq 12, 3) := by decide +kernel
theorem dX6_on_18 : decode cX6_on 18 = .ok (.iload_n 3, 1) := by decide +kernel
theorem dX6_on_19 : decode cX6_on 19 = .ok (.iconst 0, 1) := by decide +kernel
theorem dX6_on_20 : decode cX6_on 20 = .ok (.iconst 1, 1) := by decide +kernel
theorem dX6_on_21 : decode cX6_on 21 = .ok (.invokestatic 53, 3) := by decide +kernel
theorem dX6_on_24 : decode cX6_on 24 = .ok (.ifCond .ne 10, 3) := by decide +kernel
theorem dX6_on_27 : decode cX6_on 27 = .ok (.aload_n 0, 1) := by decide +kernel
theorem dX6_on_28 : decode cX6_on 28 = .ok (.ldc 64, 2) := by decide +kernel
theorem dX6_on_30 : decode cX6_on 30 = .ok (.invokevirtual 65, 3) := by decide +kernel
theorem dX6_on_33 : decode cX6_on 33 = .ok (.ireturn, 1) := by decide +kernel
theorem dX6_on_34 : decode cX6_on 34 = .ok (.aload_n 0, 1) := by decide +kernel
theorem dX6_on_35 : decode cX6_on 35 = .ok (.getfield 16, 3) := by decide +kernel
theorem dX6_on_38 : decode cX6_on 38 = .ok (.aload_n 0, 1) := by decide +kernel
theorem dX6_on_39 : decode cX6_on 39 = .ok (.getfield 10, 3) := by decide +kernel
theorem dX6_on_42 : decode cX6_on 42 = .ok (.invokevirtual 188, 3) := by decide +kernel
theorem dX6_on_45 : decode cX6_on 45 = .ok (.aload_n 0, 1) := by decide +kernel
theorem dX6_on_46 : decode cX6_on 46 = .ok (.getfield 16, 3) := by decide +kernel
theorem dX6_on_49 : decode cX6_on 49 = .ok (.iload_n 2, 1) := by decide +kernel
theorem dX6_on_50 : decode cX6_on 50 = .ok (.invokevirtual 172, 3) := by decide +kernel
theorem dX6_on_53 : decode cX6_on 53 = .ok (.iload_n 3, 1) := by decide +kernel
theorem dX6_on_54 : decode cX6_on 54 = .ok (.ifCond .ne 18, 3) := by decide +kernel
theorem dX6_on_57 : decode cX6_on 57 = .ok (.aload_n 0, 1) := by decide +kernel
theorem dX6_on_58 : decode cX6_on 58 = .ok (.getfield 16, 3) := by decide +kernel
theorem dX6_on_61 : decode cX6_on 61 = .ok (.getfield 150, 3) := by decide +kernel
theorem dX6_on_64 : decode cX6_on 64 = .ok (.iload_n 1, 1) := by decide +kernel
theorem dX6_on_65 : decode cX6_on 65 = .ok (.aaload, 1) := by decide +kernel
theorem dX6_on_66 : decode cX6_on 66 = .ok (.getfield 162, 3) := by decide +kernel
theorem dX6_on_69 : decode cX6_on 69 = .ok (.goto 15, 3) := by decide +kernel
theorem dX6_on_72 : decode cX6_on 72 = .ok (.aload_n 0, 1) := by decide +kernel
theorem dX6_on_73 : decode cX6_on 73 = .ok (.getfield 16, 3) := by decide +kernel
theorem dX6_on_76 : decode cX6_on 76 = .ok (.getfield 150, 3) := by decide +kernel
theorem dX6_on_79 : decode cX6_on 79 = .ok (.iload_n 1, 1) := by decide +kernel
theorem dX6_on_80 : decode cX6_on 80 = .ok (.aaload, 1) := by decide +kernel
theorem dX6_on_81 : decode cX6_on 81 = .ok (.getfield 165, 3) := by decide +kernel
theorem dX6_on_84 : decode cX6_on 84 = .ok (.ireturn, 1) := by decide +kernel
theorem dX6_light_0 : decode cX6_light 0 = .ok (.aload_n 0, 1) := by decide +kernel
theorem dX6_light_1 : decode cX6_light 1 = .ok (.iload_n 1, 1) := by decide +kernel
theorem dX6_light_2 : decode cX6_light 2 = .ok (.invokevirtual 99, 3) := by decide +kernel
theorem dX6_light_5 : decode cX6_light 5 = .ok (.ifCond .eq 13, 3) := by decide +kernel
theorem dX6_light_8 : decode cX6_light 8 = .ok (.iload_n 2, 1) := by decide +kernel
theorem dX6_light_9 : decode cX6_light 9 = .ok (.iconst 0, 1) := by decide +kernel
theorem dX6_light_10 : decode cX6_light 10 = .ok (.bipush 72, 2) := by decide +kernel
theorem dX6_light_12 : decode cX6_light 12 = .ok (.invokestatic 53, 3) := by decide +kernel
theorem dX6_light_15 : decode cX6_light 15 = .ok (.ifCond .ne 10, 3) := by decide +kernel
theorem dX6_light_18 : decode cX6_light 18 = .ok (.aload_n 0, 1) := by decide +kernel
theorem dX6_light_19 : decode cX6_light 19 = .ok (.ldc 64, 2) := by decide +kernel
theorem dX6_light_21 : decode cX6_light 21 = .ok (.invokevirtual 65, 3) := by decide +kernel
theorem dX6_light_24 : decode cX6_light 24 = .ok (.ireturn, 1) := by decide +kernel
theorem dX6_light_25 : decode cX6_light 25 = .ok (.aload_n 0, 1) := by decide +kernel
theorem dX6_light_26 : decode cX6_light 26 = .ok (.getfield 16, 3) := by decide +kernel
theorem dX6_light_29 : decode cX6_light 29 = .ok (.aload_n 0, 1) := by decide +kernel
theorem dX6_light_30 : decode cX6_light 30 = .ok (.getfield 10, 3) := by decide +kernel
theorem dX6_light_33 : decode cX6_light 33 = .ok (.invokevirtual 188, 3) := by decide +kernel
theorem dX6_light_36 : decode cX6_light 36 = .ok (.aload_n 0, 1) := by decide +kernel
theorem dX6_light_37 : decode cX6_light 37 = .ok (.getfield 16, 3) := by decide +kernel
theorem dX6_light_40 : decode cX6_light 40 = .ok (.iload_n 2, 1) := by decide +kernel
theorem dX6_light_41 : decode cX6_light 41 = .ok (.invokevirtual 172, 3) := by decide +kernel
theorem dX6_light_44 : decode cX6_light 44 = .ok (.aload_n 0, 1) := by decide +kernel
theorem dX6_light_45 : decode cX6_light 45 = .ok (.getfield 16, 3) := by decide +kernel
theorem dX6_light_48 : decode cX6_light 48 = .ok (.getfield 102, 3) := by decide +kernel
theorem dX6_light_51 : decode cX6_light 51 = .ok (.iload_n 1, 1) := by decide +kernel
theorem dX6_light_52 : decode cX6_light 52 = .ok (.aaload, 1) := by decide +kernel
theorem dX6_light_53 : decode cX6_light 53 = .ok (.getfield 117, 3) := by decide +kernel
theorem dX6_light_56 : decode cX6_light 56 = .ok (.ireturn, 1) := by decide +kernel
theorem dX6_full_0 : decode cX6_full 0 = .ok (.aload_n 0, 1) := by decide +kernel
theorem dX6_full_1 : decode cX6_full 1 = .ok (.iload_n 1, 1) := by decide +kernel
theorem dX6_full_2 : decode cX6_full 2 = .ok (.invokevirtual 147, 3) := by decide +kernel
theorem dX6_full_5 : decode cX6_full 5 = .ok (.ifCond .eq 14, 3) := by decide +kernel
theorem dX6_full_8 : decode cX6_full 8 = .ok (.iload_n 2, 1) := by decide +kernel
theorem dX6_full_9 : decode cX6_full 9 = .ok (.iconst 1, 1) := by decide +kernel
theorem dX6_full_10 : decode cX6_full 10 = .ok (.sipush 999, 3) := by decide +kernel
theorem dX6_full_13 : decode cX6_full 13 = .ok (.invokestatic 53, 3) := by decide +kernel
theorem dX6_full_16 : decode cX6_full 16 = .ok (.ifCond .ne 10, 3) := by decide +kernel
theorem dX6_full_19 : decode cX6_full 19 = .ok (.aload_n 0, 1) := by decide +kernel
theorem dX6_full_20 : decode cX6_full 20 = .ok (.ldc 64, 2) := by decide +kernel
theorem dX6_full_22 : decode cX6_full 22 = .ok (.invokevirtual 65, 3) := by decide +kernel
theorem dX6_full_25 : decode cX6_full 25 = .ok (.ireturn, 1) := by decide +kernel
theorem dX6_full_26 : decode cX6_full 26 = .ok (.aload_n 0, 1) := by decide +kernel
theorem dX6_full_27 : decode cX6_full 27 = .ok (.getfield 16, 3) := by decide +kernel
theorem dX6_full_30 : decode cX6_full 30 = .ok (.aload_n 0, 1) := by decide +kernel
theorem dX6_full_31 : decode cX6_full 31 = .ok (.getfield 10, 3) := by decide +kernel
theorem dX6_full_34 : decode cX6_full 34 = .ok (.invokevirtual 188, 3) := by decide +kernel
theorem dX6_full_37 : decode cX6_full 37 = .ok (.iconst 0, 1) := by decide +kernel
theorem dX6_full_38 : decode cX6_full 38 = .ok (.istore_n 3, 1) := by decide +kernel
theorem dX6_full_39 : decode cX6_full 39 = .ok (.iload_n 3, 1) := by decide +kernel
theorem dX6_full_40 : decode cX6_full 40 = .ok (.bipush 72, 2) := by decide +kernel
theorem dX6_full_42 : decode cX6_full 42 = .ok (.if_icmp .gt 34, 3) := by decide +kernel
theorem dX6_full_45 : decode cX6_full 45 = .ok (.aload_n 0, 1) := by decide +kernel
theorem dX6_full_46 : decode cX6_full 46 = .ok (.getfield 16, 3) := by decide +kernel
theorem dX6_full_49 : decode cX6_full 49 = .ok (.getfield 150, 3) := by decide +kernel
theorem dX6_full_52 : decode cX6_full 52 = .ok (.iload_n 1, 1) := by decide +kernel
theorem dX6_full_53 : decode cX6_full 53 = .ok (.aaload, 1) := by decide +kernel
theorem dX6_full_54 : decode cX6_full 54 = .ok (.getfield 162, 3) := by decide +kernel
theorem dX6_full_57 : decode cX6_full 57 = .ok (.iload_n 2, 1) := by decide +kernel
theorem dX6_full_58 : decode cX6_full 58 = .ok (.if_icmp .lt 5, 3) := by decide +kernel
theorem dX6_full_61 : decode cX6_full 61 = .ok (.iload_n 3, 1) := by decide +kernel
theorem dX6_full_62 : decode cX6_full 62 = .ok (.ireturn, 1) := by decide +kernel
theorem dX6_full_63 : decode cX6_full 63 = .ok (.aload_n 0, 1) := by decide +kernel
theorem dX6_full_64 : decode cX6_full 64 = .ok (.getfield 16, 3) := by decide +kernel
theorem dX6_full_67 : decode cX6_full 67 = .ok (.invokevirtual 192, 3) := by decide +kernel
theorem dX6_full_70 : decode cX6_full 70 = .ok (.iinc 3 1, 3) := by decide +kernel
theorem dX6_full_73 : decode cX6_full 73 = .ok (.goto (-34), 3) := by decide +kernel
theorem dX6_full_76 : decode cX6_full 76 = .ok (.aload_n 0, 1) := by decide +kernel
theorem dX6_full_77 : decode cX6_full 77 = .ok (.ldc 195, 2) := by decide +kernel
theorem dX6_full_79 : decode cX6_full 79 = .ok (.invokevirtual 65, 3) := by decide +kernel
theorem dX6_full_82 : decode cX6_full 82 = .ok (.ireturn, 1) := by decide +kernel
theorem dX6_dark_0 : decode cX6_dark 0 = .ok (.aload_n 0, 1) := by decide +kernel
theorem dX6_dark_1 : decode cX6_dark 1 = .ok (.iload_n 1, 1) := by decide +kernel
theorem dX6_dark_2 : decode cX6_dark 2 = .ok (.invokevirtual 99, 3) := by decide +kernel
theorem dX6_dark_5 : decode cX6_dark 5 = .ok (.ifCond .ne 10, 3) := by decide +kernel
theorem dX6_dark_8 : decode cX6_dark 8 = .ok (.aload_n 0, 1) := by decide +kernel
theorem dX6_dark_9 : decode cX6_dark 9 = .ok (.ldc 64, 2) := by decide +kernel
theorem dX6_dark_11 : decode cX6_dark 11 = .ok (.invokevirtual 65, 3) := by decide +kernel
theorem dX6_dark_14 : decode cX6_dark 14 = .ok (.ireturn, 1) := by decide +kernel
theorem dX6_dark_15 : decode cX6_dark 15 = .ok (.aload_n 0, 1) := by decide +kernel
theorem dX6_dark_16 : decode cX6_dark 16 = .ok (.getfield 16, 3) := by decide +kernel
theorem dX6_dark_19 : decode cX6_dark 19 = .ok (.aload_n 0, 1) := by decide +kernel
theorem dX6_dark_20 : decode cX6_dark 20 = .ok (.getfield 10, 3) := by decide +kernel
theorem dX6_dark_23 : decode cX6_dark 23 = .ok (.invokevirtual 188, 3) := by decide +kernel
theorem dX6_dark_26 : decode cX6_dark 26 = .ok (.iconst 0, 1) := by decide +kernel
theorem dX6_dark_27 : decode cX6_dark 27 = .ok (.istore_n 2, 1) := by decide +kernel
theorem dX6_dark_28 : decode cX6_dark 28 = .ok (.iload_n 2, 1) := by decide +kernel
theorem dX6_dark_29 : decode cX6_dark 29 = .ok (.bipush 72, 2) := by decide +kernel
theorem dX6_dark_31 : decode cX6_dark 31 = .ok (.if_icmp .gt 33, 3) := by decide +kernel
theorem dX6_dark_34 : decode cX6_dark 34 = .ok (.aload_n 0, 1) := by decide +kernel
theorem dX6_dark_35 : decode cX6_dark 35 = .ok (.getfield 16, 3) := by decide +kernel
theorem dX6_dark_38 : decode cX6_dark 38 = .ok (.getfield 102, 3) := by decide +kernel
theorem dX6_dark_41 : decode cX6_dark 41 = .ok (.iload_n 1, 1) := by decide +kernel
theorem dX6_dark_42 : decode cX6_dark 42 = .ok (.aaload, 1) := by decide +kernel
theorem dX6_dark_43 : decode cX6_dark 43 = .ok (.getfield 117, 3) := by decide +kernel
theorem dX6_dark_46 : decode cX6_dark 46 = .ok (.ifCond .ne 5, 3) := by decide +kernel
theorem dX6_dark_49 : decode cX6_dark 49 = .ok (.iload_n 2, 1) := by decide +kernel
theorem dX6_dark_50 : decode cX6_dark 50 = .ok (.ireturn, 1) := by decide +kernel
theorem dX6_dark_51 : decode cX6_dark 51 = .ok (.aload_n 0, 1) := by decide +kernel
theorem dX6_dark_52 : decode cX6_dark 52 = .ok (.getfield 16, 3) := by decide +kernel
theorem dX6_dark_55 : decode cX6_dark 55 = .ok (.invokevirtual 192, 3) := by decide +kernel
theorem dX6_dark_58 : decode cX6_dark 58 = .ok (.iinc 2 1, 3) := by decide +kernel
theorem dX6_dark_61 : decode cX6_dark 61 = .ok (.goto (-33), 3) := by decide +kernel
theorem dX6_dark_64 : decode cX6_dark 64 = .ok (.aload_n 0, 1) := by decide +kernel
theorem dX6_dark_65 : decode cX6_dark 65 = .ok (.ldc 195, 2) := by decide +kernel
theorem dX6_dark_67 : decode cX6_dark 67 = .ok (.invokevirtual 65, 3) := by decide +kernel
theorem dX6_dark_70 : decode cX6_dark 70 = .ok (.ireturn, 1) := by decide +kernel
theorem dX6_brightest_0 : decode cX6_brightest 0 = .ok (.iconst (-1), 1) := by decide +kernel
theorem dX6_brightest_1 : decode cX6_brightest 1 = .ok (.istore_n 1, 1) := by decide +kernel
theorem dX6_brightest_2 : decode cX6_brightest 2 = .ok (.iconst 0, 1) := by decide +kernel
theorem dX6_brightest_3 : decode cX6_brightest 3 = .ok (.istore_n 2, 1) := by decide +kernel
theorem dX6_brightest_4 : decode cX6_brightest 4 = .ok (.iconst 0, 1) := by decide +kernel
theorem dX6_brightest_5 : decode cX6_brightest 5 = .ok (.istore_n 3, 1) := by decide +kernel
theorem dX6_brightest_6 : decode cX6_brightest 6 = .ok (.iload_n 3, 1) := by decide +kernel
theorem dX6_brightest_7 : decode cX6_brightest 7 = .ok (.bipush 48, 2) := by decide +kernel
theorem dX6_brightest_9 : decode cX6_brightest 9 = .ok (.if_icmp .ge 30, 3) := by decide +kernel
theorem dX6_brightest_12 : decode cX6_brightest 12 = .ok (.aload_n 0, 1) := by decide +kernel
theorem dX6_brightest_13 : decode cX6_brightest 13 = .ok (.getfield 10, 3) := by decide +kernel
theorem dX6_brightest_16 : decode cX6_brightest 16 = .ok (.iload_n 3, 1) := by decide +kernel
theorem dX6_brightest_17 : decode cX6_brightest 17 = .ok (.invokevirtual 73, 3) := by decide +kernel
theorem dX6_brightest_20 : decode cX6_brightest 20 = .ok (.istore 4, 2) := by decide +kernel
theorem dX6_brightest_22 : decode cX6_brightest 22 = .ok (.iload 4, 2) := by decide +kernel
theorem dX6_brightest_24 : decode cX6_brightest 24 = .ok (.iload_n 2, 1) := by decide +kernel
theorem dX6_brightest_25 : decode cX6_brightest 25 = .ok (.if_icmp .le 8, 3) := by decide +kernel
theorem dX6_brightest_28 : decode cX6_brightest 28 = .ok (.iload 4, 2) := by decide +kernel
theorem dX6_brightest_30 : decode cX6_brightest 30 = .ok (.istore_n 2, 1) := by decide +kernel
theorem dX6_brightest_31 : decode cX6_brightest 31 = .ok (.iload_n 3, 1) := by decide +kernel
theorem dX6_brightest_32 : decode cX6_brightest 32 = .ok (.istore_n 1, 1) := by decide +kernel
theorem dX6_brightest_33 : decode cX6_brightest 33 = .ok (.iinc 3 1, 3) := by decide +kernel
theorem dX6_brightest_36 : decode cX6_brightest 36 = .ok (.goto (-30), 3) := by decide +kernel
theorem dX6_brightest_39 : decode cX6_brightest 39 = .ok (.iload_n 1, 1) := by decide +kernel
theorem dX6_brightest_40 : decode cX6_brightest 40 = .ok (.ifCond .ge 12, 3) := by decide +kernel
theorem dX6_brightest_43 : decode cX6_brightest 43 = .ok (.aload_n 0, 1) := by decide +kernel
theorem dX6_brightest_44 : decode cX6_brightest 44 = .ok (.ldc 195, 2) := by decide +kernel
theorem dX6_brightest_46 : decode cX6_brightest 46 = .ok (.invokevirtual 65, 3) := by decide +kernel
theorem dX6_brightest_49 : decode cX6_brightest 49 = .ok (.goto 4, 3) := by decide +kernel
theorem dX6_brightest_52 : decode cX6_brightest 52 = .ok (.iload_n 1, 1) := by decide +kernel
theorem dX6_brightest_53 : decode cX6_brightest 53 = .ok (.ireturn, 1) := by decide +kernel
theorem dX6_spot_0 : decode cX6_spot 0 = .ok (.aload_n 0, 1) := by decide +kernel
theorem dX6_spot_1 : decode cX6_spot 1 = .ok (.iload_n 1, 1) := by decide +kernel
theorem dX6_spot_2 : decode cX6_spot 2 = .ok (.invokevirtual 147, 3) := by decide +kernel
theorem dX6_spot_5 : decode cX6_spot 5 = .ok (.ifCond .eq 13, 3) := by decide +kernel
theorem dX6_spot_8 : decode cX6_spot 8 = .ok (.iload_n 2, 1) := by decide +kernel
theorem dX6_spot_9 : decode cX6_spot 9 = .ok (.iconst 1, 1) := by decide +kernel
theorem dX6_spot_10 : decode cX6_spot 10 = .ok (.bipush 24, 2) := by decide +kernel
theorem dX6_spot_12 : decode cX6_spot 12 = .ok (.invokestatic 53, 3) := by decide +kernel
theorem dX6_spot_15 : decode cX6_spot 15 = .ok (.ifCond .ne 10, 3) := by decide +kernel
theorem dX6_spot_18 : decode cX6_spot 18 = .ok (.aload_n 0, 1) := by decide +kernel
theorem dX6_spot_19 : decode cX6_spot 19 = .ok (.ldc 64, 2) := by decide +kernel
theorem dX6_spot_21 : decode cX6_spot 21 = .ok (.invokevirtual 65, 3) := by decide +kernel
theorem dX6_spot_24 : decode cX6_spot 24 = .ok (.ireturn, 1) := by decide +kernel
theorem dX6_spot_25 : decode cX6_spot 25 = .ok (.iconst 0, 1) := by decide +kernel
theorem dX6_spot_26 : decode cX6_spot 26 = .ok (.istore_n 3, 1) := by decide +kernel
theorem dX6_spot_27 : decode cX6_spot 27 = .ok (.ldc 198, 2) := by decide +kernel
theorem dX6_spot_29 : decode cX6_spot 29 = .ok (.istore 4, 2) := by decide +kernel
theorem dX6_spot_31 : decode cX6_spot 31 = .ok (.iconst 0, 1) := by decide +kernel
theorem dX6_spot_32 : decode cX6_spot 32 = .ok (.istore 5, 2) := by decide +kernel
theorem dX6_spot_34 : decode cX6_spot 34 = .ok (.iload 5, 2) := by decide +kernel
theorem dX6_spot_36 : decode cX6_spot 36 = .ok (.bipush 48, 2) := by decide +kernel
theorem dX6_spot_38 : decode cX6_spot 38 = .ok (.if_icmp .ge 70, 3) := by decide +kernel
theorem dX6_spot_41 : decode cX6_spot 41 = .ok (.aload_n 0, 1) := by decide +kernel
theorem dX6_spot_42 : decode cX6_spot 42 = .ok (.getfield 16, 3) := by decide +kernel
theorem dX6_spot_45 : decode cX6_spot 45 = .ok (.aload_n 0, 1) := by decide +kernel
theorem dX6_spot_46 : decode cX6_spot 46 = .ok (.getfield 10, 3) := by decide +kernel
theorem dX6_spot_49 : decode cX6_spot 49 = .ok (.invokevirtual 188, 3) := by decide +kernel
theorem dX6_spot_52 : decode cX6_spot 52 = .ok (.aload_n 0, 1) := by decide +kernel
theorem dX6_spot_53 : decode cX6_spot 53 = .ok (.getfield 16, 3) := by decide +kernel
theorem dX6_spot_56 : decode cX6_spot 56 = .ok (.getfield 150, 3) := by decide +kernel
theorem dX6_spot_59 : decode cX6_spot 59 = .ok (.iload_n 1, 1) := by decide +kernel
theorem dX6_spot_60 : decode cX6_spot 60 = .ok (.aaload, 1) := by decide +kernel
theorem dX6_spot_61 : decode cX6_spot 61 = .ok (.iload 5, 2) := by decide +kernel
theorem dX6_spot_63 : decode cX6_spot 63 = .ok (.putfield 154, 3) := by decide +kernel
theorem dX6_spot_66 : decode cX6_spot 66 = .ok (.aload_n 0, 1) := by decide +kernel
theorem dX6_spot_67 : decode cX6_spot 67 = .ok (.getfield 16, 3) := by decide +kernel
theorem dX6_spot_70 : decode cX6_spot 70 = .ok (.iload_n 2, 1) := by decide +kernel
theorem dX6_spot_71 : decode cX6_spot 71 = .ok (.invokevirtual 172, 3) := by decide +kernel
theorem dX6_spot_74 : decode cX6_spot 74 = .ok (.aload_n 0, 1) := by decide +kernel
theorem dX6_spot_75 : decode cX6_spot 75 = .ok (.getfield 16, 3) := by decide +kernel
theorem dX6_spot_78 : decode cX6_spot 78 = .ok (.getfield 150, 3) := by decide +kernel
theorem dX6_spot_81 : decode cX6_spot 81 = .ok (.iload_n 1, 1) := by decide +kernel
theorem dX6_spot_82 : decode cX6_spot 82 = .ok (.aaload, 1) := by decide +kernel
theorem dX6_spot_83 : decode cX6_spot 83 = .ok (.invokevirtual 199, 3) := by decide +kernel
theorem dX6_spot_86 : decode cX6_spot 86 = .ok (.istore 6, 2) := by decide +kernel
theorem dX6_spot_88 : decode cX6_spot 88 = .ok (.iload 6, 2) := by decide +kernel
theorem dX6_spot_90 : decode cX6_spot 90 = .ok (.iload 4, 2) := by decide +kernel
theorem dX6_spot_92 : decode cX6_spot 92 = .ok (.if_icmp .le 10, 3) := by decide +kernel
theorem dX6_spot_95 : decode cX6_spot 95 = .ok (.iload 6, 2) := by decide +kernel
theorem dX6_spot_97 : decode cX6_spot 97 = .ok (.istore 4, 2) := by decide +kernel
theorem dX6_spot_99 : decode cX6_spot 99 = .ok (.iload 5, 2) := by decide +kernel
theorem dX6_spot_101 : decode cX6_spot 101 = .ok (.istore_n 3, 1) := by decide +kernel
theorem dX6_spot_102 : decode cX6_spot 102 = .ok (.iinc 5 1, 3) := by decide +kernel
theorem dX6_spot_105 : decode cX6_spot 105 = .ok (.goto (-71), 3) := by decide +kernel
theorem dX6_spot_108 : decode cX6_spot 108 = .ok (.iload_n 3, 1) := by decide +kernel
theorem dX6_spot_109 : decode cX6_spot 109 = .ok (.ireturn, 1) := by decide +kernel
theorem dX6_time_0 : decode cX6_time 0 = .ok (.iload_n 1, 1) := by decide +kernel
theorem dX6_time_1 : decode cX6_time 1 = .ok (.invokestatic 69, 3) := by decide +kernel
theorem dX6_time_4 : decode cX6_time 4 = .ok (.ifCond .ne 10, 3) := by decide +kernel
theorem dX6_time_7 : decode cX6_time 7 = .ok (.aload_n 0, 1) := by decide +kernel
theorem dX6_time_8 : decode cX6_time 8 = .ok (.ldc 64, 2) := by decide +kernel
theorem dX6_time_10 : decode cX6_time 10 = .ok (.invokevirtual 65, 3) := by decide +kernel
theorem dX6_time_13 : decode cX6_time 13 = .ok (.ireturn, 1) := by decide +kernel
theorem dX6_time_14 : decode cX6_time 14 = .ok (.aload_n 0, 1) := by decide +kernel
theorem dX6_time_15 : decode cX6_time 15 = .ok (.getfield 16, 3) := by decide +kernel
theorem dX6_time_18 : decode cX6_time 18 = .ok (.aload_n 0, 1) := by decide +kernel
theorem dX6_time_19 : decode cX6_time 19 = .ok (.getfield 10, 3) := by decide +kernel
theorem dX6_time_22 : decode cX6_time 22 = .ok (.invokevirtual 188, 3) := by decide +kernel
theorem dX6_time_25 : decode cX6_time 25 = .ok (.iconst 0, 1) := by decide +kernel
theorem dX6_time_26 : decode cX6_time 26 = .ok (.istore_n 2, 1) := by decide +kernel
theorem dX6_time_27 : decode cX6_time 27 = .ok (.iconst (-1), 1) := by decide +kernel
theorem dX6_time_28 : decode cX6_time 28 = .ok (.istore_n 3, 1) := by decide +kernel
theorem dX6_time_29 : decode cX6_time 29 = .ok (.iconst 0, 1) := by decide +kernel
theorem dX6_time_30 : decode cX6_time 30 = .ok (.istore 4, 2) := by decide +kernel
theorem dX6_time_32 : decode cX6_time 32 = .ok (.iload 4, 2) := by decide +kernel
theorem dX6_time_34 : decode cX6_time 34 = .ok (.bipush 24, 2) := by decide +kernel
theorem dX6_time_36 : decode cX6_time 36 = .ok (.if_icmp .ge 40, 3) := by decide +kernel
theorem dX6_time_39 : decode cX6_time 39 = .ok (.aload_n 0, 1) := by decide +kernel
theorem dX6_time_40 : decode cX6_time 40 = .ok (.getfield 16, 3) := by decide +kernel
theorem dX6_time_43 : decode cX6_time 43 = .ok (.iload 4, 2) := by decide +kernel
theorem dX6_time_45 : decode cX6_time 45 = .ok (.putfield 123, 3) := by decide +kernel
theorem dX6_time_48 : decode cX6_time 48 = .ok (.aload_n 0, 1) := by decide +kernel
theorem dX6_time_49 : decode cX6_time 49 = .ok (.getfield 16, 3) := by decide +kernel
theorem dX6_time_52 : decode cX6_time 52 = .ok (.iload_n 1, 1) := by decide +kernel
theorem dX6_time_53 : decode cX6_time 53 = .ok (.invokevirtual 73, 3) := by decide +kernel
theorem dX6_time_56 : decode cX6_time 56 = .ok (.istore 5, 2) := by decide +kernel
theorem dX6_time_58 : decode cX6_time 58 = .ok (.iload 5, 2) := by decide +kernel
theorem dX6_time_60 : decode cX6_time 60 = .ok (.iload_n 3, 1) := by decide +kernel
theorem dX6_time_61 : decode cX6_time 61 = .ok (.if_icmp .le 9, 3) := by decide +kernel
theorem dX6_time_64 : decode cX6_time 64 = .ok (.iload 5, 2) := by decide +kernel
theorem dX6_time_66 : decode cX6_time 66 = .ok (.istore_n 3, 1) := by decide +kernel
theorem dX6_time_67 : decode cX6_time 67 = .ok (.iload 4, 2) := by decide +kernel
theorem dX6_time_69 : decode cX6_time 69 = .ok (.istore_n 2, 1) := by decide +kernel
theorem dX6_time_70 : decode cX6_time 70 = .ok (.iinc 4 1, 3) := by decide +kernel
theorem dX6_time_73 : decode cX6_time 73 = .ok (.goto (-41), 3) := by decide +kernel
theorem dX6_time_76 : decode cX6_time 76 = .ok (.iload_n 2, 1) := by decide +kernel
theorem dX6_time_77 : decode cX6_time 77 = .ok (.ireturn, 1) := by decide +kernel
theorem dX6_net_0 : decode cX6_net 0 = .ok (.aload_n 0, 1) := by decide +kernel
theorem dX6_net_1 : decode cX6_net 1 = .ok (.iload_n 1, 1) := by decide +kernel
theorem dX6_net_2 : decode cX6_net 2 = .ok (.invokevirtual 147, 3) := by decide +kernel
theorem dX6_net_5 : decode cX6_net 5 = .ok (.ifCond .eq 13, 3) := by decide +kernel
theorem dX6_net_8 : decode cX6_net 8 = .ok (.iload_n 2, 1) := by decide +kernel
theorem dX6_net_9 : decode cX6_net 9 = .ok (.iconst 1, 1) := by decide +kernel
theorem dX6_net_10 : decode cX6_net 10 = .ok (.bipush 24, 2) := by decide +kernel
theorem dX6_net_12 : decode cX6_net 12 = .ok (.invokestatic 53, 3) := by decide +kernel
theorem dX6_net_15 : decode cX6_net 15 = .ok (.ifCond .ne 10, 3) := by decide +kernel
theorem dX6_net_18 : decode cX6_net 18 = .ok (.aload_n 0, 1) := by decide +kernel
theorem dX6_net_19 : decode cX6_net 19 = .ok (.ldc 64, 2) := by decide +kernel
theorem dX6_net_21 : decode cX6_net 21 = .ok (.invokevirtual 65, 3) := by decide +kernel
theorem dX6_net_24 : decode cX6_net 24 = .ok (.ireturn, 1) := by decide +kernel
theorem dX6_net_25 : decode cX6_net 25 = .ok (.iconst 0, 1) := by decide +kernel
theorem dX6_net_26 : decode cX6_net 26 = .ok (.istore_n 3, 1) := by decide +kernel
theorem dX6_net_27 : decode cX6_net 27 = .ok (.ldc 198, 2) := by decide +kernel
theorem dX6_net_29 : decode cX6_net 29 = .ok (.istore 4, 2) := by decide +kernel
theorem dX6_net_31 : decode cX6_net 31 = .ok (.iconst 0, 1) := by decide +kernel
theorem dX6_net_32 : decode cX6_net 32 = .ok (.istore 5, 2) := by decide +kernel
theorem dX6_net_34 : decode cX6_net 34 = .ok (.iload 5, 2) := by decide +kernel
theorem dX6_net_36 : decode cX6_net 36 = .ok (.bipush 99, 2) := by decide +kernel
theorem dX6_net_38 : decode cX6_net 38 = .ok (.if_icmp .gt 70, 3) := by decide +kernel
theorem dX6_net_41 : decode cX6_net 41 = .ok (.aload_n 0, 1) := by decide +kernel
theorem dX6_net_42 : decode cX6_net 42 = .ok (.getfield 16, 3) := by decide +kernel
theorem dX6_net_45 : decode cX6_net 45 = .ok (.aload_n 0, 1) := by decide +kernel
theorem dX6_net_46 : decode cX6_net 46 = .ok (.getfield 10, 3) := by decide +kernel
theorem dX6_net_49 : decode cX6_net 49 = .ok (.invokevirtual 188, 3) := by decide +kernel
theorem dX6_net_52 : decode cX6_net 52 = .ok (.aload_n 0, 1) := by decide +kernel
theorem dX6_net_53 : decode cX6_net 53 = .ok (.getfield 16, 3) := by decide +kernel
theorem dX6_net_56 : decode cX6_net 56 = .ok (.getfield 150, 3) := by decide +kernel
theorem dX6_net_59 : decode cX6_net 59 = .ok (.iload_n 1, 1) := by decide +kernel
theorem dX6_net_60 : decode cX6_net 60 = .ok (.aaload, 1) := by decide +kernel
theorem dX6_net_61 : decode cX6_net 61 = .ok (.iload 5, 2) := by decide +kernel
theorem dX6_net_63 : decode cX6_net 63 = .ok (.putfield 159, 3) := by decide +kernel
theorem dX6_net_66 : decode cX6_net 66 = .ok (.aload_n 0, 1) := by decide +kernel
theorem dX6_net_67 : decode cX6_net 67 = .ok (.getfield 16, 3) := by decide +kernel
theorem dX6_net_70 : decode cX6_net 70 = .ok (.iload_n 2, 1) := by decide +kernel
theorem dX6_net_71 : decode cX6_net 71 = .ok (.invokevirtual 172, 3) := by decide +kernel
theorem dX6_net_74 : decode cX6_net 74 = .ok (.aload_n 0, 1) := by decide +kernel
theorem dX6_net_75 : decode cX6_net 75 = .ok (.getfield 16, 3) := by decide +kernel
theorem dX6_net_78 : decode cX6_net 78 = .ok (.getfield 150, 3) := by decide +kernel
theorem dX6_net_81 : decode cX6_net 81 = .ok (.iload_n 1, 1) := by decide +kernel
theorem dX6_net_82 : decode cX6_net 82 = .ok (.aaload, 1) := by decide +kernel
theorem dX6_net_83 : decode cX6_net 83 = .ok (.invokevirtual 199, 3) := by decide +kernel
theorem dX6_net_86 : decode cX6_net 86 = .ok (.istore 6, 2) := by decide +kernel
theorem dX6_net_88 : decode cX6_net 88 = .ok (.iload 6, 2) := by decide +kernel
theorem dX6_net_90 : decode cX6_net 90 = .ok (.iload 4, 2) := by decide +kernel
theorem dX6_net_92 : decode cX6_net 92 = .ok (.if_icmp .le 10, 3) := by decide +kernel
theorem dX6_net_95 : decode cX6_net 95 = .ok (.iload 6, 2) := by decide +kernel
theorem dX6_net_97 : decode cX6_net 97 = .ok (.istore 4, 2) := by decide +kernel
theorem dX6_net_99 : decode cX6_net 99 = .ok (.iload 5, 2) := by decide +kernel
theorem dX6_net_101 : decode cX6_net 101 = .ok (.istore_n 3, 1) := by decide +kernel
theorem dX6_net_102 : decode cX6_net 102 = .ok (.iinc 5 1, 3) := by decide +kernel
theorem dX6_net_105 : decode cX6_net 105 = .ok (.goto (-71), 3) := by decide +kernel
theorem dX6_net_108 : decode cX6_net 108 = .ok (.iload_n 3, 1) := by decide +kernel
theorem dX6_net_109 : decode cX6_net 109 = .ok (.ireturn, 1) := by decide +kernel
theorem dX6_gives_0 : decode cX6_gives 0 = .ok (.aload_n 0, 1) := by decide +kernel
theorem dX6_gives_1 : decode cX6_gives 1 = .ok (.iload_n 1, 1) := by decide +kernel
theorem dX6_gives_2 : decode cX6_gives 2 = .ok (.invokevirtual 147, 3) := by decide +kernel
theorem dX6_gives_5 : decode cX6_gives 5 = .ok (.ifCond .eq 13, 3) := by decide +kernel
theorem dX6_gives_8 : decode cX6_gives 8 = .ok (.iload_n 2, 1) := by decide +kernel
theorem dX6_gives_9 : decode cX6_gives 9 = .ok (.iconst 1, 1) := by decide +kernel
theorem dX6_gives_10 : decode cX6_gives 10 = .ok (.bipush 24, 2) := by decide +kernel
theorem dX6_gives_12 : decode cX6_gives 12 = .ok (.invokestatic 53, 3) := by decide +kernel
theorem dX6_gives_15 : decode cX6_gives 15 = .ok (.ifCond .ne 10, 3) := by decide +kernel
theorem dX6_gives_18 : decode cX6_gives 18 = .ok (.aload_n 0, 1) := by decide +kernel
theorem dX6_gives_19 : decode cX6_gives 19 = .ok (.ldc 64, 2) := by decide +kernel
theorem dX6_gives_21 : decode cX6_gives 21 = .ok (.invokevirtual 65, 3) := by decide +kernel
theorem dX6_gives_24 : decode cX6_gives 24 = .ok (.ireturn, 1) := by decide +kernel
theorem dX6_gives_25 : decode cX6_gives 25 = .ok (.aload_n 0, 1) := by decide +kernel
theorem dX6_gives_26 : decode cX6_gives 26 = .ok (.getfield 16, 3) := by decide +kernel
theorem dX6_gives_29 : decode cX6_gives 29 = .ok (.aload_n 0, 1) := by decide +kernel
theorem dX6_gives_30 : decode cX6_gives 30 = .ok (.getfield 10, 3) := by decide +kernel
theorem dX6_gives_33 : decode cX6_gives 33 = .ok (.invokevirtual 188, 3) := by decide +kernel
theorem dX6_gives_36 : decode cX6_gives 36 = .ok (.aload_n 0, 1) := by decide +kernel
theorem dX6_gives_37 : decode cX6_gives 37 = .ok (.getfield 16, 3) := by decide +kernel
theorem dX6_gives_40 : decode cX6_gives 40 = .ok (.iload_n 2, 1) := by decide +kernel
theorem dX6_gives_41 : decode cX6_gives 41 = .ok (.invokevirtual 172, 3) := by decide +kernel
theorem dX6_gives_44 : decode cX6_gives 44 = .ok (.aload_n 0, 1) := by decide +kernel
theorem dX6_gives_45 : decode cX6_gives 45 = .ok (.getfield 16, 3) := by decide +kernel
theorem dX6_gives_48 : decode cX6_gives 48 = .ok (.getfield 150, 3) := by decide +kernel
theorem dX6_gives_51 : decode cX6_gives 51 = .ok (.iload_n 1, 1) := by decide +kernel
theorem dX6_gives_52 : decode cX6_gives 52 = .ok (.aaload, 1) := by decide +kernel
theorem dX6_gives_53 : decode cX6_gives 53 = .ok (.invokevirtual 199, 3) := by decide +kernel
theorem dX6_gives_56 : decode cX6_gives 56 = .ok (.istore_n 3, 1) := by decide +kernel
theorem dX6_gives_57 : decode cX6_gives 57 = .ok (.iconst (-1), 1) := by decide +kernel
theorem dX6_gives_58 : decode cX6_gives 58 = .ok (.istore 4, 2) := by decide +kernel
theorem dX6_gives_60 : decode cX6_gives 60 = .ok (.iconst 0, 1) := by decide +kernel
theorem dX6_gives_61 : decode cX6_gives 61 = .ok (.istore 5, 2) := by decide +kernel
theorem dX6_gives_63 : decode cX6_gives 63 = .ok (.iload 5, 2) := by decide +kernel
theorem dX6_gives_65 : decode cX6_gives 65 = .ok (.aload_n 0, 1) := by decide +kernel
theorem dX6_gives_66 : decode cX6_gives 66 = .ok (.getfield 10, 3) := by decide +kernel
theorem dX6_gives_69 : decode cX6_gives 69 = .ok (.getfield 91, 3) := by decide +kernel
theorem dX6_gives_72 : decode cX6_gives 72 = .ok (.if_icmp .ge 69, 3) := by decide +kernel
theorem dX6_gives_75 : decode cX6_gives 75 = .ok (.aload_n 0, 1) := by decide +kernel
theorem dX6_gives_76 : decode cX6_gives 76 = .ok (.getfield 16, 3) := by decide +kernel
theorem dX6_gives_79 : decode cX6_gives 79 = .ok (.aload_n 0, 1) := by decide +kernel
theorem dX6_gives_80 : decode cX6_gives 80 = .ok (.getfield 10, 3) := by decide +kernel
theorem dX6_gives_83 : decode cX6_gives 83 = .ok (.invokevirtual 188, 3) := by decide +kernel
theorem dX6_gives_86 : decode cX6_gives 86 = .ok (.aload_n 0, 1) := by decide +kernel
theorem dX6_gives_87 : decode cX6_gives 87 = .ok (.getfield 16, 3) := by decide +kernel
theorem dX6_gives_90 : decode cX6_gives 90 = .ok (.getfield 102, 3) := by decide +kernel
theorem dX6_gives_93 : decode cX6_gives 93 = .ok (.iload 5, 2) := by decide +kernel
theorem dX6_gives_95 : decode cX6_gives 95 = .ok (.aaload, 1) := by decide +kernel
theorem dX6_gives_96 : decode cX6_gives 96 = .ok (.iconst 0, 1) := by decide +kernel
theorem dX6_gives_97 : decode cX6_gives 97 = .ok (.putfield 117, 3) := by decide +kernel
theorem dX6_gives_100 : decode cX6_gives 100 = .ok (.aload_n 0, 1) := by decide +kernel
theorem dX6_gives_101 : decode cX6_gives 101 = .ok (.getfield 16, 3) := by decide +kernel
theorem dX6_gives_104 : decode cX6_gives 104 = .ok (.iload_n 2, 1) := by decide +kernel
theorem dX6_gives_105 : decode cX6_gives 105 = .ok (.invokevirtual 172, 3) := by decide +kernel
theorem dX6_gives_108 : decode cX6_gives 108 = .ok (.aload_n 0, 1) := by decide +kernel
theorem dX6_gives_109 : decode cX6_gives 109 = .ok (.getfield 16, 3) := by decide +kernel
theorem dX6_gives_112 : decode cX6_gives 112 = .ok (.getfield 150, 3) := by decide +kernel
theorem dX6_gives_115 : decode cX6_gives 115 = .ok (.iload_n 1, 1) := by decide +kernel
theorem dX6_gives_116 : decode cX6_gives 116 = .ok (.aaload, 1) := by decide +kernel
theorem dX6_gives_117 : decode cX6_gives 117 = .ok (.invokevirtual 199, 3) := by decide +kernel
theorem dX6_gives_120 : decode cX6_gives 120 = .ok (.istore 6, 2) := by decide +kernel
theorem dX6_gives_122 : decode cX6_gives 122 = .ok (.iload 6, 2) := by decide +kernel
theorem dX6_gives_124 : decode cX6_gives 124 = .ok (.iload_n 3, 1) := by decide +kernel
theorem dX6_gives_125 : decode cX6_gives 125 = .ok (.if_icmp .ge 10, 3) := by decide +kernel
theorem dX6_gives_128 : decode cX6_gives 128 = .ok (.iload 6, 2) := by decide +kernel
theorem dX6_gives_130 : decode cX6_gives 130 = .ok (.istore_n 3, 1) := by decide +kernel
theorem dX6_gives_131 : decode cX6_gives 131 = .ok (.iload 5, 2) := by decide +kernel
theorem dX6_gives_133 : decode cX6_gives 133 = .ok (.istore 4, 2) := by decide +kernel
theorem dX6_gives_135 : decode cX6_gives 135 = .ok (.iinc 5 1, 3) := by decide +kernel
theorem dX6_gives_138 : decode cX6_gives 138 = .ok (.goto (-75), 3) := by decide +kernel
theorem dX6_gives_141 : decode cX6_gives 141 = .ok (.iload 4, 2) := by decide +kernel
theorem dX6_gives_143 : decode cX6_gives 143 = .ok (.ifCond .ge 12, 3) := by decide +kernel
theorem dX6_gives_146 : decode cX6_gives 146 = .ok (.aload_n 0, 1) := by decide +kernel
theorem dX6_gives_147 : decode cX6_gives 147 = .ok (.ldc 195, 2) := by decide +kernel
theorem dX6_gives_149 : decode cX6_gives 149 = .ok (.invokevirtual 65, 3) := by decide +kernel
theorem dX6_gives_152 : decode cX6_gives 152 = .ok (.goto 5, 3) := by decide +kernel
theorem dX6_gives_155 : decode cX6_gives 155 = .ok (.iload 4, 2) := by decide +kernel
theorem dX6_gives_157 : decode cX6_gives 157 = .ok (.ireturn, 1) := by decide +kernel
theorem dX6_kind_0 : decode cX6_kind 0 = .ok (.aload_n 0, 1) := by decide +kernel
theorem dX6_kind_1 : decode cX6_kind 1 = .ok (.iload_n 1, 1) := by decide +kernel
theorem dX6_kind_2 : decode cX6_kind 2 = .ok (.invokevirtual 99, 3) := by decide +kernel
theorem dX6_kind_5 : decode cX6_kind 5 = .ok (.ifCond .eq 13, 3) := by decide +kernel
theorem dX6_kind_8 : decode cX6_kind 8 = .ok (.iload_n 2, 1) := by decide +kernel
theorem dX6_kind_9 : decode cX6_kind 9 = .ok (.iconst 1, 1) := by decide +kernel
theorem dX6_kind_10 : decode cX6_kind 10 = .ok (.bipush 24, 2) := by decide +kernel
theorem dX6_kind_12 : decode cX6_kind 12 = .ok (.invokestatic 53, 3) := by decide +kernel
theorem dX6_kind_15 : decode cX6_kind 15 = .ok (.ifCond .ne 10, 3) := by decide +kernel
theorem dX6_kind_18 : decode cX6_kind 18 = .ok (.aload_n 0, 1) := by decide +kernel
theorem dX6_kind_19 : decode cX6_kind 19 = .ok (.ldc 64, 2) := by decide +kernel
theorem dX6_kind_21 : decode cX6_kind 21 = .ok (.invokevirtual 65, 3) := by decide +kernel
theorem dX6_kind_24 : decode cX6_kind 24 = .ok (.ireturn, 1) := by decide +kernel
theorem dX6_kind_25 : decode cX6_kind 25 = .ok (.iconst 0, 1) := by decide +kernel
theorem dX6_kind_26 : decode cX6_kind 26 = .ok (.istore_n 3, 1) := by decide +kernel
theorem dX6_kind_27 : decode cX6_kind 27 = .ok (.ldc 198, 2) := by decide +kernel
theorem dX6_kind_29 : decode cX6_kind 29 = .ok (.istore 4, 2) := by decide +kernel
theorem dX6_kind_31 : decode cX6_kind 31 = .ok (.iconst 0, 1) := by decide +kernel
theorem dX6_kind_32 : decode cX6_kind 32 = .ok (.istore 5, 2) := by decide +kernel
theorem dX6_kind_34 : decode cX6_kind 34 = .ok (.iload 5, 2) := by decide +kernel
theorem dX6_kind_36 : decode cX6_kind 36 = .ok (.bipush 6, 2) := by decide +kernel
theorem dX6_kind_38 : decode cX6_kind 38 = .ok (.if_icmp .ge 73, 3) := by decide +kernel
theorem dX6_kind_41 : decode cX6_kind 41 = .ok (.aload_n 0, 1) := by decide +kernel
theorem dX6_kind_42 : decode cX6_kind 42 = .ok (.getfield 16, 3) := by decide +kernel
theorem dX6_kind_45 : decode cX6_kind 45 = .ok (.aload_n 0, 1) := by decide +kernel
theorem dX6_kind_46 : decode cX6_kind 46 = .ok (.getfield 10, 3) := by decide +kernel
theorem dX6_kind_49 : decode cX6_kind 49 = .ok (.invokevirtual 188, 3) := by decide +kernel
theorem dX6_kind_52 : decode cX6_kind 52 = .ok (.aload_n 0, 1) := by decide +kernel
theorem dX6_kind_53 : decode cX6_kind 53 = .ok (.getfield 16, 3) := by decide +kernel
theorem dX6_kind_56 : decode cX6_kind 56 = .ok (.getfield 102, 3) := by decide +kernel
theorem dX6_kind_59 : decode cX6_kind 59 = .ok (.iload_n 1, 1) := by decide +kernel
theorem dX6_kind_60 : decode cX6_kind 60 = .ok (.aaload, 1) := by decide +kernel
theorem dX6_kind_61 : decode cX6_kind 61 = .ok (.iload 5, 2) := by decide +kernel
theorem dX6_kind_63 : decode cX6_kind 63 = .ok (.putfield 106, 3) := by decide +kernel
theorem dX6_kind_66 : decode cX6_kind 66 = .ok (.aload_n 0, 1) := by decide +kernel
theorem dX6_kind_67 : decode cX6_kind 67 = .ok (.getfield 16, 3) := by decide +kernel
theorem dX6_kind_70 : decode cX6_kind 70 = .ok (.iload_n 2, 1) := by decide +kernel
theorem dX6_kind_71 : decode cX6_kind 71 = .ok (.invokevirtual 172, 3) := by decide +kernel
theorem dX6_kind_74 : decode cX6_kind 74 = .ok (.aload_n 0, 1) := by decide +kernel
theorem dX6_kind_75 : decode cX6_kind 75 = .ok (.getfield 16, 3) := by decide +kernel
theorem dX6_kind_78 : decode cX6_kind 78 = .ok (.invokevirtual 176, 3) := by decide +kernel
theorem dX6_kind_81 : decode cX6_kind 81 = .ok (.aload_n 0, 1) := by decide +kernel
theorem dX6_kind_82 : decode cX6_kind 82 = .ok (.getfield 16, 3) := by decide +kernel
theorem dX6_kind_85 : decode cX6_kind 85 = .ok (.invokevirtual 202, 3) := by decide +kernel
theorem dX6_kind_88 : decode cX6_kind 88 = .ok (.iadd, 1) := by decide +kernel
theorem dX6_kind_89 : decode cX6_kind 89 = .ok (.istore 6, 2) := by decide +kernel
theorem dX6_kind_91 : decode cX6_kind 91 = .ok (.iload 6, 2) := by decide +kernel
theorem dX6_kind_93 : decode cX6_kind 93 = .ok (.iload 4, 2) := by decide +kernel
theorem dX6_kind_95 : decode cX6_kind 95 = .ok (.if_icmp .le 10, 3) := by decide +kernel
theorem dX6_kind_98 : decode cX6_kind 98 = .ok (.iload 6, 2) := by decide +kernel
theorem dX6_kind_100 : decode cX6_kind 100 = .ok (.istore 4, 2) := by decide +kernel
theorem dX6_kind_102 : decode cX6_kind 102 = .ok (.iload 5, 2) := by decide +kernel
theorem dX6_kind_104 : decode cX6_kind 104 = .ok (.istore_n 3, 1) := by decide +kernel
theorem dX6_kind_105 : decode cX6_kind 105 = .ok (.iinc 5 1, 3) := by decide +kernel
theorem dX6_kind_108 : decode cX6_kind 108 = .ok (.goto (-74), 3) := by decide +kernel
theorem dX6_kind_111 : decode cX6_kind 111 = .ok (.iload_n 3, 1) := by decide +kernel
theorem dX6_kind_112 : decode cX6_kind 112 = .ok (.ireturn, 1) := by decide +kernel
theorem dX6_rival_0 : decode cX6_rival 0 = .ok (.aload_n 0, 1) := by decide +kernel
theorem dX6_rival_1 : decode cX6_rival 1 = .ok (.iload_n 1, 1) := by decide +kernel
theorem dX6_rival_2 : decode cX6_rival 2 = .ok (.invokevirtual 147, 3) := by decide +kernel
theorem dX6_rival_5 : decode cX6_rival 5 = .ok (.ifCond .eq 16, 3) := by decide +kernel
theorem dX6_rival_8 : decode cX6_rival 8 = .ok (.aload_n 0, 1) := by decide +kernel
theorem dX6_rival_9 : decode cX6_rival 9 = .ok (.iload_n 2, 1) := by decide +kernel
theorem dX6_rival_10 : decode cX6_rival 10 = .ok (.invokevirtual 147, 3) := by decide +kernel
theorem dX6_rival_13 : decode cX6_rival 13 = .ok (.ifCond .eq 8, 3) := by decide +kernel
theorem dX6_rival_16 : decode cX6_rival 16 = .ok (.iload_n 1, 1) := by decide +kernel
theorem dX6_rival_17 : decode cX6_rival 17 = .ok (.iload_n 2, 1) := by decide +kernel
theorem dX6_rival_18 : decode cX6_rival 18 = .ok (.if_icmp .ne 10, 3) := by decide +kernel
theorem dX6_rival_21 : decode cX6_rival 21 = .ok (.aload_n 0, 1) := by decide +kernel
theorem dX6_rival_22 : decode cX6_rival 22 = .ok (.ldc 64, 2) := by decide +kernel
theorem dX6_rival_24 : decode cX6_rival 24 = .ok (.invokevirtual 65, 3) := by decide +kernel
theorem dX6_rival_27 : decode cX6_rival 27 = .ok (.ireturn, 1) := by decide +kernel
theorem dX6_rival_28 : decode cX6_rival 28 = .ok (.iload_n 3, 1) := by decide +kernel
theorem dX6_rival_29 : decode cX6_rival 29 = .ok (.iconst 1, 1) := by decide +kernel
theorem dX6_rival_30 : decode cX6_rival 30 = .ok (.bipush 24, 2) := by decide +kernel
theorem dX6_rival_32 : decode cX6_rival 32 = .ok (.invokestatic 53, 3) := by decide +kernel
theorem dX6_rival_35 : decode cX6_rival 35 = .ok (.ifCond .ne 10, 3) := by decide +kernel
theorem dX6_rival_38 : decode cX6_rival 38 = .ok (.aload_n 0, 1) := by decide +kernel
theorem dX6_rival_39 : decode cX6_rival 39 = .ok (.ldc 64, 2) := by decide +kernel
theorem dX6_rival_41 : decode cX6_rival 41 = .ok (.invokevirtual 65, 3) := by decide +kernel
theorem dX6_rival_44 : decode cX6_rival 44 = .ok (.ireturn, 1) := by decide +kernel
theorem dX6_rival_45 : decode cX6_rival 45 = .ok (.aload_n 0, 1) := by decide +kernel
theorem dX6_rival_46 : decode cX6_rival 46 = .ok (.getfield 16, 3) := by decide +kernel
theorem dX6_rival_49 : decode cX6_rival 49 = .ok (.aload_n 0, 1) := by decide +kernel
theorem dX6_rival_50 : decode cX6_rival 50 = .ok (.getfield 10, 3) := by decide +kernel
theorem dX6_rival_53 : decode cX6_rival 53 = .ok (.invokevirtual 188, 3) := by decide +kernel
theorem dX6_rival_56 : decode cX6_rival 56 = .ok (.aload_n 0, 1) := by decide +kernel
theorem dX6_rival_57 : decode cX6_rival 57 = .ok (.getfield 16, 3) := by decide +kernel
theorem dX6_rival_60 : decode cX6_rival 60 = .ok (.iload_n 3, 1) := by decide +kernel
theorem dX6_rival_61 : decode cX6_rival 61 = .ok (.invokevirtual 172, 3) := by decide +kernel
theorem dX6_rival_64 : decode cX6_rival 64 = .ok (.aload_n 0, 1) := by decide +kernel
theorem dX6_rival_65 : decode cX6_rival 65 = .ok (.getfield 16, 3) := by decide +kernel
theorem dX6_rival_68 : decode cX6_rival 68 = .ok (.getfield 150, 3) := by decide +kernel
theorem dX6_rival_71 : decode cX6_rival 71 = .ok (.iload_n 1, 1) := by decide +kernel
theorem dX6_rival_72 : decode cX6_rival 72 = .ok (.aaload, 1) := by decide +kernel
theorem dX6_rival_73 : decode cX6_rival 73 = .ok (.invokevirtual 199, 3) := by decide +kernel
theorem dX6_rival_76 : decode cX6_rival 76 = .ok (.istore 4, 2) := by decide +kernel
theorem dX6_rival_78 : decode cX6_rival 78 = .ok (.aload_n 0, 1) := by decide +kernel
theorem dX6_rival_79 : decode cX6_rival 79 = .ok (.getfield 16, 3) := by decide +kernel
theorem dX6_rival_82 : decode cX6_rival 82 = .ok (.aload_n 0, 1) := by decide +kernel
theorem dX6_rival_83 : decode cX6_rival 83 = .ok (.getfield 10, 3) := by decide +kernel
theorem dX6_rival_86 : decode cX6_rival 86 = .ok (.invokevirtual 188, 3) := by decide +kernel
theorem dX6_rival_89 : decode cX6_rival 89 = .ok (.aload_n 0, 1) := by decide +kernel
theorem dX6_rival_90 : decode cX6_rival 90 = .ok (.getfield 16, 3) := by decide +kernel
theorem dX6_rival_93 : decode cX6_rival 93 = .ok (.getfield 150, 3) := by decide +kernel
theorem dX6_rival_96 : decode cX6_rival 96 = .ok (.iload_n 2, 1) := by decide +kernel
theorem dX6_rival_97 : decode cX6_rival 97 = .ok (.aaload, 1) := by decide +kernel
theorem dX6_rival_98 : decode cX6_rival 98 = .ok (.iconst 0, 1) := by decide +kernel
theorem dX6_rival_99 : decode cX6_rival 99 = .ok (.putfield 159, 3) := by decide +kernel
theorem dX6_rival_102 : decode cX6_rival 102 = .ok (.aload_n 0, 1) := by decide +kernel
theorem dX6_rival_103 : decode cX6_rival 103 = .ok (.getfield 16, 3) := by decide +kernel
theorem dX6_rival_106 : decode cX6_rival 106 = .ok (.iload_n 3, 1) := by decide +kernel
theorem dX6_rival_107 : decode cX6_rival 107 = .ok (.invokevirtual 172, 3) := by decide +kernel
theorem dX6_rival_110 : decode cX6_rival 110 = .ok (.aload_n 0, 1) := by decide +kernel
theorem dX6_rival_111 : decode cX6_rival 111 = .ok (.getfield 16, 3) := by decide +kernel
theorem dX6_rival_114 : decode cX6_rival 114 = .ok (.getfield 150, 3) := by decide +kernel
theorem dX6_rival_117 : decode cX6_rival 117 = .ok (.iload_n 1, 1) := by decide +kernel
theorem dX6_rival_118 : decode cX6_rival 118 = .ok (.aaload, 1) := by decide +kernel
theorem dX6_rival_119 : decode cX6_rival 119 = .ok (.invokevirtual 199, 3) := by decide +kernel
theorem dX6_rival_122 : decode cX6_rival 122 = .ok (.iload 4, 2) := by decide +kernel
theorem dX6_rival_124 : decode cX6_rival 124 = .ok (.isub, 1) := by decide +kernel
theorem dX6_rival_125 : decode cX6_rival 125 = .ok (.ireturn, 1) := by decide +kernel
theorem dX6_way_0 : decode cX6_way 0 = .ok (.iload_n 1, 1) := by decide +kernel
theorem dX6_way_1 : decode cX6_way 1 = .ok (.invokestatic 69, 3) := by decide +kernel
theorem dX6_way_4 : decode cX6_way 4 = .ok (.ifCond .eq 10, 3) := by decide +kernel
theorem dX6_way_7 : decode cX6_way 7 = .ok (.iload_n 2, 1) := by decide +kernel
theorem dX6_way_8 : decode cX6_way 8 = .ok (.invokestatic 69, 3) := by decide +kernel
theorem dX6_way_11 : decode cX6_way 11 = .ok (.ifCond .ne 10, 3) := by decide +kernel
theorem dX6_way_14 : decode cX6_way 14 = .ok (.aload_n 0, 1) := by decide +kernel
theorem dX6_way_15 : decode cX6_way 15 = .ok (.ldc 64, 2) := by decide +kernel
theorem dX6_way_17 : decode cX6_way 17 = .ok (.invokevirtual 65, 3) := by decide +kernel
theorem dX6_way_20 : decode cX6_way 20 = .ok (.ireturn, 1) := by decide +kernel
theorem dX6_way_21 : decode cX6_way 21 = .ok (.iload_n 1, 1) := by decide +kernel
theorem dX6_way_22 : decode cX6_way 22 = .ok (.bipush 8, 2) := by decide +kernel
theorem dX6_way_24 : decode cX6_way 24 = .ok (.irem, 1) := by decide +kernel
theorem dX6_way_25 : decode cX6_way 25 = .ok (.iload_n 2, 1) := by decide +kernel
theorem dX6_way_26 : decode cX6_way 26 = .ok (.bipush 8, 2) := by decide +kernel
theorem dX6_way_28 : decode cX6_way 28 = .ok (.irem, 1) := by decide +kernel
theorem dX6_way_29 : decode cX6_way 29 = .ok (.invokestatic 205, 3) := by decide +kernel
theorem dX6_way_32 : decode cX6_way 32 = .ok (.istore_n 3, 1) := by decide +kernel
theorem dX6_way_33 : decode cX6_way 33 = .ok (.iload_n 1, 1) := by decide +kernel
theorem dX6_way_34 : decode cX6_way 34 = .ok (.bipush 8, 2) := by decide +kernel
theorem dX6_way_36 : decode cX6_way 36 = .ok (.irem, 1) := by decide +kernel
theorem dX6_way_37 : decode cX6_way 37 = .ok (.iload_n 2, 1) := by decide +kernel
theorem dX6_way_38 : decode cX6_way 38 = .ok (.bipush 8, 2) := by decide +kernel
theorem dX6_way_40 : decode cX6_way 40 = .ok (.irem, 1) := by decide +kernel
theorem dX6_way_41 : decode cX6_way 41 = .ok (.invokestatic 211, 3) := by decide +kernel
theorem dX6_way_44 : decode cX6_way 44 = .ok (.istore 4, 2) := by decide +kernel
theorem dX6_way_46 : decode cX6_way 46 = .ok (.iload_n 3, 1) := by decide +kernel
theorem dX6_way_47 : decode cX6_way 47 = .ok (.istore 5, 2) := by decide +kernel
theorem dX6_way_49 : decode cX6_way 49 = .ok (.iload 5, 2) := by decide +kernel
theorem dX6_way_51 : decode cX6_way 51 = .ok (.iload 4, 2) := by decide +kernel
theorem dX6_way_53 : decode cX6_way 53 = .ok (.if_icmp .gt 28, 3) := by decide +kernel
theorem dX6_way_56 : decode cX6_way 56 = .ok (.aload_n 0, 1) := by decide +kernel
theorem dX6_way_57 : decode cX6_way 57 = .ok (.getfield 10, 3) := by decide +kernel
theorem dX6_way_60 : decode cX6_way 60 = .ok (.iload 5, 2) := by decide +kernel
theorem dX6_way_62 : decode cX6_way 62 = .ok (.invokevirtual 214, 3) := by decide +kernel
theorem dX6_way_65 : decode cX6_way 65 = .ok (.ifCond .eq 10, 3) := by decide +kernel
theorem dX6_way_68 : decode cX6_way 68 = .ok (.aload_n 0, 1) := by decide +kernel
theorem dX6_way_69 : decode cX6_way 69 = .ok (.ldc 195, 2) := by decide +kernel
theorem dX6_way_71 : decode cX6_way 71 = .ok (.invokevirtual 65, 3) := by decide +kernel
theorem dX6_way_74 : decode cX6_way 74 = .ok (.ireturn, 1) := by decide +kernel
theorem dX6_way_75 : decode cX6_way 75 = .ok (.iinc 5 1, 3) := by decide +kernel
theorem dX6_way_78 : decode cX6_way 78 = .ok (.goto (-29), 3) := by decide +kernel
theorem dX6_way_81 : decode cX6_way 81 = .ok (.iload 4, 2) := by decide +kernel
theorem dX6_way_83 : decode cX6_way 83 = .ok (.iload_n 3, 1) := by decide +kernel
theorem dX6_way_84 : decode cX6_way 84 = .ok (.isub, 1) := by decide +kernel
theorem dX6_way_85 : decode cX6_way 85 = .ok (.iload_n 1, 1) := by decide +kernel
theorem dX6_way_86 : decode cX6_way 86 = .ok (.bipush 8, 2) := by decide +kernel
theorem dX6_way_88 : decode cX6_way 88 = .ok (.idiv, 1) := by decide +kernel
theorem dX6_way_89 : decode cX6_way 89 = .ok (.iload_n 2, 1) := by decide +kernel
theorem dX6_way_90 : decode cX6_way 90 = .ok (.bipush 8, 2) := by decide +kernel
theorem dX6_way_92 : decode cX6_way 92 = .ok (.idiv, 1) := by decide +kernel
theorem dX6_way_93 : decode cX6_way 93 = .ok (.isub, 1) := by decide +kernel
theorem dX6_way_94 : decode cX6_way 94 = .ok (.invokestatic 217, 3) := by decide +kernel
theorem dX6_way_97 : decode cX6_way 97 = .ok (.iadd, 1) := by decide +kernel
theorem dX6_way_98 : decode cX6_way 98 = .ok (.ireturn, 1) := by decide +kernel
theorem dX6_feed_0 : decode cX6_feed 0 = .ok (.iload_n 2, 1) := by decide +kernel
theorem dX6_feed_1 : decode cX6_feed 1 = .ok (.iconst 1, 1) := by decide +kernel
theorem dX6_feed_2 : decode cX6_feed 2 = .ok (.iconst 4, 1) := by decide +kernel
theorem dX6_feed_3 : decode cX6_feed 3 = .ok (.invokestatic 53, 3) := by decide +kernel
theorem dX6_feed_6 : decode cX6_feed 6 = .ok (.ifCond .ne 10, 3) := by decide +kernel
theorem dX6_feed_9 : decode cX6_feed 9 = .ok (.aload_n 0, 1) := by decide +kernel
theorem dX6_feed_10 : decode cX6_feed 10 = .ok (.ldc 64, 2) := by decide +kernel
theorem dX6_feed_12 : decode cX6_feed 12 = .ok (.invokevirtual 65, 3) := by decide +kernel
theorem dX6_feed_15 : decode cX6_feed 15 = .ok (.ireturn, 1) := by decide +kernel
theorem dX6_feed_16 : decode cX6_feed 16 = .ok (.aload_n 0, 1) := by decide +kernel
theorem dX6_feed_17 : decode cX6_feed 17 = .ok (.getfield 29, 3) := by decide +kernel
theorem dX6_feed_20 : decode cX6_feed 20 = .ok (.getfield 220, 3) := by decide +kernel
theorem dX6_feed_23 : decode cX6_feed 23 = .ok (.iload_n 2, 1) := by decide +kernel
theorem dX6_feed_24 : decode cX6_feed 24 = .ok (.iadd, 1) := by decide +kernel
theorem dX6_feed_25 : decode cX6_feed 25 = .ok (.bipush 120, 2) := by decide +kernel
theorem dX6_feed_27 : decode cX6_feed 27 = .ok (.if_icmp .le 10, 3) := by decide +kernel
theorem dX6_feed_30 : decode cX6_feed 30 = .ok (.aload_n 0, 1) := by decide +kernel
theorem dX6_feed_31 : decode cX6_feed 31 = .ok (.ldc 94, 2) := by decide +kernel
theorem dX6_feed_33 : decode cX6_feed 33 = .ok (.invokevirtual 65, 3) := by decide +kernel
theorem dX6_feed_36 : decode cX6_feed 36 = .ok (.ireturn, 1) := by decide +kernel
theorem dX6_feed_37 : decode cX6_feed 37 = .ok (.iload_n 2, 1) := by decide +kernel
theorem dX6_feed_38 : decode cX6_feed 38 = .ok (.iconst 1, 1) := by decide +kernel
theorem dX6_feed_39 : decode cX6_feed 39 = .ok (.isub, 1) := by decide +kernel
theorem dX6_feed_40 : decode cX6_feed 40 = .ok (.istore_n 3, 1) := by decide +kernel
theorem dX6_feed_41 : decode cX6_feed 41 = .ok (.iload_n 3, 1) := by decide +kernel
theorem dX6_feed_42 : decode cX6_feed 42 = .ok (.ifCond .lt 26, 3) := by decide +kernel
theorem dX6_feed_45 : decode cX6_feed 45 = .ok (.aload_n 0, 1) := by decide +kernel
theorem dX6_feed_46 : decode cX6_feed 46 = .ok (.getfield 29, 3) := by decide +kernel
theorem dX6_feed_49 : decode cX6_feed 49 = .ok (.iload_n 1, 1) := by decide +kernel
theorem dX6_feed_50 : decode cX6_feed 50 = .ok (.bipush 8, 2) := by decide +kernel
theorem dX6_feed_52 : decode cX6_feed 52 = .ok (.iload_n 3, 1) := by decide +kernel
theorem dX6_feed_53 : decode cX6_feed 53 = .ok (.imul, 1) := by decide +kernel
theorem dX6_feed_54 : decode cX6_feed 54 = .ok (.iushr, 1) := by decide +kernel
theorem dX6_feed_55 : decode cX6_feed 55 = .ok (.sipush 255, 3) := by decide +kernel
theorem dX6_feed_58 : decode cX6_feed 58 = .ok (.iand, 1) := by decide +kernel
theorem dX6_feed_59 : decode cX6_feed 59 = .ok (.invokevirtual 223, 3) := by decide +kernel
theorem dX6_feed_62 : decode cX6_feed 62 = .ok (.iinc 3 (-1), 3) := by decide +kernel
theorem dX6_feed_65 : decode cX6_feed 65 = .ok (.goto (-24), 3) := by decide +kernel
theorem dX6_feed_68 : decode cX6_feed 68 = .ok (.aload_n 0, 1) := by decide +kernel
theorem dX6_feed_69 : decode cX6_feed 69 = .ok (.getfield 29, 3) := by decide +kernel
theorem dX6_feed_72 : decode cX6_feed 72 = .ok (.getfield 220, 3) := by decide +kernel
theorem dX6_feed_75 : decode cX6_feed 75 = .ok (.ireturn, 1) := by decide +kernel
theorem dX6_wipe_0 : decode cX6_wipe 0 = .ok (.aload_n 0, 1) := by decide +kernel
theorem dX6_wipe_1 : decode cX6_wipe 1 = .ok (.getfield 29, 3) := by decide +kernel
theorem dX6_wipe_4 : decode cX6_wipe 4 = .ok (.getfield 220, 3) := by decide +kernel
theorem dX6_wipe_7 : decode cX6_wipe 7 = .ok (.istore_n 1, 1) := by decide +kernel
theorem dX6_wipe_8 : decode cX6_wipe 8 = .ok (.aload_n 0, 1) := by decide +kernel
theorem dX6_wipe_9 : decode cX6_wipe 9 = .ok (.getfield 29, 3) := by decide +kernel
theorem dX6_wipe_12 : decode cX6_wipe 12 = .ok (.iconst 0, 1) := by decide +kernel
theorem dX6_wipe_13 : decode cX6_wipe 13 = .ok (.putfield 220, 3) := by decide +kernel
theorem dX6_wipe_16 : decode cX6_wipe 16 = .ok (.iload_n 1, 1) := by decide +kernel
theorem dX6_wipe_17 : decode cX6_wipe 17 = .ok (.ireturn, 1) := by decide +kernel
theorem dX6_lake_0 : decode cX6_lake 0 = .ok (.aload_n 0, 1) := by decide +kernel
theorem dX6_lake_1 : decode cX6_lake 1 = .ok (.getfield 16, 3) := by decide +kernel
theorem dX6_lake_4 : decode cX6_lake 4 = .ok (.aload_n 0, 1) := by decide +kernel
theorem dX6_lake_5 : decode cX6_lake 5 = .ok (.getfield 10, 3) := by decide +kernel
theorem dX6_lake_8 : decode cX6_lake 8 = .ok (.invokevirtual 188, 3) := by decide +kernel
theorem dX6_lake_11 : decode cX6_lake 11 = .ok (.aload_n 0, 1) := by decide +kernel
theorem dX6_lake_12 : decode cX6_lake 12 = .ok (.getfield 38, 3) := by decide +kernel
theorem dX6_lake_15 : decode cX6_lake 15 = .ok (.aload_n 0, 1) := by decide +kernel
theorem dX6_lake_16 : decode cX6_lake 16 = .ok (.getfield 16, 3) := by decide +kernel
theorem dX6_lake_19 : decode cX6_lake 19 = .ok (.invokevirtual 226, 3) := by decide +kernel
theorem dX6_lake_22 : decode cX6_lake 22 = .ok (.istore_n 1, 1) := by decide +kernel
theorem dX6_lake_23 : decode cX6_lake 23 = .ok (.iload_n 1, 1) := by decide +kernel
theorem dX6_lake_24 : decode cX6_lake 24 = .ok (.ifCond .lt 14, 3) := by decide +kernel
theorem dX6_lake_27 : decode cX6_lake 27 = .ok (.aload_n 0, 1) := by decide +kernel
theorem dX6_lake_28 : decode cX6_lake 28 = .ok (.getfield 10, 3) := by decide +kernel
theorem dX6_lake_31 : decode cX6_lake 31 = .ok (.aload_n 0, 1) := by decide +kernel
theorem dX6_lake_32 : decode cX6_lake 32 = .ok (.getfield 16, 3) := by decide +kernel
theorem dX6_lake_35 : decode cX6_lake 35 = .ok (.invokevirtual 188, 3) := by decide +kernel
theorem dX6_lake_38 : decode cX6_lake 38 = .ok (.aload_n 0, 1) := by decide +kernel
theorem dX6_lake_39 : decode cX6_lake 39 = .ok (.getfield 29, 3) := by decide +kernel
theorem dX6_lake_42 : decode cX6_lake 42 = .ok (.iconst 0, 1) := by decide +kernel
theorem dX6_lake_43 : decode cX6_lake 43 = .ok (.putfield 220, 3) := by decide +kernel
theorem dX6_lake_46 : decode cX6_lake 46 = .ok (.iload_n 1, 1) := by decide +kernel
theorem dX6_lake_47 : decode cX6_lake 47 = .ok (.ireturn, 1) := by decide +kernel
theorem dX6_sheet_0 : decode cX6_sheet 0 = .ok (.iload_n 1, 1) := by decide +kernel
theorem dX6_sheet_1 : decode cX6_sheet 1 = .ok (.invokestatic 230, 3) := by decide +kernel
theorem dX6_sheet_4 : decode cX6_sheet 4 = .ok (.ifCond .eq 25, 3) := by decide +kernel
theorem dX6_sheet_7 : decode cX6_sheet 7 = .ok (.iload_n 2, 1) := by decide +kernel
theorem dX6_sheet_8 : decode cX6_sheet 8 = .ok (.ifCond .eq 28, 3) := by decide +kernel
theorem dX6_sheet_11 : decode cX6_sheet 11 = .ok (.iload_n 2, 1) := by decide +kernel
theorem dX6_sheet_12 : decode cX6_sheet 12 = .ok (.bipush 8, 2) := by decide +kernel
theorem dX6_sheet_14 : decode cX6_sheet 14 = .ok (.if_icmp .eq 22, 3) := by decide +kernel
theorem dX6_sheet_17 : decode cX6_sheet 17 = .ok (.iload_n 2, 1) := by decide +kernel
theorem dX6_sheet_18 : decode cX6_sheet 18 = .ok (.bipush 16, 2) := by decide +kernel
theorem dX6_sheet_20 : decode cX6_sheet 20 = .ok (.if_icmp .eq 16, 3) := by decide +kernel
theorem dX6_sheet_23 : decode cX6_sheet 23 = .ok (.iload_n 2, 1) := by decide +kernel
theorem dX6_sheet_24 : decode cX6_sheet 24 = .ok (.bipush 64, 2) := by decide +kernel
theorem dX6_sheet_26 : decode cX6_sheet 26 = .ok (.if_icmp .eq 10, 3) := by decide +kernel
theorem dX6_sheet_29 : decode cX6_sheet 29 = .ok (.aload_n 0, 1) := by decide +kernel
theorem dX6_sheet_30 : decode cX6_sheet 30 = .ok (.ldc 64, 2) := by decide +kernel
theorem dX6_sheet_32 : decode cX6_sheet 32 = .ok (.invokevirtual 65, 3) := by decide +kernel
theorem dX6_sheet_35 : decode cX6_sheet 35 = .ok (.ireturn, 1) := by decide +kernel
theorem dX6_sheet_36 : decode cX6_sheet 36 = .ok (.iload_n 3, 1) := by decide +kernel
theorem dX6_sheet_37 : decode cX6_sheet 37 = .ok (.ifCond .ge 10, 3) := by decide +kernel
theorem dX6_sheet_40 : decode cX6_sheet 40 = .ok (.aload_n 0, 1) := by decide +kernel
theorem dX6_sheet_41 : decode cX6_sheet 41 = .ok (.ldc 233, 2) := by decide +kernel
theorem dX6_sheet_43 : decode cX6_sheet 43 = .ok (.invokevirtual 65, 3) := by decide +kernel
theorem dX6_sheet_46 : decode cX6_sheet 46 = .ok (.ireturn, 1) := by decide +kernel
theorem dX6_sheet_47 : decode cX6_sheet 47 = .ok (.iload_n 3, 1) := by decide +kernel
theorem dX6_sheet_48 : decode cX6_sheet 48 = .ok (.bipush 40, 2) := by decide +kernel
theorem dX6_sheet_50 : decode cX6_sheet 50 = .ok (.if_icmp .le 10, 3) := by decide +kernel
theorem dX6_sheet_53 : decode cX6_sheet 53 = .ok (.aload_n 0, 1) := by decide +kernel
theorem dX6_sheet_54 : decode cX6_sheet 54 = .ok (.ldc 64, 2) := by decide +kernel
theorem dX6_sheet_56 : decode cX6_sheet 56 = .ok (.invokevirtual 65, 3) := by decide +kernel
theorem dX6_sheet_59 : decode cX6_sheet 59 = .ok (.ireturn, 1) := by decide +kernel
theorem dX6_sheet_60 : decode cX6_sheet 60 = .ok (.aload_n 0, 1) := by decide +kernel
theorem dX6_sheet_61 : decode cX6_sheet 61 = .ok (.getfield 44, 3) := by decide +kernel
theorem dX6_sheet_64 : decode cX6_sheet 64 = .ok (.iload_n 1, 1) := by decide +kernel
theorem dX6_sheet_65 : decode cX6_sheet 65 = .ok (.aaload, 1) := by decide +kernel
theorem dX6_sheet_66 : decode cX6_sheet 66 = .ok (.iload_n 2, 1) := by decide +kernel
theorem dX6_sheet_67 : decode cX6_sheet 67 = .ok (.iload_n 2, 1) := by decide +kernel
theorem dX6_sheet_68 : decode cX6_sheet 68 = .ok (.ifCond .ne 7, 3) := by decide +kernel
theorem dX6_sheet_71 : decode cX6_sheet 71 = .ok (.iconst 0, 1) := by decide +kernel
theorem dX6_sheet_72 : decode cX6_sheet 72 = .ok (.goto 4, 3) := by decide +kernel
theorem dX6_sheet_75 : decode cX6_sheet 75 = .ok (.iload_n 3, 1) := by decide +kernel
theorem dX6_sheet_76 : decode cX6_sheet 76 = .ok (.invokevirtual 234, 3) := by decide +kernel
theorem dX6_sheet_79 : decode cX6_sheet 79 = .ok (.aload_n 0, 1) := by decide +kernel
theorem dX6_sheet_80 : decode cX6_sheet 80 = .ok (.getfield 44, 3) := by decide +kernel
theorem dX6_sheet_83 : decode cX6_sheet 83 = .ok (.iload_n 1, 1) := by decide +kernel
theorem dX6_sheet_84 : decode cX6_sheet 84 = .ok (.aaload, 1) := by decide +kernel
theorem dX6_sheet_85 : decode cX6_sheet 85 = .ok (.getfield 237, 3) := by decide +kernel
theorem dX6_sheet_88 : decode cX6_sheet 88 = .ok (.ireturn, 1) := by decide +kernel
theorem dX6_write_0 : decode cX6_write 0 = .ok (.iload_n 1, 1) := by decide +kernel
theorem dX6_write_1 : decode cX6_write 1 = .ok (.invokestatic 230, 3) := by decide +kernel
theorem dX6_write_4 : decode cX6_write 4 = .ok (.ifCond .ne 11, 3) := by decide +kernel
theorem dX6_write_7 : decode cX6_write 7 = .ok (.aload_n 0, 1) := by decide +kernel
theorem dX6_write_8 : decode cX6_write 8 = .ok (.ldc 64, 2) := by decide +kernel
theorem dX6_write_10 : decode cX6_write 10 = .ok (.invokevirtual 65, 3) := by decide +kernel
theorem dX6_write_13 : decode cX6_write 13 = .ok (.i2l, 1) := by decide +kernel
theorem dX6_write_14 : decode cX6_write 14 = .ok (.lreturn, 1) := by decide +kernel
theorem dX6_write_15 : decode cX6_write 15 = .ok (.aload_n 0, 1) := by decide +kernel
theorem dX6_write_16 : decode cX6_write 16 = .ok (.getfield 44, 3) := by decide +kernel
theorem dX6_write_19 : decode cX6_write 19 = .ok (.iload_n 1, 1) := by decide +kernel
theorem dX6_write_20 : decode cX6_write 20 = .ok (.aaload, 1) := by decide +kernel
theorem dX6_write_21 : decode cX6_write 21 = .ok (.invokevirtual 240, 3) := by decide +kernel
theorem dX6_write_24 : decode cX6_write 24 = .ok (.ifCond .eq 11, 3) := by decide +kernel
theorem dX6_write_27 : decode cX6_write 27 = .ok (.aload_n 0, 1) := by decide +kernel
theorem dX6_write_28 : decode cX6_write 28 = .ok (.ldc 244, 2) := by decide +kernel
theorem dX6_write_30 : decode cX6_write 30 = .ok (.invokevirtual 65, 3) := by decide +kernel
theorem dX6_write_33 : decode cX6_write 33 = .ok (.i2l, 1) := by decide +kernel
theorem dX6_write_34 : decode cX6_write 34 = .ok (.lreturn, 1) := by decide +kernel
theorem dX6_write_35 : decode cX6_write 35 = .ok (.iload_n 2, 1) := by decide +kernel
theorem dX6_write_36 : decode cX6_write 36 = .ok (.ifCond .lt 16, 3) := by decide +kernel
theorem dX6_write_39 : decode cX6_write 39 = .ok (.iload_n 2, 1) := by decide +kernel
theorem dX6_write_40 : decode cX6_write 40 = .ok (.aload_n 0, 1) := by decide +kernel
theorem dX6_write_41 : decode cX6_write 41 = .ok (.getfield 44, 3) := by decide +kernel
theorem dX6_write_44 : decode cX6_write 44 = .ok (.iload_n 1, 1) := by decide +kernel
theorem dX6_write_45 : decode cX6_write 45 = .ok (.aaload, 1) := by decide +kernel
theorem dX6_write_46 : decode cX6_write 46 = .ok (.getfield 237, 3) := by decide +kernel
theorem dX6_write_49 : decode cX6_write 49 = .ok (.if_icmp .lt 11, 3) := by decide +kernel
theorem dX6_write_52 : decode cX6_write 52 = .ok (.aload_n 0, 1) := by decide +kernel
theorem dX6_write_53 : decode cX6_write 53 = .ok (.ldc 64, 2) := by decide +kernel
theorem dX6_write_55 : decode cX6_write 55 = .ok (.invokevirtual 65, 3) := by decide +kernel
theorem dX6_write_58 : decode cX6_write 58 = .ok (.i2l, 1) := by decide +kernel
theorem dX6_write_59 : decode cX6_write 59 = .ok (.lreturn, 1) := by decide +kernel
theorem dX6_write_60 : decode cX6_write 60 = .ok (.aload_n 0, 1) := by decide +kernel
theorem dX6_write_61 : decode cX6_write 61 = .ok (.getfield 44, 3) := by decide +kernel
theorem dX6_write_64 : decode cX6_write 64 = .ok (.iload_n 1, 1) := by decide +kernel
theorem dX6_write_65 : decode cX6_write 65 = .ok (.aaload, 1) := by decide +kernel
theorem dX6_write_66 : decode cX6_write 66 = .ok (.getfield 245, 3) := by decide +kernel
theorem dX6_write_69 : decode cX6_write 69 = .ok (.iload_n 2, 1) := by decide +kernel
theorem dX6_write_70 : decode cX6_write 70 = .ok (.laload, 1) := by decide +kernel
theorem dX6_write_71 : decode cX6_write 71 = .ok (.lstore 5, 2) := by decide +kernel
theorem dX6_write_73 : decode cX6_write 73 = .ok (.aload_n 0, 1) := by decide +kernel
theorem dX6_write_74 : decode cX6_write 74 = .ok (.getfield 44, 3) := by decide +kernel
theorem dX6_write_77 : decode cX6_write 77 = .ok (.iload_n 1, 1) := by decide +kernel
theorem dX6_write_78 : decode cX6_write 78 = .ok (.aaload, 1) := by decide +kernel
theorem dX6_write_79 : decode cX6_write 79 = .ok (.iload_n 2, 1) := by decide +kernel
theorem dX6_write_80 : decode cX6_write 80 = .ok (.lload_n 3, 1) := by decide +kernel
theorem dX6_write_81 : decode cX6_write 81 = .ok (.invokevirtual 249, 3) := by decide +kernel
theorem dX6_write_84 : decode cX6_write 84 = .ok (.lload 5, 2) := by decide +kernel
theorem dX6_write_86 : decode cX6_write 86 = .ok (.lreturn, 1) := by decide +kernel
theorem dX6_copy_0 : decode cX6_copy 0 = .ok (.iload_n 1, 1) := by decide +kernel
theorem dX6_copy_1 : decode cX6_copy 1 = .ok (.invokestatic 230, 3) := by decide +kernel
theorem dX6_copy_4 : decode cX6_copy 4 = .ok (.ifCond .eq 10, 3) := by decide +kernel
theorem dX6_copy_7 : decode cX6_copy 7 = .ok (.iload_n 3, 1) := by decide +kernel
theorem dX6_copy_8 : decode cX6_copy 8 = .ok (.invokestatic 230, 3) := by decide +kernel
theorem dX6_copy_11 : decode cX6_copy 11 = .ok (.ifCond .ne 10, 3) := by decide +kernel
theorem dX6_copy_14 : decode cX6_copy 14 = .ok (.aload_n 0, 1) := by decide +kernel
theorem dX6_copy_15 : decode cX6_copy 15 = .ok (.ldc 64, 2) := by decide +kernel
theorem dX6_copy_17 : decode cX6_copy 17 = .ok (.invokevirtual 65, 3) := by decide +kernel
theorem dX6_copy_20 : decode cX6_copy 20 = .ok (.ireturn, 1) := by decide +kernel
theorem dX6_copy_21 : decode cX6_copy 21 = .ok (.aload_n 0, 1) := by decide +kernel
theorem dX6_copy_22 : decode cX6_copy 22 = .ok (.getfield 44, 3) := by decide +kernel
theorem dX6_copy_25 : decode cX6_copy 25 = .ok (.iload_n 1, 1) := by decide +kernel
theorem dX6_copy_26 : decode cX6_copy 26 = .ok (.aaload, 1) := by decide +kernel
theorem dX6_copy_27 : decode cX6_copy 27 = .ok (.astore 6, 2) := by decide +kernel
theorem dX6_copy_29 : decode cX6_copy 29 = .ok (.aload_n 0, 1) := by decide +kernel
theorem dX6_copy_30 : decode cX6_copy 30 = .ok (.getfield 44, 3) := by decide +kernel
theorem dX6_copy_33 : decode cX6_copy 33 = .ok (.iload_n 3, 1) := by decide +kernel
theorem dX6_copy_34 : decode cX6_copy 34 = .ok (.aaload, 1) := by decide +kernel
theorem dX6_copy_35 : decode cX6_copy 35 = .ok (.astore 7, 2) := by decide +kernel
theorem dX6_copy_37 : decode cX6_copy 37 = .ok (.aload 6, 2) := by decide +kernel
theorem dX6_copy_39 : decode cX6_copy 39 = .ok (.invokevirtual 240, 3) := by decide +kernel
theorem dX6_copy_42 : decode cX6_copy 42 = .ok (.ifCond .ne 11, 3) := by decide +kernel
theorem dX6_copy_45 : decode cX6_copy 45 = .ok (.aload 7, 2) := by decide +kernel
theorem dX6_copy_47 : decode cX6_copy 47 = .ok (.invokevirtual 240, 3) := by decide +kernel
theorem dX6_copy_50 : decode cX6_copy 50 = .ok (.ifCond .eq 10, 3) := by decide +kernel
theorem dX6_copy_53 : decode cX6_copy 53 = .ok (.aload_n 0, 1) := by decide +kernel
theorem dX6_copy_54 : decode cX6_copy 54 = .ok (.ldc 244, 2) := by decide +kernel
theorem dX6_copy_56 : decode cX6_copy 56 = .ok (.invokevirtual 65, 3) := by decide +kernel
theorem dX6_copy_59 : decode cX6_copy 59 = .ok (.ireturn, 1) := by decide +kernel
theorem dX6_copy_60 : decode cX6_copy 60 = .ok (.aload 6, 2) := by decide +kernel
theorem dX6_copy_62 : decode cX6_copy 62 = .ok (.getfield 253, 3) := by decide +kernel
theorem dX6_copy_65 : decode cX6_copy 65 = .ok (.aload 7, 2) := by decide +kernel
theorem dX6_copy_67 : decode cX6_copy 67 = .ok (.getfield 253, 3) := by decide +kernel
theorem dX6_copy_70 : decode cX6_copy 70 = .ok (.if_icmp .eq 10, 3) := by decide +kernel
theorem dX6_copy_73 : decode cX6_copy 73 = .ok (.aload_n 0, 1) := by decide +kernel
theorem dX6_copy_74 : decode cX6_copy 74 = .ok (.ldc 139, 2) := by decide +kernel
theorem dX6_copy_76 : decode cX6_copy 76 = .ok (.invokevirtual 65, 3) := by decide +kernel
theorem dX6_copy_79 : decode cX6_copy 79 = .ok (.ireturn, 1) := by decide +kernel
theorem dX6_copy_80 : decode cX6_copy 80 = .ok (.aload 6, 2) := by decide +kernel
theorem dX6_copy_82 : decode cX6_copy 82 = .ok (.iload_n 2, 1) := by decide +kernel
theorem dX6_copy_83 : decode cX6_copy 83 = .ok (.iload 5, 2) := by decide +kernel
theorem dX6_copy_85 : decode cX6_copy 85 = .ok (.invokevirtual 256, 3) := by decide +kernel
theorem dX6_copy_88 : decode cX6_copy 88 = .ok (.ifCond .eq 15, 3) := by decide +kernel
theorem dX6_copy_91 : decode cX6_copy 91 = .ok (.aload 7, 2) := by decide +kernel
theorem dX6_copy_93 : decode cX6_copy 93 = .ok (.iload 4, 2) := by decide +kernel
theorem dX6_copy_95 : decode cX6_copy 95 = .ok (.iload 5, 2) := by decide +kernel
theorem dX6_copy_97 : decode cX6_copy 97 = .ok (.invokevirtual 256, 3) := by decide +kernel
theorem dX6_copy_100 : decode cX6_copy 100 = .ok (.ifCond .ne 10, 3) := by decide +kernel
theorem dX6_copy_103 : decode cX6_copy 103 = .ok (.aload_n 0, 1) := by decide +kernel
theorem dX6_copy_104 : decode cX6_copy 104 = .ok (.ldc 64, 2) := by decide +kernel
theorem dX6_copy_106 : decode cX6_copy 106 = .ok (.invokevirtual 65, 3) := by decide +kernel
theorem dX6_copy_109 : decode cX6_copy 109 = .ok (.ireturn, 1) := by decide +kernel
theorem dX6_copy_110 : decode cX6_copy 110 = .ok (.aload 6, 2) := by decide +kernel
theorem dX6_copy_112 : decode cX6_copy 112 = .ok (.getfield 245, 3) := by decide +kernel
theorem dX6_copy_115 : decode cX6_copy 115 = .ok (.iload_n 2, 1) := by decide +kernel
theorem dX6_copy_116 : decode cX6_copy 116 = .ok (.aload 7, 2) := by decide +kernel
theorem dX6_copy_118 : decode cX6_copy 118 = .ok (.getfield 245, 3) := by decide +kernel
theorem dX6_copy_121 : decode cX6_copy 121 = .ok (.iload 4, 2) := by decide +kernel
theorem dX6_copy_123 : decode cX6_copy 123 = .ok (.iload 5, 2) := by decide +kernel
theorem dX6_copy_125 : decode cX6_copy 125 = .ok (.invokestatic 260, 3) := by decide +kernel
theorem dX6_copy_128 : decode cX6_copy 128 = .ok (.iload 5, 2) := by decide +kernel
theorem dX6_copy_130 : decode cX6_copy 130 = .ok (.ireturn, 1) := by decide +kernel
theorem dX6_lays_0 : decode cX6_lays 0 = .ok (.iload_n 1, 1) := by decide +kernel
theorem dX6_lays_1 : decode cX6_lays 1 = .ok (.invokestatic 230, 3) := by decide +kernel
theorem dX6_lays_4 : decode cX6_lays 4 = .ok (.ifCond .ne 10, 3) := by decide +kernel
theorem dX6_lays_7 : decode cX6_lays 7 = .ok (.aload_n 0, 1) := by decide +kernel
theorem dX6_lays_8 : decode cX6_lays 8 = .ok (.ldc 64, 2) := by decide +kernel
theorem dX6_lays_10 : decode cX6_lays 10 = .ok (.invokevirtual 65, 3) := by decide +kernel
theorem dX6_lays_13 : decode cX6_lays 13 = .ok (.ireturn, 1) := by decide +kernel
theorem dX6_lays_14 : decode cX6_lays 14 = .ok (.aload_n 0, 1) := by decide +kernel
theorem dX6_lays_15 : decode cX6_lays 15 = .ok (.getfield 44, 3) := by decide +kernel
theorem dX6_lays_18 : decode cX6_lays 18 = .ok (.iload_n 1, 1) := by decide +kernel
theorem dX6_lays_19 : decode cX6_lays 19 = .ok (.aaload, 1) := by decide +kernel
theorem dX6_lays_20 : decode cX6_lays 20 = .ok (.invokevirtual 240, 3) := by decide +kernel
theorem dX6_lays_23 : decode cX6_lays 23 = .ok (.ifCond .eq 10, 3) := by decide +kernel
theorem dX6_lays_26 : decode cX6_lays 26 = .ok (.aload_n 0, 1) := by decide +kernel
theorem dX6_lays_27 : decode cX6_lays 27 = .ok (.ldc 244, 2) := by decide +kernel
theorem dX6_lays_29 : decode cX6_lays 29 = .ok (.invokevirtual 65, 3) := by decide +kernel
theorem dX6_lays_32 : decode cX6_lays 32 = .ok (.ireturn, 1) := by decide +kernel
theorem dX6_lays_33 : decode cX6_lays 33 = .ok (.iconst 0, 1) := by decide +kernel
theorem dX6_lays_34 : decode cX6_lays 34 = .ok (.istore_n 2, 1) := by decide +kernel
theorem dX6_lays_35 : decode cX6_lays 35 = .ok (.aload_n 0, 1) := by decide +kernel
theorem dX6_lays_36 : decode cX6_lays 36 = .ok (.getfield 44, 3) := by decide +kernel
theorem dX6_lays_39 : decode cX6_lays 39 = .ok (.iload_n 1, 1) := by decide +kernel
theorem dX6_lays_40 : decode cX6_lays 40 = .ok (.aaload, 1) := by decide +kernel
theorem dX6_lays_41 : decode cX6_lays 41 = .ok (.getfield 237, 3) := by decide +kernel
theorem dX6_lays_44 : decode cX6_lays 44 = .ok (.aload_n 0, 1) := by decide +kernel
theorem dX6_lays_45 : decode cX6_lays 45 = .ok (.getfield 10, 3) := by decide +kernel
theorem dX6_lays_48 : decode cX6_lays 48 = .ok (.getfield 91, 3) := by decide +kernel
theorem dX6_lays_51 : decode cX6_lays 51 = .ok (.invokestatic 205, 3) := by decide +kernel
theorem dX6_lays_54 : decode cX6_lays 54 = .ok (.istore_n 3, 1) := by decide +kernel
theorem dX6_lays_55 : decode cX6_lays 55 = .ok (.iconst 0, 1) := by decide +kernel
theorem dX6_lays_56 : decode cX6_lays 56 = .ok (.istore 4, 2) := by decide +kernel
theorem dX6_lays_58 : decode cX6_lays 58 = .ok (.iload 4, 2) := by decide +kernel
theorem dX6_lays_60 : decode cX6_lays 60 = .ok (.iload_n 3, 1) := by decide +kernel
theorem dX6_lays_61 : decode cX6_lays 61 = .ok (.if_icmp .ge 58, 3) := by decide +kernel
theorem dX6_lays_64 : decode cX6_lays 64 = .ok (.aload_n 0, 1) := by decide +kernel
theorem dX6_lays_65 : decode cX6_lays 65 = .ok (.getfield 44, 3) := by decide +kernel
theorem dX6_lays_68 : decode cX6_lays 68 = .ok (.iload_n 1, 1) := by decide +kernel
theorem dX6_lays_69 : decode cX6_lays 69 = .ok (.aaload, 1) := by decide +kernel
theorem dX6_lays_70 : decode cX6_lays 70 = .ok (.getfield 245, 3) := by decide +kernel
theorem dX6_lays_73 : decode cX6_lays 73 = .ok (.iload 4, 2) := by decide +kernel
theorem dX6_lays_75 : decode cX6_lays 75 = .ok (.laload, 1) := by decide +kernel
theorem dX6_lays_76 : decode cX6_lays 76 = .ok (.lstore 5, 2) := by decide +kernel
theorem dX6_lays_78 : decode cX6_lays 78 = .ok (.lload 5, 2) := by decide +kernel
theorem dX6_lays_80 : decode cX6_lays 80 = .ok (.lconst 0, 1) := by decide +kernel
theorem dX6_lays_81 : decode cX6_lays 81 = .ok (.lcmp, 1) := by decide +kernel
theorem dX6_lays_82 : decode cX6_lays 82 = .ok (.ifCond .lt 31, 3) := by decide +kernel
theorem dX6_lays_85 : decode cX6_lays 85 = .ok (.lload 5, 2) := by decide +kernel
theorem dX6_lays_87 : decode cX6_lays 87 = .ok (.ldc2_w 266, 3) := by decide +kernel
theorem dX6_lays_90 : decode cX6_lays 90 = .ok (.lcmp, 1) := by decide +kernel
theorem dX6_lays_91 : decode cX6_lays 91 = .ok (.ifCond .gt 22, 3) := by decide +kernel
theorem dX6_lays_94 : decode cX6_lays 94 = .ok (.aload_n 0, 1) := by decide +kernel
theorem dX6_lays_95 : decode cX6_lays 95 = .ok (.getfield 10, 3) := by decide +kernel
theorem dX6_lays_98 : decode cX6_lays 98 = .ok (.getfield 102, 3) := by decide +kernel
theorem dX6_lays_101 : decode cX6_lays 101 = .ok (.iload 4, 2) := by decide +kernel
theorem dX6_lays_103 : decode cX6_lays 103 = .ok (.aaload, 1) := by decide +kernel
theorem dX6_lays_104 : decode cX6_lays 104 = .ok (.lload 5, 2) := by decide +kernel
theorem dX6_lays_106 : decode cX6_lays 106 = .ok (.l2i, 1) := by decide +kernel
theorem dX6_lays_107 : decode cX6_lays 107 = .ok (.putfield 117, 3) := by decide +kernel
theorem dX6_lays_110 : decode cX6_lays 110 = .ok (.iinc 2 1, 3) := by decide +kernel
theorem dX6_lays_113 : decode cX6_lays 113 = .ok (.iinc 4 1, 3) := by decide +kernel
theorem dX6_lays_116 : decode cX6_lays 116 = .ok (.goto (-58), 3) := by decide +kernel
theorem dX6_lays_119 : decode cX6_lays 119 = .ok (.iload_n 2, 1) := by decide +kernel
theorem dX6_lays_120 : decode cX6_lays 120 = .ok (.ireturn, 1) := by decide +kernel
theorem dX6_book_0 : decode cX6_book 0 = .ok (.iload_n 1, 1) := by decide +kernel
theorem dX6_book_1 : decode cX6_book 1 = .ok (.invokestatic 230, 3) := by decide +kernel
theorem dX6_book_4 : decode cX6_book 4 = .ok (.ifCond .ne 10, 3) := by decide +kernel
theorem dX6_book_7 : decode cX6_book 7 = .ok (.aload_n 0, 1) := by decide +kernel
theorem dX6_book_8 : decode cX6_book 8 = .ok (.ldc 64, 2) := by decide +kernel
theorem dX6_book_10 : decode cX6_book 10 = .ok (.invokevirtual 65, 3) := by decide +kernel
theorem dX6_book_13 : decode cX6_book 13 = .ok (.ireturn, 1) := by decide +kernel
theorem dX6_book_14 : decode cX6_book 14 = .ok (.aload_n 0, 1) := by decide +kernel
theorem dX6_book_15 : decode cX6_book 15 = .ok (.getfield 44, 3) := by decide +kernel
theorem dX6_book_18 : decode cX6_book 18 = .ok (.iload_n 1, 1) := by decide +kernel
theorem dX6_book_19 : decode cX6_book 19 = .ok (.aaload, 1) := by decide +kernel
theorem dX6_book_20 : decode cX6_book 20 = .ok (.invokevirtual 240, 3) := by decide +kernel
theorem dX6_book_23 : decode cX6_book 23 = .ok (.ifCond .eq 10, 3) := by decide +kernel
theorem dX6_book_26 : decode cX6_book 26 = .ok (.aload_n 0, 1) := by decide +kernel
theorem dX6_book_27 : decode cX6_book 27 = .ok (.ldc 244, 2) := by decide +kernel
theorem dX6_book_29 : decode cX6_book 29 = .ok (.invokevirtual 65, 3) := by decide +kernel
theorem dX6_book_32 : decode cX6_book 32 = .ok (.ireturn, 1) := by decide +kernel
theorem dX6_book_33 : decode cX6_book 33 = .ok (.aload_n 0, 1) := by decide +kernel
theorem dX6_book_34 : decode cX6_book 34 = .ok (.iload_n 2, 1) := by decide +kernel
theorem dX6_book_35 : decode cX6_book 35 = .ok (.invokevirtual 147, 3) := by decide +kernel
theorem dX6_book_38 : decode cX6_book 38 = .ok (.ifCond .ne 10, 3) := by decide +kernel
theorem dX6_book_41 : decode cX6_book 41 = .ok (.aload_n 0, 1) := by decide +kernel
theorem dX6_book_42 : decode cX6_book 42 = .ok (.ldc 64, 2) := by decide +kernel
theorem dX6_book_44 : decode cX6_book 44 = .ok (.invokevirtual 65, 3) := by decide +kernel
theorem dX6_book_47 : decode cX6_book 47 = .ok (.ireturn, 1) := by decide +kernel
theorem dX6_book_48 : decode cX6_book 48 = .ok (.aload_n 0, 1) := by decide +kernel
theorem dX6_book_49 : decode cX6_book 49 = .ok (.getfield 16, 3) := by decide +kernel
theorem dX6_book_52 : decode cX6_book 52 = .ok (.aload_n 0, 1) := by decide +kernel
theorem dX6_book_53 : decode cX6_book 53 = .ok (.getfield 10, 3) := by decide +kernel
theorem dX6_book_56 : decode cX6_book 56 = .ok (.invokevirtual 188, 3) := by decide +kernel
theorem dX6_book_59 : decode cX6_book 59 = .ok (.iconst 0, 1) := by decide +kernel
theorem dX6_book_60 : decode cX6_book 60 = .ok (.istore_n 3, 1) := by decide +kernel
theorem dX6_book_61 : decode cX6_book 61 = .ok (.iload_n 3, 1) := by decide +kernel
theorem dX6_book_62 : decode cX6_book 62 = .ok (.aload_n 0, 1) := by decide +kernel
theorem dX6_book_63 : decode cX6_book 63 = .ok (.getfield 44, 3) := by decide +kernel
theorem dX6_book_66 : decode cX6_book 66 = .ok (.iload_n 1, 1) := by decide +kernel
theorem dX6_book_67 : decode cX6_book 67 = .ok (.aaload, 1) := by decide +kernel
theorem dX6_book_68 : decode cX6_book 68 = .ok (.getfield 237, 3) := by decide +kernel
theorem dX6_book_71 : decode cX6_book 71 = .ok (.if_icmp .ge 39, 3) := by decide +kernel
theorem dX6_book_74 : decode cX6_book 74 = .ok (.aload_n 0, 1) := by decide +kernel
theorem dX6_book_75 : decode cX6_book 75 = .ok (.getfield 44, 3) := by decide +kernel
theorem dX6_book_78 : decode cX6_book 78 = .ok (.iload_n 1, 1) := by decide +kernel
theorem dX6_book_79 : decode cX6_book 79 = .ok (.aaload, 1) := by decide +kernel
theorem dX6_book_80 : decode cX6_book 80 = .ok (.iload_n 3, 1) := by decide +kernel
theorem dX6_book_81 : decode cX6_book 81 = .ok (.aload_n 0, 1) := by decide +kernel
theorem dX6_book_82 : decode cX6_book 82 = .ok (.getfield 16, 3) := by decide +kernel
theorem dX6_book_85 : decode cX6_book 85 = .ok (.getfield 150, 3) := by decide +kernel
theorem dX6_book_88 : decode cX6_book 88 = .ok (.iload_n 2, 1) := by decide +kernel
theorem dX6_book_89 : decode cX6_book 89 = .ok (.aaload, 1) := by decide +kernel
theorem dX6_book_90 : decode cX6_book 90 = .ok (.getfield 162, 3) := by decide +kernel
theorem dX6_book_93 : decode cX6_book 93 = .ok (.i2l, 1) := by decide +kernel
theorem dX6_book_94 : decode cX6_book 94 = .ok (.invokevirtual 249, 3) := by decide +kernel
theorem dX6_book_97 : decode cX6_book 97 = .ok (.aload_n 0, 1) := by decide +kernel
theorem dX6_book_98 : decode cX6_book 98 = .ok (.getfield 16, 3) := by decide +kernel
theorem dX6_book_101 : decode cX6_book 101 = .ok (.invokevirtual 192, 3) := by decide +kernel
theorem dX6_book_104 : decode cX6_book 104 = .ok (.iinc 3 1, 3) := by decide +kernel
theorem dX6_book_107 : decode cX6_book 107 = .ok (.goto (-46), 3) := by decide +kernel
theorem dX6_book_110 : decode cX6_book 110 = .ok (.aload_n 0, 1) := by decide +kernel
theorem dX6_book_111 : decode cX6_book 111 = .ok (.getfield 44, 3) := by decide +kernel
theorem dX6_book_114 : decode cX6_book 114 = .ok (.iload_n 1, 1) := by decide +kernel
theorem dX6_book_115 : decode cX6_book 115 = .ok (.aaload, 1) := by decide +kernel
theorem dX6_book_116 : decode cX6_book 116 = .ok (.getfield 237, 3) := by decide +kernel
theorem dX6_book_119 : decode cX6_book 119 = .ok (.ireturn, 1) := by decide +kernel
theorem dX6_read_0 : decode cX6_read 0 = .ok (.iload_n 1, 1) := by decide +kernel
theorem dX6_read_1 : decode cX6_read 1 = .ok (.invokestatic 230, 3) := by decide +kernel
theorem dX6_read_4 : decode cX6_read 4 = .ok (.ifCond .ne 10, 3) := by decide +kernel
theorem dX6_read_7 : decode cX6_read 7 = .ok (.aload_n 0, 1) := by decide +kernel
theorem dX6_read_8 : decode cX6_read 8 = .ok (.ldc 64, 2) := by decide +kernel
theorem dX6_read_10 : decode cX6_read 10 = .ok (.invokevirtual 65, 3) := by decide +kernel
theorem dX6_read_13 : decode cX6_read 13 = .ok (.ireturn, 1) := by decide +kernel
theorem dX6_read_14 : decode cX6_read 14 = .ok (.aload_n 0, 1) := by decide +kernel
theorem dX6_read_15 : decode cX6_read 15 = .ok (.getfield 44, 3) := by decide +kernel
theorem dX6_read_18 : decode cX6_read 18 = .ok (.iload_n 1, 1) := by decide +kernel
theorem dX6_read_19 : decode cX6_read 19 = .ok (.aaload, 1) := by decide +kernel
theorem dX6_read_20 : decode cX6_read 20 = .ok (.invokevirtual 240, 3) := by decide +kernel
theorem dX6_read_23 : decode cX6_read 23 = .ok (.ifCond .eq 10, 3) := by decide +kernel
theorem dX6_read_26 : decode cX6_read 26 = .ok (.aload_n 0, 1) := by decide +kernel
theorem dX6_read_27 : decode cX6_read 27 = .ok (.ldc 244, 2) := by decide +kernel
theorem dX6_read_29 : decode cX6_read 29 = .ok (.invokevirtual 65, 3) := by decide +kernel
theorem dX6_read_32 : decode cX6_read 32 = .ok (.ireturn, 1) := by decide +kernel
theorem dX6_read_33 : decode cX6_read 33 = .ok (.aload_n 0, 1) := by decide +kernel
theorem dX6_read_34 : decode cX6_read 34 = .ok (.iload_n 2, 1) := by decide +kernel
theorem dX6_read_35 : decode cX6_read 35 = .ok (.invokevirtual 147, 3) := by decide +kernel
theorem dX6_read_38 : decode cX6_read 38 = .ok (.ifCond .ne 10, 3) := by decide +kernel
theorem dX6_read_41 : decode cX6_read 41 = .ok (.aload_n 0, 1) := by decide +kernel
theorem dX6_read_42 : decode cX6_read 42 = .ok (.ldc 64, 2) := by decide +kernel
theorem dX6_read_44 : decode cX6_read 44 = .ok (.invokevirtual 65, 3) := by decide +kernel
theorem dX6_read_47 : decode cX6_read 47 = .ok (.ireturn, 1) := by decide +kernel
theorem dX6_read_48 : decode cX6_read 48 = .ok (.iconst 0, 1) := by decide +kernel
theorem dX6_read_49 : decode cX6_read 49 = .ok (.istore_n 3, 1) := by decide +kernel
theorem dX6_read_50 : decode cX6_read 50 = .ok (.iconst 0, 1) := by decide +kernel
theorem dX6_read_51 : decode cX6_read 51 = .ok (.istore 4, 2) := by decide +kernel
theorem dX6_read_53 : decode cX6_read 53 = .ok (.iload 4, 2) := by decide +kernel
theorem dX6_read_55 : decode cX6_read 55 = .ok (.bipush 48, 2) := by decide +kernel
theorem dX6_read_57 : decode cX6_read 57 = .ok (.if_icmp .ge 28, 3) := by decide +kernel
theorem dX6_read_60 : decode cX6_read 60 = .ok (.aload_n 0, 1) := by decide +kernel
theorem dX6_read_61 : decode cX6_read 61 = .ok (.aload_n 0, 1) := by decide +kernel
theorem dX6_read_62 : decode cX6_read 62 = .ok (.getfield 44, 3) := by decide +kernel
theorem dX6_read_65 : decode cX6_read 65 = .ok (.iload_n 1, 1) := by decide +kernel
theorem dX6_read_66 : decode cX6_read 66 = .ok (.aaload, 1) := by decide +kernel
theorem dX6_read_67 : decode cX6_read 67 = .ok (.iload_n 2, 1) := by decide +kernel
theorem dX6_read_68 : decode cX6_read 68 = .ok (.iload 4, 2) := by decide +kernel
theorem dX6_read_70 : decode cX6_read 70 = .ok (.invokevirtual 268, 3) := by decide +kernel
theorem dX6_read_73 : decode cX6_read 73 = .ok (.ifCond .eq 6, 3) := by decide +kernel
theorem dX6_read_76 : decode cX6_read 76 = .ok (.iinc 3 1, 3) := by decide +kernel
theorem dX6_read_79 : decode cX6_read 79 = .ok (.iinc 4 1, 3) := by decide +kernel
theorem dX6_read_82 : decode cX6_read 82 = .ok (.goto (-29), 3) := by decide +kernel
theorem dX6_read_85 : decode cX6_read 85 = .ok (.iload_n 3, 1) := by decide +kernel
theorem dX6_read_86 : decode cX6_read 86 = .ok (.ireturn, 1) := by decide +kernel
theorem dX6_image_0 : decode cX6_image 0 = .ok (.aload_n 0, 1) := by decide +kernel
theorem dX6_image_1 : decode cX6_image 1 = .ok (.getfield 19, 3) := by decide +kernel
theorem dX6_image_4 : decode cX6_image 4 = .ok (.aload_n 0, 1) := by decide +kernel
theorem dX6_image_5 : decode cX6_image 5 = .ok (.getfield 10, 3) := by decide +kernel
theorem dX6_image_8 : decode cX6_image 8 = .ok (.invokevirtual 188, 3) := by decide +kernel
theorem dX6_image_11 : decode cX6_image 11 = .ok (.aload_n 0, 1) := by decide +kernel
theorem dX6_image_12 : decode cX6_image 12 = .ok (.iconst 1, 1) := by decide +kernel
theorem dX6_image_13 : decode cX6_image 13 = .ok (.putfield 22, 3) := by decide +kernel
theorem dX6_image_16 : decode cX6_image 16 = .ok (.iconst 1, 1) := by decide +kernel
theorem dX6_image_17 : decode cX6_image 17 = .ok (.ireturn, 1) := by decide +kernel
theorem dX6_undo_0 : decode cX6_undo 0 = .ok (.aload_n 0, 1) := by decide +kernel
theorem dX6_undo_1 : decode cX6_undo 1 = .ok (.getfield 22, 3) := by decide +kernel
theorem dX6_undo_4 : decode cX6_undo 4 = .ok (.ifCond .ne 10, 3) := by decide +kernel
theorem dX6_undo_7 : decode cX6_undo 7 = .ok (.aload_n 0, 1) := by decide +kernel
theorem dX6_undo_8 : decode cX6_undo 8 = .ok (.ldc 195, 2) := by decide +kernel
theorem dX6_undo_10 : decode cX6_undo 10 = .ok (.invokevirtual 65, 3) := by decide +kernel
theorem dX6_undo_13 : decode cX6_undo 13 = .ok (.ireturn, 1) := by decide +kernel
theorem dX6_undo_14 : decode cX6_undo 14 = .ok (.aload_n 0, 1) := by decide +kernel
theorem dX6_undo_15 : decode cX6_undo 15 = .ok (.getfield 10, 3) := by decide +kernel
theorem dX6_undo_18 : decode cX6_undo 18 = .ok (.aload_n 0, 1) := by decide +kernel
theorem dX6_undo_19 : decode cX6_undo 19 = .ok (.getfield 19, 3) := by decide +kernel
theorem dX6_undo_22 : decode cX6_undo 22 = .ok (.invokevirtual 188, 3) := by decide +kernel
theorem dX6_undo_25 : decode cX6_undo 25 = .ok (.aload_n 0, 1) := by decide +kernel
theorem dX6_undo_26 : decode cX6_undo 26 = .ok (.getfield 10, 3) := by decide +kernel
theorem dX6_undo_29 : decode cX6_undo 29 = .ok (.getfield 91, 3) := by decide +kernel
theorem dX6_undo_32 : decode cX6_undo 32 = .ok (.ireturn, 1) := by decide +kernel
theorem dX6_tear_0 : decode cX6_tear 0 = .ok (.aload_n 0, 1) := by decide +kernel
theorem dX6_tear_1 : decode cX6_tear 1 = .ok (.getfield 22, 3) := by decide +kernel
theorem dX6_tear_4 : decode cX6_tear 4 = .ok (.ifCond .eq 7, 3) := by decide +kernel
theorem dX6_tear_7 : decode cX6_tear 7 = .ok (.iconst 1, 1) := by decide +kernel
theorem dX6_tear_8 : decode cX6_tear 8 = .ok (.goto 4, 3) := by decide +kernel
theorem dX6_tear_11 : decode cX6_tear 11 = .ok (.iconst 0, 1) := by decide +kernel
theorem dX6_tear_12 : decode cX6_tear 12 = .ok (.istore_n 1, 1) := by decide +kernel
theorem dX6_tear_13 : decode cX6_tear 13 = .ok (.aload_n 0, 1) := by decide +kernel
theorem dX6_tear_14 : decode cX6_tear 14 = .ok (.iconst 0, 1) := by decide +kernel
theorem dX6_tear_15 : decode cX6_tear 15 = .ok (.putfield 22, 3) := by decide +kernel
theorem dX6_tear_18 : decode cX6_tear 18 = .ok (.iload_n 1, 1) := by decide +kernel
theorem dX6_tear_19 : decode cX6_tear 19 = .ok (.ireturn, 1) := by decide +kernel
theorem dX6_count_0 : decode cX6_count 0 = .ok (.iload_n 1, 1) := by decide +kernel
theorem dX6_count_1 : decode cX6_count 1 = .ok (.tableswitch 75 0 4 #[35, 43, 51, 59, 67], 35) := by decide +kernel
theorem dX6_count_36 : decode cX6_count 36 = .ok (.aload_n 0, 1) := by decide +kernel
theorem dX6_count_37 : decode cX6_count 37 = .ok (.getfield 10, 3) := by decide +kernel
theorem dX6_count_40 : decode cX6_count 40 = .ok (.getfield 91, 3) := by decide +kernel
theorem dX6_count_43 : decode cX6_count 43 = .ok (.ireturn, 1) := by decide +kernel
theorem dX6_count_44 : decode cX6_count 44 = .ok (.aload_n 0, 1) := by decide +kernel
theorem dX6_count_45 : decode cX6_count 45 = .ok (.getfield 29, 3) := by decide +kernel
theorem dX6_count_48 : decode cX6_count 48 = .ok (.getfield 220, 3) := by decide +kernel
theorem dX6_count_51 : decode cX6_count 51 = .ok (.ireturn, 1) := by decide +kernel
theorem dX6_count_52 : decode cX6_count 52 = .ok (.aload_n 0, 1) := by decide +kernel
theorem dX6_count_53 : decode cX6_count 53 = .ok (.getfield 10, 3) := by decide +kernel
theorem dX6_count_56 : decode cX6_count 56 = .ok (.getfield 140, 3) := by decide +kernel
theorem dX6_count_59 : decode cX6_count 59 = .ok (.ireturn, 1) := by decide +kernel
theorem dX6_count_60 : decode cX6_count 60 = .ok (.aload_n 0, 1) := by decide +kernel
theorem dX6_count_61 : decode cX6_count 61 = .ok (.getfield 10, 3) := by decide +kernel
theorem dX6_count_64 : decode cX6_count 64 = .ok (.invokevirtual 176, 3) := by decide +kernel
theorem dX6_count_67 : decode cX6_count 67 = .ok (.ireturn, 1) := by decide +kernel
theorem dX6_count_68 : decode cX6_count 68 = .ok (.aload_n 0, 1) := by decide +kernel
theorem dX6_count_69 : decode cX6_count 69 = .ok (.getfield 10, 3) := by decide +kernel
theorem dX6_count_72 : decode cX6_count 72 = .ok (.invokevirtual 202, 3) := by decide +kernel
theorem dX6_count_75 : decode cX6_count 75 = .ok (.ireturn, 1) := by decide +kernel
theorem dX6_count_76 : decode cX6_count 76 = .ok (.aload_n 0, 1) := by decide +kernel
theorem dX6_count_77 : decode cX6_count 77 = .ok (.ldc 64, 2) := by decide +kernel
theorem dX6_count_79 : decode cX6_count 79 = .ok (.invokevirtual 65, 3) := by decide +kernel
theorem dX6_count_82 : decode cX6_count 82 = .ok (.ireturn, 1) := by decide +kernel
theorem dX6_status_0 : decode cX6_status 0 = .ok (.iload_n 1, 1) := by decide +kernel
theorem dX6_status_1 : decode cX6_status 1 = .ok (.ifCond .lt 16, 3) := by decide +kernel
theorem dX6_status_4 : decode cX6_status 4 = .ok (.iload_n 1, 1) := by decide +kernel
theorem dX6_status_5 : decode cX6_status 5 = .ok (.bipush 7, 2) := by decide +kernel
theorem dX6_status_7 : decode cX6_status 7 = .ok (.if_icmp .ge 10, 3) := by decide +kernel
theorem dX6_status_10 : decode cX6_status 10 = .ok (.aload_n 0, 1) := by decide +kernel
theorem dX6_status_11 : decode cX6_status 11 = .ok (.getfield 49, 3) := by decide +kernel
theorem dX6_status_14 : decode cX6_status 14 = .ok (.iload_n 1, 1) := by decide +kernel
theorem dX6_status_15 : decode cX6_status 15 = .ok (.iaload, 1) := by decide +kernel
theorem dX6_status_16 : decode cX6_status 16 = .ok (.ireturn, 1) := by decide +kernel
theorem dX6_status_17 : decode cX6_status 17 = .ok (.iload_n 1, 1) := by decide +kernel
theorem dX6_status_18 : decode cX6_status 18 = .ok (.iconst (-1), 1) := by decide +kernel
theorem dX6_status_19 : decode cX6_status 19 = .ok (.if_icmp .eq 10, 3) := by decide +kernel
theorem dX6_status_22 : decode cX6_status 22 = .ok (.aload_n 0, 1) := by decide +kernel
theorem dX6_status_23 : decode cX6_status 23 = .ok (.ldc 64, 2) := by decide +kernel
theorem dX6_status_25 : decode cX6_status 25 = .ok (.invokevirtual 65, 3) := by decide +kernel
theorem dX6_status_28 : decode cX6_status 28 = .ok (.ireturn, 1) := by decide +kernel
theorem dX6_status_29 : decode cX6_status 29 = .ok (.iconst 0, 1) := by decide +kernel
theorem dX6_status_30 : decode cX6_status 30 = .ok (.istore_n 2, 1) := by decide +kernel
theorem dX6_status_31 : decode cX6_status 31 = .ok (.iconst 0, 1) := by decide +kernel
theorem dX6_status_32 : decode cX6_status 32 = .ok (.istore_n 3, 1) := by decide +kernel
theorem dX6_status_33 : decode cX6_status 33 = .ok (.iload_n 3, 1) := by decide +kernel
theorem dX6_status_34 : decode cX6_status 34 = .ok (.bipush 7, 2) := by decide +kernel
theorem dX6_status_36 : decode cX6_status 36 = .ok (.if_icmp .ge 18, 3) := by decide +kernel
theorem dX6_status_39 : decode cX6_status 39 = .ok (.iload_n 2, 1) := by decide +kernel
theorem dX6_status_40 : decode cX6_status 40 = .ok (.aload_n 0, 1) := by decide +kernel
theorem dX6_status_41 : decode cX6_status 41 = .ok (.getfield 49, 3) := by decide +kernel
theorem dX6_status_44 : decode cX6_status 44 = .ok (.iload_n 3, 1) := by decide +kernel
theorem dX6_status_45 : decode cX6_status 45 = .ok (.iaload, 1) := by decide +kernel
theorem dX6_status_46 : decode cX6_status 46 = .ok (.iadd, 1) := by decide +kernel
theorem dX6_status_47 : decode cX6_status 47 = .ok (.istore_n 2, 1) := by decide +kernel
theorem dX6_status_48 : decode cX6_status 48 = .ok (.iinc 3 1, 3) := by decide +kernel
theorem dX6_status_51 : decode cX6_status 51 = .ok (.goto (-18), 3) := by decide +kernel
theorem dX6_status_54 : decode cX6_status 54 = .ok (.iload_n 2, 1) := by decide +kernel
theorem dX6_status_55 : decode cX6_status 55 = .ok (.ireturn, 1) := by decide +kernel
theorem dX6_finding_0 : decode cX6_finding 0 = .ok (.ldc 64, 2) := by decide +kernel
theorem dX6_finding_2 : decode cX6_finding 2 = .ok (.iload_n 1, 1) := by decide +kernel
theorem dX6_finding_3 : decode cX6_finding 3 = .ok (.isub, 1) := by decide +kernel
theorem dX6_finding_4 : decode cX6_finding 4 = .ok (.istore_n 2, 1) := by decide +kernel
theorem dX6_finding_5 : decode cX6_finding 5 = .ok (.iload_n 2, 1) := by decide +kernel
theorem dX6_finding_6 : decode cX6_finding 6 = .ok (.ifCond .lt 19, 3) := by decide +kernel
theorem dX6_finding_9 : decode cX6_finding 9 = .ok (.iload_n 2, 1) := by decide +kernel
theorem dX6_finding_10 : decode cX6_finding 10 = .ok (.bipush 7, 2) := by decide +kernel
theorem dX6_finding_12 : decode cX6_finding 12 = .ok (.if_icmp .ge 13, 3) := by decide +kernel
theorem dX6_finding_15 : decode cX6_finding 15 = .ok (.aload_n 0, 1) := by decide +kernel
theorem dX6_finding_16 : decode cX6_finding 16 = .ok (.getfield 49, 3) := by decide +kernel
theorem dX6_finding_19 : decode cX6_finding 19 = .ok (.iload_n 2, 1) := by decide +kernel
theorem dX6_finding_20 : decode cX6_finding 20 = .ok (.dup2, 1) := by decide +kernel
theorem dX6_finding_21 : decode cX6_finding 21 = .ok (.iaload, 1) := by decide +kernel
theorem dX6_finding_22 : decode cX6_finding 22 = .ok (.iconst 1, 1) := by decide +kernel
theorem dX6_finding_23 : decode cX6_finding 23 = .ok (.iadd, 1) := by decide +kernel
theorem dX6_finding_24 : decode cX6_finding 24 = .ok (.iastore, 1) := by decide +kernel
theorem dX6_finding_25 : decode cX6_finding 25 = .ok (.iload_n 1, 1) := by decide +kernel
theorem dX6_finding_26 : decode cX6_finding 26 = .ok (.ireturn, 1) := by decide +kernel
theorem dX6_isTrueOf_0 : decode cX6_isTrueOf 0 = .ok (.aload_n 0, 1) := by decide +kernel
theorem dX6_isTrueOf_1 : decode cX6_isTrueOf 1 = .ok (.getfield 16, 3) := by decide +kernel
theorem dX6_isTrueOf_4 : decode cX6_isTrueOf 4 = .ok (.aload_n 0, 1) := by decide +kernel
theorem dX6_isTrueOf_5 : decode cX6_isTrueOf 5 = .ok (.getfield 10, 3) := by decide +kernel
theorem dX6_isTrueOf_8 : decode cX6_isTrueOf 8 = .ok (.invokevirtual 188, 3) := by decide +kernel
theorem dX6_isTrueOf_11 : decode cX6_isTrueOf 11 = .ok (.aload_n 0, 1) := by decide +kernel
theorem dX6_isTrueOf_12 : decode cX6_isTrueOf 12 = .ok (.getfield 16, 3) := by decide +kernel
theorem dX6_isTrueOf_15 : decode cX6_isTrueOf 15 = .ok (.getfield 150, 3) := by decide +kernel
theorem dX6_isTrueOf_18 : decode cX6_isTrueOf 18 = .ok (.iload_n 2, 1) := by decide +kernel
theorem dX6_isTrueOf_19 : decode cX6_isTrueOf 19 = .ok (.aaload, 1) := by decide +kernel
theorem dX6_isTrueOf_20 : decode cX6_isTrueOf 20 = .ok (.iload_n 3, 1) := by decide +kernel
theorem dX6_isTrueOf_21 : decode cX6_isTrueOf 21 = .ok (.putfield 154, 3) := by decide +kernel
theorem dX6_isTrueOf_24 : decode cX6_isTrueOf 24 = .ok (.iconst 0, 1) := by decide +kernel
theorem dX6_isTrueOf_25 : decode cX6_isTrueOf 25 = .ok (.istore 4, 2) := by decide +kernel
theorem dX6_isTrueOf_27 : decode cX6_isTrueOf 27 = .ok (.iload 4, 2) := by decide +kernel
theorem dX6_isTrueOf_29 : decode cX6_isTrueOf 29 = .ok (.aload_n 1, 1) := by decide +kernel
theorem dX6_isTrueOf_30 : decode cX6_isTrueOf 30 = .ok (.getfield 237, 3) := by decide +kernel
theorem dX6_isTrueOf_33 : decode cX6_isTrueOf 33 = .ok (.if_icmp .ge 42, 3) := by decide +kernel
theorem dX6_isTrueOf_36 : decode cX6_isTrueOf 36 = .ok (.aload_n 1, 1) := by decide +kernel
theorem dX6_isTrueOf_37 : decode cX6_isTrueOf 37 = .ok (.getfield 245, 3) := by decide +kernel
theorem dX6_isTrueOf_40 : decode cX6_isTrueOf 40 = .ok (.iload 4, 2) := by decide +kernel
theorem dX6_isTrueOf_42 : decode cX6_isTrueOf 42 = .ok (.laload, 1) := by decide +kernel
theorem dX6_isTrueOf_43 : decode cX6_isTrueOf 43 = .ok (.aload_n 0, 1) := by decide +kernel
theorem dX6_isTrueOf_44 : decode cX6_isTrueOf 44 = .ok (.getfield 16, 3) := by decide +kernel
theorem dX6_isTrueOf_47 : decode cX6_isTrueOf 47 = .ok (.getfield 150, 3) := by decide +kernel
theorem dX6_isTrueOf_50 : decode cX6_isTrueOf 50 = .ok (.iload_n 2, 1) := by decide +kernel
theorem dX6_isTrueOf_51 : decode cX6_isTrueOf 51 = .ok (.aaload, 1) := by decide +kernel
theorem dX6_isTrueOf_52 : decode cX6_isTrueOf 52 = .ok (.getfield 162, 3) := by decide +kernel
theorem dX6_isTrueOf_55 : decode cX6_isTrueOf 55 = .ok (.i2l, 1) := by decide +kernel
theorem dX6_isTrueOf_56 : decode cX6_isTrueOf 56 = .ok (.lcmp, 1) := by decide +kernel
theorem dX6_isTrueOf_57 : decode cX6_isTrueOf 57 = .ok (.ifCond .eq 5, 3) := by decide +kernel
theorem dX6_isTrueOf_60 : decode cX6_isTrueOf 60 = .ok (.iconst 0, 1) := by decide +kernel
theorem dX6_isTrueOf_61 : decode cX6_isTrueOf 61 = .ok (.ireturn, 1) := by decide +kernel
theorem dX6_isTrueOf_62 : decode cX6_isTrueOf 62 = .ok (.aload_n 0, 1) := by decide +kernel
theorem dX6_isTrueOf_63 : decode cX6_isTrueOf 63 = .ok (.getfield 16, 3) := by decide +kernel
theorem dX6_isTrueOf_66 : decode cX6_isTrueOf 66 = .ok (.invokevirtual 192, 3) := by decide +kernel
theorem dX6_isTrueOf_69 : decode cX6_isTrueOf 69 = .ok (.iinc 4 1, 3) := by decide +kernel
theorem dX6_isTrueOf_72 : decode cX6_isTrueOf 72 = .ok (.goto (-45), 3) := by decide +kernel
theorem dX6_isTrueOf_75 : decode cX6_isTrueOf 75 = .ok (.iconst 1, 1) := by decide +kernel
theorem dX6_isTrueOf_76 : decode cX6_isTrueOf 76 = .ok (.ireturn, 1) := by decide +kernel
theorem dX6_isThing_0 : decode cX6_isThing 0 = .ok (.iload_n 1, 1) := by decide +kernel
theorem dX6_isThing_1 : decode cX6_isThing 1 = .ok (.ifCond .lt 18, 3) := by decide +kernel
theorem dX6_isThing_4 : decode cX6_isThing 4 = .ok (.iload_n 1, 1) := by decide +kernel
theorem dX6_isThing_5 : decode cX6_isThing 5 = .ok (.aload_n 0, 1) := by decide +kernel
theorem dX6_isThing_6 : decode cX6_isThing 6 = .ok (.getfield 10, 3) := by decide +kernel
theorem dX6_isThing_9 : decode cX6_isThing 9 = .ok (.getfield 91, 3) := by decide +kernel
theorem dX6_isThing_12 : decode cX6_isThing 12 = .ok (.if_icmp .ge 7, 3) := by decide +kernel
theorem dX6_isThing_15 : decode cX6_isThing 15 = .ok (.iconst 1, 1) := by decide +kernel
theorem dX6_isThing_16 : decode cX6_isThing 16 = .ok (.goto 4, 3) := by decide +kernel
theorem dX6_isThing_19 : decode cX6_isThing 19 = .ok (.iconst 0, 1) := by decide +kernel
theorem dX6_isThing_20 : decode cX6_isThing 20 = .ok (.ireturn, 1) := by decide +kernel
theorem dX6_isBoat_0 : decode cX6_isBoat 0 = .ok (.iload_n 1, 1) := by decide +kernel
theorem dX6_isBoat_1 : decode cX6_isBoat 1 = .ok (.ifCond .lt 18, 3) := by decide +kernel
theorem dX6_isBoat_4 : decode cX6_isBoat 4 = .ok (.iload_n 1, 1) := by decide +kernel
theorem dX6_isBoat_5 : decode cX6_isBoat 5 = .ok (.aload_n 0, 1) := by decide +kernel
theorem dX6_isBoat_6 : decode cX6_isBoat 6 = .ok (.getfield 10, 3) := by decide +kernel
theorem dX6_isBoat_9 : decode cX6_isBoat 9 = .ok (.getfield 140, 3) := by decide +kernel
theorem dX6_isBoat_12 : decode cX6_isBoat 12 = .ok (.if_icmp .ge 7, 3) := by decide +kernel
theorem dX6_isBoat_15 : decode cX6_isBoat 15 = .ok (.iconst 1, 1) := by decide +kernel
theorem dX6_isBoat_16 : decode cX6_isBoat 16 = .ok (.goto 4, 3) := by decide +kernel
theorem dX6_isBoat_19 : decode cX6_isBoat 19 = .ok (.iconst 0, 1) := by decide +kernel
theorem dX6_isBoat_20 : decode cX6_isBoat 20 = .ok (.ireturn, 1) := by decide +kernel
theorem dX6_isCell_0 : decode cX6_isCell 0 = .ok (.iload_n 0, 1) := by decide +kernel
theorem dX6_isCell_1 : decode cX6_isCell 1 = .ok (.iconst 0, 1) := by decide +kernel
theorem dX6_isCell_2 : decode cX6_isCell 2 = .ok (.bipush 47, 2) := by decide +kernel
theorem dX6_isCell_4 : decode cX6_isCell 4 = .ok (.invokestatic 53, 3) := by decide +kernel
theorem dX6_isCell_7 : decode cX6_isCell 7 = .ok (.ireturn, 1) := by decide +kernel
theorem dX6_isColumn_0 : decode cX6_isColumn 0 = .ok (.iload_n 0, 1) := by decide +kernel
theorem dX6_isColumn_1 : decode cX6_isColumn 1 = .ok (.iconst 0, 1) := by decide +kernel
theorem dX6_isColumn_2 : decode cX6_isColumn 2 = .ok (.bipush 7, 2) := by decide +kernel
theorem dX6_isColumn_4 : decode cX6_isColumn 4 = .ok (.invokestatic 53, 3) := by decide +kernel
theorem dX6_isColumn_7 : decode cX6_isColumn 7 = .ok (.ireturn, 1) := by decide +kernel
theorem dX6_isKind_0 : decode cX6_isKind 0 = .ok (.iload_n 0, 1) := by decide +kernel
theorem dX6_isKind_1 : decode cX6_isKind 1 = .ok (.iconst 0, 1) := by decide +kernel
theorem dX6_isKind_2 : decode cX6_isKind 2 = .ok (.iconst 5, 1) := by decide +kernel
theorem dX6_isKind_3 : decode cX6_isKind 3 = .ok (.invokestatic 53, 3) := by decide +kernel
theorem dX6_isKind_6 : decode cX6_isKind 6 = .ok (.ireturn, 1) := by decide +kernel
theorem dX6_isSheet_0 : decode cX6_isSheet 0 = .ok (.iload_n 0, 1) := by decide +kernel
theorem dX6_isSheet_1 : decode cX6_isSheet 1 = .ok (.iconst 0, 1) := by decide +kernel
theorem dX6_isSheet_2 : decode cX6_isSheet 2 = .ok (.iconst 3, 1) := by decide +kernel
theorem dX6_isSheet_3 : decode cX6_isSheet 3 = .ok (.invokestatic 53, 3) := by decide +kernel
theorem dX6_isSheet_6 : decode cX6_isSheet 6 = .ok (.ireturn, 1) := by decide +kernel
theorem dX6_isWithin_0 : decode cX6_isWithin 0 = .ok (.iload_n 0, 1) := by decide +kernel
theorem dX6_isWithin_1 : decode cX6_isWithin 1 = .ok (.iload_n 1, 1) := by decide +kernel
theorem dX6_isWithin_2 : decode cX6_isWithin 2 = .ok (.if_icmp .lt 12, 3) := by decide +kernel
theorem dX6_isWithin_5 : decode cX6_isWithin 5 = .ok (.iload_n 0, 1) := by decide +kernel
theorem dX6_isWithin_6 : decode cX6_isWithin 6 = .ok (.iload_n 2, 1) := by decide +kernel
theorem dX6_isWithin_7 : decode cX6_isWithin 7 = .ok (.if_icmp .gt 7, 3) := by decide +kernel
theorem dX6_isWithin_10 : decode cX6_isWithin 10 = .ok (.iconst 1, 1) := by decide +kernel
theorem dX6_isWithin_11 : decode cX6_isWithin 11 = .ok (.goto 4, 3) := by decide +kernel
theorem dX6_isWithin_14 : decode cX6_isWithin 14 = .ok (.iconst 0, 1) := by decide +kernel
theorem dX6_isWithin_15 : decode cX6_isWithin 15 = .ok (.ireturn, 1) := by decide +kernel
