theorem dJ0_length_8abf5_0 : decode cJ0_length_8abf5 0 = .ok (.aload_n 0, 1) := by decide +kernel
theorem dJ0_length_8abf5_1 : decode cJ0_length_8abf5 1 = .ok (.getfield 9, 3) := by decide +kernel
theorem dJ0_length_8abf5_4 : decode cJ0_length_8abf5 4 = .ok (.arraylength, 1) := by decide +kernel
theorem dJ0_length_8abf5_5 : decode cJ0_length_8abf5 5 = .ok (.aload_n 0, 1) := by decide +kernel
theorem dJ0_length_8abf5_6 : decode cJ0_length_8abf5 6 = .ok (.invokevirtual 335, 3) := by decide +kernel
theorem dJ0_length_8abf5_9 : decode cJ0_length_8abf5 9 = .ok (.ishr, 1) := by decide +kernel
theorem dJ0_length_8abf5_10 : decode cJ0_length_8abf5 10 = .ok (.ireturn, 1) := by decide +kernel
theorem dJ0_charAt_5068e_0 : decode cJ0_charAt_5068e 0 = .ok (.aload_n 0, 1) := by decide +kernel
theorem dJ0_charAt_5068e_1 : decode cJ0_charAt_5068e 1 = .ok (.invokevirtual 492, 3) := by decide +kernel
theorem dJ0_charAt_5068e_4 : decode cJ0_charAt_5068e 4 = .ok (.ifCond .eq 12, 3) := by decide +kernel
theorem dJ0_charAt_5068e_7 : decode cJ0_charAt_5068e 7 = .ok (.aload_n 0, 1) := by decide +kernel
theorem dJ0_charAt_5068e_8 : decode cJ0_charAt_5068e 8 = .ok (.getfield 9, 3) := by decide +kernel
theorem dJ0_charAt_5068e_11 : decode cJ0_charAt_5068e 11 = .ok (.iload_n 1, 1) := by decide +kernel
theorem dJ0_charAt_5068e_12 : decode cJ0_charAt_5068e 12 = .ok (.invokestatic 495, 3) := by decide +kernel
theorem dJ0_charAt_5068e_15 : decode cJ0_charAt_5068e 15 = .ok (.ireturn, 1) := by decide +kernel
theorem dJ0_charAt_5068e_16 : decode cJ0_charAt_5068e 16 = .ok (.aload_n 0, 1) := by decide +kernel
theorem dJ0_charAt_5068e_17 : decode cJ0_charAt_5068e 17 = .ok (.getfield 9, 3) := by decide +kernel
theorem dJ0_charAt_5068e_20 : decode cJ0_charAt_5068e 20 = .ok (.iload_n 1, 1) := by decide +kernel
theorem dJ0_charAt_5068e_21 : decode cJ0_charAt_5068e 21 = .ok (.invokestatic 498, 3) := by decide +kernel
theorem dJ0_charAt_5068e_24 : decode cJ0_charAt_5068e 24 = .ok (.ireturn, 1) := by decide +kernel
theorem dJ0_coder_7d493_0 : decode cJ0_coder_7d493 0 = .ok (.getstatic 38, 3) := by decide +kernel
theorem dJ0_coder_7d493_3 : decode cJ0_coder_7d493 3 = .ok (.ifCond .eq 10, 3) := by decide +kernel
theorem dJ0_coder_7d493_6 : decode cJ0_coder_7d493 6 = .ok (.aload_n 0, 1) := by decide +kernel
theorem dJ0_coder_7d493_7 : decode cJ0_coder_7d493 7 = .ok (.getfield 15, 3) := by decide +kernel
theorem dJ0_coder_7d493_10 : decode cJ0_coder_7d493 10 = .ok (.goto 4, 3) := by decide +kernel
theorem dJ0_coder_7d493_13 : decode cJ0_coder_7d493 13 = .ok (.iconst 1, 1) := by decide +kernel
theorem dJ0_coder_7d493_14 : decode cJ0_coder_7d493 14 = .ok (.ireturn, 1) := by decide +kernel
theorem dJ0_isLatin1_aae02_0 : decode cJ0_isLatin1_aae02 0 = .ok (.getstatic 38, 3) := by decide +kernel
theorem dJ0_isLatin1_aae02_3 : decode cJ0_isLatin1_aae02 3 = .ok (.ifCond .eq 14, 3) := by decide +kernel
theorem dJ0_isLatin1_aae02_6 : decode cJ0_isLatin1_aae02 6 = .ok (.aload_n 0, 1) := by decide +kernel
theorem dJ0_isLatin1_aae02_7 : decode cJ0_isLatin1_aae02 7 = .ok (.getfield 15, 3) := by decide +kernel
theorem dJ0_isLatin1_aae02_10 : decode cJ0_isLatin1_aae02 10 = .ok (.ifCond .ne 7, 3) := by decide +kernel
theorem dJ0_isLatin1_aae02_13 : decode cJ0_isLatin1_aae02 13 = .ok (.iconst 1, 1) := by decide +kernel
theorem dJ0_isLatin1_aae02_14 : decode cJ0_isLatin1_aae02 14 = .ok (.goto 4, 3) := by decide +kernel
theorem dJ0_isLatin1_aae02_17 : decode cJ0_isLatin1_aae02 17 = .ok (.iconst 0, 1) := by decide +kernel
theorem dJ0_isLatin1_aae02_18 : decode cJ0_isLatin1_aae02 18 = .ok (.ireturn, 1) := by decide +kernel
theorem dJ0_checkIndex_df160_0 : decode cJ0_checkIndex_df160 0 = .ok (.iload_n 0, 1) := by decide +kernel
theorem dJ0_checkIndex_df160_1 : decode cJ0_checkIndex_df160 1 = .ok (.iload_n 1, 1) := by decide +kernel
theorem dJ0_checkIndex_df160_2 : decode cJ0_checkIndex_df160 2 = .ok (.getstatic 1053, 3) := by decide +kernel
theorem dJ0_checkIndex_df160_5 : decode cJ0_checkIndex_df160 5 = .ok (.invokestatic 1059, 3) := by decide +kernel
theorem dJ0_checkIndex_df160_8 : decode cJ0_checkIndex_df160 8 = .ok (.pop, 1) := by decide +kernel
theorem dJ0_checkIndex_df160_9 : decode cJ0_checkIndex_df160 9 = .ok (.return_, 1) := by decide +kernel
theorem dJ1_charAt_3b067_0 : decode cJ1_charAt_3b067 0 = .ok (.iload_n 1, 1) := by decide +kernel
theorem dJ1_charAt_3b067_1 : decode cJ1_charAt_3b067 1 = .ok (.aload_n 0, 1) := by decide +kernel
theorem dJ1_charAt_3b067_2 : decode cJ1_charAt_3b067 2 = .ok (.arraylength, 1) := by decide +kernel
theorem dJ1_charAt_3b067_3 : decode cJ1_charAt_3b067 3 = .ok (.invokestatic 9, 3) := by decide +kernel
theorem dJ1_charAt_3b067_6 : decode cJ1_charAt_3b067 6 = .ok (.aload_n 0, 1) := by decide +kernel
theorem dJ1_charAt_3b067_7 : decode cJ1_charAt_3b067 7 = .ok (.iload_n 1, 1) := by decide +kernel
theorem dJ1_charAt_3b067_8 : decode cJ1_charAt_3b067 8 = .ok (.baload, 1) := by decide +kernel
theorem dJ1_charAt_3b067_9 : decode cJ1_charAt_3b067 9 = .ok (.sipush 255, 3) := by decide +kernel
theorem dJ1_charAt_3b067_12 : decode cJ1_charAt_3b067 12 = .ok (.iand, 1) := by decide +kernel
theorem dJ1_charAt_3b067_13 : decode cJ1_charAt_3b067 13 = .ok (.i2c, 1) := by decide +kernel
theorem dJ1_charAt_3b067_14 : decode cJ1_charAt_3b067 14 = .ok (.ireturn, 1) := by decide +kernel
theorem dJ3_checkIndex_8e157_0 : decode cJ3_checkIndex_8e157 0 = .ok (.iload_n 0, 1) := by decide +kernel
theorem dJ3_checkIndex_8e157_1 : decode cJ3_checkIndex_8e157 1 = .ok (.ifCond .lt 8, 3) := by decide +kernel
theorem dJ3_checkIndex_8e157_4 : decode cJ3_checkIndex_8e157 4 = .ok (.iload_n 0, 1) := by decide +kernel
theorem dJ3_checkIndex_8e157_5 : decode cJ3_checkIndex_8e157 5 = .ok (.iload_n 1, 1) := by decide +kernel
theorem dJ3_checkIndex_8e157_6 : decode cJ3_checkIndex_8e157 6 = .ok (.if_icmp .lt 10, 3) := by decide +kernel
theorem dJ3_checkIndex_8e157_9 : decode cJ3_checkIndex_8e157 9 = .ok (.aload_n 2, 1) := by decide +kernel
theorem dJ3_checkIndex_8e157_10 : decode cJ3_checkIndex_8e157 10 = .ok (.iload_n 0, 1) := by decide +kernel
theorem dJ3_checkIndex_8e157_11 : decode cJ3_checkIndex_8e157 11 = .ok (.iload_n 1, 1) := by decide +kernel
theorem dJ3_checkIndex_8e157_12 : decode cJ3_checkIndex_8e157 12 = .ok (.invokestatic 95, 3) := by decide +kernel
theorem dJ3_checkIndex_8e157_15 : decode cJ3_checkIndex_8e157 15 = .ok (.athrow, 1) := by decide +kernel
theorem dJ3_checkIndex_8e157_16 : decode cJ3_checkIndex_8e157 16 = .ok (.iload_n 0, 1) := by decide +kernel
theorem dJ3_checkIndex_8e157_17 : decode cJ3_checkIndex_8e157 17 = .ok (.ireturn, 1) := by decide +kernel
theorem dJ9_abs_0f7a4_0 : decode cJ9_abs_0f7a4 0 = .ok (.iload_n 0, 1) := by decide +kernel
theorem dJ9_abs_0f7a4_1 : decode cJ9_abs_0f7a4 1 = .ok (.ifCond .ge 8, 3) := by decide +kernel
theorem dJ9_abs_0f7a4_4 : decode cJ9_abs_0f7a4 4 = .ok (.iload_n 0, 1) := by decide +kernel
theorem dJ9_abs_0f7a4_5 : decode cJ9_abs_0f7a4 5 = .ok (.ineg, 1) := by decide +kernel
theorem dJ9_abs_0f7a4_6 : decode cJ9_abs_0f7a4 6 = .ok (.goto 4, 3) := by decide +kernel
theorem dJ9_abs_0f7a4_9 : decode cJ9_abs_0f7a4 9 = .ok (.iload_n 0, 1) := by decide +kernel
theorem dJ9_abs_0f7a4_10 : decode cJ9_abs_0f7a4 10 = .ok (.ireturn, 1) := by decide +kernel
theorem dJ9_max_7cf53_0 : decode cJ9_max_7cf53 0 = .ok (.iload_n 0, 1) := by decide +kernel
theorem dJ9_max_7cf53_1 : decode cJ9_max_7cf53 1 = .ok (.iload_n 1, 1) := by decide +kernel
theorem dJ9_max_7cf53_2 : decode cJ9_max_7cf53 2 = .ok (.if_icmp .lt 7, 3) := by decide +kernel
theorem dJ9_max_7cf53_5 : decode cJ9_max_7cf53 5 = .ok (.iload_n 0, 1) := by decide +kernel
theorem dJ9_max_7cf53_6 : decode cJ9_max_7cf53 6 = .ok (.goto 4, 3) := by decide +kernel
theorem dJ9_max_7cf53_9 : decode cJ9_max_7cf53 9 = .ok (.iload_n 1, 1) := by decide +kernel
theorem dJ9_max_7cf53_10 : decode cJ9_max_7cf53 10 = .ok (.ireturn, 1) := by decide +kernel
theorem dJ9_min_7cf53_0 : decode cJ9_min_7cf53 0 = .ok (.iload_n 0, 1) := by decide +kernel
theorem dJ9_min_7cf53_1 : decode cJ9_min_7cf53 1 = .ok (.iload_n 1, 1) := by decide +kernel
theorem dJ9_min_7cf53_2 : decode cJ9_min_7cf53 2 = .ok (.if_icmp .gt 7, 3) := by decide +kernel
theorem dJ9_min_7cf53_5 : decode cJ9_min_7cf53 5 = .ok (.iload_n 0, 1) := by decide +kernel
theorem dJ9_min_7cf53_6 : decode cJ9_min_7cf53 6 = .ok (.goto 4, 3) := by decide +kernel
theorem dJ9_min_7cf53_9 : decode cJ9_min_7cf53 9 = .ok (.iload_n 1, 1) := by decide +kernel
theorem dJ9_min_7cf53_10 : decode cJ9_min_7cf53 10 = .ok (.ireturn, 1) := by decide +kernel
theorem dX0_init_0 : decode cX0_init 0 = .ok (.aload_n 0, 1) := by decide +kernel
theorem dX0_init_1 : decode cX0_init 1 = .ok (.invokespecial 3, 3) := by decide +kernel
theorem dX0_init_4 : decode cX0_init 4 = .ok (.aload_n 0, 1) := by decide +kernel
theorem dX0_init_5 : decode cX0_init 5 = .ok (.iconst 0, 1) := by decide +kernel
theorem dX0_init_6 : decode cX0_init 6 = .ok (.bipush 10, 2) := by decide +kernel
theorem dX0_init_8 : decode cX0_init 8 = .ok (.iconst 0, 1) := by decide +kernel
theorem dX0_init_9 : decode cX0_init 9 = .ok (.iconst 0, 1) := by decide +kernel
theorem dX0_init_10 : decode cX0_init 10 = .ok (.invokevirtual 9, 3) := by decide +kernel
theorem dX0_init_13 : decode cX0_init 13 = .ok (.return_, 1) := by decide +kernel
theorem dX0_become_0 : decode cX0_become 0 = .ok (.aload_n 0, 1) := by decide +kernel
theorem dX0_become_1 : decode cX0_become 1 = .ok (.iload_n 1, 1) := by decide +kernel
theorem dX0_become_2 : decode cX0_become 2 = .ok (.putfield 15, 3) := by decide +kernel
theorem dX0_become_5 : decode cX0_become 5 = .ok (.aload_n 0, 1) := by decide +kernel
theorem dX0_become_6 : decode cX0_become 6 = .ok (.iload_n 2, 1) := by decide +kernel
theorem dX0_become_7 : decode cX0_become 7 = .ok (.putfield 19, 3) := by decide +kernel
theorem dX0_become_10 : decode cX0_become 10 = .ok (.aload_n 0, 1) := by decide +kernel
theorem dX0_become_11 : decode cX0_become 11 = .ok (.iload_n 3, 1) := by decide +kernel
theorem dX0_become_12 : decode cX0_become 12 = .ok (.putfield 22, 3) := by decide +kernel
theorem dX0_become_15 : decode cX0_become 15 = .ok (.aload_n 0, 1) := by decide +kernel
theorem dX0_become_16 : decode cX0_become 16 = .ok (.iload 4, 2) := by decide +kernel
theorem dX0_become_18 : decode cX0_become 18 = .ok (.putfield 25, 3) := by decide +kernel
theorem dX0_become_21 : decode cX0_become 21 = .ok (.return_, 1) := by decide +kernel
theorem dX0_takeFrom_0 : decode cX0_takeFrom 0 = .ok (.iload_n 1, 1) := by decide +kernel
theorem dX0_takeFrom_1 : decode cX0_takeFrom 1 = .ok (.aload_n 0, 1) := by decide +kernel
theorem dX0_takeFrom_2 : decode cX0_takeFrom 2 = .ok (.getfield 19, 3) := by decide +kernel
theorem dX0_takeFrom_5 : decode cX0_takeFrom 5 = .ok (.sipush 999, 3) := by decide +kernel
theorem dX0_takeFrom_8 : decode cX0_takeFrom 8 = .ok (.aload_n 0, 1) := by decide +kernel
theorem dX0_takeFrom_9 : decode cX0_takeFrom 9 = .ok (.getfield 22, 3) := by decide +kernel
theorem dX0_takeFrom_12 : decode cX0_takeFrom 12 = .ok (.isub, 1) := by decide +kernel
theorem dX0_takeFrom_13 : decode cX0_takeFrom 13 = .ok (.invokestatic 28, 3) := by decide +kernel
theorem dX0_takeFrom_16 : decode cX0_takeFrom 16 = .ok (.invokestatic 28, 3) := by decide +kernel
theorem dX0_takeFrom_19 : decode cX0_takeFrom 19 = .ok (.ireturn, 1) := by decide +kernel
theorem dX0_worth_0 : decode cX0_worth 0 = .ok (.aload_n 0, 1) := by decide +kernel
theorem dX0_worth_1 : decode cX0_worth 1 = .ok (.getfield 25, 3) := by decide +kernel
theorem dX0_worth_4 : decode cX0_worth 4 = .ok (.aload_n 0, 1) := by decide +kernel
theorem dX0_worth_5 : decode cX0_worth 5 = .ok (.getfield 22, 3) := by decide +kernel
theorem dX0_worth_8 : decode cX0_worth 8 = .ok (.iadd, 1) := by decide +kernel
theorem dX0_worth_9 : decode cX0_worth 9 = .ok (.ireturn, 1) := by decide +kernel
theorem dX0_earn_0 : decode cX0_earn 0 = .ok (.aload_n 0, 1) := by decide +kernel
theorem dX0_earn_1 : decode cX0_earn 1 = .ok (.ldc 34, 2) := by decide +kernel
theorem dX0_earn_3 : decode cX0_earn 3 = .ok (.ldc 35, 2) := by decide +kernel
theorem dX0_earn_5 : decode cX0_earn 5 = .ok (.aload_n 0, 1) := by decide +kernel
theorem dX0_earn_6 : decode cX0_earn 6 = .ok (.getfield 25, 3) := by decide +kernel
theorem dX0_earn_9 : decode cX0_earn 9 = .ok (.iload_n 1, 1) := by decide +kernel
theorem dX0_earn_10 : decode cX0_earn 10 = .ok (.iadd, 1) := by decide +kernel
theorem dX0_earn_11 : decode cX0_earn 11 = .ok (.invokestatic 28, 3) := by decide +kernel
theorem dX0_earn_14 : decode cX0_earn 14 = .ok (.invokestatic 36, 3) := by decide +kernel
theorem dX0_earn_17 : decode cX0_earn 17 = .ok (.putfield 25, 3) := by decide +kernel
theorem dX0_earn_20 : decode cX0_earn 20 = .ok (.return_, 1) := by decide +kernel
theorem dX0_sell_0 : decode cX0_sell 0 = .ok (.aload_n 0, 1) := by decide +kernel
theorem dX0_sell_1 : decode cX0_sell 1 = .ok (.aload_n 0, 1) := by decide +kernel
theorem dX0_sell_2 : decode cX0_sell 2 = .ok (.getfield 22, 3) := by decide +kernel
theorem dX0_sell_5 : decode cX0_sell 5 = .ok (.invokevirtual 39, 3) := by decide +kernel
theorem dX0_sell_8 : decode cX0_sell 8 = .ok (.aload_n 0, 1) := by decide +kernel
theorem dX0_sell_9 : decode cX0_sell 9 = .ok (.iconst 0, 1) := by decide +kernel
theorem dX0_sell_10 : decode cX0_sell 10 = .ok (.putfield 22, 3) := by decide +kernel
theorem dX0_sell_13 : decode cX0_sell 13 = .ok (.return_, 1) := by decide +kernel
theorem dX1_init_0 : decode cX1_init 0 = .ok (.aload_n 0, 1) := by decide +kernel
theorem dX1_init_1 : decode cX1_init 1 = .ok (.invokespecial 3, 3) := by decide +kernel
theorem dX1_init_4 : decode cX1_init 4 = .ok (.aload_n 0, 1) := by decide +kernel
theorem dX1_init_5 : decode cX1_init 5 = .ok (.bipush 8, 2) := by decide +kernel
theorem dX1_init_7 : decode cX1_init 7 = .ok (.anewarray 9, 3) := by decide +kernel
theorem dX1_init_10 : decode cX1_init 10 = .ok (.putfield 11, 3) := by decide +kernel
theorem dX1_init_13 : decode cX1_init 13 = .ok (.iconst 0, 1) := by decide +kernel
theorem dX1_init_14 : decode cX1_init 14 = .ok (.istore_n 1, 1) := by decide +kernel
theorem dX1_init_15 : decode cX1_init 15 = .ok (.iload_n 1, 1) := by decide +kernel
theorem dX1_init_16 : decode cX1_init 16 = .ok (.bipush 8, 2) := by decide +kernel
theorem dX1_init_18 : decode cX1_init 18 = .ok (.if_icmp .ge 22, 3) := by decide +kernel
theorem dX1_init_21 : decode cX1_init 21 = .ok (.aload_n 0, 1) := by decide +kernel
theorem dX1_init_22 : decode cX1_init 22 = .ok (.getfield 11, 3) := by decide +kernel
theorem dX1_init_25 : decode cX1_init 25 = .ok (.iload_n 1, 1) := by decide +kernel
theorem dX1_init_26 : decode cX1_init 26 = .ok (.new 9, 3) := by decide +kernel
theorem dX1_init_29 : decode cX1_init 29 = .ok (.dup, 1) := by decide +kernel
theorem dX1_init_30 : decode cX1_init 30 = .ok (.invokespecial 17, 3) := by decide +kernel
theorem dX1_init_33 : decode cX1_init 33 = .ok (.aastore, 1) := by decide +kernel
theorem dX1_init_34 : decode cX1_init 34 = .ok (.iinc 1 1, 3) := by decide +kernel
theorem dX1_init_37 : decode cX1_init 37 = .ok (.goto (-22), 3) := by decide +kernel
theorem dX1_init_40 : decode cX1_init 40 = .ok (.aload_n 0, 1) := by decide +kernel
theorem dX1_init_41 : decode cX1_init 41 = .ok (.iconst 5, 1) := by decide +kernel
theorem dX1_init_42 : decode cX1_init 42 = .ok (.anewarray 18, 3) := by decide +kernel
theorem dX1_init_45 : decode cX1_init 45 = .ok (.putfield 20, 3) := by decide +kernel
theorem dX1_init_48 : decode cX1_init 48 = .ok (.iconst 0, 1) := by decide +kernel
theorem dX1_init_49 : decode cX1_init 49 = .ok (.istore_n 1, 1) := by decide +kernel
theorem dX1_init_50 : decode cX1_init 50 = .ok (.iload_n 1, 1) := by decide +kernel
theorem dX1_init_51 : decode cX1_init 51 = .ok (.iconst 5, 1) := by decide +kernel
theorem dX1_init_52 : decode cX1_init 52 = .ok (.if_icmp .ge 22, 3) := by decide +kernel
theorem dX1_init_55 : decode cX1_init 55 = .ok (.aload_n 0, 1) := by decide +kernel
theorem dX1_init_56 : decode cX1_init 56 = .ok (.getfield 20, 3) := by decide +kernel
theorem dX1_init_59 : decode cX1_init 59 = .ok (.iload_n 1, 1) := by decide +kernel
theorem dX1_init_60 : decode cX1_init 60 = .ok (.new 18, 3) := by decide +kernel
theorem dX1_init_63 : decode cX1_init 63 = .ok (.dup, 1) := by decide +kernel
theorem dX1_init_64 : decode cX1_init 64 = .ok (.invokespecial 24, 3) := by decide +kernel
theorem dX1_init_67 : decode cX1_init 67 = .ok (.aastore, 1) := by decide +kernel
theorem dX1_init_68 : decode cX1_init 68 = .ok (.iinc 1 1, 3) := by decide +kernel
theorem dX1_init_71 : decode cX1_init 71 = .ok (.goto (-21), 3) := by decide +kernel
theorem dX1_init_74 : decode cX1_init 74 = .ok (.return_, 1) := by decide +kernel
theorem dX1_become_0 : decode cX1_become 0 = .ok (.aload_n 0, 1) := by decide +kernel
theorem dX1_become_1 : decode cX1_become 1 = .ok (.aload_n 1, 1) := by decide +kernel
theorem dX1_become_2 : decode cX1_become 2 = .ok (.getfield 25, 3) := by decide +kernel
theorem dX1_become_5 : decode cX1_become 5 = .ok (.putfield 25, 3) := by decide +kernel
theorem dX1_become_8 : decode cX1_become 8 = .ok (.aload_n 0, 1) := by decide +kernel
theorem dX1_become_9 : decode cX1_become 9 = .ok (.aload_n 1, 1) := by decide +kernel
theorem dX1_become_10 : decode cX1_become 10 = .ok (.getfield 29, 3) := by decide +kernel
theorem dX1_become_13 : decode cX1_become 13 = .ok (.putfield 29, 3) := by decide +kernel
theorem dX1_become_16 : decode cX1_become 16 = .ok (.aload_n 0, 1) := by decide +kernel
theorem dX1_become_17 : decode cX1_become 17 = .ok (.aload_n 1, 1) := by decide +kernel
theorem dX1_become_18 : decode cX1_become 18 = .ok (.getfield 32, 3) := by decide +kernel
theorem dX1_become_21 : decode cX1_become 21 = .ok (.putfield 32, 3) := by decide +kernel
theorem dX1_become_24 : decode cX1_become 24 = .ok (.aload_n 0, 1) := by decide +kernel
theorem dX1_become_25 : decode cX1_become 25 = .ok (.aload_n 1, 1) := by decide +kernel
theorem dX1_become_26 : decode cX1_become 26 = .ok (.getfield 35, 3) := by decide +kernel
theorem dX1_become_29 : decode cX1_become 29 = .ok (.putfield 35, 3) := by decide +kernel
theorem dX1_become_32 : decode cX1_become 32 = .ok (.aload_n 0, 1) := by decide +kernel
theorem dX1_become_33 : decode cX1_become 33 = .ok (.aload_n 1, 1) := by decide +kernel
theorem dX1_become_34 : decode cX1_become 34 = .ok (.getfield 38, 3) := by decide +kernel
theorem dX1_become_37 : decode cX1_become 37 = .ok (.putfield 38, 3) := by decide +kernel
theorem dX1_become_40 : decode cX1_become 40 = .ok (.iconst 0, 1) := by decide +kernel
theorem dX1_become_41 : decode cX1_become 41 = .ok (.istore_n 2, 1) := by decide +kernel
theorem dX1_become_42 : decode cX1_become 42 = .ok (.iload_n 2, 1) := by decide +kernel
theorem dX1_become_43 : decode cX1_become 43 = .ok (.aload_n 0, 1) := by decide +kernel
theorem dX1_become_44 : decode cX1_become 44 = .ok (.getfield 35, 3) := by decide +kernel
theorem dX1_become_47 : decode cX1_become 47 = .ok (.if_icmp .ge 45, 3) := by decide +kernel
theorem dX1_become_50 : decode cX1_become 50 = .ok (.aload_n 1, 1) := by decide +kernel
theorem dX1_become_51 : decode cX1_become 51 = .ok (.getfield 11, 3) := by decide +kernel
theorem dX1_become_54 : decode cX1_become 54 = .ok (.iload_n 2, 1) := by decide +kernel
theorem dX1_become_55 : decode cX1_become 55 = .ok (.aaload, 1) := by decide +kernel
theorem dX1_become_56 : decode cX1_become 56 = .ok (.astore_n 3, 1) := by decide +kernel
theorem dX1_become_57 : decode cX1_become 57 = .ok (.aload_n 0, 1) := by decide +kernel
theorem dX1_become_58 : decode cX1_become 58 = .ok (.getfield 11, 3) := by decide +kernel
theorem dX1_become_61 : decode cX1_become 61 = .ok (.iload_n 2, 1) := by decide +kernel
theorem dX1_become_62 : decode cX1_become 62 = .ok (.aaload, 1) := by decide +kernel
theorem dX1_become_63 : decode cX1_become 63 = .ok (.aload_n 3, 1) := by decide +kernel
theorem dX1_become_64 : decode cX1_become 64 = .ok (.getfield 41, 3) := by decide +kernel
theorem dX1_become_67 : decode cX1_become 67 = .ok (.aload_n 3, 1) := by decide +kernel
theorem dX1_become_68 : decode cX1_become 68 = .ok (.getfield 44, 3) := by decide +kernel
theorem dX1_become_71 : decode cX1_become 71 = .ok (.aload_n 3, 1) := by decide +kernel
theorem dX1_become_72 : decode cX1_become 72 = .ok (.getfield 47, 3) := by decide +kernel
theorem dX1_become_75 : decode cX1_become 75 = .ok (.aload_n 3, 1) := by decide +kernel
theorem dX1_become_76 : decode cX1_become 76 = .ok (.getfield 50, 3) := by decide +kernel
theorem dX1_become_79 : decode cX1_become 79 = .ok (.aload_n 3, 1) := by decide +kernel
theorem dX1_become_80 : decode cX1_become 80 = .ok (.getfield 53, 3) := by decide +kernel
theorem dX1_become_83 : decode cX1_become 83 = .ok (.invokevirtual 56, 3) := by decide +kernel
theorem dX1_become_86 : decode cX1_become 86 = .ok (.iinc 2 1, 3) := by decide +kernel
theorem dX1_become_89 : decode cX1_become 89 = .ok (.goto (-47), 3) := by decide +kernel
theorem dX1_become_92 : decode cX1_become 92 = .ok (.iconst 0, 1) := by decide +kernel
theorem dX1_become_93 : decode cX1_become 93 = .ok (.istore_n 2, 1) := by decide +kernel
theorem dX1_become_94 : decode cX1_become 94 = .ok (.iload_n 2, 1) := by decide +kernel
theorem dX1_become_95 : decode cX1_become 95 = .ok (.aload_n 0, 1) := by decide +kernel
theorem dX1_become_96 : decode cX1_become 96 = .ok (.getfield 38, 3) := by decide +kernel
theorem dX1_become_99 : decode cX1_become 99 = .ok (.if_icmp .ge 41, 3) := by decide +kernel
theorem dX1_become_102 : decode cX1_become 102 = .ok (.aload_n 1, 1) := by decide +kernel
theorem dX1_become_103 : decode cX1_become 103 = .ok (.getfield 20, 3) := by decide +kernel
theorem dX1_become_106 : decode cX1_become 106 = .ok (.iload_n 2, 1) := by decide +kernel
theorem dX1_become_107 : decode cX1_become 107 = .ok (.aaload, 1) := by decide +kernel
theorem dX1_become_108 : decode cX1_become 108 = .ok (.astore_n 3, 1) := by decide +kernel
theorem dX1_become_109 : decode cX1_become 109 = .ok (.aload_n 0, 1) := by decide +kernel
theorem dX1_become_110 : decode cX1_become 110 = .ok (.getfield 20, 3) := by decide +kernel
theorem dX1_become_113 : decode cX1_become 113 = .ok (.iload_n 2, 1) := by decide +kernel
theorem dX1_become_114 : decode cX1_become 114 = .ok (.aaload, 1) := by decide +kernel
theorem dX1_become_115 : decode cX1_become 115 = .ok (.aload_n 3, 1) := by decide +kernel
theorem dX1_become_116 : decode cX1_become 116 = .ok (.getfield 60, 3) := by decide +kernel
theorem dX1_become_119 : decode cX1_become 119 = .ok (.aload_n 3, 1) := by decide +kernel
theorem dX1_become_120 : decode cX1_become 120 = .ok (.getfield 63, 3) := by decide +kernel
theorem dX1_become_123 : decode cX1_become 123 = .ok (.aload_n 3, 1) := by decide +kernel
theorem dX1_become_124 : decode cX1_become 124 = .ok (.getfield 66, 3) := by decide +kernel
theorem dX1_become_127 : decode cX1_become 127 = .ok (.aload_n 3, 1) := by decide +kernel
theorem dX1_become_128 : decode cX1_become 128 = .ok (.getfield 69, 3) := by decide +kernel
theorem dX1_become_131 : decode cX1_become 131 = .ok (.invokevirtual 72, 3) := by decide +kernel
theorem dX1_become_134 : decode cX1_become 134 = .ok (.iinc 2 1, 3) := by decide +kernel
theorem dX1_become_137 : decode cX1_become 137 = .ok (.goto (-43), 3) := by decide +kernel
theorem dX1_become_140 : decode cX1_become 140 = .ok (.return_, 1) := by decide +kernel
theorem dX1_addThing_0 : decode cX1_addThing 0 = .ok (.aload_n 0, 1) := by decide +kernel
theorem dX1_addThing_1 : decode cX1_addThing 1 = .ok (.getfield 35, 3) := by decide +kernel
theorem dX1_addThing_4 : decode cX1_addThing 4 = .ok (.bipush 8, 2) := by decide +kernel
theorem dX1_addThing_6 : decode cX1_addThing 6 = .ok (.if_icmp .ge 32, 3) := by decide +kernel
theorem dX1_addThing_9 : decode cX1_addThing 9 = .ok (.aload_n 0, 1) := by decide +kernel
theorem dX1_addThing_10 : decode cX1_addThing 10 = .ok (.getfield 11, 3) := by decide +kernel
theorem dX1_addThing_13 : decode cX1_addThing 13 = .ok (.aload_n 0, 1) := by decide +kernel
theorem dX1_addThing_14 : decode cX1_addThing 14 = .ok (.getfield 35, 3) := by decide +kernel
theorem dX1_addThing_17 : decode cX1_addThing 17 = .ok (.aaload, 1) := by decide +kernel
theorem dX1_addThing_18 : decode cX1_addThing 18 = .ok (.iload_n 1, 1) := by decide +kernel
theorem dX1_addThing_19 : decode cX1_addThing 19 = .ok (.iload_n 2, 1) := by decide +kernel
theorem dX1_addThing_20 : decode cX1_addThing 20 = .ok (.iload_n 3, 1) := by decide +kernel
theorem dX1_addThing_21 : decode cX1_addThing 21 = .ok (.iload 4, 2) := by decide +kernel
theorem dX1_addThing_23 : decode cX1_addThing 23 = .ok (.iload 5, 2) := by decide +kernel
theorem dX1_addThing_25 : decode cX1_addThing 25 = .ok (.invokevirtual 56, 3) := by decide +kernel
theorem dX1_addThing_28 : decode cX1_addThing 28 = .ok (.aload_n 0, 1) := by decide +kernel
theorem dX1_addThing_29 : decode cX1_addThing 29 = .ok (.dup, 1) := by decide +kernel
theorem dX1_addThing_30 : decode cX1_addThing 30 = .ok (.getfield 35, 3) := by decide +kernel
theorem dX1_addThing_33 : decode cX1_addThing 33 = .ok (.iconst 1, 1) := by decide +kernel
theorem dX1_addThing_34 : decode cX1_addThing 34 = .ok (.iadd, 1) := by decide +kernel
theorem dX1_addThing_35 : decode cX1_addThing 35 = .ok (.putfield 35, 3) := by decide +kernel
theorem dX1_addThing_38 : decode cX1_addThing 38 = .ok (.return_, 1) := by decide +kernel
theorem dX1_addBoat_0 : decode cX1_addBoat 0 = .ok (.aload_n 0, 1) := by decide +kernel
theorem dX1_addBoat_1 : decode cX1_addBoat 1 = .ok (.getfield 38, 3) := by decide +kernel
theorem dX1_addBoat_4 : decode cX1_addBoat 4 = .ok (.iconst 5, 1) := by decide +kernel
theorem dX1_addBoat_5 : decode cX1_addBoat 5 = .ok (.if_icmp .ge 29, 3) := by decide +kernel
theorem dX1_addBoat_8 : decode cX1_addBoat 8 = .ok (.aload_n 0, 1) := by decide +kernel
theorem dX1_addBoat_9 : decode cX1_addBoat 9 = .ok (.getfield 20, 3) := by decide +kernel
theorem dX1_addBoat_12 : decode cX1_addBoat 12 = .ok (.aload_n 0, 1) := by decide +kernel
theorem dX1_addBoat_13 : decode cX1_addBoat 13 = .ok (.getfield 38, 3) := by decide +kernel
theorem dX1_addBoat_16 : decode cX1_addBoat 16 = .ok (.aaload, 1) := by decide +kernel
theorem dX1_addBoat_17 : decode cX1_addBoat 17 = .ok (.iload_n 1, 1) := by decide +kernel
theorem dX1_addBoat_18 : decode cX1_addBoat 18 = .ok (.iload_n 2, 1) := by decide +kernel
theorem dX1_addBoat_19 : decode cX1_addBoat 19 = .ok (.iconst 0, 1) := by decide +kernel
theorem dX1_addBoat_20 : decode cX1_addBoat 20 = .ok (.iconst 0, 1) := by decide +kernel
theorem dX1_addBoat_21 : decode cX1_addBoat 21 = .ok (.invokevirtual 72, 3) := by decide +kernel
theorem dX1_addBoat_24 : decode cX1_addBoat 24 = .ok (.aload_n 0, 1) := by decide +kernel
theorem dX1_addBoat_25 : decode cX1_addBoat 25 = .ok (.dup, 1) := by decide +kernel
theorem dX1_addBoat_26 : decode cX1_addBoat 26 = .ok (.getfield 38, 3) := by decide +kernel
theorem dX1_addBoat_29 : decode cX1_addBoat 29 = .ok (.iconst 1, 1) := by decide +kernel
theorem dX1_addBoat_30 : decode cX1_addBoat 30 = .ok (.iadd, 1) := by decide +kernel
theorem dX1_addBoat_31 : decode cX1_addBoat 31 = .ok (.putfield 38, 3) := by decide +kernel
theorem dX1_addBoat_34 : decode cX1_addBoat 34 = .ok (.return_, 1) := by decide +kernel
theorem dX1_hasRipples_0 : decode cX1_hasRipples 0 = .ok (.aload_n 0, 1) := by decide +kernel
theorem dX1_hasRipples_1 : decode cX1_hasRipples 1 = .ok (.getfield 29, 3) := by decide +kernel
theorem dX1_hasRipples_4 : decode cX1_hasRipples 4 = .ok (.iload_n 1, 1) := by decide +kernel
theorem dX1_hasRipples_5 : decode cX1_hasRipples 5 = .ok (.ishr, 1) := by decide +kernel
theorem dX1_hasRipples_6 : decode cX1_hasRipples 6 = .ok (.iconst 1, 1) := by decide +kernel
theorem dX1_hasRipples_7 : decode cX1_hasRipples 7 = .ok (.iand, 1) := by decide +kernel
theorem dX1_hasRipples_8 : decode cX1_hasRipples 8 = .ok (.iconst 1, 1) := by decide +kernel
theorem dX1_hasRipples_9 : decode cX1_hasRipples 9 = .ok (.if_icmp .ne 7, 3) := by decide +kernel
theorem dX1_hasRipples_12 : decode cX1_hasRipples 12 = .ok (.iconst 1, 1) := by decide +kernel
theorem dX1_hasRipples_13 : decode cX1_hasRipples 13 = .ok (.goto 4, 3) := by decide +kernel
theorem dX1_hasRipples_16 : decode cX1_hasRipples 16 = .ok (.iconst 0, 1) := by decide +kernel
theorem dX1_hasRipples_17 : decode cX1_hasRipples 17 = .ok (.ireturn, 1) := by decide +kernel
theorem dX1_glintOf_0 : decode cX1_glintOf 0 = .ok (.aload_n 0, 1) := by decide +kernel
theorem dX1_glintOf_1 : decode cX1_glintOf 1 = .ok (.getfield 32, 3) := by decide +kernel
theorem dX1_glintOf_4 : decode cX1_glintOf 4 = .ok (.iconst 1, 1) := by decide +kernel
theorem dX1_glintOf_5 : decode cX1_glintOf 5 = .ok (.if_icmp .ne 5, 3) := by decide +kernel
theorem dX1_glintOf_8 : decode cX1_glintOf 8 = .ok (.iconst 0, 1) := by decide +kernel
theorem dX1_glintOf_9 : decode cX1_glintOf 9 = .ok (.ireturn, 1) := by decide +kernel
theorem dX1_glintOf_10 : decode cX1_glintOf 10 = .ok (.iconst 0, 1) := by decide +kernel
theorem dX1_glintOf_11 : decode cX1_glintOf 11 = .ok (.istore_n 2, 1) := by decide +kernel
theorem dX1_glintOf_12 : decode cX1_glintOf 12 = .ok (.iconst 0, 1) := by decide +kernel
theorem dX1_glintOf_13 : decode cX1_glintOf 13 = .ok (.istore_n 3, 1) := by decide +kernel
theorem dX1_glintOf_14 : decode cX1_glintOf 14 = .ok (.iload_n 3, 1) := by decide +kernel
theorem dX1_glintOf_15 : decode cX1_glintOf 15 = .ok (.aload_n 0, 1) := by decide +kernel
theorem dX1_glintOf_16 : decode cX1_glintOf 16 = .ok (.getfield 35, 3) := by decide +kernel
theorem dX1_glintOf_19 : decode cX1_glintOf 19 = .ok (.if_icmp .ge 42, 3) := by decide +kernel
theorem dX1_glintOf_22 : decode cX1_glintOf 22 = .ok (.aload_n 0, 1) := by decide +kernel
theorem dX1_glintOf_23 : decode cX1_glintOf 23 = .ok (.getfield 11, 3) := by decide +kernel
theorem dX1_glintOf_26 : decode cX1_glintOf 26 = .ok (.iload_n 3, 1) := by decide +kernel
theorem dX1_glintOf_27 : decode cX1_glintOf 27 = .ok (.aaload, 1) := by decide +kernel
theorem dX1_glintOf_28 : decode cX1_glintOf 28 = .ok (.iload_n 1, 1) := by decide +kernel
theorem dX1_glintOf_29 : decode cX1_glintOf 29 = .ok (.aload_n 0, 1) := by decide +kernel
theorem dX1_glintOf_30 : decode cX1_glintOf 30 = .ok (.getfield 25, 3) := by decide +kernel
theorem dX1_glintOf_33 : decode cX1_glintOf 33 = .ok (.invokevirtual 75, 3) := by decide +kernel
theorem dX1_glintOf_36 : decode cX1_glintOf 36 = .ok (.ifCond .eq 19, 3) := by decide +kernel
theorem dX1_glintOf_39 : decode cX1_glintOf 39 = .ok (.iload_n 2, 1) := by decide +kernel
theorem dX1_glintOf_40 : decode cX1_glintOf 40 = .ok (.aload_n 0, 1) := by decide +kernel
theorem dX1_glintOf_41 : decode cX1_glintOf 41 = .ok (.getfield 11, 3) := by decide +kernel
theorem dX1_glintOf_44 : decode cX1_glintOf 44 = .ok (.iload_n 3, 1) := by decide +kernel
theorem dX1_glintOf_45 : decode cX1_glintOf 45 = .ok (.aaload, 1) := by decide +kernel
theorem dX1_glintOf_46 : decode cX1_glintOf 46 = .ok (.iload_n 1, 1) := by decide +kernel
theorem dX1_glintOf_47 : decode cX1_glintOf 47 = .ok (.bipush 8, 2) := by decide +kernel
theorem dX1_glintOf_49 : decode cX1_glintOf 49 = .ok (.idiv, 1) := by decide +kernel
theorem dX1_glintOf_50 : decode cX1_glintOf 50 = .ok (.invokevirtual 79, 3) := by decide +kernel
theorem dX1_glintOf_53 : decode cX1_glintOf 53 = .ok (.iadd, 1) := by decide +kernel
theorem dX1_glintOf_54 : decode cX1_glintOf 54 = .ok (.istore_n 2, 1) := by decide +kernel
theorem dX1_glintOf_55 : decode cX1_glintOf 55 = .ok (.iinc 3 1, 3) := by decide +kernel
theorem dX1_glintOf_58 : decode cX1_glintOf 58 = .ok (.goto (-44), 3) := by decide +kernel
theorem dX1_glintOf_61 : decode cX1_glintOf 61 = .ok (.aload_n 0, 1) := by decide +kernel
theorem dX1_glintOf_62 : decode cX1_glintOf 62 = .ok (.iload_n 1, 1) := by decide +kernel
theorem dX1_glintOf_63 : decode cX1_glintOf 63 = .ok (.bipush 8, 2) := by decide +kernel
theorem dX1_glintOf_65 : decode cX1_glintOf 65 = .ok (.irem, 1) := by decide +kernel
theorem dX1_glintOf_66 : decode cX1_glintOf 66 = .ok (.invokevirtual 83, 3) := by decide +kernel
theorem dX1_glintOf_69 : decode cX1_glintOf 69 = .ok (.ifCond .eq 9, 3) := by decide +kernel
theorem dX1_glintOf_72 : decode cX1_glintOf 72 = .ok (.iload_n 2, 1) := by decide +kernel
theorem dX1_glintOf_73 : decode cX1_glintOf 73 = .ok (.iconst 3, 1) := by decide +kernel
theorem dX1_glintOf_74 : decode cX1_glintOf 74 = .ok (.idiv, 1) := by decide +kernel
theorem dX1_glintOf_75 : decode cX1_glintOf 75 = .ok (.goto 4, 3) := by decide +kernel
theorem dX1_glintOf_78 : decode cX1_glintOf 78 = .ok (.iload_n 2, 1) := by decide +kernel
theorem dX1_glintOf_79 : decode cX1_glintOf 79 = .ok (.ireturn, 1) := by decide +kernel
theorem dX1_glintOfAll_0 : decode cX1_glintOfAll 0 = .ok (.iconst 0, 1) := by decide +kernel
theorem dX1_glintOfAll_1 : decode cX1_glintOfAll 1 = .ok (.istore_n 1, 1) := by decide +kernel
theorem dX1_glintOfAll_2 : decode cX1_glintOfAll 2 = .ok (.iconst 0, 1) := by decide +kernel
theorem dX1_glintOfAll_3 : decode cX1_glintOfAll 3 = .ok (.istore_n 2, 1) := by decide +kernel
theorem dX1_glintOfAll_4 : decode cX1_glintOfAll 4 = .ok (.iload_n 2, 1) := by decide +kernel
theorem dX1_glintOfAll_5 : decode cX1_glintOfAll 5 = .ok (.bipush 48, 2) := by decide +kernel
theorem dX1_glintOfAll_7 : decode cX1_glintOfAll 7 = .ok (.if_icmp .ge 17, 3) := by decide +kernel
theorem dX1_glintOfAll_10 : decode cX1_glintOfAll 10 = .ok (.iload_n 1, 1) := by decide +kernel
theorem dX1_glintOfAll_11 : decode cX1_glintOfAll 11 = .ok (.aload_n 0, 1) := by decide +kernel
theorem dX1_glintOfAll_12 : decode cX1_glintOfAll 12 = .ok (.iload_n 2, 1) := by decide +kernel
theorem dX1_glintOfAll_13 : decode cX1_glintOfAll 13 = .ok (.invokevirtual 87, 3) := by decide +kernel
theorem dX1_glintOfAll_16 : decode cX1_glintOfAll 16 = .ok (.iadd, 1) := by decide +kernel
theorem dX1_glintOfAll_17 : decode cX1_glintOfAll 17 = .ok (.istore_n 1, 1) := by decide +kernel
theorem dX1_glintOfAll_18 : decode cX1_glintOfAll 18 = .ok (.iinc 2 1, 3) := by decide +kernel
theorem dX1_glintOfAll_21 : decode cX1_glintOfAll 21 = .ok (.goto (-17), 3) := by decide +kernel
theorem dX1_glintOfAll_24 : decode cX1_glintOfAll 24 = .ok (.iload_n 1, 1) := by decide +kernel
theorem dX1_glintOfAll_25 : decode cX1_glintOfAll 25 = .ok (.ireturn, 1) := by decide +kernel
theorem dX1_thingsMirroredIn_0 : decode cX1_thingsMirroredIn 0 = .ok (.iconst 0, 1) := by decide +kernel
theorem dX1_thingsMirroredIn_1 : decode cX1_thingsMirroredIn 1 = .ok (.istore_n 2, 1) := by decide +kernel
theorem dX1_thingsMirroredIn_2 : decode cX1_thingsMirroredIn 2 = .ok (.iconst 0, 1) := by decide +kernel
theorem dX1_thingsMirroredIn_3 : decode cX1_thingsMirroredIn 3 = .ok (.istore_n 3, 1) := by decide +kernel
theorem dX1_thingsMirroredIn_4 : decode cX1_thingsMirroredIn 4 = .ok (.iload_n 3, 1) := by decide +kernel
theorem dX1_thingsMirroredIn_5 : decode cX1_thingsMirroredIn 5 = .ok (.aload_n 0, 1) := by decide +kernel
theorem dX1_thingsMirroredIn_6 : decode cX1_thingsMirroredIn 6 = .ok (.getfield 35, 3) := by decide +kernel
theorem dX1_thingsMirroredIn_9 : decode cX1_thingsMirroredIn 9 = .ok (.if_icmp .ge 32, 3) := by decide +kernel
theorem dX1_thingsMirroredIn_12 : decode cX1_thingsMirroredIn 12 = .ok (.aload_n 0, 1) := by decide +kernel
theorem dX1_thingsMirroredIn_13 : decode cX1_thingsMirroredIn 13 = .ok (.getfield 11, 3) := by decide +kernel
theorem dX1_thingsMirroredIn_16 : decode cX1_thingsMirroredIn 16 = .ok (.iload_n 3, 1) := by decide +kernel
theorem dX1_thingsMirroredIn_17 : decode cX1_thingsMirroredIn 17 = .ok (.aaload, 1) := by decide +kernel
theorem dX1_thingsMirroredIn_18 : decode cX1_thingsMirroredIn 18 = .ok (.iload_n 1, 1) := by decide +kernel
theorem dX1_thingsMirroredIn_19 : decode cX1_thingsMirroredIn 19 = .ok (.aload_n 0, 1) := by decide +kernel
theorem dX1_thingsMirroredIn_20 : decode cX1_thingsMirroredIn 20 = .ok (.getfield 25, 3) := by decide +kernel
theorem dX1_thingsMirroredIn_23 : decode cX1_thingsMirroredIn 23 = .ok (.invokevirtual 75, 3) := by decide +kernel
theorem dX1_thingsMirroredIn_26 : decode cX1_thingsMirroredIn 26 = .ok (.ifCond .eq 9, 3) := by decide +kernel
theorem dX1_thingsMirroredIn_29 : decode cX1_thingsMirroredIn 29 = .ok (.iload_n 2, 1) := by decide +kernel
theorem dX1_thingsMirroredIn_30 : decode cX1_thingsMirroredIn 30 = .ok (.iconst 1, 1) := by decide +kernel
theorem dX1_thingsMirroredIn_31 : decode cX1_thingsMirroredIn 31 = .ok (.iload_n 3, 1) := by decide +kernel
theorem dX1_thingsMirroredIn_32 : decode cX1_thingsMirroredIn 32 = .ok (.ishl, 1) := by decide +kernel
theorem dX1_thingsMirroredIn_33 : decode cX1_thingsMirroredIn 33 = .ok (.ior, 1) := by decide +kernel
theorem dX1_thingsMirroredIn_34 : decode cX1_thingsMirroredIn 34 = .ok (.istore_n 2, 1) := by decide +kernel
theorem dX1_thingsMirroredIn_35 : decode cX1_thingsMirroredIn 35 = .ok (.iinc 3 1, 3) := by decide +kernel
theorem dX1_thingsMirroredIn_38 : decode cX1_thingsMirroredIn 38 = .ok (.goto (-34), 3) := by decide +kernel
theorem dX1_thingsMirroredIn_41 : decode cX1_thingsMirroredIn 41 = .ok (.iload_n 2, 1) := by decide +kernel
theorem dX1_thingsMirroredIn_42 : decode cX1_thingsMirroredIn 42 = .ok (.ireturn, 1) := by decide +kernel
theorem dX1_boatsAt_0 : decode cX1_boatsAt 0 = .ok (.iconst 0, 1) := by decide +kernel
theorem dX1_boatsAt_1 : decode cX1_boatsAt 1 = .ok (.istore_n 2, 1) := by decide +kernel
theorem dX1_boatsAt_2 : decode cX1_boatsAt 2 = .ok (.iconst 0, 1) := by decide +kernel
theorem dX1_boatsAt_3 : decode cX1_boatsAt 3 = .ok (.istore_n 3, 1) := by decide +kernel
theorem dX1_boatsAt_4 : decode cX1_boatsAt 4 = .ok (.iload_n 3, 1) := by decide +kernel
theorem dX1_boatsAt_5 : decode cX1_boatsAt 5 = .ok (.aload_n 0, 1) := by decide +kernel
theorem dX1_boatsAt_6 : decode cX1_boatsAt 6 = .ok (.getfield 38, 3) := by decide +kernel
theorem dX1_boatsAt_9 : decode cX1_boatsAt 9 = .ok (.if_icmp .ge 28, 3) := by decide +kernel
theorem dX1_boatsAt_12 : decode cX1_boatsAt 12 = .ok (.aload_n 0, 1) := by decide +kernel
theorem dX1_boatsAt_13 : decode cX1_boatsAt 13 = .ok (.getfield 20, 3) := by decide +kernel
theorem dX1_boatsAt_16 : decode cX1_boatsAt 16 = .ok (.iload_n 3, 1) := by decide +kernel
theorem dX1_boatsAt_17 : decode cX1_boatsAt 17 = .ok (.aaload, 1) := by decide +kernel
theorem dX1_boatsAt_18 : decode cX1_boatsAt 18 = .ok (.getfield 60, 3) := by decide +kernel
theorem dX1_boatsAt_21 : decode cX1_boatsAt 21 = .ok (.iload_n 1, 1) := by decide +kernel
theorem dX1_boatsAt_22 : decode cX1_boatsAt 22 = .ok (.if_icmp .ne 9, 3) := by decide +kernel
theorem dX1_boatsAt_25 : decode cX1_boatsAt 25 = .ok (.iload_n 2, 1) := by decide +kernel
theorem dX1_boatsAt_26 : decode cX1_boatsAt 26 = .ok (.iconst 1, 1) := by decide +kernel
theorem dX1_boatsAt_27 : decode cX1_boatsAt 27 = .ok (.iload_n 3, 1) := by decide +kernel
theorem dX1_boatsAt_28 : decode cX1_boatsAt 28 = .ok (.ishl, 1) := by decide +kernel
theorem dX1_boatsAt_29 : decode cX1_boatsAt 29 = .ok (.ior, 1) := by decide +kernel
theorem dX1_boatsAt_30 : decode cX1_boatsAt 30 = .ok (.istore_n 2, 1) := by decide +kernel
theorem dX1_boatsAt_31 : decode cX1_boatsAt 31 = .ok (.iinc 3 1, 3) := by decide +kernel
theorem dX1_boatsAt_34 : decode cX1_boatsAt 34 = .ok (.goto (-30), 3) := by decide +kernel
theorem dX1_boatsAt_37 : decode cX1_boatsAt 37 = .ok (.iload_n 2, 1) := by decide +kernel
theorem dX1_boatsAt_38 : decode cX1_boatsAt 38 = .ok (.ireturn, 1) := by decide +kernel
theorem dX1_taxOf_0 : decode cX1_taxOf 0 = .ok (.iconst 0, 1) := by decide +kernel
theorem dX1_taxOf_1 : decode cX1_taxOf 1 = .ok (.istore_n 2, 1) := by decide +kernel
theorem dX1_taxOf_2 : decode cX1_taxOf 2 = .ok (.iconst 0, 1) := by decide +kernel
theorem dX1_taxOf_3 : decode cX1_taxOf 3 = .ok (.istore_n 3, 1) := by decide +kernel
theorem dX1_taxOf_4 : decode cX1_taxOf 4 = .ok (.iload_n 3, 1) := by decide +kernel
theorem dX1_taxOf_5 : decode cX1_taxOf 5 = .ok (.aload_n 0, 1) := by decide +kernel
theorem dX1_taxOf_6 : decode cX1_taxOf 6 = .ok (.getfield 35, 3) := by decide +kernel
theorem dX1_taxOf_9 : decode cX1_taxOf 9 = .ok (.if_icmp .ge 38, 3) := by decide +kernel
theorem dX1_taxOf_12 : decode cX1_taxOf 12 = .ok (.aload_n 0, 1) := by decide +kernel
theorem dX1_taxOf_13 : decode cX1_taxOf 13 = .ok (.getfield 11, 3) := by decide +kernel
theorem dX1_taxOf_16 : decode cX1_taxOf 16 = .ok (.iload_n 3, 1) := by decide +kernel
theorem dX1_taxOf_17 : decode cX1_taxOf 17 = .ok (.aaload, 1) := by decide +kernel
theorem dX1_taxOf_18 : decode cX1_taxOf 18 = .ok (.iload_n 1, 1) := by decide +kernel
theorem dX1_taxOf_19 : decode cX1_taxOf 19 = .ok (.aload_n 0, 1) := by decide +kernel
theorem dX1_taxOf_20 : decode cX1_taxOf 20 = .ok (.getfield 25, 3) := by decide +kernel
theorem dX1_taxOf_23 : decode cX1_taxOf 23 = .ok (.invokevirtual 75, 3) := by decide +kernel
theorem dX1_taxOf_26 : decode cX1_taxOf 26 = .ok (.ifCond .eq 15, 3) := by decide +kernel
theorem dX1_taxOf_29 : decode cX1_taxOf 29 = .ok (.iload_n 2, 1) := by decide +kernel
theorem dX1_taxOf_30 : decode cX1_taxOf 30 = .ok (.aload_n 0, 1) := by decide +kernel
theorem dX1_taxOf_31 : decode cX1_taxOf 31 = .ok (.getfield 11, 3) := by decide +kernel
theorem dX1_taxOf_34 : decode cX1_taxOf 34 = .ok (.iload_n 3, 1) := by decide +kernel
theorem dX1_taxOf_35 : decode cX1_taxOf 35 = .ok (.aaload, 1) := by decide +kernel
theorem dX1_taxOf_36 : decode cX1_taxOf 36 = .ok (.invokevirtual 90, 3) := by decide +kernel
theorem dX1_taxOf_39 : decode cX1_taxOf 39 = .ok (.iadd, 1) := by decide +kernel
theorem dX1_taxOf_40 : decode cX1_taxOf 40 = .ok (.istore_n 2, 1) := by decide +kernel
theorem dX1_taxOf_41 : decode cX1_taxOf 41 = .ok (.iinc 3 1, 3) := by decide +kernel
theorem dX1_taxOf_44 : decode cX1_taxOf 44 = .ok (.goto (-40), 3) := by decide +kernel
theorem dX1_taxOf_47 : decode cX1_taxOf 47 = .ok (.iload_n 2, 1) := by decide +kernel
theorem dX1_taxOf_48 : decode cX1_taxOf 48 = .ok (.ireturn, 1) := by decide +kernel
theorem dX1_passHours_0 : decode cX1_passHours 0 = .ok (.iconst 0, 1) := by decide +kernel
theorem dX1_passHours_1 : decode cX1_passHours 1 = .ok (.istore_n 2, 1) := by decide +kernel
theorem dX1_passHours_2 : decode cX1_passHours 2 = .ok (.iload_n 2, 1) := by decide +kernel
theorem dX1_passHours_3 : decode cX1_passHours 3 = .ok (.iload_n 1, 1) := by decide +kernel
theorem dX1_passHours_4 : decode cX1_passHours 4 = .ok (.if_icmp .ge 13, 3) := by decide +kernel
theorem dX1_passHours_7 : decode cX1_passHours 7 = .ok (.aload_n 0, 1) := by decide +kernel
theorem dX1_passHours_8 : decode cX1_passHours 8 = .ok (.invokevirtual 94, 3) := by decide +kernel
theorem dX1_passHours_11 : decode cX1_passHours 11 = .ok (.iinc 2 1, 3) := by decide +kernel
theorem dX1_passHours_14 : decode cX1_passHours 14 = .ok (.goto (-12), 3) := by decide +kernel
theorem dX1_passHours_17 : decode cX1_passHours 17 = .ok (.return_, 1) := by decide +kernel
theorem dX1_passHour_0 : decode cX1_passHour 0 = .ok (.iconst 0, 1) := by decide +kernel
theorem dX1_passHour_1 : decode cX1_passHour 1 = .ok (.istore_n 1, 1) := by decide +kernel
theorem dX1_passHour_2 : decode cX1_passHour 2 = .ok (.iload_n 1, 1) := by decide +kernel
theorem dX1_passHour_3 : decode cX1_passHour 3 = .ok (.aload_n 0, 1) := by decide +kernel
theorem dX1_passHour_4 : decode cX1_passHour 4 = .ok (.getfield 38, 3) := by decide +kernel
theorem dX1_passHour_7 : decode cX1_passHour 7 = .ok (.if_icmp .ge 19, 3) := by decide +kernel
theorem dX1_passHour_10 : decode cX1_passHour 10 = .ok (.aload_n 0, 1) := by decide +kernel
theorem dX1_passHour_11 : decode cX1_passHour 11 = .ok (.aload_n 0, 1) := by decide +kernel
theorem dX1_passHour_12 : decode cX1_passHour 12 = .ok (.getfield 20, 3) := by decide +kernel
theorem dX1_passHour_15 : decode cX1_passHour 15 = .ok (.iload_n 1, 1) := by decide +kernel
theorem dX1_passHour_16 : decode cX1_passHour 16 = .ok (.aaload, 1) := by decide +kernel
theorem dX1_passHour_17 : decode cX1_passHour 17 = .ok (.invokevirtual 97, 3) := by decide +kernel
theorem dX1_passHour_20 : decode cX1_passHour 20 = .ok (.iinc 1 1, 3) := by decide +kernel
theorem dX1_passHour_23 : decode cX1_passHour 23 = .ok (.goto (-21), 3) := by decide +kernel
theorem dX1_passHour_26 : decode cX1_passHour 26 = .ok (.aload_n 0, 1) := by decide +kernel
theorem dX1_passHour_27 : decode cX1_passHour 27 = .ok (.getfield 25, 3) := by decide +kernel
theorem dX1_passHour_30 : decode cX1_passHour 30 = .ok (.bipush 24, 2) := by decide +kernel
theorem dX1_passHour_32 : decode cX1_passHour 32 = .ok (.irem, 1) := by decide +kernel
theorem dX1_passHour_33 : decode cX1_passHour 33 = .ok (.bipush 20, 2) := by decide +kernel
theorem dX1_passHour_35 : decode cX1_passHour 35 = .ok (.if_icmp .ne 28, 3) := by decide +kernel
theorem dX1_passHour_38 : decode cX1_passHour 38 = .ok (.iconst 0, 1) := by decide +kernel
theorem dX1_passHour_39 : decode cX1_passHour 39 = .ok (.istore_n 1, 1) := by decide +kernel
theorem dX1_passHour_40 : decode cX1_passHour 40 = .ok (.iload_n 1, 1) := by decide +kernel
theorem dX1_passHour_41 : decode cX1_passHour 41 = .ok (.aload_n 0, 1) := by decide +kernel
theorem dX1_passHour_42 : decode cX1_passHour 42 = .ok (.getfield 38, 3) := by decide +kernel
theorem dX1_passHour_45 : decode cX1_passHour 45 = .ok (.if_icmp .ge 18, 3) := by decide +kernel
theorem dX1_passHour_48 : decode cX1_passHour 48 = .ok (.aload_n 0, 1) := by decide +kernel
theorem dX1_passHour_49 : decode cX1_passHour 49 = .ok (.getfield 20, 3) := by decide +kernel
theorem dX1_passHour_52 : decode cX1_passHour 52 = .ok (.iload_n 1, 1) := by decide +kernel
theorem dX1_passHour_53 : decode cX1_passHour 53 = .ok (.aaload, 1) := by decide +kernel
theorem dX1_passHour_54 : decode cX1_passHour 54 = .ok (.invokevirtual 101, 3) := by decide +kernel
theorem dX1_passHour_57 : decode cX1_passHour 57 = .ok (.iinc 1 1, 3) := by decide +kernel
theorem dX1_passHour_60 : decode cX1_passHour 60 = .ok (.goto (-20), 3) := by decide +kernel
theorem dX1_passHour_63 : decode cX1_passHour 63 = .ok (.aload_n 0, 1) := by decide +kernel
theorem dX1_passHour_64 : decode cX1_passHour 64 = .ok (.getfield 25, 3) := by decide +kernel
theorem dX1_passHour_67 : decode cX1_passHour 67 = .ok (.iconst 4, 1) := by decide +kernel
theorem dX1_passHour_68 : decode cX1_passHour 68 = .ok (.irem, 1) := by decide +kernel
theorem dX1_passHour_69 : decode cX1_passHour 69 = .ok (.iconst 3, 1) := by decide +kernel
theorem dX1_passHour_70 : decode cX1_passHour 70 = .ok (.if_icmp .ne 28, 3) := by decide +kernel
theorem dX1_passHour_73 : decode cX1_passHour 73 = .ok (.iconst 0, 1) := by decide +kernel
theorem dX1_passHour_74 : decode cX1_passHour 74 = .ok (.istore_n 1, 1) := by decide +kernel
theorem dX1_passHour_75 : decode cX1_passHour 75 = .ok (.iload_n 1, 1) := by decide +kernel
theorem dX1_passHour_76 : decode cX1_passHour 76 = .ok (.aload_n 0, 1) := by decide +kernel
theorem dX1_passHour_77 : decode cX1_passHour 77 = .ok (.getfield 35, 3) := by decide +kernel
theorem dX1_passHour_80 : decode cX1_passHour 80 = .ok (.if_icmp .ge 18, 3) := by decide +kernel
theorem dX1_passHour_83 : decode cX1_passHour 83 = .ok (.aload_n 0, 1) := by decide +kernel
theorem dX1_passHour_84 : decode cX1_passHour 84 = .ok (.getfield 11, 3) := by decide +kernel
theorem dX1_passHour_87 : decode cX1_passHour 87 = .ok (.iload_n 1, 1) := by decide +kernel
theorem dX1_passHour_88 : decode cX1_passHour 88 = .ok (.aaload, 1) := by decide +kernel
theorem dX1_passHour_89 : decode cX1_passHour 89 = .ok (.invokevirtual 104, 3) := by decide +kernel
theorem dX1_passHour_92 : decode cX1_passHour 92 = .ok (.iinc 1 1, 3) := by decide +kernel
theorem dX1_passHour_95 : decode cX1_passHour 95 = .ok (.goto (-20), 3) := by decide +kernel
theorem dX1_passHour_98 : decode cX1_passHour 98 = .ok (.aload_n 0, 1) := by decide +kernel
theorem dX1_passHour_99 : decode cX1_passHour 99 = .ok (.dup, 1) := by decide +kernel
theorem dX1_passHour_100 : decode cX1_passHour 100 = .ok (.getfield 25, 3) := by decide +kernel
theorem dX1_passHour_103 : decode cX1_passHour 103 = .ok (.iconst 1, 1) := by decide +kernel
theorem dX1_passHour_104 : decode cX1_passHour 104 = .ok (.iadd, 1) := by decide +kernel
theorem dX1_passHour_105 : decode cX1_passHour 105 = .ok (.putfield 25, 3) := by decide +kernel
theorem dX1_passHour_108 : decode cX1_passHour 108 = .ok (.return_, 1) := by decide +kernel
theorem dX1_fishWith_0 : decode cX1_fishWith 0 = .ok (.aload_n 1, 1) := by decide +kernel
theorem dX1_fishWith_1 : decode cX1_fishWith 1 = .ok (.aload_n 0, 1) := by decide +kernel
theorem dX1_fishWith_2 : decode cX1_fishWith 2 = .ok (.aload_n 1, 1) := by decide +kernel
theorem dX1_fishWith_3 : decode cX1_fishWith 3 = .ok (.getfield 60, 3) := by decide +kernel
theorem dX1_fishWith_6 : decode cX1_fishWith 6 = .ok (.invokevirtual 87, 3) := by decide +kernel
theorem dX1_fishWith_9 : decode cX1_fishWith 9 = .ok (.invokevirtual 107, 3) := by decide +kernel
theorem dX1_fishWith_12 : decode cX1_fishWith 12 = .ok (.istore_n 2, 1) := by decide +kernel
theorem dX1_fishWith_13 : decode cX1_fishWith 13 = .ok (.iload_n 2, 1) := by decide +kernel
theorem dX1_fishWith_14 : decode cX1_fishWith 14 = .ok (.ifCond .gt 4, 3) := by decide +kernel
theorem dX1_fishWith_17 : decode cX1_fishWith 17 = .ok (.return_, 1) := by decide +kernel
theorem dX1_fishWith_18 : decode cX1_fishWith 18 = .ok (.aload_n 1, 1) := by decide +kernel
theorem dX1_fishWith_19 : decode cX1_fishWith 19 = .ok (.dup, 1) := by decide +kernel
theorem dX1_fishWith_20 : decode cX1_fishWith 20 = .ok (.getfield 66, 3) := by decide +kernel
theorem dX1_fishWith_23 : decode cX1_fishWith 23 = .ok (.iload_n 2, 1) := by decide +kernel
theorem dX1_fishWith_24 : decode cX1_fishWith 24 = .ok (.iadd, 1) := by decide +kernel
theorem dX1_fishWith_25 : decode cX1_fishWith 25 = .ok (.putfield 66, 3) := by decide +kernel
theorem dX1_fishWith_28 : decode cX1_fishWith 28 = .ok (.aload_n 1, 1) := by decide +kernel
theorem dX1_fishWith_29 : decode cX1_fishWith 29 = .ok (.aload_n 0, 1) := by decide +kernel
theorem dX1_fishWith_30 : decode cX1_fishWith 30 = .ok (.aload_n 1, 1) := by decide +kernel
theorem dX1_fishWith_31 : decode cX1_fishWith 31 = .ok (.getfield 60, 3) := by decide +kernel
theorem dX1_fishWith_34 : decode cX1_fishWith 34 = .ok (.invokevirtual 110, 3) := by decide +kernel
theorem dX1_fishWith_37 : decode cX1_fishWith 37 = .ok (.ineg, 1) := by decide +kernel
theorem dX1_fishWith_38 : decode cX1_fishWith 38 = .ok (.invokevirtual 113, 3) := by decide +kernel
theorem dX1_fishWith_41 : decode cX1_fishWith 41 = .ok (.iconst 0, 1) := by decide +kernel
theorem dX1_fishWith_42 : decode cX1_fishWith 42 = .ok (.istore_n 3, 1) := by decide +kernel
theorem dX1_fishWith_43 : decode cX1_fishWith 43 = .ok (.iload_n 3, 1) := by decide +kernel
theorem dX1_fishWith_44 : decode cX1_fishWith 44 = .ok (.aload_n 0, 1) := by decide +kernel
theorem dX1_fishWith_45 : decode cX1_fishWith 45 = .ok (.getfield 35, 3) := by decide +kernel
theorem dX1_fishWith_48 : decode cX1_fishWith 48 = .ok (.if_icmp .ge 38, 3) := by decide +kernel
theorem dX1_fishWith_51 : decode cX1_fishWith 51 = .ok (.aload_n 0, 1) := by decide +kernel
theorem dX1_fishWith_52 : decode cX1_fishWith 52 = .ok (.getfield 11, 3) := by decide +kernel
theorem dX1_fishWith_55 : decode cX1_fishWith 55 = .ok (.iload_n 3, 1) := by decide +kernel
theorem dX1_fishWith_56 : decode cX1_fishWith 56 = .ok (.aaload, 1) := by decide +kernel
theorem dX1_fishWith_57 : decode cX1_fishWith 57 = .ok (.aload_n 1, 1) := by decide +kernel
theorem dX1_fishWith_58 : decode cX1_fishWith 58 = .ok (.getfield 60, 3) := by decide +kernel
theorem dX1_fishWith_61 : decode cX1_fishWith 61 = .ok (.aload_n 0, 1) := by decide +kernel
theorem dX1_fishWith_62 : decode cX1_fishWith 62 = .ok (.getfield 25, 3) := by decide +kernel
theorem dX1_fishWith_65 : decode cX1_fishWith 65 = .ok (.invokevirtual 75, 3) := by decide +kernel
theorem dX1_fishWith_68 : decode cX1_fishWith 68 = .ok (.ifCond .eq 12, 3) := by decide +kernel
theorem dX1_fishWith_71 : decode cX1_fishWith 71 = .ok (.aload_n 0, 1) := by decide +kernel
theorem dX1_fishWith_72 : decode cX1_fishWith 72 = .ok (.getfield 11, 3) := by decide +kernel
theorem dX1_fishWith_75 : decode cX1_fishWith 75 = .ok (.iload_n 3, 1) := by decide +kernel
theorem dX1_fishWith_76 : decode cX1_fishWith 76 = .ok (.aaload, 1) := by decide +kernel
theorem dX1_fishWith_77 : decode cX1_fishWith 77 = .ok (.invokevirtual 117, 3) := by decide +kernel
theorem dX1_fishWith_80 : decode cX1_fishWith 80 = .ok (.iinc 3 1, 3) := by decide +kernel
theorem dX1_fishWith_83 : decode cX1_fishWith 83 = .ok (.goto (-40), 3) := by decide +kernel
theorem dX1_fishWith_86 : decode cX1_fishWith 86 = .ok (.return_, 1) := by decide +kernel
theorem dX1_coinsOfAll_0 : decode cX1_coinsOfAll 0 = .ok (.iconst 0, 1) := by decide +kernel
theorem dX1_coinsOfAll_1 : decode cX1_coinsOfAll 1 = .ok (.istore_n 1, 1) := by decide +kernel
theorem dX1_coinsOfAll_2 : decode cX1_coinsOfAll 2 = .ok (.iconst 0, 1) := by decide +kernel
theorem dX1_coinsOfAll_3 : decode cX1_coinsOfAll 3 = .ok (.istore_n 2, 1) := by decide +kernel
theorem dX1_coinsOfAll_4 : decode cX1_coinsOfAll 4 = .ok (.iload_n 2, 1) := by decide +kernel
theorem dX1_coinsOfAll_5 : decode cX1_coinsOfAll 5 = .ok (.aload_n 0, 1) := by decide +kernel
theorem dX1_coinsOfAll_6 : decode cX1_coinsOfAll 6 = .ok (.getfield 38, 3) := by decide +kernel
theorem dX1_coinsOfAll_9 : decode cX1_coinsOfAll 9 = .ok (.if_icmp .ge 21, 3) := by decide +kernel
theorem dX1_coinsOfAll_12 : decode cX1_coinsOfAll 12 = .ok (.iload_n 1, 1) := by decide +kernel
theorem dX1_coinsOfAll_13 : decode cX1_coinsOfAll 13 = .ok (.aload_n 0, 1) := by decide +kernel
theorem dX1_coinsOfAll_14 : decode cX1_coinsOfAll 14 = .ok (.getfield 20, 3) := by decide +kernel
theorem dX1_coinsOfAll_17 : decode cX1_coinsOfAll 17 = .ok (.iload_n 2, 1) := by decide +kernel
theorem dX1_coinsOfAll_18 : decode cX1_coinsOfAll 18 = .ok (.aaload, 1) := by decide +kernel
theorem dX1_coinsOfAll_19 : decode cX1_coinsOfAll 19 = .ok (.getfield 69, 3) := by decide +kernel
theorem dX1_coinsOfAll_22 : decode cX1_coinsOfAll 22 = .ok (.iadd, 1) := by decide +kernel
theorem dX1_coinsOfAll_23 : decode cX1_coinsOfAll 23 = .ok (.istore_n 1, 1) := by decide +kernel
theorem dX1_coinsOfAll_24 : decode cX1_coinsOfAll 24 = .ok (.iinc 2 1, 3) := by decide +kernel
theorem dX1_coinsOfAll_27 : decode cX1_coinsOfAll 27 = .ok (.goto (-23), 3) := by decide +kernel
theorem dX1_coinsOfAll_30 : decode cX1_coinsOfAll 30 = .ok (.iload_n 1, 1) := by decide +kernel
theorem dX1_coinsOfAll_31 : decode cX1_coinsOfAll 31 = .ok (.ireturn, 1) := by decide +kernel
theorem dX1_holdOfAll_0 : decode cX1_holdOfAll 0 = .ok (.iconst 0, 1) := by decide +kernel
theorem dX1_holdOfAll_1 : decode cX1_holdOfAll 1 = .ok (.istore_n 1, 1) := by decide +kernel
theorem dX1_holdOfAll_2 : decode cX1_holdOfAll 2 = .ok (.iconst 0, 1) := by decide +kernel
theorem dX1_holdOfAll_3 : decode cX1_holdOfAll 3 = .ok (.istore_n 2, 1) := by decide +kernel
theorem dX1_holdOfAll_4 : decode cX1_holdOfAll 4 = .ok (.iload_n 2, 1) := by decide +kernel
theorem dX1_holdOfAll_5 : decode cX1_holdOfAll 5 = .ok (.aload_n 0, 1) := by decide +kernel
theorem dX1_holdOfAll_6 : decode cX1_holdOfAll 6 = .ok (.getfield 38, 3) := by decide +kernel
theorem dX1_holdOfAll_9 : decode cX1_holdOfAll 9 = .ok (.if_icmp .ge 21, 3) := by decide +kernel
theorem dX1_holdOfAll_12 : decode cX1_holdOfAll 12 = .ok (.iload_n 1, 1) := by decide +kernel
theorem dX1_holdOfAll_13 : decode cX1_holdOfAll 13 = .ok (.aload_n 0, 1) := by decide +kernel
theorem dX1_holdOfAll_14 : decode cX1_holdOfAll 14 = .ok (.getfield 20, 3) := by decide +kernel
theorem dX1_holdOfAll_17 : decode cX1_holdOfAll 17 = .ok (.iload_n 2, 1) := by decide +kernel
theorem dX1_holdOfAll_18 : decode cX1_holdOfAll 18 = .ok (.aaload, 1) := by decide +kernel
theorem dX1_holdOfAll_19 : decode cX1_holdOfAll 19 = .ok (.getfield 66, 3) := by decide +kernel
theorem dX1_holdOfAll_22 : decode cX1_holdOfAll 22 = .ok (.iadd, 1) := by decide +kernel
theorem dX1_holdOfAll_23 : decode cX1_holdOfAll 23 = .ok (.istore_n 1, 1) := by decide +kernel
theorem dX1_holdOfAll_24 : decode cX1_holdOfAll 24 = .ok (.iinc 2 1, 3) := by decide +kernel
theorem dX1_holdOfAll_27 : decode cX1_holdOfAll 27 = .ok (.goto (-23), 3) := by decide +kernel
theorem dX1_holdOfAll_30 : decode cX1_holdOfAll 30 = .ok (.iload_n 1, 1) := by decide +kernel
theorem dX1_holdOfAll_31 : decode cX1_holdOfAll 31 = .ok (.ireturn, 1) := by decide +kernel
theorem dX1_lightOfAll_0 : decode cX1_lightOfAll 0 = .ok (.iconst 0, 1) := by decide +kernel
theorem dX1_lightOfAll_1 : decode cX1_lightOfAll 1 = .ok (.istore_n 1, 1) := by decide +kernel
theorem dX1_lightOfAll_2 : decode cX1_lightOfAll 2 = .ok (.iconst 0, 1) := by decide +kernel
theorem dX1_lightOfAll_3 : decode cX1_lightOfAll 3 = .ok (.istore_n 2, 1) := by decide +kernel
theorem dX1_lightOfAll_4 : decode cX1_lightOfAll 4 = .ok (.iload_n 2, 1) := by decide +kernel
theorem dX1_lightOfAll_5 : decode cX1_lightOfAll 5 = .ok (.aload_n 0, 1) := by decide +kernel
theorem dX1_lightOfAll_6 : decode cX1_lightOfAll 6 = .ok (.getfield 35, 3) := by decide +kernel
theorem dX1_lightOfAll_9 : decode cX1_lightOfAll 9 = .ok (.if_icmp .ge 21, 3) := by decide +kernel
theorem dX1_lightOfAll_12 : decode cX1_lightOfAll 12 = .ok (.iload_n 1, 1) := by decide +kernel
theorem dX1_lightOfAll_13 : decode cX1_lightOfAll 13 = .ok (.aload_n 0, 1) := by decide +kernel
theorem dX1_lightOfAll_14 : decode cX1_lightOfAll 14 = .ok (.getfield 11, 3) := by decide +kernel
theorem dX1_lightOfAll_17 : decode cX1_lightOfAll 17 = .ok (.iload_n 2, 1) := by decide +kernel
theorem dX1_lightOfAll_18 : decode cX1_lightOfAll 18 = .ok (.aaload, 1) := by decide +kernel
theorem dX1_lightOfAll_19 : decode cX1_lightOfAll 19 = .ok (.getfield 50, 3) := by decide +kernel
theorem dX1_lightOfAll_22 : decode cX1_lightOfAll 22 = .ok (.iadd, 1) := by decide +kernel
theorem dX1_lightOfAll_23 : decode cX1_lightOfAll 23 = .ok (.istore_n 1, 1) := by decide +kernel
theorem dX1_lightOfAll_24 : decode cX1_lightOfAll 24 = .ok (.iinc 2 1, 3) := by decide +kernel
theorem dX1_lightOfAll_27 : decode cX1_lightOfAll 27 = .ok (.goto (-23), 3) := by decide +kernel
theorem dX1_lightOfAll_30 : decode cX1_lightOfAll 30 = .ok (.iload_n 1, 1) := by decide +kernel
theorem dX1_lightOfAll_31 : decode cX1_lightOfAll 31 = .ok (.ireturn, 1) := by decide +kernel
theorem dX1_darkThings_0 : decode cX1_darkThings 0 = .ok (.iconst 0, 1) := by decide +kernel
theorem dX1_darkThings_1 : decode cX1_darkThings 1 = .ok (.istore_n 1, 1) := by decide +kernel
theorem dX1_darkThings_2 : decode cX1_darkThings 2 = .ok (.iconst 0, 1) := by decide +kernel
theorem dX1_darkThings_3 : decode cX1_darkThings 3 = .ok (.istore_n 2, 1) := by decide +kernel
theorem dX1_darkThings_4 : decode cX1_darkThings 4 = .ok (.iload_n 2, 1) := by decide +kernel
theorem dX1_darkThings_5 : decode cX1_darkThings 5 = .ok (.aload_n 0, 1) := by decide +kernel
theorem dX1_darkThings_6 : decode cX1_darkThings 6 = .ok (.getfield 35, 3) := by decide +kernel
theorem dX1_darkThings_9 : decode cX1_darkThings 9 = .ok (.if_icmp .ge 27, 3) := by decide +kernel
theorem dX1_darkThings_12 : decode cX1_darkThings 12 = .ok (.aload_n 0, 1) := by decide +kernel
theorem dX1_darkThings_13 : decode cX1_darkThings 13 = .ok (.getfield 11, 3) := by decide +kernel
theorem dX1_darkThings_16 : decode cX1_darkThings 16 = .ok (.iload_n 2, 1) := by decide +kernel
theorem dX1_darkThings_17 : decode cX1_darkThings 17 = .ok (.aaload, 1) := by decide +kernel
theorem dX1_darkThings_18 : decode cX1_darkThings 18 = .ok (.getfield 50, 3) := by decide +kernel
theorem dX1_darkThings_21 : decode cX1_darkThings 21 = .ok (.ifCond .ne 9, 3) := by decide +kernel
theorem dX1_darkThings_24 : decode cX1_darkThings 24 = .ok (.iload_n 1, 1) := by decide +kernel
theorem dX1_darkThings_25 : decode cX1_darkThings 25 = .ok (.iconst 1, 1) := by decide +kernel
theorem dX1_darkThings_26 : decode cX1_darkThings 26 = .ok (.iload_n 2, 1) := by decide +kernel
theorem dX1_darkThings_27 : decode cX1_darkThings 27 = .ok (.ishl, 1) := by decide +kernel
theorem dX1_darkThings_28 : decode cX1_darkThings 28 = .ok (.ior, 1) := by decide +kernel
theorem dX1_darkThings_29 : decode cX1_darkThings 29 = .ok (.istore_n 1, 1) := by decide +kernel
theorem dX1_darkThings_30 : decode cX1_darkThings 30 = .ok (.iinc 2 1, 3) := by decide +kernel
theorem dX1_darkThings_33 : decode cX1_darkThings 33 = .ok (.goto (-29), 3) := by decide +kernel
theorem dX1_darkThings_36 : decode cX1_darkThings 36 = .ok (.iload_n 1, 1) := by decide +kernel
theorem dX1_darkThings_37 : decode cX1_darkThings 37 = .ok (.ireturn, 1) := by decide +kernel
theorem dX2_init_0 : decode cX2_init 0 = .ok (.aload_n 0, 1) := by decide +kernel
theorem dX2_init_1 : decode cX2_init 1 = .ok (.invokespecial 3, 3) := by decide +kernel
theorem dX2_init_4 : decode cX2_init 4 = .ok (.aload_n 0, 1) := by decide +kernel
theorem dX2_init_5 : decode cX2_init 5 = .ok (.bipush 40, 2) := by decide +kernel
theorem dX2_init_7 : decode cX2_init 7 = .ok (.newarray .long, 2) := by decide +kernel
theorem dX2_init_9 : decode cX2_init 9 = .ok (.putfield 9, 3) := by decide +kernel
theorem dX2_init_12 : decode cX2_init 12 = .ok (.return_, 1) := by decide +kernel
theorem dX2_isMissing_0 : decode cX2_isMissing 0 = .ok (.aload_n 0, 1) := by decide +kernel
theorem dX2_isMissing_1 : decode cX2_isMissing 1 = .ok (.getfield 15, 3) := by decide +kernel
theorem dX2_isMissing_4 : decode cX2_isMissing 4 = .ok (.ifCond .ne 7, 3) := by decide +kernel
theorem dX2_isMissing_7 : decode cX2_isMissing 7 = .ok (.iconst 1, 1) := by decide +kernel
theorem dX2_isMissing_8 : decode cX2_isMissing 8 = .ok (.goto 4, 3) := by decide +kernel
theorem dX2_isMissing_11 : decode cX2_isMissing 11 = .ok (.iconst 0, 1) := by decide +kernel
theorem dX2_isMissing_12 : decode cX2_isMissing 12 = .ok (.ireturn, 1) := by decide +kernel
theorem dX2_begin_0 : decode cX2_begin 0 = .ok (.aload_n 0, 1) := by decide +kernel
theorem dX2_begin_1 : decode cX2_begin 1 = .ok (.iload_n 1, 1) := by decide +kernel
theorem dX2_begin_2 : decode cX2_begin 2 = .ok (.putfield 15, 3) := by decide +kernel
theorem dX2_begin_5 : decode cX2_begin 5 = .ok (.aload_n 0, 1) := by decide +kernel
theorem dX2_begin_6 : decode cX2_begin 6 = .ok (.iload_n 2, 1) := by decide +kernel
theorem dX2_begin_7 : decode cX2_begin 7 = .ok (.putfield 19, 3) := by decide +kernel
theorem dX2_begin_10 : decode cX2_begin 10 = .ok (.iconst 0, 1) := by decide +kernel
theorem dX2_begin_11 : decode cX2_begin 11 = .ok (.istore_n 3, 1) := by decide +kernel
theorem dX2_begin_12 : decode cX2_begin 12 = .ok (.iload_n 3, 1) := by decide +kernel
theorem dX2_begin_13 : decode cX2_begin 13 = .ok (.bipush 40, 2) := by decide +kernel
theorem dX2_begin_15 : decode cX2_begin 15 = .ok (.if_icmp .ge 16, 3) := by decide +kernel
theorem dX2_begin_18 : decode cX2_begin 18 = .ok (.aload_n 0, 1) := by decide +kernel
theorem dX2_begin_19 : decode cX2_begin 19 = .ok (.getfield 9, 3) := by decide +kernel
theorem dX2_begin_22 : decode cX2_begin 22 = .ok (.iload_n 3, 1) := by decide +kernel
theorem dX2_begin_23 : decode cX2_begin 23 = .ok (.lconst 0, 1) := by decide +kernel
theorem dX2_begin_24 : decode cX2_begin 24 = .ok (.lastore, 1) := by decide +kernel
theorem dX2_begin_25 : decode cX2_begin 25 = .ok (.iinc 3 1, 3) := by decide +kernel
theorem dX2_begin_28 : decode cX2_begin 28 = .ok (.goto (-16), 3) := by decide +kernel
theorem dX2_begin_31 : decode cX2_begin 31 = .ok (.return_, 1) := by decide +kernel
theorem dX2_put_0 : decode cX2_put 0 = .ok (.iload_n 1, 1) := by decide +kernel
theorem dX2_put_1 : decode cX2_put 1 = .ok (.ifCond .lt 11, 3) := by decide +kernel
theorem dX2_put_4 : decode cX2_put 4 = .ok (.iload_n 1, 1) := by decide +kernel
theorem dX2_put_5 : decode cX2_put 5 = .ok (.aload_n 0, 1) := by decide +kernel
theorem dX2_put_6 : decode cX2_put 6 = .ok (.getfield 19, 3) := by decide +kernel
theorem dX2_put_9 : decode cX2_put 9 = .ok (.if_icmp .lt 4, 3) := by decide +kernel
theorem dX2_put_12 : decode cX2_put 12 = .ok (.return_, 1) := by decide +kernel
theorem dX2_put_13 : decode cX2_put 13 = .ok (.aload_n 0, 1) := by decide +kernel
theorem dX2_put_14 : decode cX2_put 14 = .ok (.getfield 15, 3) := by decide +kernel
theorem dX2_put_17 : decode cX2_put 17 = .ok (.bipush 8, 2) := by decide +kernel
theorem dX2_put_19 : decode cX2_put 19 = .ok (.if_icmp .ne 16, 3) := by decide +kernel
theorem dX2_put_22 : decode cX2_put 22 = .ok (.aload_n 0, 1) := by decide +kernel
theorem dX2_put_23 : decode cX2_put 23 = .ok (.getfield 9, 3) := by decide +kernel
theorem dX2_put_26 : decode cX2_put 26 = .ok (.iload_n 1, 1) := by decide +kernel
theorem dX2_put_27 : decode cX2_put 27 = .ok (.lload_n 2, 1) := by decide +kernel
theorem dX2_put_28 : decode cX2_put 28 = .ok (.l2i, 1) := by decide +kernel
theorem dX2_put_29 : decode cX2_put 29 = .ok (.i2b, 1) := by decide +kernel
theorem dX2_put_30 : decode cX2_put 30 = .ok (.i2l, 1) := by decide +kernel
theorem dX2_put_31 : decode cX2_put 31 = .ok (.lastore, 1) := by decide +kernel
theorem dX2_put_32 : decode cX2_put 32 = .ok (.goto 32, 3) := by decide +kernel
theorem dX2_put_35 : decode cX2_put 35 = .ok (.aload_n 0, 1) := by decide +kernel
theorem dX2_put_36 : decode cX2_put 36 = .ok (.getfield 15, 3) := by decide +kernel
theorem dX2_put_39 : decode cX2_put 39 = .ok (.bipush 16, 2) := by decide +kernel
theorem dX2_put_41 : decode cX2_put 41 = .ok (.if_icmp .ne 16, 3) := by decide +kernel
theorem dX2_put_44 : decode cX2_put 44 = .ok (.aload_n 0, 1) := by decide +kernel
theorem dX2_put_45 : decode cX2_put 45 = .ok (.getfield 9, 3) := by decide +kernel
theorem dX2_put_48 : decode cX2_put 48 = .ok (.iload_n 1, 1) := by decide +kernel
theorem dX2_put_49 : decode cX2_put 49 = .ok (.lload_n 2, 1) := by decide +kernel
theorem dX2_put_50 : decode cX2_put 50 = .ok (.l2i, 1) := by decide +kernel
theorem dX2_put_51 : decode cX2_put 51 = .ok (.i2s, 1) := by decide +kernel
theorem dX2_put_52 : decode cX2_put 52 = .ok (.i2l, 1) := by decide +kernel
theorem dX2_put_53 : decode cX2_put 53 = .ok (.lastore, 1) := by decide +kernel
theorem dX2_put_54 : decode cX2_put 54 = .ok (.goto 10, 3) := by decide +kernel
theorem dX2_put_57 : decode cX2_put 57 = .ok (.aload_n 0, 1) := by decide +kernel
theorem dX2_put_58 : decode cX2_put 58 = .ok (.getfield 9, 3) := by decide +kernel
theorem dX2_put_61 : decode cX2_put 61 = .ok (.iload_n 1, 1) := by decide +kernel
theorem dX2_put_62 : decode cX2_put 62 = .ok (.lload_n 2, 1) := by decide +kernel
theorem dX2_put_63 : decode cX2_put 63 = .ok (.lastore, 1) := by decide +kernel
theorem dX2_put_64 : decode cX2_put 64 = .ok (.return_, 1) := by decide +kernel
theorem dX2_hasRange_0 : decode cX2_hasRange 0 = .ok (.iload_n 1, 1) := by decide +kernel
theorem dX2_hasRange_1 : decode cX2_hasRange 1 = .ok (.ifCond .lt 29, 3) := by decide +kernel
theorem dX2_hasRange_4 : decode cX2_hasRange 4 = .ok (.iload_n 2, 1) := by decide +kernel
theorem dX2_hasRange_5 : decode cX2_hasRange 5 = .ok (.ifCond .lt 25, 3) := by decide +kernel
theorem dX2_hasRange_8 : decode cX2_hasRange 8 = .ok (.iload_n 1, 1) := by decide +kernel
theorem dX2_hasRange_9 : decode cX2_hasRange 9 = .ok (.aload_n 0, 1) := by decide +kernel
theorem dX2_hasRange_10 : decode cX2_hasRange 10 = .ok (.getfield 19, 3) := by decide +kernel
theorem dX2_hasRange_13 : decode cX2_hasRange 13 = .ok (.if_icmp .gt 17, 3) := by decide +kernel
theorem dX2_hasRange_16 : decode cX2_hasRange 16 = .ok (.iload_n 2, 1) := by decide +kernel
theorem dX2_hasRange_17 : decode cX2_hasRange 17 = .ok (.aload_n 0, 1) := by decide +kernel
theorem dX2_hasRange_18 : decode cX2_hasRange 18 = .ok (.getfield 19, 3) := by decide +kernel
theorem dX2_hasRange_21 : decode cX2_hasRange 21 = .ok (.iload_n 1, 1) := by decide +kernel
theorem dX2_hasRange_22 : decode cX2_hasRange 22 = .ok (.isub, 1) := by decide +kernel
theorem dX2_hasRange_23 : decode cX2_hasRange 23 = .ok (.if_icmp .gt 7, 3) := by decide +kernel
theorem dX2_hasRange_26 : decode cX2_hasRange 26 = .ok (.iconst 1, 1) := by decide +kernel
theorem dX2_hasRange_27 : decode cX2_hasRange 27 = .ok (.goto 4, 3) := by decide +kernel
theorem dX2_hasRange_30 : decode cX2_hasRange 30 = .ok (.iconst 0, 1) := by decide +kernel
theorem dX2_hasRange_31 : decode cX2_hasRange 31 = .ok (.ireturn, 1) := by decide +kernel
theorem dX3_init_0 : decode cX3_init 0 = .ok (.aload_n 0, 1) := by decide +kernel
theorem dX3_init_1 : decode cX3_init 1 = .ok (.invokespecial 3, 3) := by decide +kernel
theorem dX3_init_4 : decode cX3_init 4 = .ok (.aload_n 0, 1) := by decide +kernel
theorem dX3_init_5 : decode cX3_init 5 = .ok (.bipush 120, 2) := by decide +kernel
theorem dX3_init_7 : decode cX3_init 7 = .ok (.newarray .int, 2) := by decide +kernel
theorem dX3_init_9 : decode cX3_init 9 = .ok (.putfield 9, 3) := by decide +kernel
theorem dX3_init_12 : decode cX3_init 12 = .ok (.return_, 1) := by decide +kernel
theorem dX3_append_0 : decode cX3_append 0 = .ok (.aload_n 0, 1) := by decide +kernel
theorem dX3_append_1 : decode cX3_append 1 = .ok (.getfield 15, 3) := by decide +kernel
theorem dX3_append_4 : decode cX3_append 4 = .ok (.bipush 120, 2) := by decide +kernel
theorem dX3_append_6 : decode cX3_append 6 = .ok (.if_icmp .ge 23, 3) := by decide +kernel
theorem dX3_append_9 : decode cX3_append 9 = .ok (.aload_n 0, 1) := by decide +kernel
theorem dX3_append_10 : decode cX3_append 10 = .ok (.getfield 9, 3) := by decide +kernel
theorem dX3_append_13 : decode cX3_append 13 = .ok (.aload_n 0, 1) := by decide +kernel
theorem dX3_append_14 : decode cX3_append 14 = .ok (.getfield 15, 3) := by decide +kernel
theorem dX3_append_17 : decode cX3_append 17 = .ok (.iload_n 1, 1) := by decide +kernel
theorem dX3_append_18 : decode cX3_append 18 = .ok (.iastore, 1) := by decide +kernel
theorem dX3_append_19 : decode cX3_append 19 = .ok (.aload_n 0, 1) := by decide +kernel
theorem dX3_append_20 : decode cX3_append 20 = .ok (.dup, 1) := by decide +kernel
theorem dX3_append_21 : decode cX3_append 21 = .ok (.getfield 15, 3) := by decide +kernel
theorem dX3_append_24 : decode cX3_append 24 = .ok (.iconst 1, 1) := by decide +kernel
theorem dX3_append_25 : decode cX3_append 25 = .ok (.iadd, 1) := by decide +kernel
theorem dX3_append_26 : decode cX3_append 26 = .ok (.putfield 15, 3) := by decide +kernel
theorem dX3_append_29 : decode cX3_append 29 = .ok (.return_, 1) := by decide +kernel
theorem dX4_init_0 : decode cX4_init 0 = .ok (.aload_n 0, 1) := by decide +kernel
theorem dX4_init_1 : decode cX4_init 1 = .ok (.invokespecial 3, 3) := by decide +kernel
theorem dX4_init_4 : decode cX4_init 4 = .ok (.aload_n 0, 1) := by decide +kernel
theorem dX4_init_5 : decode cX4_init 5 = .ok (.aload_n 1, 1) := by decide +kernel
theorem dX4_init_6 : decode cX4_init 6 = .ok (.putfield 9, 3) := by decide +kernel
theorem dX4_init_9 : decode cX4_init 9 = .ok (.return_, 1) := by decide +kernel
theorem dX4_readTo_0 : decode cX4_readTo 0 = .ok (.aload_n 0, 1) := by decide +kernel
theorem dX4_readTo_1 : decode cX4_readTo 1 = .ok (.iconst 0, 1) := by decide +kernel
theorem dX4_readTo_2 : decode cX4_readTo 2 = .ok (.putfield 15, 3) := by decide +kernel
theorem dX4_readTo_5 : decode cX4_readTo 5 = .ok (.aload_n 0, 1) := by decide +kernel
theorem dX4_readTo_6 : decode cX4_readTo 6 = .ok (.invokevirtual 19, 3) := by decide +kernel
theorem dX4_readTo_9 : decode cX4_readTo 9 = .ok (.iconst 1, 1) := by decide +kernel
theorem dX4_readTo_10 : decode cX4_readTo 10 = .ok (.istore_n 2, 1) := by decide +kernel
theorem dX4_readTo_11 : decode cX4_readTo 11 = .ok (.iload_n 2, 1) := by decide +kernel
theorem dX4_readTo_12 : decode cX4_readTo 12 = .ok (.bipush 120, 2) := by decide +kernel
theorem dX4_readTo_14 : decode cX4_readTo 14 = .ok (.if_icmp .gt 52, 3) := by decide +kernel
theorem dX4_readTo_17 : decode cX4_readTo 17 = .ok (.aload_n 0, 1) := by decide +kernel
theorem dX4_readTo_18 : decode cX4_readTo 18 = .ok (.aload_n 1, 1) := by decide +kernel
theorem dX4_readTo_19 : decode cX4_readTo 19 = .ok (.invokevirtual 22, 3) := by decide +kernel
theorem dX4_readTo_22 : decode cX4_readTo 22 = .ok (.ifCond .ne 10, 3) := by decide +kernel
theorem dX4_readTo_25 : decode cX4_readTo 25 = .ok (.iconst (-1), 1) := by decide +kernel
theorem dX4_readTo_26 : decode cX4_readTo 26 = .ok (.aload_n 0, 1) := by decide +kernel
theorem dX4_readTo_27 : decode cX4_readTo 27 = .ok (.getfield 26, 3) := by decide +kernel
theorem dX4_readTo_30 : decode cX4_readTo 30 = .ok (.isub, 1) := by decide +kernel
theorem dX4_readTo_31 : decode cX4_readTo 31 = .ok (.ireturn, 1) := by decide +kernel
theorem dX4_readTo_32 : decode cX4_readTo 32 = .ok (.aload_n 0, 1) := by decide +kernel
theorem dX4_readTo_33 : decode cX4_readTo 33 = .ok (.getfield 29, 3) := by decide +kernel
theorem dX4_readTo_36 : decode cX4_readTo 36 = .ok (.ifCond .ne 5, 3) := by decide +kernel
theorem dX4_readTo_39 : decode cX4_readTo 39 = .ok (.iload_n 2, 1) := by decide +kernel
theorem dX4_readTo_40 : decode cX4_readTo 40 = .ok (.ireturn, 1) := by decide +kernel
theorem dX4_readTo_41 : decode cX4_readTo 41 = .ok (.aload_n 0, 1) := by decide +kernel
theorem dX4_readTo_42 : decode cX4_readTo 42 = .ok (.getfield 29, 3) := by decide +kernel
theorem dX4_readTo_45 : decode cX4_readTo 45 = .ok (.iconst 3, 1) := by decide +kernel
theorem dX4_readTo_46 : decode cX4_readTo 46 = .ok (.if_icmp .eq 10, 3) := by decide +kernel
theorem dX4_readTo_49 : decode cX4_readTo 49 = .ok (.iconst (-1), 1) := by decide +kernel
theorem dX4_readTo_50 : decode cX4_readTo 50 = .ok (.aload_n 0, 1) := by decide +kernel
theorem dX4_readTo_51 : decode cX4_readTo 51 = .ok (.getfield 26, 3) := by decide +kernel
theorem dX4_readTo_54 : decode cX4_readTo 54 = .ok (.isub, 1) := by decide +kernel
theorem dX4_readTo_55 : decode cX4_readTo 55 = .ok (.ireturn, 1) := by decide +kernel
theorem dX4_readTo_56 : decode cX4_readTo 56 = .ok (.aload_n 0, 1) := by decide +kernel
theorem dX4_readTo_57 : decode cX4_readTo 57 = .ok (.invokevirtual 19, 3) := by decide +kernel
theorem dX4_readTo_60 : decode cX4_readTo 60 = .ok (.iinc 2 1, 3) := by decide +kernel
theorem dX4_readTo_63 : decode cX4_readTo 63 = .ok (.goto (-52), 3) := by decide +kernel
theorem dX4_readTo_66 : decode cX4_readTo 66 = .ok (.iconst (-1), 1) := by decide +kernel
theorem dX4_readTo_67 : decode cX4_readTo 67 = .ok (.aload_n 0, 1) := by decide +kernel
theorem dX4_readTo_68 : decode cX4_readTo 68 = .ok (.getfield 26, 3) := by decide +kernel
theorem dX4_readTo_71 : decode cX4_readTo 71 = .ok (.isub, 1) := by decide +kernel
theorem dX4_readTo_72 : decode cX4_readTo 72 = .ok (.ireturn, 1) := by decide +kernel
theorem dX4_readItem_0 : decode cX4_readItem 0 = .ok (.aload_n 0, 1) := by decide +kernel
theorem dX4_readItem_1 : decode cX4_readItem 1 = .ok (.invokevirtual 32, 3) := by decide +kernel
theorem dX4_readItem_4 : decode cX4_readItem 4 = .ok (.istore_n 2, 1) := by decide +kernel
theorem dX4_readItem_5 : decode cX4_readItem 5 = .ok (.iload_n 2, 1) := by decide +kernel
theorem dX4_readItem_6 : decode cX4_readItem 6 = .ok (.iconst (-1), 1) := by decide +kernel
theorem dX4_readItem_7 : decode cX4_readItem 7 = .ok (.if_icmp .eq 10, 3) := by decide +kernel
theorem dX4_readItem_10 : decode cX4_readItem 10 = .ok (.aload_n 0, 1) := by decide +kernel
theorem dX4_readItem_11 : decode cX4_readItem 11 = .ok (.aload_n 1, 1) := by decide +kernel
theorem dX4_readItem_12 : decode cX4_readItem 12 = .ok (.iload_n 2, 1) := by decide +kernel
theorem dX4_readItem_13 : decode cX4_readItem 13 = .ok (.invokevirtual 36, 3) := by decide +kernel
theorem dX4_readItem_16 : decode cX4_readItem 16 = .ok (.ireturn, 1) := by decide +kernel
theorem dX4_readItem_17 : decode cX4_readItem 17 = .ok (.aload_n 0, 1) := by decide +kernel
theorem dX4_readItem_18 : decode cX4_readItem 18 = .ok (.ldc 40, 2) := by decide +kernel
theorem dX4_readItem_20 : decode cX4_readItem 20 = .ok (.invokevirtual 42, 3) := by decide +kernel
theorem dX4_readItem_23 : decode cX4_readItem 23 = .ok (.ifCond .eq 9, 3) := by decide +kernel
theorem dX4_readItem_26 : decode cX4_readItem 26 = .ok (.aload_n 0, 1) := by decide +kernel
theorem dX4_readItem_27 : decode cX4_readItem 27 = .ok (.aload_n 1, 1) := by decide +kernel
theorem dX4_readItem_28 : decode cX4_readItem 28 = .ok (.invokevirtual 46, 3) := by decide +kernel
theorem dX4_readItem_31 : decode cX4_readItem 31 = .ok (.ireturn, 1) := by decide +kernel
theorem dX4_readItem_32 : decode cX4_readItem 32 = .ok (.aload_n 0, 1) := by decide +kernel
theorem dX4_readItem_33 : decode cX4_readItem 33 = .ok (.ldc 49, 2) := by decide +kernel
theorem dX4_readItem_35 : decode cX4_readItem 35 = .ok (.invokevirtual 42, 3) := by decide +kernel
theorem dX4_readItem_38 : decode cX4_readItem 38 = .ok (.ifCond .eq 12, 3) := by decide +kernel
theorem dX4_readItem_41 : decode cX4_readItem 41 = .ok (.aload_n 0, 1) := by decide +kernel
theorem dX4_readItem_42 : decode cX4_readItem 42 = .ok (.aload_n 1, 1) := by decide +kernel
theorem dX4_readItem_43 : decode cX4_readItem 43 = .ok (.ldc 49, 2) := by decide +kernel
theorem dX4_readItem_45 : decode cX4_readItem 45 = .ok (.iconst 1, 1) := by decide +kernel
theorem dX4_readItem_46 : decode cX4_readItem 46 = .ok (.invokevirtual 51, 3) := by decide +kernel
theorem dX4_readItem_49 : decode cX4_readItem 49 = .ok (.ireturn, 1) := by decide +kernel
theorem dX4_readItem_50 : decode cX4_readItem 50 = .ok (.aload_n 0, 1) := by decide +kernel
theorem dX4_readItem_51 : decode cX4_readItem 51 = .ok (.ldc 55, 2) := by decide +kernel
theorem dX4_readItem_53 : decode cX4_readItem 53 = .ok (.invokevirtual 42, 3) := by decide +kernel
theorem dX4_readItem_56 : decode cX4_readItem 56 = .ok (.ifCond .eq 12, 3) := by decide +kernel
theorem dX4_readItem_59 : decode cX4_readItem 59 = .ok (.aload_n 0, 1) := by decide +kernel
theorem dX4_readItem_60 : decode cX4_readItem 60 = .ok (.aload_n 1, 1) := by decide +kernel
theorem dX4_readItem_61 : decode cX4_readItem 61 = .ok (.ldc 55, 2) := by decide +kernel
theorem dX4_readItem_63 : decode cX4_readItem 63 = .ok (.iconst 0, 1) := by decide +kernel
theorem dX4_readItem_64 : decode cX4_readItem 64 = .ok (.invokevirtual 51, 3) := by decide +kernel
theorem dX4_readItem_67 : decode cX4_readItem 67 = .ok (.ireturn, 1) := by decide +kernel
theorem dX4_readItem_68 : decode cX4_readItem 68 = .ok (.aload_n 0, 1) := by decide +kernel
theorem dX4_readItem_69 : decode cX4_readItem 69 = .ok (.ldc 57, 2) := by decide +kernel
theorem dX4_readItem_71 : decode cX4_readItem 71 = .ok (.invokevirtual 42, 3) := by decide +kernel
theorem dX4_readItem_74 : decode cX4_readItem 74 = .ok (.ifCond .ne 12, 3) := by decide +kernel
theorem dX4_readItem_77 : decode cX4_readItem 77 = .ok (.aload_n 0, 1) := by decide +kernel
theorem dX4_readItem_78 : decode cX4_readItem 78 = .ok (.ldc 59, 2) := by decide +kernel
theorem dX4_readItem_80 : decode cX4_readItem 80 = .ok (.invokevirtual 42, 3) := by decide +kernel
theorem dX4_readItem_83 : decode cX4_readItem 83 = .ok (.ifCond .eq 27, 3) := by decide +kernel
theorem dX4_readItem_86 : decode cX4_readItem 86 = .ok (.aload_n 1, 1) := by decide +kernel
theorem dX4_readItem_87 : decode cX4_readItem 87 = .ok (.aload_n 0, 1) := by decide +kernel
theorem dX4_readItem_88 : decode cX4_readItem 88 = .ok (.ldc 57, 2) := by decide +kernel
theorem dX4_readItem_90 : decode cX4_readItem 90 = .ok (.invokevirtual 42, 3) := by decide +kernel
theorem dX4_readItem_93 : decode cX4_readItem 93 = .ok (.ifCond .eq 7, 3) := by decide +kernel
theorem dX4_readItem_96 : decode cX4_readItem 96 = .ok (.iconst 1, 1) := by decide +kernel
theorem dX4_readItem_97 : decode cX4_readItem 97 = .ok (.goto 4, 3) := by decide +kernel
theorem dX4_readItem_100 : decode cX4_readItem 100 = .ok (.iconst 0, 1) := by decide +kernel
theorem dX4_readItem_101 : decode cX4_readItem 101 = .ok (.putfield 61, 3) := by decide +kernel
theorem dX4_readItem_104 : decode cX4_readItem 104 = .ok (.aload_n 0, 1) := by decide +kernel
theorem dX4_readItem_105 : decode cX4_readItem 105 = .ok (.invokevirtual 19, 3) := by decide +kernel
theorem dX4_readItem_108 : decode cX4_readItem 108 = .ok (.iconst 1, 1) := by decide +kernel
theorem dX4_readItem_109 : decode cX4_readItem 109 = .ok (.ireturn, 1) := by decide +kernel
theorem dX4_readItem_110 : decode cX4_readItem 110 = .ok (.iconst 0, 1) := by decide +kernel
theorem dX4_readItem_111 : decode cX4_readItem 111 = .ok (.ireturn, 1) := by decide +kernel
theorem dX4_readThing_0 : decode cX4_readThing 0 = .ok (.aload_n 1, 1) := by decide +kernel
theorem dX4_readThing_1 : decode cX4_readThing 1 = .ok (.getfield 65, 3) := by decide +kernel
theorem dX4_readThing_4 : decode cX4_readThing 4 = .ok (.bipush 8, 2) := by decide +kernel
theorem dX4_readThing_6 : decode cX4_readThing 6 = .ok (.if_icmp .lt 5, 3) := by decide +kernel
theorem dX4_readThing_9 : decode cX4_readThing 9 = .ok (.iconst 0, 1) := by decide +kernel
theorem dX4_readThing_10 : decode cX4_readThing 10 = .ok (.ireturn, 1) := by decide +kernel
theorem dX4_readThing_11 : decode cX4_readThing 11 = .ok (.aload_n 0, 1) := by decide +kernel
theorem dX4_readThing_12 : decode cX4_readThing 12 = .ok (.invokevirtual 19, 3) := by decide +kernel
theorem dX4_readThing_15 : decode cX4_readThing 15 = .ok (.aload_n 0, 1) := by decide +kernel
theorem dX4_readThing_16 : decode cX4_readThing 16 = .ok (.ldc 68, 2) := by decide +kernel
theorem dX4_readThing_18 : decode cX4_readThing 18 = .ok (.iconst 0, 1) := by decide +kernel
theorem dX4_readThing_19 : decode cX4_readThing 19 = .ok (.bipush 7, 2) := by decide +kernel
theorem dX4_readThing_21 : decode cX4_readThing 21 = .ok (.iconst (-1), 1) := by decide +kernel
theorem dX4_readThing_22 : decode cX4_readThing 22 = .ok (.invokevirtual 70, 3) := by decide +kernel
theorem dX4_readThing_25 : decode cX4_readThing 25 = .ok (.istore_n 3, 1) := by decide +kernel
theorem dX4_readThing_26 : decode cX4_readThing 26 = .ok (.iload_n 3, 1) := by decide +kernel
theorem dX4_readThing_27 : decode cX4_readThing 27 = .ok (.iconst (-1), 1) := by decide +kernel
theorem dX4_readThing_28 : decode cX4_readThing 28 = .ok (.if_icmp .ne 5, 3) := by decide +kernel
theorem dX4_readThing_31 : decode cX4_readThing 31 = .ok (.iconst 0, 1) := by decide +kernel
theorem dX4_readThing_32 : decode cX4_readThing 32 = .ok (.ireturn, 1) := by decide +kernel
theorem dX4_readThing_33 : decode cX4_readThing 33 = .ok (.aload_n 0, 1) := by decide +kernel
theorem dX4_readThing_34 : decode cX4_readThing 34 = .ok (.ldc 74, 2) := by decide +kernel
theorem dX4_readThing_36 : decode cX4_readThing 36 = .ok (.iconst 1, 1) := by decide +kernel
theorem dX4_readThing_37 : decode cX4_readThing 37 = .ok (.bipush 6, 2) := by decide +kernel
theorem dX4_readThing_39 : decode cX4_readThing 39 = .ok (.iconst 3, 1) := by decide +kernel
theorem dX4_readThing_40 : decode cX4_readThing 40 = .ok (.invokevirtual 70, 3) := by decide +kernel
theorem dX4_readThing_43 : decode cX4_readThing 43 = .ok (.istore 4, 2) := by decide +kernel
theorem dX4_readThing_45 : decode cX4_readThing 45 = .ok (.iload 4, 2) := by decide +kernel
theorem dX4_readThing_47 : decode cX4_readThing 47 = .ok (.iconst (-1), 1) := by decide +kernel
theorem dX4_readThing_48 : decode cX4_readThing 48 = .ok (.if_icmp .ne 5, 3) := by decide +kernel
theorem dX4_readThing_51 : decode cX4_readThing 51 = .ok (.iconst 0, 1) := by decide +kernel
theorem dX4_readThing_52 : decode cX4_readThing 52 = .ok (.ireturn, 1) := by decide +kernel
theorem dX4_readThing_53 : decode cX4_readThing 53 = .ok (.aload_n 0, 1) := by decide +kernel
theorem dX4_readThing_54 : decode cX4_readThing 54 = .ok (.ldc 76, 2) := by decide +kernel
theorem dX4_readThing_56 : decode cX4_readThing 56 = .ok (.iconst 0, 1) := by decide +kernel
theorem dX4_readThing_57 : decode cX4_readThing 57 = .ok (.bipush 99, 2) := by decide +kernel
theorem dX4_readThing_59 : decode cX4_readThing 59 = .ok (.bipush 40, 2) := by decide +kernel
theorem dX4_readThing_61 : decode cX4_readThing 61 = .ok (.invokevirtual 70, 3) := by decide +kernel
theorem dX4_readThing_64 : decode cX4_readThing 64 = .ok (.istore 5, 2) := by decide +kernel
theorem dX4_readThing_66 : decode cX4_readThing 66 = .ok (.iload 5, 2) := by decide +kernel
theorem dX4_readThing_68 : decode cX4_readThing 68 = .ok (.iconst (-1), 1) := by decide +kernel
theorem dX4_readThing_69 : decode cX4_readThing 69 = .ok (.if_icmp .ne 5, 3) := by decide +kernel
theorem dX4_readThing_72 : decode cX4_readThing 72 = .ok (.iconst 0, 1) := by decide +kernel
theorem dX4_readThing_73 : decode cX4_readThing 73 = .ok (.ireturn, 1) := by decide +kernel
theorem dX4_readThing_74 : decode cX4_readThing 74 = .ok (.aload_n 0, 1) := by decide +kernel
theorem dX4_readThing_75 : decode cX4_readThing 75 = .ok (.ldc 78, 2) := by decide +kernel
theorem dX4_readThing_77 : decode cX4_readThing 77 = .ok (.iconst 0, 1) := by decide +kernel
theorem dX4_readThing_78 : decode cX4_readThing 78 = .ok (.bipush 9, 2) := by decide +kernel
theorem dX4_readThing_80 : decode cX4_readThing 80 = .ok (.iconst 1, 1) := by decide +kernel
theorem dX4_readThing_81 : decode cX4_readThing 81 = .ok (.invokevirtual 70, 3) := by decide +kernel
theorem dX4_readThing_84 : decode cX4_readThing 84 = .ok (.istore 6, 2) := by decide +kernel
theorem dX4_readThing_86 : decode cX4_readThing 86 = .ok (.iload 6, 2) := by decide +kernel
theorem dX4_readThing_88 : decode cX4_readThing 88 = .ok (.iconst (-1), 1) := by decide +kernel
theorem dX4_readThing_89 : decode cX4_readThing 89 = .ok (.if_icmp .ne 5, 3) := by decide +kernel
theorem dX4_readThing_92 : decode cX4_readThing 92 = .ok (.iconst 0, 1) := by decide +kernel
theorem dX4_readThing_93 : decode cX4_readThing 93 = .ok (.ireturn, 1) := by decide +kernel
theorem dX4_readThing_94 : decode cX4_readThing 94 = .ok (.aload_n 1, 1) := by decide +kernel
theorem dX4_readThing_95 : decode cX4_readThing 95 = .ok (.iload_n 2, 1) := by decide +kernel
theorem dX4_readThing_96 : decode cX4_readThing 96 = .ok (.iload_n 3, 1) := by decide +kernel
theorem dX4_readThing_97 : decode cX4_readThing 97 = .ok (.iload 4, 2) := by decide +kernel
theorem dX4_readThing_99 : decode cX4_readThing 99 = .ok (.iload 5, 2) := by decide +kernel
theorem dX4_readThing_101 : decode cX4_readThing 101 = .ok (.iload 6, 2) := by decide +kernel
theorem dX4_readThing_103 : decode cX4_readThing 103 = .ok (.invokevirtual 80, 3) := by decide +kernel
theorem dX4_readThing_106 : decode cX4_readThing 106 = .ok (.iconst 1, 1) := by decide +kernel
theorem dX4_readThing_107 : decode cX4_readThing 107 = .ok (.ireturn, 1) := by decide +kernel
theorem dX4_readBoat_0 : decode cX4_readBoat 0 = .ok (.aload_n 1, 1) := by decide +kernel
theorem dX4_readBoat_1 : decode cX4_readBoat 1 = .ok (.getfield 84, 3) := by decide +kernel
theorem dX4_readBoat_4 : decode cX4_readBoat 4 = .ok (.iconst 5, 1) := by decide +kernel
theorem dX4_readBoat_5 : decode cX4_readBoat 5 = .ok (.if_icmp .lt 5, 3) := by decide +kernel
theorem dX4_readBoat_8 : decode cX4_readBoat 8 = .ok (.iconst 0, 1) := by decide +kernel
theorem dX4_readBoat_9 : decode cX4_readBoat 9 = .ok (.ireturn, 1) := by decide +kernel
theorem dX4_readBoat_10 : decode cX4_readBoat 10 = .ok (.aload_n 0, 1) := by decide +kernel
theorem dX4_readBoat_11 : decode cX4_readBoat 11 = .ok (.ldc 40, 2) := by decide +kernel
theorem dX4_readBoat_13 : decode cX4_readBoat 13 = .ok (.iconst 0, 1) := by decide +kernel
theorem dX4_readBoat_14 : decode cX4_readBoat 14 = .ok (.bipush 47, 2) := by decide +kernel
theorem dX4_readBoat_16 : decode cX4_readBoat 16 = .ok (.iconst (-1), 1) := by decide +kernel
theorem dX4_readBoat_17 : decode cX4_readBoat 17 = .ok (.invokevirtual 70, 3) := by decide +kernel
theorem dX4_readBoat_20 : decode cX4_readBoat 20 = .ok (.istore_n 2, 1) := by decide +kernel
theorem dX4_readBoat_21 : decode cX4_readBoat 21 = .ok (.iload_n 2, 1) := by decide +kernel
theorem dX4_readBoat_22 : decode cX4_readBoat 22 = .ok (.iconst (-1), 1) := by decide +kernel
theorem dX4_readBoat_23 : decode cX4_readBoat 23 = .ok (.if_icmp .ne 5, 3) := by decide +kernel
theorem dX4_readBoat_26 : decode cX4_readBoat 26 = .ok (.iconst 0, 1) := by decide +kernel
theorem dX4_readBoat_27 : decode cX4_readBoat 27 = .ok (.ireturn, 1) := by decide +kernel
theorem dX4_readBoat_28 : decode cX4_readBoat 28 = .ok (.aload_n 0, 1) := by decide +kernel
theorem dX4_readBoat_29 : decode cX4_readBoat 29 = .ok (.ldc 87, 2) := by decide +kernel
theorem dX4_readBoat_31 : decode cX4_readBoat 31 = .ok (.iconst 0, 1) := by decide +kernel
theorem dX4_readBoat_32 : decode cX4_readBoat 32 = .ok (.bipush 99, 2) := by decide +kernel
theorem dX4_readBoat_34 : decode cX4_readBoat 34 = .ok (.bipush 10, 2) := by decide +kernel
theorem dX4_readBoat_36 : decode cX4_readBoat 36 = .ok (.invokevirtual 70, 3) := by decide +kernel
theorem dX4_readBoat_39 : decode cX4_readBoat 39 = .ok (.istore_n 3, 1) := by decide +kernel
theorem dX4_readBoat_40 : decode cX4_readBoat 40 = .ok (.iload_n 3, 1) := by decide +kernel
theorem dX4_readBoat_41 : decode cX4_readBoat 41 = .ok (.iconst (-1), 1) := by decide +kernel
theorem dX4_readBoat_42 : decode cX4_readBoat 42 = .ok (.if_icmp .ne 5, 3) := by decide +kernel
theorem dX4_readBoat_45 : decode cX4_readBoat 45 = .ok (.iconst 0, 1) := by decide +kernel
theorem dX4_readBoat_46 : decode cX4_readBoat 46 = .ok (.ireturn, 1) := by decide +kernel
theorem dX4_readBoat_47 : decode cX4_readBoat 47 = .ok (.aload_n 1, 1) := by decide +kernel
theorem dX4_readBoat_48 : decode cX4_readBoat 48 = .ok (.iload_n 2, 1) := by decide +kernel
theorem dX4_readBoat_49 : decode cX4_readBoat 49 = .ok (.iload_n 3, 1) := by decide +kernel
theorem dX4_readBoat_50 : decode cX4_readBoat 50 = .ok (.invokevirtual 89, 3) := by decide +kernel
theorem dX4_readBoat_53 : decode cX4_readBoat 53 = .ok (.iconst 1, 1) := by decide +kernel
theorem dX4_readBoat_54 : decode cX4_readBoat 54 = .ok (.ireturn, 1) := by decide +kernel
theorem dX4_readRipples_0 : decode cX4_readRipples 0 = .ok (.aload_n 0, 1) := by decide +kernel
theorem dX4_readRipples_1 : decode cX4_readRipples 1 = .ok (.aload_n 2, 1) := by decide +kernel
theorem dX4_readRipples_2 : decode cX4_readRipples 2 = .ok (.iconst 0, 1) := by decide +kernel
theorem dX4_readRipples_3 : decode cX4_readRipples 3 = .ok (.bipush 7, 2) := by decide +kernel
theorem dX4_readRipples_5 : decode cX4_readRipples 5 = .ok (.iconst (-1), 1) := by decide +kernel
theorem dX4_readRipples_6 : decode cX4_readRipples 6 = .ok (.invokevirtual 70, 3) := by decide +kernel
theorem dX4_readRipples_9 : decode cX4_readRipples 9 = .ok (.istore 4, 2) := by decide +kernel
theorem dX4_readRipples_11 : decode cX4_readRipples 11 = .ok (.iload 4, 2) := by decide +kernel
theorem dX4_readRipples_13 : decode cX4_readRipples 13 = .ok (.iconst (-1), 1) := by decide +kernel
theorem dX4_readRipples_14 : decode cX4_readRipples 14 = .ok (.if_icmp .ne 5, 3) := by decide +kernel
theorem dX4_readRipples_17 : decode cX4_readRipples 17 = .ok (.iconst 0, 1) := by decide +kernel
theorem dX4_readRipples_18 : decode cX4_readRipples 18 = .ok (.ireturn, 1) := by decide +kernel
theorem dX4_readRipples_19 : decode cX4_readRipples 19 = .ok (.iload_n 3, 1) := by decide +kernel
theorem dX4_readRipples_20 : decode cX4_readRipples 20 = .ok (.ifCond .eq 19, 3) := by decide +kernel
theorem dX4_readRipples_23 : decode cX4_readRipples 23 = .ok (.aload_n 1, 1) := by decide +kernel
theorem dX4_readRipples_24 : decode cX4_readRipples 24 = .ok (.dup, 1) := by decide +kernel
theorem dX4_readRipples_25 : decode cX4_readRipples 25 = .ok (.getfield 93, 3) := by decide +kernel
theorem dX4_readRipples_28 : decode cX4_readRipples 28 = .ok (.iconst 1, 1) := by decide +kernel
theorem dX4_readRipples_29 : decode cX4_readRipples 29 = .ok (.iload 4, 2) := by decide +kernel
theorem dX4_readRipples_31 : decode cX4_readRipples 31 = .ok (.ishl, 1) := by decide +kernel
theorem dX4_readRipples_32 : decode cX4_readRipples 32 = .ok (.ior, 1) := by decide +kernel
theorem dX4_readRipples_33 : decode cX4_readRipples 33 = .ok (.putfield 93, 3) := by decide +kernel
theorem dX4_readRipples_36 : decode cX4_readRipples 36 = .ok (.goto 18, 3) := by decide +kernel
theorem dX4_readRipples_39 : decode cX4_readRipples 39 = .ok (.aload_n 1, 1) := by decide +kernel
theorem dX4_readRipples_40 : decode cX4_readRipples 40 = .ok (.dup, 1) := by decide +kernel
theorem dX4_readRipples_41 : decode cX4_readRipples 41 = .ok (.getfield 93, 3) := by decide +kernel
theorem dX4_readRipples_44 : decode cX4_readRipples 44 = .ok (.iconst 1, 1) := by decide +kernel
theorem dX4_readRipples_45 : decode cX4_readRipples 45 = .ok (.iload 4, 2) := by decide +kernel
theorem dX4_readRipples_47 : decode cX4_readRipples 47 = .ok (.ishl, 1) := by decide +kernel
theorem dX4_readRipples_48 : decode cX4_readRipples 48 = .ok (.iconst (-1), 1) := by decide +kernel
theorem dX4_readRipples_49 : decode cX4_readRipples 49 = .ok (.ixor, 1) := by decide +kernel
theorem dX4_readRipples_50 : decode cX4_readRipples 50 = .ok (.iand, 1) := by decide +kernel
theorem dX4_readRipples_51 : decode cX4_readRipples 51 = .ok (.putfield 93, 3) := by decide +kernel
theorem dX4_readRipples_54 : decode cX4_readRipples 54 = .ok (.iconst 1, 1) := by decide +kernel
theorem dX4_readRipples_55 : decode cX4_readRipples 55 = .ok (.ireturn, 1) := by decide +kernel
theorem dX4_numberAfter_0 : decode cX4_numberAfter 0 = .ok (.aload_n 0, 1) := by decide +kernel
theorem dX4_numberAfter_1 : decode cX4_numberAfter 1 = .ok (.aload_n 1, 1) := by decide +kernel
theorem dX4_numberAfter_2 : decode cX4_numberAfter 2 = .ok (.invokevirtual 42, 3) := by decide +kernel
theorem dX4_numberAfter_5 : decode cX4_numberAfter 5 = .ok (.ifCond .ne 6, 3) := by decide +kernel
theorem dX4_numberAfter_8 : decode cX4_numberAfter 8 = .ok (.iload 4, 2) := by decide +kernel
theorem dX4_numberAfter_10 : decode cX4_numberAfter 10 = .ok (.ireturn, 1) := by decide +kernel
theorem dX4_numberAfter_11 : decode cX4_numberAfter 11 = .ok (.aload_n 0, 1) := by decide +kernel
theorem dX4_numberAfter_12 : decode cX4_numberAfter 12 = .ok (.invokevirtual 19, 3) := by decide +kernel
theorem dX4_numberAfter_15 : decode cX4_numberAfter 15 = .ok (.aload_n 0, 1) := by decide +kernel
theorem dX4_numberAfter_16 : decode cX4_numberAfter 16 = .ok (.getfield 29, 3) := by decide +kernel
theorem dX4_numberAfter_19 : decode cX4_numberAfter 19 = .ok (.iconst 2, 1) := by decide +kernel
theorem dX4_numberAfter_20 : decode cX4_numberAfter 20 = .ok (.if_icmp .ne 19, 3) := by decide +kernel
theorem dX4_numberAfter_23 : decode cX4_numberAfter 23 = .ok (.aload_n 0, 1) := by decide +kernel
theorem dX4_numberAfter_24 : decode cX4_numberAfter 24 = .ok (.getfield 96, 3) := by decide +kernel
theorem dX4_numberAfter_27 : decode cX4_numberAfter 27 = .ok (.iload_n 2, 1) := by decide +kernel
theorem dX4_numberAfter_28 : decode cX4_numberAfter 28 = .ok (.if_icmp .lt 11, 3) := by decide +kernel
theorem dX4_numberAfter_31 : decode cX4_numberAfter 31 = .ok (.aload_n 0, 1) := by decide +kernel
theorem dX4_numberAfter_32 : decode cX4_numberAfter 32 = .ok (.getfield 96, 3) := by decide +kernel
theorem dX4_numberAfter_35 : decode cX4_numberAfter 35 = .ok (.iload_n 3, 1) := by decide +kernel
theorem dX4_numberAfter_36 : decode cX4_numberAfter 36 = .ok (.if_icmp .le 5, 3) := by decide +kernel
theorem dX4_numberAfter_39 : decode cX4_numberAfter 39 = .ok (.iconst (-1), 1) := by decide +kernel
theorem dX4_numberAfter_40 : decode cX4_numberAfter 40 = .ok (.ireturn, 1) := by decide +kernel
theorem dX4_numberAfter_41 : decode cX4_numberAfter 41 = .ok (.aload_n 0, 1) := by decide +kernel
theorem dX4_numberAfter_42 : decode cX4_numberAfter 42 = .ok (.getfield 96, 3) := by decide +kernel
theorem dX4_numberAfter_45 : decode cX4_numberAfter 45 = .ok (.istore 5, 2) := by decide +kernel
theorem dX4_numberAfter_47 : decode cX4_numberAfter 47 = .ok (.aload_n 0, 1) := by decide +kernel
theorem dX4_numberAfter_48 : decode cX4_numberAfter 48 = .ok (.invokevirtual 19, 3) := by decide +kernel
theorem dX4_numberAfter_51 : decode cX4_numberAfter 51 = .ok (.iload 5, 2) := by decide +kernel
theorem dX4_numberAfter_53 : decode cX4_numberAfter 53 = .ok (.ireturn, 1) := by decide +kernel
theorem dX4_kindNamed_0 : decode cX4_kindNamed 0 = .ok (.aload_n 0, 1) := by decide +kernel
theorem dX4_kindNamed_1 : decode cX4_kindNamed 1 = .ok (.ldc 99, 2) := by decide +kernel
theorem dX4_kindNamed_3 : decode cX4_kindNamed 3 = .ok (.invokevirtual 42, 3) := by decide +kernel
theorem dX4_kindNamed_6 : decode cX4_kindNamed 6 = .ok (.ifCond .eq 5, 3) := by decide +kernel
theorem dX4_kindNamed_9 : decode cX4_kindNamed 9 = .ok (.iconst 0, 1) := by decide +kernel
theorem dX4_kindNamed_10 : decode cX4_kindNamed 10 = .ok (.ireturn, 1) := by decide +kernel
theorem dX4_kindNamed_11 : decode cX4_kindNamed 11 = .ok (.aload_n 0, 1) := by decide +kernel
theorem dX4_kindNamed_12 : decode cX4_kindNamed 12 = .ok (.ldc 101, 2) := by decide +kernel
theorem dX4_kindNamed_14 : decode cX4_kindNamed 14 = .ok (.invokevirtual 42, 3) := by decide +kernel
theorem dX4_kindNamed_17 : decode cX4_kindNamed 17 = .ok (.ifCond .eq 5, 3) := by decide +kernel
theorem dX4_kindNamed_20 : decode cX4_kindNamed 20 = .ok (.iconst 1, 1) := by decide +kernel
theorem dX4_kindNamed_21 : decode cX4_kindNamed 21 = .ok (.ireturn, 1) := by decide +kernel
theorem dX4_kindNamed_22 : decode cX4_kindNamed 22 = .ok (.aload_n 0, 1) := by decide +kernel
theorem dX4_kindNamed_23 : decode cX4_kindNamed 23 = .ok (.ldc 103, 2) := by decide +kernel
theorem dX4_kindNamed_25 : decode cX4_kindNamed 25 = .ok (.invokevirtual 42, 3) := by decide +kernel
theorem dX4_kindNamed_28 : decode cX4_kindNamed 28 = .ok (.ifCond .eq 5, 3) := by decide +kernel
theorem dX4_kindNamed_31 : decode cX4_kindNamed 31 = .ok (.iconst 2, 1) := by decide +kernel
theorem dX4_kindNamed_32 : decode cX4_kindNamed 32 = .ok (.ireturn, 1) := by decide +kernel
theorem dX4_kindNamed_33 : decode cX4_kindNamed 33 = .ok (.aload_n 0, 1) := by decide +kernel
theorem dX4_kindNamed_34 : decode cX4_kindNamed 34 = .ok (.ldc 105, 2) := by decide +kernel
theorem dX4_kindNamed_36 : decode cX4_kindNamed 36 = .ok (.invokevirtual 42, 3) := by decide +kernel
theorem dX4_kindNamed_39 : decode cX4_kindNamed 39 = .ok (.ifCond .eq 5, 3) := by decide +kernel
theorem dX4_kindNamed_42 : decode cX4_kindNamed 42 = .ok (.iconst 3, 1) := by decide +kernel
theorem dX4_kindNamed_43 : decode cX4_kindNamed 43 = .ok (.ireturn, 1) := by decide +kernel
theorem dX4_kindNamed_44 : decode cX4_kindNamed 44 = .ok (.aload_n 0, 1) := by decide +kernel
theorem dX4_kindNamed_45 : decode cX4_kindNamed 45 = .ok (.ldc 107, 2) := by decide +kernel
theorem dX4_kindNamed_47 : decode cX4_kindNamed 47 = .ok (.invokevirtual 42, 3) := by decide +kernel
theorem dX4_kindNamed_50 : decode cX4_kindNamed 50 = .ok (.ifCond .eq 5, 3) := by decide +kernel
theorem dX4_kindNamed_53 : decode cX4_kindNamed 53 = .ok (.iconst 4, 1) := by decide +kernel
theorem dX4_kindNamed_54 : decode cX4_kindNamed 54 = .ok (.ireturn, 1) := by decide +kernel
theorem dX4_kindNamed_55 : decode cX4_kindNamed 55 = .ok (.aload_n 0, 1) := by decide +kernel
theorem dX4_kindNamed_56 : decode cX4_kindNamed 56 = .ok (.ldc 109, 2) := by decide +kernel
theorem dX4_kindNamed_58 : decode cX4_kindNamed 58 = .ok (.invokevirtual 42, 3) := by decide +kernel
theorem dX4_kindNamed_61 : decode cX4_kindNamed 61 = .ok (.ifCond .eq 7, 3) := by decide +kernel
theorem dX4_kindNamed_64 : decode cX4_kindNamed 64 = .ok (.iconst 5, 1) := by decide +kernel
theorem dX4_kindNamed_65 : decode cX4_kindNamed 65 = .ok (.goto 4, 3) := by decide +kernel
theorem dX4_kindNamed_68 : decode cX4_kindNamed 68 = .ok (.iconst (-1), 1) := by decide +kernel
theorem dX4_kindNamed_69 : decode cX4_kindNamed 69 = .ok (.ireturn, 1) := by decide +kernel
theorem dX4_isWord_0 : decode cX4_isWord 0 = .ok (.aload_n 0, 1) := by decide +kernel
theorem dX4_isWord_1 : decode cX4_isWord 1 = .ok (.getfield 29, 3) := by decide +kernel
theorem dX4_isWord_4 : decode cX4_isWord 4 = .ok (.iconst 1, 1) := by decide +kernel
theorem dX4_isWord_5 : decode cX4_isWord 5 = .ok (.if_icmp .ne 19, 3) := by decide +kernel
theorem dX4_isWord_8 : decode cX4_isWord 8 = .ok (.aload_n 0, 1) := by decide +kernel
theorem dX4_isWord_9 : decode cX4_isWord 9 = .ok (.getfield 15, 3) := by decide +kernel
theorem dX4_isWord_12 : decode cX4_isWord 12 = .ok (.aload_n 0, 1) := by decide +kernel
theorem dX4_isWord_13 : decode cX4_isWord 13 = .ok (.getfield 26, 3) := by decide +kernel
theorem dX4_isWord_16 : decode cX4_isWord 16 = .ok (.isub, 1) := by decide +kernel
theorem dX4_isWord_17 : decode cX4_isWord 17 = .ok (.aload_n 1, 1) := by decide +kernel
theorem dX4_isWord_18 : decode cX4_isWord 18 = .ok (.invokevirtual 111, 3) := by decide +kernel
theorem dX4_isWord_21 : decode cX4_isWord 21 = .ok (.if_icmp .eq 5, 3) := by decide +kernel
theorem dX4_isWord_24 : decode cX4_isWord 24 = .ok (.iconst 0, 1) := by decide +kernel
theorem dX4_isWord_25 : decode cX4_isWord 25 = .ok (.ireturn, 1) := by decide +kernel
theorem dX4_isWord_26 : decode cX4_isWord 26 = .ok (.iconst 0, 1) := by decide +kernel
theorem dX4_isWord_27 : decode cX4_isWord 27 = .ok (.istore_n 2, 1) := by decide +kernel
theorem dX4_isWord_28 : decode cX4_isWord 28 = .ok (.iload_n 2, 1) := by decide +kernel
theorem dX4_isWord_29 : decode cX4_isWord 29 = .ok (.aload_n 1, 1) := by decide +kernel
theorem dX4_isWord_30 : decode cX4_isWord 30 = .ok (.invokevirtual 111, 3) := by decide +kernel
theorem dX4_isWord_33 : decode cX4_isWord 33 = .ok (.if_icmp .ge 33, 3) := by decide +kernel
theorem dX4_isWord_36 : decode cX4_isWord 36 = .ok (.aload_n 0, 1) := by decide +kernel
theorem dX4_isWord_37 : decode cX4_isWord 37 = .ok (.getfield 9, 3) := by decide +kernel
theorem dX4_isWord_40 : decode cX4_isWord 40 = .ok (.getfield 116, 3) := by decide +kernel
theorem dX4_isWord_43 : decode cX4_isWord 43 = .ok (.aload_n 0, 1) := by decide +kernel
theorem dX4_isWord_44 : decode cX4_isWord 44 = .ok (.getfield 26, 3) := by decide +kernel
theorem dX4_isWord_47 : decode cX4_isWord 47 = .ok (.iload_n 2, 1) := by decide +kernel
theorem dX4_isWord_48 : decode cX4_isWord 48 = .ok (.iadd, 1) := by decide +kernel
theorem dX4_isWord_49 : decode cX4_isWord 49 = .ok (.iaload, 1) := by decide +kernel
theorem dX4_isWord_50 : decode cX4_isWord 50 = .ok (.aload_n 1, 1) := by decide +kernel
theorem dX4_isWord_51 : decode cX4_isWord 51 = .ok (.iload_n 2, 1) := by decide +kernel
theorem dX4_isWord_52 : decode cX4_isWord 52 = .ok (.invokevirtual 122, 3) := by decide +kernel
theorem dX4_isWord_55 : decode cX4_isWord 55 = .ok (.if_icmp .eq 5, 3) := by decide +kernel
theorem dX4_isWord_58 : decode cX4_isWord 58 = .ok (.iconst 0, 1) := by decide +kernel
theorem dX4_isWord_59 : decode cX4_isWord 59 = .ok (.ireturn, 1) := by decide +kernel
theorem dX4_isWord_60 : decode cX4_isWord 60 = .ok (.iinc 2 1, 3) := by decide +kernel
theorem dX4_isWord_63 : decode cX4_isWord 63 = .ok (.goto (-35), 3) := by decide +kernel
theorem dX4_isWord_66 : decode cX4_isWord 66 = .ok (.iconst 1, 1) := by decide +kernel
theorem dX4_isWord_67 : decode cX4_isWord 67 = .ok (.ireturn, 1) := by decide +kernel
theorem dX4_nextToken_0 : decode cX4_nextToken 0 = .ok (.aload_n 0, 1) := by decide +kernel
theorem dX4_nextToken_1 : decode cX4_nextToken 1 = .ok (.getfield 15, 3) := by decide +kernel
theorem dX4_nextToken_4 : decode cX4_nextToken 4 = .ok (.aload_n 0, 1) := by decide +kernel
theorem dX4_nextToken_5 : decode cX4_nextToken 5 = .ok (.getfield 9, 3) := by decide +kernel
theorem dX4_nextToken_8 : decode cX4_nextToken 8 = .ok (.getfield 126, 3) := by decide +kernel
theorem dX4_nextToken_11 : decode cX4_nextToken 11 = .ok (.if_icmp .ge 28, 3) := by decide +kernel
theorem dX4_nextToken_14 : decode cX4_nextToken 14 = .ok (.aload_n 0, 1) := by decide +kernel
theorem dX4_nextToken_15 : decode cX4_nextToken 15 = .ok (.aload_n 0, 1) := by decide +kernel
theorem dX4_nextToken_16 : decode cX4_nextToken 16 = .ok (.getfield 15, 3) := by decide +kernel
theorem dX4_nextToken_19 : decode cX4_nextToken 19 = .ok (.invokevirtual 128, 3) := by decide +kernel
theorem dX4_nextToken_22 : decode cX4_nextToken 22 = .ok (.iconst 4, 1) := by decide +kernel
theorem dX4_nextToken_23 : decode cX4_nextToken 23 = .ok (.if_icmp .ne 16, 3) := by decide +kernel
theorem dX4_nextToken_26 : decode cX4_nextToken 26 = .ok (.aload_n 0, 1) := by decide +kernel
theorem dX4_nextToken_27 : decode cX4_nextToken 27 = .ok (.dup, 1) := by decide +kernel
theorem dX4_nextToken_28 : decode cX4_nextToken 28 = .ok (.getfield 15, 3) := by decide +kernel
theorem dX4_nextToken_31 : decode cX4_nextToken 31 = .ok (.iconst 1, 1) := by decide +kernel
theorem dX4_nextToken_32 : decode cX4_nextToken 32 = .ok (.iadd, 1) := by decide +kernel
theorem dX4_nextToken_33 : decode cX4_nextToken 33 = .ok (.putfield 15, 3) := by decide +kernel
theorem dX4_nextToken_36 : decode cX4_nextToken 36 = .ok (.goto (-36), 3) := by decide +kernel
theorem dX4_nextToken_39 : decode cX4_nextToken 39 = .ok (.aload_n 0, 1) := by decide +kernel
theorem dX4_nextToken_40 : decode cX4_nextToken 40 = .ok (.aload_n 0, 1) := by decide +kernel
theorem dX4_nextToken_41 : decode cX4_nextToken 41 = .ok (.getfield 15, 3) := by decide +kernel
theorem dX4_nextToken_44 : decode cX4_nextToken 44 = .ok (.putfield 26, 3) := by decide +kernel
theorem dX4_nextToken_47 : decode cX4_nextToken 47 = .ok (.aload_n 0, 1) := by decide +kernel
theorem dX4_nextToken_48 : decode cX4_nextToken 48 = .ok (.aload_n 0, 1) := by decide +kernel
theorem dX4_nextToken_49 : decode cX4_nextToken 49 = .ok (.aload_n 0, 1) := by decide +kernel
theorem dX4_nextToken_50 : decode cX4_nextToken 50 = .ok (.getfield 26, 3) := by decide +kernel
theorem dX4_nextToken_53 : decode cX4_nextToken 53 = .ok (.invokevirtual 128, 3) := by decide +kernel
theorem dX4_nextToken_56 : decode cX4_nextToken 56 = .ok (.putfield 29, 3) := by decide +kernel
theorem dX4_nextToken_59 : decode cX4_nextToken 59 = .ok (.aload_n 0, 1) := by decide +kernel
theorem dX4_nextToken_60 : decode cX4_nextToken 60 = .ok (.iconst 0, 1) := by decide +kernel
theorem dX4_nextToken_61 : decode cX4_nextToken 61 = .ok (.putfield 96, 3) := by decide +kernel
theorem dX4_nextToken_64 : decode cX4_nextToken 64 = .ok (.aload_n 0, 1) := by decide +kernel
theorem dX4_nextToken_65 : decode cX4_nextToken 65 = .ok (.getfield 29, 3) := by decide +kernel
theorem dX4_nextToken_68 : decode cX4_nextToken 68 = .ok (.iconst 1, 1) := by decide +kernel
theorem dX4_nextToken_69 : decode cX4_nextToken 69 = .ok (.if_icmp .ne 42, 3) := by decide +kernel
theorem dX4_nextToken_72 : decode cX4_nextToken 72 = .ok (.aload_n 0, 1) := by decide +kernel
theorem dX4_nextToken_73 : decode cX4_nextToken 73 = .ok (.getfield 15, 3) := by decide +kernel
theorem dX4_nextToken_76 : decode cX4_nextToken 76 = .ok (.aload_n 0, 1) := by decide +kernel
theorem dX4_nextToken_77 : decode cX4_nextToken 77 = .ok (.getfield 9, 3) := by decide +kernel
theorem dX4_nextToken_80 : decode cX4_nextToken 80 = .ok (.getfield 126, 3) := by decide +kernel
theorem dX4_nextToken_83 : decode cX4_nextToken 83 = .ok (.if_icmp .ge 125, 3) := by decide +kernel
theorem dX4_nextToken_86 : decode cX4_nextToken 86 = .ok (.aload_n 0, 1) := by decide +kernel
theorem dX4_nextToken_87 : decode cX4_nextToken 87 = .ok (.aload_n 0, 1) := by decide +kernel
theorem dX4_nextToken_88 : decode cX4_nextToken 88 = .ok (.getfield 15, 3) := by decide +kernel
theorem dX4_nextToken_91 : decode cX4_nextToken 91 = .ok (.invokevirtual 128, 3) := by decide +kernel
theorem dX4_nextToken_94 : decode cX4_nextToken 94 = .ok (.iconst 1, 1) := by decide +kernel
theorem dX4_nextToken_95 : decode cX4_nextToken 95 = .ok (.if_icmp .ne 113, 3) := by decide +kernel
theorem dX4_nextToken_98 : decode cX4_nextToken 98 = .ok (.aload_n 0, 1) := by decide +kernel
theorem dX4_nextToken_99 : decode cX4_nextToken 99 = .ok (.dup, 1) := by decide +kernel
theorem dX4_nextToken_100 : decode cX4_nextToken 100 = .ok (.getfield 15, 3) := by decide +kernel
theorem dX4_nextToken_103 : decode cX4_nextToken 103 = .ok (.iconst 1, 1) := by decide +kernel
theorem dX4_nextToken_104 : decode cX4_nextToken 104 = .ok (.iadd, 1) := by decide +kernel
theorem dX4_nextToken_105 : decode cX4_nextToken 105 = .ok (.putfield 15, 3) := by decide +kernel
theorem dX4_nextToken_108 : decode cX4_nextToken 108 = .ok (.goto (-36), 3) := by decide +kernel
theorem dX4_nextToken_111 : decode cX4_nextToken 111 = .ok (.aload_n 0, 1) := by decide +kernel
theorem dX4_nextToken_112 : decode cX4_nextToken 112 = .ok (.getfield 29, 3) := by decide +kernel
theorem dX4_nextToken_115 : decode cX4_nextToken 115 = .ok (.iconst 2, 1) := by decide +kernel
theorem dX4_nextToken_116 : decode cX4_nextToken 116 = .ok (.if_icmp .ne 75, 3) := by decide +kernel
theorem dX4_nextToken_119 : decode cX4_nextToken 119 = .ok (.aload_n 0, 1) := by decide +kernel
theorem dX4_nextToken_120 : decode cX4_nextToken 120 = .ok (.getfield 15, 3) := by decide +kernel
theorem dX4_nextToken_123 : decode cX4_nextToken 123 = .ok (.aload_n 0, 1) := by decide +kernel
theorem dX4_nextToken_124 : decode cX4_nextToken 124 = .ok (.getfield 9, 3) := by decide +kernel
theorem dX4_nextToken_127 : decode cX4_nextToken 127 = .ok (.getfield 126, 3) := by decide +kernel
theorem dX4_nextToken_130 : decode cX4_nextToken 130 = .ok (.if_icmp .ge 78, 3) := by decide +kernel
theorem dX4_nextToken_133 : decode cX4_nextToken 133 = .ok (.aload_n 0, 1) := by decide +kernel
theorem dX4_nextToken_134 : decode cX4_nextToken 134 = .ok (.aload_n 0, 1) := by decide +kernel
theorem dX4_nextToken_135 : decode cX4_nextToken 135 = .ok (.getfield 15, 3) := by decide +kernel
theorem dX4_nextToken_138 : decode cX4_nextToken 138 = .ok (.invokevirtual 128, 3) := by decide +kernel
theorem dX4_nextToken_141 : decode cX4_nextToken 141 = .ok (.iconst 2, 1) := by decide +kernel
theorem dX4_nextToken_142 : decode cX4_nextToken 142 = .ok (.if_icmp .ne 66, 3) := by decide +kernel
theorem dX4_nextToken_145 : decode cX4_nextToken 145 = .ok (.aload_n 0, 1) := by decide +kernel
theorem dX4_nextToken_146 : decode cX4_nextToken 146 = .ok (.bipush 10, 2) := by decide +kernel
theorem dX4_nextToken_148 : decode cX4_nextToken 148 = .ok (.aload_n 0, 1) := by decide +kernel
theorem dX4_nextToken_149 : decode cX4_nextToken 149 = .ok (.getfield 96, 3) := by decide +kernel
theorem dX4_nextToken_152 : decode cX4_nextToken 152 = .ok (.imul, 1) := by decide +kernel
theorem dX4_nextToken_153 : decode cX4_nextToken 153 = .ok (.aload_n 0, 1) := by decide +kernel
theorem dX4_nextToken_154 : decode cX4_nextToken 154 = .ok (.getfield 9, 3) := by decide +kernel
theorem dX4_nextToken_157 : decode cX4_nextToken 157 = .ok (.getfield 116, 3) := by decide +kernel
theorem dX4_nextToken_160 : decode cX4_nextToken 160 = .ok (.aload_n 0, 1) := by decide +kernel
theorem dX4_nextToken_161 : decode cX4_nextToken 161 = .ok (.getfield 15, 3) := by decide +kernel
theorem dX4_nextToken_164 : decode cX4_nextToken 164 = .ok (.iaload, 1) := by decide +kernel
theorem dX4_nextToken_165 : decode cX4_nextToken 165 = .ok (.iadd, 1) := by decide +kernel
theorem dX4_nextToken_166 : decode cX4_nextToken 166 = .ok (.bipush 48, 2) := by decide +kernel
theorem dX4_nextToken_168 : decode cX4_nextToken 168 = .ok (.isub, 1) := by decide +kernel
theorem dX4_nextToken_169 : decode cX4_nextToken 169 = .ok (.sipush 1000, 3) := by decide +kernel
theorem dX4_nextToken_172 : decode cX4_nextToken 172 = .ok (.invokestatic 132, 3) := by decide +kernel
theorem dX4_nextToken_175 : decode cX4_nextToken 175 = .ok (.putfield 96, 3) := by decide +kernel
theorem dX4_nextToken_178 : decode cX4_nextToken 178 = .ok (.aload_n 0, 1) := by decide +kernel
theorem dX4_nextToken_179 : decode cX4_nextToken 179 = .ok (.dup, 1) := by decide +kernel
theorem dX4_nextToken_180 : decode cX4_nextToken 180 = .ok (.getfield 15, 3) := by decide +kernel
theorem dX4_nextToken_183 : decode cX4_nextToken 183 = .ok (.iconst 1, 1) := by decide +kernel
theorem dX4_nextToken_184 : decode cX4_nextToken 184 = .ok (.iadd, 1) := by decide +kernel
theorem dX4_nextToken_185 : decode cX4_nextToken 185 = .ok (.putfield 15, 3) := by decide +kernel
theorem dX4_nextToken_188 : decode cX4_nextToken 188 = .ok (.goto (-69), 3) := by decide +kernel
theorem dX4_nextToken_191 : decode cX4_nextToken 191 = .ok (.aload_n 0, 1) := by decide +kernel
theorem dX4_nextToken_192 : decode cX4_nextToken 192 = .ok (.getfield 29, 3) := by decide +kernel
theorem dX4_nextToken_195 : decode cX4_nextToken 195 = .ok (.ifCond .eq 13, 3) := by decide +kernel
theorem dX4_nextToken_198 : decode cX4_nextToken 198 = .ok (.aload_n 0, 1) := by decide +kernel
theorem dX4_nextToken_199 : decode cX4_nextToken 199 = .ok (.dup, 1) := by decide +kernel
theorem dX4_nextToken_200 : decode cX4_nextToken 200 = .ok (.getfield 15, 3) := by decide +kernel
theorem dX4_nextToken_203 : decode cX4_nextToken 203 = .ok (.iconst 1, 1) := by decide +kernel
theorem dX4_nextToken_204 : decode cX4_nextToken 204 = .ok (.iadd, 1) := by decide +kernel
theorem dX4_nextToken_205 : decode cX4_nextToken 205 = .ok (.putfield 15, 3) := by decide +kernel
theorem dX4_nextToken_208 : decode cX4_nextToken 208 = .ok (.return_, 1) := by decide +kernel
theorem dX4_typeAt_0 : decode cX4_typeAt 0 = .ok (.iload_n 1, 1) := by decide +kernel
theorem dX4_typeAt_1 : decode cX4_typeAt 1 = .ok (.ifCond .lt 20, 3) := by decide +kernel
theorem dX4_typeAt_4 : decode cX4_typeAt 4 = .ok (.iload_n 1, 1) := by decide +kernel
theorem dX4_typeAt_5 : decode cX4_typeAt 5 = .ok (.aload_n 0, 1) := by decide +kernel
theorem dX4_typeAt_6 : decode cX4_typeAt 6 = .ok (.getfield 9, 3) := by decide +kernel
theorem dX4_typeAt_9 : decode cX4_typeAt 9 = .ok (.getfield 126, 3) := by decide +kernel
theorem dX4_typeAt_12 : decode cX4_typeAt 12 = .ok (.if_icmp .ge 9, 3) := by decide +kernel
theorem dX4_typeAt_15 : decode cX4_typeAt 15 = .ok (.iload_n 1, 1) := by decide +kernel
theorem dX4_typeAt_16 : decode cX4_typeAt 16 = .ok (.bipush 120, 2) := by decide +kernel
theorem dX4_typeAt_18 : decode cX4_typeAt 18 = .ok (.if_icmp .lt 5, 3) := by decide +kernel
theorem dX4_typeAt_21 : decode cX4_typeAt 21 = .ok (.iconst 0, 1) := by decide +kernel
theorem dX4_typeAt_22 : decode cX4_typeAt 22 = .ok (.ireturn, 1) := by decide +kernel
theorem dX4_typeAt_23 : decode cX4_typeAt 23 = .ok (.aload_n 0, 1) := by decide +kernel
theorem dX4_typeAt_24 : decode cX4_typeAt 24 = .ok (.getfield 9, 3) := by decide +kernel
theorem dX4_typeAt_27 : decode cX4_typeAt 27 = .ok (.getfield 116, 3) := by decide +kernel
theorem dX4_typeAt_30 : decode cX4_typeAt 30 = .ok (.iload_n 1, 1) := by decide +kernel
theorem dX4_typeAt_31 : decode cX4_typeAt 31 = .ok (.iaload, 1) := by decide +kernel
theorem dX4_typeAt_32 : decode cX4_typeAt 32 = .ok (.istore_n 2, 1) := by decide +kernel
theorem dX4_typeAt_33 : decode cX4_typeAt 33 = .ok (.iload_n 2, 1) := by decide +kernel
theorem dX4_typeAt_34 : decode cX4_typeAt 34 = .ok (.bipush 97, 2) := by decide +kernel
theorem dX4_typeAt_36 : decode cX4_typeAt 36 = .ok (.if_icmp .lt 11, 3) := by decide +kernel
theorem dX4_typeAt_39 : decode cX4_typeAt 39 = .ok (.iload_n 2, 1) := by decide +kernel
theorem dX4_typeAt_40 : decode cX4_typeAt 40 = .ok (.bipush 122, 2) := by decide +kernel
theorem dX4_typeAt_42 : decode cX4_typeAt 42 = .ok (.if_icmp .gt 5, 3) := by decide +kernel
theorem dX4_typeAt_45 : decode cX4_typeAt 45 = .ok (.iconst 1, 1) := by decide +kernel
theorem dX4_typeAt_46 : decode cX4_typeAt 46 = .ok (.ireturn, 1) := by decide +kernel
theorem dX4_typeAt_47 : decode cX4_typeAt 47 = .ok (.iload_n 2, 1) := by decide +kernel
theorem dX4_typeAt_48 : decode cX4_typeAt 48 = .ok (.bipush 48, 2) := by decide +kernel
theorem dX4_typeAt_50 : decode cX4_typeAt 50 = .ok (.if_icmp .lt 11, 3) := by decide +kernel
theorem dX4_typeAt_53 : decode cX4_typeAt 53 = .ok (.iload_n 2, 1) := by decide +kernel
theorem dX4_typeAt_54 : decode cX4_typeAt 54 = .ok (.bipush 57, 2) := by decide +kernel
theorem dX4_typeAt_56 : decode cX4_typeAt 56 = .ok (.if_icmp .gt 5, 3) := by decide +kernel
theorem dX4_typeAt_59 : decode cX4_typeAt 59 = .ok (.iconst 2, 1) := by decide +kernel
theorem dX4_typeAt_60 : decode cX4_typeAt 60 = .ok (.ireturn, 1) := by decide +kernel
theorem dX4_typeAt_61 : decode cX4_typeAt 61 = .ok (.iload_n 2, 1) := by decide +kernel
theorem dX4_typeAt_62 : decode cX4_typeAt 62 = .ok (.bipush 59, 2) := by decide +kernel
theorem dX4_typeAt_64 : decode cX4_typeAt 64 = .ok (.if_icmp .ne 5, 3) := by decide +kernel
theorem dX4_typeAt_67 : decode cX4_typeAt 67 = .ok (.iconst 3, 1) := by decide +kernel
theorem dX4_typeAt_68 : decode cX4_typeAt 68 = .ok (.ireturn, 1) := by decide +kernel
theorem dX4_typeAt_69 : decode cX4_typeAt 69 = .ok (.iload_n 2, 1) := by decide +kernel
theorem dX4_typeAt_70 : decode cX4_typeAt 70 = .ok (.bipush 32, 2) := by decide +kernel
theorem dX4_typeAt_72 : decode cX4_typeAt 72 = .ok (.if_icmp .ne 7, 3) := by decide +kernel
theorem dX4_typeAt_75 : decode cX4_typeAt 75 = .ok (.iconst 4, 1) := by decide +kernel
theorem dX4_typeAt_76 : decode cX4_typeAt 76 = .ok (.goto 4, 3) := by decide +kernel
theorem dX4_typeAt_79 : decode cX4_typeAt 79 = .ok (.iconst 5, 1) := by decide +kernel
theorem dX4_typeAt_80 : decode cX4_typeAt 80 = .ok (.ireturn, 1) := by decide +kernel
theorem dX5_init_0 : decode cX5_init 0 = .ok (.aload_n 0, 1) := by decide +kernel
theorem dX5_init_1 : decode cX5_init 1 = .ok (.invokespecial 3, 3) := by decide +kernel
theorem dX5_init_4 : decode cX5_init 4 = .ok (.aload_n 0, 1) := by decide +kernel
theorem dX5_init_5 : decode cX5_init 5 = .ok (.iconst 0, 1) := by decide +kernel
theorem dX5_init_6 : decode cX5_init 6 = .ok (.iconst 0, 1) := by decide +kernel
theorem dX5_init_7 : decode cX5_init 7 = .ok (.iconst 3, 1) := by decide +kernel
theorem dX5_init_8 : decode cX5_init 8 = .ok (.bipush 40, 2) := by decide +kernel
theorem dX5_init_10 : decode cX5_init 10 = .ok (.iconst 1, 1) := by decide +kernel
theorem dX5_init_11 : decode cX5_init 11 = .ok (.invokevirtual 9, 3) := by decide +kernel
theorem dX5_init_14 : decode cX5_init 14 = .ok (.return_, 1) := by decide +kernel
theorem dX5_become_0 : decode cX5_become 0 = .ok (.aload_n 0, 1) := by decide +kernel
theorem dX5_become_1 : decode cX5_become 1 = .ok (.iload_n 1, 1) := by decide +kernel
theorem dX5_become_2 : decode cX5_become 2 = .ok (.putfield 15, 3) := by decide +kernel
theorem dX5_become_5 : decode cX5_become 5 = .ok (.aload_n 0, 1) := by decide +kernel
theorem dX5_become_6 : decode cX5_become 6 = .ok (.iload_n 2, 1) := by decide +kernel
theorem dX5_become_7 : decode cX5_become 7 = .ok (.putfield 19, 3) := by decide +kernel
theorem dX5_become_10 : decode cX5_become 10 = .ok (.aload_n 0, 1) := by decide +kernel
theorem dX5_become_11 : decode cX5_become 11 = .ok (.iload_n 3, 1) := by decide +kernel
theorem dX5_become_12 : decode cX5_become 12 = .ok (.putfield 22, 3) := by decide +kernel
theorem dX5_become_15 : decode cX5_become 15 = .ok (.aload_n 0, 1) := by decide +kernel
theorem dX5_become_16 : decode cX5_become 16 = .ok (.iload 4, 2) := by decide +kernel
theorem dX5_become_18 : decode cX5_become 18 = .ok (.putfield 25, 3) := by decide +kernel
theorem dX5_become_21 : decode cX5_become 21 = .ok (.aload_n 0, 1) := by decide +kernel
theorem dX5_become_22 : decode cX5_become 22 = .ok (.iload 5, 2) := by decide +kernel
theorem dX5_become_24 : decode cX5_become 24 = .ok (.putfield 28, 3) := by decide +kernel
theorem dX5_become_27 : decode cX5_become 27 = .ok (.return_, 1) := by decide +kernel
theorem dX5_isOfKind_0 : decode cX5_isOfKind 0 = .ok (.aload_n 0, 1) := by decide +kernel
theorem dX5_isOfKind_1 : decode cX5_isOfKind 1 = .ok (.getfield 15, 3) := by decide +kernel
theorem dX5_isOfKind_4 : decode cX5_isOfKind 4 = .ok (.istore_n 2, 1) := by decide +kernel
theorem dX5_isOfKind_5 : decode cX5_isOfKind 5 = .ok (.iconst 0, 1) := by decide +kernel
theorem dX5_isOfKind_6 : decode cX5_isOfKind 6 = .ok (.istore_n 3, 1) := by decide +kernel
theorem dX5_isOfKind_7 : decode cX5_isOfKind 7 = .ok (.iload_n 3, 1) := by decide +kernel
theorem dX5_isOfKind_8 : decode cX5_isOfKind 8 = .ok (.bipush 6, 2) := by decide +kernel
theorem dX5_isOfKind_10 : decode cX5_isOfKind 10 = .ok (.if_icmp .ge 32, 3) := by decide +kernel
theorem dX5_isOfKind_13 : decode cX5_isOfKind 13 = .ok (.iload_n 2, 1) := by decide +kernel
theorem dX5_isOfKind_14 : decode cX5_isOfKind 14 = .ok (.ifCond .lt 28, 3) := by decide +kernel
theorem dX5_isOfKind_17 : decode cX5_isOfKind 17 = .ok (.iload_n 2, 1) := by decide +kernel
theorem dX5_isOfKind_18 : decode cX5_isOfKind 18 = .ok (.bipush 6, 2) := by decide +kernel
theorem dX5_isOfKind_20 : decode cX5_isOfKind 20 = .ok (.if_icmp .ge 22, 3) := by decide +kernel
theorem dX5_isOfKind_23 : decode cX5_isOfKind 23 = .ok (.iload_n 2, 1) := by decide +kernel
theorem dX5_isOfKind_24 : decode cX5_isOfKind 24 = .ok (.iload_n 1, 1) := by decide +kernel
theorem dX5_isOfKind_25 : decode cX5_isOfKind 25 = .ok (.if_icmp .ne 5, 3) := by decide +kernel
theorem dX5_isOfKind_28 : decode cX5_isOfKind 28 = .ok (.iconst 1, 1) := by decide +kernel
theorem dX5_isOfKind_29 : decode cX5_isOfKind 29 = .ok (.ireturn, 1) := by decide +kernel
theorem dX5_isOfKind_30 : decode cX5_isOfKind 30 = .ok (.getstatic 31, 3) := by decide +kernel
theorem dX5_isOfKind_33 : decode cX5_isOfKind 33 = .ok (.iload_n 2, 1) := by decide +kernel
theorem dX5_isOfKind_34 : decode cX5_isOfKind 34 = .ok (.iaload, 1) := by decide +kernel
theorem dX5_isOfKind_35 : decode cX5_isOfKind 35 = .ok (.istore_n 2, 1) := by decide +kernel
theorem dX5_isOfKind_36 : decode cX5_isOfKind 36 = .ok (.iinc 3 1, 3) := by decide +kernel
theorem dX5_isOfKind_39 : decode cX5_isOfKind 39 = .ok (.goto (-32), 3) := by decide +kernel
theorem dX5_isOfKind_42 : decode cX5_isOfKind 42 = .ok (.iconst 0, 1) := by decide +kernel
theorem dX5_isOfKind_43 : decode cX5_isOfKind 43 = .ok (.ireturn, 1) := by decide +kernel
theorem dX5_reach_0 : decode cX5_reach 0 = .ok (.iload_n 1, 1) := by decide +kernel
theorem dX5_reach_1 : decode cX5_reach 1 = .ok (.bipush 24, 2) := by decide +kernel
theorem dX5_reach_3 : decode cX5_reach 3 = .ok (.irem, 1) := by decide +kernel
theorem dX5_reach_4 : decode cX5_reach 4 = .ok (.istore_n 2, 1) := by decide +kernel
theorem dX5_reach_5 : decode cX5_reach 5 = .ok (.aload_n 0, 1) := by decide +kernel
theorem dX5_reach_6 : decode cX5_reach 6 = .ok (.getfield 22, 3) := by decide +kernel
theorem dX5_reach_9 : decode cX5_reach 9 = .ok (.bipush 6, 2) := by decide +kernel
theorem dX5_reach_11 : decode cX5_reach 11 = .ok (.if_icmp .ge 12, 3) := by decide +kernel
theorem dX5_reach_14 : decode cX5_reach 14 = .ok (.aload_n 0, 1) := by decide +kernel
theorem dX5_reach_15 : decode cX5_reach 15 = .ok (.getfield 22, 3) := by decide +kernel
theorem dX5_reach_18 : decode cX5_reach 18 = .ok (.iconst 1, 1) := by decide +kernel
theorem dX5_reach_19 : decode cX5_reach 19 = .ok (.iadd, 1) := by decide +kernel
theorem dX5_reach_20 : decode cX5_reach 20 = .ok (.goto 5, 3) := by decide +kernel
theorem dX5_reach_23 : decode cX5_reach 23 = .ok (.bipush 6, 2) := by decide +kernel
theorem dX5_reach_25 : decode cX5_reach 25 = .ok (.istore_n 3, 1) := by decide +kernel
theorem dX5_reach_26 : decode cX5_reach 26 = .ok (.aload_n 0, 1) := by decide +kernel
theorem dX5_reach_27 : decode cX5_reach 27 = .ok (.getfield 15, 3) := by decide +kernel
theorem dX5_reach_30 : decode cX5_reach 30 = .ok (.tableswitch 90 1 5 #[34, 36, 57, 76, 36], 34) := by decide +kernel
theorem dX5_reach_64 : decode cX5_reach 64 = .ok (.iload_n 3, 1) := by decide +kernel
theorem dX5_reach_65 : decode cX5_reach 65 = .ok (.ireturn, 1) := by decide +kernel
theorem dX5_reach_66 : decode cX5_reach 66 = .ok (.iload_n 2, 1) := by decide +kernel
theorem dX5_reach_67 : decode cX5_reach 67 = .ok (.bipush 8, 2) := by decide +kernel
theorem dX5_reach_69 : decode cX5_reach 69 = .ok (.if_icmp .lt 16, 3) := by decide +kernel
theorem dX5_reach_72 : decode cX5_reach 72 = .ok (.iload_n 2, 1) := by decide +kernel
theorem dX5_reach_73 : decode cX5_reach 73 = .ok (.bipush 17, 2) := by decide +kernel
theorem dX5_reach_75 : decode cX5_reach 75 = .ok (.if_icmp .gt 10, 3) := by decide +kernel
theorem dX5_reach_78 : decode cX5_reach 78 = .ok (.aload_n 0, 1) := by decide +kernel
theorem dX5_reach_79 : decode cX5_reach 79 = .ok (.getfield 22, 3) := by decide +kernel
theorem dX5_reach_82 : decode cX5_reach 82 = .ok (.goto 4, 3) := by decide +kernel
theorem dX5_reach_85 : decode cX5_reach 85 = .ok (.iconst 0, 1) := by decide +kernel
theorem dX5_reach_86 : decode cX5_reach 86 = .ok (.ireturn, 1) := by decide +kernel
theorem dX5_reach_87 : decode cX5_reach 87 = .ok (.iload_n 2, 1) := by decide +kernel
theorem dX5_reach_88 : decode cX5_reach 88 = .ok (.bipush 6, 2) := by decide +kernel
theorem dX5_reach_90 : decode cX5_reach 90 = .ok (.if_icmp .lt 9, 3) := by decide +kernel
theorem dX5_reach_93 : decode cX5_reach 93 = .ok (.iload_n 2, 1) := by decide +kernel
theorem dX5_reach_94 : decode cX5_reach 94 = .ok (.bipush 17, 2) := by decide +kernel
theorem dX5_reach_96 : decode cX5_reach 96 = .ok (.if_icmp .le 8, 3) := by decide +kernel
theorem dX5_reach_99 : decode cX5_reach 99 = .ok (.bipush 6, 2) := by decide +kernel
theorem dX5_reach_101 : decode cX5_reach 101 = .ok (.goto 4, 3) := by decide +kernel
theorem dX5_reach_104 : decode cX5_reach 104 = .ok (.iconst 0, 1) := by decide +kernel
theorem dX5_reach_105 : decode cX5_reach 105 = .ok (.ireturn, 1) := by decide +kernel
theorem dX5_reach_106 : decode cX5_reach 106 = .ok (.iload_n 1, 1) := by decide +kernel
theorem dX5_reach_107 : decode cX5_reach 107 = .ok (.iconst 2, 1) := by decide +kernel
theorem dX5_reach_108 : decode cX5_reach 108 = .ok (.irem, 1) := by decide +kernel
theorem dX5_reach_109 : decode cX5_reach 109 = .ok (.ifCond .ne 7, 3) := by decide +kernel
theorem dX5_reach_112 : decode cX5_reach 112 = .ok (.iload_n 3, 1) := by decide +kernel
theorem dX5_reach_113 : decode cX5_reach 113 = .ok (.goto 6, 3) := by decide +kernel
theorem dX5_reach_116 : decode cX5_reach 116 = .ok (.iload_n 3, 1) := by decide +kernel
theorem dX5_reach_117 : decode cX5_reach 117 = .ok (.iconst 2, 1) := by decide +kernel
theorem dX5_reach_118 : decode cX5_reach 118 = .ok (.idiv, 1) := by decide +kernel
theorem dX5_reach_119 : decode cX5_reach 119 = .ok (.ireturn, 1) := by decide +kernel
theorem dX5_reach_120 : decode cX5_reach 120 = .ok (.aload_n 0, 1) := by decide +kernel
theorem dX5_reach_121 : decode cX5_reach 121 = .ok (.getfield 22, 3) := by decide +kernel
theorem dX5_reach_124 : decode cX5_reach 124 = .ok (.ireturn, 1) := by decide +kernel
theorem dX5_shine_0 : decode cX5_shine 0 = .ok (.iload_n 1, 1) := by decide +kernel
theorem dX5_shine_1 : decode cX5_shine 1 = .ok (.ifCond .ge 5, 3) := by decide +kernel
theorem dX5_shine_4 : decode cX5_shine 4 = .ok (.iconst 0, 1) := by decide +kernel
theorem dX5_shine_5 : decode cX5_shine 5 = .ok (.ireturn, 1) := by decide +kernel
theorem dX5_shine_6 : decode cX5_shine 6 = .ok (.aload_n 0, 1) := by decide +kernel
theorem dX5_shine_7 : decode cX5_shine 7 = .ok (.getfield 25, 3) := by decide +kernel
theorem dX5_shine_10 : decode cX5_shine 10 = .ok (.iload_n 1, 1) := by decide +kernel
theorem dX5_shine_11 : decode cX5_shine 11 = .ok (.iconst 1, 1) := by decide +kernel
theorem dX5_shine_12 : decode cX5_shine 12 = .ok (.iadd, 1) := by decide +kernel
theorem dX5_shine_13 : decode cX5_shine 13 = .ok (.idiv, 1) := by decide +kernel
theorem dX5_shine_14 : decode cX5_shine 14 = .ok (.istore_n 2, 1) := by decide +kernel
theorem dX5_shine_15 : decode cX5_shine 15 = .ok (.aload_n 0, 1) := by decide +kernel
theorem dX5_shine_16 : decode cX5_shine 16 = .ok (.getfield 15, 3) := by decide +kernel
theorem dX5_shine_19 : decode cX5_shine 19 = .ok (.tableswitch 60 2 5 #[29, 33, 37, 41], 29) := by decide +kernel
theorem dX5_shine_48 : decode cX5_shine 48 = .ok (.iconst 2, 1) := by decide +kernel
theorem dX5_shine_49 : decode cX5_shine 49 = .ok (.iload_n 2, 1) := by decide +kernel
theorem dX5_shine_50 : decode cX5_shine 50 = .ok (.imul, 1) := by decide +kernel
theorem dX5_shine_51 : decode cX5_shine 51 = .ok (.ireturn, 1) := by decide +kernel
theorem dX5_shine_52 : decode cX5_shine 52 = .ok (.iload_n 2, 1) := by decide +kernel
theorem dX5_shine_53 : decode cX5_shine 53 = .ok (.iconst 2, 1) := by decide +kernel
theorem dX5_shine_54 : decode cX5_shine 54 = .ok (.idiv, 1) := by decide +kernel
theorem dX5_shine_55 : decode cX5_shine 55 = .ok (.ireturn, 1) := by decide +kernel
theorem dX5_shine_56 : decode cX5_shine 56 = .ok (.iload_n 2, 1) := by decide +kernel
theorem dX5_shine_57 : decode cX5_shine 57 = .ok (.iload_n 1, 1) := by decide +kernel
theorem dX5_shine_58 : decode cX5_shine 58 = .ok (.iadd, 1) := by decide +kernel
theorem dX5_shine_59 : decode cX5_shine 59 = .ok (.ireturn, 1) := by decide +kernel
theorem dX5_shine_60 : decode cX5_shine 60 = .ok (.aload_n 0, 1) := by decide +kernel
theorem dX5_shine_61 : decode cX5_shine 61 = .ok (.getfield 25, 3) := by decide +kernel
theorem dX5_shine_64 : decode cX5_shine 64 = .ok (.ifCond .le 11, 3) := by decide +kernel
theorem dX5_shine_67 : decode cX5_shine 67 = .ok (.iconst 2, 1) := by decide +kernel
theorem dX5_shine_68 : decode cX5_shine 68 = .ok (.iload_n 2, 1) := by decide +kernel
theorem dX5_shine_69 : decode cX5_shine 69 = .ok (.imul, 1) := by decide +kernel
theorem dX5_shine_70 : decode cX5_shine 70 = .ok (.iconst 3, 1) := by decide +kernel
theorem dX5_shine_71 : decode cX5_shine 71 = .ok (.iadd, 1) := by decide +kernel
theorem dX5_shine_72 : decode cX5_shine 72 = .ok (.goto 6, 3) := by decide +kernel
theorem dX5_shine_75 : decode cX5_shine 75 = .ok (.iconst 2, 1) := by decide +kernel
theorem dX5_shine_76 : decode cX5_shine 76 = .ok (.iload_n 2, 1) := by decide +kernel
theorem dX5_shine_77 : decode cX5_shine 77 = .ok (.imul, 1) := by decide +kernel
theorem dX5_shine_78 : decode cX5_shine 78 = .ok (.ireturn, 1) := by decide +kernel
theorem dX5_shine_79 : decode cX5_shine 79 = .ok (.iload_n 2, 1) := by decide +kernel
theorem dX5_shine_80 : decode cX5_shine 80 = .ok (.ireturn, 1) := by decide +kernel
theorem dX5_shineOfAllRows_0 : decode cX5_shineOfAllRows 0 = .ok (.iconst 0, 1) := by decide +kernel
theorem dX5_shineOfAllRows_1 : decode cX5_shineOfAllRows 1 = .ok (.istore_n 2, 1) := by decide +kernel
theorem dX5_shineOfAllRows_2 : decode cX5_shineOfAllRows 2 = .ok (.aload_n 0, 1) := by decide +kernel
theorem dX5_shineOfAllRows_3 : decode cX5_shineOfAllRows 3 = .ok (.iload_n 1, 1) := by decide +kernel
theorem dX5_shineOfAllRows_4 : decode cX5_shineOfAllRows 4 = .ok (.invokevirtual 35, 3) := by decide +kernel
theorem dX5_shineOfAllRows_7 : decode cX5_shineOfAllRows 7 = .ok (.istore_n 3, 1) := by decide +kernel
theorem dX5_shineOfAllRows_8 : decode cX5_shineOfAllRows 8 = .ok (.iconst 0, 1) := by decide +kernel
theorem dX5_shineOfAllRows_9 : decode cX5_shineOfAllRows 9 = .ok (.istore 4, 2) := by decide +kernel
theorem dX5_shineOfAllRows_11 : decode cX5_shineOfAllRows 11 = .ok (.iload 4, 2) := by decide +kernel
theorem dX5_shineOfAllRows_13 : decode cX5_shineOfAllRows 13 = .ok (.iload_n 3, 1) := by decide +kernel
theorem dX5_shineOfAllRows_14 : decode cX5_shineOfAllRows 14 = .ok (.if_icmp .ge 18, 3) := by decide +kernel
theorem dX5_shineOfAllRows_17 : decode cX5_shineOfAllRows 17 = .ok (.iload_n 2, 1) := by decide +kernel
theorem dX5_shineOfAllRows_18 : decode cX5_shineOfAllRows 18 = .ok (.aload_n 0, 1) := by decide +kernel
theorem dX5_shineOfAllRows_19 : decode cX5_shineOfAllRows 19 = .ok (.iload 4, 2) := by decide +kernel
theorem dX5_shineOfAllRows_21 : decode cX5_shineOfAllRows 21 = .ok (.invokevirtual 39, 3) := by decide +kernel
theorem dX5_shineOfAllRows_24 : decode cX5_shineOfAllRows 24 = .ok (.iadd, 1) := by decide +kernel
theorem dX5_shineOfAllRows_25 : decode cX5_shineOfAllRows 25 = .ok (.istore_n 2, 1) := by decide +kernel
theorem dX5_shineOfAllRows_26 : decode cX5_shineOfAllRows 26 = .ok (.iinc 4 1, 3) := by decide +kernel
theorem dX5_shineOfAllRows_29 : decode cX5_shineOfAllRows 29 = .ok (.goto (-18), 3) := by decide +kernel
theorem dX5_shineOfAllRows_32 : decode cX5_shineOfAllRows 32 = .ok (.iload_n 2, 1) := by decide +kernel
theorem dX5_shineOfAllRows_33 : decode cX5_shineOfAllRows 33 = .ok (.ireturn, 1) := by decide +kernel
theorem dX5_taxed_0 : decode cX5_taxed 0 = .ok (.aload_n 0, 1) := by decide +kernel
theorem dX5_taxed_1 : decode cX5_taxed 1 = .ok (.getfield 15, 3) := by decide +kernel
theorem dX5_taxed_4 : decode cX5_taxed 4 = .ok (.tableswitch 50 2 5 #[32, 39, 50, 41], 32) := by decide +kernel
theorem dX5_taxed_36 : decode cX5_taxed 36 = .ok (.aload_n 0, 1) := by decide +kernel
theorem dX5_taxed_37 : decode cX5_taxed 37 = .ok (.getfield 28, 3) := by decide +kernel
theorem dX5_taxed_40 : decode cX5_taxed 40 = .ok (.iconst 2, 1) := by decide +kernel
theorem dX5_taxed_41 : decode cX5_taxed 41 = .ok (.iadd, 1) := by decide +kernel
theorem dX5_taxed_42 : decode cX5_taxed 42 = .ok (.ireturn, 1) := by decide +kernel
theorem dX5_taxed_43 : decode cX5_taxed 43 = .ok (.iconst 0, 1) := by decide +kernel
theorem dX5_taxed_44 : decode cX5_taxed 44 = .ok (.ireturn, 1) := by decide +kernel
theorem dX5_taxed_45 : decode cX5_taxed 45 = .ok (.iconst 2, 1) := by decide +kernel
theorem dX5_taxed_46 : decode cX5_taxed 46 = .ok (.aload_n 0, 1) := by decide +kernel
theorem dX5_taxed_47 : decode cX5_taxed 47 = .ok (.getfield 28, 3) := by decide +kernel
theorem dX5_taxed_50 : decode cX5_taxed 50 = .ok (.iconst 2, 1) := by decide +kernel
theorem dX5_taxed_51 : decode cX5_taxed 51 = .ok (.iadd, 1) := by decide +kernel
theorem dX5_taxed_52 : decode cX5_taxed 52 = .ok (.imul, 1) := by decide +kernel
theorem dX5_taxed_53 : decode cX5_taxed 53 = .ok (.ireturn, 1) := by decide +kernel
theorem dX5_taxed_54 : decode cX5_taxed 54 = .ok (.aload_n 0, 1) := by decide +kernel
theorem dX5_taxed_55 : decode cX5_taxed 55 = .ok (.getfield 28, 3) := by decide +kernel
theorem dX5_taxed_58 : decode cX5_taxed 58 = .ok (.ireturn, 1) := by decide +kernel
theorem dX5_isMirroredIn_0 : decode cX5_isMirroredIn 0 = .ok (.iload_n 1, 1) := by decide +kernel
theorem dX5_isMirroredIn_1 : decode cX5_isMirroredIn 1 = .ok (.bipush 8, 2) := by decide +kernel
theorem dX5_isMirroredIn_3 : decode cX5_isMirroredIn 3 = .ok (.irem, 1) := by decide +kernel
theorem dX5_isMirroredIn_4 : decode cX5_isMirroredIn 4 = .ok (.aload_n 0, 1) := by decide +kernel
theorem dX5_isMirroredIn_5 : decode cX5_isMirroredIn 5 = .ok (.getfield 19, 3) := by decide +kernel
theorem dX5_isMirroredIn_8 : decode cX5_isMirroredIn 8 = .ok (.if_icmp .ne 19, 3) := by decide +kernel
theorem dX5_isMirroredIn_11 : decode cX5_isMirroredIn 11 = .ok (.iload_n 1, 1) := by decide +kernel
theorem dX5_isMirroredIn_12 : decode cX5_isMirroredIn 12 = .ok (.bipush 8, 2) := by decide +kernel
theorem dX5_isMirroredIn_14 : decode cX5_isMirroredIn 14 = .ok (.idiv, 1) := by decide +kernel
theorem dX5_isMirroredIn_15 : decode cX5_isMirroredIn 15 = .ok (.aload_n 0, 1) := by decide +kernel
theorem dX5_isMirroredIn_16 : decode cX5_isMirroredIn 16 = .ok (.iload_n 2, 1) := by decide +kernel
theorem dX5_isMirroredIn_17 : decode cX5_isMirroredIn 17 = .ok (.invokevirtual 35, 3) := by decide +kernel
theorem dX5_isMirroredIn_20 : decode cX5_isMirroredIn 20 = .ok (.if_icmp .ge 7, 3) := by decide +kernel
theorem dX5_isMirroredIn_23 : decode cX5_isMirroredIn 23 = .ok (.iconst 1, 1) := by decide +kernel
theorem dX5_isMirroredIn_24 : decode cX5_isMirroredIn 24 = .ok (.goto 4, 3) := by decide +kernel
theorem dX5_isMirroredIn_27 : decode cX5_isMirroredIn 27 = .ok (.iconst 0, 1) := by decide +kernel
theorem dX5_isMirroredIn_28 : decode cX5_isMirroredIn 28 = .ok (.ireturn, 1) := by decide +kernel
theorem dX5_dim_0 : decode cX5_dim 0 = .ok (.aload_n 0, 1) := by decide +kernel
theorem dX5_dim_1 : decode cX5_dim 1 = .ok (.aload_n 0, 1) := by decide +kernel
theorem dX5_dim_2 : decode cX5_dim 2 = .ok (.getfield 25, 3) := by decide +kernel
theorem dX5_dim_5 : decode cX5_dim 5 = .ok (.iconst 1, 1) := by decide +kernel
theorem dX5_dim_6 : decode cX5_dim 6 = .ok (.isub, 1) := by decide +kernel
theorem dX5_dim_7 : decode cX5_dim 7 = .ok (.iconst 0, 1) := by decide +kernel
theorem dX5_dim_8 : decode cX5_dim 8 = .ok (.invokestatic 42, 3) := by decide +kernel
theorem dX5_dim_11 : decode cX5_dim 11 = .ok (.putfield 25, 3) := by decide +kernel
theorem dX5_dim_14 : decode cX5_dim 14 = .ok (.return_, 1) := by decide +kernel
theorem dX5_brighten_0 : decode cX5_brighten 0 = .ok (.aload_n 0, 1) := by decide +kernel
theorem dX5_brighten_1 : decode cX5_brighten 1 = .ok (.aload_n 0, 1) := by decide +kernel
theorem dX5_brighten_2 : decode cX5_brighten 2 = .ok (.getfield 25, 3) := by decide +kernel
theorem dX5_brighten_5 : decode cX5_brighten 5 = .ok (.iconst 1, 1) := by decide +kernel
theorem dX5_brighten_6 : decode cX5_brighten 6 = .ok (.iadd, 1) := by decide +kernel
theorem dX5_brighten_7 : decode cX5_brighten 7 = .ok (.bipush 99, 2) := by decide +kernel
theorem dX5_brighten_9 : decode cX5_brighten 9 = .ok (.invokestatic 48, 3) := by decide +kernel
theorem dX5_brighten_12 : decode cX5_brighten 12 = .ok (.putfield 25, 3) := by decide +kernel
theorem dX5_brighten_15 : decode cX5_brighten 15 = .ok (.return_, 1) := by decide +kernel
