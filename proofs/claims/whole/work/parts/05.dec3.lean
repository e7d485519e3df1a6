theorem dX7_init_0 : decode cX7_init 0 = .ok (.aload_n 0, 1) := by decide +kernel
theorem dX7_init_1 : decode cX7_init 1 = .ok (.invokespecial 3, 3) := by decide +kernel
theorem dX7_init_4 : decode cX7_init 4 = .ok (.aload_n 0, 1) := by decide +kernel
theorem dX7_init_5 : decode cX7_init 5 = .ok (.bipush 65, 2) := by decide +kernel
theorem dX7_init_7 : decode cX7_init 7 = .ok (.newarray .int, 2) := by decide +kernel
theorem dX7_init_9 : decode cX7_init 9 = .ok (.putfield 9, 3) := by decide +kernel
theorem dX7_init_12 : decode cX7_init 12 = .ok (.aload_n 0, 1) := by decide +kernel
theorem dX7_init_13 : decode cX7_init 13 = .ok (.bipush 65, 2) := by decide +kernel
theorem dX7_init_15 : decode cX7_init 15 = .ok (.newarray .int, 2) := by decide +kernel
theorem dX7_init_17 : decode cX7_init 17 = .ok (.putfield 13, 3) := by decide +kernel
theorem dX7_init_20 : decode cX7_init 20 = .ok (.aload_n 0, 1) := by decide +kernel
theorem dX7_init_21 : decode cX7_init 21 = .ok (.bipush 65, 2) := by decide +kernel
theorem dX7_init_23 : decode cX7_init 23 = .ok (.newarray .int, 2) := by decide +kernel
theorem dX7_init_25 : decode cX7_init 25 = .ok (.putfield 16, 3) := by decide +kernel
theorem dX7_init_28 : decode cX7_init 28 = .ok (.aload_n 0, 1) := by decide +kernel
theorem dX7_init_29 : decode cX7_init 29 = .ok (.bipush 7, 2) := by decide +kernel
theorem dX7_init_31 : decode cX7_init 31 = .ok (.newarray .int, 2) := by decide +kernel
theorem dX7_init_33 : decode cX7_init 33 = .ok (.putfield 19, 3) := by decide +kernel
theorem dX7_init_36 : decode cX7_init 36 = .ok (.aload_n 0, 1) := by decide +kernel
theorem dX7_init_37 : decode cX7_init 37 = .ok (.bipush 48, 2) := by decide +kernel
theorem dX7_init_39 : decode cX7_init 39 = .ok (.newarray .boolean, 2) := by decide +kernel
theorem dX7_init_41 : decode cX7_init 41 = .ok (.putfield 22, 3) := by decide +kernel
theorem dX7_init_44 : decode cX7_init 44 = .ok (.aload_n 0, 1) := by decide +kernel
theorem dX7_init_45 : decode cX7_init 45 = .ok (.bipush 48, 2) := by decide +kernel
theorem dX7_init_47 : decode cX7_init 47 = .ok (.newarray .int, 2) := by decide +kernel
theorem dX7_init_49 : decode cX7_init 49 = .ok (.putfield 26, 3) := by decide +kernel
theorem dX7_init_52 : decode cX7_init 52 = .ok (.aload_n 0, 1) := by decide +kernel
theorem dX7_init_53 : decode cX7_init 53 = .ok (.bipush 120, 2) := by decide +kernel
theorem dX7_init_55 : decode cX7_init 55 = .ok (.newarray .int, 2) := by decide +kernel
theorem dX7_init_57 : decode cX7_init 57 = .ok (.putfield 29, 3) := by decide +kernel
theorem dX7_init_60 : decode cX7_init 60 = .ok (.aload_n 0, 1) := by decide +kernel
theorem dX7_init_61 : decode cX7_init 61 = .ok (.iconst 4, 1) := by decide +kernel
theorem dX7_init_62 : decode cX7_init 62 = .ok (.newarray .int, 2) := by decide +kernel
theorem dX7_init_64 : decode cX7_init 64 = .ok (.putfield 32, 3) := by decide +kernel
theorem dX7_init_67 : decode cX7_init 67 = .ok (.aload_n 0, 1) := by decide +kernel
theorem dX7_init_68 : decode cX7_init 68 = .ok (.iconst 4, 1) := by decide +kernel
theorem dX7_init_69 : decode cX7_init 69 = .ok (.newarray .int, 2) := by decide +kernel
theorem dX7_init_71 : decode cX7_init 71 = .ok (.putfield 35, 3) := by decide +kernel
theorem dX7_init_74 : decode cX7_init 74 = .ok (.aload_n 0, 1) := by decide +kernel
theorem dX7_init_75 : decode cX7_init 75 = .ok (.sipush 160, 3) := by decide +kernel
theorem dX7_init_78 : decode cX7_init 78 = .ok (.newarray .long, 2) := by decide +kernel
theorem dX7_init_80 : decode cX7_init 80 = .ok (.putfield 38, 3) := by decide +kernel
theorem dX7_init_83 : decode cX7_init 83 = .ok (.return_, 1) := by decide +kernel
theorem dX7_finds_0 : decode cX7_finds 0 = .ok (.aload_n 0, 1) := by decide +kernel
theorem dX7_finds_1 : decode cX7_finds 1 = .ok (.getfield 19, 3) := by decide +kernel
theorem dX7_finds_4 : decode cX7_finds 4 = .ok (.ldc 42, 2) := by decide +kernel
theorem dX7_finds_6 : decode cX7_finds 6 = .ok (.iload_n 1, 1) := by decide +kernel
theorem dX7_finds_7 : decode cX7_finds 7 = .ok (.isub, 1) := by decide +kernel
theorem dX7_finds_8 : decode cX7_finds 8 = .ok (.dup2, 1) := by decide +kernel
theorem dX7_finds_9 : decode cX7_finds 9 = .ok (.iaload, 1) := by decide +kernel
theorem dX7_finds_10 : decode cX7_finds 10 = .ok (.iconst 1, 1) := by decide +kernel
theorem dX7_finds_11 : decode cX7_finds 11 = .ok (.iadd, 1) := by decide +kernel
theorem dX7_finds_12 : decode cX7_finds 12 = .ok (.iastore, 1) := by decide +kernel
theorem dX7_finds_13 : decode cX7_finds 13 = .ok (.iload_n 1, 1) := by decide +kernel
theorem dX7_finds_14 : decode cX7_finds 14 = .ok (.ireturn, 1) := by decide +kernel
theorem dX7_orNone_0 : decode cX7_orNone 0 = .ok (.iload_n 1, 1) := by decide +kernel
theorem dX7_orNone_1 : decode cX7_orNone 1 = .ok (.ifCond .ge 12, 3) := by decide +kernel
theorem dX7_orNone_4 : decode cX7_orNone 4 = .ok (.aload_n 0, 1) := by decide +kernel
theorem dX7_orNone_5 : decode cX7_orNone 5 = .ok (.ldc 43, 2) := by decide +kernel
theorem dX7_orNone_7 : decode cX7_orNone 7 = .ok (.invokevirtual 44, 3) := by decide +kernel
theorem dX7_orNone_10 : decode cX7_orNone 10 = .ok (.goto 4, 3) := by decide +kernel
theorem dX7_orNone_13 : decode cX7_orNone 13 = .ok (.iload_n 1, 1) := by decide +kernel
theorem dX7_orNone_14 : decode cX7_orNone 14 = .ok (.ireturn, 1) := by decide +kernel
theorem dX7_in_0 : decode cX7_in 0 = .ok (.lload_n 0, 1) := by decide +kernel
theorem dX7_in_1 : decode cX7_in 1 = .ok (.iload_n 2, 1) := by decide +kernel
theorem dX7_in_2 : decode cX7_in 2 = .ok (.i2l, 1) := by decide +kernel
theorem dX7_in_3 : decode cX7_in 3 = .ok (.lcmp, 1) := by decide +kernel
theorem dX7_in_4 : decode cX7_in 4 = .ok (.ifCond .lt 14, 3) := by decide +kernel
theorem dX7_in_7 : decode cX7_in 7 = .ok (.lload_n 0, 1) := by decide +kernel
theorem dX7_in_8 : decode cX7_in 8 = .ok (.iload_n 3, 1) := by decide +kernel
theorem dX7_in_9 : decode cX7_in 9 = .ok (.i2l, 1) := by decide +kernel
theorem dX7_in_10 : decode cX7_in 10 = .ok (.lcmp, 1) := by decide +kernel
theorem dX7_in_11 : decode cX7_in 11 = .ok (.ifCond .gt 7, 3) := by decide +kernel
theorem dX7_in_14 : decode cX7_in 14 = .ok (.iconst 1, 1) := by decide +kernel
theorem dX7_in_15 : decode cX7_in 15 = .ok (.goto 4, 3) := by decide +kernel
theorem dX7_in_18 : decode cX7_in 18 = .ok (.iconst 0, 1) := by decide +kernel
theorem dX7_in_19 : decode cX7_in 19 = .ok (.ireturn, 1) := by decide +kernel
theorem dX7_held_0 : decode cX7_held 0 = .ok (.iload_n 0, 1) := by decide +kernel
theorem dX7_held_1 : decode cX7_held 1 = .ok (.iload_n 1, 1) := by decide +kernel
theorem dX7_held_2 : decode cX7_held 2 = .ok (.if_icmp .ge 7, 3) := by decide +kernel
theorem dX7_held_5 : decode cX7_held 5 = .ok (.iload_n 1, 1) := by decide +kernel
theorem dX7_held_6 : decode cX7_held 6 = .ok (.goto 13, 3) := by decide +kernel
theorem dX7_held_9 : decode cX7_held 9 = .ok (.iload_n 0, 1) := by decide +kernel
theorem dX7_held_10 : decode cX7_held 10 = .ok (.iload_n 2, 1) := by decide +kernel
theorem dX7_held_11 : decode cX7_held 11 = .ok (.if_icmp .le 7, 3) := by decide +kernel
theorem dX7_held_14 : decode cX7_held 14 = .ok (.iload_n 2, 1) := by decide +kernel
theorem dX7_held_15 : decode cX7_held 15 = .ok (.goto 4, 3) := by decide +kernel
theorem dX7_held_18 : decode cX7_held 18 = .ok (.iload_n 0, 1) := by decide +kernel
theorem dX7_held_19 : decode cX7_held 19 = .ok (.ireturn, 1) := by decide +kernel
theorem dX7_copyAll_0 : decode cX7_copyAll 0 = .ok (.iconst 0, 1) := by decide +kernel
theorem dX7_copyAll_1 : decode cX7_copyAll 1 = .ok (.istore_n 2, 1) := by decide +kernel
theorem dX7_copyAll_2 : decode cX7_copyAll 2 = .ok (.iload_n 2, 1) := by decide +kernel
theorem dX7_copyAll_3 : decode cX7_copyAll 3 = .ok (.bipush 65, 2) := by decide +kernel
theorem dX7_copyAll_5 : decode cX7_copyAll 5 = .ok (.if_icmp .ge 15, 3) := by decide +kernel
theorem dX7_copyAll_8 : decode cX7_copyAll 8 = .ok (.aload_n 1, 1) := by decide +kernel
theorem dX7_copyAll_9 : decode cX7_copyAll 9 = .ok (.iload_n 2, 1) := by decide +kernel
theorem dX7_copyAll_10 : decode cX7_copyAll 10 = .ok (.aload_n 0, 1) := by decide +kernel
theorem dX7_copyAll_11 : decode cX7_copyAll 11 = .ok (.iload_n 2, 1) := by decide +kernel
theorem dX7_copyAll_12 : decode cX7_copyAll 12 = .ok (.iaload, 1) := by decide +kernel
theorem dX7_copyAll_13 : decode cX7_copyAll 13 = .ok (.iastore, 1) := by decide +kernel
theorem dX7_copyAll_14 : decode cX7_copyAll 14 = .ok (.iinc 2 1, 3) := by decide +kernel
theorem dX7_copyAll_17 : decode cX7_copyAll 17 = .ok (.goto (-15), 3) := by decide +kernel
theorem dX7_copyAll_20 : decode cX7_copyAll 20 = .ok (.return_, 1) := by decide +kernel
theorem dX7_becomes_0 : decode cX7_becomes 0 = .ok (.aload_n 0, 1) := by decide +kernel
theorem dX7_becomes_1 : decode cX7_becomes 1 = .ok (.getfield 9, 3) := by decide +kernel
theorem dX7_becomes_4 : decode cX7_becomes 4 = .ok (.iload_n 1, 1) := by decide +kernel
theorem dX7_becomes_5 : decode cX7_becomes 5 = .ok (.iaload, 1) := by decide +kernel
theorem dX7_becomes_6 : decode cX7_becomes 6 = .ok (.istore_n 3, 1) := by decide +kernel
theorem dX7_becomes_7 : decode cX7_becomes 7 = .ok (.aload_n 0, 1) := by decide +kernel
theorem dX7_becomes_8 : decode cX7_becomes 8 = .ok (.getfield 9, 3) := by decide +kernel
theorem dX7_becomes_11 : decode cX7_becomes 11 = .ok (.iload_n 1, 1) := by decide +kernel
theorem dX7_becomes_12 : decode cX7_becomes 12 = .ok (.iload_n 2, 1) := by decide +kernel
theorem dX7_becomes_13 : decode cX7_becomes 13 = .ok (.iastore, 1) := by decide +kernel
theorem dX7_becomes_14 : decode cX7_becomes 14 = .ok (.iload_n 3, 1) := by decide +kernel
theorem dX7_becomes_15 : decode cX7_becomes 15 = .ok (.ireturn, 1) := by decide +kernel
theorem dX7_isThing_0 : decode cX7_isThing 0 = .ok (.iload_n 1, 1) := by decide +kernel
theorem dX7_isThing_1 : decode cX7_isThing 1 = .ok (.i2l, 1) := by decide +kernel
theorem dX7_isThing_2 : decode cX7_isThing 2 = .ok (.iconst 0, 1) := by decide +kernel
theorem dX7_isThing_3 : decode cX7_isThing 3 = .ok (.aload_n 0, 1) := by decide +kernel
theorem dX7_isThing_4 : decode cX7_isThing 4 = .ok (.getfield 9, 3) := by decide +kernel
theorem dX7_isThing_7 : decode cX7_isThing 7 = .ok (.iconst 3, 1) := by decide +kernel
theorem dX7_isThing_8 : decode cX7_isThing 8 = .ok (.iaload, 1) := by decide +kernel
theorem dX7_isThing_9 : decode cX7_isThing 9 = .ok (.iconst 1, 1) := by decide +kernel
theorem dX7_isThing_10 : decode cX7_isThing 10 = .ok (.isub, 1) := by decide +kernel
theorem dX7_isThing_11 : decode cX7_isThing 11 = .ok (.invokestatic 48, 3) := by decide +kernel
theorem dX7_isThing_14 : decode cX7_isThing 14 = .ok (.ireturn, 1) := by decide +kernel
theorem dX7_isBoat_0 : decode cX7_isBoat 0 = .ok (.iload_n 1, 1) := by decide +kernel
theorem dX7_isBoat_1 : decode cX7_isBoat 1 = .ok (.i2l, 1) := by decide +kernel
theorem dX7_isBoat_2 : decode cX7_isBoat 2 = .ok (.iconst 0, 1) := by decide +kernel
theorem dX7_isBoat_3 : decode cX7_isBoat 3 = .ok (.aload_n 0, 1) := by decide +kernel
theorem dX7_isBoat_4 : decode cX7_isBoat 4 = .ok (.getfield 9, 3) := by decide +kernel
theorem dX7_isBoat_7 : decode cX7_isBoat 7 = .ok (.iconst 4, 1) := by decide +kernel
theorem dX7_isBoat_8 : decode cX7_isBoat 8 = .ok (.iaload, 1) := by decide +kernel
theorem dX7_isBoat_9 : decode cX7_isBoat 9 = .ok (.iconst 1, 1) := by decide +kernel
theorem dX7_isBoat_10 : decode cX7_isBoat 10 = .ok (.isub, 1) := by decide +kernel
theorem dX7_isBoat_11 : decode cX7_isBoat 11 = .ok (.invokestatic 48, 3) := by decide +kernel
theorem dX7_isBoat_14 : decode cX7_isBoat 14 = .ok (.ireturn, 1) := by decide +kernel
theorem dX7_isCell_0 : decode cX7_isCell 0 = .ok (.iload_n 0, 1) := by decide +kernel
theorem dX7_isCell_1 : decode cX7_isCell 1 = .ok (.i2l, 1) := by decide +kernel
theorem dX7_isCell_2 : decode cX7_isCell 2 = .ok (.iconst 0, 1) := by decide +kernel
theorem dX7_isCell_3 : decode cX7_isCell 3 = .ok (.bipush 47, 2) := by decide +kernel
theorem dX7_isCell_5 : decode cX7_isCell 5 = .ok (.invokestatic 48, 3) := by decide +kernel
theorem dX7_isCell_8 : decode cX7_isCell 8 = .ok (.ireturn, 1) := by decide +kernel
theorem dX7_lit_0 : decode cX7_lit 0 = .ok (.aload_n 0, 1) := by decide +kernel
theorem dX7_lit_1 : decode cX7_lit 1 = .ok (.getfield 9, 3) := by decide +kernel
theorem dX7_lit_4 : decode cX7_lit 4 = .ok (.iconst 5, 1) := by decide +kernel
theorem dX7_lit_5 : decode cX7_lit 5 = .ok (.iconst 5, 1) := by decide +kernel
theorem dX7_lit_6 : decode cX7_lit 6 = .ok (.iload_n 1, 1) := by decide +kernel
theorem dX7_lit_7 : decode cX7_lit 7 = .ok (.imul, 1) := by decide +kernel
theorem dX7_lit_8 : decode cX7_lit 8 = .ok (.iadd, 1) := by decide +kernel
theorem dX7_lit_9 : decode cX7_lit 9 = .ok (.iload_n 2, 1) := by decide +kernel
theorem dX7_lit_10 : decode cX7_lit 10 = .ok (.iadd, 1) := by decide +kernel
theorem dX7_lit_11 : decode cX7_lit 11 = .ok (.iaload, 1) := by decide +kernel
theorem dX7_lit_12 : decode cX7_lit 12 = .ok (.ireturn, 1) := by decide +kernel
theorem dX7_has_0 : decode cX7_has 0 = .ok (.aload_n 0, 1) := by decide +kernel
theorem dX7_has_1 : decode cX7_has 1 = .ok (.getfield 9, 3) := by decide +kernel
theorem dX7_has_4 : decode cX7_has 4 = .ok (.bipush 45, 2) := by decide +kernel
theorem dX7_has_6 : decode cX7_has 6 = .ok (.iconst 4, 1) := by decide +kernel
theorem dX7_has_7 : decode cX7_has 7 = .ok (.iload_n 1, 1) := by decide +kernel
theorem dX7_has_8 : decode cX7_has 8 = .ok (.imul, 1) := by decide +kernel
theorem dX7_has_9 : decode cX7_has 9 = .ok (.iadd, 1) := by decide +kernel
theorem dX7_has_10 : decode cX7_has 10 = .ok (.iload_n 2, 1) := by decide +kernel
theorem dX7_has_11 : decode cX7_has 11 = .ok (.iadd, 1) := by decide +kernel
theorem dX7_has_12 : decode cX7_has 12 = .ok (.iaload, 1) := by decide +kernel
theorem dX7_has_13 : decode cX7_has 13 = .ok (.ireturn, 1) := by decide +kernel
theorem dX7_gets_0 : decode cX7_gets 0 = .ok (.aload_n 0, 1) := by decide +kernel
theorem dX7_gets_1 : decode cX7_gets 1 = .ok (.getfield 9, 3) := by decide +kernel
theorem dX7_gets_4 : decode cX7_gets 4 = .ok (.bipush 45, 2) := by decide +kernel
theorem dX7_gets_6 : decode cX7_gets 6 = .ok (.iconst 4, 1) := by decide +kernel
theorem dX7_gets_7 : decode cX7_gets 7 = .ok (.iload_n 1, 1) := by decide +kernel
theorem dX7_gets_8 : decode cX7_gets 8 = .ok (.imul, 1) := by decide +kernel
theorem dX7_gets_9 : decode cX7_gets 9 = .ok (.iadd, 1) := by decide +kernel
theorem dX7_gets_10 : decode cX7_gets 10 = .ok (.iload_n 2, 1) := by decide +kernel
theorem dX7_gets_11 : decode cX7_gets 11 = .ok (.iadd, 1) := by decide +kernel
theorem dX7_gets_12 : decode cX7_gets 12 = .ok (.iload_n 3, 1) := by decide +kernel
theorem dX7_gets_13 : decode cX7_gets 13 = .ok (.iastore, 1) := by decide +kernel
theorem dX7_gets_14 : decode cX7_gets 14 = .ok (.return_, 1) := by decide +kernel
theorem dX7_reachOf_0 : decode cX7_reachOf 0 = .ok (.aload_n 0, 1) := by decide +kernel
theorem dX7_reachOf_1 : decode cX7_reachOf 1 = .ok (.getfield 9, 3) := by decide +kernel
theorem dX7_reachOf_4 : decode cX7_reachOf 4 = .ok (.iconst 0, 1) := by decide +kernel
theorem dX7_reachOf_5 : decode cX7_reachOf 5 = .ok (.iaload, 1) := by decide +kernel
theorem dX7_reachOf_6 : decode cX7_reachOf 6 = .ok (.bipush 24, 2) := by decide +kernel
theorem dX7_reachOf_8 : decode cX7_reachOf 8 = .ok (.irem, 1) := by decide +kernel
theorem dX7_reachOf_9 : decode cX7_reachOf 9 = .ok (.istore_n 2, 1) := by decide +kernel
theorem dX7_reachOf_10 : decode cX7_reachOf 10 = .ok (.aload_n 0, 1) := by decide +kernel
theorem dX7_reachOf_11 : decode cX7_reachOf 11 = .ok (.iload_n 1, 1) := by decide +kernel
theorem dX7_reachOf_12 : decode cX7_reachOf 12 = .ok (.iconst 2, 1) := by decide +kernel
theorem dX7_reachOf_13 : decode cX7_reachOf 13 = .ok (.invokevirtual 52, 3) := by decide +kernel
theorem dX7_reachOf_16 : decode cX7_reachOf 16 = .ok (.istore_n 3, 1) := by decide +kernel
theorem dX7_reachOf_17 : decode cX7_reachOf 17 = .ok (.iload_n 3, 1) := by decide +kernel
theorem dX7_reachOf_18 : decode cX7_reachOf 18 = .ok (.iconst 1, 1) := by decide +kernel
theorem dX7_reachOf_19 : decode cX7_reachOf 19 = .ok (.iadd, 1) := by decide +kernel
theorem dX7_reachOf_20 : decode cX7_reachOf 20 = .ok (.iconst 0, 1) := by decide +kernel
theorem dX7_reachOf_21 : decode cX7_reachOf 21 = .ok (.bipush 6, 2) := by decide +kernel
theorem dX7_reachOf_23 : decode cX7_reachOf 23 = .ok (.invokestatic 56, 3) := by decide +kernel
theorem dX7_reachOf_26 : decode cX7_reachOf 26 = .ok (.istore 4, 2) := by decide +kernel
theorem dX7_reachOf_28 : decode cX7_reachOf 28 = .ok (.aload_n 0, 1) := by decide +kernel
theorem dX7_reachOf_29 : decode cX7_reachOf 29 = .ok (.iload_n 1, 1) := by decide +kernel
theorem dX7_reachOf_30 : decode cX7_reachOf 30 = .ok (.iconst 0, 1) := by decide +kernel
theorem dX7_reachOf_31 : decode cX7_reachOf 31 = .ok (.invokevirtual 52, 3) := by decide +kernel
theorem dX7_reachOf_34 : decode cX7_reachOf 34 = .ok (.tableswitch 95 1 5 #[34, 37, 55, 74, 37], 34) := by decide +kernel
theorem dX7_reachOf_68 : decode cX7_reachOf 68 = .ok (.iload 4, 2) := by decide +kernel
theorem dX7_reachOf_70 : decode cX7_reachOf 70 = .ok (.ireturn, 1) := by decide +kernel
theorem dX7_reachOf_71 : decode cX7_reachOf 71 = .ok (.iload_n 2, 1) := by decide +kernel
theorem dX7_reachOf_72 : decode cX7_reachOf 72 = .ok (.i2l, 1) := by decide +kernel
theorem dX7_reachOf_73 : decode cX7_reachOf 73 = .ok (.bipush 8, 2) := by decide +kernel
theorem dX7_reachOf_75 : decode cX7_reachOf 75 = .ok (.bipush 17, 2) := by decide +kernel
theorem dX7_reachOf_77 : decode cX7_reachOf 77 = .ok (.invokestatic 48, 3) := by decide +kernel
theorem dX7_reachOf_80 : decode cX7_reachOf 80 = .ok (.ifCond .eq 7, 3) := by decide +kernel
theorem dX7_reachOf_83 : decode cX7_reachOf 83 = .ok (.iload_n 3, 1) := by decide +kernel
theorem dX7_reachOf_84 : decode cX7_reachOf 84 = .ok (.goto 4, 3) := by decide +kernel
theorem dX7_reachOf_87 : decode cX7_reachOf 87 = .ok (.iconst 0, 1) := by decide +kernel
theorem dX7_reachOf_88 : decode cX7_reachOf 88 = .ok (.ireturn, 1) := by decide +kernel
theorem dX7_reachOf_89 : decode cX7_reachOf 89 = .ok (.iload_n 2, 1) := by decide +kernel
theorem dX7_reachOf_90 : decode cX7_reachOf 90 = .ok (.i2l, 1) := by decide +kernel
theorem dX7_reachOf_91 : decode cX7_reachOf 91 = .ok (.bipush 6, 2) := by decide +kernel
theorem dX7_reachOf_93 : decode cX7_reachOf 93 = .ok (.bipush 17, 2) := by decide +kernel
theorem dX7_reachOf_95 : decode cX7_reachOf 95 = .ok (.invokestatic 48, 3) := by decide +kernel
theorem dX7_reachOf_98 : decode cX7_reachOf 98 = .ok (.ifCond .eq 7, 3) := by decide +kernel
theorem dX7_reachOf_101 : decode cX7_reachOf 101 = .ok (.iconst 0, 1) := by decide +kernel
theorem dX7_reachOf_102 : decode cX7_reachOf 102 = .ok (.goto 5, 3) := by decide +kernel
theorem dX7_reachOf_105 : decode cX7_reachOf 105 = .ok (.bipush 6, 2) := by decide +kernel
theorem dX7_reachOf_107 : decode cX7_reachOf 107 = .ok (.ireturn, 1) := by decide +kernel
theorem dX7_reachOf_108 : decode cX7_reachOf 108 = .ok (.aload_n 0, 1) := by decide +kernel
theorem dX7_reachOf_109 : decode cX7_reachOf 109 = .ok (.getfield 9, 3) := by decide +kernel
theorem dX7_reachOf_112 : decode cX7_reachOf 112 = .ok (.iconst 0, 1) := by decide +kernel
theorem dX7_reachOf_113 : decode cX7_reachOf 113 = .ok (.iaload, 1) := by decide +kernel
theorem dX7_reachOf_114 : decode cX7_reachOf 114 = .ok (.iconst 2, 1) := by decide +kernel
theorem dX7_reachOf_115 : decode cX7_reachOf 115 = .ok (.irem, 1) := by decide +kernel
theorem dX7_reachOf_116 : decode cX7_reachOf 116 = .ok (.ifCond .ne 8, 3) := by decide +kernel
theorem dX7_reachOf_119 : decode cX7_reachOf 119 = .ok (.iload 4, 2) := by decide +kernel
theorem dX7_reachOf_121 : decode cX7_reachOf 121 = .ok (.goto 7, 3) := by decide +kernel
theorem dX7_reachOf_124 : decode cX7_reachOf 124 = .ok (.iload 4, 2) := by decide +kernel
theorem dX7_reachOf_126 : decode cX7_reachOf 126 = .ok (.iconst 2, 1) := by decide +kernel
theorem dX7_reachOf_127 : decode cX7_reachOf 127 = .ok (.idiv, 1) := by decide +kernel
theorem dX7_reachOf_128 : decode cX7_reachOf 128 = .ok (.ireturn, 1) := by decide +kernel
theorem dX7_reachOf_129 : decode cX7_reachOf 129 = .ok (.iload_n 3, 1) := by decide +kernel
theorem dX7_reachOf_130 : decode cX7_reachOf 130 = .ok (.ireturn, 1) := by decide +kernel
theorem dX7_shineOf_0 : decode cX7_shineOf 0 = .ok (.aload_n 0, 1) := by decide +kernel
theorem dX7_shineOf_1 : decode cX7_shineOf 1 = .ok (.iload_n 1, 1) := by decide +kernel
theorem dX7_shineOf_2 : decode cX7_shineOf 2 = .ok (.iconst 3, 1) := by decide +kernel
theorem dX7_shineOf_3 : decode cX7_shineOf 3 = .ok (.invokevirtual 52, 3) := by decide +kernel
theorem dX7_shineOf_6 : decode cX7_shineOf 6 = .ok (.iload_n 2, 1) := by decide +kernel
theorem dX7_shineOf_7 : decode cX7_shineOf 7 = .ok (.iconst 1, 1) := by decide +kernel
theorem dX7_shineOf_8 : decode cX7_shineOf 8 = .ok (.iadd, 1) := by decide +kernel
theorem dX7_shineOf_9 : decode cX7_shineOf 9 = .ok (.idiv, 1) := by decide +kernel
theorem dX7_shineOf_10 : decode cX7_shineOf 10 = .ok (.istore_n 3, 1) := by decide +kernel
theorem dX7_shineOf_11 : decode cX7_shineOf 11 = .ok (.aload_n 0, 1) := by decide +kernel
theorem dX7_shineOf_12 : decode cX7_shineOf 12 = .ok (.iload_n 1, 1) := by decide +kernel
theorem dX7_shineOf_13 : decode cX7_shineOf 13 = .ok (.iconst 0, 1) := by decide +kernel
theorem dX7_shineOf_14 : decode cX7_shineOf 14 = .ok (.invokevirtual 52, 3) := by decide +kernel
theorem dX7_shineOf_17 : decode cX7_shineOf 17 = .ok (.tableswitch 62 2 5 #[31, 35, 39, 43], 31) := by decide +kernel
theorem dX7_shineOf_48 : decode cX7_shineOf 48 = .ok (.iconst 2, 1) := by decide +kernel
theorem dX7_shineOf_49 : decode cX7_shineOf 49 = .ok (.iload_n 3, 1) := by decide +kernel
theorem dX7_shineOf_50 : decode cX7_shineOf 50 = .ok (.imul, 1) := by decide +kernel
theorem dX7_shineOf_51 : decode cX7_shineOf 51 = .ok (.ireturn, 1) := by decide +kernel
theorem dX7_shineOf_52 : decode cX7_shineOf 52 = .ok (.iload_n 3, 1) := by decide +kernel
theorem dX7_shineOf_53 : decode cX7_shineOf 53 = .ok (.iconst 2, 1) := by decide +kernel
theorem dX7_shineOf_54 : decode cX7_shineOf 54 = .ok (.idiv, 1) := by decide +kernel
theorem dX7_shineOf_55 : decode cX7_shineOf 55 = .ok (.ireturn, 1) := by decide +kernel
theorem dX7_shineOf_56 : decode cX7_shineOf 56 = .ok (.iload_n 3, 1) := by decide +kernel
theorem dX7_shineOf_57 : decode cX7_shineOf 57 = .ok (.iload_n 2, 1) := by decide +kernel
theorem dX7_shineOf_58 : decode cX7_shineOf 58 = .ok (.iadd, 1) := by decide +kernel
theorem dX7_shineOf_59 : decode cX7_shineOf 59 = .ok (.ireturn, 1) := by decide +kernel
theorem dX7_shineOf_60 : decode cX7_shineOf 60 = .ok (.iconst 2, 1) := by decide +kernel
theorem dX7_shineOf_61 : decode cX7_shineOf 61 = .ok (.iload_n 3, 1) := by decide +kernel
theorem dX7_shineOf_62 : decode cX7_shineOf 62 = .ok (.imul, 1) := by decide +kernel
theorem dX7_shineOf_63 : decode cX7_shineOf 63 = .ok (.aload_n 0, 1) := by decide +kernel
theorem dX7_shineOf_64 : decode cX7_shineOf 64 = .ok (.iload_n 1, 1) := by decide +kernel
theorem dX7_shineOf_65 : decode cX7_shineOf 65 = .ok (.iconst 3, 1) := by decide +kernel
theorem dX7_shineOf_66 : decode cX7_shineOf 66 = .ok (.invokevirtual 52, 3) := by decide +kernel
theorem dX7_shineOf_69 : decode cX7_shineOf 69 = .ok (.ifCond .le 7, 3) := by decide +kernel
theorem dX7_shineOf_72 : decode cX7_shineOf 72 = .ok (.iconst 3, 1) := by decide +kernel
theorem dX7_shineOf_73 : decode cX7_shineOf 73 = .ok (.goto 4, 3) := by decide +kernel
theorem dX7_shineOf_76 : decode cX7_shineOf 76 = .ok (.iconst 0, 1) := by decide +kernel
theorem dX7_shineOf_77 : decode cX7_shineOf 77 = .ok (.iadd, 1) := by decide +kernel
theorem dX7_shineOf_78 : decode cX7_shineOf 78 = .ok (.ireturn, 1) := by decide +kernel
theorem dX7_shineOf_79 : decode cX7_shineOf 79 = .ok (.iload_n 3, 1) := by decide +kernel
theorem dX7_shineOf_80 : decode cX7_shineOf 80 = .ok (.ireturn, 1) := by decide +kernel
theorem dX7_taxOf_0 : decode cX7_taxOf 0 = .ok (.aload_n 0, 1) := by decide +kernel
theorem dX7_taxOf_1 : decode cX7_taxOf 1 = .ok (.iload_n 1, 1) := by decide +kernel
theorem dX7_taxOf_2 : decode cX7_taxOf 2 = .ok (.iconst 0, 1) := by decide +kernel
theorem dX7_taxOf_3 : decode cX7_taxOf 3 = .ok (.invokevirtual 52, 3) := by decide +kernel
theorem dX7_taxOf_6 : decode cX7_taxOf 6 = .ok (.tableswitch 52 2 5 #[30, 39, 52, 41], 30) := by decide +kernel
theorem dX7_taxOf_36 : decode cX7_taxOf 36 = .ok (.aload_n 0, 1) := by decide +kernel
theorem dX7_taxOf_37 : decode cX7_taxOf 37 = .ok (.iload_n 1, 1) := by decide +kernel
theorem dX7_taxOf_38 : decode cX7_taxOf 38 = .ok (.iconst 4, 1) := by decide +kernel
theorem dX7_taxOf_39 : decode cX7_taxOf 39 = .ok (.invokevirtual 52, 3) := by decide +kernel
theorem dX7_taxOf_42 : decode cX7_taxOf 42 = .ok (.iconst 2, 1) := by decide +kernel
theorem dX7_taxOf_43 : decode cX7_taxOf 43 = .ok (.iadd, 1) := by decide +kernel
theorem dX7_taxOf_44 : decode cX7_taxOf 44 = .ok (.ireturn, 1) := by decide +kernel
theorem dX7_taxOf_45 : decode cX7_taxOf 45 = .ok (.iconst 0, 1) := by decide +kernel
theorem dX7_taxOf_46 : decode cX7_taxOf 46 = .ok (.ireturn, 1) := by decide +kernel
theorem dX7_taxOf_47 : decode cX7_taxOf 47 = .ok (.iconst 2, 1) := by decide +kernel
theorem dX7_taxOf_48 : decode cX7_taxOf 48 = .ok (.aload_n 0, 1) := by decide +kernel
theorem dX7_taxOf_49 : decode cX7_taxOf 49 = .ok (.iload_n 1, 1) := by decide +kernel
theorem dX7_taxOf_50 : decode cX7_taxOf 50 = .ok (.iconst 4, 1) := by decide +kernel
theorem dX7_taxOf_51 : decode cX7_taxOf 51 = .ok (.invokevirtual 52, 3) := by decide +kernel
theorem dX7_taxOf_54 : decode cX7_taxOf 54 = .ok (.iconst 2, 1) := by decide +kernel
theorem dX7_taxOf_55 : decode cX7_taxOf 55 = .ok (.iadd, 1) := by decide +kernel
theorem dX7_taxOf_56 : decode cX7_taxOf 56 = .ok (.imul, 1) := by decide +kernel
theorem dX7_taxOf_57 : decode cX7_taxOf 57 = .ok (.ireturn, 1) := by decide +kernel
theorem dX7_taxOf_58 : decode cX7_taxOf 58 = .ok (.aload_n 0, 1) := by decide +kernel
theorem dX7_taxOf_59 : decode cX7_taxOf 59 = .ok (.iload_n 1, 1) := by decide +kernel
theorem dX7_taxOf_60 : decode cX7_taxOf 60 = .ok (.iconst 4, 1) := by decide +kernel
theorem dX7_taxOf_61 : decode cX7_taxOf 61 = .ok (.invokevirtual 52, 3) := by decide +kernel
theorem dX7_taxOf_64 : decode cX7_taxOf 64 = .ok (.ireturn, 1) := by decide +kernel
theorem dX7_isMirrored_0 : decode cX7_isMirrored 0 = .ok (.aload_n 0, 1) := by decide +kernel
theorem dX7_isMirrored_1 : decode cX7_isMirrored 1 = .ok (.iload_n 1, 1) := by decide +kernel
theorem dX7_isMirrored_2 : decode cX7_isMirrored 2 = .ok (.iconst 1, 1) := by decide +kernel
theorem dX7_isMirrored_3 : decode cX7_isMirrored 3 = .ok (.invokevirtual 52, 3) := by decide +kernel
theorem dX7_isMirrored_6 : decode cX7_isMirrored 6 = .ok (.iload_n 2, 1) := by decide +kernel
theorem dX7_isMirrored_7 : decode cX7_isMirrored 7 = .ok (.bipush 8, 2) := by decide +kernel
theorem dX7_isMirrored_9 : decode cX7_isMirrored 9 = .ok (.irem, 1) := by decide +kernel
theorem dX7_isMirrored_10 : decode cX7_isMirrored 10 = .ok (.if_icmp .ne 19, 3) := by decide +kernel
theorem dX7_isMirrored_13 : decode cX7_isMirrored 13 = .ok (.iload_n 2, 1) := by decide +kernel
theorem dX7_isMirrored_14 : decode cX7_isMirrored 14 = .ok (.bipush 8, 2) := by decide +kernel
theorem dX7_isMirrored_16 : decode cX7_isMirrored 16 = .ok (.idiv, 1) := by decide +kernel
theorem dX7_isMirrored_17 : decode cX7_isMirrored 17 = .ok (.aload_n 0, 1) := by decide +kernel
theorem dX7_isMirrored_18 : decode cX7_isMirrored 18 = .ok (.iload_n 1, 1) := by decide +kernel
theorem dX7_isMirrored_19 : decode cX7_isMirrored 19 = .ok (.invokevirtual 60, 3) := by decide +kernel
theorem dX7_isMirrored_22 : decode cX7_isMirrored 22 = .ok (.if_icmp .ge 7, 3) := by decide +kernel
theorem dX7_isMirrored_25 : decode cX7_isMirrored 25 = .ok (.iconst 1, 1) := by decide +kernel
theorem dX7_isMirrored_26 : decode cX7_isMirrored 26 = .ok (.goto 4, 3) := by decide +kernel
theorem dX7_isMirrored_29 : decode cX7_isMirrored 29 = .ok (.iconst 0, 1) := by decide +kernel
theorem dX7_isMirrored_30 : decode cX7_isMirrored 30 = .ok (.ireturn, 1) := by decide +kernel
theorem dX7_isRippled_0 : decode cX7_isRippled 0 = .ok (.aload_n 0, 1) := by decide +kernel
theorem dX7_isRippled_1 : decode cX7_isRippled 1 = .ok (.getfield 9, 3) := by decide +kernel
theorem dX7_isRippled_4 : decode cX7_isRippled 4 = .ok (.iconst 1, 1) := by decide +kernel
theorem dX7_isRippled_5 : decode cX7_isRippled 5 = .ok (.iaload, 1) := by decide +kernel
theorem dX7_isRippled_6 : decode cX7_isRippled 6 = .ok (.iload_n 1, 1) := by decide +kernel
theorem dX7_isRippled_7 : decode cX7_isRippled 7 = .ok (.bipush 8, 2) := by decide +kernel
theorem dX7_isRippled_9 : decode cX7_isRippled 9 = .ok (.irem, 1) := by decide +kernel
theorem dX7_isRippled_10 : decode cX7_isRippled 10 = .ok (.ishr, 1) := by decide +kernel
theorem dX7_isRippled_11 : decode cX7_isRippled 11 = .ok (.iconst 1, 1) := by decide +kernel
theorem dX7_isRippled_12 : decode cX7_isRippled 12 = .ok (.iand, 1) := by decide +kernel
theorem dX7_isRippled_13 : decode cX7_isRippled 13 = .ok (.iconst 1, 1) := by decide +kernel
theorem dX7_isRippled_14 : decode cX7_isRippled 14 = .ok (.if_icmp .ne 7, 3) := by decide +kernel
theorem dX7_isRippled_17 : decode cX7_isRippled 17 = .ok (.iconst 1, 1) := by decide +kernel
theorem dX7_isRippled_18 : decode cX7_isRippled 18 = .ok (.goto 4, 3) := by decide +kernel
theorem dX7_isRippled_21 : decode cX7_isRippled 21 = .ok (.iconst 0, 1) := by decide +kernel
theorem dX7_isRippled_22 : decode cX7_isRippled 22 = .ok (.ireturn, 1) := by decide +kernel
theorem dX7_glintOf_0 : decode cX7_glintOf 0 = .ok (.iconst 0, 1) := by decide +kernel
theorem dX7_glintOf_1 : decode cX7_glintOf 1 = .ok (.istore_n 2, 1) := by decide +kernel
theorem dX7_glintOf_2 : decode cX7_glintOf 2 = .ok (.iconst 0, 1) := by decide +kernel
theorem dX7_glintOf_3 : decode cX7_glintOf 3 = .ok (.istore_n 3, 1) := by decide +kernel
theorem dX7_glintOf_4 : decode cX7_glintOf 4 = .ok (.iload_n 3, 1) := by decide +kernel
theorem dX7_glintOf_5 : decode cX7_glintOf 5 = .ok (.aload_n 0, 1) := by decide +kernel
theorem dX7_glintOf_6 : decode cX7_glintOf 6 = .ok (.getfield 9, 3) := by decide +kernel
theorem dX7_glintOf_9 : decode cX7_glintOf 9 = .ok (.iconst 3, 1) := by decide +kernel
theorem dX7_glintOf_10 : decode cX7_glintOf 10 = .ok (.iaload, 1) := by decide +kernel
theorem dX7_glintOf_11 : decode cX7_glintOf 11 = .ok (.if_icmp .ge 34, 3) := by decide +kernel
theorem dX7_glintOf_14 : decode cX7_glintOf 14 = .ok (.iload_n 2, 1) := by decide +kernel
theorem dX7_glintOf_15 : decode cX7_glintOf 15 = .ok (.aload_n 0, 1) := by decide +kernel
theorem dX7_glintOf_16 : decode cX7_glintOf 16 = .ok (.iload_n 3, 1) := by decide +kernel
theorem dX7_glintOf_17 : decode cX7_glintOf 17 = .ok (.iload_n 1, 1) := by decide +kernel
theorem dX7_glintOf_18 : decode cX7_glintOf 18 = .ok (.invokevirtual 63, 3) := by decide +kernel
theorem dX7_glintOf_21 : decode cX7_glintOf 21 = .ok (.ifCond .eq 15, 3) := by decide +kernel
theorem dX7_glintOf_24 : decode cX7_glintOf 24 = .ok (.aload_n 0, 1) := by decide +kernel
theorem dX7_glintOf_25 : decode cX7_glintOf 25 = .ok (.iload_n 3, 1) := by decide +kernel
theorem dX7_glintOf_26 : decode cX7_glintOf 26 = .ok (.iload_n 1, 1) := by decide +kernel
theorem dX7_glintOf_27 : decode cX7_glintOf 27 = .ok (.bipush 8, 2) := by decide +kernel
theorem dX7_glintOf_29 : decode cX7_glintOf 29 = .ok (.idiv, 1) := by decide +kernel
theorem dX7_glintOf_30 : decode cX7_glintOf 30 = .ok (.invokevirtual 67, 3) := by decide +kernel
theorem dX7_glintOf_33 : decode cX7_glintOf 33 = .ok (.goto 4, 3) := by decide +kernel
theorem dX7_glintOf_36 : decode cX7_glintOf 36 = .ok (.iconst 0, 1) := by decide +kernel
theorem dX7_glintOf_37 : decode cX7_glintOf 37 = .ok (.iadd, 1) := by decide +kernel
theorem dX7_glintOf_38 : decode cX7_glintOf 38 = .ok (.istore_n 2, 1) := by decide +kernel
theorem dX7_glintOf_39 : decode cX7_glintOf 39 = .ok (.iinc 3 1, 3) := by decide +kernel
theorem dX7_glintOf_42 : decode cX7_glintOf 42 = .ok (.goto (-38), 3) := by decide +kernel
theorem dX7_glintOf_45 : decode cX7_glintOf 45 = .ok (.aload_n 0, 1) := by decide +kernel
theorem dX7_glintOf_46 : decode cX7_glintOf 46 = .ok (.getfield 9, 3) := by decide +kernel
theorem dX7_glintOf_49 : decode cX7_glintOf 49 = .ok (.iconst 2, 1) := by decide +kernel
theorem dX7_glintOf_50 : decode cX7_glintOf 50 = .ok (.iaload, 1) := by decide +kernel
theorem dX7_glintOf_51 : decode cX7_glintOf 51 = .ok (.iconst 1, 1) := by decide +kernel
theorem dX7_glintOf_52 : decode cX7_glintOf 52 = .ok (.if_icmp .ne 7, 3) := by decide +kernel
theorem dX7_glintOf_55 : decode cX7_glintOf 55 = .ok (.iconst 0, 1) := by decide +kernel
theorem dX7_glintOf_56 : decode cX7_glintOf 56 = .ok (.goto 18, 3) := by decide +kernel
theorem dX7_glintOf_59 : decode cX7_glintOf 59 = .ok (.aload_n 0, 1) := by decide +kernel
theorem dX7_glintOf_60 : decode cX7_glintOf 60 = .ok (.iload_n 1, 1) := by decide +kernel
theorem dX7_glintOf_61 : decode cX7_glintOf 61 = .ok (.invokevirtual 70, 3) := by decide +kernel
theorem dX7_glintOf_64 : decode cX7_glintOf 64 = .ok (.ifCond .eq 9, 3) := by decide +kernel
theorem dX7_glintOf_67 : decode cX7_glintOf 67 = .ok (.iload_n 2, 1) := by decide +kernel
theorem dX7_glintOf_68 : decode cX7_glintOf 68 = .ok (.iconst 3, 1) := by decide +kernel
theorem dX7_glintOf_69 : decode cX7_glintOf 69 = .ok (.idiv, 1) := by decide +kernel
theorem dX7_glintOf_70 : decode cX7_glintOf 70 = .ok (.goto 4, 3) := by decide +kernel
theorem dX7_glintOf_73 : decode cX7_glintOf 73 = .ok (.iload_n 2, 1) := by decide +kernel
theorem dX7_glintOf_74 : decode cX7_glintOf 74 = .ok (.ireturn, 1) := by decide +kernel
theorem dX7_mirrored_0 : decode cX7_mirrored 0 = .ok (.iconst 0, 1) := by decide +kernel
theorem dX7_mirrored_1 : decode cX7_mirrored 1 = .ok (.istore_n 2, 1) := by decide +kernel
theorem dX7_mirrored_2 : decode cX7_mirrored 2 = .ok (.iconst 0, 1) := by decide +kernel
theorem dX7_mirrored_3 : decode cX7_mirrored 3 = .ok (.istore_n 3, 1) := by decide +kernel
theorem dX7_mirrored_4 : decode cX7_mirrored 4 = .ok (.iload_n 3, 1) := by decide +kernel
theorem dX7_mirrored_5 : decode cX7_mirrored 5 = .ok (.aload_n 0, 1) := by decide +kernel
theorem dX7_mirrored_6 : decode cX7_mirrored 6 = .ok (.getfield 9, 3) := by decide +kernel
theorem dX7_mirrored_9 : decode cX7_mirrored 9 = .ok (.iconst 3, 1) := by decide +kernel
theorem dX7_mirrored_10 : decode cX7_mirrored 10 = .ok (.iaload, 1) := by decide +kernel
theorem dX7_mirrored_11 : decode cX7_mirrored 11 = .ok (.if_icmp .ge 28, 3) := by decide +kernel
theorem dX7_mirrored_14 : decode cX7_mirrored 14 = .ok (.iload_n 2, 1) := by decide +kernel
theorem dX7_mirrored_15 : decode cX7_mirrored 15 = .ok (.aload_n 0, 1) := by decide +kernel
theorem dX7_mirrored_16 : decode cX7_mirrored 16 = .ok (.iload_n 3, 1) := by decide +kernel
theorem dX7_mirrored_17 : decode cX7_mirrored 17 = .ok (.iload_n 1, 1) := by decide +kernel
theorem dX7_mirrored_18 : decode cX7_mirrored 18 = .ok (.invokevirtual 63, 3) := by decide +kernel
theorem dX7_mirrored_21 : decode cX7_mirrored 21 = .ok (.ifCond .eq 9, 3) := by decide +kernel
theorem dX7_mirrored_24 : decode cX7_mirrored 24 = .ok (.iconst 1, 1) := by decide +kernel
theorem dX7_mirrored_25 : decode cX7_mirrored 25 = .ok (.iload_n 3, 1) := by decide +kernel
theorem dX7_mirrored_26 : decode cX7_mirrored 26 = .ok (.ishl, 1) := by decide +kernel
theorem dX7_mirrored_27 : decode cX7_mirrored 27 = .ok (.goto 4, 3) := by decide +kernel
theorem dX7_mirrored_30 : decode cX7_mirrored 30 = .ok (.iconst 0, 1) := by decide +kernel
theorem dX7_mirrored_31 : decode cX7_mirrored 31 = .ok (.ior, 1) := by decide +kernel
theorem dX7_mirrored_32 : decode cX7_mirrored 32 = .ok (.istore_n 2, 1) := by decide +kernel
theorem dX7_mirrored_33 : decode cX7_mirrored 33 = .ok (.iinc 3 1, 3) := by decide +kernel
theorem dX7_mirrored_36 : decode cX7_mirrored 36 = .ok (.goto (-32), 3) := by decide +kernel
theorem dX7_mirrored_39 : decode cX7_mirrored 39 = .ok (.iload_n 2, 1) := by decide +kernel
theorem dX7_mirrored_40 : decode cX7_mirrored 40 = .ok (.ireturn, 1) := by decide +kernel
theorem dX7_taxAt_0 : decode cX7_taxAt 0 = .ok (.iconst 0, 1) := by decide +kernel
theorem dX7_taxAt_1 : decode cX7_taxAt 1 = .ok (.istore_n 2, 1) := by decide +kernel
theorem dX7_taxAt_2 : decode cX7_taxAt 2 = .ok (.iconst 0, 1) := by decide +kernel
theorem dX7_taxAt_3 : decode cX7_taxAt 3 = .ok (.istore_n 3, 1) := by decide +kernel
theorem dX7_taxAt_4 : decode cX7_taxAt 4 = .ok (.iload_n 3, 1) := by decide +kernel
theorem dX7_taxAt_5 : decode cX7_taxAt 5 = .ok (.aload_n 0, 1) := by decide +kernel
theorem dX7_taxAt_6 : decode cX7_taxAt 6 = .ok (.getfield 9, 3) := by decide +kernel
theorem dX7_taxAt_9 : decode cX7_taxAt 9 = .ok (.iconst 3, 1) := by decide +kernel
theorem dX7_taxAt_10 : decode cX7_taxAt 10 = .ok (.iaload, 1) := by decide +kernel
theorem dX7_taxAt_11 : decode cX7_taxAt 11 = .ok (.if_icmp .ge 30, 3) := by decide +kernel
theorem dX7_taxAt_14 : decode cX7_taxAt 14 = .ok (.iload_n 2, 1) := by decide +kernel
theorem dX7_taxAt_15 : decode cX7_taxAt 15 = .ok (.aload_n 0, 1) := by decide +kernel
theorem dX7_taxAt_16 : decode cX7_taxAt 16 = .ok (.iload_n 3, 1) := by decide +kernel
theorem dX7_taxAt_17 : decode cX7_taxAt 17 = .ok (.iload_n 1, 1) := by decide +kernel
theorem dX7_taxAt_18 : decode cX7_taxAt 18 = .ok (.invokevirtual 63, 3) := by decide +kernel
theorem dX7_taxAt_21 : decode cX7_taxAt 21 = .ok (.ifCond .eq 11, 3) := by decide +kernel
theorem dX7_taxAt_24 : decode cX7_taxAt 24 = .ok (.aload_n 0, 1) := by decide +kernel
theorem dX7_taxAt_25 : decode cX7_taxAt 25 = .ok (.iload_n 3, 1) := by decide +kernel
theorem dX7_taxAt_26 : decode cX7_taxAt 26 = .ok (.invokevirtual 74, 3) := by decide +kernel
theorem dX7_taxAt_29 : decode cX7_taxAt 29 = .ok (.goto 4, 3) := by decide +kernel
theorem dX7_taxAt_32 : decode cX7_taxAt 32 = .ok (.iconst 0, 1) := by decide +kernel
theorem dX7_taxAt_33 : decode cX7_taxAt 33 = .ok (.iadd, 1) := by decide +kernel
theorem dX7_taxAt_34 : decode cX7_taxAt 34 = .ok (.istore_n 2, 1) := by decide +kernel
theorem dX7_taxAt_35 : decode cX7_taxAt 35 = .ok (.iinc 3 1, 3) := by decide +kernel
theorem dX7_taxAt_38 : decode cX7_taxAt 38 = .ok (.goto (-34), 3) := by decide +kernel
theorem dX7_taxAt_41 : decode cX7_taxAt 41 = .ok (.iload_n 2, 1) := by decide +kernel
theorem dX7_taxAt_42 : decode cX7_taxAt 42 = .ok (.ireturn, 1) := by decide +kernel
theorem dX7_boatsAt_0 : decode cX7_boatsAt 0 = .ok (.iconst 0, 1) := by decide +kernel
theorem dX7_boatsAt_1 : decode cX7_boatsAt 1 = .ok (.istore_n 2, 1) := by decide +kernel
theorem dX7_boatsAt_2 : decode cX7_boatsAt 2 = .ok (.iconst 0, 1) := by decide +kernel
theorem dX7_boatsAt_3 : decode cX7_boatsAt 3 = .ok (.istore_n 3, 1) := by decide +kernel
theorem dX7_boatsAt_4 : decode cX7_boatsAt 4 = .ok (.iload_n 3, 1) := by decide +kernel
theorem dX7_boatsAt_5 : decode cX7_boatsAt 5 = .ok (.aload_n 0, 1) := by decide +kernel
theorem dX7_boatsAt_6 : decode cX7_boatsAt 6 = .ok (.getfield 9, 3) := by decide +kernel
theorem dX7_boatsAt_9 : decode cX7_boatsAt 9 = .ok (.iconst 4, 1) := by decide +kernel
theorem dX7_boatsAt_10 : decode cX7_boatsAt 10 = .ok (.iaload, 1) := by decide +kernel
theorem dX7_boatsAt_11 : decode cX7_boatsAt 11 = .ok (.if_icmp .ge 29, 3) := by decide +kernel
theorem dX7_boatsAt_14 : decode cX7_boatsAt 14 = .ok (.iload_n 2, 1) := by decide +kernel
theorem dX7_boatsAt_15 : decode cX7_boatsAt 15 = .ok (.aload_n 0, 1) := by decide +kernel
theorem dX7_boatsAt_16 : decode cX7_boatsAt 16 = .ok (.iload_n 3, 1) := by decide +kernel
theorem dX7_boatsAt_17 : decode cX7_boatsAt 17 = .ok (.iconst 0, 1) := by decide +kernel
theorem dX7_boatsAt_18 : decode cX7_boatsAt 18 = .ok (.invokevirtual 77, 3) := by decide +kernel
theorem dX7_boatsAt_21 : decode cX7_boatsAt 21 = .ok (.iload_n 1, 1) := by decide +kernel
theorem dX7_boatsAt_22 : decode cX7_boatsAt 22 = .ok (.if_icmp .ne 9, 3) := by decide +kernel
theorem dX7_boatsAt_25 : decode cX7_boatsAt 25 = .ok (.iconst 1, 1) := by decide +kernel
theorem dX7_boatsAt_26 : decode cX7_boatsAt 26 = .ok (.iload_n 3, 1) := by decide +kernel
theorem dX7_boatsAt_27 : decode cX7_boatsAt 27 = .ok (.ishl, 1) := by decide +kernel
theorem dX7_boatsAt_28 : decode cX7_boatsAt 28 = .ok (.goto 4, 3) := by decide +kernel
theorem dX7_boatsAt_31 : decode cX7_boatsAt 31 = .ok (.iconst 0, 1) := by decide +kernel
theorem dX7_boatsAt_32 : decode cX7_boatsAt 32 = .ok (.ior, 1) := by decide +kernel
theorem dX7_boatsAt_33 : decode cX7_boatsAt 33 = .ok (.istore_n 2, 1) := by decide +kernel
theorem dX7_boatsAt_34 : decode cX7_boatsAt 34 = .ok (.iinc 3 1, 3) := by decide +kernel
theorem dX7_boatsAt_37 : decode cX7_boatsAt 37 = .ok (.goto (-33), 3) := by decide +kernel
theorem dX7_boatsAt_40 : decode cX7_boatsAt 40 = .ok (.iload_n 2, 1) := by decide +kernel
theorem dX7_boatsAt_41 : decode cX7_boatsAt 41 = .ok (.ireturn, 1) := by decide +kernel
theorem dX7_wind_0 : decode cX7_wind 0 = .ok (.iload_n 1, 1) := by decide +kernel
theorem dX7_wind_1 : decode cX7_wind 1 = .ok (.i2l, 1) := by decide +kernel
theorem dX7_wind_2 : decode cX7_wind 2 = .ok (.iconst 0, 1) := by decide +kernel
theorem dX7_wind_3 : decode cX7_wind 3 = .ok (.iconst 1, 1) := by decide +kernel
theorem dX7_wind_4 : decode cX7_wind 4 = .ok (.invokestatic 48, 3) := by decide +kernel
theorem dX7_wind_7 : decode cX7_wind 7 = .ok (.ifCond .eq 34, 3) := by decide +kernel
theorem dX7_wind_10 : decode cX7_wind 10 = .ok (.iload_n 2, 1) := by decide +kernel
theorem dX7_wind_11 : decode cX7_wind 11 = .ok (.i2l, 1) := by decide +kernel
theorem dX7_wind_12 : decode cX7_wind 12 = .ok (.iconst 0, 1) := by decide +kernel
theorem dX7_wind_13 : decode cX7_wind 13 = .ok (.iload_n 1, 1) := by decide +kernel
theorem dX7_wind_14 : decode cX7_wind 14 = .ok (.ifCond .ne 9, 3) := by decide +kernel
theorem dX7_wind_17 : decode cX7_wind 17 = .ok (.sipush 255, 3) := by decide +kernel
theorem dX7_wind_20 : decode cX7_wind 20 = .ok (.goto 4, 3) := by decide +kernel
theorem dX7_wind_23 : decode cX7_wind 23 = .ok (.iconst 1, 1) := by decide +kernel
theorem dX7_wind_24 : decode cX7_wind 24 = .ok (.invokestatic 48, 3) := by decide +kernel
theorem dX7_wind_27 : decode cX7_wind 27 = .ok (.ifCond .eq 14, 3) := by decide +kernel
theorem dX7_wind_30 : decode cX7_wind 30 = .ok (.aload_n 0, 1) := by decide +kernel
theorem dX7_wind_31 : decode cX7_wind 31 = .ok (.iconst 1, 1) := by decide +kernel
theorem dX7_wind_32 : decode cX7_wind 32 = .ok (.iload_n 1, 1) := by decide +kernel
theorem dX7_wind_33 : decode cX7_wind 33 = .ok (.iadd, 1) := by decide +kernel
theorem dX7_wind_34 : decode cX7_wind 34 = .ok (.iload_n 2, 1) := by decide +kernel
theorem dX7_wind_35 : decode cX7_wind 35 = .ok (.invokevirtual 80, 3) := by decide +kernel
theorem dX7_wind_38 : decode cX7_wind 38 = .ok (.goto 9, 3) := by decide +kernel
theorem dX7_wind_41 : decode cX7_wind 41 = .ok (.aload_n 0, 1) := by decide +kernel
theorem dX7_wind_42 : decode cX7_wind 42 = .ok (.ldc 42, 2) := by decide +kernel
theorem dX7_wind_44 : decode cX7_wind 44 = .ok (.invokevirtual 44, 3) := by decide +kernel
theorem dX7_wind_47 : decode cX7_wind 47 = .ok (.ireturn, 1) := by decide +kernel
theorem dX7_cell_0 : decode cX7_cell 0 = .ok (.iload_n 1, 1) := by decide +kernel
theorem dX7_cell_1 : decode cX7_cell 1 = .ok (.invokestatic 83, 3) := by decide +kernel
theorem dX7_cell_4 : decode cX7_cell 4 = .ok (.ifCond .eq 13, 3) := by decide +kernel
theorem dX7_cell_7 : decode cX7_cell 7 = .ok (.iload_n 2, 1) := by decide +kernel
theorem dX7_cell_8 : decode cX7_cell 8 = .ok (.i2l, 1) := by decide +kernel
theorem dX7_cell_9 : decode cX7_cell 9 = .ok (.iconst 0, 1) := by decide +kernel
theorem dX7_cell_10 : decode cX7_cell 10 = .ok (.iconst 3, 1) := by decide +kernel
theorem dX7_cell_11 : decode cX7_cell 11 = .ok (.invokestatic 48, 3) := by decide +kernel
theorem dX7_cell_14 : decode cX7_cell 14 = .ok (.ifCond .ne 10, 3) := by decide +kernel
theorem dX7_cell_17 : decode cX7_cell 17 = .ok (.aload_n 0, 1) := by decide +kernel
theorem dX7_cell_18 : decode cX7_cell 18 = .ok (.ldc 42, 2) := by decide +kernel
theorem dX7_cell_20 : decode cX7_cell 20 = .ok (.invokevirtual 44, 3) := by decide +kernel
theorem dX7_cell_23 : decode cX7_cell 23 = .ok (.ireturn, 1) := by decide +kernel
theorem dX7_cell_24 : decode cX7_cell 24 = .ok (.iload_n 2, 1) := by decide +kernel
theorem dX7_cell_25 : decode cX7_cell 25 = .ok (.ifCond .ne 11, 3) := by decide +kernel
theorem dX7_cell_28 : decode cX7_cell 28 = .ok (.aload_n 0, 1) := by decide +kernel
theorem dX7_cell_29 : decode cX7_cell 29 = .ok (.iload_n 1, 1) := by decide +kernel
theorem dX7_cell_30 : decode cX7_cell 30 = .ok (.invokevirtual 86, 3) := by decide +kernel
theorem dX7_cell_33 : decode cX7_cell 33 = .ok (.goto 34, 3) := by decide +kernel
theorem dX7_cell_36 : decode cX7_cell 36 = .ok (.iload_n 2, 1) := by decide +kernel
theorem dX7_cell_37 : decode cX7_cell 37 = .ok (.iconst 1, 1) := by decide +kernel
theorem dX7_cell_38 : decode cX7_cell 38 = .ok (.if_icmp .ne 11, 3) := by decide +kernel
theorem dX7_cell_41 : decode cX7_cell 41 = .ok (.aload_n 0, 1) := by decide +kernel
theorem dX7_cell_42 : decode cX7_cell 42 = .ok (.iload_n 1, 1) := by decide +kernel
theorem dX7_cell_43 : decode cX7_cell 43 = .ok (.invokevirtual 89, 3) := by decide +kernel
theorem dX7_cell_46 : decode cX7_cell 46 = .ok (.goto 21, 3) := by decide +kernel
theorem dX7_cell_49 : decode cX7_cell 49 = .ok (.iload_n 2, 1) := by decide +kernel
theorem dX7_cell_50 : decode cX7_cell 50 = .ok (.iconst 2, 1) := by decide +kernel
theorem dX7_cell_51 : decode cX7_cell 51 = .ok (.if_icmp .ne 11, 3) := by decide +kernel
theorem dX7_cell_54 : decode cX7_cell 54 = .ok (.aload_n 0, 1) := by decide +kernel
theorem dX7_cell_55 : decode cX7_cell 55 = .ok (.iload_n 1, 1) := by decide +kernel
theorem dX7_cell_56 : decode cX7_cell 56 = .ok (.invokevirtual 92, 3) := by decide +kernel
theorem dX7_cell_59 : decode cX7_cell 59 = .ok (.goto 8, 3) := by decide +kernel
theorem dX7_cell_62 : decode cX7_cell 62 = .ok (.aload_n 0, 1) := by decide +kernel
theorem dX7_cell_63 : decode cX7_cell 63 = .ok (.iload_n 1, 1) := by decide +kernel
theorem dX7_cell_64 : decode cX7_cell 64 = .ok (.invokevirtual 95, 3) := by decide +kernel
theorem dX7_cell_67 : decode cX7_cell 67 = .ok (.ireturn, 1) := by decide +kernel
theorem dX7_comes_0 : decode cX7_comes 0 = .ok (.aload_n 0, 1) := by decide +kernel
theorem dX7_comes_1 : decode cX7_comes 1 = .ok (.getfield 9, 3) := by decide +kernel
theorem dX7_comes_4 : decode cX7_comes 4 = .ok (.iconst 3, 1) := by decide +kernel
theorem dX7_comes_5 : decode cX7_comes 5 = .ok (.iaload, 1) := by decide +kernel
theorem dX7_comes_6 : decode cX7_comes 6 = .ok (.istore 6, 2) := by decide +kernel
theorem dX7_comes_8 : decode cX7_comes 8 = .ok (.iconst 5, 1) := by decide +kernel
theorem dX7_comes_9 : decode cX7_comes 9 = .ok (.iconst 5, 1) := by decide +kernel
theorem dX7_comes_10 : decode cX7_comes 10 = .ok (.iload 6, 2) := by decide +kernel
theorem dX7_comes_12 : decode cX7_comes 12 = .ok (.imul, 1) := by decide +kernel
theorem dX7_comes_13 : decode cX7_comes 13 = .ok (.iadd, 1) := by decide +kernel
theorem dX7_comes_14 : decode cX7_comes 14 = .ok (.istore 7, 2) := by decide +kernel
theorem dX7_comes_16 : decode cX7_comes 16 = .ok (.aload_n 0, 1) := by decide +kernel
theorem dX7_comes_17 : decode cX7_comes 17 = .ok (.getfield 9, 3) := by decide +kernel
theorem dX7_comes_20 : decode cX7_comes 20 = .ok (.iconst 3, 1) := by decide +kernel
theorem dX7_comes_21 : decode cX7_comes 21 = .ok (.dup2, 1) := by decide +kernel
theorem dX7_comes_22 : decode cX7_comes 22 = .ok (.iaload, 1) := by decide +kernel
theorem dX7_comes_23 : decode cX7_comes 23 = .ok (.iconst 1, 1) := by decide +kernel
theorem dX7_comes_24 : decode cX7_comes 24 = .ok (.iadd, 1) := by decide +kernel
theorem dX7_comes_25 : decode cX7_comes 25 = .ok (.iastore, 1) := by decide +kernel
theorem dX7_comes_26 : decode cX7_comes 26 = .ok (.aload_n 0, 1) := by decide +kernel
theorem dX7_comes_27 : decode cX7_comes 27 = .ok (.getfield 9, 3) := by decide +kernel
theorem dX7_comes_30 : decode cX7_comes 30 = .ok (.iload 7, 2) := by decide +kernel
theorem dX7_comes_32 : decode cX7_comes 32 = .ok (.iload_n 1, 1) := by decide +kernel
theorem dX7_comes_33 : decode cX7_comes 33 = .ok (.iastore, 1) := by decide +kernel
theorem dX7_comes_34 : decode cX7_comes 34 = .ok (.aload_n 0, 1) := by decide +kernel
theorem dX7_comes_35 : decode cX7_comes 35 = .ok (.getfield 9, 3) := by decide +kernel
theorem dX7_comes_38 : decode cX7_comes 38 = .ok (.iload 7, 2) := by decide +kernel
theorem dX7_comes_40 : decode cX7_comes 40 = .ok (.iconst 1, 1) := by decide +kernel
theorem dX7_comes_41 : decode cX7_comes 41 = .ok (.iadd, 1) := by decide +kernel
theorem dX7_comes_42 : decode cX7_comes 42 = .ok (.iload_n 2, 1) := by decide +kernel
theorem dX7_comes_43 : decode cX7_comes 43 = .ok (.iastore, 1) := by decide +kernel
theorem dX7_comes_44 : decode cX7_comes 44 = .ok (.aload_n 0, 1) := by decide +kernel
theorem dX7_comes_45 : decode cX7_comes 45 = .ok (.getfield 9, 3) := by decide +kernel
theorem dX7_comes_48 : decode cX7_comes 48 = .ok (.iload 7, 2) := by decide +kernel
theorem dX7_comes_50 : decode cX7_comes 50 = .ok (.iconst 2, 1) := by decide +kernel
theorem dX7_comes_51 : decode cX7_comes 51 = .ok (.iadd, 1) := by decide +kernel
theorem dX7_comes_52 : decode cX7_comes 52 = .ok (.iload_n 3, 1) := by decide +kernel
theorem dX7_comes_53 : decode cX7_comes 53 = .ok (.iastore, 1) := by decide +kernel
theorem dX7_comes_54 : decode cX7_comes 54 = .ok (.aload_n 0, 1) := by decide +kernel
theorem dX7_comes_55 : decode cX7_comes 55 = .ok (.getfield 9, 3) := by decide +kernel
theorem dX7_comes_58 : decode cX7_comes 58 = .ok (.iload 7, 2) := by decide +kernel
theorem dX7_comes_60 : decode cX7_comes 60 = .ok (.iconst 3, 1) := by decide +kernel
theorem dX7_comes_61 : decode cX7_comes 61 = .ok (.iadd, 1) := by decide +kernel
theorem dX7_comes_62 : decode cX7_comes 62 = .ok (.iload 4, 2) := by decide +kernel
theorem dX7_comes_64 : decode cX7_comes 64 = .ok (.iastore, 1) := by decide +kernel
theorem dX7_comes_65 : decode cX7_comes 65 = .ok (.aload_n 0, 1) := by decide +kernel
theorem dX7_comes_66 : decode cX7_comes 66 = .ok (.getfield 9, 3) := by decide +kernel
theorem dX7_comes_69 : decode cX7_comes 69 = .ok (.iload 7, 2) := by decide +kernel
theorem dX7_comes_71 : decode cX7_comes 71 = .ok (.iconst 4, 1) := by decide +kernel
theorem dX7_comes_72 : decode cX7_comes 72 = .ok (.iadd, 1) := by decide +kernel
theorem dX7_comes_73 : decode cX7_comes 73 = .ok (.iload 5, 2) := by decide +kernel
theorem dX7_comes_75 : decode cX7_comes 75 = .ok (.iastore, 1) := by decide +kernel
theorem dX7_comes_76 : decode cX7_comes 76 = .ok (.iload 6, 2) := by decide +kernel
theorem dX7_comes_78 : decode cX7_comes 78 = .ok (.ireturn, 1) := by decide +kernel
theorem dX7_mayBe_0 : decode cX7_mayBe 0 = .ok (.iload_n 0, 1) := by decide +kernel
theorem dX7_mayBe_1 : decode cX7_mayBe 1 = .ok (.tableswitch 67 1 4 #[31, 40, 49, 58], 31) := by decide +kernel
theorem dX7_mayBe_32 : decode cX7_mayBe 32 = .ok (.iload_n 1, 1) := by decide +kernel
theorem dX7_mayBe_33 : decode cX7_mayBe 33 = .ok (.i2l, 1) := by decide +kernel
theorem dX7_mayBe_34 : decode cX7_mayBe 34 = .ok (.iconst 0, 1) := by decide +kernel
theorem dX7_mayBe_35 : decode cX7_mayBe 35 = .ok (.bipush 7, 2) := by decide +kernel
theorem dX7_mayBe_37 : decode cX7_mayBe 37 = .ok (.invokestatic 48, 3) := by decide +kernel
theorem dX7_mayBe_40 : decode cX7_mayBe 40 = .ok (.ireturn, 1) := by decide +kernel
theorem dX7_mayBe_41 : decode cX7_mayBe 41 = .ok (.iload_n 1, 1) := by decide +kernel
theorem dX7_mayBe_42 : decode cX7_mayBe 42 = .ok (.i2l, 1) := by decide +kernel
theorem dX7_mayBe_43 : decode cX7_mayBe 43 = .ok (.iconst 1, 1) := by decide +kernel
theorem dX7_mayBe_44 : decode cX7_mayBe 44 = .ok (.bipush 6, 2) := by decide +kernel
theorem dX7_mayBe_46 : decode cX7_mayBe 46 = .ok (.invokestatic 48, 3) := by decide +kernel
theorem dX7_mayBe_49 : decode cX7_mayBe 49 = .ok (.ireturn, 1) := by decide +kernel
theorem dX7_mayBe_50 : decode cX7_mayBe 50 = .ok (.iload_n 1, 1) := by decide +kernel
theorem dX7_mayBe_51 : decode cX7_mayBe 51 = .ok (.i2l, 1) := by decide +kernel
theorem dX7_mayBe_52 : decode cX7_mayBe 52 = .ok (.iconst 0, 1) := by decide +kernel
theorem dX7_mayBe_53 : decode cX7_mayBe 53 = .ok (.bipush 99, 2) := by decide +kernel
theorem dX7_mayBe_55 : decode cX7_mayBe 55 = .ok (.invokestatic 48, 3) := by decide +kernel
theorem dX7_mayBe_58 : decode cX7_mayBe 58 = .ok (.ireturn, 1) := by decide +kernel
theorem dX7_mayBe_59 : decode cX7_mayBe 59 = .ok (.iload_n 1, 1) := by decide +kernel
theorem dX7_mayBe_60 : decode cX7_mayBe 60 = .ok (.i2l, 1) := by decide +kernel
theorem dX7_mayBe_61 : decode cX7_mayBe 61 = .ok (.iconst 0, 1) := by decide +kernel
theorem dX7_mayBe_62 : decode cX7_mayBe 62 = .ok (.bipush 9, 2) := by decide +kernel
theorem dX7_mayBe_64 : decode cX7_mayBe 64 = .ok (.invokestatic 48, 3) := by decide +kernel
theorem dX7_mayBe_67 : decode cX7_mayBe 67 = .ok (.ireturn, 1) := by decide +kernel
theorem dX7_mayBe_68 : decode cX7_mayBe 68 = .ok (.iconst 0, 1) := by decide +kernel
theorem dX7_mayBe_69 : decode cX7_mayBe 69 = .ok (.ireturn, 1) := by decide +kernel
theorem dX7_thing_0 : decode cX7_thing 0 = .ok (.iload_n 1, 1) := by decide +kernel
theorem dX7_thing_1 : decode cX7_thing 1 = .ok (.i2l, 1) := by decide +kernel
theorem dX7_thing_2 : decode cX7_thing 2 = .ok (.iconst 0, 1) := by decide +kernel
theorem dX7_thing_3 : decode cX7_thing 3 = .ok (.iconst 5, 1) := by decide +kernel
theorem dX7_thing_4 : decode cX7_thing 4 = .ok (.invokestatic 48, 3) := by decide +kernel
theorem dX7_thing_7 : decode cX7_thing 7 = .ok (.ifCond .eq 19, 3) := by decide +kernel
theorem dX7_thing_10 : decode cX7_thing 10 = .ok (.iconst 1, 1) := by decide +kernel
theorem dX7_thing_11 : decode cX7_thing 11 = .ok (.iload_n 2, 1) := by decide +kernel
theorem dX7_thing_12 : decode cX7_thing 12 = .ok (.invokestatic 98, 3) := by decide +kernel
theorem dX7_thing_15 : decode cX7_thing 15 = .ok (.ifCond .eq 11, 3) := by decide +kernel
theorem dX7_thing_18 : decode cX7_thing 18 = .ok (.iconst 2, 1) := by decide +kernel
theorem dX7_thing_19 : decode cX7_thing 19 = .ok (.iload_n 3, 1) := by decide +kernel
theorem dX7_thing_20 : decode cX7_thing 20 = .ok (.invokestatic 98, 3) := by decide +kernel
theorem dX7_thing_23 : decode cX7_thing 23 = .ok (.ifCond .ne 10, 3) := by decide +kernel
theorem dX7_thing_26 : decode cX7_thing 26 = .ok (.aload_n 0, 1) := by decide +kernel
theorem dX7_thing_27 : decode cX7_thing 27 = .ok (.ldc 42, 2) := by decide +kernel
theorem dX7_thing_29 : decode cX7_thing 29 = .ok (.invokevirtual 44, 3) := by decide +kernel
theorem dX7_thing_32 : decode cX7_thing 32 = .ok (.ireturn, 1) := by decide +kernel
theorem dX7_thing_33 : decode cX7_thing 33 = .ok (.aload_n 0, 1) := by decide +kernel
theorem dX7_thing_34 : decode cX7_thing 34 = .ok (.getfield 9, 3) := by decide +kernel
theorem dX7_thing_37 : decode cX7_thing 37 = .ok (.iconst 3, 1) := by decide +kernel
theorem dX7_thing_38 : decode cX7_thing 38 = .ok (.iaload, 1) := by decide +kernel
theorem dX7_thing_39 : decode cX7_thing 39 = .ok (.bipush 8, 2) := by decide +kernel
theorem dX7_thing_41 : decode cX7_thing 41 = .ok (.if_icmp .ne 12, 3) := by decide +kernel
theorem dX7_thing_44 : decode cX7_thing 44 = .ok (.aload_n 0, 1) := by decide +kernel
theorem dX7_thing_45 : decode cX7_thing 45 = .ok (.ldc 101, 2) := by decide +kernel
theorem dX7_thing_47 : decode cX7_thing 47 = .ok (.invokevirtual 44, 3) := by decide +kernel
theorem dX7_thing_50 : decode cX7_thing 50 = .ok (.goto 13, 3) := by decide +kernel
theorem dX7_thing_53 : decode cX7_thing 53 = .ok (.aload_n 0, 1) := by decide +kernel
theorem dX7_thing_54 : decode cX7_thing 54 = .ok (.iload_n 1, 1) := by decide +kernel
theorem dX7_thing_55 : decode cX7_thing 55 = .ok (.iload_n 2, 1) := by decide +kernel
theorem dX7_thing_56 : decode cX7_thing 56 = .ok (.iload_n 3, 1) := by decide +kernel
theorem dX7_thing_57 : decode cX7_thing 57 = .ok (.bipush 40, 2) := by decide +kernel
theorem dX7_thing_59 : decode cX7_thing 59 = .ok (.iconst 1, 1) := by decide +kernel
theorem dX7_thing_60 : decode cX7_thing 60 = .ok (.invokevirtual 102, 3) := by decide +kernel
theorem dX7_thing_63 : decode cX7_thing 63 = .ok (.ireturn, 1) := by decide +kernel
theorem dX7_of_0 : decode cX7_of 0 = .ok (.aload_n 0, 1) := by decide +kernel
theorem dX7_of_1 : decode cX7_of 1 = .ok (.iload_n 1, 1) := by decide +kernel
theorem dX7_of_2 : decode cX7_of 2 = .ok (.invokevirtual 106, 3) := by decide +kernel
theorem dX7_of_5 : decode cX7_of 5 = .ok (.ifCond .eq 14, 3) := by decide +kernel
theorem dX7_of_8 : decode cX7_of 8 = .ok (.iload_n 2, 1) := by decide +kernel
theorem dX7_of_9 : decode cX7_of 9 = .ok (.i2l, 1) := by decide +kernel
theorem dX7_of_10 : decode cX7_of 10 = .ok (.iconst 0, 1) := by decide +kernel
theorem dX7_of_11 : decode cX7_of 11 = .ok (.bipush 7, 2) := by decide +kernel
theorem dX7_of_13 : decode cX7_of 13 = .ok (.invokestatic 48, 3) := by decide +kernel
theorem dX7_of_16 : decode cX7_of 16 = .ok (.ifCond .ne 10, 3) := by decide +kernel
theorem dX7_of_19 : decode cX7_of 19 = .ok (.aload_n 0, 1) := by decide +kernel
theorem dX7_of_20 : decode cX7_of 20 = .ok (.ldc 42, 2) := by decide +kernel
theorem dX7_of_22 : decode cX7_of 22 = .ok (.invokevirtual 44, 3) := by decide +kernel
theorem dX7_of_25 : decode cX7_of 25 = .ok (.ireturn, 1) := by decide +kernel
theorem dX7_of_26 : decode cX7_of 26 = .ok (.iload_n 2, 1) := by decide +kernel
theorem dX7_of_27 : decode cX7_of 27 = .ok (.bipush 7, 2) := by decide +kernel
theorem dX7_of_29 : decode cX7_of 29 = .ok (.if_icmp .ge 36, 3) := by decide +kernel
theorem dX7_of_32 : decode cX7_of 32 = .ok (.iload_n 2, 1) := by decide +kernel
theorem dX7_of_33 : decode cX7_of 33 = .ok (.iconst 5, 1) := by decide +kernel
theorem dX7_of_34 : decode cX7_of 34 = .ok (.if_icmp .ge 12, 3) := by decide +kernel
theorem dX7_of_37 : decode cX7_of 37 = .ok (.aload_n 0, 1) := by decide +kernel
theorem dX7_of_38 : decode cX7_of 38 = .ok (.iload_n 1, 1) := by decide +kernel
theorem dX7_of_39 : decode cX7_of 39 = .ok (.iload_n 2, 1) := by decide +kernel
theorem dX7_of_40 : decode cX7_of 40 = .ok (.invokevirtual 52, 3) := by decide +kernel
theorem dX7_of_43 : decode cX7_of 43 = .ok (.goto 21, 3) := by decide +kernel
theorem dX7_of_46 : decode cX7_of 46 = .ok (.iload_n 2, 1) := by decide +kernel
theorem dX7_of_47 : decode cX7_of 47 = .ok (.iconst 5, 1) := by decide +kernel
theorem dX7_of_48 : decode cX7_of 48 = .ok (.if_icmp .ne 11, 3) := by decide +kernel
theorem dX7_of_51 : decode cX7_of 51 = .ok (.aload_n 0, 1) := by decide +kernel
theorem dX7_of_52 : decode cX7_of 52 = .ok (.iload_n 1, 1) := by decide +kernel
theorem dX7_of_53 : decode cX7_of 53 = .ok (.invokevirtual 60, 3) := by decide +kernel
theorem dX7_of_56 : decode cX7_of 56 = .ok (.goto 8, 3) := by decide +kernel
theorem dX7_of_59 : decode cX7_of 59 = .ok (.aload_n 0, 1) := by decide +kernel
theorem dX7_of_60 : decode cX7_of 60 = .ok (.iload_n 1, 1) := by decide +kernel
theorem dX7_of_61 : decode cX7_of 61 = .ok (.invokevirtual 74, 3) := by decide +kernel
theorem dX7_of_64 : decode cX7_of 64 = .ok (.ireturn, 1) := by decide +kernel
theorem dX7_of_65 : decode cX7_of 65 = .ok (.iconst 0, 1) := by decide +kernel
theorem dX7_of_66 : decode cX7_of 66 = .ok (.istore_n 3, 1) := by decide +kernel
theorem dX7_of_67 : decode cX7_of 67 = .ok (.iconst 0, 1) := by decide +kernel
theorem dX7_of_68 : decode cX7_of 68 = .ok (.istore 4, 2) := by decide +kernel
theorem dX7_of_70 : decode cX7_of 70 = .ok (.iload 4, 2) := by decide +kernel
theorem dX7_of_72 : decode cX7_of 72 = .ok (.aload_n 0, 1) := by decide +kernel
theorem dX7_of_73 : decode cX7_of 73 = .ok (.iload_n 1, 1) := by decide +kernel
theorem dX7_of_74 : decode cX7_of 74 = .ok (.invokevirtual 60, 3) := by decide +kernel
theorem dX7_of_77 : decode cX7_of 77 = .ok (.if_icmp .ge 19, 3) := by decide +kernel
theorem dX7_of_80 : decode cX7_of 80 = .ok (.iload_n 3, 1) := by decide +kernel
theorem dX7_of_81 : decode cX7_of 81 = .ok (.aload_n 0, 1) := by decide +kernel
theorem dX7_of_82 : decode cX7_of 82 = .ok (.iload_n 1, 1) := by decide +kernel
theorem dX7_of_83 : decode cX7_of 83 = .ok (.iload 4, 2) := by decide +kernel
theorem dX7_of_85 : decode cX7_of 85 = .ok (.invokevirtual 67, 3) := by decide +kernel
theorem dX7_of_88 : decode cX7_of 88 = .ok (.iadd, 1) := by decide +kernel
theorem dX7_of_89 : decode cX7_of 89 = .ok (.istore_n 3, 1) := by decide +kernel
theorem dX7_of_90 : decode cX7_of 90 = .ok (.iinc 4 1, 3) := by decide +kernel
theorem dX7_of_93 : decode cX7_of 93 = .ok (.goto (-23), 3) := by decide +kernel
theorem dX7_of_96 : decode cX7_of 96 = .ok (.iload_n 3, 1) := by decide +kernel
theorem dX7_of_97 : decode cX7_of 97 = .ok (.ireturn, 1) := by decide +kernel
theorem dX7_set_0 : decode cX7_set 0 = .ok (.aload_n 0, 1) := by decide +kernel
theorem dX7_set_1 : decode cX7_set 1 = .ok (.iload_n 1, 1) := by decide +kernel
theorem dX7_set_2 : decode cX7_set 2 = .ok (.invokevirtual 106, 3) := by decide +kernel
theorem dX7_set_5 : decode cX7_set 5 = .ok (.ifCond .eq 26, 3) := by decide +kernel
theorem dX7_set_8 : decode cX7_set 8 = .ok (.iload_n 2, 1) := by decide +kernel
theorem dX7_set_9 : decode cX7_set 9 = .ok (.iload_n 3, 1) := by decide +kernel
theorem dX7_set_10 : decode cX7_set 10 = .ok (.invokestatic 98, 3) := by decide +kernel
theorem dX7_set_13 : decode cX7_set 13 = .ok (.ifCond .eq 18, 3) := by decide +kernel
theorem dX7_set_16 : decode cX7_set 16 = .ok (.aload_n 0, 1) := by decide +kernel
theorem dX7_set_17 : decode cX7_set 17 = .ok (.iconst 5, 1) := by decide +kernel
theorem dX7_set_18 : decode cX7_set 18 = .ok (.iconst 5, 1) := by decide +kernel
theorem dX7_set_19 : decode cX7_set 19 = .ok (.iload_n 1, 1) := by decide +kernel
theorem dX7_set_20 : decode cX7_set 20 = .ok (.imul, 1) := by decide +kernel
theorem dX7_set_21 : decode cX7_set 21 = .ok (.iadd, 1) := by decide +kernel
theorem dX7_set_22 : decode cX7_set 22 = .ok (.iload_n 2, 1) := by decide +kernel
theorem dX7_set_23 : decode cX7_set 23 = .ok (.iadd, 1) := by decide +kernel
theorem dX7_set_24 : decode cX7_set 24 = .ok (.iload_n 3, 1) := by decide +kernel
theorem dX7_set_25 : decode cX7_set 25 = .ok (.invokevirtual 80, 3) := by decide +kernel
theorem dX7_set_28 : decode cX7_set 28 = .ok (.goto 9, 3) := by decide +kernel
theorem dX7_set_31 : decode cX7_set 31 = .ok (.aload_n 0, 1) := by decide +kernel
theorem dX7_set_32 : decode cX7_set 32 = .ok (.ldc 42, 2) := by decide +kernel
theorem dX7_set_34 : decode cX7_set 34 = .ok (.invokevirtual 44, 3) := by decide +kernel
theorem dX7_set_37 : decode cX7_set 37 = .ok (.ireturn, 1) := by decide +kernel
theorem dX7_turn_0 : decode cX7_turn 0 = .ok (.aload_n 0, 1) := by decide +kernel
theorem dX7_turn_1 : decode cX7_turn 1 = .ok (.iload_n 1, 1) := by decide +kernel
theorem dX7_turn_2 : decode cX7_turn 2 = .ok (.invokevirtual 106, 3) := by decide +kernel
theorem dX7_turn_5 : decode cX7_turn 5 = .ok (.ifCond .eq 26, 3) := by decide +kernel
theorem dX7_turn_8 : decode cX7_turn 8 = .ok (.iload_n 2, 1) := by decide +kernel
theorem dX7_turn_9 : decode cX7_turn 9 = .ok (.i2l, 1) := by decide +kernel
theorem dX7_turn_10 : decode cX7_turn 10 = .ok (.iconst 0, 1) := by decide +kernel
theorem dX7_turn_11 : decode cX7_turn 11 = .ok (.iconst 5, 1) := by decide +kernel
theorem dX7_turn_12 : decode cX7_turn 12 = .ok (.invokestatic 48, 3) := by decide +kernel
theorem dX7_turn_15 : decode cX7_turn 15 = .ok (.ifCond .eq 16, 3) := by decide +kernel
theorem dX7_turn_18 : decode cX7_turn 18 = .ok (.aload_n 0, 1) := by decide +kernel
theorem dX7_turn_19 : decode cX7_turn 19 = .ok (.iconst 5, 1) := by decide +kernel
theorem dX7_turn_20 : decode cX7_turn 20 = .ok (.iconst 5, 1) := by decide +kernel
theorem dX7_turn_21 : decode cX7_turn 21 = .ok (.iload_n 1, 1) := by decide +kernel
theorem dX7_turn_22 : decode cX7_turn 22 = .ok (.imul, 1) := by decide +kernel
theorem dX7_turn_23 : decode cX7_turn 23 = .ok (.iadd, 1) := by decide +kernel
theorem dX7_turn_24 : decode cX7_turn 24 = .ok (.iload_n 2, 1) := by decide +kernel
theorem dX7_turn_25 : decode cX7_turn 25 = .ok (.invokevirtual 80, 3) := by decide +kernel
theorem dX7_turn_28 : decode cX7_turn 28 = .ok (.goto 9, 3) := by decide +kernel
theorem dX7_turn_31 : decode cX7_turn 31 = .ok (.aload_n 0, 1) := by decide +kernel
theorem dX7_turn_32 : decode cX7_turn 32 = .ok (.ldc 42, 2) := by decide +kernel
theorem dX7_turn_34 : decode cX7_turn 34 = .ok (.invokevirtual 44, 3) := by decide +kernel
theorem dX7_turn_37 : decode cX7_turn 37 = .ok (.ireturn, 1) := by decide +kernel
theorem dX7_as_0 : decode cX7_as 0 = .ok (.aload_n 0, 1) := by decide +kernel
theorem dX7_as_1 : decode cX7_as 1 = .ok (.iload_n 1, 1) := by decide +kernel
theorem dX7_as_2 : decode cX7_as 2 = .ok (.invokevirtual 106, 3) := by decide +kernel
theorem dX7_as_5 : decode cX7_as 5 = .ok (.ifCond .eq 13, 3) := by decide +kernel
theorem dX7_as_8 : decode cX7_as 8 = .ok (.iload_n 2, 1) := by decide +kernel
theorem dX7_as_9 : decode cX7_as 9 = .ok (.i2l, 1) := by decide +kernel
theorem dX7_as_10 : decode cX7_as 10 = .ok (.iconst 0, 1) := by decide +kernel
theorem dX7_as_11 : decode cX7_as 11 = .ok (.iconst 5, 1) := by decide +kernel
theorem dX7_as_12 : decode cX7_as 12 = .ok (.invokestatic 48, 3) := by decide +kernel
theorem dX7_as_15 : decode cX7_as 15 = .ok (.ifCond .ne 10, 3) := by decide +kernel
theorem dX7_as_18 : decode cX7_as 18 = .ok (.aload_n 0, 1) := by decide +kernel
theorem dX7_as_19 : decode cX7_as 19 = .ok (.ldc 42, 2) := by decide +kernel
theorem dX7_as_21 : decode cX7_as 21 = .ok (.invokevirtual 44, 3) := by decide +kernel
theorem dX7_as_24 : decode cX7_as 24 = .ok (.ireturn, 1) := by decide +kernel
theorem dX7_as_25 : decode cX7_as 25 = .ok (.aload_n 0, 1) := by decide +kernel
theorem dX7_as_26 : decode cX7_as 26 = .ok (.iload_n 1, 1) := by decide +kernel
theorem dX7_as_27 : decode cX7_as 27 = .ok (.iconst 0, 1) := by decide +kernel
theorem dX7_as_28 : decode cX7_as 28 = .ok (.invokevirtual 52, 3) := by decide +kernel
theorem dX7_as_31 : decode cX7_as 31 = .ok (.istore_n 3, 1) := by decide +kernel
theorem dX7_as_32 : decode cX7_as 32 = .ok (.iload_n 2, 1) := by decide +kernel
theorem dX7_as_33 : decode cX7_as 33 = .ok (.ifCond .eq 28, 3) := by decide +kernel
theorem dX7_as_36 : decode cX7_as 36 = .ok (.iload_n 2, 1) := by decide +kernel
theorem dX7_as_37 : decode cX7_as 37 = .ok (.iload_n 3, 1) := by decide +kernel
theorem dX7_as_38 : decode cX7_as 38 = .ok (.if_icmp .eq 23, 3) := by decide +kernel
theorem dX7_as_41 : decode cX7_as 41 = .ok (.iload_n 2, 1) := by decide +kernel
theorem dX7_as_42 : decode cX7_as 42 = .ok (.iconst 1, 1) := by decide +kernel
theorem dX7_as_43 : decode cX7_as 43 = .ok (.if_icmp .ne 8, 3) := by decide +kernel
theorem dX7_as_46 : decode cX7_as 46 = .ok (.iload_n 3, 1) := by decide +kernel
theorem dX7_as_47 : decode cX7_as 47 = .ok (.iconst 4, 1) := by decide +kernel
theorem dX7_as_48 : decode cX7_as 48 = .ok (.if_icmp .eq 13, 3) := by decide +kernel
theorem dX7_as_51 : decode cX7_as 51 = .ok (.iload_n 2, 1) := by decide +kernel
theorem dX7_as_52 : decode cX7_as 52 = .ok (.iconst 2, 1) := by decide +kernel
theorem dX7_as_53 : decode cX7_as 53 = .ok (.if_icmp .ne 12, 3) := by decide +kernel
theorem dX7_as_56 : decode cX7_as 56 = .ok (.iload_n 3, 1) := by decide +kernel
theorem dX7_as_57 : decode cX7_as 57 = .ok (.iconst 5, 1) := by decide +kernel
theorem dX7_as_58 : decode cX7_as 58 = .ok (.if_icmp .ne 7, 3) := by decide +kernel
theorem dX7_as_61 : decode cX7_as 61 = .ok (.iconst 1, 1) := by decide +kernel
theorem dX7_as_62 : decode cX7_as 62 = .ok (.goto 4, 3) := by decide +kernel
theorem dX7_as_65 : decode cX7_as 65 = .ok (.iconst 0, 1) := by decide +kernel
theorem dX7_as_66 : decode cX7_as 66 = .ok (.istore 4, 2) := by decide +kernel
theorem dX7_as_68 : decode cX7_as 68 = .ok (.iload 4, 2) := by decide +kernel
theorem dX7_as_70 : decode cX7_as 70 = .ok (.ifCond .eq 12, 3) := by decide +kernel
theorem dX7_as_73 : decode cX7_as 73 = .ok (.aload_n 0, 1) := by decide +kernel
theorem dX7_as_74 : decode cX7_as 74 = .ok (.iload_n 1, 1) := by decide +kernel
theorem dX7_as_75 : decode cX7_as 75 = .ok (.iconst 3, 1) := by decide +kernel
theorem dX7_as_76 : decode cX7_as 76 = .ok (.invokevirtual 52, 3) := by decide +kernel
theorem dX7_as_79 : decode cX7_as 79 = .ok (.goto 9, 3) := by decide +kernel
theorem dX7_as_82 : decode cX7_as 82 = .ok (.aload_n 0, 1) := by decide +kernel
theorem dX7_as_83 : decode cX7_as 83 = .ok (.ldc 109, 2) := by decide +kernel
theorem dX7_as_85 : decode cX7_as 85 = .ok (.invokevirtual 44, 3) := by decide +kernel
theorem dX7_as_88 : decode cX7_as 88 = .ok (.ireturn, 1) := by decide +kernel
theorem dX7_comesBoat_0 : decode cX7_comesBoat 0 = .ok (.aload_n 0, 1) := by decide +kernel
theorem dX7_comesBoat_1 : decode cX7_comesBoat 1 = .ok (.getfield 9, 3) := by decide +kernel
theorem dX7_comesBoat_4 : decode cX7_comesBoat 4 = .ok (.iconst 4, 1) := by decide +kernel
theorem dX7_comesBoat_5 : decode cX7_comesBoat 5 = .ok (.iaload, 1) := by decide +kernel
theorem dX7_comesBoat_6 : decode cX7_comesBoat 6 = .ok (.istore_n 3, 1) := by decide +kernel
theorem dX7_comesBoat_7 : decode cX7_comesBoat 7 = .ok (.aload_n 0, 1) := by decide +kernel
theorem dX7_comesBoat_8 : decode cX7_comesBoat 8 = .ok (.getfield 9, 3) := by decide +kernel
theorem dX7_comesBoat_11 : decode cX7_comesBoat 11 = .ok (.iconst 4, 1) := by decide +kernel
theorem dX7_comesBoat_12 : decode cX7_comesBoat 12 = .ok (.dup2, 1) := by decide +kernel
theorem dX7_comesBoat_13 : decode cX7_comesBoat 13 = .ok (.iaload, 1) := by decide +kernel
theorem dX7_comesBoat_14 : decode cX7_comesBoat 14 = .ok (.iconst 1, 1) := by decide +kernel
theorem dX7_comesBoat_15 : decode cX7_comesBoat 15 = .ok (.iadd, 1) := by decide +kernel
theorem dX7_comesBoat_16 : decode cX7_comesBoat 16 = .ok (.iastore, 1) := by decide +kernel
theorem dX7_comesBoat_17 : decode cX7_comesBoat 17 = .ok (.aload_n 0, 1) := by decide +kernel
theorem dX7_comesBoat_18 : decode cX7_comesBoat 18 = .ok (.iload_n 3, 1) := by decide +kernel
theorem dX7_comesBoat_19 : decode cX7_comesBoat 19 = .ok (.iconst 0, 1) := by decide +kernel
theorem dX7_comesBoat_20 : decode cX7_comesBoat 20 = .ok (.iload_n 1, 1) := by decide +kernel
theorem dX7_comesBoat_21 : decode cX7_comesBoat 21 = .ok (.invokevirtual 110, 3) := by decide +kernel
theorem dX7_comesBoat_24 : decode cX7_comesBoat 24 = .ok (.aload_n 0, 1) := by decide +kernel
theorem dX7_comesBoat_25 : decode cX7_comesBoat 25 = .ok (.iload_n 3, 1) := by decide +kernel
theorem dX7_comesBoat_26 : decode cX7_comesBoat 26 = .ok (.iconst 1, 1) := by decide +kernel
theorem dX7_comesBoat_27 : decode cX7_comesBoat 27 = .ok (.iload_n 2, 1) := by decide +kernel
theorem dX7_comesBoat_28 : decode cX7_comesBoat 28 = .ok (.invokevirtual 110, 3) := by decide +kernel
theorem dX7_comesBoat_31 : decode cX7_comesBoat 31 = .ok (.aload_n 0, 1) := by decide +kernel
theorem dX7_comesBoat_32 : decode cX7_comesBoat 32 = .ok (.iload_n 3, 1) := by decide +kernel
theorem dX7_comesBoat_33 : decode cX7_comesBoat 33 = .ok (.iconst 2, 1) := by decide +kernel
theorem dX7_comesBoat_34 : decode cX7_comesBoat 34 = .ok (.iconst 0, 1) := by decide +kernel
theorem dX7_comesBoat_35 : decode cX7_comesBoat 35 = .ok (.invokevirtual 110, 3) := by decide +kernel
theorem dX7_comesBoat_38 : decode cX7_comesBoat 38 = .ok (.aload_n 0, 1) := by decide +kernel
theorem dX7_comesBoat_39 : decode cX7_comesBoat 39 = .ok (.iload_n 3, 1) := by decide +kernel
theorem dX7_comesBoat_40 : decode cX7_comesBoat 40 = .ok (.iconst 3, 1) := by decide +kernel
theorem dX7_comesBoat_41 : decode cX7_comesBoat 41 = .ok (.iconst 0, 1) := by decide +kernel
theorem dX7_comesBoat_42 : decode cX7_comesBoat 42 = .ok (.invokevirtual 110, 3) := by decide +kernel
theorem dX7_comesBoat_45 : decode cX7_comesBoat 45 = .ok (.iload_n 3, 1) := by decide +kernel
theorem dX7_comesBoat_46 : decode cX7_comesBoat 46 = .ok (.ireturn, 1) := by decide +kernel
theorem dX7_boat_0 : decode cX7_boat 0 = .ok (.iload_n 1, 1) := by decide +kernel
theorem dX7_boat_1 : decode cX7_boat 1 = .ok (.invokestatic 83, 3) := by decide +kernel
theorem dX7_boat_4 : decode cX7_boat 4 = .ok (.ifCond .ne 10, 3) := by decide +kernel
theorem dX7_boat_7 : decode cX7_boat 7 = .ok (.aload_n 0, 1) := by decide +kernel
theorem dX7_boat_8 : decode cX7_boat 8 = .ok (.ldc 42, 2) := by decide +kernel
theorem dX7_boat_10 : decode cX7_boat 10 = .ok (.invokevirtual 44, 3) := by decide +kernel
theorem dX7_boat_13 : decode cX7_boat 13 = .ok (.ireturn, 1) := by decide +kernel
theorem dX7_boat_14 : decode cX7_boat 14 = .ok (.aload_n 0, 1) := by decide +kernel
theorem dX7_boat_15 : decode cX7_boat 15 = .ok (.getfield 9, 3) := by decide +kernel
theorem dX7_boat_18 : decode cX7_boat 18 = .ok (.iconst 4, 1) := by decide +kernel
theorem dX7_boat_19 : decode cX7_boat 19 = .ok (.iaload, 1) := by decide +kernel
theorem dX7_boat_20 : decode cX7_boat 20 = .ok (.iconst 5, 1) := by decide +kernel
theorem dX7_boat_21 : decode cX7_boat 21 = .ok (.if_icmp .ne 12, 3) := by decide +kernel
theorem dX7_boat_24 : decode cX7_boat 24 = .ok (.aload_n 0, 1) := by decide +kernel
theorem dX7_boat_25 : decode cX7_boat 25 = .ok (.ldc 101, 2) := by decide +kernel
theorem dX7_boat_27 : decode cX7_boat 27 = .ok (.invokevirtual 44, 3) := by decide +kernel
theorem dX7_boat_30 : decode cX7_boat 30 = .ok (.goto 10, 3) := by decide +kernel
theorem dX7_boat_33 : decode cX7_boat 33 = .ok (.aload_n 0, 1) := by decide +kernel
theorem dX7_boat_34 : decode cX7_boat 34 = .ok (.iload_n 1, 1) := by decide +kernel
theorem dX7_boat_35 : decode cX7_boat 35 = .ok (.bipush 10, 2) := by decide +kernel
theorem dX7_boat_37 : decode cX7_boat 37 = .ok (.invokevirtual 114, 3) := by decide +kernel
theorem dX7_boat_40 : decode cX7_boat 40 = .ok (.ireturn, 1) := by decide +kernel
theorem dX7_takesOf_0 : decode cX7_takesOf 0 = .ok (.aload_n 0, 1) := by decide +kernel
theorem dX7_takesOf_1 : decode cX7_takesOf 1 = .ok (.iload_n 1, 1) := by decide +kernel
theorem dX7_takesOf_2 : decode cX7_takesOf 2 = .ok (.iconst 1, 1) := by decide +kernel
theorem dX7_takesOf_3 : decode cX7_takesOf 3 = .ok (.invokevirtual 77, 3) := by decide +kernel
theorem dX7_takesOf_6 : decode cX7_takesOf 6 = .ok (.iconst 0, 1) := by decide +kernel
theorem dX7_takesOf_7 : decode cX7_takesOf 7 = .ok (.sipush 999, 3) := by decide +kernel
theorem dX7_takesOf_10 : decode cX7_takesOf 10 = .ok (.aload_n 0, 1) := by decide +kernel
theorem dX7_takesOf_11 : decode cX7_takesOf 11 = .ok (.iload_n 1, 1) := by decide +kernel
theorem dX7_takesOf_12 : decode cX7_takesOf 12 = .ok (.iconst 2, 1) := by decide +kernel
theorem dX7_takesOf_13 : decode cX7_takesOf 13 = .ok (.invokevirtual 77, 3) := by decide +kernel
theorem dX7_takesOf_16 : decode cX7_takesOf 16 = .ok (.isub, 1) := by decide +kernel
theorem dX7_takesOf_17 : decode cX7_takesOf 17 = .ok (.invokestatic 56, 3) := by decide +kernel
theorem dX7_takesOf_20 : decode cX7_takesOf 20 = .ok (.istore_n 2, 1) := by decide +kernel
theorem dX7_takesOf_21 : decode cX7_takesOf 21 = .ok (.aload_n 0, 1) := by decide +kernel
theorem dX7_takesOf_22 : decode cX7_takesOf 22 = .ok (.aload_n 0, 1) := by decide +kernel
theorem dX7_takesOf_23 : decode cX7_takesOf 23 = .ok (.iload_n 1, 1) := by decide +kernel
theorem dX7_takesOf_24 : decode cX7_takesOf 24 = .ok (.iconst 0, 1) := by decide +kernel
theorem dX7_takesOf_25 : decode cX7_takesOf 25 = .ok (.invokevirtual 77, 3) := by decide +kernel
theorem dX7_takesOf_28 : decode cX7_takesOf 28 = .ok (.invokevirtual 86, 3) := by decide +kernel
theorem dX7_takesOf_31 : decode cX7_takesOf 31 = .ok (.iconst 0, 1) := by decide +kernel
theorem dX7_takesOf_32 : decode cX7_takesOf 32 = .ok (.iload_n 2, 1) := by decide +kernel
theorem dX7_takesOf_33 : decode cX7_takesOf 33 = .ok (.invokestatic 56, 3) := by decide +kernel
theorem dX7_takesOf_36 : decode cX7_takesOf 36 = .ok (.ireturn, 1) := by decide +kernel
theorem dX7_told_0 : decode cX7_told 0 = .ok (.aload_n 0, 1) := by decide +kernel
theorem dX7_told_1 : decode cX7_told 1 = .ok (.iload_n 1, 1) := by decide +kernel
theorem dX7_told_2 : decode cX7_told 2 = .ok (.invokevirtual 117, 3) := by decide +kernel
theorem dX7_told_5 : decode cX7_told 5 = .ok (.ifCond .eq 13, 3) := by decide +kernel
theorem dX7_told_8 : decode cX7_told 8 = .ok (.iload_n 2, 1) := by decide +kernel
theorem dX7_told_9 : decode cX7_told 9 = .ok (.i2l, 1) := by decide +kernel
theorem dX7_told_10 : decode cX7_told 10 = .ok (.iconst 0, 1) := by decide +kernel
theorem dX7_told_11 : decode cX7_told 11 = .ok (.iconst 4, 1) := by decide +kernel
theorem dX7_told_12 : decode cX7_told 12 = .ok (.invokestatic 48, 3) := by decide +kernel
theorem dX7_told_15 : decode cX7_told 15 = .ok (.ifCond .ne 10, 3) := by decide +kernel
theorem dX7_told_18 : decode cX7_told 18 = .ok (.aload_n 0, 1) := by decide +kernel
theorem dX7_told_19 : decode cX7_told 19 = .ok (.ldc 42, 2) := by decide +kernel
theorem dX7_told_21 : decode cX7_told 21 = .ok (.invokevirtual 44, 3) := by decide +kernel
theorem dX7_told_24 : decode cX7_told 24 = .ok (.ireturn, 1) := by decide +kernel
theorem dX7_told_25 : decode cX7_told 25 = .ok (.iload_n 2, 1) := by decide +kernel
theorem dX7_told_26 : decode cX7_told 26 = .ok (.iconst 4, 1) := by decide +kernel
theorem dX7_told_27 : decode cX7_told 27 = .ok (.if_icmp .ge 12, 3) := by decide +kernel
theorem dX7_told_30 : decode cX7_told 30 = .ok (.aload_n 0, 1) := by decide +kernel
theorem dX7_told_31 : decode cX7_told 31 = .ok (.iload_n 1, 1) := by decide +kernel
theorem dX7_told_32 : decode cX7_told 32 = .ok (.iload_n 2, 1) := by decide +kernel
theorem dX7_told_33 : decode cX7_told 33 = .ok (.invokevirtual 77, 3) := by decide +kernel
theorem dX7_told_36 : decode cX7_told 36 = .ok (.goto 8, 3) := by decide +kernel
theorem dX7_told_39 : decode cX7_told 39 = .ok (.aload_n 0, 1) := by decide +kernel
theorem dX7_told_40 : decode cX7_told 40 = .ok (.iload_n 1, 1) := by decide +kernel
theorem dX7_told_41 : decode cX7_told 41 = .ok (.invokevirtual 120, 3) := by decide +kernel
theorem dX7_told_44 : decode cX7_told 44 = .ok (.ireturn, 1) := by decide +kernel
theorem dX7_fit_0 : decode cX7_fit 0 = .ok (.aload_n 0, 1) := by decide +kernel
theorem dX7_fit_1 : decode cX7_fit 1 = .ok (.iload_n 1, 1) := by decide +kernel
theorem dX7_fit_2 : decode cX7_fit 2 = .ok (.invokevirtual 117, 3) := by decide +kernel
theorem dX7_fit_5 : decode cX7_fit 5 = .ok (.ifCond .eq 34, 3) := by decide +kernel
theorem dX7_fit_8 : decode cX7_fit 8 = .ok (.iload_n 2, 1) := by decide +kernel
theorem dX7_fit_9 : decode cX7_fit 9 = .ok (.ifCond .ne 10, 3) := by decide +kernel
theorem dX7_fit_12 : decode cX7_fit 12 = .ok (.iload_n 3, 1) := by decide +kernel
theorem dX7_fit_13 : decode cX7_fit 13 = .ok (.invokestatic 83, 3) := by decide +kernel
theorem dX7_fit_16 : decode cX7_fit 16 = .ok (.ifCond .ne 19, 3) := by decide +kernel
theorem dX7_fit_19 : decode cX7_fit 19 = .ok (.iload_n 2, 1) := by decide +kernel
theorem dX7_fit_20 : decode cX7_fit 20 = .ok (.iconst 1, 1) := by decide +kernel
theorem dX7_fit_21 : decode cX7_fit 21 = .ok (.if_icmp .ne 18, 3) := by decide +kernel
theorem dX7_fit_24 : decode cX7_fit 24 = .ok (.iload_n 3, 1) := by decide +kernel
theorem dX7_fit_25 : decode cX7_fit 25 = .ok (.i2l, 1) := by decide +kernel
theorem dX7_fit_26 : decode cX7_fit 26 = .ok (.iconst 0, 1) := by decide +kernel
theorem dX7_fit_27 : decode cX7_fit 27 = .ok (.bipush 99, 2) := by decide +kernel
theorem dX7_fit_29 : decode cX7_fit 29 = .ok (.invokestatic 48, 3) := by decide +kernel
theorem dX7_fit_32 : decode cX7_fit 32 = .ok (.ifCond .eq 7, 3) := by decide +kernel
theorem dX7_fit_35 : decode cX7_fit 35 = .ok (.iconst 1, 1) := by decide +kernel
theorem dX7_fit_36 : decode cX7_fit 36 = .ok (.goto 4, 3) := by decide +kernel
theorem dX7_fit_39 : decode cX7_fit 39 = .ok (.iconst 0, 1) := by decide +kernel
theorem dX7_fit_40 : decode cX7_fit 40 = .ok (.istore 4, 2) := by decide +kernel
theorem dX7_fit_42 : decode cX7_fit 42 = .ok (.iload 4, 2) := by decide +kernel
theorem dX7_fit_44 : decode cX7_fit 44 = .ok (.ifCond .eq 19, 3) := by decide +kernel
theorem dX7_fit_47 : decode cX7_fit 47 = .ok (.aload_n 0, 1) := by decide +kernel
theorem dX7_fit_48 : decode cX7_fit 48 = .ok (.bipush 45, 2) := by decide +kernel
theorem dX7_fit_50 : decode cX7_fit 50 = .ok (.iconst 4, 1) := by decide +kernel
theorem dX7_fit_51 : decode cX7_fit 51 = .ok (.iload_n 1, 1) := by decide +kernel
theorem dX7_fit_52 : decode cX7_fit 52 = .ok (.imul, 1) := by decide +kernel
theorem dX7_fit_53 : decode cX7_fit 53 = .ok (.iadd, 1) := by decide +kernel
theorem dX7_fit_54 : decode cX7_fit 54 = .ok (.iload_n 2, 1) := by decide +kernel
theorem dX7_fit_55 : decode cX7_fit 55 = .ok (.iadd, 1) := by decide +kernel
theorem dX7_fit_56 : decode cX7_fit 56 = .ok (.iload_n 3, 1) := by decide +kernel
theorem dX7_fit_57 : decode cX7_fit 57 = .ok (.invokevirtual 80, 3) := by decide +kernel
theorem dX7_fit_60 : decode cX7_fit 60 = .ok (.goto 9, 3) := by decide +kernel
theorem dX7_fit_63 : decode cX7_fit 63 = .ok (.aload_n 0, 1) := by decide +kernel
theorem dX7_fit_64 : decode cX7_fit 64 = .ok (.ldc 42, 2) := by decide +kernel
theorem dX7_fit_66 : decode cX7_fit 66 = .ok (.invokevirtual 44, 3) := by decide +kernel
theorem dX7_fit_69 : decode cX7_fit 69 = .ok (.ireturn, 1) := by decide +kernel
theorem dX7_pays_0 : decode cX7_pays 0 = .ok (.aload_n 0, 1) := by decide +kernel
theorem dX7_pays_1 : decode cX7_pays 1 = .ok (.iload_n 1, 1) := by decide +kernel
theorem dX7_pays_2 : decode cX7_pays 2 = .ok (.iconst 3, 1) := by decide +kernel
theorem dX7_pays_3 : decode cX7_pays 3 = .ok (.aload_n 0, 1) := by decide +kernel
theorem dX7_pays_4 : decode cX7_pays 4 = .ok (.iload_n 1, 1) := by decide +kernel
theorem dX7_pays_5 : decode cX7_pays 5 = .ok (.iconst 3, 1) := by decide +kernel
theorem dX7_pays_6 : decode cX7_pays 6 = .ok (.invokevirtual 77, 3) := by decide +kernel
theorem dX7_pays_9 : decode cX7_pays 9 = .ok (.iload_n 2, 1) := by decide +kernel
theorem dX7_pays_10 : decode cX7_pays 10 = .ok (.iadd, 1) := by decide +kernel
theorem dX7_pays_11 : decode cX7_pays 11 = .ok (.ldc 123, 2) := by decide +kernel
theorem dX7_pays_13 : decode cX7_pays 13 = .ok (.ldc 124, 2) := by decide +kernel
theorem dX7_pays_15 : decode cX7_pays 15 = .ok (.invokestatic 56, 3) := by decide +kernel
theorem dX7_pays_18 : decode cX7_pays 18 = .ok (.invokevirtual 110, 3) := by decide +kernel
theorem dX7_pays_21 : decode cX7_pays 21 = .ok (.return_, 1) := by decide +kernel
theorem dX7_takes_0 : decode cX7_takes 0 = .ok (.aload_n 0, 1) := by decide +kernel
theorem dX7_takes_1 : decode cX7_takes 1 = .ok (.iload_n 1, 1) := by decide +kernel
theorem dX7_takes_2 : decode cX7_takes 2 = .ok (.invokevirtual 120, 3) := by decide +kernel
theorem dX7_takes_5 : decode cX7_takes 5 = .ok (.istore_n 2, 1) := by decide +kernel
theorem dX7_takes_6 : decode cX7_takes 6 = .ok (.iload_n 2, 1) := by decide +kernel
theorem dX7_takes_7 : decode cX7_takes 7 = .ok (.ifCond .ne 4, 3) := by decide +kernel
theorem dX7_takes_10 : decode cX7_takes 10 = .ok (.return_, 1) := by decide +kernel
theorem dX7_takes_11 : decode cX7_takes 11 = .ok (.aload_n 0, 1) := by decide +kernel
theorem dX7_takes_12 : decode cX7_takes 12 = .ok (.iload_n 1, 1) := by decide +kernel
theorem dX7_takes_13 : decode cX7_takes 13 = .ok (.iconst 0, 1) := by decide +kernel
theorem dX7_takes_14 : decode cX7_takes 14 = .ok (.invokevirtual 77, 3) := by decide +kernel
theorem dX7_takes_17 : decode cX7_takes 17 = .ok (.istore_n 3, 1) := by decide +kernel
theorem dX7_takes_18 : decode cX7_takes 18 = .ok (.aload_n 0, 1) := by decide +kernel
theorem dX7_takes_19 : decode cX7_takes 19 = .ok (.iload_n 1, 1) := by decide +kernel
theorem dX7_takes_20 : decode cX7_takes 20 = .ok (.iconst 2, 1) := by decide +kernel
theorem dX7_takes_21 : decode cX7_takes 21 = .ok (.aload_n 0, 1) := by decide +kernel
theorem dX7_takes_22 : decode cX7_takes 22 = .ok (.iload_n 1, 1) := by decide +kernel
theorem dX7_takes_23 : decode cX7_takes 23 = .ok (.iconst 2, 1) := by decide +kernel
theorem dX7_takes_24 : decode cX7_takes 24 = .ok (.invokevirtual 77, 3) := by decide +kernel
theorem dX7_takes_27 : decode cX7_takes 27 = .ok (.iload_n 2, 1) := by decide +kernel
theorem dX7_takes_28 : decode cX7_takes 28 = .ok (.iadd, 1) := by decide +kernel
theorem dX7_takes_29 : decode cX7_takes 29 = .ok (.invokevirtual 110, 3) := by decide +kernel
theorem dX7_takes_32 : decode cX7_takes 32 = .ok (.aload_n 0, 1) := by decide +kernel
theorem dX7_takes_33 : decode cX7_takes 33 = .ok (.iload_n 1, 1) := by decide +kernel
theorem dX7_takes_34 : decode cX7_takes 34 = .ok (.aload_n 0, 1) := by decide +kernel
theorem dX7_takes_35 : decode cX7_takes 35 = .ok (.iload_n 3, 1) := by decide +kernel
theorem dX7_takes_36 : decode cX7_takes 36 = .ok (.invokevirtual 95, 3) := by decide +kernel
theorem dX7_takes_39 : decode cX7_takes 39 = .ok (.ineg, 1) := by decide +kernel
theorem dX7_takes_40 : decode cX7_takes 40 = .ok (.invokevirtual 125, 3) := by decide +kernel
theorem dX7_takes_43 : decode cX7_takes 43 = .ok (.iconst 0, 1) := by decide +kernel
theorem dX7_takes_44 : decode cX7_takes 44 = .ok (.istore 4, 2) := by decide +kernel
theorem dX7_takes_46 : decode cX7_takes 46 = .ok (.iload 4, 2) := by decide +kernel
theorem dX7_takes_48 : decode cX7_takes 48 = .ok (.aload_n 0, 1) := by decide +kernel
theorem dX7_takes_49 : decode cX7_takes 49 = .ok (.getfield 9, 3) := by decide +kernel
theorem dX7_takes_52 : decode cX7_takes 52 = .ok (.iconst 3, 1) := by decide +kernel
theorem dX7_takes_53 : decode cX7_takes 53 = .ok (.iaload, 1) := by decide +kernel
theorem dX7_takes_54 : decode cX7_takes 54 = .ok (.if_icmp .ge 47, 3) := by decide +kernel
theorem dX7_takes_57 : decode cX7_takes 57 = .ok (.aload_n 0, 1) := by decide +kernel
theorem dX7_takes_58 : decode cX7_takes 58 = .ok (.iload 4, 2) := by decide +kernel
theorem dX7_takes_60 : decode cX7_takes 60 = .ok (.iload_n 3, 1) := by decide +kernel
theorem dX7_takes_61 : decode cX7_takes 61 = .ok (.invokevirtual 63, 3) := by decide +kernel
theorem dX7_takes_64 : decode cX7_takes 64 = .ok (.ifCond .eq 31, 3) := by decide +kernel
theorem dX7_takes_67 : decode cX7_takes 67 = .ok (.aload_n 0, 1) := by decide +kernel
theorem dX7_takes_68 : decode cX7_takes 68 = .ok (.getfield 9, 3) := by decide +kernel
theorem dX7_takes_71 : decode cX7_takes 71 = .ok (.iconst 5, 1) := by decide +kernel
theorem dX7_takes_72 : decode cX7_takes 72 = .ok (.iconst 5, 1) := by decide +kernel
theorem dX7_takes_73 : decode cX7_takes 73 = .ok (.iload 4, 2) := by decide +kernel
theorem dX7_takes_75 : decode cX7_takes 75 = .ok (.imul, 1) := by decide +kernel
theorem dX7_takes_76 : decode cX7_takes 76 = .ok (.iadd, 1) := by decide +kernel
theorem dX7_takes_77 : decode cX7_takes 77 = .ok (.iconst 3, 1) := by decide +kernel
theorem dX7_takes_78 : decode cX7_takes 78 = .ok (.iadd, 1) := by decide +kernel
theorem dX7_takes_79 : decode cX7_takes 79 = .ok (.aload_n 0, 1) := by decide +kernel
theorem dX7_takes_80 : decode cX7_takes 80 = .ok (.iload 4, 2) := by decide +kernel
theorem dX7_takes_82 : decode cX7_takes 82 = .ok (.iconst 3, 1) := by decide +kernel
theorem dX7_takes_83 : decode cX7_takes 83 = .ok (.invokevirtual 52, 3) := by decide +kernel
theorem dX7_takes_86 : decode cX7_takes 86 = .ok (.iconst 1, 1) := by decide +kernel
theorem dX7_takes_87 : decode cX7_takes 87 = .ok (.isub, 1) := by decide +kernel
theorem dX7_takes_88 : decode cX7_takes 88 = .ok (.iconst 0, 1) := by decide +kernel
theorem dX7_takes_89 : decode cX7_takes 89 = .ok (.bipush 99, 2) := by decide +kernel
theorem dX7_takes_91 : decode cX7_takes 91 = .ok (.invokestatic 56, 3) := by decide +kernel
theorem dX7_takes_94 : decode cX7_takes 94 = .ok (.iastore, 1) := by decide +kernel
theorem dX7_takes_95 : decode cX7_takes 95 = .ok (.iinc 4 1, 3) := by decide +kernel
theorem dX7_takes_98 : decode cX7_takes 98 = .ok (.goto (-52), 3) := by decide +kernel
theorem dX7_takes_101 : decode cX7_takes 101 = .ok (.return_, 1) := by decide +kernel
theorem dX7_hour_0 : decode cX7_hour 0 = .ok (.iconst 0, 1) := by decide +kernel
theorem dX7_hour_1 : decode cX7_hour 1 = .ok (.istore_n 1, 1) := by decide +kernel
theorem dX7_hour_2 : decode cX7_hour 2 = .ok (.iload_n 1, 1) := by decide +kernel
theorem dX7_hour_3 : decode cX7_hour 3 = .ok (.aload_n 0, 1) := by decide +kernel
theorem dX7_hour_4 : decode cX7_hour 4 = .ok (.getfield 9, 3) := by decide +kernel
theorem dX7_hour_7 : decode cX7_hour 7 = .ok (.iconst 4, 1) := by decide +kernel
theorem dX7_hour_8 : decode cX7_hour 8 = .ok (.iaload, 1) := by decide +kernel
theorem dX7_hour_9 : decode cX7_hour 9 = .ok (.if_icmp .ge 14, 3) := by decide +kernel
theorem dX7_hour_12 : decode cX7_hour 12 = .ok (.aload_n 0, 1) := by decide +kernel
theorem dX7_hour_13 : decode cX7_hour 13 = .ok (.iload_n 1, 1) := by decide +kernel
theorem dX7_hour_14 : decode cX7_hour 14 = .ok (.invokevirtual 129, 3) := by decide +kernel
theorem dX7_hour_17 : decode cX7_hour 17 = .ok (.iinc 1 1, 3) := by decide +kernel
theorem dX7_hour_20 : decode cX7_hour 20 = .ok (.goto (-18), 3) := by decide +kernel
theorem dX7_hour_23 : decode cX7_hour 23 = .ok (.iconst 0, 1) := by decide +kernel
theorem dX7_hour_24 : decode cX7_hour 24 = .ok (.istore_n 1, 1) := by decide +kernel
theorem dX7_hour_25 : decode cX7_hour 25 = .ok (.iload_n 1, 1) := by decide +kernel
theorem dX7_hour_26 : decode cX7_hour 26 = .ok (.aload_n 0, 1) := by decide +kernel
theorem dX7_hour_27 : decode cX7_hour 27 = .ok (.getfield 9, 3) := by decide +kernel
theorem dX7_hour_30 : decode cX7_hour 30 = .ok (.iconst 4, 1) := by decide +kernel
theorem dX7_hour_31 : decode cX7_hour 31 = .ok (.iaload, 1) := by decide +kernel
theorem dX7_hour_32 : decode cX7_hour 32 = .ok (.if_icmp .ge 41, 3) := by decide +kernel
theorem dX7_hour_35 : decode cX7_hour 35 = .ok (.aload_n 0, 1) := by decide +kernel
theorem dX7_hour_36 : decode cX7_hour 36 = .ok (.getfield 9, 3) := by decide +kernel
theorem dX7_hour_39 : decode cX7_hour 39 = .ok (.iconst 0, 1) := by decide +kernel
theorem dX7_hour_40 : decode cX7_hour 40 = .ok (.iaload, 1) := by decide +kernel
theorem dX7_hour_41 : decode cX7_hour 41 = .ok (.bipush 24, 2) := by decide +kernel
theorem dX7_hour_43 : decode cX7_hour 43 = .ok (.irem, 1) := by decide +kernel
theorem dX7_hour_44 : decode cX7_hour 44 = .ok (.bipush 20, 2) := by decide +kernel
theorem dX7_hour_46 : decode cX7_hour 46 = .ok (.if_icmp .ne 27, 3) := by decide +kernel
theorem dX7_hour_49 : decode cX7_hour 49 = .ok (.aload_n 0, 1) := by decide +kernel
theorem dX7_hour_50 : decode cX7_hour 50 = .ok (.iload_n 1, 1) := by decide +kernel
theorem dX7_hour_51 : decode cX7_hour 51 = .ok (.aload_n 0, 1) := by decide +kernel
theorem dX7_hour_52 : decode cX7_hour 52 = .ok (.iload_n 1, 1) := by decide +kernel
theorem dX7_hour_53 : decode cX7_hour 53 = .ok (.iconst 2, 1) := by decide +kernel
theorem dX7_hour_54 : decode cX7_hour 54 = .ok (.invokevirtual 77, 3) := by decide +kernel
theorem dX7_hour_57 : decode cX7_hour 57 = .ok (.invokevirtual 125, 3) := by decide +kernel
theorem dX7_hour_60 : decode cX7_hour 60 = .ok (.aload_n 0, 1) := by decide +kernel
theorem dX7_hour_61 : decode cX7_hour 61 = .ok (.iload_n 1, 1) := by decide +kernel
theorem dX7_hour_62 : decode cX7_hour 62 = .ok (.iconst 2, 1) := by decide +kernel
theorem dX7_hour_63 : decode cX7_hour 63 = .ok (.iconst 0, 1) := by decide +kernel
theorem dX7_hour_64 : decode cX7_hour 64 = .ok (.invokevirtual 110, 3) := by decide +kernel
theorem dX7_hour_67 : decode cX7_hour 67 = .ok (.iinc 1 1, 3) := by decide +kernel
theorem dX7_hour_70 : decode cX7_hour 70 = .ok (.goto (-45), 3) := by decide +kernel
theorem dX7_hour_73 : decode cX7_hour 73 = .ok (.iconst 0, 1) := by decide +kernel
theorem dX7_hour_74 : decode cX7_hour 74 = .ok (.istore_n 1, 1) := by decide +kernel
theorem dX7_hour_75 : decode cX7_hour 75 = .ok (.iload_n 1, 1) := by decide +kernel
theorem dX7_hour_76 : decode cX7_hour 76 = .ok (.aload_n 0, 1) := by decide +kernel
theorem dX7_hour_77 : decode cX7_hour 77 = .ok (.getfield 9, 3) := by decide +kernel
theorem dX7_hour_80 : decode cX7_hour 80 = .ok (.iconst 3, 1) := by decide +kernel
theorem dX7_hour_81 : decode cX7_hour 81 = .ok (.iaload, 1) := by decide +kernel
theorem dX7_hour_82 : decode cX7_hour 82 = .ok (.if_icmp .ge 47, 3) := by decide +kernel
theorem dX7_hour_85 : decode cX7_hour 85 = .ok (.aload_n 0, 1) := by decide +kernel
theorem dX7_hour_86 : decode cX7_hour 86 = .ok (.getfield 9, 3) := by decide +kernel
theorem dX7_hour_89 : decode cX7_hour 89 = .ok (.iconst 0, 1) := by decide +kernel
theorem dX7_hour_90 : decode cX7_hour 90 = .ok (.iaload, 1) := by decide +kernel
theorem dX7_hour_91 : decode cX7_hour 91 = .ok (.iconst 4, 1) := by decide +kernel
theorem dX7_hour_92 : decode cX7_hour 92 = .ok (.irem, 1) := by decide +kernel
theorem dX7_hour_93 : decode cX7_hour 93 = .ok (.iconst 3, 1) := by decide +kernel
theorem dX7_hour_94 : decode cX7_hour 94 = .ok (.if_icmp .ne 35, 3) := by decide +kernel
theorem dX7_hour_97 : decode cX7_hour 97 = .ok (.aload_n 0, 1) := by decide +kernel
theorem dX7_hour_98 : decode cX7_hour 98 = .ok (.getfield 9, 3) := by decide +kernel
theorem dX7_hour_101 : decode cX7_hour 101 = .ok (.iconst 5, 1) := by decide +kernel
theorem dX7_hour_102 : decode cX7_hour 102 = .ok (.iconst 5, 1) := by decide +kernel
theorem dX7_hour_103 : decode cX7_hour 103 = .ok (.iload_n 1, 1) := by decide +kernel
theorem dX7_hour_104 : decode cX7_hour 104 = .ok (.imul, 1) := by decide +kernel
theorem dX7_hour_105 : decode cX7_hour 105 = .ok (.iadd, 1) := by decide +kernel
theorem dX7_hour_106 : decode cX7_hour 106 = .ok (.iconst 3, 1) := by decide +kernel
theorem dX7_hour_107 : decode cX7_hour 107 = .ok (.iadd, 1) := by decide +kernel
theorem dX7_hour_108 : decode cX7_hour 108 = .ok (.aload_n 0, 1) := by decide +kernel
theorem dX7_hour_109 : decode cX7_hour 109 = .ok (.iload_n 1, 1) := by decide +kernel
theorem dX7_hour_110 : decode cX7_hour 110 = .ok (.iconst 3, 1) := by decide +kernel
theorem dX7_hour_111 : decode cX7_hour 111 = .ok (.invokevirtual 52, 3) := by decide +kernel
theorem dX7_hour_114 : decode cX7_hour 114 = .ok (.iconst 1, 1) := by decide +kernel
theorem dX7_hour_115 : decode cX7_hour 115 = .ok (.iadd, 1) := by decide +kernel
theorem dX7_hour_116 : decode cX7_hour 116 = .ok (.iconst 0, 1) := by decide +kernel
theorem dX7_hour_117 : decode cX7_hour 117 = .ok (.bipush 99, 2) := by decide +kernel
theorem dX7_hour_119 : decode cX7_hour 119 = .ok (.invokestatic 56, 3) := by decide +kernel
theorem dX7_hour_122 : decode cX7_hour 122 = .ok (.iastore, 1) := by decide +kernel
theorem dX7_hour_123 : decode cX7_hour 123 = .ok (.iinc 1 1, 3) := by decide +kernel
theorem dX7_hour_126 : decode cX7_hour 126 = .ok (.goto (-51), 3) := by decide +kernel
theorem dX7_hour_129 : decode cX7_hour 129 = .ok (.aload_n 0, 1) := by decide +kernel
theorem dX7_hour_130 : decode cX7_hour 130 = .ok (.getfield 9, 3) := by decide +kernel
theorem dX7_hour_133 : decode cX7_hour 133 = .ok (.iconst 0, 1) := by decide +kernel
theorem dX7_hour_134 : decode cX7_hour 134 = .ok (.dup2, 1) := by decide +kernel
theorem dX7_hour_135 : decode cX7_hour 135 = .ok (.iaload, 1) := by decide +kernel
theorem dX7_hour_136 : decode cX7_hour 136 = .ok (.iconst 1, 1) := by decide +kernel
theorem dX7_hour_137 : decode cX7_hour 137 = .ok (.iadd, 1) := by decide +kernel
theorem dX7_hour_138 : decode cX7_hour 138 = .ok (.iastore, 1) := by decide +kernel
theorem dX7_hour_139 : decode cX7_hour 139 = .ok (.return_, 1) := by decide +kernel
theorem dX7_goesOn_0 : decode cX7_goesOn 0 = .ok (.iconst 0, 1) := by decide +kernel
theorem dX7_goesOn_1 : decode cX7_goesOn 1 = .ok (.istore_n 2, 1) := by decide +kernel
theorem dX7_goesOn_2 : decode cX7_goesOn 2 = .ok (.iload_n 2, 1) := by decide +kernel
theorem dX7_goesOn_3 : decode cX7_goesOn 3 = .ok (.iload_n 1, 1) := by decide +kernel
theorem dX7_goesOn_4 : decode cX7_goesOn 4 = .ok (.if_icmp .ge 13, 3) := by decide +kernel
theorem dX7_goesOn_7 : decode cX7_goesOn 7 = .ok (.aload_n 0, 1) := by decide +kernel
theorem dX7_goesOn_8 : decode cX7_goesOn 8 = .ok (.invokevirtual 133, 3) := by decide +kernel
theorem dX7_goesOn_11 : decode cX7_goesOn 11 = .ok (.iinc 2 1, 3) := by decide +kernel
theorem dX7_goesOn_14 : decode cX7_goesOn 14 = .ok (.goto (-12), 3) := by decide +kernel
theorem dX7_goesOn_17 : decode cX7_goesOn 17 = .ok (.return_, 1) := by decide +kernel
theorem dX7_sumOf_0 : decode cX7_sumOf 0 = .ok (.iconst 0, 1) := by decide +kernel
theorem dX7_sumOf_1 : decode cX7_sumOf 1 = .ok (.istore_n 2, 1) := by decide +kernel
theorem dX7_sumOf_2 : decode cX7_sumOf 2 = .ok (.iconst 0, 1) := by decide +kernel
theorem dX7_sumOf_3 : decode cX7_sumOf 3 = .ok (.istore_n 3, 1) := by decide +kernel
theorem dX7_sumOf_4 : decode cX7_sumOf 4 = .ok (.iload_n 3, 1) := by decide +kernel
theorem dX7_sumOf_5 : decode cX7_sumOf 5 = .ok (.aload_n 0, 1) := by decide +kernel
theorem dX7_sumOf_6 : decode cX7_sumOf 6 = .ok (.getfield 9, 3) := by decide +kernel
theorem dX7_sumOf_9 : decode cX7_sumOf 9 = .ok (.iconst 4, 1) := by decide +kernel
theorem dX7_sumOf_10 : decode cX7_sumOf 10 = .ok (.iaload, 1) := by decide +kernel
theorem dX7_sumOf_11 : decode cX7_sumOf 11 = .ok (.if_icmp .ge 18, 3) := by decide +kernel
theorem dX7_sumOf_14 : decode cX7_sumOf 14 = .ok (.iload_n 2, 1) := by decide +kernel
theorem dX7_sumOf_15 : decode cX7_sumOf 15 = .ok (.aload_n 0, 1) := by decide +kernel
theorem dX7_sumOf_16 : decode cX7_sumOf 16 = .ok (.iload_n 3, 1) := by decide +kernel
theorem dX7_sumOf_17 : decode cX7_sumOf 17 = .ok (.iload_n 1, 1) := by decide +kernel
theorem dX7_sumOf_18 : decode cX7_sumOf 18 = .ok (.invokevirtual 77, 3) := by decide +kernel
theorem dX7_sumOf_21 : decode cX7_sumOf 21 = .ok (.iadd, 1) := by decide +kernel
theorem dX7_sumOf_22 : decode cX7_sumOf 22 = .ok (.istore_n 2, 1) := by decide +kernel
theorem dX7_sumOf_23 : decode cX7_sumOf 23 = .ok (.iinc 3 1, 3) := by decide +kernel
theorem dX7_sumOf_26 : decode cX7_sumOf 26 = .ok (.goto (-22), 3) := by decide +kernel
theorem dX7_sumOf_29 : decode cX7_sumOf 29 = .ok (.iload_n 2, 1) := by decide +kernel
theorem dX7_sumOf_30 : decode cX7_sumOf 30 = .ok (.ireturn, 1) := by decide +kernel
theorem dX7_hours_0 : decode cX7_hours 0 = .ok (.iload_n 1, 1) := by decide +kernel
theorem dX7_hours_1 : decode cX7_hours 1 = .ok (.i2l, 1) := by decide +kernel
theorem dX7_hours_2 : decode cX7_hours 2 = .ok (.iconst 1, 1) := by decide +kernel
theorem dX7_hours_3 : decode cX7_hours 3 = .ok (.bipush 60, 2) := by decide +kernel
theorem dX7_hours_5 : decode cX7_hours 5 = .ok (.invokestatic 48, 3) := by decide +kernel
theorem dX7_hours_8 : decode cX7_hours 8 = .ok (.ifCond .ne 10, 3) := by decide +kernel
theorem dX7_hours_11 : decode cX7_hours 11 = .ok (.aload_n 0, 1) := by decide +kernel
theorem dX7_hours_12 : decode cX7_hours 12 = .ok (.ldc 42, 2) := by decide +kernel
theorem dX7_hours_14 : decode cX7_hours 14 = .ok (.invokevirtual 44, 3) := by decide +kernel
theorem dX7_hours_17 : decode cX7_hours 17 = .ok (.ireturn, 1) := by decide +kernel
theorem dX7_hours_18 : decode cX7_hours 18 = .ok (.aload_n 0, 1) := by decide +kernel
theorem dX7_hours_19 : decode cX7_hours 19 = .ok (.getfield 9, 3) := by decide +kernel
theorem dX7_hours_22 : decode cX7_hours 22 = .ok (.iconst 0, 1) := by decide +kernel
theorem dX7_hours_23 : decode cX7_hours 23 = .ok (.iaload, 1) := by decide +kernel
theorem dX7_hours_24 : decode cX7_hours 24 = .ok (.iload_n 1, 1) := by decide +kernel
theorem dX7_hours_25 : decode cX7_hours 25 = .ok (.iadd, 1) := by decide +kernel
theorem dX7_hours_26 : decode cX7_hours 26 = .ok (.sipush 9999, 3) := by decide +kernel
theorem dX7_hours_29 : decode cX7_hours 29 = .ok (.if_icmp .le 10, 3) := by decide +kernel
theorem dX7_hours_32 : decode cX7_hours 32 = .ok (.aload_n 0, 1) := by decide +kernel
theorem dX7_hours_33 : decode cX7_hours 33 = .ok (.ldc 136, 2) := by decide +kernel
theorem dX7_hours_35 : decode cX7_hours 35 = .ok (.invokevirtual 44, 3) := by decide +kernel
theorem dX7_hours_38 : decode cX7_hours 38 = .ok (.ireturn, 1) := by decide +kernel
theorem dX7_hours_39 : decode cX7_hours 39 = .ok (.aload_n 0, 1) := by decide +kernel
theorem dX7_hours_40 : decode cX7_hours 40 = .ok (.iload_n 1, 1) := by decide +kernel
theorem dX7_hours_41 : decode cX7_hours 41 = .ok (.invokevirtual 137, 3) := by decide +kernel
theorem dX7_hours_44 : decode cX7_hours 44 = .ok (.aload_n 0, 1) := by decide +kernel
theorem dX7_hours_45 : decode cX7_hours 45 = .ok (.iconst 3, 1) := by decide +kernel
theorem dX7_hours_46 : decode cX7_hours 46 = .ok (.invokevirtual 140, 3) := by decide +kernel
theorem dX7_hours_49 : decode cX7_hours 49 = .ok (.ireturn, 1) := by decide +kernel
theorem dX7_now_0 : decode cX7_now 0 = .ok (.iconst 0, 1) := by decide +kernel
theorem dX7_now_1 : decode cX7_now 1 = .ok (.istore_n 2, 1) := by decide +kernel
theorem dX7_now_2 : decode cX7_now 2 = .ok (.iload_n 1, 1) := by decide +kernel
theorem dX7_now_3 : decode cX7_now 3 = .ok (.tableswitch 164 0 6 #[41, 48, 58, 65, 72, 101, 125], 41) := by decide +kernel
theorem dX7_now_44 : decode cX7_now 44 = .ok (.aload_n 0, 1) := by decide +kernel
theorem dX7_now_45 : decode cX7_now 45 = .ok (.getfield 9, 3) := by decide +kernel
theorem dX7_now_48 : decode cX7_now 48 = .ok (.iconst 0, 1) := by decide +kernel
theorem dX7_now_49 : decode cX7_now 49 = .ok (.iaload, 1) := by decide +kernel
theorem dX7_now_50 : decode cX7_now 50 = .ok (.ireturn, 1) := by decide +kernel
theorem dX7_now_51 : decode cX7_now 51 = .ok (.aload_n 0, 1) := by decide +kernel
theorem dX7_now_52 : decode cX7_now 52 = .ok (.getfield 9, 3) := by decide +kernel
theorem dX7_now_55 : decode cX7_now 55 = .ok (.iconst 0, 1) := by decide +kernel
theorem dX7_now_56 : decode cX7_now 56 = .ok (.iaload, 1) := by decide +kernel
theorem dX7_now_57 : decode cX7_now 57 = .ok (.bipush 24, 2) := by decide +kernel
theorem dX7_now_59 : decode cX7_now 59 = .ok (.irem, 1) := by decide +kernel
theorem dX7_now_60 : decode cX7_now 60 = .ok (.ireturn, 1) := by decide +kernel
theorem dX7_now_61 : decode cX7_now 61 = .ok (.aload_n 0, 1) := by decide +kernel
theorem dX7_now_62 : decode cX7_now 62 = .ok (.getfield 9, 3) := by decide +kernel
theorem dX7_now_65 : decode cX7_now 65 = .ok (.iconst 1, 1) := by decide +kernel
theorem dX7_now_66 : decode cX7_now 66 = .ok (.iaload, 1) := by decide +kernel
theorem dX7_now_67 : decode cX7_now 67 = .ok (.ireturn, 1) := by decide +kernel
theorem dX7_now_68 : decode cX7_now 68 = .ok (.aload_n 0, 1) := by decide +kernel
theorem dX7_now_69 : decode cX7_now 69 = .ok (.getfield 9, 3) := by decide +kernel
theorem dX7_now_72 : decode cX7_now 72 = .ok (.iconst 2, 1) := by decide +kernel
theorem dX7_now_73 : decode cX7_now 73 = .ok (.iaload, 1) := by decide +kernel
theorem dX7_now_74 : decode cX7_now 74 = .ok (.ireturn, 1) := by decide +kernel
theorem dX7_now_75 : decode cX7_now 75 = .ok (.iconst 0, 1) := by decide +kernel
theorem dX7_now_76 : decode cX7_now 76 = .ok (.istore_n 3, 1) := by decide +kernel
theorem dX7_now_77 : decode cX7_now 77 = .ok (.iload_n 3, 1) := by decide +kernel
theorem dX7_now_78 : decode cX7_now 78 = .ok (.aload_n 0, 1) := by decide +kernel
theorem dX7_now_79 : decode cX7_now 79 = .ok (.getfield 9, 3) := by decide +kernel
theorem dX7_now_82 : decode cX7_now 82 = .ok (.iconst 3, 1) := by decide +kernel
theorem dX7_now_83 : decode cX7_now 83 = .ok (.iaload, 1) := by decide +kernel
theorem dX7_now_84 : decode cX7_now 84 = .ok (.if_icmp .ge 18, 3) := by decide +kernel
theorem dX7_now_87 : decode cX7_now 87 = .ok (.iload_n 2, 1) := by decide +kernel
theorem dX7_now_88 : decode cX7_now 88 = .ok (.aload_n 0, 1) := by decide +kernel
theorem dX7_now_89 : decode cX7_now 89 = .ok (.iload_n 3, 1) := by decide +kernel
theorem dX7_now_90 : decode cX7_now 90 = .ok (.iconst 3, 1) := by decide +kernel
theorem dX7_now_91 : decode cX7_now 91 = .ok (.invokevirtual 52, 3) := by decide +kernel
theorem dX7_now_94 : decode cX7_now 94 = .ok (.iadd, 1) := by decide +kernel
theorem dX7_now_95 : decode cX7_now 95 = .ok (.istore_n 2, 1) := by decide +kernel
theorem dX7_now_96 : decode cX7_now 96 = .ok (.iinc 3 1, 3) := by decide +kernel
theorem dX7_now_99 : decode cX7_now 99 = .ok (.goto (-22), 3) := by decide +kernel
theorem dX7_now_102 : decode cX7_now 102 = .ok (.iload_n 2, 1) := by decide +kernel
theorem dX7_now_103 : decode cX7_now 103 = .ok (.ireturn, 1) := by decide +kernel
theorem dX7_now_104 : decode cX7_now 104 = .ok (.iconst 0, 1) := by decide +kernel
theorem dX7_now_105 : decode cX7_now 105 = .ok (.istore_n 3, 1) := by decide +kernel
theorem dX7_now_106 : decode cX7_now 106 = .ok (.iload_n 3, 1) := by decide +kernel
theorem dX7_now_107 : decode cX7_now 107 = .ok (.bipush 48, 2) := by decide +kernel
theorem dX7_now_109 : decode cX7_now 109 = .ok (.if_icmp .ge 17, 3) := by decide +kernel
theorem dX7_now_112 : decode cX7_now 112 = .ok (.iload_n 2, 1) := by decide +kernel
theorem dX7_now_113 : decode cX7_now 113 = .ok (.aload_n 0, 1) := by decide +kernel
theorem dX7_now_114 : decode cX7_now 114 = .ok (.iload_n 3, 1) := by decide +kernel
theorem dX7_now_115 : decode cX7_now 115 = .ok (.invokevirtual 86, 3) := by decide +kernel
theorem dX7_now_118 : decode cX7_now 118 = .ok (.iadd, 1) := by decide +kernel
theorem dX7_now_119 : decode cX7_now 119 = .ok (.istore_n 2, 1) := by decide +kernel
theorem dX7_now_120 : decode cX7_now 120 = .ok (.iinc 3 1, 3) := by decide +kernel
theorem dX7_now_123 : decode cX7_now 123 = .ok (.goto (-17), 3) := by decide +kernel
theorem dX7_now_126 : decode cX7_now 126 = .ok (.iload_n 2, 1) := by decide +kernel
theorem dX7_now_127 : decode cX7_now 127 = .ok (.ireturn, 1) := by decide +kernel
theorem dX7_now_128 : decode cX7_now 128 = .ok (.iconst 0, 1) := by decide +kernel
theorem dX7_now_129 : decode cX7_now 129 = .ok (.istore_n 3, 1) := by decide +kernel
theorem dX7_now_130 : decode cX7_now 130 = .ok (.iload_n 3, 1) := by decide +kernel
theorem dX7_now_131 : decode cX7_now 131 = .ok (.aload_n 0, 1) := by decide +kernel
theorem dX7_now_132 : decode cX7_now 132 = .ok (.getfield 9, 3) := by decide +kernel
theorem dX7_now_135 : decode cX7_now 135 = .ok (.iconst 3, 1) := by decide +kernel
theorem dX7_now_136 : decode cX7_now 136 = .ok (.iaload, 1) := by decide +kernel
theorem dX7_now_137 : decode cX7_now 137 = .ok (.if_icmp .ge 28, 3) := by decide +kernel
theorem dX7_now_140 : decode cX7_now 140 = .ok (.iload_n 2, 1) := by decide +kernel
theorem dX7_now_141 : decode cX7_now 141 = .ok (.aload_n 0, 1) := by decide +kernel
theorem dX7_now_142 : decode cX7_now 142 = .ok (.iload_n 3, 1) := by decide +kernel
theorem dX7_now_143 : decode cX7_now 143 = .ok (.iconst 3, 1) := by decide +kernel
theorem dX7_now_144 : decode cX7_now 144 = .ok (.invokevirtual 52, 3) := by decide +kernel
theorem dX7_now_147 : decode cX7_now 147 = .ok (.ifCond .ne 9, 3) := by decide +kernel
theorem dX7_now_150 : decode cX7_now 150 = .ok (.iconst 1, 1) := by decide +kernel
theorem dX7_now_151 : decode cX7_now 151 = .ok (.iload_n 3, 1) := by decide +kernel
theorem dX7_now_152 : decode cX7_now 152 = .ok (.ishl, 1) := by decide +kernel
theorem dX7_now_153 : decode cX7_now 153 = .ok (.goto 4, 3) := by decide +kernel
theorem dX7_now_156 : decode cX7_now 156 = .ok (.iconst 0, 1) := by decide +kernel
theorem dX7_now_157 : decode cX7_now 157 = .ok (.ior, 1) := by decide +kernel
theorem dX7_now_158 : decode cX7_now 158 = .ok (.istore_n 2, 1) := by decide +kernel
theorem dX7_now_159 : decode cX7_now 159 = .ok (.iinc 3 1, 3) := by decide +kernel
theorem dX7_now_162 : decode cX7_now 162 = .ok (.goto (-32), 3) := by decide +kernel
theorem dX7_now_165 : decode cX7_now 165 = .ok (.iload_n 2, 1) := by decide +kernel
theorem dX7_now_166 : decode cX7_now 166 = .ok (.ireturn, 1) := by decide +kernel
theorem dX7_now_167 : decode cX7_now 167 = .ok (.aload_n 0, 1) := by decide +kernel
theorem dX7_now_168 : decode cX7_now 168 = .ok (.ldc 42, 2) := by decide +kernel
theorem dX7_now_170 : decode cX7_now 170 = .ok (.invokevirtual 44, 3) := by decide +kernel
theorem dX7_now_173 : decode cX7_now 173 = .ok (.ireturn, 1) := by decide +kernel
theorem dX7_thinks_0 : decode cX7_thinks 0 = .ok (.aload_n 0, 1) := by decide +kernel
theorem dX7_thinks_1 : decode cX7_thinks 1 = .ok (.getfield 9, 3) := by decide +kernel
theorem dX7_thinks_4 : decode cX7_thinks 4 = .ok (.aload_n 0, 1) := by decide +kernel
theorem dX7_thinks_5 : decode cX7_thinks 5 = .ok (.getfield 16, 3) := by decide +kernel
theorem dX7_thinks_8 : decode cX7_thinks 8 = .ok (.invokestatic 143, 3) := by decide +kernel
theorem dX7_thinks_11 : decode cX7_thinks 11 = .ok (.return_, 1) := by decide +kernel
theorem dX7_putsBack_0 : decode cX7_putsBack 0 = .ok (.aload_n 0, 1) := by decide +kernel
theorem dX7_putsBack_1 : decode cX7_putsBack 1 = .ok (.getfield 16, 3) := by decide +kernel
theorem dX7_putsBack_4 : decode cX7_putsBack 4 = .ok (.aload_n 0, 1) := by decide +kernel
theorem dX7_putsBack_5 : decode cX7_putsBack 5 = .ok (.getfield 9, 3) := by decide +kernel
theorem dX7_putsBack_8 : decode cX7_putsBack 8 = .ok (.invokestatic 143, 3) := by decide +kernel
theorem dX7_putsBack_11 : decode cX7_putsBack 11 = .ok (.return_, 1) := by decide +kernel
theorem dX7_on_0 : decode cX7_on 0 = .ok (.aload_n 0, 1) := by decide +kernel
theorem dX7_on_1 : decode cX7_on 1 = .ok (.iload_n 1, 1) := by decide +kernel
theorem dX7_on_2 : decode cX7_on 2 = .ok (.invokevirtual 117, 3) := by decide +kernel
theorem dX7_on_5 : decode cX7_on 5 = .ok (.ifCond .eq 24, 3) := by decide +kernel
theorem dX7_on_8 : decode cX7_on 8 = .ok (.iload_n 2, 1) := by decide +kernel
theorem dX7_on_9 : decode cX7_on 9 = .ok (.i2l, 1) := by decide +kernel
theorem dX7_on_10 : decode cX7_on 10 = .ok (.iconst 0, 1) := by decide +kernel
theorem dX7_on_11 : decode cX7_on 11 = .ok (.bipush 72, 2) := by decide +kernel
theorem dX7_on_13 : decode cX7_on 13 = .ok (.invokestatic 48, 3) := by decide +kernel
theorem dX7_on_16 : decode cX7_on 16 = .ok (.ifCond .eq 13, 3) := by decide +kernel
theorem dX7_on_19 : decode cX7_on 19 = .ok (.iload_n 3, 1) := by decide +kernel
theorem dX7_on_20 : decode cX7_on 20 = .ok (.i2l, 1) := by decide +kernel
theorem dX7_on_21 : decode cX7_on 21 = .ok (.iconst 0, 1) := by decide +kernel
theorem dX7_on_22 : decode cX7_on 22 = .ok (.iconst 1, 1) := by decide +kernel
theorem dX7_on_23 : decode cX7_on 23 = .ok (.invokestatic 48, 3) := by decide +kernel
theorem dX7_on_26 : decode cX7_on 26 = .ok (.ifCond .ne 10, 3) := by decide +kernel
theorem dX7_on_29 : decode cX7_on 29 = .ok (.aload_n 0, 1) := by decide +kernel
theorem dX7_on_30 : decode cX7_on 30 = .ok (.ldc 42, 2) := by decide +kernel
theorem dX7_on_32 : decode cX7_on 32 = .ok (.invokevirtual 44, 3) := by decide +kernel
theorem dX7_on_35 : decode cX7_on 35 = .ok (.ireturn, 1) := by decide +kernel
theorem dX7_on_36 : decode cX7_on 36 = .ok (.aload_n 0, 1) := by decide +kernel
theorem dX7_on_37 : decode cX7_on 37 = .ok (.invokevirtual 147, 3) := by decide +kernel
theorem dX7_on_40 : decode cX7_on 40 = .ok (.aload_n 0, 1) := by decide +kernel
theorem dX7_on_41 : decode cX7_on 41 = .ok (.iload_n 2, 1) := by decide +kernel
theorem dX7_on_42 : decode cX7_on 42 = .ok (.invokevirtual 137, 3) := by decide +kernel
theorem dX7_on_45 : decode cX7_on 45 = .ok (.aload_n 0, 1) := by decide +kernel
theorem dX7_on_46 : decode cX7_on 46 = .ok (.iload_n 1, 1) := by decide +kernel
theorem dX7_on_47 : decode cX7_on 47 = .ok (.iconst 2, 1) := by decide +kernel
theorem dX7_on_48 : decode cX7_on 48 = .ok (.iload_n 3, 1) := by decide +kernel
theorem dX7_on_49 : decode cX7_on 49 = .ok (.iadd, 1) := by decide +kernel
theorem dX7_on_50 : decode cX7_on 50 = .ok (.invokevirtual 77, 3) := by decide +kernel
theorem dX7_on_53 : decode cX7_on 53 = .ok (.istore 4, 2) := by decide +kernel
theorem dX7_on_55 : decode cX7_on 55 = .ok (.aload_n 0, 1) := by decide +kernel
theorem dX7_on_56 : decode cX7_on 56 = .ok (.invokevirtual 150, 3) := by decide +kernel
theorem dX7_on_59 : decode cX7_on 59 = .ok (.iload 4, 2) := by decide +kernel
theorem dX7_on_61 : decode cX7_on 61 = .ok (.ireturn, 1) := by decide +kernel
theorem dX7_light_0 : decode cX7_light 0 = .ok (.aload_n 0, 1) := by decide +kernel
theorem dX7_light_1 : decode cX7_light 1 = .ok (.iload_n 1, 1) := by decide +kernel
theorem dX7_light_2 : decode cX7_light 2 = .ok (.invokevirtual 106, 3) := by decide +kernel
theorem dX7_light_5 : decode cX7_light 5 = .ok (.ifCond .eq 14, 3) := by decide +kernel
theorem dX7_light_8 : decode cX7_light 8 = .ok (.iload_n 2, 1) := by decide +kernel
theorem dX7_light_9 : decode cX7_light 9 = .ok (.i2l, 1) := by decide +kernel
theorem dX7_light_10 : decode cX7_light 10 = .ok (.iconst 0, 1) := by decide +kernel
theorem dX7_light_11 : decode cX7_light 11 = .ok (.bipush 72, 2) := by decide +kernel
theorem dX7_light_13 : decode cX7_light 13 = .ok (.invokestatic 48, 3) := by decide +kernel
theorem dX7_light_16 : decode cX7_light 16 = .ok (.ifCond .ne 10, 3) := by decide +kernel
theorem dX7_light_19 : decode cX7_light 19 = .ok (.aload_n 0, 1) := by decide +kernel
theorem dX7_light_20 : decode cX7_light 20 = .ok (.ldc 42, 2) := by decide +kernel
theorem dX7_light_22 : decode cX7_light 22 = .ok (.invokevirtual 44, 3) := by decide +kernel
theorem dX7_light_25 : decode cX7_light 25 = .ok (.ireturn, 1) := by decide +kernel
theorem dX7_light_26 : decode cX7_light 26 = .ok (.aload_n 0, 1) := by decide +kernel
theorem dX7_light_27 : decode cX7_light 27 = .ok (.invokevirtual 147, 3) := by decide +kernel
theorem dX7_light_30 : decode cX7_light 30 = .ok (.aload_n 0, 1) := by decide +kernel
theorem dX7_light_31 : decode cX7_light 31 = .ok (.iload_n 2, 1) := by decide +kernel
theorem dX7_light_32 : decode cX7_light 32 = .ok (.invokevirtual 137, 3) := by decide +kernel
theorem dX7_light_35 : decode cX7_light 35 = .ok (.aload_n 0, 1) := by decide +kernel
theorem dX7_light_36 : decode cX7_light 36 = .ok (.iload_n 1, 1) := by decide +kernel
theorem dX7_light_37 : decode cX7_light 37 = .ok (.iconst 3, 1) := by decide +kernel
theorem dX7_light_38 : decode cX7_light 38 = .ok (.invokevirtual 52, 3) := by decide +kernel
theorem dX7_light_41 : decode cX7_light 41 = .ok (.istore_n 3, 1) := by decide +kernel
theorem dX7_light_42 : decode cX7_light 42 = .ok (.aload_n 0, 1) := by decide +kernel
theorem dX7_light_43 : decode cX7_light 43 = .ok (.invokevirtual 150, 3) := by decide +kernel
theorem dX7_light_46 : decode cX7_light 46 = .ok (.iload_n 3, 1) := by decide +kernel
theorem dX7_light_47 : decode cX7_light 47 = .ok (.ireturn, 1) := by decide +kernel
theorem dX7_full_0 : decode cX7_full 0 = .ok (.aload_n 0, 1) := by decide +kernel
theorem dX7_full_1 : decode cX7_full 1 = .ok (.iload_n 1, 1) := by decide +kernel
theorem dX7_full_2 : decode cX7_full 2 = .ok (.invokevirtual 117, 3) := by decide +kernel
theorem dX7_full_5 : decode cX7_full 5 = .ok (.ifCond .eq 15, 3) := by decide +kernel
theorem dX7_full_8 : decode cX7_full 8 = .ok (.iload_n 2, 1) := by decide +kernel
theorem dX7_full_9 : decode cX7_full 9 = .ok (.i2l, 1) := by decide +kernel
theorem dX7_full_10 : decode cX7_full 10 = .ok (.iconst 1, 1) := by decide +kernel
theorem dX7_full_11 : decode cX7_full 11 = .ok (.sipush 999, 3) := by decide +kernel
theorem dX7_full_14 : decode cX7_full 14 = .ok (.invokestatic 48, 3) := by decide +kernel
theorem dX7_full_17 : decode cX7_full 17 = .ok (.ifCond .ne 10, 3) := by decide +kernel
theorem dX7_full_20 : decode cX7_full 20 = .ok (.aload_n 0, 1) := by decide +kernel
theorem dX7_full_21 : decode cX7_full 21 = .ok (.ldc 42, 2) := by decide +kernel
theorem dX7_full_23 : decode cX7_full 23 = .ok (.invokevirtual 44, 3) := by decide +kernel
theorem dX7_full_26 : decode cX7_full 26 = .ok (.ireturn, 1) := by decide +kernel
theorem dX7_full_27 : decode cX7_full 27 = .ok (.aload_n 0, 1) := by decide +kernel
theorem dX7_full_28 : decode cX7_full 28 = .ok (.invokevirtual 147, 3) := by decide +kernel
theorem dX7_full_31 : decode cX7_full 31 = .ok (.iconst 0, 1) := by decide +kernel
theorem dX7_full_32 : decode cX7_full 32 = .ok (.istore_n 3, 1) := by decide +kernel
theorem dX7_full_33 : decode cX7_full 33 = .ok (.iload_n 3, 1) := by decide +kernel
theorem dX7_full_34 : decode cX7_full 34 = .ok (.bipush 72, 2) := by decide +kernel
theorem dX7_full_36 : decode cX7_full 36 = .ok (.if_icmp .gt 23, 3) := by decide +kernel
theorem dX7_full_39 : decode cX7_full 39 = .ok (.aload_n 0, 1) := by decide +kernel
theorem dX7_full_40 : decode cX7_full 40 = .ok (.iload_n 1, 1) := by decide +kernel
theorem dX7_full_41 : decode cX7_full 41 = .ok (.iconst 2, 1) := by decide +kernel
theorem dX7_full_42 : decode cX7_full 42 = .ok (.invokevirtual 77, 3) := by decide +kernel
theorem dX7_full_45 : decode cX7_full 45 = .ok (.iload_n 2, 1) := by decide +kernel
theorem dX7_full_46 : decode cX7_full 46 = .ok (.if_icmp .ge 13, 3) := by decide +kernel
theorem dX7_full_49 : decode cX7_full 49 = .ok (.aload_n 0, 1) := by decide +kernel
theorem dX7_full_50 : decode cX7_full 50 = .ok (.invokevirtual 133, 3) := by decide +kernel
theorem dX7_full_53 : decode cX7_full 53 = .ok (.iinc 3 1, 3) := by decide +kernel
theorem dX7_full_56 : decode cX7_full 56 = .ok (.goto (-23), 3) := by decide +kernel
theorem dX7_full_59 : decode cX7_full 59 = .ok (.aload_n 0, 1) := by decide +kernel
theorem dX7_full_60 : decode cX7_full 60 = .ok (.invokevirtual 150, 3) := by decide +kernel
theorem dX7_full_63 : decode cX7_full 63 = .ok (.iload_n 3, 1) := by decide +kernel
theorem dX7_full_64 : decode cX7_full 64 = .ok (.bipush 72, 2) := by decide +kernel
theorem dX7_full_66 : decode cX7_full 66 = .ok (.if_icmp .le 12, 3) := by decide +kernel
theorem dX7_full_69 : decode cX7_full 69 = .ok (.aload_n 0, 1) := by decide +kernel
theorem dX7_full_70 : decode cX7_full 70 = .ok (.ldc 43, 2) := by decide +kernel
theorem dX7_full_72 : decode cX7_full 72 = .ok (.invokevirtual 44, 3) := by decide +kernel
theorem dX7_full_75 : decode cX7_full 75 = .ok (.goto 4, 3) := by decide +kernel
theorem dX7_full_78 : decode cX7_full 78 = .ok (.iload_n 3, 1) := by decide +kernel
theorem dX7_full_79 : decode cX7_full 79 = .ok (.ireturn, 1) := by decide +kernel
theorem dX7_dark_0 : decode cX7_dark 0 = .ok (.aload_n 0, 1) := by decide +kernel
theorem dX7_dark_1 : decode cX7_dark 1 = .ok (.iload_n 1, 1) := by decide +kernel
theorem dX7_dark_2 : decode cX7_dark 2 = .ok (.invokevirtual 106, 3) := by decide +kernel
theorem dX7_dark_5 : decode cX7_dark 5 = .ok (.ifCond .ne 10, 3) := by decide +kernel
theorem dX7_dark_8 : decode cX7_dark 8 = .ok (.aload_n 0, 1) := by decide +kernel
theorem dX7_dark_9 : decode cX7_dark 9 = .ok (.ldc 42, 2) := by decide +kernel
theorem dX7_dark_11 : decode cX7_dark 11 = .ok (.invokevirtual 44, 3) := by decide +kernel
theorem dX7_dark_14 : decode cX7_dark 14 = .ok (.ireturn, 1) := by decide +kernel
theorem dX7_dark_15 : decode cX7_dark 15 = .ok (.aload_n 0, 1) := by decide +kernel
theorem dX7_dark_16 : decode cX7_dark 16 = .ok (.invokevirtual 147, 3) := by decide +kernel
theorem dX7_dark_19 : decode cX7_dark 19 = .ok (.iconst 0, 1) := by decide +kernel
theorem dX7_dark_20 : decode cX7_dark 20 = .ok (.istore_n 2, 1) := by decide +kernel
theorem dX7_dark_21 : decode cX7_dark 21 = .ok (.iload_n 2, 1) := by decide +kernel
theorem dX7_dark_22 : decode cX7_dark 22 = .ok (.bipush 72, 2) := by decide +kernel
theorem dX7_dark_24 : decode cX7_dark 24 = .ok (.if_icmp .gt 22, 3) := by decide +kernel
theorem dX7_dark_27 : decode cX7_dark 27 = .ok (.aload_n 0, 1) := by decide +kernel
theorem dX7_dark_28 : decode cX7_dark 28 = .ok (.iload_n 1, 1) := by decide +kernel
theorem dX7_dark_29 : decode cX7_dark 29 = .ok (.iconst 3, 1) := by decide +kernel
theorem dX7_dark_30 : decode cX7_dark 30 = .ok (.invokevirtual 52, 3) := by decide +kernel
theorem dX7_dark_33 : decode cX7_dark 33 = .ok (.ifCond .le 13, 3) := by decide +kernel
theorem dX7_dark_36 : decode cX7_dark 36 = .ok (.aload_n 0, 1) := by decide +kernel
theorem dX7_dark_37 : decode cX7_dark 37 = .ok (.invokevirtual 133, 3) := by decide +kernel
theorem dX7_dark_40 : decode cX7_dark 40 = .ok (.iinc 2 1, 3) := by decide +kernel
theorem dX7_dark_43 : decode cX7_dark 43 = .ok (.goto (-22), 3) := by decide +kernel
theorem dX7_dark_46 : decode cX7_dark 46 = .ok (.aload_n 0, 1) := by decide +kernel
theorem dX7_dark_47 : decode cX7_dark 47 = .ok (.invokevirtual 150, 3) := by decide +kernel
theorem dX7_dark_50 : decode cX7_dark 50 = .ok (.iload_n 2, 1) := by decide +kernel
theorem dX7_dark_51 : decode cX7_dark 51 = .ok (.bipush 72, 2) := by decide +kernel
theorem dX7_dark_53 : decode cX7_dark 53 = .ok (.if_icmp .le 12, 3) := by decide +kernel
theorem dX7_dark_56 : decode cX7_dark 56 = .ok (.aload_n 0, 1) := by decide +kernel
theorem dX7_dark_57 : decode cX7_dark 57 = .ok (.ldc 43, 2) := by decide +kernel
theorem dX7_dark_59 : decode cX7_dark 59 = .ok (.invokevirtual 44, 3) := by decide +kernel
theorem dX7_dark_62 : decode cX7_dark 62 = .ok (.goto 4, 3) := by decide +kernel
theorem dX7_dark_65 : decode cX7_dark 65 = .ok (.iload_n 2, 1) := by decide +kernel
theorem dX7_dark_66 : decode cX7_dark 66 = .ok (.ireturn, 1) := by decide +kernel
theorem dX7_brightest_0 : decode cX7_brightest 0 = .ok (.iconst (-1), 1) := by decide +kernel
theorem dX7_brightest_1 : decode cX7_brightest 1 = .ok (.istore_n 1, 1) := by decide +kernel
theorem dX7_brightest_2 : decode cX7_brightest 2 = .ok (.iconst 0, 1) := by decide +kernel
theorem dX7_brightest_3 : decode cX7_brightest 3 = .ok (.istore_n 2, 1) := by decide +kernel
theorem dX7_brightest_4 : decode cX7_brightest 4 = .ok (.iconst 0, 1) := by decide +kernel
theorem dX7_brightest_5 : decode cX7_brightest 5 = .ok (.istore_n 3, 1) := by decide +kernel
theorem dX7_brightest_6 : decode cX7_brightest 6 = .ok (.iload_n 3, 1) := by decide +kernel
theorem dX7_brightest_7 : decode cX7_brightest 7 = .ok (.bipush 48, 2) := by decide +kernel
theorem dX7_brightest_9 : decode cX7_brightest 9 = .ok (.if_icmp .ge 41, 3) := by decide +kernel
theorem dX7_brightest_12 : decode cX7_brightest 12 = .ok (.aload_n 0, 1) := by decide +kernel
theorem dX7_brightest_13 : decode cX7_brightest 13 = .ok (.iload_n 3, 1) := by decide +kernel
theorem dX7_brightest_14 : decode cX7_brightest 14 = .ok (.invokevirtual 86, 3) := by decide +kernel
theorem dX7_brightest_17 : decode cX7_brightest 17 = .ok (.istore 4, 2) := by decide +kernel
theorem dX7_brightest_19 : decode cX7_brightest 19 = .ok (.iload 4, 2) := by decide +kernel
theorem dX7_brightest_21 : decode cX7_brightest 21 = .ok (.iload_n 2, 1) := by decide +kernel
theorem dX7_brightest_22 : decode cX7_brightest 22 = .ok (.if_icmp .le 7, 3) := by decide +kernel
theorem dX7_brightest_25 : decode cX7_brightest 25 = .ok (.iload_n 3, 1) := by decide +kernel
theorem dX7_brightest_26 : decode cX7_brightest 26 = .ok (.goto 4, 3) := by decide +kernel
theorem dX7_brightest_29 : decode cX7_brightest 29 = .ok (.iload_n 1, 1) := by decide +kernel
theorem dX7_brightest_30 : decode cX7_brightest 30 = .ok (.istore_n 1, 1) := by decide +kernel
theorem dX7_brightest_31 : decode cX7_brightest 31 = .ok (.iload 4, 2) := by decide +kernel
theorem dX7_brightest_33 : decode cX7_brightest 33 = .ok (.iload_n 2, 1) := by decide +kernel
theorem dX7_brightest_34 : decode cX7_brightest 34 = .ok (.if_icmp .le 8, 3) := by decide +kernel
theorem dX7_brightest_37 : decode cX7_brightest 37 = .ok (.iload 4, 2) := by decide +kernel
theorem dX7_brightest_39 : decode cX7_brightest 39 = .ok (.goto 4, 3) := by decide +kernel
theorem dX7_brightest_42 : decode cX7_brightest 42 = .ok (.iload_n 2, 1) := by decide +kernel
theorem dX7_brightest_43 : decode cX7_brightest 43 = .ok (.istore_n 2, 1) := by decide +kernel
theorem dX7_brightest_44 : decode cX7_brightest 44 = .ok (.iinc 3 1, 3) := by decide +kernel
theorem dX7_brightest_47 : decode cX7_brightest 47 = .ok (.goto (-41), 3) := by decide +kernel
theorem dX7_brightest_50 : decode cX7_brightest 50 = .ok (.aload_n 0, 1) := by decide +kernel
theorem dX7_brightest_51 : decode cX7_brightest 51 = .ok (.iload_n 1, 1) := by decide +kernel
theorem dX7_brightest_52 : decode cX7_brightest 52 = .ok (.invokevirtual 153, 3) := by decide +kernel
theorem dX7_brightest_55 : decode cX7_brightest 55 = .ok (.ireturn, 1) := by decide +kernel
theorem dX7_worthOn_0 : decode cX7_worthOn 0 = .ok (.aload_n 0, 1) := by decide +kernel
theorem dX7_worthOn_1 : decode cX7_worthOn 1 = .ok (.iload_n 2, 1) := by decide +kernel
theorem dX7_worthOn_2 : decode cX7_worthOn 2 = .ok (.invokevirtual 137, 3) := by decide +kernel
theorem dX7_worthOn_5 : decode cX7_worthOn 5 = .ok (.iload_n 1, 1) := by decide +kernel
theorem dX7_worthOn_6 : decode cX7_worthOn 6 = .ok (.ifCond .ge 17, 3) := by decide +kernel
theorem dX7_worthOn_9 : decode cX7_worthOn 9 = .ok (.aload_n 0, 1) := by decide +kernel
theorem dX7_worthOn_10 : decode cX7_worthOn 10 = .ok (.iconst 3, 1) := by decide +kernel
theorem dX7_worthOn_11 : decode cX7_worthOn 11 = .ok (.invokevirtual 140, 3) := by decide +kernel
theorem dX7_worthOn_14 : decode cX7_worthOn 14 = .ok (.aload_n 0, 1) := by decide +kernel
theorem dX7_worthOn_15 : decode cX7_worthOn 15 = .ok (.iconst 2, 1) := by decide +kernel
theorem dX7_worthOn_16 : decode cX7_worthOn 16 = .ok (.invokevirtual 140, 3) := by decide +kernel
theorem dX7_worthOn_19 : decode cX7_worthOn 19 = .ok (.iadd, 1) := by decide +kernel
theorem dX7_worthOn_20 : decode cX7_worthOn 20 = .ok (.goto 16, 3) := by decide +kernel
theorem dX7_worthOn_23 : decode cX7_worthOn 23 = .ok (.aload_n 0, 1) := by decide +kernel
theorem dX7_worthOn_24 : decode cX7_worthOn 24 = .ok (.iload_n 1, 1) := by decide +kernel
theorem dX7_worthOn_25 : decode cX7_worthOn 25 = .ok (.iconst 3, 1) := by decide +kernel
theorem dX7_worthOn_26 : decode cX7_worthOn 26 = .ok (.invokevirtual 77, 3) := by decide +kernel
theorem dX7_worthOn_29 : decode cX7_worthOn 29 = .ok (.aload_n 0, 1) := by decide +kernel
theorem dX7_worthOn_30 : decode cX7_worthOn 30 = .ok (.iload_n 1, 1) := by decide +kernel
theorem dX7_worthOn_31 : decode cX7_worthOn 31 = .ok (.iconst 2, 1) := by decide +kernel
theorem dX7_worthOn_32 : decode cX7_worthOn 32 = .ok (.invokevirtual 77, 3) := by decide +kernel
theorem dX7_worthOn_35 : decode cX7_worthOn 35 = .ok (.iadd, 1) := by decide +kernel
theorem dX7_worthOn_36 : decode cX7_worthOn 36 = .ok (.istore_n 3, 1) := by decide +kernel
theorem dX7_worthOn_37 : decode cX7_worthOn 37 = .ok (.aload_n 0, 1) := by decide +kernel
theorem dX7_worthOn_38 : decode cX7_worthOn 38 = .ok (.invokevirtual 150, 3) := by decide +kernel
theorem dX7_worthOn_41 : decode cX7_worthOn 41 = .ok (.iload_n 3, 1) := by decide +kernel
theorem dX7_worthOn_42 : decode cX7_worthOn 42 = .ok (.ireturn, 1) := by decide +kernel
theorem dX7_bestBy_0 : decode cX7_bestBy 0 = .ok (.aload_n 0, 1) := by decide +kernel
theorem dX7_bestBy_1 : decode cX7_bestBy 1 = .ok (.invokevirtual 147, 3) := by decide +kernel
theorem dX7_bestBy_4 : decode cX7_bestBy 4 = .ok (.iconst 0, 1) := by decide +kernel
theorem dX7_bestBy_5 : decode cX7_bestBy 5 = .ok (.istore 5, 2) := by decide +kernel
theorem dX7_bestBy_7 : decode cX7_bestBy 7 = .ok (.iconst 0, 1) := by decide +kernel
theorem dX7_bestBy_8 : decode cX7_bestBy 8 = .ok (.istore 6, 2) := by decide +kernel
theorem dX7_bestBy_10 : decode cX7_bestBy 10 = .ok (.iconst 0, 1) := by decide +kernel
theorem dX7_bestBy_11 : decode cX7_bestBy 11 = .ok (.istore 7, 2) := by decide +kernel
theorem dX7_bestBy_13 : decode cX7_bestBy 13 = .ok (.iload 7, 2) := by decide +kernel
theorem dX7_bestBy_15 : decode cX7_bestBy 15 = .ok (.iload_n 2, 1) := by decide +kernel
theorem dX7_bestBy_16 : decode cX7_bestBy 16 = .ok (.if_icmp .ge 68, 3) := by decide +kernel
theorem dX7_bestBy_19 : decode cX7_bestBy 19 = .ok (.aload_n 0, 1) := by decide +kernel
theorem dX7_bestBy_20 : decode cX7_bestBy 20 = .ok (.getfield 9, 3) := by decide +kernel
theorem dX7_bestBy_23 : decode cX7_bestBy 23 = .ok (.iload_n 1, 1) := by decide +kernel
theorem dX7_bestBy_24 : decode cX7_bestBy 24 = .ok (.iload 7, 2) := by decide +kernel
theorem dX7_bestBy_26 : decode cX7_bestBy 26 = .ok (.iastore, 1) := by decide +kernel
theorem dX7_bestBy_27 : decode cX7_bestBy 27 = .ok (.aload_n 0, 1) := by decide +kernel
theorem dX7_bestBy_28 : decode cX7_bestBy 28 = .ok (.iload_n 3, 1) := by decide +kernel
theorem dX7_bestBy_29 : decode cX7_bestBy 29 = .ok (.iload 4, 2) := by decide +kernel
theorem dX7_bestBy_31 : decode cX7_bestBy 31 = .ok (.invokevirtual 156, 3) := by decide +kernel
theorem dX7_bestBy_34 : decode cX7_bestBy 34 = .ok (.istore 8, 2) := by decide +kernel
theorem dX7_bestBy_36 : decode cX7_bestBy 36 = .ok (.iload 7, 2) := by decide +kernel
theorem dX7_bestBy_38 : decode cX7_bestBy 38 = .ok (.ifCond .le 15, 3) := by decide +kernel
theorem dX7_bestBy_41 : decode cX7_bestBy 41 = .ok (.iload 8, 2) := by decide +kernel
theorem dX7_bestBy_43 : decode cX7_bestBy 43 = .ok (.iload 6, 2) := by decide +kernel
theorem dX7_bestBy_45 : decode cX7_bestBy 45 = .ok (.if_icmp .le 8, 3) := by decide +kernel
theorem dX7_bestBy_48 : decode cX7_bestBy 48 = .ok (.iload 7, 2) := by decide +kernel
theorem dX7_bestBy_50 : decode cX7_bestBy 50 = .ok (.goto 5, 3) := by decide +kernel
theorem dX7_bestBy_53 : decode cX7_bestBy 53 = .ok (.iload 5, 2) := by decide +kernel
theorem dX7_bestBy_55 : decode cX7_bestBy 55 = .ok (.istore 5, 2) := by decide +kernel
theorem dX7_bestBy_57 : decode cX7_bestBy 57 = .ok (.iload 7, 2) := by decide +kernel
theorem dX7_bestBy_59 : decode cX7_bestBy 59 = .ok (.ifCond .eq 10, 3) := by decide +kernel
theorem dX7_bestBy_62 : decode cX7_bestBy 62 = .ok (.iload 8, 2) := by decide +kernel
theorem dX7_bestBy_64 : decode cX7_bestBy 64 = .ok (.iload 6, 2) := by decide +kernel
theorem dX7_bestBy_66 : decode cX7_bestBy 66 = .ok (.if_icmp .le 8, 3) := by decide +kernel
theorem dX7_bestBy_69 : decode cX7_bestBy 69 = .ok (.iload 8, 2) := by decide +kernel
theorem dX7_bestBy_71 : decode cX7_bestBy 71 = .ok (.goto 5, 3) := by decide +kernel
theorem dX7_bestBy_74 : decode cX7_bestBy 74 = .ok (.iload 6, 2) := by decide +kernel
theorem dX7_bestBy_76 : decode cX7_bestBy 76 = .ok (.istore 6, 2) := by decide +kernel
theorem dX7_bestBy_78 : decode cX7_bestBy 78 = .ok (.iinc 7 1, 3) := by decide +kernel
theorem dX7_bestBy_81 : decode cX7_bestBy 81 = .ok (.goto (-68), 3) := by decide +kernel
theorem dX7_bestBy_84 : decode cX7_bestBy 84 = .ok (.iload 5, 2) := by decide +kernel
theorem dX7_bestBy_86 : decode cX7_bestBy 86 = .ok (.ireturn, 1) := by decide +kernel
theorem dX7_spot_0 : decode cX7_spot 0 = .ok (.aload_n 0, 1) := by decide +kernel
theorem dX7_spot_1 : decode cX7_spot 1 = .ok (.iload_n 1, 1) := by decide +kernel
theorem dX7_spot_2 : decode cX7_spot 2 = .ok (.invokevirtual 117, 3) := by decide +kernel
theorem dX7_spot_5 : decode cX7_spot 5 = .ok (.ifCond .eq 31, 3) := by decide +kernel
theorem dX7_spot_8 : decode cX7_spot 8 = .ok (.iload_n 2, 1) := by decide +kernel
theorem dX7_spot_9 : decode cX7_spot 9 = .ok (.i2l, 1) := by decide +kernel
theorem dX7_spot_10 : decode cX7_spot 10 = .ok (.iconst 1, 1) := by decide +kernel
theorem dX7_spot_11 : decode cX7_spot 11 = .ok (.bipush 24, 2) := by decide +kernel
theorem dX7_spot_13 : decode cX7_spot 13 = .ok (.invokestatic 48, 3) := by decide +kernel
theorem dX7_spot_16 : decode cX7_spot 16 = .ok (.ifCond .eq 20, 3) := by decide +kernel
theorem dX7_spot_19 : decode cX7_spot 19 = .ok (.aload_n 0, 1) := by decide +kernel
theorem dX7_spot_20 : decode cX7_spot 20 = .ok (.bipush 45, 2) := by decide +kernel
theorem dX7_spot_22 : decode cX7_spot 22 = .ok (.iconst 4, 1) := by decide +kernel
theorem dX7_spot_23 : decode cX7_spot 23 = .ok (.iload_n 1, 1) := by decide +kernel
theorem dX7_spot_24 : decode cX7_spot 24 = .ok (.imul, 1) := by decide +kernel
theorem dX7_spot_25 : decode cX7_spot 25 = .ok (.iadd, 1) := by decide +kernel
theorem dX7_spot_26 : decode cX7_spot 26 = .ok (.bipush 48, 2) := by decide +kernel
theorem dX7_spot_28 : decode cX7_spot 28 = .ok (.iload_n 1, 1) := by decide +kernel
theorem dX7_spot_29 : decode cX7_spot 29 = .ok (.iload_n 2, 1) := by decide +kernel
theorem dX7_spot_30 : decode cX7_spot 30 = .ok (.invokevirtual 159, 3) := by decide +kernel
theorem dX7_spot_33 : decode cX7_spot 33 = .ok (.goto 9, 3) := by decide +kernel
theorem dX7_spot_36 : decode cX7_spot 36 = .ok (.aload_n 0, 1) := by decide +kernel
theorem dX7_spot_37 : decode cX7_spot 37 = .ok (.ldc 42, 2) := by decide +kernel
theorem dX7_spot_39 : decode cX7_spot 39 = .ok (.invokevirtual 44, 3) := by decide +kernel
theorem dX7_spot_42 : decode cX7_spot 42 = .ok (.ireturn, 1) := by decide +kernel
theorem dX7_time_0 : decode cX7_time 0 = .ok (.iload_n 1, 1) := by decide +kernel
theorem dX7_time_1 : decode cX7_time 1 = .ok (.invokestatic 83, 3) := by decide +kernel
theorem dX7_time_4 : decode cX7_time 4 = .ok (.ifCond .ne 10, 3) := by decide +kernel
theorem dX7_time_7 : decode cX7_time 7 = .ok (.aload_n 0, 1) := by decide +kernel
theorem dX7_time_8 : decode cX7_time 8 = .ok (.ldc 42, 2) := by decide +kernel
theorem dX7_time_10 : decode cX7_time 10 = .ok (.invokevirtual 44, 3) := by decide +kernel
theorem dX7_time_13 : decode cX7_time 13 = .ok (.ireturn, 1) := by decide +kernel
theorem dX7_time_14 : decode cX7_time 14 = .ok (.aload_n 0, 1) := by decide +kernel
theorem dX7_time_15 : decode cX7_time 15 = .ok (.getfield 9, 3) := by decide +kernel
theorem dX7_time_18 : decode cX7_time 18 = .ok (.iconst 0, 1) := by decide +kernel
theorem dX7_time_19 : decode cX7_time 19 = .ok (.iaload, 1) := by decide +kernel
theorem dX7_time_20 : decode cX7_time 20 = .ok (.istore_n 2, 1) := by decide +kernel
theorem dX7_time_21 : decode cX7_time 21 = .ok (.iconst 0, 1) := by decide +kernel
theorem dX7_time_22 : decode cX7_time 22 = .ok (.istore_n 3, 1) := by decide +kernel
theorem dX7_time_23 : decode cX7_time 23 = .ok (.iconst (-1), 1) := by decide +kernel
theorem dX7_time_24 : decode cX7_time 24 = .ok (.istore 4, 2) := by decide +kernel
theorem dX7_time_26 : decode cX7_time 26 = .ok (.iconst 0, 1) := by decide +kernel
theorem dX7_time_27 : decode cX7_time 27 = .ok (.istore 5, 2) := by decide +kernel
theorem dX7_time_29 : decode cX7_time 29 = .ok (.iload 5, 2) := by decide +kernel
theorem dX7_time_31 : decode cX7_time 31 = .ok (.bipush 24, 2) := by decide +kernel
theorem dX7_time_33 : decode cX7_time 33 = .ok (.if_icmp .ge 54, 3) := by decide +kernel
theorem dX7_time_36 : decode cX7_time 36 = .ok (.aload_n 0, 1) := by decide +kernel
theorem dX7_time_37 : decode cX7_time 37 = .ok (.getfield 9, 3) := by decide +kernel
theorem dX7_time_40 : decode cX7_time 40 = .ok (.iconst 0, 1) := by decide +kernel
theorem dX7_time_41 : decode cX7_time 41 = .ok (.iload 5, 2) := by decide +kernel
theorem dX7_time_43 : decode cX7_time 43 = .ok (.iastore, 1) := by decide +kernel
theorem dX7_time_44 : decode cX7_time 44 = .ok (.aload_n 0, 1) := by decide +kernel
theorem dX7_time_45 : decode cX7_time 45 = .ok (.iload_n 1, 1) := by decide +kernel
theorem dX7_time_46 : decode cX7_time 46 = .ok (.invokevirtual 86, 3) := by decide +kernel
theorem dX7_time_49 : decode cX7_time 49 = .ok (.istore 6, 2) := by decide +kernel
theorem dX7_time_51 : decode cX7_time 51 = .ok (.iload 6, 2) := by decide +kernel
theorem dX7_time_53 : decode cX7_time 53 = .ok (.iload 4, 2) := by decide +kernel
theorem dX7_time_55 : decode cX7_time 55 = .ok (.if_icmp .le 8, 3) := by decide +kernel
theorem dX7_time_58 : decode cX7_time 58 = .ok (.iload 5, 2) := by decide +kernel
theorem dX7_time_60 : decode cX7_time 60 = .ok (.goto 4, 3) := by decide +kernel
theorem dX7_time_63 : decode cX7_time 63 = .ok (.iload_n 3, 1) := by decide +kernel
theorem dX7_time_64 : decode cX7_time 64 = .ok (.istore_n 3, 1) := by decide +kernel
theorem dX7_time_65 : decode cX7_time 65 = .ok (.iload 6, 2) := by decide +kernel
theorem dX7_time_67 : decode cX7_time 67 = .ok (.iload 4, 2) := by decide +kernel
theorem dX7_time_69 : decode cX7_time 69 = .ok (.if_icmp .le 8, 3) := by decide +kernel
theorem dX7_time_72 : decode cX7_time 72 = .ok (.iload 6, 2) := by decide +kernel
theorem dX7_time_74 : decode cX7_time 74 = .ok (.goto 5, 3) := by decide +kernel
theorem dX7_time_77 : decode cX7_time 77 = .ok (.iload 4, 2) := by decide +kernel
theorem dX7_time_79 : decode cX7_time 79 = .ok (.istore 4, 2) := by decide +kernel
theorem dX7_time_81 : decode cX7_time 81 = .ok (.iinc 5 1, 3) := by decide +kernel
theorem dX7_time_84 : decode cX7_time 84 = .ok (.goto (-55), 3) := by decide +kernel
theorem dX7_time_87 : decode cX7_time 87 = .ok (.aload_n 0, 1) := by decide +kernel
theorem dX7_time_88 : decode cX7_time 88 = .ok (.getfield 9, 3) := by decide +kernel
theorem dX7_time_91 : decode cX7_time 91 = .ok (.iconst 0, 1) := by decide +kernel
theorem dX7_time_92 : decode cX7_time 92 = .ok (.iload_n 2, 1) := by decide +kernel
theorem dX7_time_93 : decode cX7_time 93 = .ok (.iastore, 1) := by decide +kernel
theorem dX7_time_94 : decode cX7_time 94 = .ok (.iload_n 3, 1) := by decide +kernel
theorem dX7_time_95 : decode cX7_time 95 = .ok (.ireturn, 1) := by decide +kernel
theorem dX7_net_0 : decode cX7_net 0 = .ok (.aload_n 0, 1) := by decide +kernel
theorem dX7_net_1 : decode cX7_net 1 = .ok (.iload_n 1, 1) := by decide +kernel
theorem dX7_net_2 : decode cX7_net 2 = .ok (.invokevirtual 117, 3) := by decide +kernel
theorem dX7_net_5 : decode cX7_net 5 = .ok (.ifCond .eq 33, 3) := by decide +kernel
theorem dX7_net_8 : decode cX7_net 8 = .ok (.iload_n 2, 1) := by decide +kernel
theorem dX7_net_9 : decode cX7_net 9 = .ok (.i2l, 1) := by decide +kernel
theorem dX7_net_10 : decode cX7_net 10 = .ok (.iconst 1, 1) := by decide +kernel
theorem dX7_net_11 : decode cX7_net 11 = .ok (.bipush 24, 2) := by decide +kernel
theorem dX7_net_13 : decode cX7_net 13 = .ok (.invokestatic 48, 3) := by decide +kernel
theorem dX7_net_16 : decode cX7_net 16 = .ok (.ifCond .eq 22, 3) := by decide +kernel
theorem dX7_net_19 : decode cX7_net 19 = .ok (.aload_n 0, 1) := by decide +kernel
theorem dX7_net_20 : decode cX7_net 20 = .ok (.bipush 45, 2) := by decide +kernel
theorem dX7_net_22 : decode cX7_net 22 = .ok (.iconst 4, 1) := by decide +kernel
theorem dX7_net_23 : decode cX7_net 23 = .ok (.iload_n 1, 1) := by decide +kernel
theorem dX7_net_24 : decode cX7_net 24 = .ok (.imul, 1) := by decide +kernel
theorem dX7_net_25 : decode cX7_net 25 = .ok (.iadd, 1) := by decide +kernel
theorem dX7_net_26 : decode cX7_net 26 = .ok (.iconst 1, 1) := by decide +kernel
theorem dX7_net_27 : decode cX7_net 27 = .ok (.iadd, 1) := by decide +kernel
theorem dX7_net_28 : decode cX7_net 28 = .ok (.bipush 100, 2) := by decide +kernel
theorem dX7_net_30 : decode cX7_net 30 = .ok (.iload_n 1, 1) := by decide +kernel
theorem dX7_net_31 : decode cX7_net 31 = .ok (.iload_n 2, 1) := by decide +kernel
theorem dX7_net_32 : decode cX7_net 32 = .ok (.invokevirtual 159, 3) := by decide +kernel
theorem dX7_net_35 : decode cX7_net 35 = .ok (.goto 9, 3) := by decide +kernel
theorem dX7_net_38 : decode cX7_net 38 = .ok (.aload_n 0, 1) := by decide +kernel
theorem dX7_net_39 : decode cX7_net 39 = .ok (.ldc 42, 2) := by decide +kernel
theorem dX7_net_41 : decode cX7_net 41 = .ok (.invokevirtual 44, 3) := by decide +kernel
theorem dX7_net_44 : decode cX7_net 44 = .ok (.ireturn, 1) := by decide +kernel
theorem dX7_gives_0 : decode cX7_gives 0 = .ok (.aload_n 0, 1) := by decide +kernel
theorem dX7_gives_1 : decode cX7_gives 1 = .ok (.iload_n 1, 1) := by decide +kernel
theorem dX7_gives_2 : decode cX7_gives 2 = .ok (.invokevirtual 117, 3) := by decide +kernel
theorem dX7_gives_5 : decode cX7_gives 5 = .ok (.ifCond .eq 14, 3) := by decide +kernel
theorem dX7_gives_8 : decode cX7_gives 8 = .ok (.iload_n 2, 1) := by decide +kernel
theorem dX7_gives_9 : decode cX7_gives 9 = .ok (.i2l, 1) := by decide +kernel
theorem dX7_gives_10 : decode cX7_gives 10 = .ok (.iconst 1, 1) := by decide +kernel
theorem dX7_gives_11 : decode cX7_gives 11 = .ok (.bipush 24, 2) := by decide +kernel
theorem dX7_gives_13 : decode cX7_gives 13 = .ok (.invokestatic 48, 3) := by decide +kernel
theorem dX7_gives_16 : decode cX7_gives 16 = .ok (.ifCond .ne 10, 3) := by decide +kernel
theorem dX7_gives_19 : decode cX7_gives 19 = .ok (.aload_n 0, 1) := by decide +kernel
theorem dX7_gives_20 : decode cX7_gives 20 = .ok (.ldc 42, 2) := by decide +kernel
theorem dX7_gives_22 : decode cX7_gives 22 = .ok (.invokevirtual 44, 3) := by decide +kernel
theorem dX7_gives_25 : decode cX7_gives 25 = .ok (.ireturn, 1) := by decide +kernel
theorem dX7_gives_26 : decode cX7_gives 26 = .ok (.aload_n 0, 1) := by decide +kernel
theorem dX7_gives_27 : decode cX7_gives 27 = .ok (.invokevirtual 147, 3) := by decide +kernel
theorem dX7_gives_30 : decode cX7_gives 30 = .ok (.iconst (-1), 1) := by decide +kernel
theorem dX7_gives_31 : decode cX7_gives 31 = .ok (.istore_n 3, 1) := by decide +kernel
theorem dX7_gives_32 : decode cX7_gives 32 = .ok (.aload_n 0, 1) := by decide +kernel
theorem dX7_gives_33 : decode cX7_gives 33 = .ok (.iload_n 1, 1) := by decide +kernel
theorem dX7_gives_34 : decode cX7_gives 34 = .ok (.iload_n 2, 1) := by decide +kernel
theorem dX7_gives_35 : decode cX7_gives 35 = .ok (.invokevirtual 156, 3) := by decide +kernel
theorem dX7_gives_38 : decode cX7_gives 38 = .ok (.istore 4, 2) := by decide +kernel
theorem dX7_gives_40 : decode cX7_gives 40 = .ok (.iconst 0, 1) := by decide +kernel
theorem dX7_gives_41 : decode cX7_gives 41 = .ok (.istore 5, 2) := by decide +kernel
theorem dX7_gives_43 : decode cX7_gives 43 = .ok (.iload 5, 2) := by decide +kernel
theorem dX7_gives_45 : decode cX7_gives 45 = .ok (.aload_n 0, 1) := by decide +kernel
theorem dX7_gives_46 : decode cX7_gives 46 = .ok (.getfield 9, 3) := by decide +kernel
theorem dX7_gives_49 : decode cX7_gives 49 = .ok (.iconst 3, 1) := by decide +kernel
theorem dX7_gives_50 : decode cX7_gives 50 = .ok (.iaload, 1) := by decide +kernel
theorem dX7_gives_51 : decode cX7_gives 51 = .ok (.if_icmp .ge 61, 3) := by decide +kernel
theorem dX7_gives_54 : decode cX7_gives 54 = .ok (.aload_n 0, 1) := by decide +kernel
theorem dX7_gives_55 : decode cX7_gives 55 = .ok (.getfield 9, 3) := by decide +kernel
theorem dX7_gives_58 : decode cX7_gives 58 = .ok (.iconst 5, 1) := by decide +kernel
theorem dX7_gives_59 : decode cX7_gives 59 = .ok (.iconst 5, 1) := by decide +kernel
theorem dX7_gives_60 : decode cX7_gives 60 = .ok (.iload 5, 2) := by decide +kernel
theorem dX7_gives_62 : decode cX7_gives 62 = .ok (.imul, 1) := by decide +kernel
theorem dX7_gives_63 : decode cX7_gives 63 = .ok (.iadd, 1) := by decide +kernel
theorem dX7_gives_64 : decode cX7_gives 64 = .ok (.iconst 3, 1) := by decide +kernel
theorem dX7_gives_65 : decode cX7_gives 65 = .ok (.iadd, 1) := by decide +kernel
theorem dX7_gives_66 : decode cX7_gives 66 = .ok (.iconst 0, 1) := by decide +kernel
theorem dX7_gives_67 : decode cX7_gives 67 = .ok (.iastore, 1) := by decide +kernel
theorem dX7_gives_68 : decode cX7_gives 68 = .ok (.aload_n 0, 1) := by decide +kernel
theorem dX7_gives_69 : decode cX7_gives 69 = .ok (.iload_n 1, 1) := by decide +kernel
theorem dX7_gives_70 : decode cX7_gives 70 = .ok (.iload_n 2, 1) := by decide +kernel
theorem dX7_gives_71 : decode cX7_gives 71 = .ok (.invokevirtual 156, 3) := by decide +kernel
theorem dX7_gives_74 : decode cX7_gives 74 = .ok (.istore 6, 2) := by decide +kernel
theorem dX7_gives_76 : decode cX7_gives 76 = .ok (.iload 6, 2) := by decide +kernel
theorem dX7_gives_78 : decode cX7_gives 78 = .ok (.iload 4, 2) := by decide +kernel
theorem dX7_gives_80 : decode cX7_gives 80 = .ok (.if_icmp .ge 8, 3) := by decide +kernel
theorem dX7_gives_83 : decode cX7_gives 83 = .ok (.iload 5, 2) := by decide +kernel
theorem dX7_gives_85 : decode cX7_gives 85 = .ok (.goto 4, 3) := by decide +kernel
theorem dX7_gives_88 : decode cX7_gives 88 = .ok (.iload_n 3, 1) := by decide +kernel
theorem dX7_gives_89 : decode cX7_gives 89 = .ok (.istore_n 3, 1) := by decide +kernel
theorem dX7_gives_90 : decode cX7_gives 90 = .ok (.iload 6, 2) := by decide +kernel
theorem dX7_gives_92 : decode cX7_gives 92 = .ok (.iload 4, 2) := by decide +kernel
theorem dX7_gives_94 : decode cX7_gives 94 = .ok (.if_icmp .ge 8, 3) := by decide +kernel
theorem dX7_gives_97 : decode cX7_gives 97 = .ok (.iload 6, 2) := by decide +kernel
theorem dX7_gives_99 : decode cX7_gives 99 = .ok (.goto 5, 3) := by decide +kernel
theorem dX7_gives_102 : decode cX7_gives 102 = .ok (.iload 4, 2) := by decide +kernel
theorem dX7_gives_104 : decode cX7_gives 104 = .ok (.istore 4, 2) := by decide +kernel
theorem dX7_gives_106 : decode cX7_gives 106 = .ok (.iinc 5 1, 3) := by decide +kernel
theorem dX7_gives_109 : decode cX7_gives 109 = .ok (.goto (-66), 3) := by decide +kernel
theorem dX7_gives_112 : decode cX7_gives 112 = .ok (.aload_n 0, 1) := by decide +kernel
theorem dX7_gives_113 : decode cX7_gives 113 = .ok (.iload_n 3, 1) := by decide +kernel
theorem dX7_gives_114 : decode cX7_gives 114 = .ok (.invokevirtual 153, 3) := by decide +kernel
theorem dX7_gives_117 : decode cX7_gives 117 = .ok (.ireturn, 1) := by decide +kernel
theorem dX7_kind_0 : decode cX7_kind 0 = .ok (.aload_n 0, 1) := by decide +kernel
theorem dX7_kind_1 : decode cX7_kind 1 = .ok (.iload_n 1, 1) := by decide +kernel
theorem dX7_kind_2 : decode cX7_kind 2 = .ok (.invokevirtual 106, 3) := by decide +kernel
theorem dX7_kind_5 : decode cX7_kind 5 = .ok (.ifCond .eq 30, 3) := by decide +kernel
theorem dX7_kind_8 : decode cX7_kind 8 = .ok (.iload_n 2, 1) := by decide +kernel
theorem dX7_kind_9 : decode cX7_kind 9 = .ok (.i2l, 1) := by decide +kernel
theorem dX7_kind_10 : decode cX7_kind 10 = .ok (.iconst 1, 1) := by decide +kernel
theorem dX7_kind_11 : decode cX7_kind 11 = .ok (.bipush 24, 2) := by decide +kernel
theorem dX7_kind_13 : decode cX7_kind 13 = .ok (.invokestatic 48, 3) := by decide +kernel
theorem dX7_kind_16 : decode cX7_kind 16 = .ok (.ifCond .eq 19, 3) := by decide +kernel
theorem dX7_kind_19 : decode cX7_kind 19 = .ok (.aload_n 0, 1) := by decide +kernel
theorem dX7_kind_20 : decode cX7_kind 20 = .ok (.iconst 5, 1) := by decide +kernel
theorem dX7_kind_21 : decode cX7_kind 21 = .ok (.iconst 5, 1) := by decide +kernel
theorem dX7_kind_22 : decode cX7_kind 22 = .ok (.iload_n 1, 1) := by decide +kernel
theorem dX7_kind_23 : decode cX7_kind 23 = .ok (.imul, 1) := by decide +kernel
theorem dX7_kind_24 : decode cX7_kind 24 = .ok (.iadd, 1) := by decide +kernel
theorem dX7_kind_25 : decode cX7_kind 25 = .ok (.bipush 6, 2) := by decide +kernel
theorem dX7_kind_27 : decode cX7_kind 27 = .ok (.iconst (-1), 1) := by decide +kernel
theorem dX7_kind_28 : decode cX7_kind 28 = .ok (.iload_n 2, 1) := by decide +kernel
theorem dX7_kind_29 : decode cX7_kind 29 = .ok (.invokevirtual 159, 3) := by decide +kernel
theorem dX7_kind_32 : decode cX7_kind 32 = .ok (.goto 9, 3) := by decide +kernel
theorem dX7_kind_35 : decode cX7_kind 35 = .ok (.aload_n 0, 1) := by decide +kernel
theorem dX7_kind_36 : decode cX7_kind 36 = .ok (.ldc 42, 2) := by decide +kernel
theorem dX7_kind_38 : decode cX7_kind 38 = .ok (.invokevirtual 44, 3) := by decide +kernel
theorem dX7_kind_41 : decode cX7_kind 41 = .ok (.ireturn, 1) := by decide +kernel
theorem dX7_rival_0 : decode cX7_rival 0 = .ok (.aload_n 0, 1) := by decide +kernel
theorem dX7_rival_1 : decode cX7_rival 1 = .ok (.iload_n 1, 1) := by decide +kernel
theorem dX7_rival_2 : decode cX7_rival 2 = .ok (.invokevirtual 117, 3) := by decide +kernel
theorem dX7_rival_5 : decode cX7_rival 5 = .ok (.ifCond .eq 27, 3) := by decide +kernel
theorem dX7_rival_8 : decode cX7_rival 8 = .ok (.aload_n 0, 1) := by decide +kernel
theorem dX7_rival_9 : decode cX7_rival 9 = .ok (.iload_n 2, 1) := by decide +kernel
theorem dX7_rival_10 : decode cX7_rival 10 = .ok (.invokevirtual 117, 3) := by decide +kernel
theorem dX7_rival_13 : decode cX7_rival 13 = .ok (.ifCond .eq 19, 3) := by decide +kernel
theorem dX7_rival_16 : decode cX7_rival 16 = .ok (.iload_n 1, 1) := by decide +kernel
theorem dX7_rival_17 : decode cX7_rival 17 = .ok (.iload_n 2, 1) := by decide +kernel
theorem dX7_rival_18 : decode cX7_rival 18 = .ok (.if_icmp .eq 14, 3) := by decide +kernel
theorem dX7_rival_21 : decode cX7_rival 21 = .ok (.iload_n 3, 1) := by decide +kernel
theorem dX7_rival_22 : decode cX7_rival 22 = .ok (.i2l, 1) := by decide +kernel
theorem dX7_rival_23 : decode cX7_rival 23 = .ok (.iconst 1, 1) := by decide +kernel
theorem dX7_rival_24 : decode cX7_rival 24 = .ok (.bipush 24, 2) := by decide +kernel
theorem dX7_rival_26 : decode cX7_rival 26 = .ok (.invokestatic 48, 3) := by decide +kernel
theorem dX7_rival_29 : decode cX7_rival 29 = .ok (.ifCond .ne 10, 3) := by decide +kernel
theorem dX7_rival_32 : decode cX7_rival 32 = .ok (.aload_n 0, 1) := by decide +kernel
theorem dX7_rival_33 : decode cX7_rival 33 = .ok (.ldc 42, 2) := by decide +kernel
theorem dX7_rival_35 : decode cX7_rival 35 = .ok (.invokevirtual 44, 3) := by decide +kernel
theorem dX7_rival_38 : decode cX7_rival 38 = .ok (.ireturn, 1) := by decide +kernel
theorem dX7_rival_39 : decode cX7_rival 39 = .ok (.aload_n 0, 1) := by decide +kernel
theorem dX7_rival_40 : decode cX7_rival 40 = .ok (.invokevirtual 147, 3) := by decide +kernel
theorem dX7_rival_43 : decode cX7_rival 43 = .ok (.aload_n 0, 1) := by decide +kernel
theorem dX7_rival_44 : decode cX7_rival 44 = .ok (.iload_n 1, 1) := by decide +kernel
theorem dX7_rival_45 : decode cX7_rival 45 = .ok (.iload_n 3, 1) := by decide +kernel
theorem dX7_rival_46 : decode cX7_rival 46 = .ok (.invokevirtual 156, 3) := by decide +kernel
theorem dX7_rival_49 : decode cX7_rival 49 = .ok (.istore 4, 2) := by decide +kernel
theorem dX7_rival_51 : decode cX7_rival 51 = .ok (.aload_n 0, 1) := by decide +kernel
theorem dX7_rival_52 : decode cX7_rival 52 = .ok (.iload_n 2, 1) := by decide +kernel
theorem dX7_rival_53 : decode cX7_rival 53 = .ok (.iconst 1, 1) := by decide +kernel
theorem dX7_rival_54 : decode cX7_rival 54 = .ok (.iconst 0, 1) := by decide +kernel
theorem dX7_rival_55 : decode cX7_rival 55 = .ok (.invokevirtual 110, 3) := by decide +kernel
theorem dX7_rival_58 : decode cX7_rival 58 = .ok (.aload_n 0, 1) := by decide +kernel
theorem dX7_rival_59 : decode cX7_rival 59 = .ok (.iload_n 1, 1) := by decide +kernel
theorem dX7_rival_60 : decode cX7_rival 60 = .ok (.iload_n 3, 1) := by decide +kernel
theorem dX7_rival_61 : decode cX7_rival 61 = .ok (.invokevirtual 156, 3) := by decide +kernel
theorem dX7_rival_64 : decode cX7_rival 64 = .ok (.iload 4, 2) := by decide +kernel
theorem dX7_rival_66 : decode cX7_rival 66 = .ok (.isub, 1) := by decide +kernel
theorem dX7_rival_67 : decode cX7_rival 67 = .ok (.ireturn, 1) := by decide +kernel
theorem dX7_isNew_0 : decode cX7_isNew 0 = .ok (.aload_n 0, 1) := by decide +kernel
theorem dX7_isNew_1 : decode cX7_isNew 1 = .ok (.iload_n 1, 1) := by decide +kernel
theorem dX7_isNew_2 : decode cX7_isNew 2 = .ok (.invokevirtual 70, 3) := by decide +kernel
theorem dX7_isNew_5 : decode cX7_isNew 5 = .ok (.ifCond .ne 16, 3) := by decide +kernel
theorem dX7_isNew_8 : decode cX7_isNew 8 = .ok (.aload_n 0, 1) := by decide +kernel
theorem dX7_isNew_9 : decode cX7_isNew 9 = .ok (.getfield 22, 3) := by decide +kernel
theorem dX7_isNew_12 : decode cX7_isNew 12 = .ok (.iload_n 1, 1) := by decide +kernel
theorem dX7_isNew_13 : decode cX7_isNew 13 = .ok (.baload, 1) := by decide +kernel
theorem dX7_isNew_14 : decode cX7_isNew 14 = .ok (.ifCond .ne 7, 3) := by decide +kernel
theorem dX7_isNew_17 : decode cX7_isNew 17 = .ok (.iconst 1, 1) := by decide +kernel
theorem dX7_isNew_18 : decode cX7_isNew 18 = .ok (.goto 4, 3) := by decide +kernel
theorem dX7_isNew_21 : decode cX7_isNew 21 = .ok (.iconst 0, 1) := by decide +kernel
theorem dX7_isNew_22 : decode cX7_isNew 22 = .ok (.istore_n 2, 1) := by decide +kernel
theorem dX7_isNew_23 : decode cX7_isNew 23 = .ok (.aload_n 0, 1) := by decide +kernel
theorem dX7_isNew_24 : decode cX7_isNew 24 = .ok (.getfield 22, 3) := by decide +kernel
theorem dX7_isNew_27 : decode cX7_isNew 27 = .ok (.iload_n 1, 1) := by decide +kernel
theorem dX7_isNew_28 : decode cX7_isNew 28 = .ok (.dup2, 1) := by decide +kernel
theorem dX7_isNew_29 : decode cX7_isNew 29 = .ok (.baload, 1) := by decide +kernel
theorem dX7_isNew_30 : decode cX7_isNew 30 = .ok (.iload_n 2, 1) := by decide +kernel
theorem dX7_isNew_31 : decode cX7_isNew 31 = .ok (.ior, 1) := by decide +kernel
theorem dX7_isNew_32 : decode cX7_isNew 32 = .ok (.bastore, 1) := by decide +kernel
theorem dX7_isNew_33 : decode cX7_isNew 33 = .ok (.iload_n 2, 1) := by decide +kernel
theorem dX7_isNew_34 : decode cX7_isNew 34 = .ok (.ireturn, 1) := by decide +kernel
theorem dX7_spreads_0 : decode cX7_spreads 0 = .ok (.iload_n 2, 1) := by decide +kernel
theorem dX7_spreads_1 : decode cX7_spreads 1 = .ok (.istore_n 3, 1) := by decide +kernel
theorem dX7_spreads_2 : decode cX7_spreads 2 = .ok (.iload_n 1, 1) := by decide +kernel
theorem dX7_spreads_3 : decode cX7_spreads 3 = .ok (.bipush 8, 2) := by decide +kernel
theorem dX7_spreads_5 : decode cX7_spreads 5 = .ok (.if_icmp .lt 27, 3) := by decide +kernel
theorem dX7_spreads_8 : decode cX7_spreads 8 = .ok (.aload_n 0, 1) := by decide +kernel
theorem dX7_spreads_9 : decode cX7_spreads 9 = .ok (.iload_n 1, 1) := by decide +kernel
theorem dX7_spreads_10 : decode cX7_spreads 10 = .ok (.bipush 8, 2) := by decide +kernel
theorem dX7_spreads_12 : decode cX7_spreads 12 = .ok (.isub, 1) := by decide +kernel
theorem dX7_spreads_13 : decode cX7_spreads 13 = .ok (.invokevirtual 163, 3) := by decide +kernel
theorem dX7_spreads_16 : decode cX7_spreads 16 = .ok (.ifCond .eq 16, 3) := by decide +kernel
theorem dX7_spreads_19 : decode cX7_spreads 19 = .ok (.aload_n 0, 1) := by decide +kernel
theorem dX7_spreads_20 : decode cX7_spreads 20 = .ok (.getfield 26, 3) := by decide +kernel
theorem dX7_spreads_23 : decode cX7_spreads 23 = .ok (.iload_n 3, 1) := by decide +kernel
theorem dX7_spreads_24 : decode cX7_spreads 24 = .ok (.iload_n 1, 1) := by decide +kernel
theorem dX7_spreads_25 : decode cX7_spreads 25 = .ok (.bipush 8, 2) := by decide +kernel
theorem dX7_spreads_27 : decode cX7_spreads 27 = .ok (.isub, 1) := by decide +kernel
theorem dX7_spreads_28 : decode cX7_spreads 28 = .ok (.iastore, 1) := by decide +kernel
theorem dX7_spreads_29 : decode cX7_spreads 29 = .ok (.iinc 3 1, 3) := by decide +kernel
theorem dX7_spreads_32 : decode cX7_spreads 32 = .ok (.iload_n 1, 1) := by decide +kernel
theorem dX7_spreads_33 : decode cX7_spreads 33 = .ok (.bipush 8, 2) := by decide +kernel
theorem dX7_spreads_35 : decode cX7_spreads 35 = .ok (.irem, 1) := by decide +kernel
theorem dX7_spreads_36 : decode cX7_spreads 36 = .ok (.bipush 7, 2) := by decide +kernel
theorem dX7_spreads_38 : decode cX7_spreads 38 = .ok (.if_icmp .ge 25, 3) := by decide +kernel
theorem dX7_spreads_41 : decode cX7_spreads 41 = .ok (.aload_n 0, 1) := by decide +kernel
theorem dX7_spreads_42 : decode cX7_spreads 42 = .ok (.iload_n 1, 1) := by decide +kernel
theorem dX7_spreads_43 : decode cX7_spreads 43 = .ok (.iconst 1, 1) := by decide +kernel
theorem dX7_spreads_44 : decode cX7_spreads 44 = .ok (.iadd, 1) := by decide +kernel
theorem dX7_spreads_45 : decode cX7_spreads 45 = .ok (.invokevirtual 163, 3) := by decide +kernel
theorem dX7_spreads_48 : decode cX7_spreads 48 = .ok (.ifCond .eq 15, 3) := by decide +kernel
theorem dX7_spreads_51 : decode cX7_spreads 51 = .ok (.aload_n 0, 1) := by decide +kernel
theorem dX7_spreads_52 : decode cX7_spreads 52 = .ok (.getfield 26, 3) := by decide +kernel
theorem dX7_spreads_55 : decode cX7_spreads 55 = .ok (.iload_n 3, 1) := by decide +kernel
theorem dX7_spreads_56 : decode cX7_spreads 56 = .ok (.iload_n 1, 1) := by decide +kernel
theorem dX7_spreads_57 : decode cX7_spreads 57 = .ok (.iconst 1, 1) := by decide +kernel
theorem dX7_spreads_58 : decode cX7_spreads 58 = .ok (.iadd, 1) := by decide +kernel
theorem dX7_spreads_59 : decode cX7_spreads 59 = .ok (.iastore, 1) := by decide +kernel
theorem dX7_spreads_60 : decode cX7_spreads 60 = .ok (.iinc 3 1, 3) := by decide +kernel
theorem dX7_spreads_63 : decode cX7_spreads 63 = .ok (.iload_n 1, 1) := by decide +kernel
theorem dX7_spreads_64 : decode cX7_spreads 64 = .ok (.bipush 40, 2) := by decide +kernel
theorem dX7_spreads_66 : decode cX7_spreads 66 = .ok (.if_icmp .ge 27, 3) := by decide +kernel
theorem dX7_spreads_69 : decode cX7_spreads 69 = .ok (.aload_n 0, 1) := by decide +kernel
theorem dX7_spreads_70 : decode cX7_spreads 70 = .ok (.iload_n 1, 1) := by decide +kernel
theorem dX7_spreads_71 : decode cX7_spreads 71 = .ok (.bipush 8, 2) := by decide +kernel
theorem dX7_spreads_73 : decode cX7_spreads 73 = .ok (.iadd, 1) := by decide +kernel
theorem dX7_spreads_74 : decode cX7_spreads 74 = .ok (.invokevirtual 163, 3) := by decide +kernel
theorem dX7_spreads_77 : decode cX7_spreads 77 = .ok (.ifCond .eq 16, 3) := by decide +kernel
theorem dX7_spreads_80 : decode cX7_spreads 80 = .ok (.aload_n 0, 1) := by decide +kernel
theorem dX7_spreads_81 : decode cX7_spreads 81 = .ok (.getfield 26, 3) := by decide +kernel
theorem dX7_spreads_84 : decode cX7_spreads 84 = .ok (.iload_n 3, 1) := by decide +kernel
theorem dX7_spreads_85 : decode cX7_spreads 85 = .ok (.iload_n 1, 1) := by decide +kernel
theorem dX7_spreads_86 : decode cX7_spreads 86 = .ok (.bipush 8, 2) := by decide +kernel
theorem dX7_spreads_88 : decode cX7_spreads 88 = .ok (.iadd, 1) := by decide +kernel
theorem dX7_spreads_89 : decode cX7_spreads 89 = .ok (.iastore, 1) := by decide +kernel
theorem dX7_spreads_90 : decode cX7_spreads 90 = .ok (.iinc 3 1, 3) := by decide +kernel
theorem dX7_spreads_93 : decode cX7_spreads 93 = .ok (.iload_n 1, 1) := by decide +kernel
theorem dX7_spreads_94 : decode cX7_spreads 94 = .ok (.bipush 8, 2) := by decide +kernel
theorem dX7_spreads_96 : decode cX7_spreads 96 = .ok (.irem, 1) := by decide +kernel
theorem dX7_spreads_97 : decode cX7_spreads 97 = .ok (.ifCond .le 25, 3) := by decide +kernel
theorem dX7_spreads_100 : decode cX7_spreads 100 = .ok (.aload_n 0, 1) := by decide +kernel
theorem dX7_spreads_101 : decode cX7_spreads 101 = .ok (.iload_n 1, 1) := by decide +kernel
theorem dX7_spreads_102 : decode cX7_spreads 102 = .ok (.iconst 1, 1) := by decide +kernel
theorem dX7_spreads_103 : decode cX7_spreads 103 = .ok (.isub, 1) := by decide +kernel
theorem dX7_spreads_104 : decode cX7_spreads 104 = .ok (.invokevirtual 163, 3) := by decide +kernel
theorem dX7_spreads_107 : decode cX7_spreads 107 = .ok (.ifCond .eq 15, 3) := by decide +kernel
theorem dX7_spreads_110 : decode cX7_spreads 110 = .ok (.aload_n 0, 1) := by decide +kernel
theorem dX7_spreads_111 : decode cX7_spreads 111 = .ok (.getfield 26, 3) := by decide +kernel
theorem dX7_spreads_114 : decode cX7_spreads 114 = .ok (.iload_n 3, 1) := by decide +kernel
theorem dX7_spreads_115 : decode cX7_spreads 115 = .ok (.iload_n 1, 1) := by decide +kernel
theorem dX7_spreads_116 : decode cX7_spreads 116 = .ok (.iconst 1, 1) := by decide +kernel
theorem dX7_spreads_117 : decode cX7_spreads 117 = .ok (.isub, 1) := by decide +kernel
theorem dX7_spreads_118 : decode cX7_spreads 118 = .ok (.iastore, 1) := by decide +kernel
theorem dX7_spreads_119 : decode cX7_spreads 119 = .ok (.iinc 3 1, 3) := by decide +kernel
theorem dX7_spreads_122 : decode cX7_spreads 122 = .ok (.iload_n 3, 1) := by decide +kernel
theorem dX7_spreads_123 : decode cX7_spreads 123 = .ok (.ireturn, 1) := by decide +kernel
theorem dX7_way_0 : decode cX7_way 0 = .ok (.iload_n 1, 1) := by decide +kernel
theorem dX7_way_1 : decode cX7_way 1 = .ok (.invokestatic 83, 3) := by decide +kernel
theorem dX7_way_4 : decode cX7_way 4 = .ok (.ifCond .eq 10, 3) := by decide +kernel
theorem dX7_way_7 : decode cX7_way 7 = .ok (.iload_n 2, 1) := by decide +kernel
theorem dX7_way_8 : decode cX7_way 8 = .ok (.invokestatic 83, 3) := by decide +kernel
theorem dX7_way_11 : decode cX7_way 11 = .ok (.ifCond .ne 10, 3) := by decide +kernel
theorem dX7_way_14 : decode cX7_way 14 = .ok (.aload_n 0, 1) := by decide +kernel
theorem dX7_way_15 : decode cX7_way 15 = .ok (.ldc 42, 2) := by decide +kernel
theorem dX7_way_17 : decode cX7_way 17 = .ok (.invokevirtual 44, 3) := by decide +kernel
theorem dX7_way_20 : decode cX7_way 20 = .ok (.ireturn, 1) := by decide +kernel
theorem dX7_way_21 : decode cX7_way 21 = .ok (.iconst 0, 1) := by decide +kernel
theorem dX7_way_22 : decode cX7_way 22 = .ok (.istore_n 3, 1) := by decide +kernel
theorem dX7_way_23 : decode cX7_way 23 = .ok (.iload_n 3, 1) := by decide +kernel
theorem dX7_way_24 : decode cX7_way 24 = .ok (.bipush 48, 2) := by decide +kernel
theorem dX7_way_26 : decode cX7_way 26 = .ok (.if_icmp .ge 16, 3) := by decide +kernel
theorem dX7_way_29 : decode cX7_way 29 = .ok (.aload_n 0, 1) := by decide +kernel
theorem dX7_way_30 : decode cX7_way 30 = .ok (.getfield 22, 3) := by decide +kernel
theorem dX7_way_33 : decode cX7_way 33 = .ok (.iload_n 3, 1) := by decide +kernel
theorem dX7_way_34 : decode cX7_way 34 = .ok (.iconst 0, 1) := by decide +kernel
theorem dX7_way_35 : decode cX7_way 35 = .ok (.bastore, 1) := by decide +kernel
theorem dX7_way_36 : decode cX7_way 36 = .ok (.iinc 3 1, 3) := by decide +kernel
theorem dX7_way_39 : decode cX7_way 39 = .ok (.goto (-16), 3) := by decide +kernel
theorem dX7_way_42 : decode cX7_way 42 = .ok (.aload_n 0, 1) := by decide +kernel
theorem dX7_way_43 : decode cX7_way 43 = .ok (.iload_n 1, 1) := by decide +kernel
theorem dX7_way_44 : decode cX7_way 44 = .ok (.invokevirtual 163, 3) := by decide +kernel
theorem dX7_way_47 : decode cX7_way 47 = .ok (.ifCond .eq 7, 3) := by decide +kernel
theorem dX7_way_50 : decode cX7_way 50 = .ok (.iconst 1, 1) := by decide +kernel
theorem dX7_way_51 : decode cX7_way 51 = .ok (.goto 4, 3) := by decide +kernel
theorem dX7_way_54 : decode cX7_way 54 = .ok (.iconst 0, 1) := by decide +kernel
theorem dX7_way_55 : decode cX7_way 55 = .ok (.istore_n 3, 1) := by decide +kernel
theorem dX7_way_56 : decode cX7_way 56 = .ok (.aload_n 0, 1) := by decide +kernel
theorem dX7_way_57 : decode cX7_way 57 = .ok (.getfield 26, 3) := by decide +kernel
theorem dX7_way_60 : decode cX7_way 60 = .ok (.iconst 0, 1) := by decide +kernel
theorem dX7_way_61 : decode cX7_way 61 = .ok (.iload_n 1, 1) := by decide +kernel
theorem dX7_way_62 : decode cX7_way 62 = .ok (.iastore, 1) := by decide +kernel
theorem dX7_way_63 : decode cX7_way 63 = .ok (.iconst 0, 1) := by decide +kernel
theorem dX7_way_64 : decode cX7_way 64 = .ok (.istore 4, 2) := by decide +kernel
theorem dX7_way_66 : decode cX7_way 66 = .ok (.iconst 0, 1) := by decide +kernel
theorem dX7_way_67 : decode cX7_way 67 = .ok (.istore 5, 2) := by decide +kernel
theorem dX7_way_69 : decode cX7_way 69 = .ok (.iload 4, 2) := by decide +kernel
theorem dX7_way_71 : decode cX7_way 71 = .ok (.iload_n 3, 1) := by decide +kernel
theorem dX7_way_72 : decode cX7_way 72 = .ok (.if_icmp .ge 47, 3) := by decide +kernel
theorem dX7_way_75 : decode cX7_way 75 = .ok (.aload_n 0, 1) := by decide +kernel
theorem dX7_way_76 : decode cX7_way 76 = .ok (.getfield 22, 3) := by decide +kernel
theorem dX7_way_79 : decode cX7_way 79 = .ok (.iload_n 2, 1) := by decide +kernel
theorem dX7_way_80 : decode cX7_way 80 = .ok (.baload, 1) := by decide +kernel
theorem dX7_way_81 : decode cX7_way 81 = .ok (.ifCond .ne 38, 3) := by decide +kernel
theorem dX7_way_84 : decode cX7_way 84 = .ok (.iload_n 3, 1) := by decide +kernel
theorem dX7_way_85 : decode cX7_way 85 = .ok (.istore 6, 2) := by decide +kernel
theorem dX7_way_87 : decode cX7_way 87 = .ok (.iload 4, 2) := by decide +kernel
theorem dX7_way_89 : decode cX7_way 89 = .ok (.iload 6, 2) := by decide +kernel
theorem dX7_way_91 : decode cX7_way 91 = .ok (.if_icmp .ge 22, 3) := by decide +kernel
theorem dX7_way_94 : decode cX7_way 94 = .ok (.aload_n 0, 1) := by decide +kernel
theorem dX7_way_95 : decode cX7_way 95 = .ok (.aload_n 0, 1) := by decide +kernel
theorem dX7_way_96 : decode cX7_way 96 = .ok (.getfield 26, 3) := by decide +kernel
theorem dX7_way_99 : decode cX7_way 99 = .ok (.iload 4, 2) := by decide +kernel
theorem dX7_way_101 : decode cX7_way 101 = .ok (.iaload, 1) := by decide +kernel
theorem dX7_way_102 : decode cX7_way 102 = .ok (.iload_n 3, 1) := by decide +kernel
theorem dX7_way_103 : decode cX7_way 103 = .ok (.invokevirtual 166, 3) := by decide +kernel
theorem dX7_way_106 : decode cX7_way 106 = .ok (.istore_n 3, 1) := by decide +kernel
theorem dX7_way_107 : decode cX7_way 107 = .ok (.iinc 4 1, 3) := by decide +kernel
theorem dX7_way_110 : decode cX7_way 110 = .ok (.goto (-23), 3) := by decide +kernel
theorem dX7_way_113 : decode cX7_way 113 = .ok (.iinc 5 1, 3) := by decide +kernel
theorem dX7_way_116 : decode cX7_way 116 = .ok (.goto (-47), 3) := by decide +kernel
theorem dX7_way_119 : decode cX7_way 119 = .ok (.aload_n 0, 1) := by decide +kernel
theorem dX7_way_120 : decode cX7_way 120 = .ok (.getfield 22, 3) := by decide +kernel
theorem dX7_way_123 : decode cX7_way 123 = .ok (.iload_n 2, 1) := by decide +kernel
theorem dX7_way_124 : decode cX7_way 124 = .ok (.baload, 1) := by decide +kernel
theorem dX7_way_125 : decode cX7_way 125 = .ok (.ifCond .eq 8, 3) := by decide +kernel
theorem dX7_way_128 : decode cX7_way 128 = .ok (.iload 5, 2) := by decide +kernel
theorem dX7_way_130 : decode cX7_way 130 = .ok (.goto 9, 3) := by decide +kernel
theorem dX7_way_133 : decode cX7_way 133 = .ok (.aload_n 0, 1) := by decide +kernel
theorem dX7_way_134 : decode cX7_way 134 = .ok (.ldc 43, 2) := by decide +kernel
theorem dX7_way_136 : decode cX7_way 136 = .ok (.invokevirtual 44, 3) := by decide +kernel
theorem dX7_way_139 : decode cX7_way 139 = .ok (.ireturn, 1) := by decide +kernel
theorem dX7_feed_0 : decode cX7_feed 0 = .ok (.iload_n 2, 1) := by decide +kernel
theorem dX7_feed_1 : decode cX7_feed 1 = .ok (.i2l, 1) := by decide +kernel
theorem dX7_feed_2 : decode cX7_feed 2 = .ok (.iconst 1, 1) := by decide +kernel
theorem dX7_feed_3 : decode cX7_feed 3 = .ok (.iconst 4, 1) := by decide +kernel
theorem dX7_feed_4 : decode cX7_feed 4 = .ok (.invokestatic 48, 3) := by decide +kernel
theorem dX7_feed_7 : decode cX7_feed 7 = .ok (.ifCond .ne 10, 3) := by decide +kernel
theorem dX7_feed_10 : decode cX7_feed 10 = .ok (.aload_n 0, 1) := by decide +kernel
theorem dX7_feed_11 : decode cX7_feed 11 = .ok (.ldc 42, 2) := by decide +kernel
theorem dX7_feed_13 : decode cX7_feed 13 = .ok (.invokevirtual 44, 3) := by decide +kernel
theorem dX7_feed_16 : decode cX7_feed 16 = .ok (.ireturn, 1) := by decide +kernel
theorem dX7_feed_17 : decode cX7_feed 17 = .ok (.aload_n 0, 1) := by decide +kernel
theorem dX7_feed_18 : decode cX7_feed 18 = .ok (.getfield 169, 3) := by decide +kernel
theorem dX7_feed_21 : decode cX7_feed 21 = .ok (.iload_n 2, 1) := by decide +kernel
theorem dX7_feed_22 : decode cX7_feed 22 = .ok (.iadd, 1) := by decide +kernel
theorem dX7_feed_23 : decode cX7_feed 23 = .ok (.bipush 120, 2) := by decide +kernel
theorem dX7_feed_25 : decode cX7_feed 25 = .ok (.if_icmp .le 10, 3) := by decide +kernel
theorem dX7_feed_28 : decode cX7_feed 28 = .ok (.aload_n 0, 1) := by decide +kernel
theorem dX7_feed_29 : decode cX7_feed 29 = .ok (.ldc 101, 2) := by decide +kernel
theorem dX7_feed_31 : decode cX7_feed 31 = .ok (.invokevirtual 44, 3) := by decide +kernel
theorem dX7_feed_34 : decode cX7_feed 34 = .ok (.ireturn, 1) := by decide +kernel
theorem dX7_feed_35 : decode cX7_feed 35 = .ok (.iload_n 2, 1) := by decide +kernel
theorem dX7_feed_36 : decode cX7_feed 36 = .ok (.iconst 1, 1) := by decide +kernel
theorem dX7_feed_37 : decode cX7_feed 37 = .ok (.isub, 1) := by decide +kernel
theorem dX7_feed_38 : decode cX7_feed 38 = .ok (.istore_n 3, 1) := by decide +kernel
theorem dX7_feed_39 : decode cX7_feed 39 = .ok (.iload_n 3, 1) := by decide +kernel
theorem dX7_feed_40 : decode cX7_feed 40 = .ok (.ifCond .lt 38, 3) := by decide +kernel
theorem dX7_feed_43 : decode cX7_feed 43 = .ok (.aload_n 0, 1) := by decide +kernel
theorem dX7_feed_44 : decode cX7_feed 44 = .ok (.getfield 29, 3) := by decide +kernel
theorem dX7_feed_47 : decode cX7_feed 47 = .ok (.aload_n 0, 1) := by decide +kernel
theorem dX7_feed_48 : decode cX7_feed 48 = .ok (.getfield 169, 3) := by decide +kernel
theorem dX7_feed_51 : decode cX7_feed 51 = .ok (.iload_n 1, 1) := by decide +kernel
theorem dX7_feed_52 : decode cX7_feed 52 = .ok (.bipush 8, 2) := by decide +kernel
theorem dX7_feed_54 : decode cX7_feed 54 = .ok (.iload_n 3, 1) := by decide +kernel
theorem dX7_feed_55 : decode cX7_feed 55 = .ok (.imul, 1) := by decide +kernel
theorem dX7_feed_56 : decode cX7_feed 56 = .ok (.ishr, 1) := by decide +kernel
theorem dX7_feed_57 : decode cX7_feed 57 = .ok (.sipush 255, 3) := by decide +kernel
theorem dX7_feed_60 : decode cX7_feed 60 = .ok (.iand, 1) := by decide +kernel
theorem dX7_feed_61 : decode cX7_feed 61 = .ok (.iastore, 1) := by decide +kernel
theorem dX7_feed_62 : decode cX7_feed 62 = .ok (.aload_n 0, 1) := by decide +kernel
theorem dX7_feed_63 : decode cX7_feed 63 = .ok (.dup, 1) := by decide +kernel
theorem dX7_feed_64 : decode cX7_feed 64 = .ok (.getfield 169, 3) := by decide +kernel
theorem dX7_feed_67 : decode cX7_feed 67 = .ok (.iconst 1, 1) := by decide +kernel
theorem dX7_feed_68 : decode cX7_feed 68 = .ok (.iadd, 1) := by decide +kernel
theorem dX7_feed_69 : decode cX7_feed 69 = .ok (.putfield 169, 3) := by decide +kernel
theorem dX7_feed_72 : decode cX7_feed 72 = .ok (.iinc 3 (-1), 3) := by decide +kernel
theorem dX7_feed_75 : decode cX7_feed 75 = .ok (.goto (-36), 3) := by decide +kernel
theorem dX7_feed_78 : decode cX7_feed 78 = .ok (.aload_n 0, 1) := by decide +kernel
theorem dX7_feed_79 : decode cX7_feed 79 = .ok (.getfield 169, 3) := by decide +kernel
theorem dX7_feed_82 : decode cX7_feed 82 = .ok (.ireturn, 1) := by decide +kernel
theorem dX7_wipe_0 : decode cX7_wipe 0 = .ok (.aload_n 0, 1) := by decide +kernel
theorem dX7_wipe_1 : decode cX7_wipe 1 = .ok (.getfield 169, 3) := by decide +kernel
theorem dX7_wipe_4 : decode cX7_wipe 4 = .ok (.istore_n 1, 1) := by decide +kernel
theorem dX7_wipe_5 : decode cX7_wipe 5 = .ok (.aload_n 0, 1) := by decide +kernel
theorem dX7_wipe_6 : decode cX7_wipe 6 = .ok (.iconst 0, 1) := by decide +kernel
theorem dX7_wipe_7 : decode cX7_wipe 7 = .ok (.putfield 169, 3) := by decide +kernel
theorem dX7_wipe_10 : decode cX7_wipe 10 = .ok (.iload_n 1, 1) := by decide +kernel
theorem dX7_wipe_11 : decode cX7_wipe 11 = .ok (.ireturn, 1) := by decide +kernel
theorem dX7_isByte_0 : decode cX7_isByte 0 = .ok (.iload_n 1, 1) := by decide +kernel
theorem dX7_isByte_1 : decode cX7_isByte 1 = .ok (.aload_n 0, 1) := by decide +kernel
theorem dX7_isByte_2 : decode cX7_isByte 2 = .ok (.getfield 169, 3) := by decide +kernel
theorem dX7_isByte_5 : decode cX7_isByte 5 = .ok (.if_icmp .ge 22, 3) := by decide +kernel
theorem dX7_isByte_8 : decode cX7_isByte 8 = .ok (.aload_n 0, 1) := by decide +kernel
theorem dX7_isByte_9 : decode cX7_isByte 9 = .ok (.getfield 29, 3) := by decide +kernel
theorem dX7_isByte_12 : decode cX7_isByte 12 = .ok (.iload_n 1, 1) := by decide +kernel
theorem dX7_isByte_13 : decode cX7_isByte 13 = .ok (.iaload, 1) := by decide +kernel
theorem dX7_isByte_14 : decode cX7_isByte 14 = .ok (.i2l, 1) := by decide +kernel
theorem dX7_isByte_15 : decode cX7_isByte 15 = .ok (.iload_n 2, 1) := by decide +kernel
theorem dX7_isByte_16 : decode cX7_isByte 16 = .ok (.iload_n 3, 1) := by decide +kernel
theorem dX7_isByte_17 : decode cX7_isByte 17 = .ok (.invokestatic 48, 3) := by decide +kernel
theorem dX7_isByte_20 : decode cX7_isByte 20 = .ok (.ifCond .eq 7, 3) := by decide +kernel
theorem dX7_isByte_23 : decode cX7_isByte 23 = .ok (.iconst 1, 1) := by decide +kernel
theorem dX7_isByte_24 : decode cX7_isByte 24 = .ok (.goto 4, 3) := by decide +kernel
theorem dX7_isByte_27 : decode cX7_isByte 27 = .ok (.iconst 0, 1) := by decide +kernel
theorem dX7_isByte_28 : decode cX7_isByte 28 = .ok (.ireturn, 1) := by decide +kernel
theorem dX7_isName_0 : decode cX7_isName 0 = .ok (.iload_n 2, 1) := by decide +kernel
theorem dX7_isName_1 : decode cX7_isName 1 = .ok (.bipush 7, 2) := by decide +kernel
theorem dX7_isName_3 : decode cX7_isName 3 = .ok (.if_icmp .gt 26, 3) := by decide +kernel
theorem dX7_isName_6 : decode cX7_isName 6 = .ok (.iload_n 2, 1) := by decide +kernel
theorem dX7_isName_7 : decode cX7_isName 7 = .ok (.bipush 7, 2) := by decide +kernel
theorem dX7_isName_9 : decode cX7_isName 9 = .ok (.if_icmp .eq 16, 3) := by decide +kernel
theorem dX7_isName_12 : decode cX7_isName 12 = .ok (.getstatic 173, 3) := by decide +kernel
theorem dX7_isName_15 : decode cX7_isName 15 = .ok (.bipush 7, 2) := by decide +kernel
theorem dX7_isName_17 : decode cX7_isName 17 = .ok (.iload_n 1, 1) := by decide +kernel
theorem dX7_isName_18 : decode cX7_isName 18 = .ok (.imul, 1) := by decide +kernel
theorem dX7_isName_19 : decode cX7_isName 19 = .ok (.iload_n 2, 1) := by decide +kernel
theorem dX7_isName_20 : decode cX7_isName 20 = .ok (.iadd, 1) := by decide +kernel
theorem dX7_isName_21 : decode cX7_isName 21 = .ok (.iaload, 1) := by decide +kernel
theorem dX7_isName_22 : decode cX7_isName 22 = .ok (.ifCond .ne 7, 3) := by decide +kernel
theorem dX7_isName_25 : decode cX7_isName 25 = .ok (.iconst 1, 1) := by decide +kernel
theorem dX7_isName_26 : decode cX7_isName 26 = .ok (.goto 4, 3) := by decide +kernel
theorem dX7_isName_29 : decode cX7_isName 29 = .ok (.iconst 0, 1) := by decide +kernel
theorem dX7_isName_30 : decode cX7_isName 30 = .ok (.istore_n 3, 1) := by decide +kernel
theorem dX7_isName_31 : decode cX7_isName 31 = .ok (.iconst 0, 1) := by decide +kernel
theorem dX7_isName_32 : decode cX7_isName 32 = .ok (.istore 4, 2) := by decide +kernel
theorem dX7_isName_34 : decode cX7_isName 34 = .ok (.iload 4, 2) := by decide +kernel
theorem dX7_isName_36 : decode cX7_isName 36 = .ok (.iload_n 2, 1) := by decide +kernel
theorem dX7_isName_37 : decode cX7_isName 37 = .ok (.if_icmp .ge 45, 3) := by decide +kernel
theorem dX7_isName_40 : decode cX7_isName 40 = .ok (.iload_n 3, 1) := by decide +kernel
theorem dX7_isName_41 : decode cX7_isName 41 = .ok (.ifCond .eq 41, 3) := by decide +kernel
theorem dX7_isName_44 : decode cX7_isName 44 = .ok (.getstatic 173, 3) := by decide +kernel
theorem dX7_isName_47 : decode cX7_isName 47 = .ok (.bipush 7, 2) := by decide +kernel
theorem dX7_isName_49 : decode cX7_isName 49 = .ok (.iload_n 1, 1) := by decide +kernel
theorem dX7_isName_50 : decode cX7_isName 50 = .ok (.imul, 1) := by decide +kernel
theorem dX7_isName_51 : decode cX7_isName 51 = .ok (.iload 4, 2) := by decide +kernel
theorem dX7_isName_53 : decode cX7_isName 53 = .ok (.iadd, 1) := by decide +kernel
theorem dX7_isName_54 : decode cX7_isName 54 = .ok (.iaload, 1) := by decide +kernel
theorem dX7_isName_55 : decode cX7_isName 55 = .ok (.aload_n 0, 1) := by decide +kernel
theorem dX7_isName_56 : decode cX7_isName 56 = .ok (.getfield 29, 3) := by decide +kernel
theorem dX7_isName_59 : decode cX7_isName 59 = .ok (.aload_n 0, 1) := by decide +kernel
theorem dX7_isName_60 : decode cX7_isName 60 = .ok (.getfield 176, 3) := by decide +kernel
theorem dX7_isName_63 : decode cX7_isName 63 = .ok (.iload 4, 2) := by decide +kernel
theorem dX7_isName_65 : decode cX7_isName 65 = .ok (.iadd, 1) := by decide +kernel
theorem dX7_isName_66 : decode cX7_isName 66 = .ok (.iaload, 1) := by decide +kernel
theorem dX7_isName_67 : decode cX7_isName 67 = .ok (.if_icmp .ne 7, 3) := by decide +kernel
theorem dX7_isName_70 : decode cX7_isName 70 = .ok (.iconst 1, 1) := by decide +kernel
theorem dX7_isName_71 : decode cX7_isName 71 = .ok (.goto 4, 3) := by decide +kernel
theorem dX7_isName_74 : decode cX7_isName 74 = .ok (.iconst 0, 1) := by decide +kernel
theorem dX7_isName_75 : decode cX7_isName 75 = .ok (.istore_n 3, 1) := by decide +kernel
theorem dX7_isName_76 : decode cX7_isName 76 = .ok (.iinc 4 1, 3) := by decide +kernel
theorem dX7_isName_79 : decode cX7_isName 79 = .ok (.goto (-45), 3) := by decide +kernel
theorem dX7_isName_82 : decode cX7_isName 82 = .ok (.iload_n 3, 1) := by decide +kernel
theorem dX7_isName_83 : decode cX7_isName 83 = .ok (.ireturn, 1) := by decide +kernel
theorem dX7_wordHere_0 : decode cX7_wordHere 0 = .ok (.iconst 0, 1) := by decide +kernel
theorem dX7_wordHere_1 : decode cX7_wordHere 1 = .ok (.istore_n 1, 1) := by decide +kernel
theorem dX7_wordHere_2 : decode cX7_wordHere 2 = .ok (.iload_n 1, 1) := by decide +kernel
theorem dX7_wordHere_3 : decode cX7_wordHere 3 = .ok (.bipush 16, 2) := by decide +kernel
theorem dX7_wordHere_5 : decode cX7_wordHere 5 = .ok (.if_icmp .ge 26, 3) := by decide +kernel
theorem dX7_wordHere_8 : decode cX7_wordHere 8 = .ok (.aload_n 0, 1) := by decide +kernel
theorem dX7_wordHere_9 : decode cX7_wordHere 9 = .ok (.iload_n 1, 1) := by decide +kernel
theorem dX7_wordHere_10 : decode cX7_wordHere 10 = .ok (.aload_n 0, 1) := by decide +kernel
theorem dX7_wordHere_11 : decode cX7_wordHere 11 = .ok (.getfield 179, 3) := by decide +kernel
theorem dX7_wordHere_14 : decode cX7_wordHere 14 = .ok (.aload_n 0, 1) := by decide +kernel
theorem dX7_wordHere_15 : decode cX7_wordHere 15 = .ok (.getfield 176, 3) := by decide +kernel
theorem dX7_wordHere_18 : decode cX7_wordHere 18 = .ok (.isub, 1) := by decide +kernel
theorem dX7_wordHere_19 : decode cX7_wordHere 19 = .ok (.invokevirtual 182, 3) := by decide +kernel
theorem dX7_wordHere_22 : decode cX7_wordHere 22 = .ok (.ifCond .ne 9, 3) := by decide +kernel
theorem dX7_wordHere_25 : decode cX7_wordHere 25 = .ok (.iinc 1 1, 3) := by decide +kernel
theorem dX7_wordHere_28 : decode cX7_wordHere 28 = .ok (.goto (-26), 3) := by decide +kernel
theorem dX7_wordHere_31 : decode cX7_wordHere 31 = .ok (.iload_n 1, 1) := by decide +kernel
theorem dX7_wordHere_32 : decode cX7_wordHere 32 = .ok (.bipush 16, 2) := by decide +kernel
theorem dX7_wordHere_34 : decode cX7_wordHere 34 = .ok (.if_icmp .ge 7, 3) := by decide +kernel
theorem dX7_wordHere_37 : decode cX7_wordHere 37 = .ok (.iload_n 1, 1) := by decide +kernel
theorem dX7_wordHere_38 : decode cX7_wordHere 38 = .ok (.goto 5, 3) := by decide +kernel
theorem dX7_wordHere_41 : decode cX7_wordHere 41 = .ok (.bipush 23, 2) := by decide +kernel
theorem dX7_wordHere_43 : decode cX7_wordHere 43 = .ok (.ireturn, 1) := by decide +kernel
theorem dX7_reads_0 : decode cX7_reads 0 = .ok (.aload_n 0, 1) := by decide +kernel
theorem dX7_reads_1 : decode cX7_reads 1 = .ok (.aload_n 0, 1) := by decide +kernel
theorem dX7_reads_2 : decode cX7_reads 2 = .ok (.getfield 179, 3) := by decide +kernel
theorem dX7_reads_5 : decode cX7_reads 5 = .ok (.bipush 32, 2) := by decide +kernel
theorem dX7_reads_7 : decode cX7_reads 7 = .ok (.bipush 32, 2) := by decide +kernel
theorem dX7_reads_9 : decode cX7_reads 9 = .ok (.invokevirtual 185, 3) := by decide +kernel
theorem dX7_reads_12 : decode cX7_reads 12 = .ok (.ifCond .eq 16, 3) := by decide +kernel
theorem dX7_reads_15 : decode cX7_reads 15 = .ok (.aload_n 0, 1) := by decide +kernel
theorem dX7_reads_16 : decode cX7_reads 16 = .ok (.dup, 1) := by decide +kernel
theorem dX7_reads_17 : decode cX7_reads 17 = .ok (.getfield 179, 3) := by decide +kernel
theorem dX7_reads_20 : decode cX7_reads 20 = .ok (.iconst 1, 1) := by decide +kernel
theorem dX7_reads_21 : decode cX7_reads 21 = .ok (.iadd, 1) := by decide +kernel
theorem dX7_reads_22 : decode cX7_reads 22 = .ok (.putfield 179, 3) := by decide +kernel
theorem dX7_reads_25 : decode cX7_reads 25 = .ok (.goto (-25), 3) := by decide +kernel
theorem dX7_reads_28 : decode cX7_reads 28 = .ok (.aload_n 0, 1) := by decide +kernel
theorem dX7_reads_29 : decode cX7_reads 29 = .ok (.aload_n 0, 1) := by decide +kernel
theorem dX7_reads_30 : decode cX7_reads 30 = .ok (.getfield 179, 3) := by decide +kernel
theorem dX7_reads_33 : decode cX7_reads 33 = .ok (.putfield 176, 3) := by decide +kernel
theorem dX7_reads_36 : decode cX7_reads 36 = .ok (.aload_n 0, 1) := by decide +kernel
theorem dX7_reads_37 : decode cX7_reads 37 = .ok (.iconst 0, 1) := by decide +kernel
theorem dX7_reads_38 : decode cX7_reads 38 = .ok (.putfield 189, 3) := by decide +kernel
theorem dX7_reads_41 : decode cX7_reads 41 = .ok (.aload_n 0, 1) := by decide +kernel
theorem dX7_reads_42 : decode cX7_reads 42 = .ok (.getfield 179, 3) := by decide +kernel
theorem dX7_reads_45 : decode cX7_reads 45 = .ok (.aload_n 0, 1) := by decide +kernel
theorem dX7_reads_46 : decode cX7_reads 46 = .ok (.getfield 169, 3) := by decide +kernel
theorem dX7_reads_49 : decode cX7_reads 49 = .ok (.if_icmp .ne 12, 3) := by decide +kernel
theorem dX7_reads_52 : decode cX7_reads 52 = .ok (.aload_n 0, 1) := by decide +kernel
theorem dX7_reads_53 : decode cX7_reads 53 = .ok (.bipush 22, 2) := by decide +kernel
theorem dX7_reads_55 : decode cX7_reads 55 = .ok (.putfield 192, 3) := by decide +kernel
theorem dX7_reads_58 : decode cX7_reads 58 = .ok (.goto 186, 3) := by decide +kernel
theorem dX7_reads_61 : decode cX7_reads 61 = .ok (.aload_n 0, 1) := by decide +kernel
theorem dX7_reads_62 : decode cX7_reads 62 = .ok (.aload_n 0, 1) := by decide +kernel
theorem dX7_reads_63 : decode cX7_reads 63 = .ok (.getfield 179, 3) := by decide +kernel
theorem dX7_reads_66 : decode cX7_reads 66 = .ok (.bipush 97, 2) := by decide +kernel
theorem dX7_reads_68 : decode cX7_reads 68 = .ok (.bipush 122, 2) := by decide +kernel
theorem dX7_reads_70 : decode cX7_reads 70 = .ok (.invokevirtual 185, 3) := by decide +kernel
theorem dX7_reads_73 : decode cX7_reads 73 = .ok (.ifCond .eq 42, 3) := by decide +kernel
theorem dX7_reads_76 : decode cX7_reads 76 = .ok (.aload_n 0, 1) := by decide +kernel
theorem dX7_reads_77 : decode cX7_reads 77 = .ok (.aload_n 0, 1) := by decide +kernel
theorem dX7_reads_78 : decode cX7_reads 78 = .ok (.getfield 179, 3) := by decide +kernel
theorem dX7_reads_81 : decode cX7_reads 81 = .ok (.bipush 97, 2) := by decide +kernel
theorem dX7_reads_83 : decode cX7_reads 83 = .ok (.bipush 122, 2) := by decide +kernel
theorem dX7_reads_85 : decode cX7_reads 85 = .ok (.invokevirtual 185, 3) := by decide +kernel
theorem dX7_reads_88 : decode cX7_reads 88 = .ok (.ifCond .eq 16, 3) := by decide +kernel
theorem dX7_reads_91 : decode cX7_reads 91 = .ok (.aload_n 0, 1) := by decide +kernel
theorem dX7_reads_92 : decode cX7_reads 92 = .ok (.dup, 1) := by decide +kernel
theorem dX7_reads_93 : decode cX7_reads 93 = .ok (.getfield 179, 3) := by decide +kernel
theorem dX7_reads_96 : decode cX7_reads 96 = .ok (.iconst 1, 1) := by decide +kernel
theorem dX7_reads_97 : decode cX7_reads 97 = .ok (.iadd, 1) := by decide +kernel
theorem dX7_reads_98 : decode cX7_reads 98 = .ok (.putfield 179, 3) := by decide +kernel
theorem dX7_reads_101 : decode cX7_reads 101 = .ok (.goto (-25), 3) := by decide +kernel
theorem dX7_reads_104 : decode cX7_reads 104 = .ok (.aload_n 0, 1) := by decide +kernel
theorem dX7_reads_105 : decode cX7_reads 105 = .ok (.aload_n 0, 1) := by decide +kernel
theorem dX7_reads_106 : decode cX7_reads 106 = .ok (.invokevirtual 195, 3) := by decide +kernel
theorem dX7_reads_109 : decode cX7_reads 109 = .ok (.putfield 192, 3) := by decide +kernel
theorem dX7_reads_112 : decode cX7_reads 112 = .ok (.goto 132, 3) := by decide +kernel
theorem dX7_reads_115 : decode cX7_reads 115 = .ok (.aload_n 0, 1) := by decide +kernel
theorem dX7_reads_116 : decode cX7_reads 116 = .ok (.aload_n 0, 1) := by decide +kernel
theorem dX7_reads_117 : decode cX7_reads 117 = .ok (.getfield 179, 3) := by decide +kernel
theorem dX7_reads_120 : decode cX7_reads 120 = .ok (.bipush 48, 2) := by decide +kernel
theorem dX7_reads_122 : decode cX7_reads 122 = .ok (.bipush 57, 2) := by decide +kernel
theorem dX7_reads_124 : decode cX7_reads 124 = .ok (.invokevirtual 185, 3) := by decide +kernel
theorem dX7_reads_127 : decode cX7_reads 127 = .ok (.ifCond .eq 81, 3) := by decide +kernel
theorem dX7_reads_130 : decode cX7_reads 130 = .ok (.aload_n 0, 1) := by decide +kernel
theorem dX7_reads_131 : decode cX7_reads 131 = .ok (.aload_n 0, 1) := by decide +kernel
theorem dX7_reads_132 : decode cX7_reads 132 = .ok (.getfield 179, 3) := by decide +kernel
theorem dX7_reads_135 : decode cX7_reads 135 = .ok (.bipush 48, 2) := by decide +kernel
theorem dX7_reads_137 : decode cX7_reads 137 = .ok (.bipush 57, 2) := by decide +kernel
theorem dX7_reads_139 : decode cX7_reads 139 = .ok (.invokevirtual 185, 3) := by decide +kernel
theorem dX7_reads_142 : decode cX7_reads 142 = .ok (.ifCond .eq 57, 3) := by decide +kernel
theorem dX7_reads_145 : decode cX7_reads 145 = .ok (.aload_n 0, 1) := by decide +kernel
theorem dX7_reads_146 : decode cX7_reads 146 = .ok (.aload_n 0, 1) := by decide +kernel
theorem dX7_reads_147 : decode cX7_reads 147 = .ok (.getfield 189, 3) := by decide +kernel
theorem dX7_reads_150 : decode cX7_reads 150 = .ok (.sipush 999, 3) := by decide +kernel
theorem dX7_reads_153 : decode cX7_reads 153 = .ok (.if_icmp .le 10, 3) := by decide +kernel
theorem dX7_reads_156 : decode cX7_reads 156 = .ok (.aload_n 0, 1) := by decide +kernel
theorem dX7_reads_157 : decode cX7_reads 157 = .ok (.getfield 189, 3) := by decide +kernel
theorem dX7_reads_160 : decode cX7_reads 160 = .ok (.goto 23, 3) := by decide +kernel
theorem dX7_reads_163 : decode cX7_reads 163 = .ok (.bipush 10, 2) := by decide +kernel
theorem dX7_reads_165 : decode cX7_reads 165 = .ok (.aload_n 0, 1) := by decide +kernel
theorem dX7_reads_166 : decode cX7_reads 166 = .ok (.getfield 189, 3) := by decide +kernel
theorem dX7_reads_169 : decode cX7_reads 169 = .ok (.imul, 1) := by decide +kernel
theorem dX7_reads_170 : decode cX7_reads 170 = .ok (.aload_n 0, 1) := by decide +kernel
theorem dX7_reads_171 : decode cX7_reads 171 = .ok (.getfield 29, 3) := by decide +kernel
theorem dX7_reads_174 : decode cX7_reads 174 = .ok (.aload_n 0, 1) := by decide +kernel
theorem dX7_reads_175 : decode cX7_reads 175 = .ok (.getfield 179, 3) := by decide +kernel
theorem dX7_reads_178 : decode cX7_reads 178 = .ok (.iaload, 1) := by decide +kernel
theorem dX7_reads_179 : decode cX7_reads 179 = .ok (.iadd, 1) := by decide +kernel
theorem dX7_reads_180 : decode cX7_reads 180 = .ok (.bipush 48, 2) := by decide +kernel
theorem dX7_reads_182 : decode cX7_reads 182 = .ok (.isub, 1) := by decide +kernel
theorem dX7_reads_183 : decode cX7_reads 183 = .ok (.putfield 189, 3) := by decide +kernel
theorem dX7_reads_186 : decode cX7_reads 186 = .ok (.aload_n 0, 1) := by decide +kernel
theorem dX7_reads_187 : decode cX7_reads 187 = .ok (.dup, 1) := by decide +kernel
theorem dX7_reads_188 : decode cX7_reads 188 = .ok (.getfield 179, 3) := by decide +kernel
theorem dX7_reads_191 : decode cX7_reads 191 = .ok (.iconst 1, 1) := by decide +kernel
theorem dX7_reads_192 : decode cX7_reads 192 = .ok (.iadd, 1) := by decide +kernel
theorem dX7_reads_193 : decode cX7_reads 193 = .ok (.putfield 179, 3) := by decide +kernel
theorem dX7_reads_196 : decode cX7_reads 196 = .ok (.goto (-66), 3) := by decide +kernel
theorem dX7_reads_199 : decode cX7_reads 199 = .ok (.aload_n 0, 1) := by decide +kernel
theorem dX7_reads_200 : decode cX7_reads 200 = .ok (.bipush 20, 2) := by decide +kernel
theorem dX7_reads_202 : decode cX7_reads 202 = .ok (.putfield 192, 3) := by decide +kernel
theorem dX7_reads_205 : decode cX7_reads 205 = .ok (.goto 39, 3) := by decide +kernel
theorem dX7_reads_208 : decode cX7_reads 208 = .ok (.aload_n 0, 1) := by decide +kernel
theorem dX7_reads_209 : decode cX7_reads 209 = .ok (.aload_n 0, 1) := by decide +kernel
theorem dX7_reads_210 : decode cX7_reads 210 = .ok (.aload_n 0, 1) := by decide +kernel
theorem dX7_reads_211 : decode cX7_reads 211 = .ok (.getfield 179, 3) := by decide +kernel
theorem dX7_reads_214 : decode cX7_reads 214 = .ok (.bipush 59, 2) := by decide +kernel
theorem dX7_reads_216 : decode cX7_reads 216 = .ok (.bipush 59, 2) := by decide +kernel
theorem dX7_reads_218 : decode cX7_reads 218 = .ok (.invokevirtual 185, 3) := by decide +kernel
theorem dX7_reads_221 : decode cX7_reads 221 = .ok (.ifCond .eq 8, 3) := by decide +kernel
theorem dX7_reads_224 : decode cX7_reads 224 = .ok (.bipush 21, 2) := by decide +kernel
theorem dX7_reads_226 : decode cX7_reads 226 = .ok (.goto 5, 3) := by decide +kernel
theorem dX7_reads_229 : decode cX7_reads 229 = .ok (.bipush 23, 2) := by decide +kernel
theorem dX7_reads_231 : decode cX7_reads 231 = .ok (.putfield 192, 3) := by decide +kernel
theorem dX7_reads_234 : decode cX7_reads 234 = .ok (.aload_n 0, 1) := by decide +kernel
theorem dX7_reads_235 : decode cX7_reads 235 = .ok (.dup, 1) := by decide +kernel
theorem dX7_reads_236 : decode cX7_reads 236 = .ok (.getfield 179, 3) := by decide +kernel
theorem dX7_reads_239 : decode cX7_reads 239 = .ok (.iconst 1, 1) := by decide +kernel
theorem dX7_reads_240 : decode cX7_reads 240 = .ok (.iadd, 1) := by decide +kernel
theorem dX7_reads_241 : decode cX7_reads 241 = .ok (.putfield 179, 3) := by decide +kernel
theorem dX7_reads_244 : decode cX7_reads 244 = .ok (.return_, 1) := by decide +kernel
theorem dX7_passes_0 : decode cX7_passes 0 = .ok (.aload_n 0, 1) := by decide +kernel
theorem dX7_passes_1 : decode cX7_passes 1 = .ok (.getfield 199, 3) := by decide +kernel
theorem dX7_passes_4 : decode cX7_passes 4 = .ok (.ifCond .ne 11, 3) := by decide +kernel
theorem dX7_passes_7 : decode cX7_passes 7 = .ok (.aload_n 0, 1) := by decide +kernel
theorem dX7_passes_8 : decode cX7_passes 8 = .ok (.getfield 192, 3) := by decide +kernel
theorem dX7_passes_11 : decode cX7_passes 11 = .ok (.iload_n 1, 1) := by decide +kernel
theorem dX7_passes_12 : decode cX7_passes 12 = .ok (.if_icmp .eq 5, 3) := by decide +kernel
theorem dX7_passes_15 : decode cX7_passes 15 = .ok (.iconst 0, 1) := by decide +kernel
theorem dX7_passes_16 : decode cX7_passes 16 = .ok (.ireturn, 1) := by decide +kernel
theorem dX7_passes_17 : decode cX7_passes 17 = .ok (.aload_n 0, 1) := by decide +kernel
theorem dX7_passes_18 : decode cX7_passes 18 = .ok (.invokevirtual 203, 3) := by decide +kernel
theorem dX7_passes_21 : decode cX7_passes 21 = .ok (.iconst 1, 1) := by decide +kernel
theorem dX7_passes_22 : decode cX7_passes 22 = .ok (.ireturn, 1) := by decide +kernel
theorem dX7_number_0 : decode cX7_number 0 = .ok (.aload_n 0, 1) := by decide +kernel
theorem dX7_number_1 : decode cX7_number 1 = .ok (.getfield 189, 3) := by decide +kernel
theorem dX7_number_4 : decode cX7_number 4 = .ok (.istore_n 3, 1) := by decide +kernel
theorem dX7_number_5 : decode cX7_number 5 = .ok (.aload_n 0, 1) := by decide +kernel
theorem dX7_number_6 : decode cX7_number 6 = .ok (.aload_n 0, 1) := by decide +kernel
theorem dX7_number_7 : decode cX7_number 7 = .ok (.getfield 199, 3) := by decide +kernel
theorem dX7_number_10 : decode cX7_number 10 = .ok (.ifCond .ne 22, 3) := by decide +kernel
theorem dX7_number_13 : decode cX7_number 13 = .ok (.aload_n 0, 1) := by decide +kernel
theorem dX7_number_14 : decode cX7_number 14 = .ok (.getfield 192, 3) := by decide +kernel
theorem dX7_number_17 : decode cX7_number 17 = .ok (.bipush 20, 2) := by decide +kernel
theorem dX7_number_19 : decode cX7_number 19 = .ok (.if_icmp .ne 13, 3) := by decide +kernel
theorem dX7_number_22 : decode cX7_number 22 = .ok (.iload_n 3, 1) := by decide +kernel
theorem dX7_number_23 : decode cX7_number 23 = .ok (.i2l, 1) := by decide +kernel
theorem dX7_number_24 : decode cX7_number 24 = .ok (.iload_n 1, 1) := by decide +kernel
theorem dX7_number_25 : decode cX7_number 25 = .ok (.iload_n 2, 1) := by decide +kernel
theorem dX7_number_26 : decode cX7_number 26 = .ok (.invokestatic 48, 3) := by decide +kernel
theorem dX7_number_29 : decode cX7_number 29 = .ok (.ifCond .ne 7, 3) := by decide +kernel
theorem dX7_number_32 : decode cX7_number 32 = .ok (.iconst 1, 1) := by decide +kernel
theorem dX7_number_33 : decode cX7_number 33 = .ok (.goto 4, 3) := by decide +kernel
theorem dX7_number_36 : decode cX7_number 36 = .ok (.iconst 0, 1) := by decide +kernel
theorem dX7_number_37 : decode cX7_number 37 = .ok (.putfield 199, 3) := by decide +kernel
theorem dX7_number_40 : decode cX7_number 40 = .ok (.aload_n 0, 1) := by decide +kernel
theorem dX7_number_41 : decode cX7_number 41 = .ok (.getfield 199, 3) := by decide +kernel
theorem dX7_number_44 : decode cX7_number 44 = .ok (.ifCond .ne 7, 3) := by decide +kernel
theorem dX7_number_47 : decode cX7_number 47 = .ok (.aload_n 0, 1) := by decide +kernel
theorem dX7_number_48 : decode cX7_number 48 = .ok (.invokevirtual 203, 3) := by decide +kernel
theorem dX7_number_51 : decode cX7_number 51 = .ok (.iload_n 3, 1) := by decide +kernel
theorem dX7_number_52 : decode cX7_number 52 = .ok (.ireturn, 1) := by decide +kernel
theorem dX7_perhaps_0 : decode cX7_perhaps 0 = .ok (.aload_n 0, 1) := by decide +kernel
theorem dX7_perhaps_1 : decode cX7_perhaps 1 = .ok (.iload_n 1, 1) := by decide +kernel
theorem dX7_perhaps_2 : decode cX7_perhaps 2 = .ok (.invokevirtual 206, 3) := by decide +kernel
theorem dX7_perhaps_5 : decode cX7_perhaps 5 = .ok (.ifCond .eq 12, 3) := by decide +kernel
theorem dX7_perhaps_8 : decode cX7_perhaps 8 = .ok (.aload_n 0, 1) := by decide +kernel
theorem dX7_perhaps_9 : decode cX7_perhaps 9 = .ok (.iload_n 2, 1) := by decide +kernel
theorem dX7_perhaps_10 : decode cX7_perhaps 10 = .ok (.iload_n 3, 1) := by decide +kernel
theorem dX7_perhaps_11 : decode cX7_perhaps 11 = .ok (.invokevirtual 209, 3) := by decide +kernel
theorem dX7_perhaps_14 : decode cX7_perhaps 14 = .ok (.goto 5, 3) := by decide +kernel
theorem dX7_perhaps_17 : decode cX7_perhaps 17 = .ok (.iload 4, 2) := by decide +kernel
theorem dX7_perhaps_19 : decode cX7_perhaps 19 = .ok (.ireturn, 1) := by decide +kernel
theorem dX7_thingItem_0 : decode cX7_thingItem 0 = .ok (.aload_n 0, 1) := by decide +kernel
theorem dX7_thingItem_1 : decode cX7_thingItem 1 = .ok (.getfield 192, 3) := by decide +kernel
theorem dX7_thingItem_4 : decode cX7_thingItem 4 = .ok (.istore_n 1, 1) := by decide +kernel
theorem dX7_thingItem_5 : decode cX7_thingItem 5 = .ok (.aload_n 0, 1) := by decide +kernel
theorem dX7_thingItem_6 : decode cX7_thingItem 6 = .ok (.aload_n 0, 1) := by decide +kernel
theorem dX7_thingItem_7 : decode cX7_thingItem 7 = .ok (.getfield 9, 3) := by decide +kernel
theorem dX7_thingItem_10 : decode cX7_thingItem 10 = .ok (.iconst 3, 1) := by decide +kernel
theorem dX7_thingItem_11 : decode cX7_thingItem 11 = .ok (.iaload, 1) := by decide +kernel
theorem dX7_thingItem_12 : decode cX7_thingItem 12 = .ok (.bipush 8, 2) := by decide +kernel
theorem dX7_thingItem_14 : decode cX7_thingItem 14 = .ok (.if_icmp .ne 7, 3) := by decide +kernel
theorem dX7_thingItem_17 : decode cX7_thingItem 17 = .ok (.iconst 1, 1) := by decide +kernel
theorem dX7_thingItem_18 : decode cX7_thingItem 18 = .ok (.goto 4, 3) := by decide +kernel
theorem dX7_thingItem_21 : decode cX7_thingItem 21 = .ok (.iconst 0, 1) := by decide +kernel
theorem dX7_thingItem_22 : decode cX7_thingItem 22 = .ok (.putfield 199, 3) := by decide +kernel
theorem dX7_thingItem_25 : decode cX7_thingItem 25 = .ok (.aload_n 0, 1) := by decide +kernel
theorem dX7_thingItem_26 : decode cX7_thingItem 26 = .ok (.getfield 199, 3) := by decide +kernel
theorem dX7_thingItem_29 : decode cX7_thingItem 29 = .ok (.ifCond .eq 4, 3) := by decide +kernel
theorem dX7_thingItem_32 : decode cX7_thingItem 32 = .ok (.return_, 1) := by decide +kernel
theorem dX7_thingItem_33 : decode cX7_thingItem 33 = .ok (.aload_n 0, 1) := by decide +kernel
theorem dX7_thingItem_34 : decode cX7_thingItem 34 = .ok (.invokevirtual 203, 3) := by decide +kernel
theorem dX7_thingItem_37 : decode cX7_thingItem 37 = .ok (.aload_n 0, 1) := by decide +kernel
theorem dX7_thingItem_38 : decode cX7_thingItem 38 = .ok (.aload_n 0, 1) := by decide +kernel
theorem dX7_thingItem_39 : decode cX7_thingItem 39 = .ok (.bipush 6, 2) := by decide +kernel
theorem dX7_thingItem_41 : decode cX7_thingItem 41 = .ok (.invokevirtual 206, 3) := by decide +kernel
theorem dX7_thingItem_44 : decode cX7_thingItem 44 = .ok (.ifCond .ne 7, 3) := by decide +kernel
theorem dX7_thingItem_47 : decode cX7_thingItem 47 = .ok (.iconst 1, 1) := by decide +kernel
theorem dX7_thingItem_48 : decode cX7_thingItem 48 = .ok (.goto 4, 3) := by decide +kernel
theorem dX7_thingItem_51 : decode cX7_thingItem 51 = .ok (.iconst 0, 1) := by decide +kernel
theorem dX7_thingItem_52 : decode cX7_thingItem 52 = .ok (.putfield 199, 3) := by decide +kernel
theorem dX7_thingItem_55 : decode cX7_thingItem 55 = .ok (.aload_n 0, 1) := by decide +kernel
theorem dX7_thingItem_56 : decode cX7_thingItem 56 = .ok (.iconst 0, 1) := by decide +kernel
theorem dX7_thingItem_57 : decode cX7_thingItem 57 = .ok (.bipush 7, 2) := by decide +kernel
theorem dX7_thingItem_59 : decode cX7_thingItem 59 = .ok (.invokevirtual 209, 3) := by decide +kernel
theorem dX7_thingItem_62 : decode cX7_thingItem 62 = .ok (.istore_n 2, 1) := by decide +kernel
theorem dX7_thingItem_63 : decode cX7_thingItem 63 = .ok (.aload_n 0, 1) := by decide +kernel
theorem dX7_thingItem_64 : decode cX7_thingItem 64 = .ok (.bipush 7, 2) := by decide +kernel
theorem dX7_thingItem_66 : decode cX7_thingItem 66 = .ok (.iconst 1, 1) := by decide +kernel
theorem dX7_thingItem_67 : decode cX7_thingItem 67 = .ok (.bipush 6, 2) := by decide +kernel
theorem dX7_thingItem_69 : decode cX7_thingItem 69 = .ok (.iconst 3, 1) := by decide +kernel
theorem dX7_thingItem_70 : decode cX7_thingItem 70 = .ok (.invokevirtual 212, 3) := by decide +kernel
theorem dX7_thingItem_73 : decode cX7_thingItem 73 = .ok (.istore_n 3, 1) := by decide +kernel
theorem dX7_thingItem_74 : decode cX7_thingItem 74 = .ok (.aload_n 0, 1) := by decide +kernel
theorem dX7_thingItem_75 : decode cX7_thingItem 75 = .ok (.bipush 8, 2) := by decide +kernel
theorem dX7_thingItem_77 : decode cX7_thingItem 77 = .ok (.iconst 0, 1) := by decide +kernel
theorem dX7_thingItem_78 : decode cX7_thingItem 78 = .ok (.bipush 99, 2) := by decide +kernel
theorem dX7_thingItem_80 : decode cX7_thingItem 80 = .ok (.bipush 40, 2) := by decide +kernel
theorem dX7_thingItem_82 : decode cX7_thingItem 82 = .ok (.invokevirtual 212, 3) := by decide +kernel
theorem dX7_thingItem_85 : decode cX7_thingItem 85 = .ok (.istore 4, 2) := by decide +kernel
theorem dX7_thingItem_87 : decode cX7_thingItem 87 = .ok (.aload_n 0, 1) := by decide +kernel
theorem dX7_thingItem_88 : decode cX7_thingItem 88 = .ok (.bipush 9, 2) := by decide +kernel
theorem dX7_thingItem_90 : decode cX7_thingItem 90 = .ok (.iconst 0, 1) := by decide +kernel
theorem dX7_thingItem_91 : decode cX7_thingItem 91 = .ok (.bipush 9, 2) := by decide +kernel
theorem dX7_thingItem_93 : decode cX7_thingItem 93 = .ok (.iconst 1, 1) := by decide +kernel
theorem dX7_thingItem_94 : decode cX7_thingItem 94 = .ok (.invokevirtual 212, 3) := by decide +kernel
theorem dX7_thingItem_97 : decode cX7_thingItem 97 = .ok (.istore 5, 2) := by decide +kernel
theorem dX7_thingItem_99 : decode cX7_thingItem 99 = .ok (.aload_n 0, 1) := by decide +kernel
theorem dX7_thingItem_100 : decode cX7_thingItem 100 = .ok (.getfield 199, 3) := by decide +kernel
theorem dX7_thingItem_103 : decode cX7_thingItem 103 = .ok (.ifCond .ne 15, 3) := by decide +kernel
theorem dX7_thingItem_106 : decode cX7_thingItem 106 = .ok (.aload_n 0, 1) := by decide +kernel
theorem dX7_thingItem_107 : decode cX7_thingItem 107 = .ok (.iload_n 1, 1) := by decide +kernel
theorem dX7_thingItem_108 : decode cX7_thingItem 108 = .ok (.iload_n 2, 1) := by decide +kernel
theorem dX7_thingItem_109 : decode cX7_thingItem 109 = .ok (.iload_n 3, 1) := by decide +kernel
theorem dX7_thingItem_110 : decode cX7_thingItem 110 = .ok (.iload 4, 2) := by decide +kernel
theorem dX7_thingItem_112 : decode cX7_thingItem 112 = .ok (.iload 5, 2) := by decide +kernel
theorem dX7_thingItem_114 : decode cX7_thingItem 114 = .ok (.invokevirtual 102, 3) := by decide +kernel
theorem dX7_thingItem_117 : decode cX7_thingItem 117 = .ok (.pop, 1) := by decide +kernel
theorem dX7_thingItem_118 : decode cX7_thingItem 118 = .ok (.return_, 1) := by decide +kernel
theorem dX7_boatItem_0 : decode cX7_boatItem 0 = .ok (.aload_n 0, 1) := by decide +kernel
theorem dX7_boatItem_1 : decode cX7_boatItem 1 = .ok (.aload_n 0, 1) := by decide +kernel
theorem dX7_boatItem_2 : decode cX7_boatItem 2 = .ok (.getfield 9, 3) := by decide +kernel
theorem dX7_boatItem_5 : decode cX7_boatItem 5 = .ok (.iconst 4, 1) := by decide +kernel
theorem dX7_boatItem_6 : decode cX7_boatItem 6 = .ok (.iaload, 1) := by decide +kernel
theorem dX7_boatItem_7 : decode cX7_boatItem 7 = .ok (.iconst 5, 1) := by decide +kernel
theorem dX7_boatItem_8 : decode cX7_boatItem 8 = .ok (.if_icmp .ne 7, 3) := by decide +kernel
theorem dX7_boatItem_11 : decode cX7_boatItem 11 = .ok (.iconst 1, 1) := by decide +kernel
theorem dX7_boatItem_12 : decode cX7_boatItem 12 = .ok (.goto 4, 3) := by decide +kernel
theorem dX7_boatItem_15 : decode cX7_boatItem 15 = .ok (.iconst 0, 1) := by decide +kernel
theorem dX7_boatItem_16 : decode cX7_boatItem 16 = .ok (.putfield 199, 3) := by decide +kernel
theorem dX7_boatItem_19 : decode cX7_boatItem 19 = .ok (.aload_n 0, 1) := by decide +kernel
theorem dX7_boatItem_20 : decode cX7_boatItem 20 = .ok (.getfield 199, 3) := by decide +kernel
theorem dX7_boatItem_23 : decode cX7_boatItem 23 = .ok (.ifCond .eq 4, 3) := by decide +kernel
theorem dX7_boatItem_26 : decode cX7_boatItem 26 = .ok (.return_, 1) := by decide +kernel
theorem dX7_boatItem_27 : decode cX7_boatItem 27 = .ok (.aload_n 0, 1) := by decide +kernel
theorem dX7_boatItem_28 : decode cX7_boatItem 28 = .ok (.invokevirtual 203, 3) := by decide +kernel
theorem dX7_boatItem_31 : decode cX7_boatItem 31 = .ok (.aload_n 0, 1) := by decide +kernel
theorem dX7_boatItem_32 : decode cX7_boatItem 32 = .ok (.iconst 0, 1) := by decide +kernel
theorem dX7_boatItem_33 : decode cX7_boatItem 33 = .ok (.bipush 47, 2) := by decide +kernel
theorem dX7_boatItem_35 : decode cX7_boatItem 35 = .ok (.invokevirtual 209, 3) := by decide +kernel
theorem dX7_boatItem_38 : decode cX7_boatItem 38 = .ok (.istore_n 1, 1) := by decide +kernel
theorem dX7_boatItem_39 : decode cX7_boatItem 39 = .ok (.aload_n 0, 1) := by decide +kernel
theorem dX7_boatItem_40 : decode cX7_boatItem 40 = .ok (.bipush 11, 2) := by decide +kernel
theorem dX7_boatItem_42 : decode cX7_boatItem 42 = .ok (.iconst 0, 1) := by decide +kernel
theorem dX7_boatItem_43 : decode cX7_boatItem 43 = .ok (.bipush 99, 2) := by decide +kernel
theorem dX7_boatItem_45 : decode cX7_boatItem 45 = .ok (.bipush 10, 2) := by decide +kernel
theorem dX7_boatItem_47 : decode cX7_boatItem 47 = .ok (.invokevirtual 212, 3) := by decide +kernel
theorem dX7_boatItem_50 : decode cX7_boatItem 50 = .ok (.istore_n 2, 1) := by decide +kernel
theorem dX7_boatItem_51 : decode cX7_boatItem 51 = .ok (.aload_n 0, 1) := by decide +kernel
theorem dX7_boatItem_52 : decode cX7_boatItem 52 = .ok (.getfield 199, 3) := by decide +kernel
theorem dX7_boatItem_55 : decode cX7_boatItem 55 = .ok (.ifCond .ne 10, 3) := by decide +kernel
theorem dX7_boatItem_58 : decode cX7_boatItem 58 = .ok (.aload_n 0, 1) := by decide +kernel
theorem dX7_boatItem_59 : decode cX7_boatItem 59 = .ok (.iload_n 1, 1) := by decide +kernel
theorem dX7_boatItem_60 : decode cX7_boatItem 60 = .ok (.iload_n 2, 1) := by decide +kernel
theorem dX7_boatItem_61 : decode cX7_boatItem 61 = .ok (.invokevirtual 114, 3) := by decide +kernel
theorem dX7_boatItem_64 : decode cX7_boatItem 64 = .ok (.pop, 1) := by decide +kernel
theorem dX7_boatItem_65 : decode cX7_boatItem 65 = .ok (.return_, 1) := by decide +kernel
theorem dX7_windItem_0 : decode cX7_windItem 0 = .ok (.aload_n 0, 1) := by decide +kernel
theorem dX7_windItem_1 : decode cX7_windItem 1 = .ok (.iconst 0, 1) := by decide +kernel
theorem dX7_windItem_2 : decode cX7_windItem 2 = .ok (.bipush 7, 2) := by decide +kernel
theorem dX7_windItem_4 : decode cX7_windItem 4 = .ok (.invokevirtual 209, 3) := by decide +kernel
theorem dX7_windItem_7 : decode cX7_windItem 7 = .ok (.istore_n 2, 1) := by decide +kernel
theorem dX7_windItem_8 : decode cX7_windItem 8 = .ok (.aload_n 0, 1) := by decide +kernel
theorem dX7_windItem_9 : decode cX7_windItem 9 = .ok (.getfield 199, 3) := by decide +kernel
theorem dX7_windItem_12 : decode cX7_windItem 12 = .ok (.ifCond .ne 25, 3) := by decide +kernel
theorem dX7_windItem_15 : decode cX7_windItem 15 = .ok (.aload_n 0, 1) := by decide +kernel
theorem dX7_windItem_16 : decode cX7_windItem 16 = .ok (.getfield 9, 3) := by decide +kernel
theorem dX7_windItem_19 : decode cX7_windItem 19 = .ok (.iconst 1, 1) := by decide +kernel
theorem dX7_windItem_20 : decode cX7_windItem 20 = .ok (.aload_n 0, 1) := by decide +kernel
theorem dX7_windItem_21 : decode cX7_windItem 21 = .ok (.getfield 9, 3) := by decide +kernel
theorem dX7_windItem_24 : decode cX7_windItem 24 = .ok (.iconst 1, 1) := by decide +kernel
theorem dX7_windItem_25 : decode cX7_windItem 25 = .ok (.iaload, 1) := by decide +kernel
theorem dX7_windItem_26 : decode cX7_windItem 26 = .ok (.iconst 1, 1) := by decide +kernel
theorem dX7_windItem_27 : decode cX7_windItem 27 = .ok (.iload_n 2, 1) := by decide +kernel
theorem dX7_windItem_28 : decode cX7_windItem 28 = .ok (.ishl, 1) := by decide +kernel
theorem dX7_windItem_29 : decode cX7_windItem 29 = .ok (.iconst (-1), 1) := by decide +kernel
theorem dX7_windItem_30 : decode cX7_windItem 30 = .ok (.ixor, 1) := by decide +kernel
theorem dX7_windItem_31 : decode cX7_windItem 31 = .ok (.iand, 1) := by decide +kernel
theorem dX7_windItem_32 : decode cX7_windItem 32 = .ok (.iload_n 1, 1) := by decide +kernel
theorem dX7_windItem_33 : decode cX7_windItem 33 = .ok (.iload_n 2, 1) := by decide +kernel
theorem dX7_windItem_34 : decode cX7_windItem 34 = .ok (.ishl, 1) := by decide +kernel
theorem dX7_windItem_35 : decode cX7_windItem 35 = .ok (.ior, 1) := by decide +kernel
theorem dX7_windItem_36 : decode cX7_windItem 36 = .ok (.iastore, 1) := by decide +kernel
theorem dX7_windItem_37 : decode cX7_windItem 37 = .ok (.return_, 1) := by decide +kernel
theorem dX7_item_0 : decode cX7_item 0 = .ok (.aload_n 0, 1) := by decide +kernel
theorem dX7_item_1 : decode cX7_item 1 = .ok (.getfield 192, 3) := by decide +kernel
theorem dX7_item_4 : decode cX7_item 4 = .ok (.iconst 5, 1) := by decide +kernel
theorem dX7_item_5 : decode cX7_item 5 = .ok (.if_icmp .gt 10, 3) := by decide +kernel
theorem dX7_item_8 : decode cX7_item 8 = .ok (.aload_n 0, 1) := by decide +kernel
theorem dX7_item_9 : decode cX7_item 9 = .ok (.invokevirtual 215, 3) := by decide +kernel
theorem dX7_item_12 : decode cX7_item 12 = .ok (.goto 96, 3) := by decide +kernel
theorem dX7_item_15 : decode cX7_item 15 = .ok (.aload_n 0, 1) := by decide +kernel
theorem dX7_item_16 : decode cX7_item 16 = .ok (.getfield 192, 3) := by decide +kernel
theorem dX7_item_19 : decode cX7_item 19 = .ok (.bipush 10, 2) := by decide +kernel
theorem dX7_item_21 : decode cX7_item 21 = .ok (.if_icmp .ne 10, 3) := by decide +kernel
theorem dX7_item_24 : decode cX7_item 24 = .ok (.aload_n 0, 1) := by decide +kernel
theorem dX7_item_25 : decode cX7_item 25 = .ok (.invokevirtual 218, 3) := by decide +kernel
theorem dX7_item_28 : decode cX7_item 28 = .ok (.goto 80, 3) := by decide +kernel
theorem dX7_item_31 : decode cX7_item 31 = .ok (.aload_n 0, 1) := by decide +kernel
theorem dX7_item_32 : decode cX7_item 32 = .ok (.bipush 12, 2) := by decide +kernel
theorem dX7_item_34 : decode cX7_item 34 = .ok (.invokevirtual 206, 3) := by decide +kernel
theorem dX7_item_37 : decode cX7_item 37 = .ok (.ifCond .eq 11, 3) := by decide +kernel
theorem dX7_item_40 : decode cX7_item 40 = .ok (.aload_n 0, 1) := by decide +kernel
theorem dX7_item_41 : decode cX7_item 41 = .ok (.iconst 1, 1) := by decide +kernel
theorem dX7_item_42 : decode cX7_item 42 = .ok (.invokevirtual 221, 3) := by decide +kernel
theorem dX7_item_45 : decode cX7_item 45 = .ok (.goto 63, 3) := by decide +kernel
theorem dX7_item_48 : decode cX7_item 48 = .ok (.aload_n 0, 1) := by decide +kernel
theorem dX7_item_49 : decode cX7_item 49 = .ok (.bipush 13, 2) := by decide +kernel
theorem dX7_item_51 : decode cX7_item 51 = .ok (.invokevirtual 206, 3) := by decide +kernel
theorem dX7_item_54 : decode cX7_item 54 = .ok (.ifCond .eq 11, 3) := by decide +kernel
theorem dX7_item_57 : decode cX7_item 57 = .ok (.aload_n 0, 1) := by decide +kernel
theorem dX7_item_58 : decode cX7_item 58 = .ok (.iconst 0, 1) := by decide +kernel
theorem dX7_item_59 : decode cX7_item 59 = .ok (.invokevirtual 221, 3) := by decide +kernel
theorem dX7_item_62 : decode cX7_item 62 = .ok (.goto 46, 3) := by decide +kernel
theorem dX7_item_65 : decode cX7_item 65 = .ok (.aload_n 0, 1) := by decide +kernel
theorem dX7_item_66 : decode cX7_item 66 = .ok (.bipush 14, 2) := by decide +kernel
theorem dX7_item_68 : decode cX7_item 68 = .ok (.invokevirtual 206, 3) := by decide +kernel
theorem dX7_item_71 : decode cX7_item 71 = .ok (.ifCond .eq 13, 3) := by decide +kernel
theorem dX7_item_74 : decode cX7_item 74 = .ok (.aload_n 0, 1) := by decide +kernel
theorem dX7_item_75 : decode cX7_item 75 = .ok (.getfield 9, 3) := by decide +kernel
theorem dX7_item_78 : decode cX7_item 78 = .ok (.iconst 2, 1) := by decide +kernel
theorem dX7_item_79 : decode cX7_item 79 = .ok (.iconst 1, 1) := by decide +kernel
theorem dX7_item_80 : decode cX7_item 80 = .ok (.iastore, 1) := by decide +kernel
theorem dX7_item_81 : decode cX7_item 81 = .ok (.goto 27, 3) := by decide +kernel
theorem dX7_item_84 : decode cX7_item 84 = .ok (.aload_n 0, 1) := by decide +kernel
theorem dX7_item_85 : decode cX7_item 85 = .ok (.bipush 15, 2) := by decide +kernel
theorem dX7_item_87 : decode cX7_item 87 = .ok (.invokevirtual 206, 3) := by decide +kernel
theorem dX7_item_90 : decode cX7_item 90 = .ok (.ifCond .eq 13, 3) := by decide +kernel
theorem dX7_item_93 : decode cX7_item 93 = .ok (.aload_n 0, 1) := by decide +kernel
theorem dX7_item_94 : decode cX7_item 94 = .ok (.getfield 9, 3) := by decide +kernel
theorem dX7_item_97 : decode cX7_item 97 = .ok (.iconst 2, 1) := by decide +kernel
theorem dX7_item_98 : decode cX7_item 98 = .ok (.iconst 0, 1) := by decide +kernel
theorem dX7_item_99 : decode cX7_item 99 = .ok (.iastore, 1) := by decide +kernel
theorem dX7_item_100 : decode cX7_item 100 = .ok (.goto 8, 3) := by decide +kernel
theorem dX7_item_103 : decode cX7_item 103 = .ok (.aload_n 0, 1) := by decide +kernel
theorem dX7_item_104 : decode cX7_item 104 = .ok (.iconst 1, 1) := by decide +kernel
theorem dX7_item_105 : decode cX7_item 105 = .ok (.putfield 199, 3) := by decide +kernel
theorem dX7_item_108 : decode cX7_item 108 = .ok (.return_, 1) := by decide +kernel
theorem dX7_lake_0 : decode cX7_lake 0 = .ok (.aload_n 0, 1) := by decide +kernel
theorem dX7_lake_1 : decode cX7_lake 1 = .ok (.invokevirtual 147, 3) := by decide +kernel
theorem dX7_lake_4 : decode cX7_lake 4 = .ok (.aload_n 0, 1) := by decide +kernel
theorem dX7_lake_5 : decode cX7_lake 5 = .ok (.iconst 0, 1) := by decide +kernel
theorem dX7_lake_6 : decode cX7_lake 6 = .ok (.putfield 179, 3) := by decide +kernel
theorem dX7_lake_9 : decode cX7_lake 9 = .ok (.aload_n 0, 1) := by decide +kernel
theorem dX7_lake_10 : decode cX7_lake 10 = .ok (.iconst 0, 1) := by decide +kernel
theorem dX7_lake_11 : decode cX7_lake 11 = .ok (.putfield 199, 3) := by decide +kernel
theorem dX7_lake_14 : decode cX7_lake 14 = .ok (.aload_n 0, 1) := by decide +kernel
theorem dX7_lake_15 : decode cX7_lake 15 = .ok (.invokevirtual 203, 3) := by decide +kernel
theorem dX7_lake_18 : decode cX7_lake 18 = .ok (.aload_n 0, 1) := by decide +kernel
theorem dX7_lake_19 : decode cX7_lake 19 = .ok (.invokevirtual 224, 3) := by decide +kernel
theorem dX7_lake_22 : decode cX7_lake 22 = .ok (.iconst 1, 1) := by decide +kernel
theorem dX7_lake_23 : decode cX7_lake 23 = .ok (.istore_n 1, 1) := by decide +kernel
theorem dX7_lake_24 : decode cX7_lake 24 = .ok (.aload_n 0, 1) := by decide +kernel
theorem dX7_lake_25 : decode cX7_lake 25 = .ok (.bipush 21, 2) := by decide +kernel
theorem dX7_lake_27 : decode cX7_lake 27 = .ok (.invokevirtual 206, 3) := by decide +kernel
theorem dX7_lake_30 : decode cX7_lake 30 = .ok (.ifCond .eq 13, 3) := by decide +kernel
theorem dX7_lake_33 : decode cX7_lake 33 = .ok (.aload_n 0, 1) := by decide +kernel
theorem dX7_lake_34 : decode cX7_lake 34 = .ok (.invokevirtual 224, 3) := by decide +kernel
theorem dX7_lake_37 : decode cX7_lake 37 = .ok (.iinc 1 1, 3) := by decide +kernel
theorem dX7_lake_40 : decode cX7_lake 40 = .ok (.goto (-16), 3) := by decide +kernel
theorem dX7_lake_43 : decode cX7_lake 43 = .ok (.aload_n 0, 1) := by decide +kernel
theorem dX7_lake_44 : decode cX7_lake 44 = .ok (.aload_n 0, 1) := by decide +kernel
theorem dX7_lake_45 : decode cX7_lake 45 = .ok (.getfield 199, 3) := by decide +kernel
theorem dX7_lake_48 : decode cX7_lake 48 = .ok (.ifCond .ne 12, 3) := by decide +kernel
theorem dX7_lake_51 : decode cX7_lake 51 = .ok (.aload_n 0, 1) := by decide +kernel
theorem dX7_lake_52 : decode cX7_lake 52 = .ok (.getfield 192, 3) := by decide +kernel
theorem dX7_lake_55 : decode cX7_lake 55 = .ok (.bipush 22, 2) := by decide +kernel
theorem dX7_lake_57 : decode cX7_lake 57 = .ok (.if_icmp .eq 7, 3) := by decide +kernel
theorem dX7_lake_60 : decode cX7_lake 60 = .ok (.iconst 1, 1) := by decide +kernel
theorem dX7_lake_61 : decode cX7_lake 61 = .ok (.goto 4, 3) := by decide +kernel
theorem dX7_lake_64 : decode cX7_lake 64 = .ok (.iconst 0, 1) := by decide +kernel
theorem dX7_lake_65 : decode cX7_lake 65 = .ok (.putfield 199, 3) := by decide +kernel
theorem dX7_lake_68 : decode cX7_lake 68 = .ok (.aload_n 0, 1) := by decide +kernel
theorem dX7_lake_69 : decode cX7_lake 69 = .ok (.iconst 0, 1) := by decide +kernel
theorem dX7_lake_70 : decode cX7_lake 70 = .ok (.putfield 169, 3) := by decide +kernel
theorem dX7_lake_73 : decode cX7_lake 73 = .ok (.aload_n 0, 1) := by decide +kernel
theorem dX7_lake_74 : decode cX7_lake 74 = .ok (.getfield 199, 3) := by decide +kernel
theorem dX7_lake_77 : decode cX7_lake 77 = .ok (.ifCond .ne 5, 3) := by decide +kernel
theorem dX7_lake_80 : decode cX7_lake 80 = .ok (.iload_n 1, 1) := by decide +kernel
theorem dX7_lake_81 : decode cX7_lake 81 = .ok (.ireturn, 1) := by decide +kernel
theorem dX7_lake_82 : decode cX7_lake 82 = .ok (.aload_n 0, 1) := by decide +kernel
theorem dX7_lake_83 : decode cX7_lake 83 = .ok (.invokevirtual 150, 3) := by decide +kernel
theorem dX7_lake_86 : decode cX7_lake 86 = .ok (.iconst (-1), 1) := by decide +kernel
theorem dX7_lake_87 : decode cX7_lake 87 = .ok (.aload_n 0, 1) := by decide +kernel
theorem dX7_lake_88 : decode cX7_lake 88 = .ok (.getfield 176, 3) := by decide +kernel
theorem dX7_lake_91 : decode cX7_lake 91 = .ok (.isub, 1) := by decide +kernel
theorem dX7_lake_92 : decode cX7_lake 92 = .ok (.ireturn, 1) := by decide +kernel
theorem dX7_isSheet_0 : decode cX7_isSheet 0 = .ok (.iload_n 0, 1) := by decide +kernel
theorem dX7_isSheet_1 : decode cX7_isSheet 1 = .ok (.i2l, 1) := by decide +kernel
theorem dX7_isSheet_2 : decode cX7_isSheet 2 = .ok (.iconst 0, 1) := by decide +kernel
theorem dX7_isSheet_3 : decode cX7_isSheet 3 = .ok (.iconst 3, 1) := by decide +kernel
theorem dX7_isSheet_4 : decode cX7_isSheet 4 = .ok (.invokestatic 48, 3) := by decide +kernel
theorem dX7_isSheet_7 : decode cX7_isSheet 7 = .ok (.ireturn, 1) := by decide +kernel
theorem dX7_sheet_0 : decode cX7_sheet 0 = .ok (.iload_n 1, 1) := by decide +kernel
theorem dX7_sheet_1 : decode cX7_sheet 1 = .ok (.invokestatic 227, 3) := by decide +kernel
theorem dX7_sheet_4 : decode cX7_sheet 4 = .ok (.ifCond .eq 25, 3) := by decide +kernel
theorem dX7_sheet_7 : decode cX7_sheet 7 = .ok (.iload_n 2, 1) := by decide +kernel
theorem dX7_sheet_8 : decode cX7_sheet 8 = .ok (.ifCond .eq 28, 3) := by decide +kernel
theorem dX7_sheet_11 : decode cX7_sheet 11 = .ok (.iload_n 2, 1) := by decide +kernel
theorem dX7_sheet_12 : decode cX7_sheet 12 = .ok (.bipush 8, 2) := by decide +kernel
theorem dX7_sheet_14 : decode cX7_sheet 14 = .ok (.if_icmp .eq 22, 3) := by decide +kernel
theorem dX7_sheet_17 : decode cX7_sheet 17 = .ok (.iload_n 2, 1) := by decide +kernel
theorem dX7_sheet_18 : decode cX7_sheet 18 = .ok (.bipush 16, 2) := by decide +kernel
theorem dX7_sheet_20 : decode cX7_sheet 20 = .ok (.if_icmp .eq 16, 3) := by decide +kernel
theorem dX7_sheet_23 : decode cX7_sheet 23 = .ok (.iload_n 2, 1) := by decide +kernel
theorem dX7_sheet_24 : decode cX7_sheet 24 = .ok (.bipush 64, 2) := by decide +kernel
theorem dX7_sheet_26 : decode cX7_sheet 26 = .ok (.if_icmp .eq 10, 3) := by decide +kernel
theorem dX7_sheet_29 : decode cX7_sheet 29 = .ok (.aload_n 0, 1) := by decide +kernel
theorem dX7_sheet_30 : decode cX7_sheet 30 = .ok (.ldc 42, 2) := by decide +kernel
theorem dX7_sheet_32 : decode cX7_sheet 32 = .ok (.invokevirtual 44, 3) := by decide +kernel
theorem dX7_sheet_35 : decode cX7_sheet 35 = .ok (.ireturn, 1) := by decide +kernel
theorem dX7_sheet_36 : decode cX7_sheet 36 = .ok (.iload_n 3, 1) := by decide +kernel
theorem dX7_sheet_37 : decode cX7_sheet 37 = .ok (.ifCond .ge 10, 3) := by decide +kernel
theorem dX7_sheet_40 : decode cX7_sheet 40 = .ok (.aload_n 0, 1) := by decide +kernel
theorem dX7_sheet_41 : decode cX7_sheet 41 = .ok (.ldc 230, 2) := by decide +kernel
theorem dX7_sheet_43 : decode cX7_sheet 43 = .ok (.invokevirtual 44, 3) := by decide +kernel
theorem dX7_sheet_46 : decode cX7_sheet 46 = .ok (.ireturn, 1) := by decide +kernel
theorem dX7_sheet_47 : decode cX7_sheet 47 = .ok (.iload_n 3, 1) := by decide +kernel
theorem dX7_sheet_48 : decode cX7_sheet 48 = .ok (.bipush 40, 2) := by decide +kernel
theorem dX7_sheet_50 : decode cX7_sheet 50 = .ok (.if_icmp .le 10, 3) := by decide +kernel
theorem dX7_sheet_53 : decode cX7_sheet 53 = .ok (.aload_n 0, 1) := by decide +kernel
theorem dX7_sheet_54 : decode cX7_sheet 54 = .ok (.ldc 42, 2) := by decide +kernel
theorem dX7_sheet_56 : decode cX7_sheet 56 = .ok (.invokevirtual 44, 3) := by decide +kernel
theorem dX7_sheet_59 : decode cX7_sheet 59 = .ok (.ireturn, 1) := by decide +kernel
theorem dX7_sheet_60 : decode cX7_sheet 60 = .ok (.aload_n 0, 1) := by decide +kernel
theorem dX7_sheet_61 : decode cX7_sheet 61 = .ok (.getfield 32, 3) := by decide +kernel
theorem dX7_sheet_64 : decode cX7_sheet 64 = .ok (.iload_n 1, 1) := by decide +kernel
theorem dX7_sheet_65 : decode cX7_sheet 65 = .ok (.iload_n 2, 1) := by decide +kernel
theorem dX7_sheet_66 : decode cX7_sheet 66 = .ok (.iastore, 1) := by decide +kernel
theorem dX7_sheet_67 : decode cX7_sheet 67 = .ok (.aload_n 0, 1) := by decide +kernel
theorem dX7_sheet_68 : decode cX7_sheet 68 = .ok (.getfield 35, 3) := by decide +kernel
theorem dX7_sheet_71 : decode cX7_sheet 71 = .ok (.iload_n 1, 1) := by decide +kernel
theorem dX7_sheet_72 : decode cX7_sheet 72 = .ok (.iload_n 2, 1) := by decide +kernel
theorem dX7_sheet_73 : decode cX7_sheet 73 = .ok (.ifCond .ne 7, 3) := by decide +kernel
theorem dX7_sheet_76 : decode cX7_sheet 76 = .ok (.iconst 0, 1) := by decide +kernel
theorem dX7_sheet_77 : decode cX7_sheet 77 = .ok (.goto 4, 3) := by decide +kernel
theorem dX7_sheet_80 : decode cX7_sheet 80 = .ok (.iload_n 3, 1) := by decide +kernel
theorem dX7_sheet_81 : decode cX7_sheet 81 = .ok (.iastore, 1) := by decide +kernel
theorem dX7_sheet_82 : decode cX7_sheet 82 = .ok (.iconst 0, 1) := by decide +kernel
theorem dX7_sheet_83 : decode cX7_sheet 83 = .ok (.istore 4, 2) := by decide +kernel
theorem dX7_sheet_85 : decode cX7_sheet 85 = .ok (.iload 4, 2) := by decide +kernel
theorem dX7_sheet_87 : decode cX7_sheet 87 = .ok (.bipush 40, 2) := by decide +kernel
theorem dX7_sheet_89 : decode cX7_sheet 89 = .ok (.if_icmp .ge 22, 3) := by decide +kernel
theorem dX7_sheet_92 : decode cX7_sheet 92 = .ok (.aload_n 0, 1) := by decide +kernel
theorem dX7_sheet_93 : decode cX7_sheet 93 = .ok (.getfield 38, 3) := by decide +kernel
theorem dX7_sheet_96 : decode cX7_sheet 96 = .ok (.bipush 40, 2) := by decide +kernel
theorem dX7_sheet_98 : decode cX7_sheet 98 = .ok (.iload_n 1, 1) := by decide +kernel
theorem dX7_sheet_99 : decode cX7_sheet 99 = .ok (.imul, 1) := by decide +kernel
theorem dX7_sheet_100 : decode cX7_sheet 100 = .ok (.iload 4, 2) := by decide +kernel
theorem dX7_sheet_102 : decode cX7_sheet 102 = .ok (.iadd, 1) := by decide +kernel
theorem dX7_sheet_103 : decode cX7_sheet 103 = .ok (.lconst 0, 1) := by decide +kernel
theorem dX7_sheet_104 : decode cX7_sheet 104 = .ok (.lastore, 1) := by decide +kernel
theorem dX7_sheet_105 : decode cX7_sheet 105 = .ok (.iinc 4 1, 3) := by decide +kernel
theorem dX7_sheet_108 : decode cX7_sheet 108 = .ok (.goto (-23), 3) := by decide +kernel
theorem dX7_sheet_111 : decode cX7_sheet 111 = .ok (.aload_n 0, 1) := by decide +kernel
theorem dX7_sheet_112 : decode cX7_sheet 112 = .ok (.getfield 35, 3) := by decide +kernel
theorem dX7_sheet_115 : decode cX7_sheet 115 = .ok (.iload_n 1, 1) := by decide +kernel
theorem dX7_sheet_116 : decode cX7_sheet 116 = .ok (.iaload, 1) := by decide +kernel
theorem dX7_sheet_117 : decode cX7_sheet 117 = .ok (.ireturn, 1) := by decide +kernel
theorem dX7_notThere_0 : decode cX7_notThere 0 = .ok (.iload_n 1, 1) := by decide +kernel
theorem dX7_notThere_1 : decode cX7_notThere 1 = .ok (.invokestatic 227, 3) := by decide +kernel
theorem dX7_notThere_4 : decode cX7_notThere 4 = .ok (.ifCond .ne 8, 3) := by decide +kernel
theorem dX7_notThere_7 : decode cX7_notThere 7 = .ok (.ldc 42, 2) := by decide +kernel
theorem dX7_notThere_9 : decode cX7_notThere 9 = .ok (.goto 18, 3) := by decide +kernel
theorem dX7_notThere_12 : decode cX7_notThere 12 = .ok (.aload_n 0, 1) := by decide +kernel
theorem dX7_notThere_13 : decode cX7_notThere 13 = .ok (.getfield 32, 3) := by decide +kernel
theorem dX7_notThere_16 : decode cX7_notThere 16 = .ok (.iload_n 1, 1) := by decide +kernel
theorem dX7_notThere_17 : decode cX7_notThere 17 = .ok (.iaload, 1) := by decide +kernel
theorem dX7_notThere_18 : decode cX7_notThere 18 = .ok (.ifCond .ne 8, 3) := by decide +kernel
theorem dX7_notThere_21 : decode cX7_notThere 21 = .ok (.ldc 231, 2) := by decide +kernel
theorem dX7_notThere_23 : decode cX7_notThere 23 = .ok (.goto 4, 3) := by decide +kernel
theorem dX7_notThere_26 : decode cX7_notThere 26 = .ok (.iconst 0, 1) := by decide +kernel
theorem dX7_notThere_27 : decode cX7_notThere 27 = .ok (.ireturn, 1) := by decide +kernel
theorem dX7_cutTo_0 : decode cX7_cutTo 0 = .ok (.iload_n 0, 1) := by decide +kernel
theorem dX7_cutTo_1 : decode cX7_cutTo 1 = .ok (.bipush 8, 2) := by decide +kernel
theorem dX7_cutTo_3 : decode cX7_cutTo 3 = .ok (.if_icmp .ne 10, 3) := by decide +kernel
theorem dX7_cutTo_6 : decode cX7_cutTo 6 = .ok (.lload_n 1, 1) := by decide +kernel
theorem dX7_cutTo_7 : decode cX7_cutTo 7 = .ok (.l2i, 1) := by decide +kernel
theorem dX7_cutTo_8 : decode cX7_cutTo 8 = .ok (.i2b, 1) := by decide +kernel
theorem dX7_cutTo_9 : decode cX7_cutTo 9 = .ok (.i2l, 1) := by decide +kernel
theorem dX7_cutTo_10 : decode cX7_cutTo 10 = .ok (.goto 17, 3) := by decide +kernel
theorem dX7_cutTo_13 : decode cX7_cutTo 13 = .ok (.iload_n 0, 1) := by decide +kernel
theorem dX7_cutTo_14 : decode cX7_cutTo 14 = .ok (.bipush 16, 2) := by decide +kernel
theorem dX7_cutTo_16 : decode cX7_cutTo 16 = .ok (.if_icmp .ne 10, 3) := by decide +kernel
theorem dX7_cutTo_19 : decode cX7_cutTo 19 = .ok (.lload_n 1, 1) := by decide +kernel
theorem dX7_cutTo_20 : decode cX7_cutTo 20 = .ok (.l2i, 1) := by decide +kernel
theorem dX7_cutTo_21 : decode cX7_cutTo 21 = .ok (.i2s, 1) := by decide +kernel
theorem dX7_cutTo_22 : decode cX7_cutTo 22 = .ok (.i2l, 1) := by decide +kernel
theorem dX7_cutTo_23 : decode cX7_cutTo 23 = .ok (.goto 4, 3) := by decide +kernel
theorem dX7_cutTo_26 : decode cX7_cutTo 26 = .ok (.lload_n 1, 1) := by decide +kernel
theorem dX7_cutTo_27 : decode cX7_cutTo 27 = .ok (.lreturn, 1) := by decide +kernel
theorem dX7_write_0 : decode cX7_write 0 = .ok (.aload_n 0, 1) := by decide +kernel
theorem dX7_write_1 : decode cX7_write 1 = .ok (.iload_n 1, 1) := by decide +kernel
theorem dX7_write_2 : decode cX7_write 2 = .ok (.invokevirtual 232, 3) := by decide +kernel
theorem dX7_write_5 : decode cX7_write 5 = .ok (.istore 5, 2) := by decide +kernel
theorem dX7_write_7 : decode cX7_write 7 = .ok (.iload 5, 2) := by decide +kernel
theorem dX7_write_9 : decode cX7_write 9 = .ok (.ifCond .ne 24, 3) := by decide +kernel
theorem dX7_write_12 : decode cX7_write 12 = .ok (.iload_n 2, 1) := by decide +kernel
theorem dX7_write_13 : decode cX7_write 13 = .ok (.i2l, 1) := by decide +kernel
theorem dX7_write_14 : decode cX7_write 14 = .ok (.iconst 0, 1) := by decide +kernel
theorem dX7_write_15 : decode cX7_write 15 = .ok (.aload_n 0, 1) := by decide +kernel
theorem dX7_write_16 : decode cX7_write 16 = .ok (.getfield 35, 3) := by decide +kernel
theorem dX7_write_19 : decode cX7_write 19 = .ok (.iload_n 1, 1) := by decide +kernel
theorem dX7_write_20 : decode cX7_write 20 = .ok (.iaload, 1) := by decide +kernel
theorem dX7_write_21 : decode cX7_write 21 = .ok (.iconst 1, 1) := by decide +kernel
theorem dX7_write_22 : decode cX7_write 22 = .ok (.isub, 1) := by decide +kernel
theorem dX7_write_23 : decode cX7_write 23 = .ok (.invokestatic 48, 3) := by decide +kernel
theorem dX7_write_26 : decode cX7_write 26 = .ok (.ifCond .ne 7, 3) := by decide +kernel
theorem dX7_write_29 : decode cX7_write 29 = .ok (.ldc 42, 2) := by decide +kernel
theorem dX7_write_31 : decode cX7_write 31 = .ok (.istore 5, 2) := by decide +kernel
theorem dX7_write_33 : decode cX7_write 33 = .ok (.iload 5, 2) := by decide +kernel
theorem dX7_write_35 : decode cX7_write 35 = .ok (.ifCond .eq 11, 3) := by decide +kernel
theorem dX7_write_38 : decode cX7_write 38 = .ok (.aload_n 0, 1) := by decide +kernel
theorem dX7_write_39 : decode cX7_write 39 = .ok (.iload 5, 2) := by decide +kernel
theorem dX7_write_41 : decode cX7_write 41 = .ok (.invokevirtual 44, 3) := by decide +kernel
theorem dX7_write_44 : decode cX7_write 44 = .ok (.i2l, 1) := by decide +kernel
theorem dX7_write_45 : decode cX7_write 45 = .ok (.lreturn, 1) := by decide +kernel
theorem dX7_write_46 : decode cX7_write 46 = .ok (.aload_n 0, 1) := by decide +kernel
theorem dX7_write_47 : decode cX7_write 47 = .ok (.getfield 38, 3) := by decide +kernel
theorem dX7_write_50 : decode cX7_write 50 = .ok (.bipush 40, 2) := by decide +kernel
theorem dX7_write_52 : decode cX7_write 52 = .ok (.iload_n 1, 1) := by decide +kernel
theorem dX7_write_53 : decode cX7_write 53 = .ok (.imul, 1) := by decide +kernel
theorem dX7_write_54 : decode cX7_write 54 = .ok (.iload_n 2, 1) := by decide +kernel
theorem dX7_write_55 : decode cX7_write 55 = .ok (.iadd, 1) := by decide +kernel
theorem dX7_write_56 : decode cX7_write 56 = .ok (.laload, 1) := by decide +kernel
theorem dX7_write_57 : decode cX7_write 57 = .ok (.lstore 6, 2) := by decide +kernel
theorem dX7_write_59 : decode cX7_write 59 = .ok (.aload_n 0, 1) := by decide +kernel
theorem dX7_write_60 : decode cX7_write 60 = .ok (.getfield 38, 3) := by decide +kernel
theorem dX7_write_63 : decode cX7_write 63 = .ok (.bipush 40, 2) := by decide +kernel
theorem dX7_write_65 : decode cX7_write 65 = .ok (.iload_n 1, 1) := by decide +kernel
theorem dX7_write_66 : decode cX7_write 66 = .ok (.imul, 1) := by decide +kernel
theorem dX7_write_67 : decode cX7_write 67 = .ok (.iload_n 2, 1) := by decide +kernel
theorem dX7_write_68 : decode cX7_write 68 = .ok (.iadd, 1) := by decide +kernel
theorem dX7_write_69 : decode cX7_write 69 = .ok (.aload_n 0, 1) := by decide +kernel
theorem dX7_write_70 : decode cX7_write 70 = .ok (.getfield 32, 3) := by decide +kernel
theorem dX7_write_73 : decode cX7_write 73 = .ok (.iload_n 1, 1) := by decide +kernel
theorem dX7_write_74 : decode cX7_write 74 = .ok (.iaload, 1) := by decide +kernel
theorem dX7_write_75 : decode cX7_write 75 = .ok (.lload_n 3, 1) := by decide +kernel
theorem dX7_write_76 : decode cX7_write 76 = .ok (.invokestatic 235, 3) := by decide +kernel
theorem dX7_write_79 : decode cX7_write 79 = .ok (.lastore, 1) := by decide +kernel
theorem dX7_write_80 : decode cX7_write 80 = .ok (.lload 6, 2) := by decide +kernel
theorem dX7_write_82 : decode cX7_write 82 = .ok (.lreturn, 1) := by decide +kernel
theorem dX7_notCopied_0 : decode cX7_notCopied 0 = .ok (.iload_n 1, 1) := by decide +kernel
theorem dX7_notCopied_1 : decode cX7_notCopied 1 = .ok (.invokestatic 227, 3) := by decide +kernel
theorem dX7_notCopied_4 : decode cX7_notCopied 4 = .ok (.ifCond .eq 10, 3) := by decide +kernel
theorem dX7_notCopied_7 : decode cX7_notCopied 7 = .ok (.iload_n 3, 1) := by decide +kernel
theorem dX7_notCopied_8 : decode cX7_notCopied 8 = .ok (.invokestatic 227, 3) := by decide +kernel
theorem dX7_notCopied_11 : decode cX7_notCopied 11 = .ok (.ifCond .ne 6, 3) := by decide +kernel
theorem dX7_notCopied_14 : decode cX7_notCopied 14 = .ok (.ldc 42, 2) := by decide +kernel
theorem dX7_notCopied_16 : decode cX7_notCopied 16 = .ok (.ireturn, 1) := by decide +kernel
theorem dX7_notCopied_17 : decode cX7_notCopied 17 = .ok (.aload_n 0, 1) := by decide +kernel
theorem dX7_notCopied_18 : decode cX7_notCopied 18 = .ok (.getfield 32, 3) := by decide +kernel
theorem dX7_notCopied_21 : decode cX7_notCopied 21 = .ok (.iload_n 1, 1) := by decide +kernel
theorem dX7_notCopied_22 : decode cX7_notCopied 22 = .ok (.iaload, 1) := by decide +kernel
theorem dX7_notCopied_23 : decode cX7_notCopied 23 = .ok (.ifCond .eq 12, 3) := by decide +kernel
theorem dX7_notCopied_26 : decode cX7_notCopied 26 = .ok (.aload_n 0, 1) := by decide +kernel
theorem dX7_notCopied_27 : decode cX7_notCopied 27 = .ok (.getfield 32, 3) := by decide +kernel
theorem dX7_notCopied_30 : decode cX7_notCopied 30 = .ok (.iload_n 3, 1) := by decide +kernel
theorem dX7_notCopied_31 : decode cX7_notCopied 31 = .ok (.iaload, 1) := by decide +kernel
theorem dX7_notCopied_32 : decode cX7_notCopied 32 = .ok (.ifCond .ne 6, 3) := by decide +kernel
theorem dX7_notCopied_35 : decode cX7_notCopied 35 = .ok (.ldc 231, 2) := by decide +kernel
theorem dX7_notCopied_37 : decode cX7_notCopied 37 = .ok (.ireturn, 1) := by decide +kernel
theorem dX7_notCopied_38 : decode cX7_notCopied 38 = .ok (.aload_n 0, 1) := by decide +kernel
theorem dX7_notCopied_39 : decode cX7_notCopied 39 = .ok (.getfield 32, 3) := by decide +kernel
theorem dX7_notCopied_42 : decode cX7_notCopied 42 = .ok (.iload_n 1, 1) := by decide +kernel
theorem dX7_notCopied_43 : decode cX7_notCopied 43 = .ok (.iaload, 1) := by decide +kernel
theorem dX7_notCopied_44 : decode cX7_notCopied 44 = .ok (.aload_n 0, 1) := by decide +kernel
theorem dX7_notCopied_45 : decode cX7_notCopied 45 = .ok (.getfield 32, 3) := by decide +kernel
theorem dX7_notCopied_48 : decode cX7_notCopied 48 = .ok (.iload_n 3, 1) := by decide +kernel
theorem dX7_notCopied_49 : decode cX7_notCopied 49 = .ok (.iaload, 1) := by decide +kernel
theorem dX7_notCopied_50 : decode cX7_notCopied 50 = .ok (.if_icmp .eq 6, 3) := by decide +kernel
theorem dX7_notCopied_53 : decode cX7_notCopied 53 = .ok (.ldc 109, 2) := by decide +kernel
theorem dX7_notCopied_55 : decode cX7_notCopied 55 = .ok (.ireturn, 1) := by decide +kernel
theorem dX7_notCopied_56 : decode cX7_notCopied 56 = .ok (.iload 5, 2) := by decide +kernel
theorem dX7_notCopied_58 : decode cX7_notCopied 58 = .ok (.ifCond .lt 43, 3) := by decide +kernel
theorem dX7_notCopied_61 : decode cX7_notCopied 61 = .ok (.iload_n 2, 1) := by decide +kernel
theorem dX7_notCopied_62 : decode cX7_notCopied 62 = .ok (.ifCond .lt 39, 3) := by decide +kernel
theorem dX7_notCopied_65 : decode cX7_notCopied 65 = .ok (.iload 4, 2) := by decide +kernel
theorem dX7_notCopied_67 : decode cX7_notCopied 67 = .ok (.ifCond .lt 34, 3) := by decide +kernel
theorem dX7_notCopied_70 : decode cX7_notCopied 70 = .ok (.iload 5, 2) := by decide +kernel
theorem dX7_notCopied_72 : decode cX7_notCopied 72 = .ok (.aload_n 0, 1) := by decide +kernel
theorem dX7_notCopied_73 : decode cX7_notCopied 73 = .ok (.getfield 35, 3) := by decide +kernel
theorem dX7_notCopied_76 : decode cX7_notCopied 76 = .ok (.iload_n 1, 1) := by decide +kernel
theorem dX7_notCopied_77 : decode cX7_notCopied 77 = .ok (.iaload, 1) := by decide +kernel
theorem dX7_notCopied_78 : decode cX7_notCopied 78 = .ok (.iload_n 2, 1) := by decide +kernel
theorem dX7_notCopied_79 : decode cX7_notCopied 79 = .ok (.isub, 1) := by decide +kernel
theorem dX7_notCopied_80 : decode cX7_notCopied 80 = .ok (.if_icmp .gt 21, 3) := by decide +kernel
theorem dX7_notCopied_83 : decode cX7_notCopied 83 = .ok (.iload 5, 2) := by decide +kernel
theorem dX7_notCopied_85 : decode cX7_notCopied 85 = .ok (.aload_n 0, 1) := by decide +kernel
theorem dX7_notCopied_86 : decode cX7_notCopied 86 = .ok (.getfield 35, 3) := by decide +kernel
theorem dX7_notCopied_89 : decode cX7_notCopied 89 = .ok (.iload_n 3, 1) := by decide +kernel
theorem dX7_notCopied_90 : decode cX7_notCopied 90 = .ok (.iaload, 1) := by decide +kernel
theorem dX7_notCopied_91 : decode cX7_notCopied 91 = .ok (.iload 4, 2) := by decide +kernel
theorem dX7_notCopied_93 : decode cX7_notCopied 93 = .ok (.isub, 1) := by decide +kernel
theorem dX7_notCopied_94 : decode cX7_notCopied 94 = .ok (.if_icmp .gt 7, 3) := by decide +kernel
theorem dX7_notCopied_97 : decode cX7_notCopied 97 = .ok (.iconst 1, 1) := by decide +kernel
theorem dX7_notCopied_98 : decode cX7_notCopied 98 = .ok (.goto 4, 3) := by decide +kernel
theorem dX7_notCopied_101 : decode cX7_notCopied 101 = .ok (.iconst 0, 1) := by decide +kernel
theorem dX7_notCopied_102 : decode cX7_notCopied 102 = .ok (.istore 6, 2) := by decide +kernel
theorem dX7_notCopied_104 : decode cX7_notCopied 104 = .ok (.iload 6, 2) := by decide +kernel
theorem dX7_notCopied_106 : decode cX7_notCopied 106 = .ok (.ifCond .eq 7, 3) := by decide +kernel
theorem dX7_notCopied_109 : decode cX7_notCopied 109 = .ok (.iconst 0, 1) := by decide +kernel
theorem dX7_notCopied_110 : decode cX7_notCopied 110 = .ok (.goto 5, 3) := by decide +kernel
theorem dX7_notCopied_113 : decode cX7_notCopied 113 = .ok (.ldc 42, 2) := by decide +kernel
theorem dX7_notCopied_115 : decode cX7_notCopied 115 = .ok (.ireturn, 1) := by decide +kernel
theorem dX7_copy_0 : decode cX7_copy 0 = .ok (.aload_n 0, 1) := by decide +kernel
theorem dX7_copy_1 : decode cX7_copy 1 = .ok (.iload_n 1, 1) := by decide +kernel
theorem dX7_copy_2 : decode cX7_copy 2 = .ok (.iload_n 2, 1) := by decide +kernel
theorem dX7_copy_3 : decode cX7_copy 3 = .ok (.iload_n 3, 1) := by decide +kernel
theorem dX7_copy_4 : decode cX7_copy 4 = .ok (.iload 4, 2) := by decide +kernel
theorem dX7_copy_6 : decode cX7_copy 6 = .ok (.iload 5, 2) := by decide +kernel
theorem dX7_copy_8 : decode cX7_copy 8 = .ok (.invokevirtual 239, 3) := by decide +kernel
theorem dX7_copy_11 : decode cX7_copy 11 = .ok (.istore 6, 2) := by decide +kernel
theorem dX7_copy_13 : decode cX7_copy 13 = .ok (.iload 6, 2) := by decide +kernel
theorem dX7_copy_15 : decode cX7_copy 15 = .ok (.ifCond .eq 10, 3) := by decide +kernel
theorem dX7_copy_18 : decode cX7_copy 18 = .ok (.aload_n 0, 1) := by decide +kernel
theorem dX7_copy_19 : decode cX7_copy 19 = .ok (.iload 6, 2) := by decide +kernel
theorem dX7_copy_21 : decode cX7_copy 21 = .ok (.invokevirtual 44, 3) := by decide +kernel
theorem dX7_copy_24 : decode cX7_copy 24 = .ok (.ireturn, 1) := by decide +kernel
theorem dX7_copy_25 : decode cX7_copy 25 = .ok (.iconst 0, 1) := by decide +kernel
theorem dX7_copy_26 : decode cX7_copy 26 = .ok (.istore 7, 2) := by decide +kernel
theorem dX7_copy_28 : decode cX7_copy 28 = .ok (.iload 7, 2) := by decide +kernel
theorem dX7_copy_30 : decode cX7_copy 30 = .ok (.iload 5, 2) := by decide +kernel
theorem dX7_copy_32 : decode cX7_copy 32 = .ok (.if_icmp .ge 58, 3) := by decide +kernel
theorem dX7_copy_35 : decode cX7_copy 35 = .ok (.iload_n 2, 1) := by decide +kernel
theorem dX7_copy_36 : decode cX7_copy 36 = .ok (.iload 4, 2) := by decide +kernel
theorem dX7_copy_38 : decode cX7_copy 38 = .ok (.if_icmp .ge 13, 3) := by decide +kernel
theorem dX7_copy_41 : decode cX7_copy 41 = .ok (.iload 5, 2) := by decide +kernel
theorem dX7_copy_43 : decode cX7_copy 43 = .ok (.iconst 1, 1) := by decide +kernel
theorem dX7_copy_44 : decode cX7_copy 44 = .ok (.isub, 1) := by decide +kernel
theorem dX7_copy_45 : decode cX7_copy 45 = .ok (.iload 7, 2) := by decide +kernel
theorem dX7_copy_47 : decode cX7_copy 47 = .ok (.isub, 1) := by decide +kernel
theorem dX7_copy_48 : decode cX7_copy 48 = .ok (.goto 5, 3) := by decide +kernel
theorem dX7_copy_51 : decode cX7_copy 51 = .ok (.iload 7, 2) := by decide +kernel
theorem dX7_copy_53 : decode cX7_copy 53 = .ok (.istore 8, 2) := by decide +kernel
theorem dX7_copy_55 : decode cX7_copy 55 = .ok (.aload_n 0, 1) := by decide +kernel
theorem dX7_copy_56 : decode cX7_copy 56 = .ok (.getfield 38, 3) := by decide +kernel
theorem dX7_copy_59 : decode cX7_copy 59 = .ok (.bipush 40, 2) := by decide +kernel
theorem dX7_copy_61 : decode cX7_copy 61 = .ok (.iload_n 3, 1) := by decide +kernel
theorem dX7_copy_62 : decode cX7_copy 62 = .ok (.imul, 1) := by decide +kernel
theorem dX7_copy_63 : decode cX7_copy 63 = .ok (.iload 4, 2) := by decide +kernel
theorem dX7_copy_65 : decode cX7_copy 65 = .ok (.iadd, 1) := by decide +kernel
theorem dX7_copy_66 : decode cX7_copy 66 = .ok (.iload 8, 2) := by decide +kernel
theorem dX7_copy_68 : decode cX7_copy 68 = .ok (.iadd, 1) := by decide +kernel
theorem dX7_copy_69 : decode cX7_copy 69 = .ok (.aload_n 0, 1) := by decide +kernel
theorem dX7_copy_70 : decode cX7_copy 70 = .ok (.getfield 38, 3) := by decide +kernel
theorem dX7_copy_73 : decode cX7_copy 73 = .ok (.bipush 40, 2) := by decide +kernel
theorem dX7_copy_75 : decode cX7_copy 75 = .ok (.iload_n 1, 1) := by decide +kernel
theorem dX7_copy_76 : decode cX7_copy 76 = .ok (.imul, 1) := by decide +kernel
theorem dX7_copy_77 : decode cX7_copy 77 = .ok (.iload_n 2, 1) := by decide +kernel
theorem dX7_copy_78 : decode cX7_copy 78 = .ok (.iadd, 1) := by decide +kernel
theorem dX7_copy_79 : decode cX7_copy 79 = .ok (.iload 8, 2) := by decide +kernel
theorem dX7_copy_81 : decode cX7_copy 81 = .ok (.iadd, 1) := by decide +kernel
theorem dX7_copy_82 : decode cX7_copy 82 = .ok (.laload, 1) := by decide +kernel
theorem dX7_copy_83 : decode cX7_copy 83 = .ok (.lastore, 1) := by decide +kernel
theorem dX7_copy_84 : decode cX7_copy 84 = .ok (.iinc 7 1, 3) := by decide +kernel
theorem dX7_copy_87 : decode cX7_copy 87 = .ok (.goto (-59), 3) := by decide +kernel
theorem dX7_copy_90 : decode cX7_copy 90 = .ok (.iload 5, 2) := by decide +kernel
theorem dX7_copy_92 : decode cX7_copy 92 = .ok (.ireturn, 1) := by decide +kernel
theorem dX7_lays_0 : decode cX7_lays 0 = .ok (.aload_n 0, 1) := by decide +kernel
theorem dX7_lays_1 : decode cX7_lays 1 = .ok (.iload_n 1, 1) := by decide +kernel
theorem dX7_lays_2 : decode cX7_lays 2 = .ok (.invokevirtual 232, 3) := by decide +kernel
theorem dX7_lays_5 : decode cX7_lays 5 = .ok (.istore_n 2, 1) := by decide +kernel
theorem dX7_lays_6 : decode cX7_lays 6 = .ok (.iload_n 2, 1) := by decide +kernel
theorem dX7_lays_7 : decode cX7_lays 7 = .ok (.ifCond .eq 9, 3) := by decide +kernel
theorem dX7_lays_10 : decode cX7_lays 10 = .ok (.aload_n 0, 1) := by decide +kernel
theorem dX7_lays_11 : decode cX7_lays 11 = .ok (.iload_n 2, 1) := by decide +kernel
theorem dX7_lays_12 : decode cX7_lays 12 = .ok (.invokevirtual 44, 3) := by decide +kernel
theorem dX7_lays_15 : decode cX7_lays 15 = .ok (.ireturn, 1) := by decide +kernel
theorem dX7_lays_16 : decode cX7_lays 16 = .ok (.iconst 0, 1) := by decide +kernel
theorem dX7_lays_17 : decode cX7_lays 17 = .ok (.istore_n 3, 1) := by decide +kernel
theorem dX7_lays_18 : decode cX7_lays 18 = .ok (.iconst 0, 1) := by decide +kernel
theorem dX7_lays_19 : decode cX7_lays 19 = .ok (.istore 4, 2) := by decide +kernel
theorem dX7_lays_21 : decode cX7_lays 21 = .ok (.iload 4, 2) := by decide +kernel
theorem dX7_lays_23 : decode cX7_lays 23 = .ok (.aload_n 0, 1) := by decide +kernel
theorem dX7_lays_24 : decode cX7_lays 24 = .ok (.getfield 35, 3) := by decide +kernel
theorem dX7_lays_27 : decode cX7_lays 27 = .ok (.iload_n 1, 1) := by decide +kernel
theorem dX7_lays_28 : decode cX7_lays 28 = .ok (.iaload, 1) := by decide +kernel
theorem dX7_lays_29 : decode cX7_lays 29 = .ok (.if_icmp .ge 64, 3) := by decide +kernel
theorem dX7_lays_32 : decode cX7_lays 32 = .ok (.iload 4, 2) := by decide +kernel
theorem dX7_lays_34 : decode cX7_lays 34 = .ok (.aload_n 0, 1) := by decide +kernel
theorem dX7_lays_35 : decode cX7_lays 35 = .ok (.getfield 9, 3) := by decide +kernel
theorem dX7_lays_38 : decode cX7_lays 38 = .ok (.iconst 3, 1) := by decide +kernel
theorem dX7_lays_39 : decode cX7_lays 39 = .ok (.iaload, 1) := by decide +kernel
theorem dX7_lays_40 : decode cX7_lays 40 = .ok (.if_icmp .ge 53, 3) := by decide +kernel
theorem dX7_lays_43 : decode cX7_lays 43 = .ok (.aload_n 0, 1) := by decide +kernel
theorem dX7_lays_44 : decode cX7_lays 44 = .ok (.getfield 38, 3) := by decide +kernel
theorem dX7_lays_47 : decode cX7_lays 47 = .ok (.bipush 40, 2) := by decide +kernel
theorem dX7_lays_49 : decode cX7_lays 49 = .ok (.iload_n 1, 1) := by decide +kernel
theorem dX7_lays_50 : decode cX7_lays 50 = .ok (.imul, 1) := by decide +kernel
theorem dX7_lays_51 : decode cX7_lays 51 = .ok (.iload 4, 2) := by decide +kernel
theorem dX7_lays_53 : decode cX7_lays 53 = .ok (.iadd, 1) := by decide +kernel
theorem dX7_lays_54 : decode cX7_lays 54 = .ok (.laload, 1) := by decide +kernel
theorem dX7_lays_55 : decode cX7_lays 55 = .ok (.lstore 5, 2) := by decide +kernel
theorem dX7_lays_57 : decode cX7_lays 57 = .ok (.lload 5, 2) := by decide +kernel
theorem dX7_lays_59 : decode cX7_lays 59 = .ok (.iconst 0, 1) := by decide +kernel
theorem dX7_lays_60 : decode cX7_lays 60 = .ok (.bipush 99, 2) := by decide +kernel
theorem dX7_lays_62 : decode cX7_lays 62 = .ok (.invokestatic 48, 3) := by decide +kernel
theorem dX7_lays_65 : decode cX7_lays 65 = .ok (.ifCond .eq 22, 3) := by decide +kernel
theorem dX7_lays_68 : decode cX7_lays 68 = .ok (.aload_n 0, 1) := by decide +kernel
theorem dX7_lays_69 : decode cX7_lays 69 = .ok (.getfield 9, 3) := by decide +kernel
theorem dX7_lays_72 : decode cX7_lays 72 = .ok (.iconst 5, 1) := by decide +kernel
theorem dX7_lays_73 : decode cX7_lays 73 = .ok (.iconst 5, 1) := by decide +kernel
theorem dX7_lays_74 : decode cX7_lays 74 = .ok (.iload 4, 2) := by decide +kernel
theorem dX7_lays_76 : decode cX7_lays 76 = .ok (.imul, 1) := by decide +kernel
theorem dX7_lays_77 : decode cX7_lays 77 = .ok (.iadd, 1) := by decide +kernel
theorem dX7_lays_78 : decode cX7_lays 78 = .ok (.iconst 3, 1) := by decide +kernel
theorem dX7_lays_79 : decode cX7_lays 79 = .ok (.iadd, 1) := by decide +kernel
theorem dX7_lays_80 : decode cX7_lays 80 = .ok (.lload 5, 2) := by decide +kernel
theorem dX7_lays_82 : decode cX7_lays 82 = .ok (.l2i, 1) := by decide +kernel
theorem dX7_lays_83 : decode cX7_lays 83 = .ok (.iastore, 1) := by decide +kernel
theorem dX7_lays_84 : decode cX7_lays 84 = .ok (.iinc 3 1, 3) := by decide +kernel
theorem dX7_lays_87 : decode cX7_lays 87 = .ok (.iinc 4 1, 3) := by decide +kernel
theorem dX7_lays_90 : decode cX7_lays 90 = .ok (.goto (-69), 3) := by decide +kernel
theorem dX7_lays_93 : decode cX7_lays 93 = .ok (.iload_n 3, 1) := by decide +kernel
theorem dX7_lays_94 : decode cX7_lays 94 = .ok (.ireturn, 1) := by decide +kernel
theorem dX7_notAsked_0 : decode cX7_notAsked 0 = .ok (.aload_n 0, 1) := by decide +kernel
theorem dX7_notAsked_1 : decode cX7_notAsked 1 = .ok (.iload_n 1, 1) := by decide +kernel
theorem dX7_notAsked_2 : decode cX7_notAsked 2 = .ok (.invokevirtual 232, 3) := by decide +kernel
theorem dX7_notAsked_5 : decode cX7_notAsked 5 = .ok (.istore_n 3, 1) := by decide +kernel
theorem dX7_notAsked_6 : decode cX7_notAsked 6 = .ok (.iload_n 3, 1) := by decide +kernel
theorem dX7_notAsked_7 : decode cX7_notAsked 7 = .ok (.ifCond .ne 16, 3) := by decide +kernel
theorem dX7_notAsked_10 : decode cX7_notAsked 10 = .ok (.aload_n 0, 1) := by decide +kernel
theorem dX7_notAsked_11 : decode cX7_notAsked 11 = .ok (.iload_n 2, 1) := by decide +kernel
theorem dX7_notAsked_12 : decode cX7_notAsked 12 = .ok (.invokevirtual 117, 3) := by decide +kernel
theorem dX7_notAsked_15 : decode cX7_notAsked 15 = .ok (.ifCond .ne 8, 3) := by decide +kernel
theorem dX7_notAsked_18 : decode cX7_notAsked 18 = .ok (.ldc 42, 2) := by decide +kernel
theorem dX7_notAsked_20 : decode cX7_notAsked 20 = .ok (.goto 4, 3) := by decide +kernel
theorem dX7_notAsked_23 : decode cX7_notAsked 23 = .ok (.iload_n 3, 1) := by decide +kernel
theorem dX7_notAsked_24 : decode cX7_notAsked 24 = .ok (.ireturn, 1) := by decide +kernel
theorem dX7_book_0 : decode cX7_book 0 = .ok (.aload_n 0, 1) := by decide +kernel
theorem dX7_book_1 : decode cX7_book 1 = .ok (.iload_n 1, 1) := by decide +kernel
theorem dX7_book_2 : decode cX7_book 2 = .ok (.iload_n 2, 1) := by decide +kernel
theorem dX7_book_3 : decode cX7_book 3 = .ok (.invokevirtual 242, 3) := by decide +kernel
theorem dX7_book_6 : decode cX7_book 6 = .ok (.istore_n 3, 1) := by decide +kernel
theorem dX7_book_7 : decode cX7_book 7 = .ok (.iload_n 3, 1) := by decide +kernel
theorem dX7_book_8 : decode cX7_book 8 = .ok (.ifCond .eq 9, 3) := by decide +kernel
theorem dX7_book_11 : decode cX7_book 11 = .ok (.aload_n 0, 1) := by decide +kernel
theorem dX7_book_12 : decode cX7_book 12 = .ok (.iload_n 3, 1) := by decide +kernel
theorem dX7_book_13 : decode cX7_book 13 = .ok (.invokevirtual 44, 3) := by decide +kernel
theorem dX7_book_16 : decode cX7_book 16 = .ok (.ireturn, 1) := by decide +kernel
theorem dX7_book_17 : decode cX7_book 17 = .ok (.aload_n 0, 1) := by decide +kernel
theorem dX7_book_18 : decode cX7_book 18 = .ok (.invokevirtual 147, 3) := by decide +kernel
theorem dX7_book_21 : decode cX7_book 21 = .ok (.iconst 0, 1) := by decide +kernel
theorem dX7_book_22 : decode cX7_book 22 = .ok (.istore 4, 2) := by decide +kernel
theorem dX7_book_24 : decode cX7_book 24 = .ok (.iload 4, 2) := by decide +kernel
theorem dX7_book_26 : decode cX7_book 26 = .ok (.aload_n 0, 1) := by decide +kernel
theorem dX7_book_27 : decode cX7_book 27 = .ok (.getfield 35, 3) := by decide +kernel
theorem dX7_book_30 : decode cX7_book 30 = .ok (.iload_n 1, 1) := by decide +kernel
theorem dX7_book_31 : decode cX7_book 31 = .ok (.iaload, 1) := by decide +kernel
theorem dX7_book_32 : decode cX7_book 32 = .ok (.if_icmp .ge 41, 3) := by decide +kernel
theorem dX7_book_35 : decode cX7_book 35 = .ok (.aload_n 0, 1) := by decide +kernel
theorem dX7_book_36 : decode cX7_book 36 = .ok (.getfield 38, 3) := by decide +kernel
theorem dX7_book_39 : decode cX7_book 39 = .ok (.bipush 40, 2) := by decide +kernel
theorem dX7_book_41 : decode cX7_book 41 = .ok (.iload_n 1, 1) := by decide +kernel
theorem dX7_book_42 : decode cX7_book 42 = .ok (.imul, 1) := by decide +kernel
theorem dX7_book_43 : decode cX7_book 43 = .ok (.iload 4, 2) := by decide +kernel
theorem dX7_book_45 : decode cX7_book 45 = .ok (.iadd, 1) := by decide +kernel
theorem dX7_book_46 : decode cX7_book 46 = .ok (.aload_n 0, 1) := by decide +kernel
theorem dX7_book_47 : decode cX7_book 47 = .ok (.getfield 32, 3) := by decide +kernel
theorem dX7_book_50 : decode cX7_book 50 = .ok (.iload_n 1, 1) := by decide +kernel
theorem dX7_book_51 : decode cX7_book 51 = .ok (.iaload, 1) := by decide +kernel
theorem dX7_book_52 : decode cX7_book 52 = .ok (.aload_n 0, 1) := by decide +kernel
theorem dX7_book_53 : decode cX7_book 53 = .ok (.iload_n 2, 1) := by decide +kernel
theorem dX7_book_54 : decode cX7_book 54 = .ok (.iconst 2, 1) := by decide +kernel
theorem dX7_book_55 : decode cX7_book 55 = .ok (.invokevirtual 77, 3) := by decide +kernel
theorem dX7_book_58 : decode cX7_book 58 = .ok (.i2l, 1) := by decide +kernel
theorem dX7_book_59 : decode cX7_book 59 = .ok (.invokestatic 235, 3) := by decide +kernel
theorem dX7_book_62 : decode cX7_book 62 = .ok (.lastore, 1) := by decide +kernel
theorem dX7_book_63 : decode cX7_book 63 = .ok (.aload_n 0, 1) := by decide +kernel
theorem dX7_book_64 : decode cX7_book 64 = .ok (.invokevirtual 133, 3) := by decide +kernel
theorem dX7_book_67 : decode cX7_book 67 = .ok (.iinc 4 1, 3) := by decide +kernel
theorem dX7_book_70 : decode cX7_book 70 = .ok (.goto (-46), 3) := by decide +kernel
theorem dX7_book_73 : decode cX7_book 73 = .ok (.aload_n 0, 1) := by decide +kernel
theorem dX7_book_74 : decode cX7_book 74 = .ok (.invokevirtual 150, 3) := by decide +kernel
theorem dX7_book_77 : decode cX7_book 77 = .ok (.aload_n 0, 1) := by decide +kernel
theorem dX7_book_78 : decode cX7_book 78 = .ok (.getfield 35, 3) := by decide +kernel
theorem dX7_book_81 : decode cX7_book 81 = .ok (.iload_n 1, 1) := by decide +kernel
theorem dX7_book_82 : decode cX7_book 82 = .ok (.iaload, 1) := by decide +kernel
theorem dX7_book_83 : decode cX7_book 83 = .ok (.ireturn, 1) := by decide +kernel
theorem dX7_isBook_0 : decode cX7_isBook 0 = .ok (.iconst 1, 1) := by decide +kernel
theorem dX7_isBook_1 : decode cX7_isBook 1 = .ok (.istore_n 3, 1) := by decide +kernel
theorem dX7_isBook_2 : decode cX7_isBook 2 = .ok (.iconst 0, 1) := by decide +kernel
theorem dX7_isBook_3 : decode cX7_isBook 3 = .ok (.istore 4, 2) := by decide +kernel
theorem dX7_isBook_5 : decode cX7_isBook 5 = .ok (.iload 4, 2) := by decide +kernel
theorem dX7_isBook_7 : decode cX7_isBook 7 = .ok (.aload_n 0, 1) := by decide +kernel
theorem dX7_isBook_8 : decode cX7_isBook 8 = .ok (.getfield 35, 3) := by decide +kernel
theorem dX7_isBook_11 : decode cX7_isBook 11 = .ok (.iload_n 1, 1) := by decide +kernel
theorem dX7_isBook_12 : decode cX7_isBook 12 = .ok (.iaload, 1) := by decide +kernel
theorem dX7_isBook_13 : decode cX7_isBook 13 = .ok (.if_icmp .ge 46, 3) := by decide +kernel
theorem dX7_isBook_16 : decode cX7_isBook 16 = .ok (.iload_n 3, 1) := by decide +kernel
theorem dX7_isBook_17 : decode cX7_isBook 17 = .ok (.ifCond .eq 42, 3) := by decide +kernel
theorem dX7_isBook_20 : decode cX7_isBook 20 = .ok (.aload_n 0, 1) := by decide +kernel
theorem dX7_isBook_21 : decode cX7_isBook 21 = .ok (.getfield 38, 3) := by decide +kernel
theorem dX7_isBook_24 : decode cX7_isBook 24 = .ok (.bipush 40, 2) := by decide +kernel
theorem dX7_isBook_26 : decode cX7_isBook 26 = .ok (.iload_n 1, 1) := by decide +kernel
theorem dX7_isBook_27 : decode cX7_isBook 27 = .ok (.imul, 1) := by decide +kernel
theorem dX7_isBook_28 : decode cX7_isBook 28 = .ok (.iload 4, 2) := by decide +kernel
theorem dX7_isBook_30 : decode cX7_isBook 30 = .ok (.iadd, 1) := by decide +kernel
theorem dX7_isBook_31 : decode cX7_isBook 31 = .ok (.laload, 1) := by decide +kernel
theorem dX7_isBook_32 : decode cX7_isBook 32 = .ok (.aload_n 0, 1) := by decide +kernel
theorem dX7_isBook_33 : decode cX7_isBook 33 = .ok (.iload_n 2, 1) := by decide +kernel
theorem dX7_isBook_34 : decode cX7_isBook 34 = .ok (.iconst 2, 1) := by decide +kernel
theorem dX7_isBook_35 : decode cX7_isBook 35 = .ok (.invokevirtual 77, 3) := by decide +kernel
theorem dX7_isBook_38 : decode cX7_isBook 38 = .ok (.i2l, 1) := by decide +kernel
theorem dX7_isBook_39 : decode cX7_isBook 39 = .ok (.lcmp, 1) := by decide +kernel
theorem dX7_isBook_40 : decode cX7_isBook 40 = .ok (.ifCond .ne 7, 3) := by decide +kernel
theorem dX7_isBook_43 : decode cX7_isBook 43 = .ok (.iconst 1, 1) := by decide +kernel
theorem dX7_isBook_44 : decode cX7_isBook 44 = .ok (.goto 4, 3) := by decide +kernel
theorem dX7_isBook_47 : decode cX7_isBook 47 = .ok (.iconst 0, 1) := by decide +kernel
theorem dX7_isBook_48 : decode cX7_isBook 48 = .ok (.istore_n 3, 1) := by decide +kernel
theorem dX7_isBook_49 : decode cX7_isBook 49 = .ok (.aload_n 0, 1) := by decide +kernel
theorem dX7_isBook_50 : decode cX7_isBook 50 = .ok (.invokevirtual 133, 3) := by decide +kernel
theorem dX7_isBook_53 : decode cX7_isBook 53 = .ok (.iinc 4 1, 3) := by decide +kernel
theorem dX7_isBook_56 : decode cX7_isBook 56 = .ok (.goto (-51), 3) := by decide +kernel
theorem dX7_isBook_59 : decode cX7_isBook 59 = .ok (.aload_n 0, 1) := by decide +kernel
theorem dX7_isBook_60 : decode cX7_isBook 60 = .ok (.invokevirtual 150, 3) := by decide +kernel
theorem dX7_isBook_63 : decode cX7_isBook 63 = .ok (.iload_n 3, 1) := by decide +kernel
theorem dX7_isBook_64 : decode cX7_isBook 64 = .ok (.ireturn, 1) := by decide +kernel
theorem dX7_read_0 : decode cX7_read 0 = .ok (.aload_n 0, 1) := by decide +kernel
theorem dX7_read_1 : decode cX7_read 1 = .ok (.iload_n 1, 1) := by decide +kernel
theorem dX7_read_2 : decode cX7_read 2 = .ok (.iload_n 2, 1) := by decide +kernel
theorem dX7_read_3 : decode cX7_read 3 = .ok (.invokevirtual 242, 3) := by decide +kernel
theorem dX7_read_6 : decode cX7_read 6 = .ok (.istore_n 3, 1) := by decide +kernel
theorem dX7_read_7 : decode cX7_read 7 = .ok (.iload_n 3, 1) := by decide +kernel
theorem dX7_read_8 : decode cX7_read 8 = .ok (.ifCond .eq 9, 3) := by decide +kernel
theorem dX7_read_11 : decode cX7_read 11 = .ok (.aload_n 0, 1) := by decide +kernel
theorem dX7_read_12 : decode cX7_read 12 = .ok (.iload_n 3, 1) := by decide +kernel
theorem dX7_read_13 : decode cX7_read 13 = .ok (.invokevirtual 44, 3) := by decide +kernel
theorem dX7_read_16 : decode cX7_read 16 = .ok (.ireturn, 1) := by decide +kernel
theorem dX7_read_17 : decode cX7_read 17 = .ok (.aload_n 0, 1) := by decide +kernel
theorem dX7_read_18 : decode cX7_read 18 = .ok (.invokevirtual 147, 3) := by decide +kernel
theorem dX7_read_21 : decode cX7_read 21 = .ok (.iconst 0, 1) := by decide +kernel
theorem dX7_read_22 : decode cX7_read 22 = .ok (.istore 4, 2) := by decide +kernel
theorem dX7_read_24 : decode cX7_read 24 = .ok (.iconst 0, 1) := by decide +kernel
theorem dX7_read_25 : decode cX7_read 25 = .ok (.istore 5, 2) := by decide +kernel
theorem dX7_read_27 : decode cX7_read 27 = .ok (.iload 5, 2) := by decide +kernel
theorem dX7_read_29 : decode cX7_read 29 = .ok (.bipush 48, 2) := by decide +kernel
theorem dX7_read_31 : decode cX7_read 31 = .ok (.if_icmp .ge 36, 3) := by decide +kernel
theorem dX7_read_34 : decode cX7_read 34 = .ok (.aload_n 0, 1) := by decide +kernel
theorem dX7_read_35 : decode cX7_read 35 = .ok (.iload_n 2, 1) := by decide +kernel
theorem dX7_read_36 : decode cX7_read 36 = .ok (.iconst 0, 1) := by decide +kernel
theorem dX7_read_37 : decode cX7_read 37 = .ok (.iload 5, 2) := by decide +kernel
theorem dX7_read_39 : decode cX7_read 39 = .ok (.invokevirtual 110, 3) := by decide +kernel
theorem dX7_read_42 : decode cX7_read 42 = .ok (.iload 4, 2) := by decide +kernel
theorem dX7_read_44 : decode cX7_read 44 = .ok (.aload_n 0, 1) := by decide +kernel
theorem dX7_read_45 : decode cX7_read 45 = .ok (.iload_n 1, 1) := by decide +kernel
theorem dX7_read_46 : decode cX7_read 46 = .ok (.iload_n 2, 1) := by decide +kernel
theorem dX7_read_47 : decode cX7_read 47 = .ok (.invokevirtual 245, 3) := by decide +kernel
theorem dX7_read_50 : decode cX7_read 50 = .ok (.ifCond .eq 7, 3) := by decide +kernel
theorem dX7_read_53 : decode cX7_read 53 = .ok (.iconst 1, 1) := by decide +kernel
theorem dX7_read_54 : decode cX7_read 54 = .ok (.goto 4, 3) := by decide +kernel
theorem dX7_read_57 : decode cX7_read 57 = .ok (.iconst 0, 1) := by decide +kernel
theorem dX7_read_58 : decode cX7_read 58 = .ok (.iadd, 1) := by decide +kernel
theorem dX7_read_59 : decode cX7_read 59 = .ok (.istore 4, 2) := by decide +kernel
theorem dX7_read_61 : decode cX7_read 61 = .ok (.iinc 5 1, 3) := by decide +kernel
theorem dX7_read_64 : decode cX7_read 64 = .ok (.goto (-37), 3) := by decide +kernel
theorem dX7_read_67 : decode cX7_read 67 = .ok (.iload 4, 2) := by decide +kernel
theorem dX7_read_69 : decode cX7_read 69 = .ok (.ireturn, 1) := by decide +kernel
theorem dX7_image_0 : decode cX7_image 0 = .ok (.aload_n 0, 1) := by decide +kernel
theorem dX7_image_1 : decode cX7_image 1 = .ok (.getfield 9, 3) := by decide +kernel
theorem dX7_image_4 : decode cX7_image 4 = .ok (.aload_n 0, 1) := by decide +kernel
theorem dX7_image_5 : decode cX7_image 5 = .ok (.getfield 13, 3) := by decide +kernel
theorem dX7_image_8 : decode cX7_image 8 = .ok (.invokestatic 143, 3) := by decide +kernel
theorem dX7_image_11 : decode cX7_image 11 = .ok (.aload_n 0, 1) := by decide +kernel
theorem dX7_image_12 : decode cX7_image 12 = .ok (.iconst 1, 1) := by decide +kernel
theorem dX7_image_13 : decode cX7_image 13 = .ok (.putfield 248, 3) := by decide +kernel
theorem dX7_image_16 : decode cX7_image 16 = .ok (.iconst 1, 1) := by decide +kernel
theorem dX7_image_17 : decode cX7_image 17 = .ok (.ireturn, 1) := by decide +kernel
theorem dX7_undo_0 : decode cX7_undo 0 = .ok (.aload_n 0, 1) := by decide +kernel
theorem dX7_undo_1 : decode cX7_undo 1 = .ok (.getfield 248, 3) := by decide +kernel
theorem dX7_undo_4 : decode cX7_undo 4 = .ok (.ifCond .ne 10, 3) := by decide +kernel
theorem dX7_undo_7 : decode cX7_undo 7 = .ok (.aload_n 0, 1) := by decide +kernel
theorem dX7_undo_8 : decode cX7_undo 8 = .ok (.ldc 43, 2) := by decide +kernel
theorem dX7_undo_10 : decode cX7_undo 10 = .ok (.invokevirtual 44, 3) := by decide +kernel
theorem dX7_undo_13 : decode cX7_undo 13 = .ok (.ireturn, 1) := by decide +kernel
theorem dX7_undo_14 : decode cX7_undo 14 = .ok (.aload_n 0, 1) := by decide +kernel
theorem dX7_undo_15 : decode cX7_undo 15 = .ok (.getfield 13, 3) := by decide +kernel
theorem dX7_undo_18 : decode cX7_undo 18 = .ok (.aload_n 0, 1) := by decide +kernel
theorem dX7_undo_19 : decode cX7_undo 19 = .ok (.getfield 9, 3) := by decide +kernel
theorem dX7_undo_22 : decode cX7_undo 22 = .ok (.invokestatic 143, 3) := by decide +kernel
theorem dX7_undo_25 : decode cX7_undo 25 = .ok (.aload_n 0, 1) := by decide +kernel
theorem dX7_undo_26 : decode cX7_undo 26 = .ok (.getfield 9, 3) := by decide +kernel
theorem dX7_undo_29 : decode cX7_undo 29 = .ok (.iconst 3, 1) := by decide +kernel
theorem dX7_undo_30 : decode cX7_undo 30 = .ok (.iaload, 1) := by decide +kernel
theorem dX7_undo_31 : decode cX7_undo 31 = .ok (.ireturn, 1) := by decide +kernel
theorem dX7_tear_0 : decode cX7_tear 0 = .ok (.aload_n 0, 1) := by decide +kernel
theorem dX7_tear_1 : decode cX7_tear 1 = .ok (.getfield 248, 3) := by decide +kernel
theorem dX7_tear_4 : decode cX7_tear 4 = .ok (.ifCond .eq 7, 3) := by decide +kernel
theorem dX7_tear_7 : decode cX7_tear 7 = .ok (.iconst 1, 1) := by decide +kernel
theorem dX7_tear_8 : decode cX7_tear 8 = .ok (.goto 4, 3) := by decide +kernel
theorem dX7_tear_11 : decode cX7_tear 11 = .ok (.iconst 0, 1) := by decide +kernel
theorem dX7_tear_12 : decode cX7_tear 12 = .ok (.istore_n 1, 1) := by decide +kernel
theorem dX7_tear_13 : decode cX7_tear 13 = .ok (.aload_n 0, 1) := by decide +kernel
theorem dX7_tear_14 : decode cX7_tear 14 = .ok (.iconst 0, 1) := by decide +kernel
theorem dX7_tear_15 : decode cX7_tear 15 = .ok (.putfield 248, 3) := by decide +kernel
theorem dX7_tear_18 : decode cX7_tear 18 = .ok (.iload_n 1, 1) := by decide +kernel
theorem dX7_tear_19 : decode cX7_tear 19 = .ok (.ireturn, 1) := by decide +kernel
theorem dX7_count_0 : decode cX7_count 0 = .ok (.iload_n 1, 1) := by decide +kernel
theorem dX7_count_1 : decode cX7_count 1 = .ok (.tableswitch 66 0 4 #[35, 42, 47, 54, 60], 35) := by decide +kernel
theorem dX7_count_36 : decode cX7_count 36 = .ok (.aload_n 0, 1) := by decide +kernel
theorem dX7_count_37 : decode cX7_count 37 = .ok (.getfield 9, 3) := by decide +kernel
theorem dX7_count_40 : decode cX7_count 40 = .ok (.iconst 3, 1) := by decide +kernel
theorem dX7_count_41 : decode cX7_count 41 = .ok (.iaload, 1) := by decide +kernel
theorem dX7_count_42 : decode cX7_count 42 = .ok (.ireturn, 1) := by decide +kernel
theorem dX7_count_43 : decode cX7_count 43 = .ok (.aload_n 0, 1) := by decide +kernel
theorem dX7_count_44 : decode cX7_count 44 = .ok (.getfield 169, 3) := by decide +kernel
theorem dX7_count_47 : decode cX7_count 47 = .ok (.ireturn, 1) := by decide +kernel
theorem dX7_count_48 : decode cX7_count 48 = .ok (.aload_n 0, 1) := by decide +kernel
theorem dX7_count_49 : decode cX7_count 49 = .ok (.getfield 9, 3) := by decide +kernel
theorem dX7_count_52 : decode cX7_count 52 = .ok (.iconst 4, 1) := by decide +kernel
theorem dX7_count_53 : decode cX7_count 53 = .ok (.iaload, 1) := by decide +kernel
theorem dX7_count_54 : decode cX7_count 54 = .ok (.ireturn, 1) := by decide +kernel
theorem dX7_count_55 : decode cX7_count 55 = .ok (.aload_n 0, 1) := by decide +kernel
theorem dX7_count_56 : decode cX7_count 56 = .ok (.iconst 3, 1) := by decide +kernel
theorem dX7_count_57 : decode cX7_count 57 = .ok (.invokevirtual 140, 3) := by decide +kernel
theorem dX7_count_60 : decode cX7_count 60 = .ok (.ireturn, 1) := by decide +kernel
theorem dX7_count_61 : decode cX7_count 61 = .ok (.aload_n 0, 1) := by decide +kernel
theorem dX7_count_62 : decode cX7_count 62 = .ok (.iconst 2, 1) := by decide +kernel
theorem dX7_count_63 : decode cX7_count 63 = .ok (.invokevirtual 140, 3) := by decide +kernel
theorem dX7_count_66 : decode cX7_count 66 = .ok (.ireturn, 1) := by decide +kernel
theorem dX7_count_67 : decode cX7_count 67 = .ok (.aload_n 0, 1) := by decide +kernel
theorem dX7_count_68 : decode cX7_count 68 = .ok (.ldc 42, 2) := by decide +kernel
theorem dX7_count_70 : decode cX7_count 70 = .ok (.invokevirtual 44, 3) := by decide +kernel
theorem dX7_count_73 : decode cX7_count 73 = .ok (.ireturn, 1) := by decide +kernel
theorem dX7_status_0 : decode cX7_status 0 = .ok (.iload_n 1, 1) := by decide +kernel
theorem dX7_status_1 : decode cX7_status 1 = .ok (.i2l, 1) := by decide +kernel
theorem dX7_status_2 : decode cX7_status 2 = .ok (.iconst (-1), 1) := by decide +kernel
theorem dX7_status_3 : decode cX7_status 3 = .ok (.bipush 6, 2) := by decide +kernel
theorem dX7_status_5 : decode cX7_status 5 = .ok (.invokestatic 48, 3) := by decide +kernel
theorem dX7_status_8 : decode cX7_status 8 = .ok (.ifCond .ne 10, 3) := by decide +kernel
theorem dX7_status_11 : decode cX7_status 11 = .ok (.aload_n 0, 1) := by decide +kernel
theorem dX7_status_12 : decode cX7_status 12 = .ok (.ldc 42, 2) := by decide +kernel
theorem dX7_status_14 : decode cX7_status 14 = .ok (.invokevirtual 44, 3) := by decide +kernel
theorem dX7_status_17 : decode cX7_status 17 = .ok (.ireturn, 1) := by decide +kernel
theorem dX7_status_18 : decode cX7_status 18 = .ok (.iconst 0, 1) := by decide +kernel
theorem dX7_status_19 : decode cX7_status 19 = .ok (.istore_n 2, 1) := by decide +kernel
theorem dX7_status_20 : decode cX7_status 20 = .ok (.iconst 0, 1) := by decide +kernel
theorem dX7_status_21 : decode cX7_status 21 = .ok (.istore_n 3, 1) := by decide +kernel
theorem dX7_status_22 : decode cX7_status 22 = .ok (.iload_n 3, 1) := by decide +kernel
theorem dX7_status_23 : decode cX7_status 23 = .ok (.bipush 7, 2) := by decide +kernel
theorem dX7_status_25 : decode cX7_status 25 = .ok (.if_icmp .ge 31, 3) := by decide +kernel
theorem dX7_status_28 : decode cX7_status 28 = .ok (.iload_n 2, 1) := by decide +kernel
theorem dX7_status_29 : decode cX7_status 29 = .ok (.iload_n 1, 1) := by decide +kernel
theorem dX7_status_30 : decode cX7_status 30 = .ok (.ifCond .lt 8, 3) := by decide +kernel
theorem dX7_status_33 : decode cX7_status 33 = .ok (.iload_n 1, 1) := by decide +kernel
theorem dX7_status_34 : decode cX7_status 34 = .ok (.iload_n 3, 1) := by decide +kernel
theorem dX7_status_35 : decode cX7_status 35 = .ok (.if_icmp .ne 12, 3) := by decide +kernel
theorem dX7_status_38 : decode cX7_status 38 = .ok (.aload_n 0, 1) := by decide +kernel
theorem dX7_status_39 : decode cX7_status 39 = .ok (.getfield 19, 3) := by decide +kernel
theorem dX7_status_42 : decode cX7_status 42 = .ok (.iload_n 3, 1) := by decide +kernel
theorem dX7_status_43 : decode cX7_status 43 = .ok (.iaload, 1) := by decide +kernel
theorem dX7_status_44 : decode cX7_status 44 = .ok (.goto 4, 3) := by decide +kernel
theorem dX7_status_47 : decode cX7_status 47 = .ok (.iconst 0, 1) := by decide +kernel
theorem dX7_status_48 : decode cX7_status 48 = .ok (.iadd, 1) := by decide +kernel
theorem dX7_status_49 : decode cX7_status 49 = .ok (.istore_n 2, 1) := by decide +kernel
theorem dX7_status_50 : decode cX7_status 50 = .ok (.iinc 3 1, 3) := by decide +kernel
theorem dX7_status_53 : decode cX7_status 53 = .ok (.goto (-31), 3) := by decide +kernel
theorem dX7_status_56 : decode cX7_status 56 = .ok (.iload_n 2, 1) := by decide +kernel
theorem dX7_status_57 : decode cX7_status 57 = .ok (.ireturn, 1) := by decide +kernel
