theorem dX0_init_0 : decode cX0_init 0 = .ok (.aload_n 0, 1) := by decide +kernel
theorem dX0_init_1 : decode cX0_init 1 = .ok (.invokespecial 3, 3) := by decide +kernel
theorem dX0_init_4 : decode cX0_init 4 = .ok (.aload_n 0, 1) := by decide +kernel
theorem dX0_init_5 : decode cX0_init 5 = .ok (.iconst 2, 1) := by decide +kernel
theorem dX0_init_6 : decode cX0_init 6 = .ok (.newarray .int, 2) := by decide +kernel
theorem dX0_init_8 : decode cX0_init 8 = .ok (.putfield 9, 3) := by decide +kernel
theorem dX0_init_11 : decode cX0_init 11 = .ok (.return_, 1) := by decide +kernel
theorem dX0_aim_0 : decode cX0_aim 0 = .ok (.iconst 0, 1) := by decide +kernel
theorem dX0_aim_1 : decode cX0_aim 1 = .ok (.istore_n 2, 1) := by decide +kernel
theorem dX0_aim_2 : decode cX0_aim 2 = .ok (.iload_n 2, 1) := by decide +kernel
theorem dX0_aim_3 : decode cX0_aim 3 = .ok (.iconst 2, 1) := by decide +kernel
theorem dX0_aim_4 : decode cX0_aim 4 = .ok (.if_icmp .ge 16, 3) := by decide +kernel
theorem dX0_aim_7 : decode cX0_aim 7 = .ok (.aload_n 0, 1) := by decide +kernel
theorem dX0_aim_8 : decode cX0_aim 8 = .ok (.getfield 9, 3) := by decide +kernel
theorem dX0_aim_11 : decode cX0_aim 11 = .ok (.iload_n 2, 1) := by decide +kernel
theorem dX0_aim_12 : decode cX0_aim 12 = .ok (.iconst 0, 1) := by decide +kernel
theorem dX0_aim_13 : decode cX0_aim 13 = .ok (.iastore, 1) := by decide +kernel
theorem dX0_aim_14 : decode cX0_aim 14 = .ok (.iinc 2 1, 3) := by decide +kernel
theorem dX0_aim_17 : decode cX0_aim 17 = .ok (.goto (-15), 3) := by decide +kernel
theorem dX0_aim_20 : decode cX0_aim 20 = .ok (.aload_n 0, 1) := by decide +kernel
theorem dX0_aim_21 : decode cX0_aim 21 = .ok (.iconst 0, 1) := by decide +kernel
theorem dX0_aim_22 : decode cX0_aim 22 = .ok (.putfield 15, 3) := by decide +kernel
theorem dX0_aim_25 : decode cX0_aim 25 = .ok (.iconst 0, 1) := by decide +kernel
theorem dX0_aim_26 : decode cX0_aim 26 = .ok (.istore_n 2, 1) := by decide +kernel
theorem dX0_aim_27 : decode cX0_aim 27 = .ok (.iload_n 2, 1) := by decide +kernel
theorem dX0_aim_28 : decode cX0_aim 28 = .ok (.aload_n 1, 1) := by decide +kernel
theorem dX0_aim_29 : decode cX0_aim 29 = .ok (.getfield 19, 3) := by decide +kernel
theorem dX0_aim_32 : decode cX0_aim 32 = .ok (.if_icmp .ge 65, 3) := by decide +kernel
theorem dX0_aim_35 : decode cX0_aim 35 = .ok (.iload_n 2, 1) := by decide +kernel
theorem dX0_aim_36 : decode cX0_aim 36 = .ok (.bipush 8, 2) := by decide +kernel
theorem dX0_aim_38 : decode cX0_aim 38 = .ok (.if_icmp .ge 59, 3) := by decide +kernel
theorem dX0_aim_41 : decode cX0_aim 41 = .ok (.aload_n 1, 1) := by decide +kernel
theorem dX0_aim_42 : decode cX0_aim 42 = .ok (.getfield 24, 3) := by decide +kernel
theorem dX0_aim_45 : decode cX0_aim 45 = .ok (.iload_n 2, 1) := by decide +kernel
theorem dX0_aim_46 : decode cX0_aim 46 = .ok (.iaload, 1) := by decide +kernel
theorem dX0_aim_47 : decode cX0_aim 47 = .ok (.invokestatic 27, 3) := by decide +kernel
theorem dX0_aim_50 : decode cX0_aim 50 = .ok (.istore_n 3, 1) := by decide +kernel
theorem dX0_aim_51 : decode cX0_aim 51 = .ok (.aload_n 1, 1) := by decide +kernel
theorem dX0_aim_52 : decode cX0_aim 52 = .ok (.getfield 33, 3) := by decide +kernel
theorem dX0_aim_55 : decode cX0_aim 55 = .ok (.iload_n 2, 1) := by decide +kernel
theorem dX0_aim_56 : decode cX0_aim 56 = .ok (.iaload, 1) := by decide +kernel
theorem dX0_aim_57 : decode cX0_aim 57 = .ok (.istore 4, 2) := by decide +kernel
theorem dX0_aim_59 : decode cX0_aim 59 = .ok (.iload 4, 2) := by decide +kernel
theorem dX0_aim_61 : decode cX0_aim 61 = .ok (.invokestatic 36, 3) := by decide +kernel
theorem dX0_aim_64 : decode cX0_aim 64 = .ok (.ifCond .eq 17, 3) := by decide +kernel
theorem dX0_aim_67 : decode cX0_aim 67 = .ok (.aload_n 0, 1) := by decide +kernel
theorem dX0_aim_68 : decode cX0_aim 68 = .ok (.getfield 9, 3) := by decide +kernel
theorem dX0_aim_71 : decode cX0_aim 71 = .ok (.iload 4, 2) := by decide +kernel
theorem dX0_aim_73 : decode cX0_aim 73 = .ok (.dup2, 1) := by decide +kernel
theorem dX0_aim_74 : decode cX0_aim 74 = .ok (.iaload, 1) := by decide +kernel
theorem dX0_aim_75 : decode cX0_aim 75 = .ok (.iload_n 3, 1) := by decide +kernel
theorem dX0_aim_76 : decode cX0_aim 76 = .ok (.ior, 1) := by decide +kernel
theorem dX0_aim_77 : decode cX0_aim 77 = .ok (.iastore, 1) := by decide +kernel
theorem dX0_aim_78 : decode cX0_aim 78 = .ok (.goto 13, 3) := by decide +kernel
theorem dX0_aim_81 : decode cX0_aim 81 = .ok (.aload_n 0, 1) := by decide +kernel
theorem dX0_aim_82 : decode cX0_aim 82 = .ok (.dup, 1) := by decide +kernel
theorem dX0_aim_83 : decode cX0_aim 83 = .ok (.getfield 15, 3) := by decide +kernel
theorem dX0_aim_86 : decode cX0_aim 86 = .ok (.iload_n 3, 1) := by decide +kernel
theorem dX0_aim_87 : decode cX0_aim 87 = .ok (.ior, 1) := by decide +kernel
theorem dX0_aim_88 : decode cX0_aim 88 = .ok (.putfield 15, 3) := by decide +kernel
theorem dX0_aim_91 : decode cX0_aim 91 = .ok (.iinc 2 1, 3) := by decide +kernel
theorem dX0_aim_94 : decode cX0_aim 94 = .ok (.goto (-67), 3) := by decide +kernel
theorem dX0_aim_97 : decode cX0_aim 97 = .ok (.return_, 1) := by decide +kernel
theorem dX0_mayCome_0 : decode cX0_mayCome 0 = .ok (.aload_n 0, 1) := by decide +kernel
theorem dX0_mayCome_1 : decode cX0_mayCome 1 = .ok (.getfield 15, 3) := by decide +kernel
theorem dX0_mayCome_4 : decode cX0_mayCome 4 = .ok (.aload_n 1, 1) := by decide +kernel
theorem dX0_mayCome_5 : decode cX0_mayCome 5 = .ok (.iconst 0, 1) := by decide +kernel
theorem dX0_mayCome_6 : decode cX0_mayCome 6 = .ok (.invokevirtual 40, 3) := by decide +kernel
theorem dX0_mayCome_9 : decode cX0_mayCome 9 = .ok (.aload_n 1, 1) := by decide +kernel
theorem dX0_mayCome_10 : decode cX0_mayCome 10 = .ok (.iconst 1, 1) := by decide +kernel
theorem dX0_mayCome_11 : decode cX0_mayCome 11 = .ok (.invokevirtual 40, 3) := by decide +kernel
theorem dX0_mayCome_14 : decode cX0_mayCome 14 = .ok (.ior, 1) := by decide +kernel
theorem dX0_mayCome_15 : decode cX0_mayCome 15 = .ok (.iand, 1) := by decide +kernel
theorem dX0_mayCome_16 : decode cX0_mayCome 16 = .ok (.istore_n 3, 1) := by decide +kernel
theorem dX0_mayCome_17 : decode cX0_mayCome 17 = .ok (.iconst 0, 1) := by decide +kernel
theorem dX0_mayCome_18 : decode cX0_mayCome 18 = .ok (.istore 4, 2) := by decide +kernel
theorem dX0_mayCome_20 : decode cX0_mayCome 20 = .ok (.iload 4, 2) := by decide +kernel
theorem dX0_mayCome_22 : decode cX0_mayCome 22 = .ok (.iconst 2, 1) := by decide +kernel
theorem dX0_mayCome_23 : decode cX0_mayCome 23 = .ok (.if_icmp .ge 28, 3) := by decide +kernel
theorem dX0_mayCome_26 : decode cX0_mayCome 26 = .ok (.iload_n 3, 1) := by decide +kernel
theorem dX0_mayCome_27 : decode cX0_mayCome 27 = .ok (.aload_n 0, 1) := by decide +kernel
theorem dX0_mayCome_28 : decode cX0_mayCome 28 = .ok (.getfield 9, 3) := by decide +kernel
theorem dX0_mayCome_31 : decode cX0_mayCome 31 = .ok (.iload 4, 2) := by decide +kernel
theorem dX0_mayCome_33 : decode cX0_mayCome 33 = .ok (.iaload, 1) := by decide +kernel
theorem dX0_mayCome_34 : decode cX0_mayCome 34 = .ok (.aload_n 1, 1) := by decide +kernel
theorem dX0_mayCome_35 : decode cX0_mayCome 35 = .ok (.iload 4, 2) := by decide +kernel
theorem dX0_mayCome_37 : decode cX0_mayCome 37 = .ok (.invokevirtual 40, 3) := by decide +kernel
theorem dX0_mayCome_40 : decode cX0_mayCome 40 = .ok (.iconst (-1), 1) := by decide +kernel
theorem dX0_mayCome_41 : decode cX0_mayCome 41 = .ok (.ixor, 1) := by decide +kernel
theorem dX0_mayCome_42 : decode cX0_mayCome 42 = .ok (.iand, 1) := by decide +kernel
theorem dX0_mayCome_43 : decode cX0_mayCome 43 = .ok (.ior, 1) := by decide +kernel
theorem dX0_mayCome_44 : decode cX0_mayCome 44 = .ok (.istore_n 3, 1) := by decide +kernel
theorem dX0_mayCome_45 : decode cX0_mayCome 45 = .ok (.iinc 4 1, 3) := by decide +kernel
theorem dX0_mayCome_48 : decode cX0_mayCome 48 = .ok (.goto (-28), 3) := by decide +kernel
theorem dX0_mayCome_51 : decode cX0_mayCome 51 = .ok (.iload_n 3, 1) := by decide +kernel
theorem dX0_mayCome_52 : decode cX0_mayCome 52 = .ok (.invokestatic 45, 3) := by decide +kernel
theorem dX0_mayCome_55 : decode cX0_mayCome 55 = .ok (.iconst 2, 1) := by decide +kernel
theorem dX0_mayCome_56 : decode cX0_mayCome 56 = .ok (.iload_n 2, 1) := by decide +kernel
theorem dX0_mayCome_57 : decode cX0_mayCome 57 = .ok (.imul, 1) := by decide +kernel
theorem dX0_mayCome_58 : decode cX0_mayCome 58 = .ok (.if_icmp .gt 7, 3) := by decide +kernel
theorem dX0_mayCome_61 : decode cX0_mayCome 61 = .ok (.iconst 1, 1) := by decide +kernel
theorem dX0_mayCome_62 : decode cX0_mayCome 62 = .ok (.goto 4, 3) := by decide +kernel
theorem dX0_mayCome_65 : decode cX0_mayCome 65 = .ok (.iconst 0, 1) := by decide +kernel
theorem dX0_mayCome_66 : decode cX0_mayCome 66 = .ok (.ireturn, 1) := by decide +kernel
theorem dX1_init_0 : decode cX1_init 0 = .ok (.aload_n 0, 1) := by decide +kernel
theorem dX1_init_1 : decode cX1_init 1 = .ok (.invokespecial 3, 3) := by decide +kernel
theorem dX1_init_4 : decode cX1_init 4 = .ok (.aload_n 0, 1) := by decide +kernel
theorem dX1_init_5 : decode cX1_init 5 = .ok (.iconst 3, 1) := by decide +kernel
theorem dX1_init_6 : decode cX1_init 6 = .ok (.newarray .int, 2) := by decide +kernel
theorem dX1_init_8 : decode cX1_init 8 = .ok (.putfield 9, 3) := by decide +kernel
theorem dX1_init_11 : decode cX1_init 11 = .ok (.aload_n 0, 1) := by decide +kernel
theorem dX1_init_12 : decode cX1_init 12 = .ok (.iconst 3, 1) := by decide +kernel
theorem dX1_init_13 : decode cX1_init 13 = .ok (.newarray .int, 2) := by decide +kernel
theorem dX1_init_15 : decode cX1_init 15 = .ok (.putfield 15, 3) := by decide +kernel
theorem dX1_init_18 : decode cX1_init 18 = .ok (.return_, 1) := by decide +kernel
theorem dX1_find_0 : decode cX1_find 0 = .ok (.aload_n 0, 1) := by decide +kernel
theorem dX1_find_1 : decode cX1_find 1 = .ok (.bipush (-4), 2) := by decide +kernel
theorem dX1_find_3 : decode cX1_find 3 = .ok (.putfield 18, 3) := by decide +kernel
theorem dX1_find_6 : decode cX1_find 6 = .ok (.iconst 5, 1) := by decide +kernel
theorem dX1_find_7 : decode cX1_find 7 = .ok (.aload_n 1, 1) := by decide +kernel
theorem dX1_find_8 : decode cX1_find 8 = .ok (.getfield 22, 3) := by decide +kernel
theorem dX1_find_11 : decode cX1_find 11 = .ok (.invokestatic 27, 3) := by decide +kernel
theorem dX1_find_14 : decode cX1_find 14 = .ok (.lstore_n 3, 1) := by decide +kernel
theorem dX1_find_15 : decode cX1_find 15 = .ok (.iconst 0, 1) := by decide +kernel
theorem dX1_find_16 : decode cX1_find 16 = .ok (.istore 5, 2) := by decide +kernel
theorem dX1_find_18 : decode cX1_find 18 = .ok (.iload 5, 2) := by decide +kernel
theorem dX1_find_20 : decode cX1_find 20 = .ok (.i2l, 1) := by decide +kernel
theorem dX1_find_21 : decode cX1_find 21 = .ok (.lload_n 3, 1) := by decide +kernel
theorem dX1_find_22 : decode cX1_find 22 = .ok (.lcmp, 1) := by decide +kernel
theorem dX1_find_23 : decode cX1_find 23 = .ok (.ifCond .ge 100, 3) := by decide +kernel
theorem dX1_find_26 : decode cX1_find 26 = .ok (.aload_n 0, 1) := by decide +kernel
theorem dX1_find_27 : decode cX1_find 27 = .ok (.aload_n 1, 1) := by decide +kernel
theorem dX1_find_28 : decode cX1_find 28 = .ok (.iload 5, 2) := by decide +kernel
theorem dX1_find_30 : decode cX1_find 30 = .ok (.invokevirtual 31, 3) := by decide +kernel
theorem dX1_find_33 : decode cX1_find 33 = .ok (.istore 6, 2) := by decide +kernel
theorem dX1_find_35 : decode cX1_find 35 = .ok (.aload_n 0, 1) := by decide +kernel
theorem dX1_find_36 : decode cX1_find 36 = .ok (.getfield 18, 3) := by decide +kernel
theorem dX1_find_39 : decode cX1_find 39 = .ok (.bipush (-4), 2) := by decide +kernel
theorem dX1_find_41 : decode cX1_find 41 = .ok (.if_icmp .eq 15, 3) := by decide +kernel
theorem dX1_find_44 : decode cX1_find 44 = .ok (.iload 6, 2) := by decide +kernel
theorem dX1_find_46 : decode cX1_find 46 = .ok (.aload_n 0, 1) := by decide +kernel
theorem dX1_find_47 : decode cX1_find 47 = .ok (.getfield 18, 3) := by decide +kernel
theorem dX1_find_50 : decode cX1_find 50 = .ok (.if_icmp .lt 6, 3) := by decide +kernel
theorem dX1_find_53 : decode cX1_find 53 = .ok (.goto 64, 3) := by decide +kernel
theorem dX1_find_56 : decode cX1_find 56 = .ok (.aload_n 2, 1) := by decide +kernel
theorem dX1_find_57 : decode cX1_find 57 = .ok (.getfield 35, 3) := by decide +kernel
theorem dX1_find_60 : decode cX1_find 60 = .ok (.aload_n 1, 1) := by decide +kernel
theorem dX1_find_61 : decode cX1_find 61 = .ok (.getfield 41, 3) := by decide +kernel
theorem dX1_find_64 : decode cX1_find 64 = .ok (.invokevirtual 42, 3) := by decide +kernel
theorem dX1_find_67 : decode cX1_find 67 = .ok (.aload_n 1, 1) := by decide +kernel
theorem dX1_find_68 : decode cX1_find 68 = .ok (.getfield 48, 3) := by decide +kernel
theorem dX1_find_71 : decode cX1_find 71 = .ok (.aload_n 1, 1) := by decide +kernel
theorem dX1_find_72 : decode cX1_find 72 = .ok (.getfield 41, 3) := by decide +kernel
theorem dX1_find_75 : decode cX1_find 75 = .ok (.getfield 52, 3) := by decide +kernel
theorem dX1_find_78 : decode cX1_find 78 = .ok (.aload_n 2, 1) := by decide +kernel
theorem dX1_find_79 : decode cX1_find 79 = .ok (.aload_n 0, 1) := by decide +kernel
theorem dX1_find_80 : decode cX1_find 80 = .ok (.getfield 9, 3) := by decide +kernel
theorem dX1_find_83 : decode cX1_find 83 = .ok (.iconst 0, 1) := by decide +kernel
theorem dX1_find_84 : decode cX1_find 84 = .ok (.aload_n 1, 1) := by decide +kernel
theorem dX1_find_85 : decode cX1_find 85 = .ok (.getfield 22, 3) := by decide +kernel
theorem dX1_find_88 : decode cX1_find 88 = .ok (.invokestatic 55, 3) := by decide +kernel
theorem dX1_find_91 : decode cX1_find 91 = .ok (.ifCond .ne 6, 3) := by decide +kernel
theorem dX1_find_94 : decode cX1_find 94 = .ok (.goto 23, 3) := by decide +kernel
theorem dX1_find_97 : decode cX1_find 97 = .ok (.aload_n 0, 1) := by decide +kernel
theorem dX1_find_98 : decode cX1_find 98 = .ok (.iload 6, 2) := by decide +kernel
theorem dX1_find_100 : decode cX1_find 100 = .ok (.putfield 18, 3) := by decide +kernel
theorem dX1_find_103 : decode cX1_find 103 = .ok (.aload_n 0, 1) := by decide +kernel
theorem dX1_find_104 : decode cX1_find 104 = .ok (.getfield 9, 3) := by decide +kernel
theorem dX1_find_107 : decode cX1_find 107 = .ok (.iconst 0, 1) := by decide +kernel
theorem dX1_find_108 : decode cX1_find 108 = .ok (.aload_n 0, 1) := by decide +kernel
theorem dX1_find_109 : decode cX1_find 109 = .ok (.getfield 15, 3) := by decide +kernel
theorem dX1_find_112 : decode cX1_find 112 = .ok (.iconst 0, 1) := by decide +kernel
theorem dX1_find_113 : decode cX1_find 113 = .ok (.iconst 3, 1) := by decide +kernel
theorem dX1_find_114 : decode cX1_find 114 = .ok (.invokestatic 59, 3) := by decide +kernel
theorem dX1_find_117 : decode cX1_find 117 = .ok (.iinc 5 1, 3) := by decide +kernel
theorem dX1_find_120 : decode cX1_find 120 = .ok (.goto (-102), 3) := by decide +kernel
theorem dX1_find_123 : decode cX1_find 123 = .ok (.return_, 1) := by decide +kernel
theorem dX1_spell_0 : decode cX1_spell 0 = .ok (.iload_n 2, 1) := by decide +kernel
theorem dX1_spell_1 : decode cX1_spell 1 = .ok (.istore_n 3, 1) := by decide +kernel
theorem dX1_spell_2 : decode cX1_spell 2 = .ok (.iconst 0, 1) := by decide +kernel
theorem dX1_spell_3 : decode cX1_spell 3 = .ok (.istore 4, 2) := by decide +kernel
theorem dX1_spell_5 : decode cX1_spell 5 = .ok (.aload_n 1, 1) := by decide +kernel
theorem dX1_spell_6 : decode cX1_spell 6 = .ok (.getfield 22, 3) := by decide +kernel
theorem dX1_spell_9 : decode cX1_spell 9 = .ok (.iconst 3, 1) := by decide +kernel
theorem dX1_spell_10 : decode cX1_spell 10 = .ok (.invokestatic 65, 3) := by decide +kernel
theorem dX1_spell_13 : decode cX1_spell 13 = .ok (.iconst 1, 1) := by decide +kernel
theorem dX1_spell_14 : decode cX1_spell 14 = .ok (.isub, 1) := by decide +kernel
theorem dX1_spell_15 : decode cX1_spell 15 = .ok (.istore 5, 2) := by decide +kernel
theorem dX1_spell_17 : decode cX1_spell 17 = .ok (.iload 5, 2) := by decide +kernel
theorem dX1_spell_19 : decode cX1_spell 19 = .ok (.ifCond .lt 42, 3) := by decide +kernel
theorem dX1_spell_22 : decode cX1_spell 22 = .ok (.aload_n 0, 1) := by decide +kernel
theorem dX1_spell_23 : decode cX1_spell 23 = .ok (.getfield 9, 3) := by decide +kernel
theorem dX1_spell_26 : decode cX1_spell 26 = .ok (.iload 5, 2) := by decide +kernel
theorem dX1_spell_28 : decode cX1_spell 28 = .ok (.iload_n 3, 1) := by decide +kernel
theorem dX1_spell_29 : decode cX1_spell 29 = .ok (.iconst 5, 1) := by decide +kernel
theorem dX1_spell_30 : decode cX1_spell 30 = .ok (.irem, 1) := by decide +kernel
theorem dX1_spell_31 : decode cX1_spell 31 = .ok (.iastore, 1) := by decide +kernel
theorem dX1_spell_32 : decode cX1_spell 32 = .ok (.iload_n 3, 1) := by decide +kernel
theorem dX1_spell_33 : decode cX1_spell 33 = .ok (.iconst 5, 1) := by decide +kernel
theorem dX1_spell_34 : decode cX1_spell 34 = .ok (.idiv, 1) := by decide +kernel
theorem dX1_spell_35 : decode cX1_spell 35 = .ok (.istore_n 3, 1) := by decide +kernel
theorem dX1_spell_36 : decode cX1_spell 36 = .ok (.aload_n 0, 1) := by decide +kernel
theorem dX1_spell_37 : decode cX1_spell 37 = .ok (.getfield 9, 3) := by decide +kernel
theorem dX1_spell_40 : decode cX1_spell 40 = .ok (.iload 5, 2) := by decide +kernel
theorem dX1_spell_42 : decode cX1_spell 42 = .ok (.iaload, 1) := by decide +kernel
theorem dX1_spell_43 : decode cX1_spell 43 = .ok (.aload_n 1, 1) := by decide +kernel
theorem dX1_spell_44 : decode cX1_spell 44 = .ok (.iload 5, 2) := by decide +kernel
theorem dX1_spell_46 : decode cX1_spell 46 = .ok (.invokevirtual 71, 3) := by decide +kernel
theorem dX1_spell_49 : decode cX1_spell 49 = .ok (.if_icmp .eq 6, 3) := by decide +kernel
theorem dX1_spell_52 : decode cX1_spell 52 = .ok (.iinc 4 1, 3) := by decide +kernel
theorem dX1_spell_55 : decode cX1_spell 55 = .ok (.iinc 5 (-1), 3) := by decide +kernel
theorem dX1_spell_58 : decode cX1_spell 58 = .ok (.goto (-41), 3) := by decide +kernel
theorem dX1_spell_61 : decode cX1_spell 61 = .ok (.iload 4, 2) := by decide +kernel
theorem dX1_spell_63 : decode cX1_spell 63 = .ok (.ireturn, 1) := by decide +kernel
theorem dX1_windAt_0 : decode cX1_windAt 0 = .ok (.iload_n 1, 1) := by decide +kernel
theorem dX1_windAt_1 : decode cX1_windAt 1 = .ok (.ifCond .lt 21, 3) := by decide +kernel
theorem dX1_windAt_4 : decode cX1_windAt 4 = .ok (.iload_n 1, 1) := by decide +kernel
theorem dX1_windAt_5 : decode cX1_windAt 5 = .ok (.aload_n 0, 1) := by decide +kernel
theorem dX1_windAt_6 : decode cX1_windAt 6 = .ok (.getfield 15, 3) := by decide +kernel
theorem dX1_windAt_9 : decode cX1_windAt 9 = .ok (.arraylength, 1) := by decide +kernel
theorem dX1_windAt_10 : decode cX1_windAt 10 = .ok (.if_icmp .ge 12, 3) := by decide +kernel
theorem dX1_windAt_13 : decode cX1_windAt 13 = .ok (.aload_n 0, 1) := by decide +kernel
theorem dX1_windAt_14 : decode cX1_windAt 14 = .ok (.getfield 15, 3) := by decide +kernel
theorem dX1_windAt_17 : decode cX1_windAt 17 = .ok (.iload_n 1, 1) := by decide +kernel
theorem dX1_windAt_18 : decode cX1_windAt 18 = .ok (.iaload, 1) := by decide +kernel
theorem dX1_windAt_19 : decode cX1_windAt 19 = .ok (.goto 5, 3) := by decide +kernel
theorem dX1_windAt_22 : decode cX1_windAt 22 = .ok (.bipush (-4), 2) := by decide +kernel
theorem dX1_windAt_24 : decode cX1_windAt 24 = .ok (.ireturn, 1) := by decide +kernel
theorem dX2_init_0 : decode cX2_init 0 = .ok (.aload_n 0, 1) := by decide +kernel
theorem dX2_init_1 : decode cX2_init 1 = .ok (.invokespecial 1, 3) := by decide +kernel
theorem dX2_init_4 : decode cX2_init 4 = .ok (.return_, 1) := by decide +kernel
theorem dX3_init_0 : decode cX3_init 0 = .ok (.aload_n 0, 1) := by decide +kernel
theorem dX3_init_1 : decode cX3_init 1 = .ok (.invokespecial 3, 3) := by decide +kernel
theorem dX3_init_4 : decode cX3_init 4 = .ok (.aload_n 0, 1) := by decide +kernel
theorem dX3_init_5 : decode cX3_init 5 = .ok (.new 9, 3) := by decide +kernel
theorem dX3_init_8 : decode cX3_init 8 = .ok (.dup, 1) := by decide +kernel
theorem dX3_init_9 : decode cX3_init 9 = .ok (.invokespecial 11, 3) := by decide +kernel
theorem dX3_init_12 : decode cX3_init 12 = .ok (.putfield 12, 3) := by decide +kernel
theorem dX3_init_15 : decode cX3_init 15 = .ok (.aload_n 0, 1) := by decide +kernel
theorem dX3_init_16 : decode cX3_init 16 = .ok (.new 18, 3) := by decide +kernel
theorem dX3_init_19 : decode cX3_init 19 = .ok (.dup, 1) := by decide +kernel
theorem dX3_init_20 : decode cX3_init 20 = .ok (.invokespecial 20, 3) := by decide +kernel
theorem dX3_init_23 : decode cX3_init 23 = .ok (.putfield 21, 3) := by decide +kernel
theorem dX3_init_26 : decode cX3_init 26 = .ok (.aload_n 0, 1) := by decide +kernel
theorem dX3_init_27 : decode cX3_init 27 = .ok (.bipush 8, 2) := by decide +kernel
theorem dX3_init_29 : decode cX3_init 29 = .ok (.newarray .int, 2) := by decide +kernel
theorem dX3_init_31 : decode cX3_init 31 = .ok (.putfield 25, 3) := by decide +kernel
theorem dX3_init_34 : decode cX3_init 34 = .ok (.aload_n 0, 1) := by decide +kernel
theorem dX3_init_35 : decode cX3_init 35 = .ok (.bipush 8, 2) := by decide +kernel
theorem dX3_init_37 : decode cX3_init 37 = .ok (.newarray .int, 2) := by decide +kernel
theorem dX3_init_39 : decode cX3_init 39 = .ok (.putfield 29, 3) := by decide +kernel
theorem dX3_init_42 : decode cX3_init 42 = .ok (.aload_n 0, 1) := by decide +kernel
theorem dX3_init_43 : decode cX3_init 43 = .ok (.iconst 3, 1) := by decide +kernel
theorem dX3_init_44 : decode cX3_init 44 = .ok (.newarray .int, 2) := by decide +kernel
theorem dX3_init_46 : decode cX3_init 46 = .ok (.putfield 32, 3) := by decide +kernel
theorem dX3_init_49 : decode cX3_init 49 = .ok (.return_, 1) := by decide +kernel
theorem dX3_clear_0 : decode cX3_clear 0 = .ok (.aload_n 0, 1) := by decide +kernel
theorem dX3_clear_1 : decode cX3_clear 1 = .ok (.getfield 12, 3) := by decide +kernel
theorem dX3_clear_4 : decode cX3_clear 4 = .ok (.invokevirtual 35, 3) := by decide +kernel
theorem dX3_clear_7 : decode cX3_clear 7 = .ok (.aload_n 0, 1) := by decide +kernel
theorem dX3_clear_8 : decode cX3_clear 8 = .ok (.getfield 21, 3) := by decide +kernel
theorem dX3_clear_11 : decode cX3_clear 11 = .ok (.invokevirtual 38, 3) := by decide +kernel
theorem dX3_clear_14 : decode cX3_clear 14 = .ok (.aload_n 0, 1) := by decide +kernel
theorem dX3_clear_15 : decode cX3_clear 15 = .ok (.iconst 0, 1) := by decide +kernel
theorem dX3_clear_16 : decode cX3_clear 16 = .ok (.putfield 39, 3) := by decide +kernel
theorem dX3_clear_19 : decode cX3_clear 19 = .ok (.aload_n 0, 1) := by decide +kernel
theorem dX3_clear_20 : decode cX3_clear 20 = .ok (.iconst 0, 1) := by decide +kernel
theorem dX3_clear_21 : decode cX3_clear 21 = .ok (.putfield 43, 3) := by decide +kernel
theorem dX3_clear_24 : decode cX3_clear 24 = .ok (.aload_n 0, 1) := by decide +kernel
theorem dX3_clear_25 : decode cX3_clear 25 = .ok (.iconst 0, 1) := by decide +kernel
theorem dX3_clear_26 : decode cX3_clear 26 = .ok (.putfield 46, 3) := by decide +kernel
theorem dX3_clear_29 : decode cX3_clear 29 = .ok (.return_, 1) := by decide +kernel
theorem dX3_copyFrom_0 : decode cX3_copyFrom 0 = .ok (.aload_n 0, 1) := by decide +kernel
theorem dX3_copyFrom_1 : decode cX3_copyFrom 1 = .ok (.getfield 12, 3) := by decide +kernel
theorem dX3_copyFrom_4 : decode cX3_copyFrom 4 = .ok (.aload_n 1, 1) := by decide +kernel
theorem dX3_copyFrom_5 : decode cX3_copyFrom 5 = .ok (.getfield 12, 3) := by decide +kernel
theorem dX3_copyFrom_8 : decode cX3_copyFrom 8 = .ok (.invokevirtual 49, 3) := by decide +kernel
theorem dX3_copyFrom_11 : decode cX3_copyFrom 11 = .ok (.aload_n 0, 1) := by decide +kernel
theorem dX3_copyFrom_12 : decode cX3_copyFrom 12 = .ok (.getfield 21, 3) := by decide +kernel
theorem dX3_copyFrom_15 : decode cX3_copyFrom 15 = .ok (.aload_n 1, 1) := by decide +kernel
theorem dX3_copyFrom_16 : decode cX3_copyFrom 16 = .ok (.getfield 21, 3) := by decide +kernel
theorem dX3_copyFrom_19 : decode cX3_copyFrom 19 = .ok (.invokevirtual 53, 3) := by decide +kernel
theorem dX3_copyFrom_22 : decode cX3_copyFrom 22 = .ok (.aload_n 1, 1) := by decide +kernel
theorem dX3_copyFrom_23 : decode cX3_copyFrom 23 = .ok (.getfield 25, 3) := by decide +kernel
theorem dX3_copyFrom_26 : decode cX3_copyFrom 26 = .ok (.iconst 0, 1) := by decide +kernel
theorem dX3_copyFrom_27 : decode cX3_copyFrom 27 = .ok (.aload_n 0, 1) := by decide +kernel
theorem dX3_copyFrom_28 : decode cX3_copyFrom 28 = .ok (.getfield 25, 3) := by decide +kernel
theorem dX3_copyFrom_31 : decode cX3_copyFrom 31 = .ok (.iconst 0, 1) := by decide +kernel
theorem dX3_copyFrom_32 : decode cX3_copyFrom 32 = .ok (.bipush 8, 2) := by decide +kernel
theorem dX3_copyFrom_34 : decode cX3_copyFrom 34 = .ok (.invokestatic 56, 3) := by decide +kernel
theorem dX3_copyFrom_37 : decode cX3_copyFrom 37 = .ok (.aload_n 1, 1) := by decide +kernel
theorem dX3_copyFrom_38 : decode cX3_copyFrom 38 = .ok (.getfield 29, 3) := by decide +kernel
theorem dX3_copyFrom_41 : decode cX3_copyFrom 41 = .ok (.iconst 0, 1) := by decide +kernel
theorem dX3_copyFrom_42 : decode cX3_copyFrom 42 = .ok (.aload_n 0, 1) := by decide +kernel
theorem dX3_copyFrom_43 : decode cX3_copyFrom 43 = .ok (.getfield 29, 3) := by decide +kernel
theorem dX3_copyFrom_46 : decode cX3_copyFrom 46 = .ok (.iconst 0, 1) := by decide +kernel
theorem dX3_copyFrom_47 : decode cX3_copyFrom 47 = .ok (.bipush 8, 2) := by decide +kernel
theorem dX3_copyFrom_49 : decode cX3_copyFrom 49 = .ok (.invokestatic 56, 3) := by decide +kernel
theorem dX3_copyFrom_52 : decode cX3_copyFrom 52 = .ok (.aload_n 1, 1) := by decide +kernel
theorem dX3_copyFrom_53 : decode cX3_copyFrom 53 = .ok (.getfield 32, 3) := by decide +kernel
theorem dX3_copyFrom_56 : decode cX3_copyFrom 56 = .ok (.iconst 0, 1) := by decide +kernel
theorem dX3_copyFrom_57 : decode cX3_copyFrom 57 = .ok (.aload_n 0, 1) := by decide +kernel
theorem dX3_copyFrom_58 : decode cX3_copyFrom 58 = .ok (.getfield 32, 3) := by decide +kernel
theorem dX3_copyFrom_61 : decode cX3_copyFrom 61 = .ok (.iconst 0, 1) := by decide +kernel
theorem dX3_copyFrom_62 : decode cX3_copyFrom 62 = .ok (.iconst 3, 1) := by decide +kernel
theorem dX3_copyFrom_63 : decode cX3_copyFrom 63 = .ok (.invokestatic 56, 3) := by decide +kernel
theorem dX3_copyFrom_66 : decode cX3_copyFrom 66 = .ok (.aload_n 0, 1) := by decide +kernel
theorem dX3_copyFrom_67 : decode cX3_copyFrom 67 = .ok (.aload_n 1, 1) := by decide +kernel
theorem dX3_copyFrom_68 : decode cX3_copyFrom 68 = .ok (.getfield 39, 3) := by decide +kernel
theorem dX3_copyFrom_71 : decode cX3_copyFrom 71 = .ok (.putfield 39, 3) := by decide +kernel
theorem dX3_copyFrom_74 : decode cX3_copyFrom 74 = .ok (.aload_n 0, 1) := by decide +kernel
theorem dX3_copyFrom_75 : decode cX3_copyFrom 75 = .ok (.aload_n 1, 1) := by decide +kernel
theorem dX3_copyFrom_76 : decode cX3_copyFrom 76 = .ok (.getfield 43, 3) := by decide +kernel
theorem dX3_copyFrom_79 : decode cX3_copyFrom 79 = .ok (.putfield 43, 3) := by decide +kernel
theorem dX3_copyFrom_82 : decode cX3_copyFrom 82 = .ok (.aload_n 0, 1) := by decide +kernel
theorem dX3_copyFrom_83 : decode cX3_copyFrom 83 = .ok (.aload_n 1, 1) := by decide +kernel
theorem dX3_copyFrom_84 : decode cX3_copyFrom 84 = .ok (.getfield 46, 3) := by decide +kernel
theorem dX3_copyFrom_87 : decode cX3_copyFrom 87 = .ok (.putfield 46, 3) := by decide +kernel
theorem dX3_copyFrom_90 : decode cX3_copyFrom 90 = .ok (.return_, 1) := by decide +kernel
theorem dX3_addPiece_0 : decode cX3_addPiece 0 = .ok (.aload_n 0, 1) := by decide +kernel
theorem dX3_addPiece_1 : decode cX3_addPiece 1 = .ok (.getfield 12, 3) := by decide +kernel
theorem dX3_addPiece_4 : decode cX3_addPiece 4 = .ok (.getfield 62, 3) := by decide +kernel
theorem dX3_addPiece_7 : decode cX3_addPiece 7 = .ok (.istore 5, 2) := by decide +kernel
theorem dX3_addPiece_9 : decode cX3_addPiece 9 = .ok (.iload 5, 2) := by decide +kernel
theorem dX3_addPiece_11 : decode cX3_addPiece 11 = .ok (.ifCond .lt 10, 3) := by decide +kernel
theorem dX3_addPiece_14 : decode cX3_addPiece 14 = .ok (.iload 5, 2) := by decide +kernel
theorem dX3_addPiece_16 : decode cX3_addPiece 16 = .ok (.bipush 6, 2) := by decide +kernel
theorem dX3_addPiece_18 : decode cX3_addPiece 18 = .ok (.if_icmp .lt 4, 3) := by decide +kernel
theorem dX3_addPiece_21 : decode cX3_addPiece 21 = .ok (.return_, 1) := by decide +kernel
theorem dX3_addPiece_22 : decode cX3_addPiece 22 = .ok (.aload_n 0, 1) := by decide +kernel
theorem dX3_addPiece_23 : decode cX3_addPiece 23 = .ok (.getfield 12, 3) := by decide +kernel
theorem dX3_addPiece_26 : decode cX3_addPiece 26 = .ok (.iload 5, 2) := by decide +kernel
theorem dX3_addPiece_28 : decode cX3_addPiece 28 = .ok (.iconst 1, 1) := by decide +kernel
theorem dX3_addPiece_29 : decode cX3_addPiece 29 = .ok (.iadd, 1) := by decide +kernel
theorem dX3_addPiece_30 : decode cX3_addPiece 30 = .ok (.putfield 62, 3) := by decide +kernel
theorem dX3_addPiece_33 : decode cX3_addPiece 33 = .ok (.aload_n 0, 1) := by decide +kernel
theorem dX3_addPiece_34 : decode cX3_addPiece 34 = .ok (.getfield 12, 3) := by decide +kernel
theorem dX3_addPiece_37 : decode cX3_addPiece 37 = .ok (.getfield 65, 3) := by decide +kernel
theorem dX3_addPiece_40 : decode cX3_addPiece 40 = .ok (.iload 5, 2) := by decide +kernel
theorem dX3_addPiece_42 : decode cX3_addPiece 42 = .ok (.iload_n 1, 1) := by decide +kernel
theorem dX3_addPiece_43 : decode cX3_addPiece 43 = .ok (.iastore, 1) := by decide +kernel
theorem dX3_addPiece_44 : decode cX3_addPiece 44 = .ok (.aload_n 0, 1) := by decide +kernel
theorem dX3_addPiece_45 : decode cX3_addPiece 45 = .ok (.getfield 12, 3) := by decide +kernel
theorem dX3_addPiece_48 : decode cX3_addPiece 48 = .ok (.getfield 68, 3) := by decide +kernel
theorem dX3_addPiece_51 : decode cX3_addPiece 51 = .ok (.iload 5, 2) := by decide +kernel
theorem dX3_addPiece_53 : decode cX3_addPiece 53 = .ok (.iload_n 2, 1) := by decide +kernel
theorem dX3_addPiece_54 : decode cX3_addPiece 54 = .ok (.iastore, 1) := by decide +kernel
theorem dX3_addPiece_55 : decode cX3_addPiece 55 = .ok (.aload_n 0, 1) := by decide +kernel
theorem dX3_addPiece_56 : decode cX3_addPiece 56 = .ok (.getfield 21, 3) := by decide +kernel
theorem dX3_addPiece_59 : decode cX3_addPiece 59 = .ok (.aload_n 0, 1) := by decide +kernel
theorem dX3_addPiece_60 : decode cX3_addPiece 60 = .ok (.getfield 12, 3) := by decide +kernel
theorem dX3_addPiece_63 : decode cX3_addPiece 63 = .ok (.iload 5, 2) := by decide +kernel
theorem dX3_addPiece_65 : decode cX3_addPiece 65 = .ok (.iload_n 3, 1) := by decide +kernel
theorem dX3_addPiece_66 : decode cX3_addPiece 66 = .ok (.invokevirtual 71, 3) := by decide +kernel
theorem dX3_addPiece_69 : decode cX3_addPiece 69 = .ok (.aload_n 0, 1) := by decide +kernel
theorem dX3_addPiece_70 : decode cX3_addPiece 70 = .ok (.getfield 21, 3) := by decide +kernel
theorem dX3_addPiece_73 : decode cX3_addPiece 73 = .ok (.iload 5, 2) := by decide +kernel
theorem dX3_addPiece_75 : decode cX3_addPiece 75 = .ok (.iload 4, 2) := by decide +kernel
theorem dX3_addPiece_77 : decode cX3_addPiece 77 = .ok (.invokevirtual 75, 3) := by decide +kernel
theorem dX3_addPiece_80 : decode cX3_addPiece 80 = .ok (.return_, 1) := by decide +kernel
theorem dX3_addTwoKings_0 : decode cX3_addTwoKings 0 = .ok (.aload_n 0, 1) := by decide +kernel
theorem dX3_addTwoKings_1 : decode cX3_addTwoKings 1 = .ok (.iconst 0, 1) := by decide +kernel
theorem dX3_addTwoKings_2 : decode cX3_addTwoKings 2 = .ok (.iconst 0, 1) := by decide +kernel
theorem dX3_addTwoKings_3 : decode cX3_addTwoKings 3 = .ok (.iconst 0, 1) := by decide +kernel
theorem dX3_addTwoKings_4 : decode cX3_addTwoKings 4 = .ok (.bipush 9, 2) := by decide +kernel
theorem dX3_addTwoKings_6 : decode cX3_addTwoKings 6 = .ok (.invokevirtual 79, 3) := by decide +kernel
theorem dX3_addTwoKings_9 : decode cX3_addTwoKings 9 = .ok (.aload_n 0, 1) := by decide +kernel
theorem dX3_addTwoKings_10 : decode cX3_addTwoKings 10 = .ok (.iconst 0, 1) := by decide +kernel
theorem dX3_addTwoKings_11 : decode cX3_addTwoKings 11 = .ok (.iconst 1, 1) := by decide +kernel
theorem dX3_addTwoKings_12 : decode cX3_addTwoKings 12 = .ok (.aload_n 0, 1) := by decide +kernel
theorem dX3_addTwoKings_13 : decode cX3_addTwoKings 13 = .ok (.getfield 12, 3) := by decide +kernel
theorem dX3_addTwoKings_16 : decode cX3_addTwoKings 16 = .ok (.invokevirtual 83, 3) := by decide +kernel
theorem dX3_addTwoKings_19 : decode cX3_addTwoKings 19 = .ok (.iconst 1, 1) := by decide +kernel
theorem dX3_addTwoKings_20 : decode cX3_addTwoKings 20 = .ok (.isub, 1) := by decide +kernel
theorem dX3_addTwoKings_21 : decode cX3_addTwoKings 21 = .ok (.bipush 9, 2) := by decide +kernel
theorem dX3_addTwoKings_23 : decode cX3_addTwoKings 23 = .ok (.invokevirtual 79, 3) := by decide +kernel
theorem dX3_addTwoKings_26 : decode cX3_addTwoKings 26 = .ok (.return_, 1) := by decide +kernel
theorem dX3_addSeen_0 : decode cX3_addSeen 0 = .ok (.aload_n 0, 1) := by decide +kernel
theorem dX3_addSeen_1 : decode cX3_addSeen 1 = .ok (.getfield 43, 3) := by decide +kernel
theorem dX3_addSeen_4 : decode cX3_addSeen 4 = .ok (.ifCond .lt 12, 3) := by decide +kernel
theorem dX3_addSeen_7 : decode cX3_addSeen 7 = .ok (.aload_n 0, 1) := by decide +kernel
theorem dX3_addSeen_8 : decode cX3_addSeen 8 = .ok (.getfield 43, 3) := by decide +kernel
theorem dX3_addSeen_11 : decode cX3_addSeen 11 = .ok (.bipush 8, 2) := by decide +kernel
theorem dX3_addSeen_13 : decode cX3_addSeen 13 = .ok (.if_icmp .lt 5, 3) := by decide +kernel
theorem dX3_addSeen_16 : decode cX3_addSeen 16 = .ok (.iconst 0, 1) := by decide +kernel
theorem dX3_addSeen_17 : decode cX3_addSeen 17 = .ok (.ireturn, 1) := by decide +kernel
theorem dX3_addSeen_18 : decode cX3_addSeen 18 = .ok (.aload_n 0, 1) := by decide +kernel
theorem dX3_addSeen_19 : decode cX3_addSeen 19 = .ok (.getfield 25, 3) := by decide +kernel
theorem dX3_addSeen_22 : decode cX3_addSeen 22 = .ok (.aload_n 0, 1) := by decide +kernel
theorem dX3_addSeen_23 : decode cX3_addSeen 23 = .ok (.getfield 43, 3) := by decide +kernel
theorem dX3_addSeen_26 : decode cX3_addSeen 26 = .ok (.iload_n 1, 1) := by decide +kernel
theorem dX3_addSeen_27 : decode cX3_addSeen 27 = .ok (.iastore, 1) := by decide +kernel
theorem dX3_addSeen_28 : decode cX3_addSeen 28 = .ok (.aload_n 0, 1) := by decide +kernel
theorem dX3_addSeen_29 : decode cX3_addSeen 29 = .ok (.getfield 29, 3) := by decide +kernel
theorem dX3_addSeen_32 : decode cX3_addSeen 32 = .ok (.aload_n 0, 1) := by decide +kernel
theorem dX3_addSeen_33 : decode cX3_addSeen 33 = .ok (.getfield 43, 3) := by decide +kernel
theorem dX3_addSeen_36 : decode cX3_addSeen 36 = .ok (.iload_n 2, 1) := by decide +kernel
theorem dX3_addSeen_37 : decode cX3_addSeen 37 = .ok (.iastore, 1) := by decide +kernel
theorem dX3_addSeen_38 : decode cX3_addSeen 38 = .ok (.aload_n 0, 1) := by decide +kernel
theorem dX3_addSeen_39 : decode cX3_addSeen 39 = .ok (.dup, 1) := by decide +kernel
theorem dX3_addSeen_40 : decode cX3_addSeen 40 = .ok (.getfield 43, 3) := by decide +kernel
theorem dX3_addSeen_43 : decode cX3_addSeen 43 = .ok (.iconst 1, 1) := by decide +kernel
theorem dX3_addSeen_44 : decode cX3_addSeen 44 = .ok (.iadd, 1) := by decide +kernel
theorem dX3_addSeen_45 : decode cX3_addSeen 45 = .ok (.putfield 43, 3) := by decide +kernel
theorem dX3_addSeen_48 : decode cX3_addSeen 48 = .ok (.iconst 1, 1) := by decide +kernel
theorem dX3_addSeen_49 : decode cX3_addSeen 49 = .ok (.ireturn, 1) := by decide +kernel
theorem dX3_addTold_0 : decode cX3_addTold 0 = .ok (.aload_n 0, 1) := by decide +kernel
theorem dX3_addTold_1 : decode cX3_addTold 1 = .ok (.getfield 46, 3) := by decide +kernel
theorem dX3_addTold_4 : decode cX3_addTold 4 = .ok (.ifCond .lt 11, 3) := by decide +kernel
theorem dX3_addTold_7 : decode cX3_addTold 7 = .ok (.aload_n 0, 1) := by decide +kernel
theorem dX3_addTold_8 : decode cX3_addTold 8 = .ok (.getfield 46, 3) := by decide +kernel
theorem dX3_addTold_11 : decode cX3_addTold 11 = .ok (.iconst 3, 1) := by decide +kernel
theorem dX3_addTold_12 : decode cX3_addTold 12 = .ok (.if_icmp .lt 5, 3) := by decide +kernel
theorem dX3_addTold_15 : decode cX3_addTold 15 = .ok (.iconst 0, 1) := by decide +kernel
theorem dX3_addTold_16 : decode cX3_addTold 16 = .ok (.ireturn, 1) := by decide +kernel
theorem dX3_addTold_17 : decode cX3_addTold 17 = .ok (.aload_n 0, 1) := by decide +kernel
theorem dX3_addTold_18 : decode cX3_addTold 18 = .ok (.getfield 32, 3) := by decide +kernel
theorem dX3_addTold_21 : decode cX3_addTold 21 = .ok (.aload_n 0, 1) := by decide +kernel
theorem dX3_addTold_22 : decode cX3_addTold 22 = .ok (.getfield 46, 3) := by decide +kernel
theorem dX3_addTold_25 : decode cX3_addTold 25 = .ok (.iload_n 1, 1) := by decide +kernel
theorem dX3_addTold_26 : decode cX3_addTold 26 = .ok (.iastore, 1) := by decide +kernel
theorem dX3_addTold_27 : decode cX3_addTold 27 = .ok (.aload_n 0, 1) := by decide +kernel
theorem dX3_addTold_28 : decode cX3_addTold 28 = .ok (.dup, 1) := by decide +kernel
theorem dX3_addTold_29 : decode cX3_addTold 29 = .ok (.getfield 46, 3) := by decide +kernel
theorem dX3_addTold_32 : decode cX3_addTold 32 = .ok (.iconst 1, 1) := by decide +kernel
theorem dX3_addTold_33 : decode cX3_addTold 33 = .ok (.iadd, 1) := by decide +kernel
theorem dX3_addTold_34 : decode cX3_addTold 34 = .ok (.putfield 46, 3) := by decide +kernel
theorem dX3_addTold_37 : decode cX3_addTold 37 = .ok (.iconst 1, 1) := by decide +kernel
theorem dX3_addTold_38 : decode cX3_addTold 38 = .ok (.ireturn, 1) := by decide +kernel
theorem dX3_toldAt_0 : decode cX3_toldAt 0 = .ok (.iload_n 1, 1) := by decide +kernel
theorem dX3_toldAt_1 : decode cX3_toldAt 1 = .ok (.ifCond .lt 25, 3) := by decide +kernel
theorem dX3_toldAt_4 : decode cX3_toldAt 4 = .ok (.iload_n 1, 1) := by decide +kernel
theorem dX3_toldAt_5 : decode cX3_toldAt 5 = .ok (.aload_n 0, 1) := by decide +kernel
theorem dX3_toldAt_6 : decode cX3_toldAt 6 = .ok (.getfield 46, 3) := by decide +kernel
theorem dX3_toldAt_9 : decode cX3_toldAt 9 = .ok (.if_icmp .ge 17, 3) := by decide +kernel
theorem dX3_toldAt_12 : decode cX3_toldAt 12 = .ok (.iload_n 1, 1) := by decide +kernel
theorem dX3_toldAt_13 : decode cX3_toldAt 13 = .ok (.iconst 3, 1) := by decide +kernel
theorem dX3_toldAt_14 : decode cX3_toldAt 14 = .ok (.if_icmp .ge 12, 3) := by decide +kernel
theorem dX3_toldAt_17 : decode cX3_toldAt 17 = .ok (.aload_n 0, 1) := by decide +kernel
theorem dX3_toldAt_18 : decode cX3_toldAt 18 = .ok (.getfield 32, 3) := by decide +kernel
theorem dX3_toldAt_21 : decode cX3_toldAt 21 = .ok (.iload_n 1, 1) := by decide +kernel
theorem dX3_toldAt_22 : decode cX3_toldAt 22 = .ok (.iaload, 1) := by decide +kernel
theorem dX3_toldAt_23 : decode cX3_toldAt 23 = .ok (.goto 5, 3) := by decide +kernel
theorem dX3_toldAt_26 : decode cX3_toldAt 26 = .ok (.bipush (-4), 2) := by decide +kernel
theorem dX3_toldAt_28 : decode cX3_toldAt 28 = .ok (.ireturn, 1) := by decide +kernel
theorem dX4_init_0 : decode cX4_init 0 = .ok (.aload_n 0, 1) := by decide +kernel
theorem dX4_init_1 : decode cX4_init 1 = .ok (.invokespecial 3, 3) := by decide +kernel
theorem dX4_init_4 : decode cX4_init 4 = .ok (.return_, 1) := by decide +kernel
theorem dX4_aim_0 : decode cX4_aim 0 = .ok (.aload_n 0, 1) := by decide +kernel
theorem dX4_aim_1 : decode cX4_aim 1 = .ok (.aload_n 1, 1) := by decide +kernel
theorem dX4_aim_2 : decode cX4_aim 2 = .ok (.putfield 9, 3) := by decide +kernel
theorem dX4_aim_5 : decode cX4_aim 5 = .ok (.aload_n 0, 1) := by decide +kernel
theorem dX4_aim_6 : decode cX4_aim 6 = .ok (.aload_n 2, 1) := by decide +kernel
theorem dX4_aim_7 : decode cX4_aim 7 = .ok (.putfield 15, 3) := by decide +kernel
theorem dX4_aim_10 : decode cX4_aim 10 = .ok (.return_, 1) := by decide +kernel
theorem dX4_mayCome_0 : decode cX4_mayCome 0 = .ok (.aload_n 0, 1) := by decide +kernel
theorem dX4_mayCome_1 : decode cX4_mayCome 1 = .ok (.getfield 9, 3) := by decide +kernel
theorem dX4_mayCome_4 : decode cX4_mayCome 4 = .ok (.ifnull 10, 3) := by decide +kernel
theorem dX4_mayCome_7 : decode cX4_mayCome 7 = .ok (.aload_n 0, 1) := by decide +kernel
theorem dX4_mayCome_8 : decode cX4_mayCome 8 = .ok (.getfield 15, 3) := by decide +kernel
theorem dX4_mayCome_11 : decode cX4_mayCome 11 = .ok (.ifnonnull 5, 3) := by decide +kernel
theorem dX4_mayCome_14 : decode cX4_mayCome 14 = .ok (.iconst 0, 1) := by decide +kernel
theorem dX4_mayCome_15 : decode cX4_mayCome 15 = .ok (.ireturn, 1) := by decide +kernel
theorem dX4_mayCome_16 : decode cX4_mayCome 16 = .ok (.aload_n 1, 1) := by decide +kernel
theorem dX4_mayCome_17 : decode cX4_mayCome 17 = .ok (.getfield 19, 3) := by decide +kernel
theorem dX4_mayCome_20 : decode cX4_mayCome 20 = .ok (.iload_n 2, 1) := by decide +kernel
theorem dX4_mayCome_21 : decode cX4_mayCome 21 = .ok (.iadd, 1) := by decide +kernel
theorem dX4_mayCome_22 : decode cX4_mayCome 22 = .ok (.iconst 2, 1) := by decide +kernel
theorem dX4_mayCome_23 : decode cX4_mayCome 23 = .ok (.irem, 1) := by decide +kernel
theorem dX4_mayCome_24 : decode cX4_mayCome 24 = .ok (.aload_n 0, 1) := by decide +kernel
theorem dX4_mayCome_25 : decode cX4_mayCome 25 = .ok (.getfield 15, 3) := by decide +kernel
theorem dX4_mayCome_28 : decode cX4_mayCome 28 = .ok (.getfield 19, 3) := by decide +kernel
theorem dX4_mayCome_31 : decode cX4_mayCome 31 = .ok (.if_icmp .eq 5, 3) := by decide +kernel
theorem dX4_mayCome_34 : decode cX4_mayCome 34 = .ok (.iconst 0, 1) := by decide +kernel
theorem dX4_mayCome_35 : decode cX4_mayCome 35 = .ok (.ireturn, 1) := by decide +kernel
theorem dX4_mayCome_36 : decode cX4_mayCome 36 = .ok (.iconst 0, 1) := by decide +kernel
theorem dX4_mayCome_37 : decode cX4_mayCome 37 = .ok (.istore_n 3, 1) := by decide +kernel
theorem dX4_mayCome_38 : decode cX4_mayCome 38 = .ok (.iconst 0, 1) := by decide +kernel
theorem dX4_mayCome_39 : decode cX4_mayCome 39 = .ok (.istore 4, 2) := by decide +kernel
theorem dX4_mayCome_41 : decode cX4_mayCome 41 = .ok (.iload 4, 2) := by decide +kernel
theorem dX4_mayCome_43 : decode cX4_mayCome 43 = .ok (.aload_n 0, 1) := by decide +kernel
theorem dX4_mayCome_44 : decode cX4_mayCome 44 = .ok (.getfield 9, 3) := by decide +kernel
theorem dX4_mayCome_47 : decode cX4_mayCome 47 = .ok (.getfield 25, 3) := by decide +kernel
theorem dX4_mayCome_50 : decode cX4_mayCome 50 = .ok (.if_icmp .ge 85, 3) := by decide +kernel
theorem dX4_mayCome_53 : decode cX4_mayCome 53 = .ok (.aload_n 1, 1) := by decide +kernel
theorem dX4_mayCome_54 : decode cX4_mayCome 54 = .ok (.iload 4, 2) := by decide +kernel
theorem dX4_mayCome_56 : decode cX4_mayCome 56 = .ok (.invokevirtual 30, 3) := by decide +kernel
theorem dX4_mayCome_59 : decode cX4_mayCome 59 = .ok (.aload_n 0, 1) := by decide +kernel
theorem dX4_mayCome_60 : decode cX4_mayCome 60 = .ok (.getfield 15, 3) := by decide +kernel
theorem dX4_mayCome_63 : decode cX4_mayCome 63 = .ok (.iload 4, 2) := by decide +kernel
theorem dX4_mayCome_65 : decode cX4_mayCome 65 = .ok (.invokevirtual 30, 3) := by decide +kernel
theorem dX4_mayCome_68 : decode cX4_mayCome 68 = .ok (.if_icmp .ne 7, 3) := by decide +kernel
theorem dX4_mayCome_71 : decode cX4_mayCome 71 = .ok (.iconst 1, 1) := by decide +kernel
theorem dX4_mayCome_72 : decode cX4_mayCome 72 = .ok (.goto 4, 3) := by decide +kernel
theorem dX4_mayCome_75 : decode cX4_mayCome 75 = .ok (.iconst 0, 1) := by decide +kernel
theorem dX4_mayCome_76 : decode cX4_mayCome 76 = .ok (.istore 5, 2) := by decide +kernel
theorem dX4_mayCome_78 : decode cX4_mayCome 78 = .ok (.iload_n 2, 1) := by decide +kernel
theorem dX4_mayCome_79 : decode cX4_mayCome 79 = .ok (.ifCond .ne 28, 3) := by decide +kernel
theorem dX4_mayCome_82 : decode cX4_mayCome 82 = .ok (.iload 5, 2) := by decide +kernel
theorem dX4_mayCome_84 : decode cX4_mayCome 84 = .ok (.ifCond .eq 21, 3) := by decide +kernel
theorem dX4_mayCome_87 : decode cX4_mayCome 87 = .ok (.aload_n 1, 1) := by decide +kernel
theorem dX4_mayCome_88 : decode cX4_mayCome 88 = .ok (.iload 4, 2) := by decide +kernel
theorem dX4_mayCome_90 : decode cX4_mayCome 90 = .ok (.invokevirtual 34, 3) := by decide +kernel
theorem dX4_mayCome_93 : decode cX4_mayCome 93 = .ok (.aload_n 0, 1) := by decide +kernel
theorem dX4_mayCome_94 : decode cX4_mayCome 94 = .ok (.getfield 15, 3) := by decide +kernel
theorem dX4_mayCome_97 : decode cX4_mayCome 97 = .ok (.iload 4, 2) := by decide +kernel
theorem dX4_mayCome_99 : decode cX4_mayCome 99 = .ok (.invokevirtual 34, 3) := by decide +kernel
theorem dX4_mayCome_102 : decode cX4_mayCome 102 = .ok (.if_icmp .eq 5, 3) := by decide +kernel
theorem dX4_mayCome_105 : decode cX4_mayCome 105 = .ok (.iconst 0, 1) := by decide +kernel
theorem dX4_mayCome_106 : decode cX4_mayCome 106 = .ok (.ireturn, 1) := by decide +kernel
theorem dX4_mayCome_107 : decode cX4_mayCome 107 = .ok (.iload 5, 2) := by decide +kernel
theorem dX4_mayCome_109 : decode cX4_mayCome 109 = .ok (.ifCond .ne 20, 3) := by decide +kernel
theorem dX4_mayCome_112 : decode cX4_mayCome 112 = .ok (.aload_n 0, 1) := by decide +kernel
theorem dX4_mayCome_113 : decode cX4_mayCome 113 = .ok (.getfield 15, 3) := by decide +kernel
theorem dX4_mayCome_116 : decode cX4_mayCome 116 = .ok (.iload 4, 2) := by decide +kernel
theorem dX4_mayCome_118 : decode cX4_mayCome 118 = .ok (.invokevirtual 30, 3) := by decide +kernel
theorem dX4_mayCome_121 : decode cX4_mayCome 121 = .ok (.bipush (-4), 2) := by decide +kernel
theorem dX4_mayCome_123 : decode cX4_mayCome 123 = .ok (.if_icmp .eq 6, 3) := by decide +kernel
theorem dX4_mayCome_126 : decode cX4_mayCome 126 = .ok (.iinc 3 1, 3) := by decide +kernel
theorem dX4_mayCome_129 : decode cX4_mayCome 129 = .ok (.iinc 4 1, 3) := by decide +kernel
theorem dX4_mayCome_132 : decode cX4_mayCome 132 = .ok (.goto (-91), 3) := by decide +kernel
theorem dX4_mayCome_135 : decode cX4_mayCome 135 = .ok (.iload_n 3, 1) := by decide +kernel
theorem dX4_mayCome_136 : decode cX4_mayCome 136 = .ok (.iload_n 2, 1) := by decide +kernel
theorem dX4_mayCome_137 : decode cX4_mayCome 137 = .ok (.if_icmp .gt 7, 3) := by decide +kernel
theorem dX4_mayCome_140 : decode cX4_mayCome 140 = .ok (.iconst 1, 1) := by decide +kernel
theorem dX4_mayCome_141 : decode cX4_mayCome 141 = .ok (.goto 4, 3) := by decide +kernel
theorem dX4_mayCome_144 : decode cX4_mayCome 144 = .ok (.iconst 0, 1) := by decide +kernel
theorem dX4_mayCome_145 : decode cX4_mayCome 145 = .ok (.ireturn, 1) := by decide +kernel
theorem dX5_init_0 : decode cX5_init 0 = .ok (.aload_n 0, 1) := by decide +kernel
theorem dX5_init_1 : decode cX5_init 1 = .ok (.invokespecial 3, 3) := by decide +kernel
theorem dX5_init_4 : decode cX5_init 4 = .ok (.aload_n 0, 1) := by decide +kernel
theorem dX5_init_5 : decode cX5_init 5 = .ok (.bipush 6, 2) := by decide +kernel
theorem dX5_init_7 : decode cX5_init 7 = .ok (.newarray .int, 2) := by decide +kernel
theorem dX5_init_9 : decode cX5_init 9 = .ok (.putfield 9, 3) := by decide +kernel
theorem dX5_init_12 : decode cX5_init 12 = .ok (.aload_n 0, 1) := by decide +kernel
theorem dX5_init_13 : decode cX5_init 13 = .ok (.bipush 6, 2) := by decide +kernel
theorem dX5_init_15 : decode cX5_init 15 = .ok (.newarray .int, 2) := by decide +kernel
theorem dX5_init_17 : decode cX5_init 17 = .ok (.putfield 15, 3) := by decide +kernel
theorem dX5_init_20 : decode cX5_init 20 = .ok (.aload_n 0, 1) := by decide +kernel
theorem dX5_init_21 : decode cX5_init 21 = .ok (.iconst 5, 1) := by decide +kernel
theorem dX5_init_22 : decode cX5_init 22 = .ok (.newarray .int, 2) := by decide +kernel
theorem dX5_init_24 : decode cX5_init 24 = .ok (.putfield 18, 3) := by decide +kernel
theorem dX5_init_27 : decode cX5_init 27 = .ok (.return_, 1) := by decide +kernel
theorem dX5_clear_0 : decode cX5_clear 0 = .ok (.aload_n 0, 1) := by decide +kernel
theorem dX5_clear_1 : decode cX5_clear 1 = .ok (.iconst 3, 1) := by decide +kernel
theorem dX5_clear_2 : decode cX5_clear 2 = .ok (.putfield 21, 3) := by decide +kernel
theorem dX5_clear_5 : decode cX5_clear 5 = .ok (.aload_n 0, 1) := by decide +kernel
theorem dX5_clear_6 : decode cX5_clear 6 = .ok (.iconst 3, 1) := by decide +kernel
theorem dX5_clear_7 : decode cX5_clear 7 = .ok (.putfield 25, 3) := by decide +kernel
theorem dX5_clear_10 : decode cX5_clear 10 = .ok (.aload_n 0, 1) := by decide +kernel
theorem dX5_clear_11 : decode cX5_clear 11 = .ok (.iconst 0, 1) := by decide +kernel
theorem dX5_clear_12 : decode cX5_clear 12 = .ok (.putfield 28, 3) := by decide +kernel
theorem dX5_clear_15 : decode cX5_clear 15 = .ok (.aload_n 0, 1) := by decide +kernel
theorem dX5_clear_16 : decode cX5_clear 16 = .ok (.iconst 0, 1) := by decide +kernel
theorem dX5_clear_17 : decode cX5_clear 17 = .ok (.putfield 31, 3) := by decide +kernel
theorem dX5_clear_20 : decode cX5_clear 20 = .ok (.iconst 0, 1) := by decide +kernel
theorem dX5_clear_21 : decode cX5_clear 21 = .ok (.istore_n 1, 1) := by decide +kernel
theorem dX5_clear_22 : decode cX5_clear 22 = .ok (.iload_n 1, 1) := by decide +kernel
theorem dX5_clear_23 : decode cX5_clear 23 = .ok (.aload_n 0, 1) := by decide +kernel
theorem dX5_clear_24 : decode cX5_clear 24 = .ok (.getfield 18, 3) := by decide +kernel
theorem dX5_clear_27 : decode cX5_clear 27 = .ok (.arraylength, 1) := by decide +kernel
theorem dX5_clear_28 : decode cX5_clear 28 = .ok (.if_icmp .ge 16, 3) := by decide +kernel
theorem dX5_clear_31 : decode cX5_clear 31 = .ok (.aload_n 0, 1) := by decide +kernel
theorem dX5_clear_32 : decode cX5_clear 32 = .ok (.getfield 18, 3) := by decide +kernel
theorem dX5_clear_35 : decode cX5_clear 35 = .ok (.iload_n 1, 1) := by decide +kernel
theorem dX5_clear_36 : decode cX5_clear 36 = .ok (.iconst 1, 1) := by decide +kernel
theorem dX5_clear_37 : decode cX5_clear 37 = .ok (.iastore, 1) := by decide +kernel
theorem dX5_clear_38 : decode cX5_clear 38 = .ok (.iinc 1 1, 3) := by decide +kernel
theorem dX5_clear_41 : decode cX5_clear 41 = .ok (.goto (-19), 3) := by decide +kernel
theorem dX5_clear_44 : decode cX5_clear 44 = .ok (.return_, 1) := by decide +kernel
theorem dX5_copyFrom_0 : decode cX5_copyFrom 0 = .ok (.aload_n 0, 1) := by decide +kernel
theorem dX5_copyFrom_1 : decode cX5_copyFrom 1 = .ok (.aload_n 1, 1) := by decide +kernel
theorem dX5_copyFrom_2 : decode cX5_copyFrom 2 = .ok (.getfield 21, 3) := by decide +kernel
theorem dX5_copyFrom_5 : decode cX5_copyFrom 5 = .ok (.putfield 21, 3) := by decide +kernel
theorem dX5_copyFrom_8 : decode cX5_copyFrom 8 = .ok (.aload_n 0, 1) := by decide +kernel
theorem dX5_copyFrom_9 : decode cX5_copyFrom 9 = .ok (.aload_n 1, 1) := by decide +kernel
theorem dX5_copyFrom_10 : decode cX5_copyFrom 10 = .ok (.getfield 25, 3) := by decide +kernel
theorem dX5_copyFrom_13 : decode cX5_copyFrom 13 = .ok (.putfield 25, 3) := by decide +kernel
theorem dX5_copyFrom_16 : decode cX5_copyFrom 16 = .ok (.aload_n 0, 1) := by decide +kernel
theorem dX5_copyFrom_17 : decode cX5_copyFrom 17 = .ok (.aload_n 1, 1) := by decide +kernel
theorem dX5_copyFrom_18 : decode cX5_copyFrom 18 = .ok (.getfield 28, 3) := by decide +kernel
theorem dX5_copyFrom_21 : decode cX5_copyFrom 21 = .ok (.putfield 28, 3) := by decide +kernel
theorem dX5_copyFrom_24 : decode cX5_copyFrom 24 = .ok (.aload_n 0, 1) := by decide +kernel
theorem dX5_copyFrom_25 : decode cX5_copyFrom 25 = .ok (.aload_n 1, 1) := by decide +kernel
theorem dX5_copyFrom_26 : decode cX5_copyFrom 26 = .ok (.getfield 31, 3) := by decide +kernel
theorem dX5_copyFrom_29 : decode cX5_copyFrom 29 = .ok (.putfield 31, 3) := by decide +kernel
theorem dX5_copyFrom_32 : decode cX5_copyFrom 32 = .ok (.aload_n 1, 1) := by decide +kernel
theorem dX5_copyFrom_33 : decode cX5_copyFrom 33 = .ok (.getfield 9, 3) := by decide +kernel
theorem dX5_copyFrom_36 : decode cX5_copyFrom 36 = .ok (.iconst 0, 1) := by decide +kernel
theorem dX5_copyFrom_37 : decode cX5_copyFrom 37 = .ok (.aload_n 0, 1) := by decide +kernel
theorem dX5_copyFrom_38 : decode cX5_copyFrom 38 = .ok (.getfield 9, 3) := by decide +kernel
theorem dX5_copyFrom_41 : decode cX5_copyFrom 41 = .ok (.iconst 0, 1) := by decide +kernel
theorem dX5_copyFrom_42 : decode cX5_copyFrom 42 = .ok (.bipush 6, 2) := by decide +kernel
theorem dX5_copyFrom_44 : decode cX5_copyFrom 44 = .ok (.invokestatic 34, 3) := by decide +kernel
theorem dX5_copyFrom_47 : decode cX5_copyFrom 47 = .ok (.aload_n 1, 1) := by decide +kernel
theorem dX5_copyFrom_48 : decode cX5_copyFrom 48 = .ok (.getfield 15, 3) := by decide +kernel
theorem dX5_copyFrom_51 : decode cX5_copyFrom 51 = .ok (.iconst 0, 1) := by decide +kernel
theorem dX5_copyFrom_52 : decode cX5_copyFrom 52 = .ok (.aload_n 0, 1) := by decide +kernel
theorem dX5_copyFrom_53 : decode cX5_copyFrom 53 = .ok (.getfield 15, 3) := by decide +kernel
theorem dX5_copyFrom_56 : decode cX5_copyFrom 56 = .ok (.iconst 0, 1) := by decide +kernel
theorem dX5_copyFrom_57 : decode cX5_copyFrom 57 = .ok (.bipush 6, 2) := by decide +kernel
theorem dX5_copyFrom_59 : decode cX5_copyFrom 59 = .ok (.invokestatic 34, 3) := by decide +kernel
theorem dX5_copyFrom_62 : decode cX5_copyFrom 62 = .ok (.aload_n 1, 1) := by decide +kernel
theorem dX5_copyFrom_63 : decode cX5_copyFrom 63 = .ok (.getfield 18, 3) := by decide +kernel
theorem dX5_copyFrom_66 : decode cX5_copyFrom 66 = .ok (.iconst 0, 1) := by decide +kernel
theorem dX5_copyFrom_67 : decode cX5_copyFrom 67 = .ok (.aload_n 0, 1) := by decide +kernel
theorem dX5_copyFrom_68 : decode cX5_copyFrom 68 = .ok (.getfield 18, 3) := by decide +kernel
theorem dX5_copyFrom_71 : decode cX5_copyFrom 71 = .ok (.iconst 0, 1) := by decide +kernel
theorem dX5_copyFrom_72 : decode cX5_copyFrom 72 = .ok (.iconst 5, 1) := by decide +kernel
theorem dX5_copyFrom_73 : decode cX5_copyFrom 73 = .ok (.invokestatic 34, 3) := by decide +kernel
theorem dX5_copyFrom_76 : decode cX5_copyFrom 76 = .ok (.return_, 1) := by decide +kernel
theorem dX5_squares_0 : decode cX5_squares 0 = .ok (.aload_n 0, 1) := by decide +kernel
theorem dX5_squares_1 : decode cX5_squares 1 = .ok (.getfield 21, 3) := by decide +kernel
theorem dX5_squares_4 : decode cX5_squares 4 = .ok (.aload_n 0, 1) := by decide +kernel
theorem dX5_squares_5 : decode cX5_squares 5 = .ok (.getfield 25, 3) := by decide +kernel
theorem dX5_squares_8 : decode cX5_squares 8 = .ok (.imul, 1) := by decide +kernel
theorem dX5_squares_9 : decode cX5_squares 9 = .ok (.ireturn, 1) := by decide +kernel
theorem dX5_isSquare_0 : decode cX5_isSquare 0 = .ok (.iload_n 1, 1) := by decide +kernel
theorem dX5_isSquare_1 : decode cX5_isSquare 1 = .ok (.ifCond .lt 20, 3) := by decide +kernel
theorem dX5_isSquare_4 : decode cX5_isSquare 4 = .ok (.iload_n 1, 1) := by decide +kernel
theorem dX5_isSquare_5 : decode cX5_isSquare 5 = .ok (.aload_n 0, 1) := by decide +kernel
theorem dX5_isSquare_6 : decode cX5_isSquare 6 = .ok (.getfield 21, 3) := by decide +kernel
theorem dX5_isSquare_9 : decode cX5_isSquare 9 = .ok (.aload_n 0, 1) := by decide +kernel
theorem dX5_isSquare_10 : decode cX5_isSquare 10 = .ok (.getfield 25, 3) := by decide +kernel
theorem dX5_isSquare_13 : decode cX5_isSquare 13 = .ok (.imul, 1) := by decide +kernel
theorem dX5_isSquare_14 : decode cX5_isSquare 14 = .ok (.if_icmp .ge 7, 3) := by decide +kernel
theorem dX5_isSquare_17 : decode cX5_isSquare 17 = .ok (.iconst 1, 1) := by decide +kernel
theorem dX5_isSquare_18 : decode cX5_isSquare 18 = .ok (.goto 4, 3) := by decide +kernel
theorem dX5_isSquare_21 : decode cX5_isSquare 21 = .ok (.iconst 0, 1) := by decide +kernel
theorem dX5_isSquare_22 : decode cX5_isSquare 22 = .ok (.ireturn, 1) := by decide +kernel
theorem dX5_isPiece_0 : decode cX5_isPiece 0 = .ok (.iload_n 1, 1) := by decide +kernel
theorem dX5_isPiece_1 : decode cX5_isPiece 1 = .ok (.ifCond .lt 15, 3) := by decide +kernel
theorem dX5_isPiece_4 : decode cX5_isPiece 4 = .ok (.iload_n 1, 1) := by decide +kernel
theorem dX5_isPiece_5 : decode cX5_isPiece 5 = .ok (.aload_n 0, 1) := by decide +kernel
theorem dX5_isPiece_6 : decode cX5_isPiece 6 = .ok (.getfield 31, 3) := by decide +kernel
theorem dX5_isPiece_9 : decode cX5_isPiece 9 = .ok (.if_icmp .ge 7, 3) := by decide +kernel
theorem dX5_isPiece_12 : decode cX5_isPiece 12 = .ok (.iconst 1, 1) := by decide +kernel
theorem dX5_isPiece_13 : decode cX5_isPiece 13 = .ok (.goto 4, 3) := by decide +kernel
theorem dX5_isPiece_16 : decode cX5_isPiece 16 = .ok (.iconst 0, 1) := by decide +kernel
theorem dX5_isPiece_17 : decode cX5_isPiece 17 = .ok (.ireturn, 1) := by decide +kernel
theorem dX5_sideOf_0 : decode cX5_sideOf 0 = .ok (.iload_n 1, 1) := by decide +kernel
theorem dX5_sideOf_1 : decode cX5_sideOf 1 = .ok (.ifCond .lt 29, 3) := by decide +kernel
theorem dX5_sideOf_4 : decode cX5_sideOf 4 = .ok (.iload_n 1, 1) := by decide +kernel
theorem dX5_sideOf_5 : decode cX5_sideOf 5 = .ok (.aload_n 0, 1) := by decide +kernel
theorem dX5_sideOf_6 : decode cX5_sideOf 6 = .ok (.getfield 31, 3) := by decide +kernel
theorem dX5_sideOf_9 : decode cX5_sideOf 9 = .ok (.if_icmp .ge 21, 3) := by decide +kernel
theorem dX5_sideOf_12 : decode cX5_sideOf 12 = .ok (.iload_n 1, 1) := by decide +kernel
theorem dX5_sideOf_13 : decode cX5_sideOf 13 = .ok (.aload_n 0, 1) := by decide +kernel
theorem dX5_sideOf_14 : decode cX5_sideOf 14 = .ok (.getfield 9, 3) := by decide +kernel
theorem dX5_sideOf_17 : decode cX5_sideOf 17 = .ok (.arraylength, 1) := by decide +kernel
theorem dX5_sideOf_18 : decode cX5_sideOf 18 = .ok (.if_icmp .ge 12, 3) := by decide +kernel
theorem dX5_sideOf_21 : decode cX5_sideOf 21 = .ok (.aload_n 0, 1) := by decide +kernel
theorem dX5_sideOf_22 : decode cX5_sideOf 22 = .ok (.getfield 9, 3) := by decide +kernel
theorem dX5_sideOf_25 : decode cX5_sideOf 25 = .ok (.iload_n 1, 1) := by decide +kernel
theorem dX5_sideOf_26 : decode cX5_sideOf 26 = .ok (.iaload, 1) := by decide +kernel
theorem dX5_sideOf_27 : decode cX5_sideOf 27 = .ok (.goto 5, 3) := by decide +kernel
theorem dX5_sideOf_30 : decode cX5_sideOf 30 = .ok (.bipush (-4), 2) := by decide +kernel
theorem dX5_sideOf_32 : decode cX5_sideOf 32 = .ok (.ireturn, 1) := by decide +kernel
theorem dX5_kindOf_0 : decode cX5_kindOf 0 = .ok (.iload_n 1, 1) := by decide +kernel
theorem dX5_kindOf_1 : decode cX5_kindOf 1 = .ok (.ifCond .lt 29, 3) := by decide +kernel
theorem dX5_kindOf_4 : decode cX5_kindOf 4 = .ok (.iload_n 1, 1) := by decide +kernel
theorem dX5_kindOf_5 : decode cX5_kindOf 5 = .ok (.aload_n 0, 1) := by decide +kernel
theorem dX5_kindOf_6 : decode cX5_kindOf 6 = .ok (.getfield 31, 3) := by decide +kernel
theorem dX5_kindOf_9 : decode cX5_kindOf 9 = .ok (.if_icmp .ge 21, 3) := by decide +kernel
theorem dX5_kindOf_12 : decode cX5_kindOf 12 = .ok (.iload_n 1, 1) := by decide +kernel
theorem dX5_kindOf_13 : decode cX5_kindOf 13 = .ok (.aload_n 0, 1) := by decide +kernel
theorem dX5_kindOf_14 : decode cX5_kindOf 14 = .ok (.getfield 15, 3) := by decide +kernel
theorem dX5_kindOf_17 : decode cX5_kindOf 17 = .ok (.arraylength, 1) := by decide +kernel
theorem dX5_kindOf_18 : decode cX5_kindOf 18 = .ok (.if_icmp .ge 12, 3) := by decide +kernel
theorem dX5_kindOf_21 : decode cX5_kindOf 21 = .ok (.aload_n 0, 1) := by decide +kernel
theorem dX5_kindOf_22 : decode cX5_kindOf 22 = .ok (.getfield 15, 3) := by decide +kernel
theorem dX5_kindOf_25 : decode cX5_kindOf 25 = .ok (.iload_n 1, 1) := by decide +kernel
theorem dX5_kindOf_26 : decode cX5_kindOf 26 = .ok (.iaload, 1) := by decide +kernel
theorem dX5_kindOf_27 : decode cX5_kindOf 27 = .ok (.goto 5, 3) := by decide +kernel
theorem dX5_kindOf_30 : decode cX5_kindOf 30 = .ok (.bipush (-4), 2) := by decide +kernel
theorem dX5_kindOf_32 : decode cX5_kindOf 32 = .ok (.ireturn, 1) := by decide +kernel
theorem dX5_oddsOf_0 : decode cX5_oddsOf 0 = .ok (.iload_n 1, 1) := by decide +kernel
theorem dX5_oddsOf_1 : decode cX5_oddsOf 1 = .ok (.ifCond .lt 21, 3) := by decide +kernel
theorem dX5_oddsOf_4 : decode cX5_oddsOf 4 = .ok (.iload_n 1, 1) := by decide +kernel
theorem dX5_oddsOf_5 : decode cX5_oddsOf 5 = .ok (.aload_n 0, 1) := by decide +kernel
theorem dX5_oddsOf_6 : decode cX5_oddsOf 6 = .ok (.getfield 18, 3) := by decide +kernel
theorem dX5_oddsOf_9 : decode cX5_oddsOf 9 = .ok (.arraylength, 1) := by decide +kernel
theorem dX5_oddsOf_10 : decode cX5_oddsOf 10 = .ok (.if_icmp .ge 12, 3) := by decide +kernel
theorem dX5_oddsOf_13 : decode cX5_oddsOf 13 = .ok (.aload_n 0, 1) := by decide +kernel
theorem dX5_oddsOf_14 : decode cX5_oddsOf 14 = .ok (.getfield 18, 3) := by decide +kernel
theorem dX5_oddsOf_17 : decode cX5_oddsOf 17 = .ok (.iload_n 1, 1) := by decide +kernel
theorem dX5_oddsOf_18 : decode cX5_oddsOf 18 = .ok (.iaload, 1) := by decide +kernel
theorem dX5_oddsOf_19 : decode cX5_oddsOf 19 = .ok (.goto 4, 3) := by decide +kernel
theorem dX5_oddsOf_22 : decode cX5_oddsOf 22 = .ok (.iconst 0, 1) := by decide +kernel
theorem dX5_oddsOf_23 : decode cX5_oddsOf 23 = .ok (.ireturn, 1) := by decide +kernel
theorem dX5_setOdds_0 : decode cX5_setOdds 0 = .ok (.iload_n 1, 1) := by decide +kernel
theorem dX5_setOdds_1 : decode cX5_setOdds 1 = .ok (.ifCond .lt 19, 3) := by decide +kernel
theorem dX5_setOdds_4 : decode cX5_setOdds 4 = .ok (.iload_n 1, 1) := by decide +kernel
theorem dX5_setOdds_5 : decode cX5_setOdds 5 = .ok (.aload_n 0, 1) := by decide +kernel
theorem dX5_setOdds_6 : decode cX5_setOdds 6 = .ok (.getfield 18, 3) := by decide +kernel
theorem dX5_setOdds_9 : decode cX5_setOdds 9 = .ok (.arraylength, 1) := by decide +kernel
theorem dX5_setOdds_10 : decode cX5_setOdds 10 = .ok (.if_icmp .ge 10, 3) := by decide +kernel
theorem dX5_setOdds_13 : decode cX5_setOdds 13 = .ok (.aload_n 0, 1) := by decide +kernel
theorem dX5_setOdds_14 : decode cX5_setOdds 14 = .ok (.getfield 18, 3) := by decide +kernel
theorem dX5_setOdds_17 : decode cX5_setOdds 17 = .ok (.iload_n 1, 1) := by decide +kernel
theorem dX5_setOdds_18 : decode cX5_setOdds 18 = .ok (.iload_n 2, 1) := by decide +kernel
theorem dX5_setOdds_19 : decode cX5_setOdds 19 = .ok (.iastore, 1) := by decide +kernel
theorem dX5_setOdds_20 : decode cX5_setOdds 20 = .ok (.return_, 1) := by decide +kernel
theorem dX5_allOdds_0 : decode cX5_allOdds 0 = .ok (.iconst 0, 1) := by decide +kernel
theorem dX5_allOdds_1 : decode cX5_allOdds 1 = .ok (.istore_n 1, 1) := by decide +kernel
theorem dX5_allOdds_2 : decode cX5_allOdds 2 = .ok (.iconst 0, 1) := by decide +kernel
theorem dX5_allOdds_3 : decode cX5_allOdds 3 = .ok (.istore_n 2, 1) := by decide +kernel
theorem dX5_allOdds_4 : decode cX5_allOdds 4 = .ok (.iload_n 2, 1) := by decide +kernel
theorem dX5_allOdds_5 : decode cX5_allOdds 5 = .ok (.aload_n 0, 1) := by decide +kernel
theorem dX5_allOdds_6 : decode cX5_allOdds 6 = .ok (.getfield 18, 3) := by decide +kernel
theorem dX5_allOdds_9 : decode cX5_allOdds 9 = .ok (.arraylength, 1) := by decide +kernel
theorem dX5_allOdds_10 : decode cX5_allOdds 10 = .ok (.if_icmp .ge 18, 3) := by decide +kernel
theorem dX5_allOdds_13 : decode cX5_allOdds 13 = .ok (.iload_n 1, 1) := by decide +kernel
theorem dX5_allOdds_14 : decode cX5_allOdds 14 = .ok (.aload_n 0, 1) := by decide +kernel
theorem dX5_allOdds_15 : decode cX5_allOdds 15 = .ok (.getfield 18, 3) := by decide +kernel
theorem dX5_allOdds_18 : decode cX5_allOdds 18 = .ok (.iload_n 2, 1) := by decide +kernel
theorem dX5_allOdds_19 : decode cX5_allOdds 19 = .ok (.iaload, 1) := by decide +kernel
theorem dX5_allOdds_20 : decode cX5_allOdds 20 = .ok (.iadd, 1) := by decide +kernel
theorem dX5_allOdds_21 : decode cX5_allOdds 21 = .ok (.istore_n 1, 1) := by decide +kernel
theorem dX5_allOdds_22 : decode cX5_allOdds 22 = .ok (.iinc 2 1, 3) := by decide +kernel
theorem dX5_allOdds_25 : decode cX5_allOdds 25 = .ok (.goto (-21), 3) := by decide +kernel
theorem dX5_allOdds_28 : decode cX5_allOdds 28 = .ok (.iload_n 1, 1) := by decide +kernel
theorem dX5_allOdds_29 : decode cX5_allOdds 29 = .ok (.ireturn, 1) := by decide +kernel
theorem dX5_windBy_0 : decode cX5_windBy 0 = .ok (.aload_n 0, 1) := by decide +kernel
theorem dX5_windBy_1 : decode cX5_windBy 1 = .ok (.invokevirtual 40, 3) := by decide +kernel
theorem dX5_windBy_4 : decode cX5_windBy 4 = .ok (.istore_n 2, 1) := by decide +kernel
theorem dX5_windBy_5 : decode cX5_windBy 5 = .ok (.iload_n 2, 1) := by decide +kernel
theorem dX5_windBy_6 : decode cX5_windBy 6 = .ok (.ifCond .le 9, 3) := by decide +kernel
theorem dX5_windBy_9 : decode cX5_windBy 9 = .ok (.iload_n 1, 1) := by decide +kernel
theorem dX5_windBy_10 : decode cX5_windBy 10 = .ok (.iload_n 2, 1) := by decide +kernel
theorem dX5_windBy_11 : decode cX5_windBy 11 = .ok (.irem, 1) := by decide +kernel
theorem dX5_windBy_12 : decode cX5_windBy 12 = .ok (.goto 4, 3) := by decide +kernel
theorem dX5_windBy_15 : decode cX5_windBy 15 = .ok (.iconst 0, 1) := by decide +kernel
theorem dX5_windBy_16 : decode cX5_windBy 16 = .ok (.istore_n 3, 1) := by decide +kernel
theorem dX5_windBy_17 : decode cX5_windBy 17 = .ok (.iconst 0, 1) := by decide +kernel
theorem dX5_windBy_18 : decode cX5_windBy 18 = .ok (.istore 4, 2) := by decide +kernel
theorem dX5_windBy_20 : decode cX5_windBy 20 = .ok (.iload 4, 2) := by decide +kernel
theorem dX5_windBy_22 : decode cX5_windBy 22 = .ok (.aload_n 0, 1) := by decide +kernel
theorem dX5_windBy_23 : decode cX5_windBy 23 = .ok (.getfield 18, 3) := by decide +kernel
theorem dX5_windBy_26 : decode cX5_windBy 26 = .ok (.arraylength, 1) := by decide +kernel
theorem dX5_windBy_27 : decode cX5_windBy 27 = .ok (.if_icmp .ge 33, 3) := by decide +kernel
theorem dX5_windBy_30 : decode cX5_windBy 30 = .ok (.iload_n 3, 1) := by decide +kernel
theorem dX5_windBy_31 : decode cX5_windBy 31 = .ok (.aload_n 0, 1) := by decide +kernel
theorem dX5_windBy_32 : decode cX5_windBy 32 = .ok (.getfield 18, 3) := by decide +kernel
theorem dX5_windBy_35 : decode cX5_windBy 35 = .ok (.iload 4, 2) := by decide +kernel
theorem dX5_windBy_37 : decode cX5_windBy 37 = .ok (.iaload, 1) := by decide +kernel
theorem dX5_windBy_38 : decode cX5_windBy 38 = .ok (.if_icmp .ge 6, 3) := by decide +kernel
theorem dX5_windBy_41 : decode cX5_windBy 41 = .ok (.iload 4, 2) := by decide +kernel
theorem dX5_windBy_43 : decode cX5_windBy 43 = .ok (.ireturn, 1) := by decide +kernel
theorem dX5_windBy_44 : decode cX5_windBy 44 = .ok (.iload_n 3, 1) := by decide +kernel
theorem dX5_windBy_45 : decode cX5_windBy 45 = .ok (.aload_n 0, 1) := by decide +kernel
theorem dX5_windBy_46 : decode cX5_windBy 46 = .ok (.getfield 18, 3) := by decide +kernel
theorem dX5_windBy_49 : decode cX5_windBy 49 = .ok (.iload 4, 2) := by decide +kernel
theorem dX5_windBy_51 : decode cX5_windBy 51 = .ok (.iaload, 1) := by decide +kernel
theorem dX5_windBy_52 : decode cX5_windBy 52 = .ok (.isub, 1) := by decide +kernel
theorem dX5_windBy_53 : decode cX5_windBy 53 = .ok (.istore_n 3, 1) := by decide +kernel
theorem dX5_windBy_54 : decode cX5_windBy 54 = .ok (.iinc 4 1, 3) := by decide +kernel
theorem dX5_windBy_57 : decode cX5_windBy 57 = .ok (.goto (-37), 3) := by decide +kernel
theorem dX5_windBy_60 : decode cX5_windBy 60 = .ok (.iconst 4, 1) := by decide +kernel
theorem dX5_windBy_61 : decode cX5_windBy 61 = .ok (.ireturn, 1) := by decide +kernel
theorem dX5_isClosed_0 : decode cX5_isClosed 0 = .ok (.aload_n 0, 1) := by decide +kernel
theorem dX5_isClosed_1 : decode cX5_isClosed 1 = .ok (.getfield 28, 3) := by decide +kernel
theorem dX5_isClosed_4 : decode cX5_isClosed 4 = .ok (.iload_n 1, 1) := by decide +kernel
theorem dX5_isClosed_5 : decode cX5_isClosed 5 = .ok (.invokestatic 44, 3) := by decide +kernel
theorem dX5_isClosed_8 : decode cX5_isClosed 8 = .ok (.iand, 1) := by decide +kernel
theorem dX5_isClosed_9 : decode cX5_isClosed 9 = .ok (.ifCond .eq 7, 3) := by decide +kernel
theorem dX5_isClosed_12 : decode cX5_isClosed 12 = .ok (.iconst 1, 1) := by decide +kernel
theorem dX5_isClosed_13 : decode cX5_isClosed 13 = .ok (.goto 4, 3) := by decide +kernel
theorem dX5_isClosed_16 : decode cX5_isClosed 16 = .ok (.iconst 0, 1) := by decide +kernel
theorem dX5_isClosed_17 : decode cX5_isClosed 17 = .ok (.ireturn, 1) := by decide +kernel
theorem dX5_close_0 : decode cX5_close 0 = .ok (.iload_n 2, 1) := by decide +kernel
theorem dX5_close_1 : decode cX5_close 1 = .ok (.ifCond .eq 19, 3) := by decide +kernel
theorem dX5_close_4 : decode cX5_close 4 = .ok (.aload_n 0, 1) := by decide +kernel
theorem dX5_close_5 : decode cX5_close 5 = .ok (.dup, 1) := by decide +kernel
theorem dX5_close_6 : decode cX5_close 6 = .ok (.getfield 28, 3) := by decide +kernel
theorem dX5_close_9 : decode cX5_close 9 = .ok (.iload_n 1, 1) := by decide +kernel
theorem dX5_close_10 : decode cX5_close 10 = .ok (.invokestatic 44, 3) := by decide +kernel
theorem dX5_close_13 : decode cX5_close 13 = .ok (.ior, 1) := by decide +kernel
theorem dX5_close_14 : decode cX5_close 14 = .ok (.putfield 28, 3) := by decide +kernel
theorem dX5_close_17 : decode cX5_close 17 = .ok (.goto 18, 3) := by decide +kernel
theorem dX5_close_20 : decode cX5_close 20 = .ok (.aload_n 0, 1) := by decide +kernel
theorem dX5_close_21 : decode cX5_close 21 = .ok (.dup, 1) := by decide +kernel
theorem dX5_close_22 : decode cX5_close 22 = .ok (.getfield 28, 3) := by decide +kernel
theorem dX5_close_25 : decode cX5_close 25 = .ok (.iload_n 1, 1) := by decide +kernel
theorem dX5_close_26 : decode cX5_close 26 = .ok (.invokestatic 44, 3) := by decide +kernel
theorem dX5_close_29 : decode cX5_close 29 = .ok (.iconst (-1), 1) := by decide +kernel
theorem dX5_close_30 : decode cX5_close 30 = .ok (.ixor, 1) := by decide +kernel
theorem dX5_close_31 : decode cX5_close 31 = .ok (.iand, 1) := by decide +kernel
theorem dX5_close_32 : decode cX5_close 32 = .ok (.putfield 28, 3) := by decide +kernel
theorem dX5_close_35 : decode cX5_close 35 = .ok (.return_, 1) := by decide +kernel
theorem dX5_nextSquare_0 : decode cX5_nextSquare 0 = .ok (.aload_n 0, 1) := by decide +kernel
theorem dX5_nextSquare_1 : decode cX5_nextSquare 1 = .ok (.getfield 21, 3) := by decide +kernel
theorem dX5_nextSquare_4 : decode cX5_nextSquare 4 = .ok (.aload_n 0, 1) := by decide +kernel
theorem dX5_nextSquare_5 : decode cX5_nextSquare 5 = .ok (.getfield 25, 3) := by decide +kernel
theorem dX5_nextSquare_8 : decode cX5_nextSquare 8 = .ok (.imul, 1) := by decide +kernel
theorem dX5_nextSquare_9 : decode cX5_nextSquare 9 = .ok (.istore_n 3, 1) := by decide +kernel
theorem dX5_nextSquare_10 : decode cX5_nextSquare 10 = .ok (.iload_n 1, 1) := by decide +kernel
theorem dX5_nextSquare_11 : decode cX5_nextSquare 11 = .ok (.ifCond .lt 16, 3) := by decide +kernel
theorem dX5_nextSquare_14 : decode cX5_nextSquare 14 = .ok (.iload_n 1, 1) := by decide +kernel
theorem dX5_nextSquare_15 : decode cX5_nextSquare 15 = .ok (.iload_n 3, 1) := by decide +kernel
theorem dX5_nextSquare_16 : decode cX5_nextSquare 16 = .ok (.if_icmp .ge 11, 3) := by decide +kernel
theorem dX5_nextSquare_19 : decode cX5_nextSquare 19 = .ok (.aload_n 0, 1) := by decide +kernel
theorem dX5_nextSquare_20 : decode cX5_nextSquare 20 = .ok (.getfield 21, 3) := by decide +kernel
theorem dX5_nextSquare_23 : decode cX5_nextSquare 23 = .ok (.iconst 1, 1) := by decide +kernel
theorem dX5_nextSquare_24 : decode cX5_nextSquare 24 = .ok (.if_icmp .ge 6, 3) := by decide +kernel
theorem dX5_nextSquare_27 : decode cX5_nextSquare 27 = .ok (.bipush (-4), 2) := by decide +kernel
theorem dX5_nextSquare_29 : decode cX5_nextSquare 29 = .ok (.ireturn, 1) := by decide +kernel
theorem dX5_nextSquare_30 : decode cX5_nextSquare 30 = .ok (.iload_n 2, 1) := by decide +kernel
theorem dX5_nextSquare_31 : decode cX5_nextSquare 31 = .ok (.tableswitch 113 0 3 #[29, 49, 73, 95], 29) := by decide +kernel
theorem dX5_nextSquare_60 : decode cX5_nextSquare 60 = .ok (.iload_n 1, 1) := by decide +kernel
theorem dX5_nextSquare_61 : decode cX5_nextSquare 61 = .ok (.aload_n 0, 1) := by decide +kernel
theorem dX5_nextSquare_62 : decode cX5_nextSquare 62 = .ok (.getfield 21, 3) := by decide +kernel
theorem dX5_nextSquare_65 : decode cX5_nextSquare 65 = .ok (.if_icmp .lt 12, 3) := by decide +kernel
theorem dX5_nextSquare_68 : decode cX5_nextSquare 68 = .ok (.iload_n 1, 1) := by decide +kernel
theorem dX5_nextSquare_69 : decode cX5_nextSquare 69 = .ok (.aload_n 0, 1) := by decide +kernel
theorem dX5_nextSquare_70 : decode cX5_nextSquare 70 = .ok (.getfield 21, 3) := by decide +kernel
theorem dX5_nextSquare_73 : decode cX5_nextSquare 73 = .ok (.isub, 1) := by decide +kernel
theorem dX5_nextSquare_74 : decode cX5_nextSquare 74 = .ok (.goto 5, 3) := by decide +kernel
theorem dX5_nextSquare_77 : decode cX5_nextSquare 77 = .ok (.bipush (-4), 2) := by decide +kernel
theorem dX5_nextSquare_79 : decode cX5_nextSquare 79 = .ok (.ireturn, 1) := by decide +kernel
theorem dX5_nextSquare_80 : decode cX5_nextSquare 80 = .ok (.iload_n 1, 1) := by decide +kernel
theorem dX5_nextSquare_81 : decode cX5_nextSquare 81 = .ok (.aload_n 0, 1) := by decide +kernel
theorem dX5_nextSquare_82 : decode cX5_nextSquare 82 = .ok (.getfield 21, 3) := by decide +kernel
theorem dX5_nextSquare_85 : decode cX5_nextSquare 85 = .ok (.irem, 1) := by decide +kernel
theorem dX5_nextSquare_86 : decode cX5_nextSquare 86 = .ok (.aload_n 0, 1) := by decide +kernel
theorem dX5_nextSquare_87 : decode cX5_nextSquare 87 = .ok (.getfield 21, 3) := by decide +kernel
theorem dX5_nextSquare_90 : decode cX5_nextSquare 90 = .ok (.iconst 1, 1) := by decide +kernel
theorem dX5_nextSquare_91 : decode cX5_nextSquare 91 = .ok (.isub, 1) := by decide +kernel
theorem dX5_nextSquare_92 : decode cX5_nextSquare 92 = .ok (.if_icmp .ge 9, 3) := by decide +kernel
theorem dX5_nextSquare_95 : decode cX5_nextSquare 95 = .ok (.iload_n 1, 1) := by decide +kernel
theorem dX5_nextSquare_96 : decode cX5_nextSquare 96 = .ok (.iconst 1, 1) := by decide +kernel
theorem dX5_nextSquare_97 : decode cX5_nextSquare 97 = .ok (.iadd, 1) := by decide +kernel
theorem dX5_nextSquare_98 : decode cX5_nextSquare 98 = .ok (.goto 5, 3) := by decide +kernel
theorem dX5_nextSquare_101 : decode cX5_nextSquare 101 = .ok (.bipush (-4), 2) := by decide +kernel
theorem dX5_nextSquare_103 : decode cX5_nextSquare 103 = .ok (.ireturn, 1) := by decide +kernel
theorem dX5_nextSquare_104 : decode cX5_nextSquare 104 = .ok (.iload_n 1, 1) := by decide +kernel
theorem dX5_nextSquare_105 : decode cX5_nextSquare 105 = .ok (.aload_n 0, 1) := by decide +kernel
theorem dX5_nextSquare_106 : decode cX5_nextSquare 106 = .ok (.getfield 21, 3) := by decide +kernel
theorem dX5_nextSquare_109 : decode cX5_nextSquare 109 = .ok (.iadd, 1) := by decide +kernel
theorem dX5_nextSquare_110 : decode cX5_nextSquare 110 = .ok (.iload_n 3, 1) := by decide +kernel
theorem dX5_nextSquare_111 : decode cX5_nextSquare 111 = .ok (.if_icmp .ge 12, 3) := by decide +kernel
theorem dX5_nextSquare_114 : decode cX5_nextSquare 114 = .ok (.iload_n 1, 1) := by decide +kernel
theorem dX5_nextSquare_115 : decode cX5_nextSquare 115 = .ok (.aload_n 0, 1) := by decide +kernel
theorem dX5_nextSquare_116 : decode cX5_nextSquare 116 = .ok (.getfield 21, 3) := by decide +kernel
theorem dX5_nextSquare_119 : decode cX5_nextSquare 119 = .ok (.iadd, 1) := by decide +kernel
theorem dX5_nextSquare_120 : decode cX5_nextSquare 120 = .ok (.goto 5, 3) := by decide +kernel
theorem dX5_nextSquare_123 : decode cX5_nextSquare 123 = .ok (.bipush (-4), 2) := by decide +kernel
theorem dX5_nextSquare_125 : decode cX5_nextSquare 125 = .ok (.ireturn, 1) := by decide +kernel
theorem dX5_nextSquare_126 : decode cX5_nextSquare 126 = .ok (.iload_n 1, 1) := by decide +kernel
theorem dX5_nextSquare_127 : decode cX5_nextSquare 127 = .ok (.aload_n 0, 1) := by decide +kernel
theorem dX5_nextSquare_128 : decode cX5_nextSquare 128 = .ok (.getfield 21, 3) := by decide +kernel
theorem dX5_nextSquare_131 : decode cX5_nextSquare 131 = .ok (.irem, 1) := by decide +kernel
theorem dX5_nextSquare_132 : decode cX5_nextSquare 132 = .ok (.ifCond .le 9, 3) := by decide +kernel
theorem dX5_nextSquare_135 : decode cX5_nextSquare 135 = .ok (.iload_n 1, 1) := by decide +kernel
theorem dX5_nextSquare_136 : decode cX5_nextSquare 136 = .ok (.iconst 1, 1) := by decide +kernel
theorem dX5_nextSquare_137 : decode cX5_nextSquare 137 = .ok (.isub, 1) := by decide +kernel
theorem dX5_nextSquare_138 : decode cX5_nextSquare 138 = .ok (.goto 5, 3) := by decide +kernel
theorem dX5_nextSquare_141 : decode cX5_nextSquare 141 = .ok (.bipush (-4), 2) := by decide +kernel
theorem dX5_nextSquare_143 : decode cX5_nextSquare 143 = .ok (.ireturn, 1) := by decide +kernel
theorem dX5_nextSquare_144 : decode cX5_nextSquare 144 = .ok (.bipush (-4), 2) := by decide +kernel
theorem dX5_nextSquare_146 : decode cX5_nextSquare 146 = .ok (.ireturn, 1) := by decide +kernel
theorem dX5_bitOf_0 : decode cX5_bitOf 0 = .ok (.iload_n 0, 1) := by decide +kernel
theorem dX5_bitOf_1 : decode cX5_bitOf 1 = .ok (.ifCond .lt 15, 3) := by decide +kernel
theorem dX5_bitOf_4 : decode cX5_bitOf 4 = .ok (.iload_n 0, 1) := by decide +kernel
theorem dX5_bitOf_5 : decode cX5_bitOf 5 = .ok (.bipush 25, 2) := by decide +kernel
theorem dX5_bitOf_7 : decode cX5_bitOf 7 = .ok (.if_icmp .ge 9, 3) := by decide +kernel
theorem dX5_bitOf_10 : decode cX5_bitOf 10 = .ok (.iconst 1, 1) := by decide +kernel
theorem dX5_bitOf_11 : decode cX5_bitOf 11 = .ok (.iload_n 0, 1) := by decide +kernel
theorem dX5_bitOf_12 : decode cX5_bitOf 12 = .ok (.ishl, 1) := by decide +kernel
theorem dX5_bitOf_13 : decode cX5_bitOf 13 = .ok (.goto 4, 3) := by decide +kernel
theorem dX5_bitOf_16 : decode cX5_bitOf 16 = .ok (.iconst 0, 1) := by decide +kernel
theorem dX5_bitOf_17 : decode cX5_bitOf 17 = .ok (.ireturn, 1) := by decide +kernel
theorem dX6_init_0 : decode cX6_init 0 = .ok (.aload_n 0, 1) := by decide +kernel
theorem dX6_init_1 : decode cX6_init 1 = .ok (.invokespecial 3, 3) := by decide +kernel
theorem dX6_init_4 : decode cX6_init 4 = .ok (.aload_n 0, 1) := by decide +kernel
theorem dX6_init_5 : decode cX6_init 5 = .ok (.new 9, 3) := by decide +kernel
theorem dX6_init_8 : decode cX6_init 8 = .ok (.dup, 1) := by decide +kernel
theorem dX6_init_9 : decode cX6_init 9 = .ok (.invokespecial 11, 3) := by decide +kernel
theorem dX6_init_12 : decode cX6_init 12 = .ok (.putfield 12, 3) := by decide +kernel
theorem dX6_init_15 : decode cX6_init 15 = .ok (.aload_n 0, 1) := by decide +kernel
theorem dX6_init_16 : decode cX6_init 16 = .ok (.new 18, 3) := by decide +kernel
theorem dX6_init_19 : decode cX6_init 19 = .ok (.dup, 1) := by decide +kernel
theorem dX6_init_20 : decode cX6_init 20 = .ok (.invokespecial 20, 3) := by decide +kernel
theorem dX6_init_23 : decode cX6_init 23 = .ok (.putfield 21, 3) := by decide +kernel
theorem dX6_init_26 : decode cX6_init 26 = .ok (.aload_n 0, 1) := by decide +kernel
theorem dX6_init_27 : decode cX6_init 27 = .ok (.iconst 3, 1) := by decide +kernel
theorem dX6_init_28 : decode cX6_init 28 = .ok (.newarray .int, 2) := by decide +kernel
theorem dX6_init_30 : decode cX6_init 30 = .ok (.putfield 25, 3) := by decide +kernel
theorem dX6_init_33 : decode cX6_init 33 = .ok (.return_, 1) := by decide +kernel
theorem dX6_find_0 : decode cX6_find 0 = .ok (.aload_n 0, 1) := by decide +kernel
theorem dX6_find_1 : decode cX6_find 1 = .ok (.aload 4, 2) := by decide +kernel
theorem dX6_find_3 : decode cX6_find 3 = .ok (.putfield 29, 3) := by decide +kernel
theorem dX6_find_6 : decode cX6_find 6 = .ok (.aload_n 0, 1) := by decide +kernel
theorem dX6_find_7 : decode cX6_find 7 = .ok (.iconst 0, 1) := by decide +kernel
theorem dX6_find_8 : decode cX6_find 8 = .ok (.putfield 33, 3) := by decide +kernel
theorem dX6_find_11 : decode cX6_find 11 = .ok (.aload_n 0, 1) := by decide +kernel
theorem dX6_find_12 : decode cX6_find 12 = .ok (.iconst 0, 1) := by decide +kernel
theorem dX6_find_13 : decode cX6_find 13 = .ok (.putfield 37, 3) := by decide +kernel
theorem dX6_find_16 : decode cX6_find 16 = .ok (.aload 4, 2) := by decide +kernel
theorem dX6_find_18 : decode cX6_find 18 = .ok (.getfield 41, 3) := by decide +kernel
theorem dX6_find_21 : decode cX6_find 21 = .ok (.aload_n 2, 1) := by decide +kernel
theorem dX6_find_22 : decode cX6_find 22 = .ok (.invokevirtual 47, 3) := by decide +kernel
theorem dX6_find_25 : decode cX6_find 25 = .ok (.aload_n 0, 1) := by decide +kernel
theorem dX6_find_26 : decode cX6_find 26 = .ok (.aload_n 3, 1) := by decide +kernel
theorem dX6_find_27 : decode cX6_find 27 = .ok (.aload_n 1, 1) := by decide +kernel
theorem dX6_find_28 : decode cX6_find 28 = .ok (.aload 4, 2) := by decide +kernel
theorem dX6_find_30 : decode cX6_find 30 = .ok (.iload 5, 2) := by decide +kernel
theorem dX6_find_32 : decode cX6_find 32 = .ok (.invokestatic 53, 3) := by decide +kernel
theorem dX6_find_35 : decode cX6_find 35 = .ok (.ireturn, 1) := by decide +kernel
theorem dX6_note_0 : decode cX6_note 0 = .ok (.aload_n 1, 1) := by decide +kernel
theorem dX6_note_1 : decode cX6_note 1 = .ok (.aload_n 0, 1) := by decide +kernel
theorem dX6_note_2 : decode cX6_note 2 = .ok (.getfield 57, 3) := by decide +kernel
theorem dX6_note_5 : decode cX6_note 5 = .ok (.invokevirtual 60, 3) := by decide +kernel
theorem dX6_note_8 : decode cX6_note 8 = .ok (.istore_n 2, 1) := by decide +kernel
theorem dX6_note_9 : decode cX6_note 9 = .ok (.aload_n 0, 1) := by decide +kernel
theorem dX6_note_10 : decode cX6_note 10 = .ok (.dup, 1) := by decide +kernel
theorem dX6_note_11 : decode cX6_note 11 = .ok (.getfield 37, 3) := by decide +kernel
theorem dX6_note_14 : decode cX6_note 14 = .ok (.iload_n 2, 1) := by decide +kernel
theorem dX6_note_15 : decode cX6_note 15 = .ok (.bipush (-4), 2) := by decide +kernel
theorem dX6_note_17 : decode cX6_note 17 = .ok (.if_icmp .ne 8, 3) := by decide +kernel
theorem dX6_note_20 : decode cX6_note 20 = .ok (.ldc 64, 2) := by decide +kernel
theorem dX6_note_22 : decode cX6_note 22 = .ok (.goto 7, 3) := by decide +kernel
theorem dX6_note_25 : decode cX6_note 25 = .ok (.iload_n 2, 1) := by decide +kernel
theorem dX6_note_26 : decode cX6_note 26 = .ok (.invokestatic 65, 3) := by decide +kernel
theorem dX6_note_29 : decode cX6_note 29 = .ok (.ior, 1) := by decide +kernel
theorem dX6_note_30 : decode cX6_note 30 = .ok (.putfield 37, 3) := by decide +kernel
theorem dX6_note_33 : decode cX6_note 33 = .ok (.aload_n 0, 1) := by decide +kernel
theorem dX6_note_34 : decode cX6_note 34 = .ok (.getfield 33, 3) := by decide +kernel
theorem dX6_note_37 : decode cX6_note 37 = .ok (.ifCond .eq 4, 3) := by decide +kernel
theorem dX6_note_40 : decode cX6_note 40 = .ok (.return_, 1) := by decide +kernel
theorem dX6_note_41 : decode cX6_note 41 = .ok (.aload_n 0, 1) := by decide +kernel
theorem dX6_note_42 : decode cX6_note 42 = .ok (.iconst 1, 1) := by decide +kernel
theorem dX6_note_43 : decode cX6_note 43 = .ok (.putfield 33, 3) := by decide +kernel
theorem dX6_note_46 : decode cX6_note 46 = .ok (.aload_n 0, 1) := by decide +kernel
theorem dX6_note_47 : decode cX6_note 47 = .ok (.getfield 29, 3) := by decide +kernel
theorem dX6_note_50 : decode cX6_note 50 = .ok (.astore_n 3, 1) := by decide +kernel
theorem dX6_note_51 : decode cX6_note 51 = .ok (.iconst 0, 1) := by decide +kernel
theorem dX6_note_52 : decode cX6_note 52 = .ok (.istore 4, 2) := by decide +kernel
theorem dX6_note_54 : decode cX6_note 54 = .ok (.iload 4, 2) := by decide +kernel
theorem dX6_note_56 : decode cX6_note 56 = .ok (.aload_n 0, 1) := by decide +kernel
theorem dX6_note_57 : decode cX6_note 57 = .ok (.getfield 25, 3) := by decide +kernel
theorem dX6_note_60 : decode cX6_note 60 = .ok (.arraylength, 1) := by decide +kernel
theorem dX6_note_61 : decode cX6_note 61 = .ok (.if_icmp .ge 29, 3) := by decide +kernel
theorem dX6_note_64 : decode cX6_note 64 = .ok (.aload_n 3, 1) := by decide +kernel
theorem dX6_note_65 : decode cX6_note 65 = .ok (.ifnull 25, 3) := by decide +kernel
theorem dX6_note_68 : decode cX6_note 68 = .ok (.aload_n 0, 1) := by decide +kernel
theorem dX6_note_69 : decode cX6_note 69 = .ok (.getfield 25, 3) := by decide +kernel
theorem dX6_note_72 : decode cX6_note 72 = .ok (.iload 4, 2) := by decide +kernel
theorem dX6_note_74 : decode cX6_note 74 = .ok (.aload_n 3, 1) := by decide +kernel
theorem dX6_note_75 : decode cX6_note 75 = .ok (.getfield 70, 3) := by decide +kernel
theorem dX6_note_78 : decode cX6_note 78 = .ok (.iastore, 1) := by decide +kernel
theorem dX6_note_79 : decode cX6_note 79 = .ok (.aload_n 3, 1) := by decide +kernel
theorem dX6_note_80 : decode cX6_note 80 = .ok (.getfield 73, 3) := by decide +kernel
theorem dX6_note_83 : decode cX6_note 83 = .ok (.astore_n 3, 1) := by decide +kernel
theorem dX6_note_84 : decode cX6_note 84 = .ok (.iinc 4 1, 3) := by decide +kernel
theorem dX6_note_87 : decode cX6_note 87 = .ok (.goto (-33), 3) := by decide +kernel
theorem dX6_note_90 : decode cX6_note 90 = .ok (.return_, 1) := by decide +kernel
theorem dX6_firstTurn_0 : decode cX6_firstTurn 0 = .ok (.iload_n 1, 1) := by decide +kernel
theorem dX6_firstTurn_1 : decode cX6_firstTurn 1 = .ok (.ifCond .lt 21, 3) := by decide +kernel
theorem dX6_firstTurn_4 : decode cX6_firstTurn 4 = .ok (.iload_n 1, 1) := by decide +kernel
theorem dX6_firstTurn_5 : decode cX6_firstTurn 5 = .ok (.aload_n 0, 1) := by decide +kernel
theorem dX6_firstTurn_6 : decode cX6_firstTurn 6 = .ok (.getfield 25, 3) := by decide +kernel
theorem dX6_firstTurn_9 : decode cX6_firstTurn 9 = .ok (.arraylength, 1) := by decide +kernel
theorem dX6_firstTurn_10 : decode cX6_firstTurn 10 = .ok (.if_icmp .ge 12, 3) := by decide +kernel
theorem dX6_firstTurn_13 : decode cX6_firstTurn 13 = .ok (.aload_n 0, 1) := by decide +kernel
theorem dX6_firstTurn_14 : decode cX6_firstTurn 14 = .ok (.getfield 25, 3) := by decide +kernel
theorem dX6_firstTurn_17 : decode cX6_firstTurn 17 = .ok (.iload_n 1, 1) := by decide +kernel
theorem dX6_firstTurn_18 : decode cX6_firstTurn 18 = .ok (.iaload, 1) := by decide +kernel
theorem dX6_firstTurn_19 : decode cX6_firstTurn 19 = .ok (.goto 5, 3) := by decide +kernel
theorem dX6_firstTurn_22 : decode cX6_firstTurn 22 = .ok (.bipush (-4), 2) := by decide +kernel
theorem dX6_firstTurn_24 : decode cX6_firstTurn 24 = .ok (.ireturn, 1) := by decide +kernel
theorem dX7_init_0 : decode cX7_init 0 = .ok (.aload_n 0, 1) := by decide +kernel
theorem dX7_init_1 : decode cX7_init 1 = .ok (.invokespecial 3, 3) := by decide +kernel
theorem dX7_init_4 : decode cX7_init 4 = .ok (.aload_n 0, 1) := by decide +kernel
theorem dX7_init_5 : decode cX7_init 5 = .ok (.iconst 4, 1) := by decide +kernel
theorem dX7_init_6 : decode cX7_init 6 = .ok (.newarray .int, 2) := by decide +kernel
theorem dX7_init_8 : decode cX7_init 8 = .ok (.putfield 9, 3) := by decide +kernel
theorem dX7_init_11 : decode cX7_init 11 = .ok (.aload_n 0, 1) := by decide +kernel
theorem dX7_init_12 : decode cX7_init 12 = .ok (.iconst 4, 1) := by decide +kernel
theorem dX7_init_13 : decode cX7_init 13 = .ok (.newarray .int, 2) := by decide +kernel
theorem dX7_init_15 : decode cX7_init 15 = .ok (.putfield 15, 3) := by decide +kernel
theorem dX7_init_18 : decode cX7_init 18 = .ok (.aload_n 0, 1) := by decide +kernel
theorem dX7_init_19 : decode cX7_init 19 = .ok (.iconst 4, 1) := by decide +kernel
theorem dX7_init_20 : decode cX7_init 20 = .ok (.bipush 40, 2) := by decide +kernel
theorem dX7_init_22 : decode cX7_init 22 = .ok (.multianewarray 18 2, 4) := by decide +kernel
theorem dX7_init_26 : decode cX7_init 26 = .ok (.putfield 20, 3) := by decide +kernel
theorem dX7_init_29 : decode cX7_init 29 = .ok (.iconst 0, 1) := by decide +kernel
theorem dX7_init_30 : decode cX7_init 30 = .ok (.istore_n 1, 1) := by decide +kernel
theorem dX7_init_31 : decode cX7_init 31 = .ok (.iload_n 1, 1) := by decide +kernel
theorem dX7_init_32 : decode cX7_init 32 = .ok (.iconst 4, 1) := by decide +kernel
theorem dX7_init_33 : decode cX7_init 33 = .ok (.if_icmp .ge 17, 3) := by decide +kernel
theorem dX7_init_36 : decode cX7_init 36 = .ok (.aload_n 0, 1) := by decide +kernel
theorem dX7_init_37 : decode cX7_init 37 = .ok (.getfield 9, 3) := by decide +kernel
theorem dX7_init_40 : decode cX7_init 40 = .ok (.iload_n 1, 1) := by decide +kernel
theorem dX7_init_41 : decode cX7_init 41 = .ok (.bipush (-4), 2) := by decide +kernel
theorem dX7_init_43 : decode cX7_init 43 = .ok (.iastore, 1) := by decide +kernel
theorem dX7_init_44 : decode cX7_init 44 = .ok (.iinc 1 1, 3) := by decide +kernel
theorem dX7_init_47 : decode cX7_init 47 = .ok (.goto (-16), 3) := by decide +kernel
theorem dX7_init_50 : decode cX7_init 50 = .ok (.return_, 1) := by decide +kernel
theorem dX7_renew_0 : decode cX7_renew 0 = .ok (.iload_n 1, 1) := by decide +kernel
theorem dX7_renew_1 : decode cX7_renew 1 = .ok (.invokestatic 23, 3) := by decide +kernel
theorem dX7_renew_4 : decode cX7_renew 4 = .ok (.ifCond .ne 4, 3) := by decide +kernel
theorem dX7_renew_7 : decode cX7_renew 7 = .ok (.return_, 1) := by decide +kernel
theorem dX7_renew_8 : decode cX7_renew 8 = .ok (.aload_n 0, 1) := by decide +kernel
theorem dX7_renew_9 : decode cX7_renew 9 = .ok (.getfield 9, 3) := by decide +kernel
theorem dX7_renew_12 : decode cX7_renew 12 = .ok (.iload_n 1, 1) := by decide +kernel
theorem dX7_renew_13 : decode cX7_renew 13 = .ok (.iload_n 2, 1) := by decide +kernel
theorem dX7_renew_14 : decode cX7_renew 14 = .ok (.iastore, 1) := by decide +kernel
theorem dX7_renew_15 : decode cX7_renew 15 = .ok (.aload_n 0, 1) := by decide +kernel
theorem dX7_renew_16 : decode cX7_renew 16 = .ok (.getfield 15, 3) := by decide +kernel
theorem dX7_renew_19 : decode cX7_renew 19 = .ok (.iload_n 1, 1) := by decide +kernel
theorem dX7_renew_20 : decode cX7_renew 20 = .ok (.iload_n 3, 1) := by decide +kernel
theorem dX7_renew_21 : decode cX7_renew 21 = .ok (.iastore, 1) := by decide +kernel
theorem dX7_renew_22 : decode cX7_renew 22 = .ok (.iconst 0, 1) := by decide +kernel
theorem dX7_renew_23 : decode cX7_renew 23 = .ok (.istore 4, 2) := by decide +kernel
theorem dX7_renew_25 : decode cX7_renew 25 = .ok (.iload 4, 2) := by decide +kernel
theorem dX7_renew_27 : decode cX7_renew 27 = .ok (.bipush 40, 2) := by decide +kernel
theorem dX7_renew_29 : decode cX7_renew 29 = .ok (.if_icmp .ge 19, 3) := by decide +kernel
theorem dX7_renew_32 : decode cX7_renew 32 = .ok (.aload_n 0, 1) := by decide +kernel
theorem dX7_renew_33 : decode cX7_renew 33 = .ok (.getfield 20, 3) := by decide +kernel
theorem dX7_renew_36 : decode cX7_renew 36 = .ok (.iload_n 1, 1) := by decide +kernel
theorem dX7_renew_37 : decode cX7_renew 37 = .ok (.aaload, 1) := by decide +kernel
theorem dX7_renew_38 : decode cX7_renew 38 = .ok (.iload 4, 2) := by decide +kernel
theorem dX7_renew_40 : decode cX7_renew 40 = .ok (.iconst 0, 1) := by decide +kernel
theorem dX7_renew_41 : decode cX7_renew 41 = .ok (.iastore, 1) := by decide +kernel
theorem dX7_renew_42 : decode cX7_renew 42 = .ok (.iinc 4 1, 3) := by decide +kernel
theorem dX7_renew_45 : decode cX7_renew 45 = .ok (.goto (-20), 3) := by decide +kernel
theorem dX7_renew_48 : decode cX7_renew 48 = .ok (.return_, 1) := by decide +kernel
theorem dX7_sizeOf_0 : decode cX7_sizeOf 0 = .ok (.iload_n 1, 1) := by decide +kernel
theorem dX7_sizeOf_1 : decode cX7_sizeOf 1 = .ok (.invokestatic 23, 3) := by decide +kernel
theorem dX7_sizeOf_4 : decode cX7_sizeOf 4 = .ok (.ifCond .eq 23, 3) := by decide +kernel
theorem dX7_sizeOf_7 : decode cX7_sizeOf 7 = .ok (.aload_n 0, 1) := by decide +kernel
theorem dX7_sizeOf_8 : decode cX7_sizeOf 8 = .ok (.getfield 9, 3) := by decide +kernel
theorem dX7_sizeOf_11 : decode cX7_sizeOf 11 = .ok (.iload_n 1, 1) := by decide +kernel
theorem dX7_sizeOf_12 : decode cX7_sizeOf 12 = .ok (.iaload, 1) := by decide +kernel
theorem dX7_sizeOf_13 : decode cX7_sizeOf 13 = .ok (.bipush (-4), 2) := by decide +kernel
theorem dX7_sizeOf_15 : decode cX7_sizeOf 15 = .ok (.if_icmp .eq 12, 3) := by decide +kernel
theorem dX7_sizeOf_18 : decode cX7_sizeOf 18 = .ok (.aload_n 0, 1) := by decide +kernel
theorem dX7_sizeOf_19 : decode cX7_sizeOf 19 = .ok (.getfield 15, 3) := by decide +kernel
theorem dX7_sizeOf_22 : decode cX7_sizeOf 22 = .ok (.iload_n 1, 1) := by decide +kernel
theorem dX7_sizeOf_23 : decode cX7_sizeOf 23 = .ok (.iaload, 1) := by decide +kernel
theorem dX7_sizeOf_24 : decode cX7_sizeOf 24 = .ok (.goto 5, 3) := by decide +kernel
theorem dX7_sizeOf_27 : decode cX7_sizeOf 27 = .ok (.bipush (-4), 2) := by decide +kernel
theorem dX7_sizeOf_29 : decode cX7_sizeOf 29 = .ok (.ireturn, 1) := by decide +kernel
theorem dX7_faultAt_0 : decode cX7_faultAt 0 = .ok (.aload_n 0, 1) := by decide +kernel
theorem dX7_faultAt_1 : decode cX7_faultAt 1 = .ok (.iload_n 1, 1) := by decide +kernel
theorem dX7_faultAt_2 : decode cX7_faultAt 2 = .ok (.invokevirtual 27, 3) := by decide +kernel
theorem dX7_faultAt_5 : decode cX7_faultAt 5 = .ok (.istore_n 3, 1) := by decide +kernel
theorem dX7_faultAt_6 : decode cX7_faultAt 6 = .ok (.iload_n 3, 1) := by decide +kernel
theorem dX7_faultAt_7 : decode cX7_faultAt 7 = .ok (.bipush (-4), 2) := by decide +kernel
theorem dX7_faultAt_9 : decode cX7_faultAt 9 = .ok (.if_icmp .ne 5, 3) := by decide +kernel
theorem dX7_faultAt_12 : decode cX7_faultAt 12 = .ok (.iconst 1, 1) := by decide +kernel
theorem dX7_faultAt_13 : decode cX7_faultAt 13 = .ok (.ireturn, 1) := by decide +kernel
theorem dX7_faultAt_14 : decode cX7_faultAt 14 = .ok (.iload_n 2, 1) := by decide +kernel
theorem dX7_faultAt_15 : decode cX7_faultAt 15 = .ok (.ifCond .lt 8, 3) := by decide +kernel
theorem dX7_faultAt_18 : decode cX7_faultAt 18 = .ok (.iload_n 2, 1) := by decide +kernel
theorem dX7_faultAt_19 : decode cX7_faultAt 19 = .ok (.iload_n 3, 1) := by decide +kernel
theorem dX7_faultAt_20 : decode cX7_faultAt 20 = .ok (.if_icmp .lt 7, 3) := by decide +kernel
theorem dX7_faultAt_23 : decode cX7_faultAt 23 = .ok (.iconst 2, 1) := by decide +kernel
theorem dX7_faultAt_24 : decode cX7_faultAt 24 = .ok (.goto 4, 3) := by decide +kernel
theorem dX7_faultAt_27 : decode cX7_faultAt 27 = .ok (.iconst 0, 1) := by decide +kernel
theorem dX7_faultAt_28 : decode cX7_faultAt 28 = .ok (.ireturn, 1) := by decide +kernel
theorem dX7_faultAs_0 : decode cX7_faultAs 0 = .ok (.aload_n 0, 1) := by decide +kernel
theorem dX7_faultAs_1 : decode cX7_faultAs 1 = .ok (.iload_n 1, 1) := by decide +kernel
theorem dX7_faultAs_2 : decode cX7_faultAs 2 = .ok (.invokevirtual 27, 3) := by decide +kernel
theorem dX7_faultAs_5 : decode cX7_faultAs 5 = .ok (.bipush (-4), 2) := by decide +kernel
theorem dX7_faultAs_7 : decode cX7_faultAs 7 = .ok (.if_icmp .ne 5, 3) := by decide +kernel
theorem dX7_faultAs_10 : decode cX7_faultAs 10 = .ok (.iconst 1, 1) := by decide +kernel
theorem dX7_faultAs_11 : decode cX7_faultAs 11 = .ok (.ireturn, 1) := by decide +kernel
theorem dX7_faultAs_12 : decode cX7_faultAs 12 = .ok (.iload_n 1, 1) := by decide +kernel
theorem dX7_faultAs_13 : decode cX7_faultAs 13 = .ok (.invokestatic 23, 3) := by decide +kernel
theorem dX7_faultAs_16 : decode cX7_faultAs 16 = .ok (.ifCond .eq 17, 3) := by decide +kernel
theorem dX7_faultAs_19 : decode cX7_faultAs 19 = .ok (.aload_n 0, 1) := by decide +kernel
theorem dX7_faultAs_20 : decode cX7_faultAs 20 = .ok (.getfield 9, 3) := by decide +kernel
theorem dX7_faultAs_23 : decode cX7_faultAs 23 = .ok (.iload_n 1, 1) := by decide +kernel
theorem dX7_faultAs_24 : decode cX7_faultAs 24 = .ok (.iaload, 1) := by decide +kernel
theorem dX7_faultAs_25 : decode cX7_faultAs 25 = .ok (.iload_n 2, 1) := by decide +kernel
theorem dX7_faultAs_26 : decode cX7_faultAs 26 = .ok (.if_icmp .ne 7, 3) := by decide +kernel
theorem dX7_faultAs_29 : decode cX7_faultAs 29 = .ok (.iconst 0, 1) := by decide +kernel
theorem dX7_faultAs_30 : decode cX7_faultAs 30 = .ok (.goto 4, 3) := by decide +kernel
theorem dX7_faultAs_33 : decode cX7_faultAs 33 = .ok (.iconst 3, 1) := by decide +kernel
theorem dX7_faultAs_34 : decode cX7_faultAs 34 = .ok (.ireturn, 1) := by decide +kernel
theorem dX7_wholeTurns_0 : decode cX7_wholeTurns 0 = .ok (.aload_n 0, 1) := by decide +kernel
theorem dX7_wholeTurns_1 : decode cX7_wholeTurns 1 = .ok (.iload_n 1, 1) := by decide +kernel
theorem dX7_wholeTurns_2 : decode cX7_wholeTurns 2 = .ok (.invokevirtual 27, 3) := by decide +kernel
theorem dX7_wholeTurns_5 : decode cX7_wholeTurns 5 = .ok (.istore 4, 2) := by decide +kernel
theorem dX7_wholeTurns_7 : decode cX7_wholeTurns 7 = .ok (.iload_n 2, 1) := by decide +kernel
theorem dX7_wholeTurns_8 : decode cX7_wholeTurns 8 = .ok (.ifCond .lt 9, 3) := by decide +kernel
theorem dX7_wholeTurns_11 : decode cX7_wholeTurns 11 = .ok (.iload_n 2, 1) := by decide +kernel
theorem dX7_wholeTurns_12 : decode cX7_wholeTurns 12 = .ok (.iload 4, 2) := by decide +kernel
theorem dX7_wholeTurns_14 : decode cX7_wholeTurns 14 = .ok (.if_icmp .lt 7, 3) := by decide +kernel
theorem dX7_wholeTurns_17 : decode cX7_wholeTurns 17 = .ok (.iconst 0, 1) := by decide +kernel
theorem dX7_wholeTurns_18 : decode cX7_wholeTurns 18 = .ok (.goto 13, 3) := by decide +kernel
theorem dX7_wholeTurns_21 : decode cX7_wholeTurns 21 = .ok (.iload_n 3, 1) := by decide +kernel
theorem dX7_wholeTurns_22 : decode cX7_wholeTurns 22 = .ok (.iload 4, 2) := by decide +kernel
theorem dX7_wholeTurns_24 : decode cX7_wholeTurns 24 = .ok (.iload_n 2, 1) := by decide +kernel
theorem dX7_wholeTurns_25 : decode cX7_wholeTurns 25 = .ok (.isub, 1) := by decide +kernel
theorem dX7_wholeTurns_26 : decode cX7_wholeTurns 26 = .ok (.iconst 2, 1) := by decide +kernel
theorem dX7_wholeTurns_27 : decode cX7_wholeTurns 27 = .ok (.idiv, 1) := by decide +kernel
theorem dX7_wholeTurns_28 : decode cX7_wholeTurns 28 = .ok (.invokestatic 31, 3) := by decide +kernel
theorem dX7_wholeTurns_31 : decode cX7_wholeTurns 31 = .ok (.ireturn, 1) := by decide +kernel
theorem dX7_cellAt_0 : decode cX7_cellAt 0 = .ok (.aload_n 0, 1) := by decide +kernel
theorem dX7_cellAt_1 : decode cX7_cellAt 1 = .ok (.iload_n 1, 1) := by decide +kernel
theorem dX7_cellAt_2 : decode cX7_cellAt 2 = .ok (.iload_n 2, 1) := by decide +kernel
theorem dX7_cellAt_3 : decode cX7_cellAt 3 = .ok (.invokevirtual 37, 3) := by decide +kernel
theorem dX7_cellAt_6 : decode cX7_cellAt 6 = .ok (.ifCond .ne 20, 3) := by decide +kernel
theorem dX7_cellAt_9 : decode cX7_cellAt 9 = .ok (.iload_n 2, 1) := by decide +kernel
theorem dX7_cellAt_10 : decode cX7_cellAt 10 = .ok (.bipush 40, 2) := by decide +kernel
theorem dX7_cellAt_12 : decode cX7_cellAt 12 = .ok (.if_icmp .ge 14, 3) := by decide +kernel
theorem dX7_cellAt_15 : decode cX7_cellAt 15 = .ok (.aload_n 0, 1) := by decide +kernel
theorem dX7_cellAt_16 : decode cX7_cellAt 16 = .ok (.getfield 20, 3) := by decide +kernel
theorem dX7_cellAt_19 : decode cX7_cellAt 19 = .ok (.iload_n 1, 1) := by decide +kernel
theorem dX7_cellAt_20 : decode cX7_cellAt 20 = .ok (.aaload, 1) := by decide +kernel
theorem dX7_cellAt_21 : decode cX7_cellAt 21 = .ok (.iload_n 2, 1) := by decide +kernel
theorem dX7_cellAt_22 : decode cX7_cellAt 22 = .ok (.iaload, 1) := by decide +kernel
theorem dX7_cellAt_23 : decode cX7_cellAt 23 = .ok (.goto 4, 3) := by decide +kernel
theorem dX7_cellAt_26 : decode cX7_cellAt 26 = .ok (.iconst 0, 1) := by decide +kernel
theorem dX7_cellAt_27 : decode cX7_cellAt 27 = .ok (.ireturn, 1) := by decide +kernel
theorem dX7_set_0 : decode cX7_set 0 = .ok (.aload_n 0, 1) := by decide +kernel
theorem dX7_set_1 : decode cX7_set 1 = .ok (.iload_n 1, 1) := by decide +kernel
theorem dX7_set_2 : decode cX7_set 2 = .ok (.iload_n 2, 1) := by decide +kernel
theorem dX7_set_3 : decode cX7_set 3 = .ok (.invokevirtual 37, 3) := by decide +kernel
theorem dX7_set_6 : decode cX7_set 6 = .ok (.ifCond .ne 9, 3) := by decide +kernel
theorem dX7_set_9 : decode cX7_set 9 = .ok (.iload_n 2, 1) := by decide +kernel
theorem dX7_set_10 : decode cX7_set 10 = .ok (.bipush 40, 2) := by decide +kernel
theorem dX7_set_12 : decode cX7_set 12 = .ok (.if_icmp .lt 4, 3) := by decide +kernel
theorem dX7_set_15 : decode cX7_set 15 = .ok (.return_, 1) := by decide +kernel
theorem dX7_set_16 : decode cX7_set 16 = .ok (.aload_n 0, 1) := by decide +kernel
theorem dX7_set_17 : decode cX7_set 17 = .ok (.getfield 20, 3) := by decide +kernel
theorem dX7_set_20 : decode cX7_set 20 = .ok (.iload_n 1, 1) := by decide +kernel
theorem dX7_set_21 : decode cX7_set 21 = .ok (.aaload, 1) := by decide +kernel
theorem dX7_set_22 : decode cX7_set 22 = .ok (.iload_n 2, 1) := by decide +kernel
theorem dX7_set_23 : decode cX7_set 23 = .ok (.aload_n 0, 1) := by decide +kernel
theorem dX7_set_24 : decode cX7_set 24 = .ok (.getfield 9, 3) := by decide +kernel
theorem dX7_set_27 : decode cX7_set 27 = .ok (.iload_n 1, 1) := by decide +kernel
theorem dX7_set_28 : decode cX7_set 28 = .ok (.iaload, 1) := by decide +kernel
theorem dX7_set_29 : decode cX7_set 29 = .ok (.ifCond .ne 8, 3) := by decide +kernel
theorem dX7_set_32 : decode cX7_set 32 = .ok (.iload_n 3, 1) := by decide +kernel
theorem dX7_set_33 : decode cX7_set 33 = .ok (.i2b, 1) := by decide +kernel
theorem dX7_set_34 : decode cX7_set 34 = .ok (.goto 19, 3) := by decide +kernel
theorem dX7_set_37 : decode cX7_set 37 = .ok (.aload_n 0, 1) := by decide +kernel
theorem dX7_set_38 : decode cX7_set 38 = .ok (.getfield 9, 3) := by decide +kernel
theorem dX7_set_41 : decode cX7_set 41 = .ok (.iload_n 1, 1) := by decide +kernel
theorem dX7_set_42 : decode cX7_set 42 = .ok (.iaload, 1) := by decide +kernel
theorem dX7_set_43 : decode cX7_set 43 = .ok (.iconst 1, 1) := by decide +kernel
theorem dX7_set_44 : decode cX7_set 44 = .ok (.if_icmp .ne 8, 3) := by decide +kernel
theorem dX7_set_47 : decode cX7_set 47 = .ok (.iload_n 3, 1) := by decide +kernel
theorem dX7_set_48 : decode cX7_set 48 = .ok (.i2s, 1) := by decide +kernel
theorem dX7_set_49 : decode cX7_set 49 = .ok (.goto 4, 3) := by decide +kernel
theorem dX7_set_52 : decode cX7_set 52 = .ok (.iload_n 3, 1) := by decide +kernel
theorem dX7_set_53 : decode cX7_set 53 = .ok (.iastore, 1) := by decide +kernel
theorem dX7_set_54 : decode cX7_set 54 = .ok (.return_, 1) := by decide +kernel
theorem dX8_init_0 : decode cX8_init 0 = .ok (.aload_n 0, 1) := by decide +kernel
theorem dX8_init_1 : decode cX8_init 1 = .ok (.invokespecial 3, 3) := by decide +kernel
theorem dX8_init_4 : decode cX8_init 4 = .ok (.aload_n 0, 1) := by decide +kernel
theorem dX8_init_5 : decode cX8_init 5 = .ok (.bipush 6, 2) := by decide +kernel
theorem dX8_init_7 : decode cX8_init 7 = .ok (.newarray .int, 2) := by decide +kernel
theorem dX8_init_9 : decode cX8_init 9 = .ok (.putfield 9, 3) := by decide +kernel
theorem dX8_init_12 : decode cX8_init 12 = .ok (.aload_n 0, 1) := by decide +kernel
theorem dX8_init_13 : decode cX8_init 13 = .ok (.bipush 6, 2) := by decide +kernel
theorem dX8_init_15 : decode cX8_init 15 = .ok (.newarray .int, 2) := by decide +kernel
theorem dX8_init_17 : decode cX8_init 17 = .ok (.putfield 15, 3) := by decide +kernel
theorem dX8_init_20 : decode cX8_init 20 = .ok (.aload_n 0, 1) := by decide +kernel
theorem dX8_init_21 : decode cX8_init 21 = .ok (.iconst 2, 1) := by decide +kernel
theorem dX8_init_22 : decode cX8_init 22 = .ok (.newarray .int, 2) := by decide +kernel
theorem dX8_init_24 : decode cX8_init 24 = .ok (.putfield 18, 3) := by decide +kernel
theorem dX8_init_27 : decode cX8_init 27 = .ok (.return_, 1) := by decide +kernel
theorem dX8_clear_0 : decode cX8_clear 0 = .ok (.iconst 0, 1) := by decide +kernel
theorem dX8_clear_1 : decode cX8_clear 1 = .ok (.istore_n 1, 1) := by decide +kernel
theorem dX8_clear_2 : decode cX8_clear 2 = .ok (.iload_n 1, 1) := by decide +kernel
theorem dX8_clear_3 : decode cX8_clear 3 = .ok (.bipush 6, 2) := by decide +kernel
theorem dX8_clear_5 : decode cX8_clear 5 = .ok (.if_icmp .ge 24, 3) := by decide +kernel
theorem dX8_clear_8 : decode cX8_clear 8 = .ok (.aload_n 0, 1) := by decide +kernel
theorem dX8_clear_9 : decode cX8_clear 9 = .ok (.getfield 9, 3) := by decide +kernel
theorem dX8_clear_12 : decode cX8_clear 12 = .ok (.iload_n 1, 1) := by decide +kernel
theorem dX8_clear_13 : decode cX8_clear 13 = .ok (.bipush (-4), 2) := by decide +kernel
theorem dX8_clear_15 : decode cX8_clear 15 = .ok (.iastore, 1) := by decide +kernel
theorem dX8_clear_16 : decode cX8_clear 16 = .ok (.aload_n 0, 1) := by decide +kernel
theorem dX8_clear_17 : decode cX8_clear 17 = .ok (.getfield 15, 3) := by decide +kernel
theorem dX8_clear_20 : decode cX8_clear 20 = .ok (.iload_n 1, 1) := by decide +kernel
theorem dX8_clear_21 : decode cX8_clear 21 = .ok (.iconst 0, 1) := by decide +kernel
theorem dX8_clear_22 : decode cX8_clear 22 = .ok (.iastore, 1) := by decide +kernel
theorem dX8_clear_23 : decode cX8_clear 23 = .ok (.iinc 1 1, 3) := by decide +kernel
theorem dX8_clear_26 : decode cX8_clear 26 = .ok (.goto (-24), 3) := by decide +kernel
theorem dX8_clear_29 : decode cX8_clear 29 = .ok (.iconst 0, 1) := by decide +kernel
theorem dX8_clear_30 : decode cX8_clear 30 = .ok (.istore_n 1, 1) := by decide +kernel
theorem dX8_clear_31 : decode cX8_clear 31 = .ok (.iload_n 1, 1) := by decide +kernel
theorem dX8_clear_32 : decode cX8_clear 32 = .ok (.iconst 2, 1) := by decide +kernel
theorem dX8_clear_33 : decode cX8_clear 33 = .ok (.if_icmp .ge 16, 3) := by decide +kernel
theorem dX8_clear_36 : decode cX8_clear 36 = .ok (.aload_n 0, 1) := by decide +kernel
theorem dX8_clear_37 : decode cX8_clear 37 = .ok (.getfield 18, 3) := by decide +kernel
theorem dX8_clear_40 : decode cX8_clear 40 = .ok (.iload_n 1, 1) := by decide +kernel
theorem dX8_clear_41 : decode cX8_clear 41 = .ok (.iconst 0, 1) := by decide +kernel
theorem dX8_clear_42 : decode cX8_clear 42 = .ok (.iastore, 1) := by decide +kernel
theorem dX8_clear_43 : decode cX8_clear 43 = .ok (.iinc 1 1, 3) := by decide +kernel
theorem dX8_clear_46 : decode cX8_clear 46 = .ok (.goto (-15), 3) := by decide +kernel
theorem dX8_clear_49 : decode cX8_clear 49 = .ok (.aload_n 0, 1) := by decide +kernel
theorem dX8_clear_50 : decode cX8_clear 50 = .ok (.iconst 0, 1) := by decide +kernel
theorem dX8_clear_51 : decode cX8_clear 51 = .ok (.putfield 21, 3) := by decide +kernel
theorem dX8_clear_54 : decode cX8_clear 54 = .ok (.return_, 1) := by decide +kernel
theorem dX8_copyFrom_0 : decode cX8_copyFrom 0 = .ok (.aload_n 1, 1) := by decide +kernel
theorem dX8_copyFrom_1 : decode cX8_copyFrom 1 = .ok (.getfield 9, 3) := by decide +kernel
theorem dX8_copyFrom_4 : decode cX8_copyFrom 4 = .ok (.iconst 0, 1) := by decide +kernel
theorem dX8_copyFrom_5 : decode cX8_copyFrom 5 = .ok (.aload_n 0, 1) := by decide +kernel
theorem dX8_copyFrom_6 : decode cX8_copyFrom 6 = .ok (.getfield 9, 3) := by decide +kernel
theorem dX8_copyFrom_9 : decode cX8_copyFrom 9 = .ok (.iconst 0, 1) := by decide +kernel
theorem dX8_copyFrom_10 : decode cX8_copyFrom 10 = .ok (.bipush 6, 2) := by decide +kernel
theorem dX8_copyFrom_12 : decode cX8_copyFrom 12 = .ok (.invokestatic 25, 3) := by decide +kernel
theorem dX8_copyFrom_15 : decode cX8_copyFrom 15 = .ok (.aload_n 1, 1) := by decide +kernel
theorem dX8_copyFrom_16 : decode cX8_copyFrom 16 = .ok (.getfield 15, 3) := by decide +kernel
theorem dX8_copyFrom_19 : decode cX8_copyFrom 19 = .ok (.iconst 0, 1) := by decide +kernel
theorem dX8_copyFrom_20 : decode cX8_copyFrom 20 = .ok (.aload_n 0, 1) := by decide +kernel
theorem dX8_copyFrom_21 : decode cX8_copyFrom 21 = .ok (.getfield 15, 3) := by decide +kernel
theorem dX8_copyFrom_24 : decode cX8_copyFrom 24 = .ok (.iconst 0, 1) := by decide +kernel
theorem dX8_copyFrom_25 : decode cX8_copyFrom 25 = .ok (.bipush 6, 2) := by decide +kernel
theorem dX8_copyFrom_27 : decode cX8_copyFrom 27 = .ok (.invokestatic 25, 3) := by decide +kernel
theorem dX8_copyFrom_30 : decode cX8_copyFrom 30 = .ok (.aload_n 1, 1) := by decide +kernel
theorem dX8_copyFrom_31 : decode cX8_copyFrom 31 = .ok (.getfield 18, 3) := by decide +kernel
theorem dX8_copyFrom_34 : decode cX8_copyFrom 34 = .ok (.iconst 0, 1) := by decide +kernel
theorem dX8_copyFrom_35 : decode cX8_copyFrom 35 = .ok (.aload_n 0, 1) := by decide +kernel
theorem dX8_copyFrom_36 : decode cX8_copyFrom 36 = .ok (.getfield 18, 3) := by decide +kernel
theorem dX8_copyFrom_39 : decode cX8_copyFrom 39 = .ok (.iconst 0, 1) := by decide +kernel
theorem dX8_copyFrom_40 : decode cX8_copyFrom 40 = .ok (.iconst 2, 1) := by decide +kernel
theorem dX8_copyFrom_41 : decode cX8_copyFrom 41 = .ok (.invokestatic 25, 3) := by decide +kernel
theorem dX8_copyFrom_44 : decode cX8_copyFrom 44 = .ok (.aload_n 0, 1) := by decide +kernel
theorem dX8_copyFrom_45 : decode cX8_copyFrom 45 = .ok (.aload_n 1, 1) := by decide +kernel
theorem dX8_copyFrom_46 : decode cX8_copyFrom 46 = .ok (.getfield 21, 3) := by decide +kernel
theorem dX8_copyFrom_49 : decode cX8_copyFrom 49 = .ok (.putfield 21, 3) := by decide +kernel
theorem dX8_copyFrom_52 : decode cX8_copyFrom 52 = .ok (.return_, 1) := by decide +kernel
theorem dX8_placeOf_0 : decode cX8_placeOf 0 = .ok (.iload_n 1, 1) := by decide +kernel
theorem dX8_placeOf_1 : decode cX8_placeOf 1 = .ok (.ifCond .lt 21, 3) := by decide +kernel
theorem dX8_placeOf_4 : decode cX8_placeOf 4 = .ok (.iload_n 1, 1) := by decide +kernel
theorem dX8_placeOf_5 : decode cX8_placeOf 5 = .ok (.aload_n 0, 1) := by decide +kernel
theorem dX8_placeOf_6 : decode cX8_placeOf 6 = .ok (.getfield 9, 3) := by decide +kernel
theorem dX8_placeOf_9 : decode cX8_placeOf 9 = .ok (.arraylength, 1) := by decide +kernel
theorem dX8_placeOf_10 : decode cX8_placeOf 10 = .ok (.if_icmp .ge 12, 3) := by decide +kernel
theorem dX8_placeOf_13 : decode cX8_placeOf 13 = .ok (.aload_n 0, 1) := by decide +kernel
theorem dX8_placeOf_14 : decode cX8_placeOf 14 = .ok (.getfield 9, 3) := by decide +kernel
theorem dX8_placeOf_17 : decode cX8_placeOf 17 = .ok (.iload_n 1, 1) := by decide +kernel
theorem dX8_placeOf_18 : decode cX8_placeOf 18 = .ok (.iaload, 1) := by decide +kernel
theorem dX8_placeOf_19 : decode cX8_placeOf 19 = .ok (.goto 5, 3) := by decide +kernel
theorem dX8_placeOf_22 : decode cX8_placeOf 22 = .ok (.bipush (-4), 2) := by decide +kernel
theorem dX8_placeOf_24 : decode cX8_placeOf 24 = .ok (.ireturn, 1) := by decide +kernel
theorem dX8_oilOf_0 : decode cX8_oilOf 0 = .ok (.iload_n 1, 1) := by decide +kernel
theorem dX8_oilOf_1 : decode cX8_oilOf 1 = .ok (.ifCond .lt 21, 3) := by decide +kernel
theorem dX8_oilOf_4 : decode cX8_oilOf 4 = .ok (.iload_n 1, 1) := by decide +kernel
theorem dX8_oilOf_5 : decode cX8_oilOf 5 = .ok (.aload_n 0, 1) := by decide +kernel
theorem dX8_oilOf_6 : decode cX8_oilOf 6 = .ok (.getfield 15, 3) := by decide +kernel
theorem dX8_oilOf_9 : decode cX8_oilOf 9 = .ok (.arraylength, 1) := by decide +kernel
theorem dX8_oilOf_10 : decode cX8_oilOf 10 = .ok (.if_icmp .ge 12, 3) := by decide +kernel
theorem dX8_oilOf_13 : decode cX8_oilOf 13 = .ok (.aload_n 0, 1) := by decide +kernel
theorem dX8_oilOf_14 : decode cX8_oilOf 14 = .ok (.getfield 15, 3) := by decide +kernel
theorem dX8_oilOf_17 : decode cX8_oilOf 17 = .ok (.iload_n 1, 1) := by decide +kernel
theorem dX8_oilOf_18 : decode cX8_oilOf 18 = .ok (.iaload, 1) := by decide +kernel
theorem dX8_oilOf_19 : decode cX8_oilOf 19 = .ok (.goto 4, 3) := by decide +kernel
theorem dX8_oilOf_22 : decode cX8_oilOf 22 = .ok (.iconst 0, 1) := by decide +kernel
theorem dX8_oilOf_23 : decode cX8_oilOf 23 = .ok (.ireturn, 1) := by decide +kernel
theorem dX8_fill_0 : decode cX8_fill 0 = .ok (.iload_n 1, 1) := by decide +kernel
theorem dX8_fill_1 : decode cX8_fill 1 = .ok (.ifCond .lt 19, 3) := by decide +kernel
theorem dX8_fill_4 : decode cX8_fill 4 = .ok (.iload_n 1, 1) := by decide +kernel
theorem dX8_fill_5 : decode cX8_fill 5 = .ok (.aload_n 0, 1) := by decide +kernel
theorem dX8_fill_6 : decode cX8_fill 6 = .ok (.getfield 15, 3) := by decide +kernel
theorem dX8_fill_9 : decode cX8_fill 9 = .ok (.arraylength, 1) := by decide +kernel
theorem dX8_fill_10 : decode cX8_fill 10 = .ok (.if_icmp .ge 10, 3) := by decide +kernel
theorem dX8_fill_13 : decode cX8_fill 13 = .ok (.aload_n 0, 1) := by decide +kernel
theorem dX8_fill_14 : decode cX8_fill 14 = .ok (.getfield 15, 3) := by decide +kernel
theorem dX8_fill_17 : decode cX8_fill 17 = .ok (.iload_n 1, 1) := by decide +kernel
theorem dX8_fill_18 : decode cX8_fill 18 = .ok (.iload_n 2, 1) := by decide +kernel
theorem dX8_fill_19 : decode cX8_fill 19 = .ok (.iastore, 1) := by decide +kernel
theorem dX8_fill_20 : decode cX8_fill 20 = .ok (.return_, 1) := by decide +kernel
theorem dX8_heldBy_0 : decode cX8_heldBy 0 = .ok (.iload_n 1, 1) := by decide +kernel
theorem dX8_heldBy_1 : decode cX8_heldBy 1 = .ok (.ifCond .lt 21, 3) := by decide +kernel
theorem dX8_heldBy_4 : decode cX8_heldBy 4 = .ok (.iload_n 1, 1) := by decide +kernel
theorem dX8_heldBy_5 : decode cX8_heldBy 5 = .ok (.aload_n 0, 1) := by decide +kernel
theorem dX8_heldBy_6 : decode cX8_heldBy 6 = .ok (.getfield 18, 3) := by decide +kernel
theorem dX8_heldBy_9 : decode cX8_heldBy 9 = .ok (.arraylength, 1) := by decide +kernel
theorem dX8_heldBy_10 : decode cX8_heldBy 10 = .ok (.if_icmp .ge 12, 3) := by decide +kernel
theorem dX8_heldBy_13 : decode cX8_heldBy 13 = .ok (.aload_n 0, 1) := by decide +kernel
theorem dX8_heldBy_14 : decode cX8_heldBy 14 = .ok (.getfield 18, 3) := by decide +kernel
theorem dX8_heldBy_17 : decode cX8_heldBy 17 = .ok (.iload_n 1, 1) := by decide +kernel
theorem dX8_heldBy_18 : decode cX8_heldBy 18 = .ok (.iaload, 1) := by decide +kernel
theorem dX8_heldBy_19 : decode cX8_heldBy 19 = .ok (.goto 4, 3) := by decide +kernel
theorem dX8_heldBy_22 : decode cX8_heldBy 22 = .ok (.iconst 0, 1) := by decide +kernel
theorem dX8_heldBy_23 : decode cX8_heldBy 23 = .ok (.ireturn, 1) := by decide +kernel
theorem dX8_settle_0 : decode cX8_settle 0 = .ok (.aload_n 1, 1) := by decide +kernel
theorem dX8_settle_1 : decode cX8_settle 1 = .ok (.iload_n 2, 1) := by decide +kernel
theorem dX8_settle_2 : decode cX8_settle 2 = .ok (.invokevirtual 31, 3) := by decide +kernel
theorem dX8_settle_5 : decode cX8_settle 5 = .ok (.istore 4, 2) := by decide +kernel
theorem dX8_settle_7 : decode cX8_settle 7 = .ok (.iload 4, 2) := by decide +kernel
theorem dX8_settle_9 : decode cX8_settle 9 = .ok (.invokestatic 37, 3) := by decide +kernel
theorem dX8_settle_12 : decode cX8_settle 12 = .ok (.ifCond .eq 12, 3) := by decide +kernel
theorem dX8_settle_15 : decode cX8_settle 15 = .ok (.iload_n 2, 1) := by decide +kernel
theorem dX8_settle_16 : decode cX8_settle 16 = .ok (.aload_n 0, 1) := by decide +kernel
theorem dX8_settle_17 : decode cX8_settle 17 = .ok (.getfield 9, 3) := by decide +kernel
theorem dX8_settle_20 : decode cX8_settle 20 = .ok (.arraylength, 1) := by decide +kernel
theorem dX8_settle_21 : decode cX8_settle 21 = .ok (.if_icmp .lt 4, 3) := by decide +kernel
theorem dX8_settle_24 : decode cX8_settle 24 = .ok (.return_, 1) := by decide +kernel
theorem dX8_settle_25 : decode cX8_settle 25 = .ok (.aload_n 0, 1) := by decide +kernel
theorem dX8_settle_26 : decode cX8_settle 26 = .ok (.getfield 18, 3) := by decide +kernel
theorem dX8_settle_29 : decode cX8_settle 29 = .ok (.iload 4, 2) := by decide +kernel
theorem dX8_settle_31 : decode cX8_settle 31 = .ok (.aload_n 0, 1) := by decide +kernel
theorem dX8_settle_32 : decode cX8_settle 32 = .ok (.getfield 18, 3) := by decide +kernel
theorem dX8_settle_35 : decode cX8_settle 35 = .ok (.iload 4, 2) := by decide +kernel
theorem dX8_settle_37 : decode cX8_settle 37 = .ok (.iaload, 1) := by decide +kernel
theorem dX8_settle_38 : decode cX8_settle 38 = .ok (.aload_n 0, 1) := by decide +kernel
theorem dX8_settle_39 : decode cX8_settle 39 = .ok (.getfield 9, 3) := by decide +kernel
theorem dX8_settle_42 : decode cX8_settle 42 = .ok (.iload_n 2, 1) := by decide +kernel
theorem dX8_settle_43 : decode cX8_settle 43 = .ok (.iaload, 1) := by decide +kernel
theorem dX8_settle_44 : decode cX8_settle 44 = .ok (.invokestatic 41, 3) := by decide +kernel
theorem dX8_settle_47 : decode cX8_settle 47 = .ok (.iconst (-1), 1) := by decide +kernel
theorem dX8_settle_48 : decode cX8_settle 48 = .ok (.ixor, 1) := by decide +kernel
theorem dX8_settle_49 : decode cX8_settle 49 = .ok (.iand, 1) := by decide +kernel
theorem dX8_settle_50 : decode cX8_settle 50 = .ok (.iload_n 3, 1) := by decide +kernel
theorem dX8_settle_51 : decode cX8_settle 51 = .ok (.invokestatic 41, 3) := by decide +kernel
theorem dX8_settle_54 : decode cX8_settle 54 = .ok (.ior, 1) := by decide +kernel
theorem dX8_settle_55 : decode cX8_settle 55 = .ok (.iastore, 1) := by decide +kernel
theorem dX8_settle_56 : decode cX8_settle 56 = .ok (.aload_n 0, 1) := by decide +kernel
theorem dX8_settle_57 : decode cX8_settle 57 = .ok (.getfield 9, 3) := by decide +kernel
theorem dX8_settle_60 : decode cX8_settle 60 = .ok (.iload_n 2, 1) := by decide +kernel
theorem dX8_settle_61 : decode cX8_settle 61 = .ok (.iload_n 3, 1) := by decide +kernel
theorem dX8_settle_62 : decode cX8_settle 62 = .ok (.iastore, 1) := by decide +kernel
theorem dX8_settle_63 : decode cX8_settle 63 = .ok (.return_, 1) := by decide +kernel
theorem dX8_pieceOn_0 : decode cX8_pieceOn 0 = .ok (.iconst 0, 1) := by decide +kernel
theorem dX8_pieceOn_1 : decode cX8_pieceOn 1 = .ok (.istore_n 3, 1) := by decide +kernel
theorem dX8_pieceOn_2 : decode cX8_pieceOn 2 = .ok (.iload_n 3, 1) := by decide +kernel
theorem dX8_pieceOn_3 : decode cX8_pieceOn 3 = .ok (.aload_n 1, 1) := by decide +kernel
theorem dX8_pieceOn_4 : decode cX8_pieceOn 4 = .ok (.getfield 44, 3) := by decide +kernel
theorem dX8_pieceOn_7 : decode cX8_pieceOn 7 = .ok (.if_icmp .ge 20, 3) := by decide +kernel
theorem dX8_pieceOn_10 : decode cX8_pieceOn 10 = .ok (.aload_n 0, 1) := by decide +kernel
theorem dX8_pieceOn_11 : decode cX8_pieceOn 11 = .ok (.iload_n 3, 1) := by decide +kernel
theorem dX8_pieceOn_12 : decode cX8_pieceOn 12 = .ok (.invokevirtual 47, 3) := by decide +kernel
theorem dX8_pieceOn_15 : decode cX8_pieceOn 15 = .ok (.iload_n 2, 1) := by decide +kernel
theorem dX8_pieceOn_16 : decode cX8_pieceOn 16 = .ok (.if_icmp .ne 5, 3) := by decide +kernel
theorem dX8_pieceOn_19 : decode cX8_pieceOn 19 = .ok (.iload_n 3, 1) := by decide +kernel
theorem dX8_pieceOn_20 : decode cX8_pieceOn 20 = .ok (.ireturn, 1) := by decide +kernel
theorem dX8_pieceOn_21 : decode cX8_pieceOn 21 = .ok (.iinc 3 1, 3) := by decide +kernel
theorem dX8_pieceOn_24 : decode cX8_pieceOn 24 = .ok (.goto (-22), 3) := by decide +kernel
theorem dX8_pieceOn_27 : decode cX8_pieceOn 27 = .ok (.bipush (-4), 2) := by decide +kernel
theorem dX8_pieceOn_29 : decode cX8_pieceOn 29 = .ok (.ireturn, 1) := by decide +kernel
theorem dX8_kingOf_0 : decode cX8_kingOf 0 = .ok (.iconst 0, 1) := by decide +kernel
theorem dX8_kingOf_1 : decode cX8_kingOf 1 = .ok (.istore_n 3, 1) := by decide +kernel
theorem dX8_kingOf_2 : decode cX8_kingOf 2 = .ok (.iload_n 3, 1) := by decide +kernel
theorem dX8_kingOf_3 : decode cX8_kingOf 3 = .ok (.aload_n 1, 1) := by decide +kernel
theorem dX8_kingOf_4 : decode cX8_kingOf 4 = .ok (.getfield 44, 3) := by decide +kernel
theorem dX8_kingOf_7 : decode cX8_kingOf 7 = .ok (.if_icmp .ge 28, 3) := by decide +kernel
theorem dX8_kingOf_10 : decode cX8_kingOf 10 = .ok (.aload_n 1, 1) := by decide +kernel
theorem dX8_kingOf_11 : decode cX8_kingOf 11 = .ok (.iload_n 3, 1) := by decide +kernel
theorem dX8_kingOf_12 : decode cX8_kingOf 12 = .ok (.invokevirtual 50, 3) := by decide +kernel
theorem dX8_kingOf_15 : decode cX8_kingOf 15 = .ok (.ifCond .ne 14, 3) := by decide +kernel
theorem dX8_kingOf_18 : decode cX8_kingOf 18 = .ok (.aload_n 1, 1) := by decide +kernel
theorem dX8_kingOf_19 : decode cX8_kingOf 19 = .ok (.iload_n 3, 1) := by decide +kernel
theorem dX8_kingOf_20 : decode cX8_kingOf 20 = .ok (.invokevirtual 31, 3) := by decide +kernel
theorem dX8_kingOf_23 : decode cX8_kingOf 23 = .ok (.iload_n 2, 1) := by decide +kernel
theorem dX8_kingOf_24 : decode cX8_kingOf 24 = .ok (.if_icmp .ne 5, 3) := by decide +kernel
theorem dX8_kingOf_27 : decode cX8_kingOf 27 = .ok (.iload_n 3, 1) := by decide +kernel
theorem dX8_kingOf_28 : decode cX8_kingOf 28 = .ok (.ireturn, 1) := by decide +kernel
theorem dX8_kingOf_29 : decode cX8_kingOf 29 = .ok (.iinc 3 1, 3) := by decide +kernel
theorem dX8_kingOf_32 : decode cX8_kingOf 32 = .ok (.goto (-30), 3) := by decide +kernel
theorem dX8_kingOf_35 : decode cX8_kingOf 35 = .ok (.bipush (-4), 2) := by decide +kernel
theorem dX8_kingOf_37 : decode cX8_kingOf 37 = .ok (.ireturn, 1) := by decide +kernel
theorem dX8_lostSide_0 : decode cX8_lostSide 0 = .ok (.iconst 0, 1) := by decide +kernel
theorem dX8_lostSide_1 : decode cX8_lostSide 1 = .ok (.istore_n 2, 1) := by decide +kernel
theorem dX8_lostSide_2 : decode cX8_lostSide 2 = .ok (.iload_n 2, 1) := by decide +kernel
theorem dX8_lostSide_3 : decode cX8_lostSide 3 = .ok (.aload_n 1, 1) := by decide +kernel
theorem dX8_lostSide_4 : decode cX8_lostSide 4 = .ok (.getfield 44, 3) := by decide +kernel
theorem dX8_lostSide_7 : decode cX8_lostSide 7 = .ok (.if_icmp .ge 33, 3) := by decide +kernel
theorem dX8_lostSide_10 : decode cX8_lostSide 10 = .ok (.aload_n 0, 1) := by decide +kernel
theorem dX8_lostSide_11 : decode cX8_lostSide 11 = .ok (.iload_n 2, 1) := by decide +kernel
theorem dX8_lostSide_12 : decode cX8_lostSide 12 = .ok (.invokevirtual 47, 3) := by decide +kernel
theorem dX8_lostSide_15 : decode cX8_lostSide 15 = .ok (.bipush (-4), 2) := by decide +kernel
theorem dX8_lostSide_17 : decode cX8_lostSide 17 = .ok (.if_icmp .ne 17, 3) := by decide +kernel
theorem dX8_lostSide_20 : decode cX8_lostSide 20 = .ok (.aload_n 1, 1) := by decide +kernel
theorem dX8_lostSide_21 : decode cX8_lostSide 21 = .ok (.iload_n 2, 1) := by decide +kernel
theorem dX8_lostSide_22 : decode cX8_lostSide 22 = .ok (.invokevirtual 50, 3) := by decide +kernel
theorem dX8_lostSide_25 : decode cX8_lostSide 25 = .ok (.ifCond .ne 9, 3) := by decide +kernel
theorem dX8_lostSide_28 : decode cX8_lostSide 28 = .ok (.aload_n 1, 1) := by decide +kernel
theorem dX8_lostSide_29 : decode cX8_lostSide 29 = .ok (.iload_n 2, 1) := by decide +kernel
theorem dX8_lostSide_30 : decode cX8_lostSide 30 = .ok (.invokevirtual 31, 3) := by decide +kernel
theorem dX8_lostSide_33 : decode cX8_lostSide 33 = .ok (.ireturn, 1) := by decide +kernel
theorem dX8_lostSide_34 : decode cX8_lostSide 34 = .ok (.iinc 2 1, 3) := by decide +kernel
theorem dX8_lostSide_37 : decode cX8_lostSide 37 = .ok (.goto (-35), 3) := by decide +kernel
theorem dX8_lostSide_40 : decode cX8_lostSide 40 = .ok (.bipush (-4), 2) := by decide +kernel
theorem dX8_lostSide_42 : decode cX8_lostSide 42 = .ok (.ireturn, 1) := by decide +kernel
theorem dX8_standing_0 : decode cX8_standing 0 = .ok (.iconst 0, 1) := by decide +kernel
theorem dX8_standing_1 : decode cX8_standing 1 = .ok (.istore_n 2, 1) := by decide +kernel
theorem dX8_standing_2 : decode cX8_standing 2 = .ok (.iconst 0, 1) := by decide +kernel
theorem dX8_standing_3 : decode cX8_standing 3 = .ok (.istore_n 3, 1) := by decide +kernel
theorem dX8_standing_4 : decode cX8_standing 4 = .ok (.iload_n 3, 1) := by decide +kernel
theorem dX8_standing_5 : decode cX8_standing 5 = .ok (.aload_n 1, 1) := by decide +kernel
theorem dX8_standing_6 : decode cX8_standing 6 = .ok (.getfield 44, 3) := by decide +kernel
theorem dX8_standing_9 : decode cX8_standing 9 = .ok (.if_icmp .ge 22, 3) := by decide +kernel
theorem dX8_standing_12 : decode cX8_standing 12 = .ok (.aload_n 0, 1) := by decide +kernel
theorem dX8_standing_13 : decode cX8_standing 13 = .ok (.iload_n 3, 1) := by decide +kernel
theorem dX8_standing_14 : decode cX8_standing 14 = .ok (.invokevirtual 47, 3) := by decide +kernel
theorem dX8_standing_17 : decode cX8_standing 17 = .ok (.bipush (-4), 2) := by decide +kernel
theorem dX8_standing_19 : decode cX8_standing 19 = .ok (.if_icmp .eq 6, 3) := by decide +kernel
theorem dX8_standing_22 : decode cX8_standing 22 = .ok (.iinc 2 1, 3) := by decide +kernel
theorem dX8_standing_25 : decode cX8_standing 25 = .ok (.iinc 3 1, 3) := by decide +kernel
theorem dX8_standing_28 : decode cX8_standing 28 = .ok (.goto (-24), 3) := by decide +kernel
theorem dX8_standing_31 : decode cX8_standing 31 = .ok (.iload_n 2, 1) := by decide +kernel
theorem dX8_standing_32 : decode cX8_standing 32 = .ok (.ireturn, 1) := by decide +kernel
theorem dX8_allOil_0 : decode cX8_allOil 0 = .ok (.iconst 0, 1) := by decide +kernel
theorem dX8_allOil_1 : decode cX8_allOil 1 = .ok (.istore_n 2, 1) := by decide +kernel
theorem dX8_allOil_2 : decode cX8_allOil 2 = .ok (.iconst 0, 1) := by decide +kernel
theorem dX8_allOil_3 : decode cX8_allOil 3 = .ok (.istore_n 3, 1) := by decide +kernel
theorem dX8_allOil_4 : decode cX8_allOil 4 = .ok (.iload_n 3, 1) := by decide +kernel
theorem dX8_allOil_5 : decode cX8_allOil 5 = .ok (.aload_n 1, 1) := by decide +kernel
theorem dX8_allOil_6 : decode cX8_allOil 6 = .ok (.getfield 44, 3) := by decide +kernel
theorem dX8_allOil_9 : decode cX8_allOil 9 = .ok (.if_icmp .ge 17, 3) := by decide +kernel
theorem dX8_allOil_12 : decode cX8_allOil 12 = .ok (.iload_n 2, 1) := by decide +kernel
theorem dX8_allOil_13 : decode cX8_allOil 13 = .ok (.aload_n 0, 1) := by decide +kernel
theorem dX8_allOil_14 : decode cX8_allOil 14 = .ok (.iload_n 3, 1) := by decide +kernel
theorem dX8_allOil_15 : decode cX8_allOil 15 = .ok (.invokevirtual 53, 3) := by decide +kernel
theorem dX8_allOil_18 : decode cX8_allOil 18 = .ok (.iadd, 1) := by decide +kernel
theorem dX8_allOil_19 : decode cX8_allOil 19 = .ok (.istore_n 2, 1) := by decide +kernel
theorem dX8_allOil_20 : decode cX8_allOil 20 = .ok (.iinc 3 1, 3) := by decide +kernel
theorem dX8_allOil_23 : decode cX8_allOil 23 = .ok (.goto (-19), 3) := by decide +kernel
theorem dX8_allOil_26 : decode cX8_allOil 26 = .ok (.iload_n 2, 1) := by decide +kernel
theorem dX8_allOil_27 : decode cX8_allOil 27 = .ok (.ireturn, 1) := by decide +kernel
theorem dX8_listMoves_0 : decode cX8_listMoves 0 = .ok (.iload_n 2, 1) := by decide +kernel
theorem dX8_listMoves_1 : decode cX8_listMoves 1 = .ok (.iconst 4, 1) := by decide +kernel
theorem dX8_listMoves_2 : decode cX8_listMoves 2 = .ok (.if_icmp .eq 13, 3) := by decide +kernel
theorem dX8_listMoves_5 : decode cX8_listMoves 5 = .ok (.aload_n 0, 1) := by decide +kernel
theorem dX8_listMoves_6 : decode cX8_listMoves 6 = .ok (.aload_n 1, 1) := by decide +kernel
theorem dX8_listMoves_7 : decode cX8_listMoves 7 = .ok (.invokevirtual 56, 3) := by decide +kernel
theorem dX8_listMoves_10 : decode cX8_listMoves 10 = .ok (.bipush (-4), 2) := by decide +kernel
theorem dX8_listMoves_12 : decode cX8_listMoves 12 = .ok (.if_icmp .eq 5, 3) := by decide +kernel
theorem dX8_listMoves_15 : decode cX8_listMoves 15 = .ok (.iconst 0, 1) := by decide +kernel
theorem dX8_listMoves_16 : decode cX8_listMoves 16 = .ok (.ireturn, 1) := by decide +kernel
theorem dX8_listMoves_17 : decode cX8_listMoves 17 = .ok (.iconst 0, 1) := by decide +kernel
theorem dX8_listMoves_18 : decode cX8_listMoves 18 = .ok (.istore 4, 2) := by decide +kernel
theorem dX8_listMoves_20 : decode cX8_listMoves 20 = .ok (.iconst 0, 1) := by decide +kernel
theorem dX8_listMoves_21 : decode cX8_listMoves 21 = .ok (.istore 5, 2) := by decide +kernel
theorem dX8_listMoves_23 : decode cX8_listMoves 23 = .ok (.iload 5, 2) := by decide +kernel
theorem dX8_listMoves_25 : decode cX8_listMoves 25 = .ok (.aload_n 1, 1) := by decide +kernel
theorem dX8_listMoves_26 : decode cX8_listMoves 26 = .ok (.getfield 44, 3) := by decide +kernel
theorem dX8_listMoves_29 : decode cX8_listMoves 29 = .ok (.if_icmp .ge 75, 3) := by decide +kernel
theorem dX8_listMoves_32 : decode cX8_listMoves 32 = .ok (.aload_n 0, 1) := by decide +kernel
theorem dX8_listMoves_33 : decode cX8_listMoves 33 = .ok (.aload_n 1, 1) := by decide +kernel
theorem dX8_listMoves_34 : decode cX8_listMoves 34 = .ok (.iload 5, 2) := by decide +kernel
theorem dX8_listMoves_36 : decode cX8_listMoves 36 = .ok (.iload_n 2, 1) := by decide +kernel
theorem dX8_listMoves_37 : decode cX8_listMoves 37 = .ok (.invokevirtual 60, 3) := by decide +kernel
theorem dX8_listMoves_40 : decode cX8_listMoves 40 = .ok (.istore 6, 2) := by decide +kernel
theorem dX8_listMoves_42 : decode cX8_listMoves 42 = .ok (.iconst 0, 1) := by decide +kernel
theorem dX8_listMoves_43 : decode cX8_listMoves 43 = .ok (.istore 7, 2) := by decide +kernel
theorem dX8_listMoves_45 : decode cX8_listMoves 45 = .ok (.iload 7, 2) := by decide +kernel
theorem dX8_listMoves_47 : decode cX8_listMoves 47 = .ok (.bipush 25, 2) := by decide +kernel
theorem dX8_listMoves_49 : decode cX8_listMoves 49 = .ok (.if_icmp .ge 49, 3) := by decide +kernel
theorem dX8_listMoves_52 : decode cX8_listMoves 52 = .ok (.iload 6, 2) := by decide +kernel
theorem dX8_listMoves_54 : decode cX8_listMoves 54 = .ok (.ifCond .eq 44, 3) := by decide +kernel
theorem dX8_listMoves_57 : decode cX8_listMoves 57 = .ok (.iload 6, 2) := by decide +kernel
theorem dX8_listMoves_59 : decode cX8_listMoves 59 = .ok (.iconst 1, 1) := by decide +kernel
theorem dX8_listMoves_60 : decode cX8_listMoves 60 = .ok (.iand, 1) := by decide +kernel
theorem dX8_listMoves_61 : decode cX8_listMoves 61 = .ok (.ifCond .eq 25, 3) := by decide +kernel
theorem dX8_listMoves_64 : decode cX8_listMoves 64 = .ok (.iload 4, 2) := by decide +kernel
theorem dX8_listMoves_66 : decode cX8_listMoves 66 = .ok (.aload_n 3, 1) := by decide +kernel
theorem dX8_listMoves_67 : decode cX8_listMoves 67 = .ok (.arraylength, 1) := by decide +kernel
theorem dX8_listMoves_68 : decode cX8_listMoves 68 = .ok (.if_icmp .ge 18, 3) := by decide +kernel
theorem dX8_listMoves_71 : decode cX8_listMoves 71 = .ok (.aload_n 3, 1) := by decide +kernel
theorem dX8_listMoves_72 : decode cX8_listMoves 72 = .ok (.iload 4, 2) := by decide +kernel
theorem dX8_listMoves_74 : decode cX8_listMoves 74 = .ok (.iinc 4 1, 3) := by decide +kernel
theorem dX8_listMoves_77 : decode cX8_listMoves 77 = .ok (.bipush 100, 2) := by decide +kernel
theorem dX8_listMoves_79 : decode cX8_listMoves 79 = .ok (.iload 5, 2) := by decide +kernel
theorem dX8_listMoves_81 : decode cX8_listMoves 81 = .ok (.imul, 1) := by decide +kernel
theorem dX8_listMoves_82 : decode cX8_listMoves 82 = .ok (.iload 7, 2) := by decide +kernel
theorem dX8_listMoves_84 : decode cX8_listMoves 84 = .ok (.iadd, 1) := by decide +kernel
theorem dX8_listMoves_85 : decode cX8_listMoves 85 = .ok (.iastore, 1) := by decide +kernel
theorem dX8_listMoves_86 : decode cX8_listMoves 86 = .ok (.iload 6, 2) := by decide +kernel
theorem dX8_listMoves_88 : decode cX8_listMoves 88 = .ok (.iconst 1, 1) := by decide +kernel
theorem dX8_listMoves_89 : decode cX8_listMoves 89 = .ok (.iushr, 1) := by decide +kernel
theorem dX8_listMoves_90 : decode cX8_listMoves 90 = .ok (.istore 6, 2) := by decide +kernel
theorem dX8_listMoves_92 : decode cX8_listMoves 92 = .ok (.iinc 7 1, 3) := by decide +kernel
theorem dX8_listMoves_95 : decode cX8_listMoves 95 = .ok (.goto (-50), 3) := by decide +kernel
theorem dX8_listMoves_98 : decode cX8_listMoves 98 = .ok (.iinc 5 1, 3) := by decide +kernel
theorem dX8_listMoves_101 : decode cX8_listMoves 101 = .ok (.goto (-78), 3) := by decide +kernel
theorem dX8_listMoves_104 : decode cX8_listMoves 104 = .ok (.iload 4, 2) := by decide +kernel
theorem dX8_listMoves_106 : decode cX8_listMoves 106 = .ok (.ireturn, 1) := by decide +kernel
theorem dX8_targets_0 : decode cX8_targets 0 = .ok (.aload_n 0, 1) := by decide +kernel
theorem dX8_targets_1 : decode cX8_targets 1 = .ok (.iload_n 2, 1) := by decide +kernel
theorem dX8_targets_2 : decode cX8_targets 2 = .ok (.invokevirtual 47, 3) := by decide +kernel
theorem dX8_targets_5 : decode cX8_targets 5 = .ok (.istore 4, 2) := by decide +kernel
theorem dX8_targets_7 : decode cX8_targets 7 = .ok (.iload 4, 2) := by decide +kernel
theorem dX8_targets_9 : decode cX8_targets 9 = .ok (.bipush (-4), 2) := by decide +kernel
theorem dX8_targets_11 : decode cX8_targets 11 = .ok (.if_icmp .eq 24, 3) := by decide +kernel
theorem dX8_targets_14 : decode cX8_targets 14 = .ok (.aload_n 0, 1) := by decide +kernel
theorem dX8_targets_15 : decode cX8_targets 15 = .ok (.iload_n 2, 1) := by decide +kernel
theorem dX8_targets_16 : decode cX8_targets 16 = .ok (.invokevirtual 53, 3) := by decide +kernel
theorem dX8_targets_19 : decode cX8_targets 19 = .ok (.iconst 1, 1) := by decide +kernel
theorem dX8_targets_20 : decode cX8_targets 20 = .ok (.if_icmp .lt 15, 3) := by decide +kernel
theorem dX8_targets_23 : decode cX8_targets 23 = .ok (.aload_n 1, 1) := by decide +kernel
theorem dX8_targets_24 : decode cX8_targets 24 = .ok (.iload_n 2, 1) := by decide +kernel
theorem dX8_targets_25 : decode cX8_targets 25 = .ok (.invokevirtual 31, 3) := by decide +kernel
theorem dX8_targets_28 : decode cX8_targets 28 = .ok (.aload_n 0, 1) := by decide +kernel
theorem dX8_targets_29 : decode cX8_targets 29 = .ok (.getfield 21, 3) := by decide +kernel
theorem dX8_targets_32 : decode cX8_targets 32 = .ok (.if_icmp .eq 5, 3) := by decide +kernel
theorem dX8_targets_35 : decode cX8_targets 35 = .ok (.iconst 0, 1) := by decide +kernel
theorem dX8_targets_36 : decode cX8_targets 36 = .ok (.ireturn, 1) := by decide +kernel
theorem dX8_targets_37 : decode cX8_targets 37 = .ok (.aload_n 1, 1) := by decide +kernel
theorem dX8_targets_38 : decode cX8_targets 38 = .ok (.getfield 64, 3) := by decide +kernel
theorem dX8_targets_41 : decode cX8_targets 41 = .ok (.aload_n 0, 1) := by decide +kernel
theorem dX8_targets_42 : decode cX8_targets 42 = .ok (.aload_n 0, 1) := by decide +kernel
theorem dX8_targets_43 : decode cX8_targets 43 = .ok (.getfield 21, 3) := by decide +kernel
theorem dX8_targets_46 : decode cX8_targets 46 = .ok (.invokevirtual 67, 3) := by decide +kernel
theorem dX8_targets_49 : decode cX8_targets 49 = .ok (.ior, 1) := by decide +kernel
theorem dX8_targets_50 : decode cX8_targets 50 = .ok (.iconst (-1), 1) := by decide +kernel
theorem dX8_targets_51 : decode cX8_targets 51 = .ok (.ixor, 1) := by decide +kernel
theorem dX8_targets_52 : decode cX8_targets 52 = .ok (.istore 5, 2) := by decide +kernel
theorem dX8_targets_54 : decode cX8_targets 54 = .ok (.aload_n 1, 1) := by decide +kernel
theorem dX8_targets_55 : decode cX8_targets 55 = .ok (.iload_n 2, 1) := by decide +kernel
theorem dX8_targets_56 : decode cX8_targets 56 = .ok (.invokevirtual 50, 3) := by decide +kernel
theorem dX8_targets_59 : decode cX8_targets 59 = .ok (.lookupswitch 49 #[(2, 25), (3, 37)], 25) := by decide +kernel
theorem dX8_targets_84 : decode cX8_targets 84 = .ok (.iload 5, 2) := by decide +kernel
theorem dX8_targets_86 : decode cX8_targets 86 = .ok (.aload_n 0, 1) := by decide +kernel
theorem dX8_targets_87 : decode cX8_targets 87 = .ok (.aload_n 1, 1) := by decide +kernel
theorem dX8_targets_88 : decode cX8_targets 88 = .ok (.iload 4, 2) := by decide +kernel
theorem dX8_targets_90 : decode cX8_targets 90 = .ok (.iload_n 3, 1) := by decide +kernel
theorem dX8_targets_91 : decode cX8_targets 91 = .ok (.invokevirtual 70, 3) := by decide +kernel
theorem dX8_targets_94 : decode cX8_targets 94 = .ok (.iand, 1) := by decide +kernel
theorem dX8_targets_95 : decode cX8_targets 95 = .ok (.ireturn, 1) := by decide +kernel
theorem dX8_targets_96 : decode cX8_targets 96 = .ok (.iload 5, 2) := by decide +kernel
theorem dX8_targets_98 : decode cX8_targets 98 = .ok (.aload_n 0, 1) := by decide +kernel
theorem dX8_targets_99 : decode cX8_targets 99 = .ok (.aload_n 1, 1) := by decide +kernel
theorem dX8_targets_100 : decode cX8_targets 100 = .ok (.iload 4, 2) := by decide +kernel
theorem dX8_targets_102 : decode cX8_targets 102 = .ok (.iload_n 3, 1) := by decide +kernel
theorem dX8_targets_103 : decode cX8_targets 103 = .ok (.invokevirtual 73, 3) := by decide +kernel
theorem dX8_targets_106 : decode cX8_targets 106 = .ok (.iand, 1) := by decide +kernel
theorem dX8_targets_107 : decode cX8_targets 107 = .ok (.ireturn, 1) := by decide +kernel
theorem dX8_targets_108 : decode cX8_targets 108 = .ok (.iload 5, 2) := by decide +kernel
theorem dX8_targets_110 : decode cX8_targets 110 = .ok (.aload_n 1, 1) := by decide +kernel
theorem dX8_targets_111 : decode cX8_targets 111 = .ok (.iload 4, 2) := by decide +kernel
theorem dX8_targets_113 : decode cX8_targets 113 = .ok (.iload_n 3, 1) := by decide +kernel
theorem dX8_targets_114 : decode cX8_targets 114 = .ok (.invokevirtual 76, 3) := by decide +kernel
theorem dX8_targets_117 : decode cX8_targets 117 = .ok (.invokestatic 41, 3) := by decide +kernel
theorem dX8_targets_120 : decode cX8_targets 120 = .ok (.iand, 1) := by decide +kernel
theorem dX8_targets_121 : decode cX8_targets 121 = .ok (.ireturn, 1) := by decide +kernel
theorem dX8_run_0 : decode cX8_run 0 = .ok (.aload_n 1, 1) := by decide +kernel
theorem dX8_run_1 : decode cX8_run 1 = .ok (.getfield 64, 3) := by decide +kernel
theorem dX8_run_4 : decode cX8_run 4 = .ok (.aload_n 0, 1) := by decide +kernel
theorem dX8_run_5 : decode cX8_run 5 = .ok (.iconst 0, 1) := by decide +kernel
theorem dX8_run_6 : decode cX8_run 6 = .ok (.invokevirtual 67, 3) := by decide +kernel
theorem dX8_run_9 : decode cX8_run 9 = .ok (.ior, 1) := by decide +kernel
theorem dX8_run_10 : decode cX8_run 10 = .ok (.aload_n 0, 1) := by decide +kernel
theorem dX8_run_11 : decode cX8_run 11 = .ok (.iconst 1, 1) := by decide +kernel
theorem dX8_run_12 : decode cX8_run 12 = .ok (.invokevirtual 67, 3) := by decide +kernel
theorem dX8_run_15 : decode cX8_run 15 = .ok (.ior, 1) := by decide +kernel
theorem dX8_run_16 : decode cX8_run 16 = .ok (.istore 4, 2) := by decide +kernel
theorem dX8_run_18 : decode cX8_run 18 = .ok (.iconst 0, 1) := by decide +kernel
theorem dX8_run_19 : decode cX8_run 19 = .ok (.istore 5, 2) := by decide +kernel
theorem dX8_run_21 : decode cX8_run 21 = .ok (.iload_n 2, 1) := by decide +kernel
theorem dX8_run_22 : decode cX8_run 22 = .ok (.istore 6, 2) := by decide +kernel
theorem dX8_run_24 : decode cX8_run 24 = .ok (.iconst 1, 1) := by decide +kernel
theorem dX8_run_25 : decode cX8_run 25 = .ok (.istore 7, 2) := by decide +kernel
theorem dX8_run_27 : decode cX8_run 27 = .ok (.iload 7, 2) := by decide +kernel
theorem dX8_run_29 : decode cX8_run 29 = .ok (.iconst 5, 1) := by decide +kernel
theorem dX8_run_30 : decode cX8_run 30 = .ok (.if_icmp .ge 49, 3) := by decide +kernel
theorem dX8_run_33 : decode cX8_run 33 = .ok (.aload_n 1, 1) := by decide +kernel
theorem dX8_run_34 : decode cX8_run 34 = .ok (.iload 6, 2) := by decide +kernel
theorem dX8_run_36 : decode cX8_run 36 = .ok (.iload_n 3, 1) := by decide +kernel
theorem dX8_run_37 : decode cX8_run 37 = .ok (.invokevirtual 76, 3) := by decide +kernel
theorem dX8_run_40 : decode cX8_run 40 = .ok (.istore 6, 2) := by decide +kernel
theorem dX8_run_42 : decode cX8_run 42 = .ok (.iload 5, 2) := by decide +kernel
theorem dX8_run_44 : decode cX8_run 44 = .ok (.iload 6, 2) := by decide +kernel
theorem dX8_run_46 : decode cX8_run 46 = .ok (.invokestatic 41, 3) := by decide +kernel
theorem dX8_run_49 : decode cX8_run 49 = .ok (.ior, 1) := by decide +kernel
theorem dX8_run_50 : decode cX8_run 50 = .ok (.istore 5, 2) := by decide +kernel
theorem dX8_run_52 : decode cX8_run 52 = .ok (.iload 6, 2) := by decide +kernel
theorem dX8_run_54 : decode cX8_run 54 = .ok (.bipush (-4), 2) := by decide +kernel
theorem dX8_run_56 : decode cX8_run 56 = .ok (.if_icmp .eq 14, 3) := by decide +kernel
theorem dX8_run_59 : decode cX8_run 59 = .ok (.iload 4, 2) := by decide +kernel
theorem dX8_run_61 : decode cX8_run 61 = .ok (.iload 6, 2) := by decide +kernel
theorem dX8_run_63 : decode cX8_run 63 = .ok (.invokestatic 41, 3) := by decide +kernel
theorem dX8_run_66 : decode cX8_run 66 = .ok (.iand, 1) := by decide +kernel
theorem dX8_run_67 : decode cX8_run 67 = .ok (.ifCond .eq 6, 3) := by decide +kernel
theorem dX8_run_70 : decode cX8_run 70 = .ok (.iload 5, 2) := by decide +kernel
theorem dX8_run_72 : decode cX8_run 72 = .ok (.ireturn, 1) := by decide +kernel
theorem dX8_run_73 : decode cX8_run 73 = .ok (.iinc 7 1, 3) := by decide +kernel
theorem dX8_run_76 : decode cX8_run 76 = .ok (.goto (-49), 3) := by decide +kernel
theorem dX8_run_79 : decode cX8_run 79 = .ok (.iload 5, 2) := by decide +kernel
theorem dX8_run_81 : decode cX8_run 81 = .ok (.ireturn, 1) := by decide +kernel
theorem dX8_hop_0 : decode cX8_hop 0 = .ok (.aload_n 1, 1) := by decide +kernel
theorem dX8_hop_1 : decode cX8_hop 1 = .ok (.aload_n 1, 1) := by decide +kernel
theorem dX8_hop_2 : decode cX8_hop 2 = .ok (.iload_n 2, 1) := by decide +kernel
theorem dX8_hop_3 : decode cX8_hop 3 = .ok (.iload_n 3, 1) := by decide +kernel
theorem dX8_hop_4 : decode cX8_hop 4 = .ok (.invokevirtual 76, 3) := by decide +kernel
theorem dX8_hop_7 : decode cX8_hop 7 = .ok (.iload_n 3, 1) := by decide +kernel
theorem dX8_hop_8 : decode cX8_hop 8 = .ok (.invokevirtual 76, 3) := by decide +kernel
theorem dX8_hop_11 : decode cX8_hop 11 = .ok (.istore 4, 2) := by decide +kernel
theorem dX8_hop_13 : decode cX8_hop 13 = .ok (.aload_n 1, 1) := by decide +kernel
theorem dX8_hop_14 : decode cX8_hop 14 = .ok (.iload 4, 2) := by decide +kernel
theorem dX8_hop_16 : decode cX8_hop 16 = .ok (.iload_n 3, 1) := by decide +kernel
theorem dX8_hop_17 : decode cX8_hop 17 = .ok (.iconst 3, 1) := by decide +kernel
theorem dX8_hop_18 : decode cX8_hop 18 = .ok (.iadd, 1) := by decide +kernel
theorem dX8_hop_19 : decode cX8_hop 19 = .ok (.iconst 3, 1) := by decide +kernel
theorem dX8_hop_20 : decode cX8_hop 20 = .ok (.iand, 1) := by decide +kernel
theorem dX8_hop_21 : decode cX8_hop 21 = .ok (.invokevirtual 76, 3) := by decide +kernel
theorem dX8_hop_24 : decode cX8_hop 24 = .ok (.istore 5, 2) := by decide +kernel
theorem dX8_hop_26 : decode cX8_hop 26 = .ok (.aload_n 1, 1) := by decide +kernel
theorem dX8_hop_27 : decode cX8_hop 27 = .ok (.iload 4, 2) := by decide +kernel
theorem dX8_hop_29 : decode cX8_hop 29 = .ok (.iload_n 3, 1) := by decide +kernel
theorem dX8_hop_30 : decode cX8_hop 30 = .ok (.iconst 1, 1) := by decide +kernel
theorem dX8_hop_31 : decode cX8_hop 31 = .ok (.iadd, 1) := by decide +kernel
theorem dX8_hop_32 : decode cX8_hop 32 = .ok (.iconst 3, 1) := by decide +kernel
theorem dX8_hop_33 : decode cX8_hop 33 = .ok (.iand, 1) := by decide +kernel
theorem dX8_hop_34 : decode cX8_hop 34 = .ok (.invokevirtual 76, 3) := by decide +kernel
theorem dX8_hop_37 : decode cX8_hop 37 = .ok (.istore 6, 2) := by decide +kernel
theorem dX8_hop_39 : decode cX8_hop 39 = .ok (.iload 5, 2) := by decide +kernel
theorem dX8_hop_41 : decode cX8_hop 41 = .ok (.invokestatic 41, 3) := by decide +kernel
theorem dX8_hop_44 : decode cX8_hop 44 = .ok (.iload 6, 2) := by decide +kernel
theorem dX8_hop_46 : decode cX8_hop 46 = .ok (.invokestatic 41, 3) := by decide +kernel
theorem dX8_hop_49 : decode cX8_hop 49 = .ok (.ior, 1) := by decide +kernel
theorem dX8_hop_50 : decode cX8_hop 50 = .ok (.ireturn, 1) := by decide +kernel
theorem dX8_play_0 : decode cX8_play 0 = .ok (.iload_n 3, 1) := by decide +kernel
theorem dX8_play_1 : decode cX8_play 1 = .ok (.ifCond .lt 10, 3) := by decide +kernel
theorem dX8_play_4 : decode cX8_play 4 = .ok (.iload_n 3, 1) := by decide +kernel
theorem dX8_play_5 : decode cX8_play 5 = .ok (.bipush 100, 2) := by decide +kernel
theorem dX8_play_7 : decode cX8_play 7 = .ok (.idiv, 1) := by decide +kernel
theorem dX8_play_8 : decode cX8_play 8 = .ok (.goto 5, 3) := by decide +kernel
theorem dX8_play_11 : decode cX8_play 11 = .ok (.bipush (-4), 2) := by decide +kernel
theorem dX8_play_13 : decode cX8_play 13 = .ok (.istore 4, 2) := by decide +kernel
theorem dX8_play_15 : decode cX8_play 15 = .ok (.iload_n 3, 1) := by decide +kernel
theorem dX8_play_16 : decode cX8_play 16 = .ok (.ifCond .lt 15, 3) := by decide +kernel
theorem dX8_play_19 : decode cX8_play 19 = .ok (.aload_n 0, 1) := by decide +kernel
theorem dX8_play_20 : decode cX8_play 20 = .ok (.aload_n 1, 1) := by decide +kernel
theorem dX8_play_21 : decode cX8_play 21 = .ok (.iload_n 3, 1) := by decide +kernel
theorem dX8_play_22 : decode cX8_play 22 = .ok (.bipush 100, 2) := by decide +kernel
theorem dX8_play_24 : decode cX8_play 24 = .ok (.irem, 1) := by decide +kernel
theorem dX8_play_25 : decode cX8_play 25 = .ok (.invokevirtual 80, 3) := by decide +kernel
theorem dX8_play_28 : decode cX8_play 28 = .ok (.goto 5, 3) := by decide +kernel
theorem dX8_play_31 : decode cX8_play 31 = .ok (.bipush (-4), 2) := by decide +kernel
theorem dX8_play_33 : decode cX8_play 33 = .ok (.istore 5, 2) := by decide +kernel
theorem dX8_play_35 : decode cX8_play 35 = .ok (.iload 5, 2) := by decide +kernel
theorem dX8_play_37 : decode cX8_play 37 = .ok (.bipush (-4), 2) := by decide +kernel
theorem dX8_play_39 : decode cX8_play 39 = .ok (.if_icmp .eq 12, 3) := by decide +kernel
theorem dX8_play_42 : decode cX8_play 42 = .ok (.aload_n 0, 1) := by decide +kernel
theorem dX8_play_43 : decode cX8_play 43 = .ok (.aload_n 1, 1) := by decide +kernel
theorem dX8_play_44 : decode cX8_play 44 = .ok (.iload 5, 2) := by decide +kernel
theorem dX8_play_46 : decode cX8_play 46 = .ok (.bipush (-4), 2) := by decide +kernel
theorem dX8_play_48 : decode cX8_play 48 = .ok (.invokevirtual 84, 3) := by decide +kernel
theorem dX8_play_51 : decode cX8_play 51 = .ok (.iload 4, 2) := by decide +kernel
theorem dX8_play_53 : decode cX8_play 53 = .ok (.bipush (-4), 2) := by decide +kernel
theorem dX8_play_55 : decode cX8_play 55 = .ok (.if_icmp .eq 14, 3) := by decide +kernel
theorem dX8_play_58 : decode cX8_play 58 = .ok (.aload_n 0, 1) := by decide +kernel
theorem dX8_play_59 : decode cX8_play 59 = .ok (.aload_n 1, 1) := by decide +kernel
theorem dX8_play_60 : decode cX8_play 60 = .ok (.iload 4, 2) := by decide +kernel
theorem dX8_play_62 : decode cX8_play 62 = .ok (.iload_n 3, 1) := by decide +kernel
theorem dX8_play_63 : decode cX8_play 63 = .ok (.bipush 100, 2) := by decide +kernel
theorem dX8_play_65 : decode cX8_play 65 = .ok (.irem, 1) := by decide +kernel
theorem dX8_play_66 : decode cX8_play 66 = .ok (.invokevirtual 84, 3) := by decide +kernel
theorem dX8_play_69 : decode cX8_play 69 = .ok (.iload_n 2, 1) := by decide +kernel
theorem dX8_play_70 : decode cX8_play 70 = .ok (.iconst 4, 1) := by decide +kernel
theorem dX8_play_71 : decode cX8_play 71 = .ok (.if_icmp .eq 10, 3) := by decide +kernel
theorem dX8_play_74 : decode cX8_play 74 = .ok (.aload_n 0, 1) := by decide +kernel
theorem dX8_play_75 : decode cX8_play 75 = .ok (.aload_n 1, 1) := by decide +kernel
theorem dX8_play_76 : decode cX8_play 76 = .ok (.iload 4, 2) := by decide +kernel
theorem dX8_play_78 : decode cX8_play 78 = .ok (.invokevirtual 88, 3) := by decide +kernel
theorem dX8_play_81 : decode cX8_play 81 = .ok (.aload_n 0, 1) := by decide +kernel
theorem dX8_play_82 : decode cX8_play 82 = .ok (.iconst 1, 1) := by decide +kernel
theorem dX8_play_83 : decode cX8_play 83 = .ok (.aload_n 0, 1) := by decide +kernel
theorem dX8_play_84 : decode cX8_play 84 = .ok (.getfield 21, 3) := by decide +kernel
theorem dX8_play_87 : decode cX8_play 87 = .ok (.isub, 1) := by decide +kernel
theorem dX8_play_88 : decode cX8_play 88 = .ok (.putfield 21, 3) := by decide +kernel
theorem dX8_play_91 : decode cX8_play 91 = .ok (.iload 5, 2) := by decide +kernel
theorem dX8_play_93 : decode cX8_play 93 = .ok (.ireturn, 1) := by decide +kernel
theorem dX8_burn_0 : decode cX8_burn 0 = .ok (.iconst 0, 1) := by decide +kernel
theorem dX8_burn_1 : decode cX8_burn 1 = .ok (.istore_n 3, 1) := by decide +kernel
theorem dX8_burn_2 : decode cX8_burn 2 = .ok (.iload_n 3, 1) := by decide +kernel
theorem dX8_burn_3 : decode cX8_burn 3 = .ok (.aload_n 1, 1) := by decide +kernel
theorem dX8_burn_4 : decode cX8_burn 4 = .ok (.getfield 44, 3) := by decide +kernel
theorem dX8_burn_7 : decode cX8_burn 7 = .ok (.if_icmp .ge 68, 3) := by decide +kernel
theorem dX8_burn_10 : decode cX8_burn 10 = .ok (.iload_n 3, 1) := by decide +kernel
theorem dX8_burn_11 : decode cX8_burn 11 = .ok (.iload_n 2, 1) := by decide +kernel
theorem dX8_burn_12 : decode cX8_burn 12 = .ok (.if_icmp .eq 29, 3) := by decide +kernel
theorem dX8_burn_15 : decode cX8_burn 15 = .ok (.aload_n 1, 1) := by decide +kernel
theorem dX8_burn_16 : decode cX8_burn 16 = .ok (.iload_n 3, 1) := by decide +kernel
theorem dX8_burn_17 : decode cX8_burn 17 = .ok (.invokevirtual 31, 3) := by decide +kernel
theorem dX8_burn_20 : decode cX8_burn 20 = .ok (.aload_n 0, 1) := by decide +kernel
theorem dX8_burn_21 : decode cX8_burn 21 = .ok (.getfield 21, 3) := by decide +kernel
theorem dX8_burn_24 : decode cX8_burn 24 = .ok (.if_icmp .ne 17, 3) := by decide +kernel
theorem dX8_burn_27 : decode cX8_burn 27 = .ok (.aload_n 0, 1) := by decide +kernel
theorem dX8_burn_28 : decode cX8_burn 28 = .ok (.iload_n 3, 1) := by decide +kernel
theorem dX8_burn_29 : decode cX8_burn 29 = .ok (.invokevirtual 47, 3) := by decide +kernel
theorem dX8_burn_32 : decode cX8_burn 32 = .ok (.bipush (-4), 2) := by decide +kernel
theorem dX8_burn_34 : decode cX8_burn 34 = .ok (.if_icmp .eq 7, 3) := by decide +kernel
theorem dX8_burn_37 : decode cX8_burn 37 = .ok (.iconst 1, 1) := by decide +kernel
theorem dX8_burn_38 : decode cX8_burn 38 = .ok (.goto 4, 3) := by decide +kernel
theorem dX8_burn_41 : decode cX8_burn 41 = .ok (.iconst 0, 1) := by decide +kernel
theorem dX8_burn_42 : decode cX8_burn 42 = .ok (.istore 4, 2) := by decide +kernel
theorem dX8_burn_44 : decode cX8_burn 44 = .ok (.iload 4, 2) := by decide +kernel
theorem dX8_burn_46 : decode cX8_burn 46 = .ok (.ifCond .eq 23, 3) := by decide +kernel
theorem dX8_burn_49 : decode cX8_burn 49 = .ok (.aload_n 0, 1) := by decide +kernel
theorem dX8_burn_50 : decode cX8_burn 50 = .ok (.iload_n 3, 1) := by decide +kernel
theorem dX8_burn_51 : decode cX8_burn 51 = .ok (.invokevirtual 53, 3) := by decide +kernel
theorem dX8_burn_54 : decode cX8_burn 54 = .ok (.ifCond .le 15, 3) := by decide +kernel
theorem dX8_burn_57 : decode cX8_burn 57 = .ok (.aload_n 0, 1) := by decide +kernel
theorem dX8_burn_58 : decode cX8_burn 58 = .ok (.iload_n 3, 1) := by decide +kernel
theorem dX8_burn_59 : decode cX8_burn 59 = .ok (.aload_n 0, 1) := by decide +kernel
theorem dX8_burn_60 : decode cX8_burn 60 = .ok (.iload_n 3, 1) := by decide +kernel
theorem dX8_burn_61 : decode cX8_burn 61 = .ok (.invokevirtual 53, 3) := by decide +kernel
theorem dX8_burn_64 : decode cX8_burn 64 = .ok (.iconst 1, 1) := by decide +kernel
theorem dX8_burn_65 : decode cX8_burn 65 = .ok (.isub, 1) := by decide +kernel
theorem dX8_burn_66 : decode cX8_burn 66 = .ok (.invokevirtual 92, 3) := by decide +kernel
theorem dX8_burn_69 : decode cX8_burn 69 = .ok (.iinc 3 1, 3) := by decide +kernel
theorem dX8_burn_72 : decode cX8_burn 72 = .ok (.goto (-70), 3) := by decide +kernel
theorem dX8_burn_75 : decode cX8_burn 75 = .ok (.return_, 1) := by decide +kernel
theorem dX9_init_0 : decode cX9_init 0 = .ok (.aload_n 0, 1) := by decide +kernel
theorem dX9_init_1 : decode cX9_init 1 = .ok (.invokespecial 3, 3) := by decide +kernel
theorem dX9_init_4 : decode cX9_init 4 = .ok (.aload_n 0, 1) := by decide +kernel
theorem dX9_init_5 : decode cX9_init 5 = .ok (.new 9, 3) := by decide +kernel
theorem dX9_init_8 : decode cX9_init 8 = .ok (.dup, 1) := by decide +kernel
theorem dX9_init_9 : decode cX9_init 9 = .ok (.invokespecial 11, 3) := by decide +kernel
theorem dX9_init_12 : decode cX9_init 12 = .ok (.putfield 12, 3) := by decide +kernel
theorem dX9_init_15 : decode cX9_init 15 = .ok (.aload_n 0, 1) := by decide +kernel
theorem dX9_init_16 : decode cX9_init 16 = .ok (.bipush 24, 2) := by decide +kernel
theorem dX9_init_18 : decode cX9_init 18 = .ok (.newarray .int, 2) := by decide +kernel
theorem dX9_init_20 : decode cX9_init 20 = .ok (.putfield 18, 3) := by decide +kernel
theorem dX9_init_23 : decode cX9_init 23 = .ok (.aload_n 0, 1) := by decide +kernel
theorem dX9_init_24 : decode cX9_init 24 = .ok (.aload_n 1, 1) := by decide +kernel
theorem dX9_init_25 : decode cX9_init 25 = .ok (.putfield 22, 3) := by decide +kernel
theorem dX9_init_28 : decode cX9_init 28 = .ok (.return_, 1) := by decide +kernel
theorem dX9_moveAt_0 : decode cX9_moveAt 0 = .ok (.iload_n 1, 1) := by decide +kernel
theorem dX9_moveAt_1 : decode cX9_moveAt 1 = .ok (.ifCond .lt 21, 3) := by decide +kernel
theorem dX9_moveAt_4 : decode cX9_moveAt 4 = .ok (.iload_n 1, 1) := by decide +kernel
theorem dX9_moveAt_5 : decode cX9_moveAt 5 = .ok (.aload_n 0, 1) := by decide +kernel
theorem dX9_moveAt_6 : decode cX9_moveAt 6 = .ok (.getfield 18, 3) := by decide +kernel
theorem dX9_moveAt_9 : decode cX9_moveAt 9 = .ok (.arraylength, 1) := by decide +kernel
theorem dX9_moveAt_10 : decode cX9_moveAt 10 = .ok (.if_icmp .ge 12, 3) := by decide +kernel
theorem dX9_moveAt_13 : decode cX9_moveAt 13 = .ok (.aload_n 0, 1) := by decide +kernel
theorem dX9_moveAt_14 : decode cX9_moveAt 14 = .ok (.getfield 18, 3) := by decide +kernel
theorem dX9_moveAt_17 : decode cX9_moveAt 17 = .ok (.iload_n 1, 1) := by decide +kernel
theorem dX9_moveAt_18 : decode cX9_moveAt 18 = .ok (.iaload, 1) := by decide +kernel
theorem dX9_moveAt_19 : decode cX9_moveAt 19 = .ok (.goto 5, 3) := by decide +kernel
theorem dX9_moveAt_22 : decode cX9_moveAt 22 = .ok (.bipush (-4), 2) := by decide +kernel
theorem dX9_moveAt_24 : decode cX9_moveAt 24 = .ok (.ireturn, 1) := by decide +kernel
theorem dX9_chooseKing_0 : decode cX9_chooseKing 0 = .ok (.aload_n 0, 1) := by decide +kernel
theorem dX9_chooseKing_1 : decode cX9_chooseKing 1 = .ok (.getfield 12, 3) := by decide +kernel
theorem dX9_chooseKing_4 : decode cX9_chooseKing 4 = .ok (.aload_n 0, 1) := by decide +kernel
theorem dX9_chooseKing_5 : decode cX9_chooseKing 5 = .ok (.getfield 12, 3) := by decide +kernel
theorem dX9_chooseKing_8 : decode cX9_chooseKing 8 = .ok (.aload_n 1, 1) := by decide +kernel
theorem dX9_chooseKing_9 : decode cX9_chooseKing 9 = .ok (.iconst 1, 1) := by decide +kernel
theorem dX9_chooseKing_10 : decode cX9_chooseKing 10 = .ok (.aload_n 0, 1) := by decide +kernel
theorem dX9_chooseKing_11 : decode cX9_chooseKing 11 = .ok (.getfield 12, 3) := by decide +kernel
theorem dX9_chooseKing_14 : decode cX9_chooseKing 14 = .ok (.getfield 26, 3) := by decide +kernel
theorem dX9_chooseKing_17 : decode cX9_chooseKing 17 = .ok (.isub, 1) := by decide +kernel
theorem dX9_chooseKing_18 : decode cX9_chooseKing 18 = .ok (.invokevirtual 30, 3) := by decide +kernel
theorem dX9_chooseKing_21 : decode cX9_chooseKing 21 = .ok (.invokevirtual 34, 3) := by decide +kernel
theorem dX9_chooseKing_24 : decode cX9_chooseKing 24 = .ok (.istore_n 3, 1) := by decide +kernel
theorem dX9_chooseKing_25 : decode cX9_chooseKing 25 = .ok (.iconst 0, 1) := by decide +kernel
theorem dX9_chooseKing_26 : decode cX9_chooseKing 26 = .ok (.istore 4, 2) := by decide +kernel
theorem dX9_chooseKing_28 : decode cX9_chooseKing 28 = .ok (.iload 4, 2) := by decide +kernel
theorem dX9_chooseKing_30 : decode cX9_chooseKing 30 = .ok (.iload_n 2, 1) := by decide +kernel
theorem dX9_chooseKing_31 : decode cX9_chooseKing 31 = .ok (.if_icmp .ge 44, 3) := by decide +kernel
theorem dX9_chooseKing_34 : decode cX9_chooseKing 34 = .ok (.iload 4, 2) := by decide +kernel
theorem dX9_chooseKing_36 : decode cX9_chooseKing 36 = .ok (.aload_n 0, 1) := by decide +kernel
theorem dX9_chooseKing_37 : decode cX9_chooseKing 37 = .ok (.getfield 18, 3) := by decide +kernel
theorem dX9_chooseKing_40 : decode cX9_chooseKing 40 = .ok (.arraylength, 1) := by decide +kernel
theorem dX9_chooseKing_41 : decode cX9_chooseKing 41 = .ok (.if_icmp .ge 34, 3) := by decide +kernel
theorem dX9_chooseKing_44 : decode cX9_chooseKing 44 = .ok (.aload_n 0, 1) := by decide +kernel
theorem dX9_chooseKing_45 : decode cX9_chooseKing 45 = .ok (.getfield 18, 3) := by decide +kernel
theorem dX9_chooseKing_48 : decode cX9_chooseKing 48 = .ok (.iload 4, 2) := by decide +kernel
theorem dX9_chooseKing_50 : decode cX9_chooseKing 50 = .ok (.iaload, 1) := by decide +kernel
theorem dX9_chooseKing_51 : decode cX9_chooseKing 51 = .ok (.bipush 100, 2) := by decide +kernel
theorem dX9_chooseKing_53 : decode cX9_chooseKing 53 = .ok (.irem, 1) := by decide +kernel
theorem dX9_chooseKing_54 : decode cX9_chooseKing 54 = .ok (.iload_n 3, 1) := by decide +kernel
theorem dX9_chooseKing_55 : decode cX9_chooseKing 55 = .ok (.if_icmp .eq 6, 3) := by decide +kernel
theorem dX9_chooseKing_58 : decode cX9_chooseKing 58 = .ok (.goto 11, 3) := by decide +kernel
theorem dX9_chooseKing_61 : decode cX9_chooseKing 61 = .ok (.aload_n 0, 1) := by decide +kernel
theorem dX9_chooseKing_62 : decode cX9_chooseKing 62 = .ok (.iload 4, 2) := by decide +kernel
theorem dX9_chooseKing_64 : decode cX9_chooseKing 64 = .ok (.putfield 38, 3) := by decide +kernel
theorem dX9_chooseKing_67 : decode cX9_chooseKing 67 = .ok (.iconst 1, 1) := by decide +kernel
theorem dX9_chooseKing_68 : decode cX9_chooseKing 68 = .ok (.ireturn, 1) := by decide +kernel
theorem dX9_chooseKing_69 : decode cX9_chooseKing 69 = .ok (.iinc 4 1, 3) := by decide +kernel
theorem dX9_chooseKing_72 : decode cX9_chooseKing 72 = .ok (.goto (-44), 3) := by decide +kernel
theorem dX9_chooseKing_75 : decode cX9_chooseKing 75 = .ok (.iconst 0, 1) := by decide +kernel
theorem dX9_chooseKing_76 : decode cX9_chooseKing 76 = .ok (.ireturn, 1) := by decide +kernel
theorem dX9_tread_0 : decode cX9_tread 0 = .ok (.aload_n 0, 1) := by decide +kernel
theorem dX9_tread_1 : decode cX9_tread 1 = .ok (.getfield 22, 3) := by decide +kernel
theorem dX9_tread_4 : decode cX9_tread 4 = .ok (.ifnonnull 4, 3) := by decide +kernel
theorem dX9_tread_7 : decode cX9_tread 7 = .ok (.return_, 1) := by decide +kernel
theorem dX9_tread_8 : decode cX9_tread 8 = .ok (.aload_n 0, 1) := by decide +kernel
theorem dX9_tread_9 : decode cX9_tread 9 = .ok (.getfield 22, 3) := by decide +kernel
theorem dX9_tread_12 : decode cX9_tread 12 = .ok (.getfield 12, 3) := by decide +kernel
theorem dX9_tread_15 : decode cX9_tread 15 = .ok (.aload_n 0, 1) := by decide +kernel
theorem dX9_tread_16 : decode cX9_tread 16 = .ok (.getfield 12, 3) := by decide +kernel
theorem dX9_tread_19 : decode cX9_tread 19 = .ok (.invokevirtual 41, 3) := by decide +kernel
theorem dX9_tread_22 : decode cX9_tread 22 = .ok (.aload_n 0, 1) := by decide +kernel
theorem dX9_tread_23 : decode cX9_tread 23 = .ok (.getfield 22, 3) := by decide +kernel
theorem dX9_tread_26 : decode cX9_tread 26 = .ok (.getfield 12, 3) := by decide +kernel
theorem dX9_tread_29 : decode cX9_tread 29 = .ok (.aload_n 1, 1) := by decide +kernel
theorem dX9_tread_30 : decode cX9_tread 30 = .ok (.iload_n 2, 1) := by decide +kernel
theorem dX9_tread_31 : decode cX9_tread 31 = .ok (.iload_n 3, 1) := by decide +kernel
theorem dX9_tread_32 : decode cX9_tread 32 = .ok (.invokevirtual 45, 3) := by decide +kernel
theorem dX9_tread_35 : decode cX9_tread 35 = .ok (.pop, 1) := by decide +kernel
theorem dX9_tread_36 : decode cX9_tread 36 = .ok (.return_, 1) := by decide +kernel
theorem dX10_init_0 : decode cX10_init 0 = .ok (.aload_n 0, 1) := by decide +kernel
theorem dX10_init_1 : decode cX10_init 1 = .ok (.invokespecial 3, 3) := by decide +kernel
theorem dX10_init_4 : decode cX10_init 4 = .ok (.aload_n 0, 1) := by decide +kernel
theorem dX10_init_5 : decode cX10_init 5 = .ok (.sipush 320, 3) := by decide +kernel
theorem dX10_init_8 : decode cX10_init 8 = .ok (.newarray .byte, 2) := by decide +kernel
theorem dX10_init_10 : decode cX10_init 10 = .ok (.putfield 9, 3) := by decide +kernel
theorem dX10_init_13 : decode cX10_init 13 = .ok (.aload_n 0, 1) := by decide +kernel
theorem dX10_init_14 : decode cX10_init 14 = .ok (.new 15, 3) := by decide +kernel
theorem dX10_init_17 : decode cX10_init 17 = .ok (.dup, 1) := by decide +kernel
theorem dX10_init_18 : decode cX10_init 18 = .ok (.invokespecial 17, 3) := by decide +kernel
theorem dX10_init_21 : decode cX10_init 21 = .ok (.putfield 18, 3) := by decide +kernel
theorem dX10_init_24 : decode cX10_init 24 = .ok (.return_, 1) := by decide +kernel
theorem dX10_append_0 : decode cX10_append 0 = .ok (.aload_n 0, 1) := by decide +kernel
theorem dX10_append_1 : decode cX10_append 1 = .ok (.getfield 22, 3) := by decide +kernel
theorem dX10_append_4 : decode cX10_append 4 = .ok (.ifCond .lt 16, 3) := by decide +kernel
theorem dX10_append_7 : decode cX10_append 7 = .ok (.aload_n 0, 1) := by decide +kernel
theorem dX10_append_8 : decode cX10_append 8 = .ok (.getfield 22, 3) := by decide +kernel
theorem dX10_append_11 : decode cX10_append 11 = .ok (.bipush 8, 2) := by decide +kernel
theorem dX10_append_13 : decode cX10_append 13 = .ok (.iadd, 1) := by decide +kernel
theorem dX10_append_14 : decode cX10_append 14 = .ok (.sipush 320, 3) := by decide +kernel
theorem dX10_append_17 : decode cX10_append 17 = .ok (.if_icmp .le 5, 3) := by decide +kernel
theorem dX10_append_20 : decode cX10_append 20 = .ok (.iconst 0, 1) := by decide +kernel
theorem dX10_append_21 : decode cX10_append 21 = .ok (.ireturn, 1) := by decide +kernel
theorem dX10_append_22 : decode cX10_append 22 = .ok (.iconst 0, 1) := by decide +kernel
theorem dX10_append_23 : decode cX10_append 23 = .ok (.istore_n 3, 1) := by decide +kernel
theorem dX10_append_24 : decode cX10_append 24 = .ok (.iload_n 3, 1) := by decide +kernel
theorem dX10_append_25 : decode cX10_append 25 = .ok (.bipush 8, 2) := by decide +kernel
theorem dX10_append_27 : decode cX10_append 27 = .ok (.if_icmp .ge 31, 3) := by decide +kernel
theorem dX10_append_30 : decode cX10_append 30 = .ok (.aload_n 0, 1) := by decide +kernel
theorem dX10_append_31 : decode cX10_append 31 = .ok (.getfield 9, 3) := by decide +kernel
theorem dX10_append_34 : decode cX10_append 34 = .ok (.aload_n 0, 1) := by decide +kernel
theorem dX10_append_35 : decode cX10_append 35 = .ok (.getfield 22, 3) := by decide +kernel
theorem dX10_append_38 : decode cX10_append 38 = .ok (.iload_n 3, 1) := by decide +kernel
theorem dX10_append_39 : decode cX10_append 39 = .ok (.iadd, 1) := by decide +kernel
theorem dX10_append_40 : decode cX10_append 40 = .ok (.lload_n 1, 1) := by decide +kernel
theorem dX10_append_41 : decode cX10_append 41 = .ok (.bipush 56, 2) := by decide +kernel
theorem dX10_append_43 : decode cX10_append 43 = .ok (.bipush 8, 2) := by decide +kernel
theorem dX10_append_45 : decode cX10_append 45 = .ok (.iload_n 3, 1) := by decide +kernel
theorem dX10_append_46 : decode cX10_append 46 = .ok (.imul, 1) := by decide +kernel
theorem dX10_append_47 : decode cX10_append 47 = .ok (.isub, 1) := by decide +kernel
theorem dX10_append_48 : decode cX10_append 48 = .ok (.lushr, 1) := by decide +kernel
theorem dX10_append_49 : decode cX10_append 49 = .ok (.l2i, 1) := by decide +kernel
theorem dX10_append_50 : decode cX10_append 50 = .ok (.i2b, 1) := by decide +kernel
theorem dX10_append_51 : decode cX10_append 51 = .ok (.bastore, 1) := by decide +kernel
theorem dX10_append_52 : decode cX10_append 52 = .ok (.iinc 3 1, 3) := by decide +kernel
theorem dX10_append_55 : decode cX10_append 55 = .ok (.goto (-31), 3) := by decide +kernel
theorem dX10_append_58 : decode cX10_append 58 = .ok (.aload_n 0, 1) := by decide +kernel
theorem dX10_append_59 : decode cX10_append 59 = .ok (.dup, 1) := by decide +kernel
theorem dX10_append_60 : decode cX10_append 60 = .ok (.getfield 22, 3) := by decide +kernel
theorem dX10_append_63 : decode cX10_append 63 = .ok (.bipush 8, 2) := by decide +kernel
theorem dX10_append_65 : decode cX10_append 65 = .ok (.iadd, 1) := by decide +kernel
theorem dX10_append_66 : decode cX10_append 66 = .ok (.putfield 22, 3) := by decide +kernel
theorem dX10_append_69 : decode cX10_append 69 = .ok (.iconst 1, 1) := by decide +kernel
theorem dX10_append_70 : decode cX10_append 70 = .ok (.ireturn, 1) := by decide +kernel
theorem dX10_tellAll_0 : decode cX10_tellAll 0 = .ok (.aload_n 0, 1) := by decide +kernel
theorem dX10_tellAll_1 : decode cX10_tellAll 1 = .ok (.getfield 18, 3) := by decide +kernel
theorem dX10_tellAll_4 : decode cX10_tellAll 4 = .ok (.invokevirtual 26, 3) := by decide +kernel
theorem dX10_tellAll_7 : decode cX10_tellAll 7 = .ok (.aload_n 0, 1) := by decide +kernel
theorem dX10_tellAll_8 : decode cX10_tellAll 8 = .ok (.iconst 0, 1) := by decide +kernel
theorem dX10_tellAll_9 : decode cX10_tellAll 9 = .ok (.putfield 29, 3) := by decide +kernel
theorem dX10_tellAll_12 : decode cX10_tellAll 12 = .ok (.aload_n 0, 1) := by decide +kernel
theorem dX10_tellAll_13 : decode cX10_tellAll 13 = .ok (.iconst 0, 1) := by decide +kernel
theorem dX10_tellAll_14 : decode cX10_tellAll 14 = .ok (.putfield 32, 3) := by decide +kernel
theorem dX10_tellAll_17 : decode cX10_tellAll 17 = .ok (.aload_n 0, 1) := by decide +kernel
theorem dX10_tellAll_18 : decode cX10_tellAll 18 = .ok (.iconst 0, 1) := by decide +kernel
theorem dX10_tellAll_19 : decode cX10_tellAll 19 = .ok (.putfield 35, 3) := by decide +kernel
theorem dX10_tellAll_22 : decode cX10_tellAll 22 = .ok (.aload_n 0, 1) := by decide +kernel
theorem dX10_tellAll_23 : decode cX10_tellAll 23 = .ok (.iconst 0, 1) := by decide +kernel
theorem dX10_tellAll_24 : decode cX10_tellAll 24 = .ok (.putfield 38, 3) := by decide +kernel
theorem dX10_tellAll_27 : decode cX10_tellAll 27 = .ok (.aload_n 0, 1) := by decide +kernel
theorem dX10_tellAll_28 : decode cX10_tellAll 28 = .ok (.iconst 0, 1) := by decide +kernel
theorem dX10_tellAll_29 : decode cX10_tellAll 29 = .ok (.putfield 41, 3) := by decide +kernel
theorem dX10_tellAll_32 : decode cX10_tellAll 32 = .ok (.aload_n 0, 1) := by decide +kernel
theorem dX10_tellAll_33 : decode cX10_tellAll 33 = .ok (.iconst 0, 1) := by decide +kernel
theorem dX10_tellAll_34 : decode cX10_tellAll 34 = .ok (.putfield 45, 3) := by decide +kernel
theorem dX10_tellAll_37 : decode cX10_tellAll 37 = .ok (.aload_n 0, 1) := by decide +kernel
theorem dX10_tellAll_38 : decode cX10_tellAll 38 = .ok (.iconst 0, 1) := by decide +kernel
theorem dX10_tellAll_39 : decode cX10_tellAll 39 = .ok (.putfield 48, 3) := by decide +kernel
theorem dX10_tellAll_42 : decode cX10_tellAll 42 = .ok (.iconst 0, 1) := by decide +kernel
theorem dX10_tellAll_43 : decode cX10_tellAll 43 = .ok (.istore_n 1, 1) := by decide +kernel
theorem dX10_tellAll_44 : decode cX10_tellAll 44 = .ok (.iload_n 1, 1) := by decide +kernel
theorem dX10_tellAll_45 : decode cX10_tellAll 45 = .ok (.aload_n 0, 1) := by decide +kernel
theorem dX10_tellAll_46 : decode cX10_tellAll 46 = .ok (.getfield 22, 3) := by decide +kernel
theorem dX10_tellAll_49 : decode cX10_tellAll 49 = .ok (.if_icmp .gt 50, 3) := by decide +kernel
theorem dX10_tellAll_52 : decode cX10_tellAll 52 = .ok (.aload_n 0, 1) := by decide +kernel
theorem dX10_tellAll_53 : decode cX10_tellAll 53 = .ok (.invokevirtual 51, 3) := by decide +kernel
theorem dX10_tellAll_56 : decode cX10_tellAll 56 = .ok (.ifCond .ne 5, 3) := by decide +kernel
theorem dX10_tellAll_59 : decode cX10_tellAll 59 = .ok (.iconst 0, 1) := by decide +kernel
theorem dX10_tellAll_60 : decode cX10_tellAll 60 = .ok (.ireturn, 1) := by decide +kernel
theorem dX10_tellAll_61 : decode cX10_tellAll 61 = .ok (.aload_n 0, 1) := by decide +kernel
theorem dX10_tellAll_62 : decode cX10_tellAll 62 = .ok (.getfield 55, 3) := by decide +kernel
theorem dX10_tellAll_65 : decode cX10_tellAll 65 = .ok (.iconst 4, 1) := by decide +kernel
theorem dX10_tellAll_66 : decode cX10_tellAll 66 = .ok (.if_icmp .ne 8, 3) := by decide +kernel
theorem dX10_tellAll_69 : decode cX10_tellAll 69 = .ok (.aload_n 0, 1) := by decide +kernel
theorem dX10_tellAll_70 : decode cX10_tellAll 70 = .ok (.invokevirtual 58, 3) := by decide +kernel
theorem dX10_tellAll_73 : decode cX10_tellAll 73 = .ok (.ireturn, 1) := by decide +kernel
theorem dX10_tellAll_74 : decode cX10_tellAll 74 = .ok (.aload_n 0, 1) := by decide +kernel
theorem dX10_tellAll_75 : decode cX10_tellAll 75 = .ok (.invokevirtual 61, 3) := by decide +kernel
theorem dX10_tellAll_78 : decode cX10_tellAll 78 = .ok (.ifCond .ne 5, 3) := by decide +kernel
theorem dX10_tellAll_81 : decode cX10_tellAll 81 = .ok (.iconst 0, 1) := by decide +kernel
theorem dX10_tellAll_82 : decode cX10_tellAll 82 = .ok (.ireturn, 1) := by decide +kernel
theorem dX10_tellAll_83 : decode cX10_tellAll 83 = .ok (.aload_n 0, 1) := by decide +kernel
theorem dX10_tellAll_84 : decode cX10_tellAll 84 = .ok (.dup, 1) := by decide +kernel
theorem dX10_tellAll_85 : decode cX10_tellAll 85 = .ok (.getfield 32, 3) := by decide +kernel
theorem dX10_tellAll_88 : decode cX10_tellAll 88 = .ok (.iconst 1, 1) := by decide +kernel
theorem dX10_tellAll_89 : decode cX10_tellAll 89 = .ok (.iadd, 1) := by decide +kernel
theorem dX10_tellAll_90 : decode cX10_tellAll 90 = .ok (.putfield 32, 3) := by decide +kernel
theorem dX10_tellAll_93 : decode cX10_tellAll 93 = .ok (.iinc 1 1, 3) := by decide +kernel
theorem dX10_tellAll_96 : decode cX10_tellAll 96 = .ok (.goto (-52), 3) := by decide +kernel
theorem dX10_tellAll_99 : decode cX10_tellAll 99 = .ok (.iconst 0, 1) := by decide +kernel
theorem dX10_tellAll_100 : decode cX10_tellAll 100 = .ok (.ireturn, 1) := by decide +kernel
theorem dX10_fail_0 : decode cX10_fail 0 = .ok (.aload_n 0, 1) := by decide +kernel
theorem dX10_fail_1 : decode cX10_fail 1 = .ok (.iload_n 1, 1) := by decide +kernel
theorem dX10_fail_2 : decode cX10_fail 2 = .ok (.putfield 35, 3) := by decide +kernel
theorem dX10_fail_5 : decode cX10_fail 5 = .ok (.aload_n 0, 1) := by decide +kernel
theorem dX10_fail_6 : decode cX10_fail 6 = .ok (.iload_n 2, 1) := by decide +kernel
theorem dX10_fail_7 : decode cX10_fail 7 = .ok (.putfield 38, 3) := by decide +kernel
theorem dX10_fail_10 : decode cX10_fail 10 = .ok (.iconst 0, 1) := by decide +kernel
theorem dX10_fail_11 : decode cX10_fail 11 = .ok (.ireturn, 1) := by decide +kernel
theorem dX10_readLine_0 : decode cX10_readLine 0 = .ok (.aload_n 0, 1) := by decide +kernel
theorem dX10_readLine_1 : decode cX10_readLine 1 = .ok (.ldc 64, 2) := by decide +kernel
theorem dX10_readLine_3 : decode cX10_readLine 3 = .ok (.invokevirtual 66, 3) := by decide +kernel
theorem dX10_readLine_6 : decode cX10_readLine 6 = .ok (.ifCond .eq 8, 3) := by decide +kernel
theorem dX10_readLine_9 : decode cX10_readLine 9 = .ok (.aload_n 0, 1) := by decide +kernel
theorem dX10_readLine_10 : decode cX10_readLine 10 = .ok (.invokevirtual 70, 3) := by decide +kernel
theorem dX10_readLine_13 : decode cX10_readLine 13 = .ok (.ireturn, 1) := by decide +kernel
theorem dX10_readLine_14 : decode cX10_readLine 14 = .ok (.aload_n 0, 1) := by decide +kernel
theorem dX10_readLine_15 : decode cX10_readLine 15 = .ok (.ldc 73, 2) := by decide +kernel
theorem dX10_readLine_17 : decode cX10_readLine 17 = .ok (.invokevirtual 66, 3) := by decide +kernel
theorem dX10_readLine_20 : decode cX10_readLine 20 = .ok (.ifCond .eq 8, 3) := by decide +kernel
theorem dX10_readLine_23 : decode cX10_readLine 23 = .ok (.aload_n 0, 1) := by decide +kernel
theorem dX10_readLine_24 : decode cX10_readLine 24 = .ok (.invokevirtual 75, 3) := by decide +kernel
theorem dX10_readLine_27 : decode cX10_readLine 27 = .ok (.ireturn, 1) := by decide +kernel
theorem dX10_readLine_28 : decode cX10_readLine 28 = .ok (.aload_n 0, 1) := by decide +kernel
theorem dX10_readLine_29 : decode cX10_readLine 29 = .ok (.ldc 78, 2) := by decide +kernel
theorem dX10_readLine_31 : decode cX10_readLine 31 = .ok (.invokevirtual 66, 3) := by decide +kernel
theorem dX10_readLine_34 : decode cX10_readLine 34 = .ok (.ifCond .eq 8, 3) := by decide +kernel
theorem dX10_readLine_37 : decode cX10_readLine 37 = .ok (.aload_n 0, 1) := by decide +kernel
theorem dX10_readLine_38 : decode cX10_readLine 38 = .ok (.invokevirtual 80, 3) := by decide +kernel
theorem dX10_readLine_41 : decode cX10_readLine 41 = .ok (.ireturn, 1) := by decide +kernel
theorem dX10_readLine_42 : decode cX10_readLine 42 = .ok (.aload_n 0, 1) := by decide +kernel
theorem dX10_readLine_43 : decode cX10_readLine 43 = .ok (.ldc 83, 2) := by decide +kernel
theorem dX10_readLine_45 : decode cX10_readLine 45 = .ok (.invokevirtual 66, 3) := by decide +kernel
theorem dX10_readLine_48 : decode cX10_readLine 48 = .ok (.ifCond .eq 8, 3) := by decide +kernel
theorem dX10_readLine_51 : decode cX10_readLine 51 = .ok (.aload_n 0, 1) := by decide +kernel
theorem dX10_readLine_52 : decode cX10_readLine 52 = .ok (.invokevirtual 85, 3) := by decide +kernel
theorem dX10_readLine_55 : decode cX10_readLine 55 = .ok (.ireturn, 1) := by decide +kernel
theorem dX10_readLine_56 : decode cX10_readLine 56 = .ok (.aload_n 0, 1) := by decide +kernel
theorem dX10_readLine_57 : decode cX10_readLine 57 = .ok (.ldc 88, 2) := by decide +kernel
theorem dX10_readLine_59 : decode cX10_readLine 59 = .ok (.invokevirtual 66, 3) := by decide +kernel
theorem dX10_readLine_62 : decode cX10_readLine 62 = .ok (.ifCond .eq 8, 3) := by decide +kernel
theorem dX10_readLine_65 : decode cX10_readLine 65 = .ok (.aload_n 0, 1) := by decide +kernel
theorem dX10_readLine_66 : decode cX10_readLine 66 = .ok (.invokevirtual 90, 3) := by decide +kernel
theorem dX10_readLine_69 : decode cX10_readLine 69 = .ok (.ireturn, 1) := by decide +kernel
theorem dX10_readLine_70 : decode cX10_readLine 70 = .ok (.aload_n 0, 1) := by decide +kernel
theorem dX10_readLine_71 : decode cX10_readLine 71 = .ok (.iconst 2, 1) := by decide +kernel
theorem dX10_readLine_72 : decode cX10_readLine 72 = .ok (.aload_n 0, 1) := by decide +kernel
theorem dX10_readLine_73 : decode cX10_readLine 73 = .ok (.getfield 93, 3) := by decide +kernel
theorem dX10_readLine_76 : decode cX10_readLine 76 = .ok (.invokevirtual 96, 3) := by decide +kernel
theorem dX10_readLine_79 : decode cX10_readLine 79 = .ok (.ireturn, 1) := by decide +kernel
theorem dX10_readBoard_0 : decode cX10_readBoard 0 = .ok (.aload_n 0, 1) := by decide +kernel
theorem dX10_readBoard_1 : decode cX10_readBoard 1 = .ok (.getfield 41, 3) := by decide +kernel
theorem dX10_readBoard_4 : decode cX10_readBoard 4 = .ok (.ifCond .eq 13, 3) := by decide +kernel
theorem dX10_readBoard_7 : decode cX10_readBoard 7 = .ok (.aload_n 0, 1) := by decide +kernel
theorem dX10_readBoard_8 : decode cX10_readBoard 8 = .ok (.iconst 4, 1) := by decide +kernel
theorem dX10_readBoard_9 : decode cX10_readBoard 9 = .ok (.aload_n 0, 1) := by decide +kernel
theorem dX10_readBoard_10 : decode cX10_readBoard 10 = .ok (.getfield 93, 3) := by decide +kernel
theorem dX10_readBoard_13 : decode cX10_readBoard 13 = .ok (.invokevirtual 96, 3) := by decide +kernel
theorem dX10_readBoard_16 : decode cX10_readBoard 16 = .ok (.ireturn, 1) := by decide +kernel
theorem dX10_readBoard_17 : decode cX10_readBoard 17 = .ok (.aload_n 0, 1) := by decide +kernel
theorem dX10_readBoard_18 : decode cX10_readBoard 18 = .ok (.iconst 1, 1) := by decide +kernel
theorem dX10_readBoard_19 : decode cX10_readBoard 19 = .ok (.putfield 41, 3) := by decide +kernel
theorem dX10_readBoard_22 : decode cX10_readBoard 22 = .ok (.aload_n 0, 1) := by decide +kernel
theorem dX10_readBoard_23 : decode cX10_readBoard 23 = .ok (.iconst 2, 1) := by decide +kernel
theorem dX10_readBoard_24 : decode cX10_readBoard 24 = .ok (.iconst 5, 1) := by decide +kernel
theorem dX10_readBoard_25 : decode cX10_readBoard 25 = .ok (.invokevirtual 100, 3) := by decide +kernel
theorem dX10_readBoard_28 : decode cX10_readBoard 28 = .ok (.ifCond .ne 5, 3) := by decide +kernel
theorem dX10_readBoard_31 : decode cX10_readBoard 31 = .ok (.iconst 0, 1) := by decide +kernel
theorem dX10_readBoard_32 : decode cX10_readBoard 32 = .ok (.ireturn, 1) := by decide +kernel
theorem dX10_readBoard_33 : decode cX10_readBoard 33 = .ok (.aload_n 0, 1) := by decide +kernel
theorem dX10_readBoard_34 : decode cX10_readBoard 34 = .ok (.getfield 18, 3) := by decide +kernel
theorem dX10_readBoard_37 : decode cX10_readBoard 37 = .ok (.getfield 103, 3) := by decide +kernel
theorem dX10_readBoard_40 : decode cX10_readBoard 40 = .ok (.aload_n 0, 1) := by decide +kernel
theorem dX10_readBoard_41 : decode cX10_readBoard 41 = .ok (.getfield 107, 3) := by decide +kernel
theorem dX10_readBoard_44 : decode cX10_readBoard 44 = .ok (.putfield 110, 3) := by decide +kernel
theorem dX10_readBoard_47 : decode cX10_readBoard 47 = .ok (.aload_n 0, 1) := by decide +kernel
theorem dX10_readBoard_48 : decode cX10_readBoard 48 = .ok (.iconst 2, 1) := by decide +kernel
theorem dX10_readBoard_49 : decode cX10_readBoard 49 = .ok (.iconst 5, 1) := by decide +kernel
theorem dX10_readBoard_50 : decode cX10_readBoard 50 = .ok (.invokevirtual 100, 3) := by decide +kernel
theorem dX10_readBoard_53 : decode cX10_readBoard 53 = .ok (.ifCond .ne 5, 3) := by decide +kernel
theorem dX10_readBoard_56 : decode cX10_readBoard 56 = .ok (.iconst 0, 1) := by decide +kernel
theorem dX10_readBoard_57 : decode cX10_readBoard 57 = .ok (.ireturn, 1) := by decide +kernel
theorem dX10_readBoard_58 : decode cX10_readBoard 58 = .ok (.aload_n 0, 1) := by decide +kernel
theorem dX10_readBoard_59 : decode cX10_readBoard 59 = .ok (.getfield 18, 3) := by decide +kernel
theorem dX10_readBoard_62 : decode cX10_readBoard 62 = .ok (.getfield 103, 3) := by decide +kernel
theorem dX10_readBoard_65 : decode cX10_readBoard 65 = .ok (.aload_n 0, 1) := by decide +kernel
theorem dX10_readBoard_66 : decode cX10_readBoard 66 = .ok (.getfield 107, 3) := by decide +kernel
theorem dX10_readBoard_69 : decode cX10_readBoard 69 = .ok (.putfield 115, 3) := by decide +kernel
theorem dX10_readBoard_72 : decode cX10_readBoard 72 = .ok (.aload_n 0, 1) := by decide +kernel
theorem dX10_readBoard_73 : decode cX10_readBoard 73 = .ok (.invokevirtual 118, 3) := by decide +kernel
theorem dX10_readBoard_76 : decode cX10_readBoard 76 = .ok (.ireturn, 1) := by decide +kernel
theorem dX10_readSteeple_0 : decode cX10_readSteeple 0 = .ok (.aload_n 0, 1) := by decide +kernel
theorem dX10_readSteeple_1 : decode cX10_readSteeple 1 = .ok (.invokevirtual 121, 3) := by decide +kernel
theorem dX10_readSteeple_4 : decode cX10_readSteeple 4 = .ok (.ifCond .ne 5, 3) := by decide +kernel
theorem dX10_readSteeple_7 : decode cX10_readSteeple 7 = .ok (.iconst 0, 1) := by decide +kernel
theorem dX10_readSteeple_8 : decode cX10_readSteeple 8 = .ok (.ireturn, 1) := by decide +kernel
theorem dX10_readSteeple_9 : decode cX10_readSteeple 9 = .ok (.aload_n 0, 1) := by decide +kernel
theorem dX10_readSteeple_10 : decode cX10_readSteeple 10 = .ok (.getfield 18, 3) := by decide +kernel
theorem dX10_readSteeple_13 : decode cX10_readSteeple 13 = .ok (.getfield 103, 3) := by decide +kernel
theorem dX10_readSteeple_16 : decode cX10_readSteeple 16 = .ok (.aload_n 0, 1) := by decide +kernel
theorem dX10_readSteeple_17 : decode cX10_readSteeple 17 = .ok (.getfield 107, 3) := by decide +kernel
theorem dX10_readSteeple_20 : decode cX10_readSteeple 20 = .ok (.iconst 1, 1) := by decide +kernel
theorem dX10_readSteeple_21 : decode cX10_readSteeple 21 = .ok (.invokevirtual 124, 3) := by decide +kernel
theorem dX10_readSteeple_24 : decode cX10_readSteeple 24 = .ok (.aload_n 0, 1) := by decide +kernel
theorem dX10_readSteeple_25 : decode cX10_readSteeple 25 = .ok (.invokevirtual 118, 3) := by decide +kernel
theorem dX10_readSteeple_28 : decode cX10_readSteeple 28 = .ok (.ireturn, 1) := by decide +kernel
theorem dX10_readPiece_0 : decode cX10_readPiece 0 = .ok (.aload_n 0, 1) := by decide +kernel
theorem dX10_readPiece_1 : decode cX10_readPiece 1 = .ok (.getfield 18, 3) := by decide +kernel
theorem dX10_readPiece_4 : decode cX10_readPiece 4 = .ok (.getfield 103, 3) := by decide +kernel
theorem dX10_readPiece_7 : decode cX10_readPiece 7 = .ok (.getfield 128, 3) := by decide +kernel
theorem dX10_readPiece_10 : decode cX10_readPiece 10 = .ok (.bipush 6, 2) := by decide +kernel
theorem dX10_readPiece_12 : decode cX10_readPiece 12 = .ok (.if_icmp .lt 13, 3) := by decide +kernel
theorem dX10_readPiece_15 : decode cX10_readPiece 15 = .ok (.aload_n 0, 1) := by decide +kernel
theorem dX10_readPiece_16 : decode cX10_readPiece 16 = .ok (.iconst 5, 1) := by decide +kernel
theorem dX10_readPiece_17 : decode cX10_readPiece 17 = .ok (.aload_n 0, 1) := by decide +kernel
theorem dX10_readPiece_18 : decode cX10_readPiece 18 = .ok (.getfield 93, 3) := by decide +kernel
theorem dX10_readPiece_21 : decode cX10_readPiece 21 = .ok (.invokevirtual 96, 3) := by decide +kernel
theorem dX10_readPiece_24 : decode cX10_readPiece 24 = .ok (.ireturn, 1) := by decide +kernel
theorem dX10_readPiece_25 : decode cX10_readPiece 25 = .ok (.aload_n 0, 1) := by decide +kernel
theorem dX10_readPiece_26 : decode cX10_readPiece 26 = .ok (.invokevirtual 51, 3) := by decide +kernel
theorem dX10_readPiece_29 : decode cX10_readPiece 29 = .ok (.ifCond .ne 5, 3) := by decide +kernel
theorem dX10_readPiece_32 : decode cX10_readPiece 32 = .ok (.iconst 0, 1) := by decide +kernel
theorem dX10_readPiece_33 : decode cX10_readPiece 33 = .ok (.ireturn, 1) := by decide +kernel
theorem dX10_readPiece_34 : decode cX10_readPiece 34 = .ok (.aload_n 0, 1) := by decide +kernel
theorem dX10_readPiece_35 : decode cX10_readPiece 35 = .ok (.invokevirtual 131, 3) := by decide +kernel
theorem dX10_readPiece_38 : decode cX10_readPiece 38 = .ok (.istore_n 1, 1) := by decide +kernel
theorem dX10_readPiece_39 : decode cX10_readPiece 39 = .ok (.iload_n 1, 1) := by decide +kernel
theorem dX10_readPiece_40 : decode cX10_readPiece 40 = .ok (.bipush (-4), 2) := by decide +kernel
theorem dX10_readPiece_42 : decode cX10_readPiece 42 = .ok (.if_icmp .ne 13, 3) := by decide +kernel
theorem dX10_readPiece_45 : decode cX10_readPiece 45 = .ok (.aload_n 0, 1) := by decide +kernel
theorem dX10_readPiece_46 : decode cX10_readPiece 46 = .ok (.iconst 2, 1) := by decide +kernel
theorem dX10_readPiece_47 : decode cX10_readPiece 47 = .ok (.aload_n 0, 1) := by decide +kernel
theorem dX10_readPiece_48 : decode cX10_readPiece 48 = .ok (.getfield 93, 3) := by decide +kernel
theorem dX10_readPiece_51 : decode cX10_readPiece 51 = .ok (.invokevirtual 96, 3) := by decide +kernel
theorem dX10_readPiece_54 : decode cX10_readPiece 54 = .ok (.ireturn, 1) := by decide +kernel
theorem dX10_readPiece_55 : decode cX10_readPiece 55 = .ok (.aload_n 0, 1) := by decide +kernel
theorem dX10_readPiece_56 : decode cX10_readPiece 56 = .ok (.iconst 0, 1) := by decide +kernel
theorem dX10_readPiece_57 : decode cX10_readPiece 57 = .ok (.iconst 1, 1) := by decide +kernel
theorem dX10_readPiece_58 : decode cX10_readPiece 58 = .ok (.invokevirtual 100, 3) := by decide +kernel
theorem dX10_readPiece_61 : decode cX10_readPiece 61 = .ok (.ifCond .ne 5, 3) := by decide +kernel
theorem dX10_readPiece_64 : decode cX10_readPiece 64 = .ok (.iconst 0, 1) := by decide +kernel
theorem dX10_readPiece_65 : decode cX10_readPiece 65 = .ok (.ireturn, 1) := by decide +kernel
theorem dX10_readPiece_66 : decode cX10_readPiece 66 = .ok (.aload_n 0, 1) := by decide +kernel
theorem dX10_readPiece_67 : decode cX10_readPiece 67 = .ok (.getfield 107, 3) := by decide +kernel
theorem dX10_readPiece_70 : decode cX10_readPiece 70 = .ok (.istore_n 2, 1) := by decide +kernel
theorem dX10_readPiece_71 : decode cX10_readPiece 71 = .ok (.aload_n 0, 1) := by decide +kernel
theorem dX10_readPiece_72 : decode cX10_readPiece 72 = .ok (.invokevirtual 121, 3) := by decide +kernel
theorem dX10_readPiece_75 : decode cX10_readPiece 75 = .ok (.ifCond .ne 5, 3) := by decide +kernel
theorem dX10_readPiece_78 : decode cX10_readPiece 78 = .ok (.iconst 0, 1) := by decide +kernel
theorem dX10_readPiece_79 : decode cX10_readPiece 79 = .ok (.ireturn, 1) := by decide +kernel
theorem dX10_readPiece_80 : decode cX10_readPiece 80 = .ok (.aload_n 0, 1) := by decide +kernel
theorem dX10_readPiece_81 : decode cX10_readPiece 81 = .ok (.getfield 107, 3) := by decide +kernel
theorem dX10_readPiece_84 : decode cX10_readPiece 84 = .ok (.istore_n 3, 1) := by decide +kernel
theorem dX10_readPiece_85 : decode cX10_readPiece 85 = .ok (.aload_n 0, 1) := by decide +kernel
theorem dX10_readPiece_86 : decode cX10_readPiece 86 = .ok (.iconst 0, 1) := by decide +kernel
theorem dX10_readPiece_87 : decode cX10_readPiece 87 = .ok (.bipush 9, 2) := by decide +kernel
theorem dX10_readPiece_89 : decode cX10_readPiece 89 = .ok (.invokevirtual 100, 3) := by decide +kernel
theorem dX10_readPiece_92 : decode cX10_readPiece 92 = .ok (.ifCond .ne 5, 3) := by decide +kernel
theorem dX10_readPiece_95 : decode cX10_readPiece 95 = .ok (.iconst 0, 1) := by decide +kernel
theorem dX10_readPiece_96 : decode cX10_readPiece 96 = .ok (.ireturn, 1) := by decide +kernel
theorem dX10_readPiece_97 : decode cX10_readPiece 97 = .ok (.aload_n 0, 1) := by decide +kernel
theorem dX10_readPiece_98 : decode cX10_readPiece 98 = .ok (.getfield 18, 3) := by decide +kernel
theorem dX10_readPiece_101 : decode cX10_readPiece 101 = .ok (.iload_n 1, 1) := by decide +kernel
theorem dX10_readPiece_102 : decode cX10_readPiece 102 = .ok (.iload_n 2, 1) := by decide +kernel
theorem dX10_readPiece_103 : decode cX10_readPiece 103 = .ok (.iload_n 3, 1) := by decide +kernel
theorem dX10_readPiece_104 : decode cX10_readPiece 104 = .ok (.aload_n 0, 1) := by decide +kernel
theorem dX10_readPiece_105 : decode cX10_readPiece 105 = .ok (.getfield 107, 3) := by decide +kernel
theorem dX10_readPiece_108 : decode cX10_readPiece 108 = .ok (.invokevirtual 135, 3) := by decide +kernel
theorem dX10_readPiece_111 : decode cX10_readPiece 111 = .ok (.aload_n 0, 1) := by decide +kernel
theorem dX10_readPiece_112 : decode cX10_readPiece 112 = .ok (.invokevirtual 118, 3) := by decide +kernel
theorem dX10_readPiece_115 : decode cX10_readPiece 115 = .ok (.ireturn, 1) := by decide +kernel
theorem dX10_readOdds_0 : decode cX10_readOdds 0 = .ok (.aload_n 0, 1) := by decide +kernel
theorem dX10_readOdds_1 : decode cX10_readOdds 1 = .ok (.getfield 45, 3) := by decide +kernel
theorem dX10_readOdds_4 : decode cX10_readOdds 4 = .ok (.ifCond .eq 13, 3) := by decide +kernel
theorem dX10_readOdds_7 : decode cX10_readOdds 7 = .ok (.aload_n 0, 1) := by decide +kernel
theorem dX10_readOdds_8 : decode cX10_readOdds 8 = .ok (.iconst 4, 1) := by decide +kernel
theorem dX10_readOdds_9 : decode cX10_readOdds 9 = .ok (.aload_n 0, 1) := by decide +kernel
theorem dX10_readOdds_10 : decode cX10_readOdds 10 = .ok (.getfield 93, 3) := by decide +kernel
theorem dX10_readOdds_13 : decode cX10_readOdds 13 = .ok (.invokevirtual 96, 3) := by decide +kernel
theorem dX10_readOdds_16 : decode cX10_readOdds 16 = .ok (.ireturn, 1) := by decide +kernel
theorem dX10_readOdds_17 : decode cX10_readOdds 17 = .ok (.aload_n 0, 1) := by decide +kernel
theorem dX10_readOdds_18 : decode cX10_readOdds 18 = .ok (.iconst 1, 1) := by decide +kernel
theorem dX10_readOdds_19 : decode cX10_readOdds 19 = .ok (.putfield 45, 3) := by decide +kernel
theorem dX10_readOdds_22 : decode cX10_readOdds 22 = .ok (.iconst 0, 1) := by decide +kernel
theorem dX10_readOdds_23 : decode cX10_readOdds 23 = .ok (.istore_n 1, 1) := by decide +kernel
theorem dX10_readOdds_24 : decode cX10_readOdds 24 = .ok (.iload_n 1, 1) := by decide +kernel
theorem dX10_readOdds_25 : decode cX10_readOdds 25 = .ok (.iconst 5, 1) := by decide +kernel
theorem dX10_readOdds_26 : decode cX10_readOdds 26 = .ok (.if_icmp .ge 36, 3) := by decide +kernel
theorem dX10_readOdds_29 : decode cX10_readOdds 29 = .ok (.aload_n 0, 1) := by decide +kernel
theorem dX10_readOdds_30 : decode cX10_readOdds 30 = .ok (.iconst 0, 1) := by decide +kernel
theorem dX10_readOdds_31 : decode cX10_readOdds 31 = .ok (.bipush 9, 2) := by decide +kernel
theorem dX10_readOdds_33 : decode cX10_readOdds 33 = .ok (.invokevirtual 100, 3) := by decide +kernel
theorem dX10_readOdds_36 : decode cX10_readOdds 36 = .ok (.ifCond .ne 5, 3) := by decide +kernel
theorem dX10_readOdds_39 : decode cX10_readOdds 39 = .ok (.iconst 0, 1) := by decide +kernel
theorem dX10_readOdds_40 : decode cX10_readOdds 40 = .ok (.ireturn, 1) := by decide +kernel
theorem dX10_readOdds_41 : decode cX10_readOdds 41 = .ok (.aload_n 0, 1) := by decide +kernel
theorem dX10_readOdds_42 : decode cX10_readOdds 42 = .ok (.getfield 18, 3) := by decide +kernel
theorem dX10_readOdds_45 : decode cX10_readOdds 45 = .ok (.getfield 103, 3) := by decide +kernel
theorem dX10_readOdds_48 : decode cX10_readOdds 48 = .ok (.iload_n 1, 1) := by decide +kernel
theorem dX10_readOdds_49 : decode cX10_readOdds 49 = .ok (.aload_n 0, 1) := by decide +kernel
theorem dX10_readOdds_50 : decode cX10_readOdds 50 = .ok (.getfield 107, 3) := by decide +kernel
theorem dX10_readOdds_53 : decode cX10_readOdds 53 = .ok (.invokevirtual 139, 3) := by decide +kernel
theorem dX10_readOdds_56 : decode cX10_readOdds 56 = .ok (.iinc 1 1, 3) := by decide +kernel
theorem dX10_readOdds_59 : decode cX10_readOdds 59 = .ok (.goto (-35), 3) := by decide +kernel
theorem dX10_readOdds_62 : decode cX10_readOdds 62 = .ok (.aload_n 0, 1) := by decide +kernel
theorem dX10_readOdds_63 : decode cX10_readOdds 63 = .ok (.getfield 18, 3) := by decide +kernel
theorem dX10_readOdds_66 : decode cX10_readOdds 66 = .ok (.getfield 103, 3) := by decide +kernel
theorem dX10_readOdds_69 : decode cX10_readOdds 69 = .ok (.invokevirtual 143, 3) := by decide +kernel
theorem dX10_readOdds_72 : decode cX10_readOdds 72 = .ok (.ifCond .le 10, 3) := by decide +kernel
theorem dX10_readOdds_75 : decode cX10_readOdds 75 = .ok (.aload_n 0, 1) := by decide +kernel
theorem dX10_readOdds_76 : decode cX10_readOdds 76 = .ok (.invokevirtual 118, 3) := by decide +kernel
theorem dX10_readOdds_79 : decode cX10_readOdds 79 = .ok (.goto 12, 3) := by decide +kernel
theorem dX10_readOdds_82 : decode cX10_readOdds 82 = .ok (.aload_n 0, 1) := by decide +kernel
theorem dX10_readOdds_83 : decode cX10_readOdds 83 = .ok (.iconst 3, 1) := by decide +kernel
theorem dX10_readOdds_84 : decode cX10_readOdds 84 = .ok (.aload_n 0, 1) := by decide +kernel
theorem dX10_readOdds_85 : decode cX10_readOdds 85 = .ok (.getfield 93, 3) := by decide +kernel
theorem dX10_readOdds_88 : decode cX10_readOdds 88 = .ok (.invokevirtual 96, 3) := by decide +kernel
theorem dX10_readOdds_91 : decode cX10_readOdds 91 = .ok (.ireturn, 1) := by decide +kernel
theorem dX10_readTurn_0 : decode cX10_readTurn 0 = .ok (.aload_n 0, 1) := by decide +kernel
theorem dX10_readTurn_1 : decode cX10_readTurn 1 = .ok (.getfield 48, 3) := by decide +kernel
theorem dX10_readTurn_4 : decode cX10_readTurn 4 = .ok (.ifCond .eq 13, 3) := by decide +kernel
theorem dX10_readTurn_7 : decode cX10_readTurn 7 = .ok (.aload_n 0, 1) := by decide +kernel
theorem dX10_readTurn_8 : decode cX10_readTurn 8 = .ok (.iconst 4, 1) := by decide +kernel
theorem dX10_readTurn_9 : decode cX10_readTurn 9 = .ok (.aload_n 0, 1) := by decide +kernel
theorem dX10_readTurn_10 : decode cX10_readTurn 10 = .ok (.getfield 93, 3) := by decide +kernel
theorem dX10_readTurn_13 : decode cX10_readTurn 13 = .ok (.invokevirtual 96, 3) := by decide +kernel
theorem dX10_readTurn_16 : decode cX10_readTurn 16 = .ok (.ireturn, 1) := by decide +kernel
theorem dX10_readTurn_17 : decode cX10_readTurn 17 = .ok (.aload_n 0, 1) := by decide +kernel
theorem dX10_readTurn_18 : decode cX10_readTurn 18 = .ok (.iconst 1, 1) := by decide +kernel
theorem dX10_readTurn_19 : decode cX10_readTurn 19 = .ok (.putfield 48, 3) := by decide +kernel
theorem dX10_readTurn_22 : decode cX10_readTurn 22 = .ok (.aload_n 0, 1) := by decide +kernel
theorem dX10_readTurn_23 : decode cX10_readTurn 23 = .ok (.iconst 0, 1) := by decide +kernel
theorem dX10_readTurn_24 : decode cX10_readTurn 24 = .ok (.iconst 1, 1) := by decide +kernel
theorem dX10_readTurn_25 : decode cX10_readTurn 25 = .ok (.invokevirtual 100, 3) := by decide +kernel
theorem dX10_readTurn_28 : decode cX10_readTurn 28 = .ok (.ifCond .ne 5, 3) := by decide +kernel
theorem dX10_readTurn_31 : decode cX10_readTurn 31 = .ok (.iconst 0, 1) := by decide +kernel
theorem dX10_readTurn_32 : decode cX10_readTurn 32 = .ok (.ireturn, 1) := by decide +kernel
theorem dX10_readTurn_33 : decode cX10_readTurn 33 = .ok (.aload_n 0, 1) := by decide +kernel
theorem dX10_readTurn_34 : decode cX10_readTurn 34 = .ok (.getfield 18, 3) := by decide +kernel
theorem dX10_readTurn_37 : decode cX10_readTurn 37 = .ok (.getfield 146, 3) := by decide +kernel
theorem dX10_readTurn_40 : decode cX10_readTurn 40 = .ok (.aload_n 0, 1) := by decide +kernel
theorem dX10_readTurn_41 : decode cX10_readTurn 41 = .ok (.getfield 107, 3) := by decide +kernel
theorem dX10_readTurn_44 : decode cX10_readTurn 44 = .ok (.putfield 150, 3) := by decide +kernel
theorem dX10_readTurn_47 : decode cX10_readTurn 47 = .ok (.aload_n 0, 1) := by decide +kernel
theorem dX10_readTurn_48 : decode cX10_readTurn 48 = .ok (.invokevirtual 118, 3) := by decide +kernel
theorem dX10_readTurn_51 : decode cX10_readTurn 51 = .ok (.ireturn, 1) := by decide +kernel
theorem dX10_readFreeSquare_0 : decode cX10_readFreeSquare 0 = .ok (.aload_n 0, 1) := by decide +kernel
theorem dX10_readFreeSquare_1 : decode cX10_readFreeSquare 1 = .ok (.iconst 0, 1) := by decide +kernel
theorem dX10_readFreeSquare_2 : decode cX10_readFreeSquare 2 = .ok (.bipush 24, 2) := by decide +kernel
theorem dX10_readFreeSquare_4 : decode cX10_readFreeSquare 4 = .ok (.invokevirtual 100, 3) := by decide +kernel
theorem dX10_readFreeSquare_7 : decode cX10_readFreeSquare 7 = .ok (.ifCond .ne 5, 3) := by decide +kernel
theorem dX10_readFreeSquare_10 : decode cX10_readFreeSquare 10 = .ok (.iconst 0, 1) := by decide +kernel
theorem dX10_readFreeSquare_11 : decode cX10_readFreeSquare 11 = .ok (.ireturn, 1) := by decide +kernel
theorem dX10_readFreeSquare_12 : decode cX10_readFreeSquare 12 = .ok (.aload_n 0, 1) := by decide +kernel
theorem dX10_readFreeSquare_13 : decode cX10_readFreeSquare 13 = .ok (.getfield 18, 3) := by decide +kernel
theorem dX10_readFreeSquare_16 : decode cX10_readFreeSquare 16 = .ok (.getfield 103, 3) := by decide +kernel
theorem dX10_readFreeSquare_19 : decode cX10_readFreeSquare 19 = .ok (.aload_n 0, 1) := by decide +kernel
theorem dX10_readFreeSquare_20 : decode cX10_readFreeSquare 20 = .ok (.getfield 107, 3) := by decide +kernel
theorem dX10_readFreeSquare_23 : decode cX10_readFreeSquare 23 = .ok (.invokevirtual 155, 3) := by decide +kernel
theorem dX10_readFreeSquare_26 : decode cX10_readFreeSquare 26 = .ok (.ifCond .ne 33, 3) := by decide +kernel
theorem dX10_readFreeSquare_29 : decode cX10_readFreeSquare 29 = .ok (.aload_n 0, 1) := by decide +kernel
theorem dX10_readFreeSquare_30 : decode cX10_readFreeSquare 30 = .ok (.getfield 18, 3) := by decide +kernel
theorem dX10_readFreeSquare_33 : decode cX10_readFreeSquare 33 = .ok (.getfield 146, 3) := by decide +kernel
theorem dX10_readFreeSquare_36 : decode cX10_readFreeSquare 36 = .ok (.aload_n 0, 1) := by decide +kernel
theorem dX10_readFreeSquare_37 : decode cX10_readFreeSquare 37 = .ok (.getfield 18, 3) := by decide +kernel
theorem dX10_readFreeSquare_40 : decode cX10_readFreeSquare 40 = .ok (.getfield 103, 3) := by decide +kernel
theorem dX10_readFreeSquare_43 : decode cX10_readFreeSquare 43 = .ok (.aload_n 0, 1) := by decide +kernel
theorem dX10_readFreeSquare_44 : decode cX10_readFreeSquare 44 = .ok (.getfield 107, 3) := by decide +kernel
theorem dX10_readFreeSquare_47 : decode cX10_readFreeSquare 47 = .ok (.invokevirtual 159, 3) := by decide +kernel
theorem dX10_readFreeSquare_50 : decode cX10_readFreeSquare 50 = .ok (.bipush (-4), 2) := by decide +kernel
theorem dX10_readFreeSquare_52 : decode cX10_readFreeSquare 52 = .ok (.if_icmp .ne 7, 3) := by decide +kernel
theorem dX10_readFreeSquare_55 : decode cX10_readFreeSquare 55 = .ok (.iconst 1, 1) := by decide +kernel
theorem dX10_readFreeSquare_56 : decode cX10_readFreeSquare 56 = .ok (.goto 4, 3) := by decide +kernel
theorem dX10_readFreeSquare_59 : decode cX10_readFreeSquare 59 = .ok (.iconst 0, 1) := by decide +kernel
theorem dX10_readFreeSquare_60 : decode cX10_readFreeSquare 60 = .ok (.istore_n 1, 1) := by decide +kernel
theorem dX10_readFreeSquare_61 : decode cX10_readFreeSquare 61 = .ok (.iload_n 1, 1) := by decide +kernel
theorem dX10_readFreeSquare_62 : decode cX10_readFreeSquare 62 = .ok (.ifCond .ne 15, 3) := by decide +kernel
theorem dX10_readFreeSquare_65 : decode cX10_readFreeSquare 65 = .ok (.aload_n 0, 1) := by decide +kernel
theorem dX10_readFreeSquare_66 : decode cX10_readFreeSquare 66 = .ok (.iconst 4, 1) := by decide +kernel
theorem dX10_readFreeSquare_67 : decode cX10_readFreeSquare 67 = .ok (.aload_n 0, 1) := by decide +kernel
theorem dX10_readFreeSquare_68 : decode cX10_readFreeSquare 68 = .ok (.getfield 93, 3) := by decide +kernel
theorem dX10_readFreeSquare_71 : decode cX10_readFreeSquare 71 = .ok (.invokevirtual 96, 3) := by decide +kernel
theorem dX10_readFreeSquare_74 : decode cX10_readFreeSquare 74 = .ok (.ifCond .eq 7, 3) := by decide +kernel
theorem dX10_readFreeSquare_77 : decode cX10_readFreeSquare 77 = .ok (.iconst 1, 1) := by decide +kernel
theorem dX10_readFreeSquare_78 : decode cX10_readFreeSquare 78 = .ok (.goto 4, 3) := by decide +kernel
theorem dX10_readFreeSquare_81 : decode cX10_readFreeSquare 81 = .ok (.iconst 0, 1) := by decide +kernel
theorem dX10_readFreeSquare_82 : decode cX10_readFreeSquare 82 = .ok (.ireturn, 1) := by decide +kernel
theorem dX10_readNumber_0 : decode cX10_readNumber 0 = .ok (.aload_n 0, 1) := by decide +kernel
theorem dX10_readNumber_1 : decode cX10_readNumber 1 = .ok (.invokevirtual 51, 3) := by decide +kernel
theorem dX10_readNumber_4 : decode cX10_readNumber 4 = .ok (.ifCond .ne 5, 3) := by decide +kernel
theorem dX10_readNumber_7 : decode cX10_readNumber 7 = .ok (.iconst 0, 1) := by decide +kernel
theorem dX10_readNumber_8 : decode cX10_readNumber 8 = .ok (.ireturn, 1) := by decide +kernel
theorem dX10_readNumber_9 : decode cX10_readNumber 9 = .ok (.aload_n 0, 1) := by decide +kernel
theorem dX10_readNumber_10 : decode cX10_readNumber 10 = .ok (.getfield 55, 3) := by decide +kernel
theorem dX10_readNumber_13 : decode cX10_readNumber 13 = .ok (.iconst 2, 1) := by decide +kernel
theorem dX10_readNumber_14 : decode cX10_readNumber 14 = .ok (.if_icmp .eq 13, 3) := by decide +kernel
theorem dX10_readNumber_17 : decode cX10_readNumber 17 = .ok (.aload_n 0, 1) := by decide +kernel
theorem dX10_readNumber_18 : decode cX10_readNumber 18 = .ok (.iconst 2, 1) := by decide +kernel
theorem dX10_readNumber_19 : decode cX10_readNumber 19 = .ok (.aload_n 0, 1) := by decide +kernel
theorem dX10_readNumber_20 : decode cX10_readNumber 20 = .ok (.getfield 93, 3) := by decide +kernel
theorem dX10_readNumber_23 : decode cX10_readNumber 23 = .ok (.invokevirtual 96, 3) := by decide +kernel
theorem dX10_readNumber_26 : decode cX10_readNumber 26 = .ok (.ireturn, 1) := by decide +kernel
theorem dX10_readNumber_27 : decode cX10_readNumber 27 = .ok (.aload_n 0, 1) := by decide +kernel
theorem dX10_readNumber_28 : decode cX10_readNumber 28 = .ok (.getfield 107, 3) := by decide +kernel
theorem dX10_readNumber_31 : decode cX10_readNumber 31 = .ok (.iload_n 1, 1) := by decide +kernel
theorem dX10_readNumber_32 : decode cX10_readNumber 32 = .ok (.if_icmp .lt 11, 3) := by decide +kernel
theorem dX10_readNumber_35 : decode cX10_readNumber 35 = .ok (.aload_n 0, 1) := by decide +kernel
theorem dX10_readNumber_36 : decode cX10_readNumber 36 = .ok (.getfield 107, 3) := by decide +kernel
theorem dX10_readNumber_39 : decode cX10_readNumber 39 = .ok (.iload_n 2, 1) := by decide +kernel
theorem dX10_readNumber_40 : decode cX10_readNumber 40 = .ok (.if_icmp .le 15, 3) := by decide +kernel
theorem dX10_readNumber_43 : decode cX10_readNumber 43 = .ok (.aload_n 0, 1) := by decide +kernel
theorem dX10_readNumber_44 : decode cX10_readNumber 44 = .ok (.iconst 3, 1) := by decide +kernel
theorem dX10_readNumber_45 : decode cX10_readNumber 45 = .ok (.aload_n 0, 1) := by decide +kernel
theorem dX10_readNumber_46 : decode cX10_readNumber 46 = .ok (.getfield 93, 3) := by decide +kernel
theorem dX10_readNumber_49 : decode cX10_readNumber 49 = .ok (.invokevirtual 96, 3) := by decide +kernel
theorem dX10_readNumber_52 : decode cX10_readNumber 52 = .ok (.ifCond .eq 7, 3) := by decide +kernel
theorem dX10_readNumber_55 : decode cX10_readNumber 55 = .ok (.iconst 1, 1) := by decide +kernel
theorem dX10_readNumber_56 : decode cX10_readNumber 56 = .ok (.goto 4, 3) := by decide +kernel
theorem dX10_readNumber_59 : decode cX10_readNumber 59 = .ok (.iconst 0, 1) := by decide +kernel
theorem dX10_readNumber_60 : decode cX10_readNumber 60 = .ok (.ireturn, 1) := by decide +kernel
theorem dX10_readSign_0 : decode cX10_readSign 0 = .ok (.aload_n 0, 1) := by decide +kernel
theorem dX10_readSign_1 : decode cX10_readSign 1 = .ok (.invokevirtual 51, 3) := by decide +kernel
theorem dX10_readSign_4 : decode cX10_readSign 4 = .ok (.ifCond .eq 27, 3) := by decide +kernel
theorem dX10_readSign_7 : decode cX10_readSign 7 = .ok (.aload_n 0, 1) := by decide +kernel
theorem dX10_readSign_8 : decode cX10_readSign 8 = .ok (.getfield 55, 3) := by decide +kernel
theorem dX10_readSign_11 : decode cX10_readSign 11 = .ok (.iconst 3, 1) := by decide +kernel
theorem dX10_readSign_12 : decode cX10_readSign 12 = .ok (.if_icmp .eq 15, 3) := by decide +kernel
theorem dX10_readSign_15 : decode cX10_readSign 15 = .ok (.aload_n 0, 1) := by decide +kernel
theorem dX10_readSign_16 : decode cX10_readSign 16 = .ok (.iconst 2, 1) := by decide +kernel
theorem dX10_readSign_17 : decode cX10_readSign 17 = .ok (.aload_n 0, 1) := by decide +kernel
theorem dX10_readSign_18 : decode cX10_readSign 18 = .ok (.getfield 93, 3) := by decide +kernel
theorem dX10_readSign_21 : decode cX10_readSign 21 = .ok (.invokevirtual 96, 3) := by decide +kernel
theorem dX10_readSign_24 : decode cX10_readSign 24 = .ok (.ifCond .eq 7, 3) := by decide +kernel
theorem dX10_readSign_27 : decode cX10_readSign 27 = .ok (.iconst 1, 1) := by decide +kernel
theorem dX10_readSign_28 : decode cX10_readSign 28 = .ok (.goto 4, 3) := by decide +kernel
theorem dX10_readSign_31 : decode cX10_readSign 31 = .ok (.iconst 0, 1) := by decide +kernel
theorem dX10_readSign_32 : decode cX10_readSign 32 = .ok (.ireturn, 1) := by decide +kernel
theorem dX10_kindNamed_0 : decode cX10_kindNamed 0 = .ok (.aload_n 0, 1) := by decide +kernel
theorem dX10_kindNamed_1 : decode cX10_kindNamed 1 = .ok (.ldc 163, 2) := by decide +kernel
theorem dX10_kindNamed_3 : decode cX10_kindNamed 3 = .ok (.invokevirtual 66, 3) := by decide +kernel
theorem dX10_kindNamed_6 : decode cX10_kindNamed 6 = .ok (.ifCond .eq 5, 3) := by decide +kernel
theorem dX10_kindNamed_9 : decode cX10_kindNamed 9 = .ok (.iconst 0, 1) := by decide +kernel
theorem dX10_kindNamed_10 : decode cX10_kindNamed 10 = .ok (.ireturn, 1) := by decide +kernel
theorem dX10_kindNamed_11 : decode cX10_kindNamed 11 = .ok (.aload_n 0, 1) := by decide +kernel
theorem dX10_kindNamed_12 : decode cX10_kindNamed 12 = .ok (.ldc 165, 2) := by decide +kernel
theorem dX10_kindNamed_14 : decode cX10_kindNamed 14 = .ok (.invokevirtual 66, 3) := by decide +kernel
theorem dX10_kindNamed_17 : decode cX10_kindNamed 17 = .ok (.ifCond .eq 5, 3) := by decide +kernel
theorem dX10_kindNamed_20 : decode cX10_kindNamed 20 = .ok (.iconst 1, 1) := by decide +kernel
theorem dX10_kindNamed_21 : decode cX10_kindNamed 21 = .ok (.ireturn, 1) := by decide +kernel
theorem dX10_kindNamed_22 : decode cX10_kindNamed 22 = .ok (.aload_n 0, 1) := by decide +kernel
theorem dX10_kindNamed_23 : decode cX10_kindNamed 23 = .ok (.ldc 167, 2) := by decide +kernel
theorem dX10_kindNamed_25 : decode cX10_kindNamed 25 = .ok (.invokevirtual 66, 3) := by decide +kernel
theorem dX10_kindNamed_28 : decode cX10_kindNamed 28 = .ok (.ifCond .eq 5, 3) := by decide +kernel
theorem dX10_kindNamed_31 : decode cX10_kindNamed 31 = .ok (.iconst 2, 1) := by decide +kernel
theorem dX10_kindNamed_32 : decode cX10_kindNamed 32 = .ok (.ireturn, 1) := by decide +kernel
theorem dX10_kindNamed_33 : decode cX10_kindNamed 33 = .ok (.aload_n 0, 1) := by decide +kernel
theorem dX10_kindNamed_34 : decode cX10_kindNamed 34 = .ok (.ldc 169, 2) := by decide +kernel
theorem dX10_kindNamed_36 : decode cX10_kindNamed 36 = .ok (.invokevirtual 66, 3) := by decide +kernel
theorem dX10_kindNamed_39 : decode cX10_kindNamed 39 = .ok (.ifCond .eq 7, 3) := by decide +kernel
theorem dX10_kindNamed_42 : decode cX10_kindNamed 42 = .ok (.iconst 3, 1) := by decide +kernel
theorem dX10_kindNamed_43 : decode cX10_kindNamed 43 = .ok (.goto 5, 3) := by decide +kernel
theorem dX10_kindNamed_46 : decode cX10_kindNamed 46 = .ok (.bipush (-4), 2) := by decide +kernel
theorem dX10_kindNamed_48 : decode cX10_kindNamed 48 = .ok (.ireturn, 1) := by decide +kernel
theorem dX10_isWhole_0 : decode cX10_isWhole 0 = .ok (.aload_n 0, 1) := by decide +kernel
theorem dX10_isWhole_1 : decode cX10_isWhole 1 = .ok (.invokevirtual 171, 3) := by decide +kernel
theorem dX10_isWhole_4 : decode cX10_isWhole 4 = .ok (.ifCond .ne 14, 3) := by decide +kernel
theorem dX10_isWhole_7 : decode cX10_isWhole 7 = .ok (.aload_n 0, 1) := by decide +kernel
theorem dX10_isWhole_8 : decode cX10_isWhole 8 = .ok (.bipush 6, 2) := by decide +kernel
theorem dX10_isWhole_10 : decode cX10_isWhole 10 = .ok (.aload_n 0, 1) := by decide +kernel
theorem dX10_isWhole_11 : decode cX10_isWhole 11 = .ok (.getfield 22, 3) := by decide +kernel
theorem dX10_isWhole_14 : decode cX10_isWhole 14 = .ok (.invokevirtual 96, 3) := by decide +kernel
theorem dX10_isWhole_17 : decode cX10_isWhole 17 = .ok (.ireturn, 1) := by decide +kernel
theorem dX10_isWhole_18 : decode cX10_isWhole 18 = .ok (.aload_n 0, 1) := by decide +kernel
theorem dX10_isWhole_19 : decode cX10_isWhole 19 = .ok (.getfield 18, 3) := by decide +kernel
theorem dX10_isWhole_22 : decode cX10_isWhole 22 = .ok (.getfield 103, 3) := by decide +kernel
theorem dX10_isWhole_25 : decode cX10_isWhole 25 = .ok (.getfield 128, 3) := by decide +kernel
theorem dX10_isWhole_28 : decode cX10_isWhole 28 = .ok (.ifCond .le 40, 3) := by decide +kernel
theorem dX10_isWhole_31 : decode cX10_isWhole 31 = .ok (.aload_n 0, 1) := by decide +kernel
theorem dX10_isWhole_32 : decode cX10_isWhole 32 = .ok (.iconst 0, 1) := by decide +kernel
theorem dX10_isWhole_33 : decode cX10_isWhole 33 = .ok (.invokevirtual 174, 3) := by decide +kernel
theorem dX10_isWhole_36 : decode cX10_isWhole 36 = .ok (.iconst 1, 1) := by decide +kernel
theorem dX10_isWhole_37 : decode cX10_isWhole 37 = .ok (.if_icmp .ne 12, 3) := by decide +kernel
theorem dX10_isWhole_40 : decode cX10_isWhole 40 = .ok (.aload_n 0, 1) := by decide +kernel
theorem dX10_isWhole_41 : decode cX10_isWhole 41 = .ok (.iconst 1, 1) := by decide +kernel
theorem dX10_isWhole_42 : decode cX10_isWhole 42 = .ok (.invokevirtual 174, 3) := by decide +kernel
theorem dX10_isWhole_45 : decode cX10_isWhole 45 = .ok (.iconst 1, 1) := by decide +kernel
theorem dX10_isWhole_46 : decode cX10_isWhole 46 = .ok (.if_icmp .eq 16, 3) := by decide +kernel
theorem dX10_isWhole_49 : decode cX10_isWhole 49 = .ok (.aload_n 0, 1) := by decide +kernel
theorem dX10_isWhole_50 : decode cX10_isWhole 50 = .ok (.bipush 7, 2) := by decide +kernel
theorem dX10_isWhole_52 : decode cX10_isWhole 52 = .ok (.aload_n 0, 1) := by decide +kernel
theorem dX10_isWhole_53 : decode cX10_isWhole 53 = .ok (.getfield 22, 3) := by decide +kernel
theorem dX10_isWhole_56 : decode cX10_isWhole 56 = .ok (.invokevirtual 96, 3) := by decide +kernel
theorem dX10_isWhole_59 : decode cX10_isWhole 59 = .ok (.ifCond .eq 7, 3) := by decide +kernel
theorem dX10_isWhole_62 : decode cX10_isWhole 62 = .ok (.iconst 1, 1) := by decide +kernel
theorem dX10_isWhole_63 : decode cX10_isWhole 63 = .ok (.goto 4, 3) := by decide +kernel
theorem dX10_isWhole_66 : decode cX10_isWhole 66 = .ok (.iconst 0, 1) := by decide +kernel
theorem dX10_isWhole_67 : decode cX10_isWhole 67 = .ok (.ireturn, 1) := by decide +kernel
theorem dX10_isWhole_68 : decode cX10_isWhole 68 = .ok (.aload_n 0, 1) := by decide +kernel
theorem dX10_isWhole_69 : decode cX10_isWhole 69 = .ok (.getfield 18, 3) := by decide +kernel
theorem dX10_isWhole_72 : decode cX10_isWhole 72 = .ok (.getfield 103, 3) := by decide +kernel
theorem dX10_isWhole_75 : decode cX10_isWhole 75 = .ok (.iconst 0, 1) := by decide +kernel
theorem dX10_isWhole_76 : decode cX10_isWhole 76 = .ok (.invokevirtual 155, 3) := by decide +kernel
theorem dX10_isWhole_79 : decode cX10_isWhole 79 = .ok (.ifCond .ne 28, 3) := by decide +kernel
theorem dX10_isWhole_82 : decode cX10_isWhole 82 = .ok (.aload_n 0, 1) := by decide +kernel
theorem dX10_isWhole_83 : decode cX10_isWhole 83 = .ok (.getfield 18, 3) := by decide +kernel
theorem dX10_isWhole_86 : decode cX10_isWhole 86 = .ok (.getfield 103, 3) := by decide +kernel
theorem dX10_isWhole_89 : decode cX10_isWhole 89 = .ok (.aload_n 0, 1) := by decide +kernel
theorem dX10_isWhole_90 : decode cX10_isWhole 90 = .ok (.getfield 18, 3) := by decide +kernel
theorem dX10_isWhole_93 : decode cX10_isWhole 93 = .ok (.getfield 103, 3) := by decide +kernel
theorem dX10_isWhole_96 : decode cX10_isWhole 96 = .ok (.invokevirtual 178, 3) := by decide +kernel
theorem dX10_isWhole_99 : decode cX10_isWhole 99 = .ok (.iconst 1, 1) := by decide +kernel
theorem dX10_isWhole_100 : decode cX10_isWhole 100 = .ok (.isub, 1) := by decide +kernel
theorem dX10_isWhole_101 : decode cX10_isWhole 101 = .ok (.invokevirtual 155, 3) := by decide +kernel
theorem dX10_isWhole_104 : decode cX10_isWhole 104 = .ok (.ifCond .eq 14, 3) := by decide +kernel
theorem dX10_isWhole_107 : decode cX10_isWhole 107 = .ok (.aload_n 0, 1) := by decide +kernel
theorem dX10_isWhole_108 : decode cX10_isWhole 108 = .ok (.bipush 8, 2) := by decide +kernel
theorem dX10_isWhole_110 : decode cX10_isWhole 110 = .ok (.aload_n 0, 1) := by decide +kernel
theorem dX10_isWhole_111 : decode cX10_isWhole 111 = .ok (.getfield 22, 3) := by decide +kernel
theorem dX10_isWhole_114 : decode cX10_isWhole 114 = .ok (.invokevirtual 96, 3) := by decide +kernel
theorem dX10_isWhole_117 : decode cX10_isWhole 117 = .ok (.ireturn, 1) := by decide +kernel
theorem dX10_isWhole_118 : decode cX10_isWhole 118 = .ok (.aload_n 0, 1) := by decide +kernel
theorem dX10_isWhole_119 : decode cX10_isWhole 119 = .ok (.getfield 18, 3) := by decide +kernel
theorem dX10_isWhole_122 : decode cX10_isWhole 122 = .ok (.invokevirtual 181, 3) := by decide +kernel
theorem dX10_isWhole_125 : decode cX10_isWhole 125 = .ok (.iconst 1, 1) := by decide +kernel
theorem dX10_isWhole_126 : decode cX10_isWhole 126 = .ok (.ireturn, 1) := by decide +kernel
theorem dX10_hasItsSquares_0 : decode cX10_hasItsSquares 0 = .ok (.aload_n 0, 1) := by decide +kernel
theorem dX10_hasItsSquares_1 : decode cX10_hasItsSquares 1 = .ok (.getfield 18, 3) := by decide +kernel
theorem dX10_hasItsSquares_4 : decode cX10_hasItsSquares 4 = .ok (.getfield 103, 3) := by decide +kernel
theorem dX10_hasItsSquares_7 : decode cX10_hasItsSquares 7 = .ok (.getfield 184, 3) := by decide +kernel
theorem dX10_hasItsSquares_10 : decode cX10_hasItsSquares 10 = .ok (.aload_n 0, 1) := by decide +kernel
theorem dX10_hasItsSquares_11 : decode cX10_hasItsSquares 11 = .ok (.getfield 18, 3) := by decide +kernel
theorem dX10_hasItsSquares_14 : decode cX10_hasItsSquares 14 = .ok (.getfield 146, 3) := by decide +kernel
theorem dX10_hasItsSquares_17 : decode cX10_hasItsSquares 17 = .ok (.iconst 0, 1) := by decide +kernel
theorem dX10_hasItsSquares_18 : decode cX10_hasItsSquares 18 = .ok (.invokevirtual 187, 3) := by decide +kernel
theorem dX10_hasItsSquares_21 : decode cX10_hasItsSquares 21 = .ok (.ior, 1) := by decide +kernel
theorem dX10_hasItsSquares_22 : decode cX10_hasItsSquares 22 = .ok (.aload_n 0, 1) := by decide +kernel
theorem dX10_hasItsSquares_23 : decode cX10_hasItsSquares 23 = .ok (.getfield 18, 3) := by decide +kernel
theorem dX10_hasItsSquares_26 : decode cX10_hasItsSquares 26 = .ok (.getfield 146, 3) := by decide +kernel
theorem dX10_hasItsSquares_29 : decode cX10_hasItsSquares 29 = .ok (.iconst 1, 1) := by decide +kernel
theorem dX10_hasItsSquares_30 : decode cX10_hasItsSquares 30 = .ok (.invokevirtual 187, 3) := by decide +kernel
theorem dX10_hasItsSquares_33 : decode cX10_hasItsSquares 33 = .ok (.ior, 1) := by decide +kernel
theorem dX10_hasItsSquares_34 : decode cX10_hasItsSquares 34 = .ok (.istore_n 1, 1) := by decide +kernel
theorem dX10_hasItsSquares_35 : decode cX10_hasItsSquares 35 = .ok (.iload_n 1, 1) := by decide +kernel
theorem dX10_hasItsSquares_36 : decode cX10_hasItsSquares 36 = .ok (.aload_n 0, 1) := by decide +kernel
theorem dX10_hasItsSquares_37 : decode cX10_hasItsSquares 37 = .ok (.getfield 18, 3) := by decide +kernel
theorem dX10_hasItsSquares_40 : decode cX10_hasItsSquares 40 = .ok (.getfield 103, 3) := by decide +kernel
theorem dX10_hasItsSquares_43 : decode cX10_hasItsSquares 43 = .ok (.invokevirtual 178, 3) := by decide +kernel
theorem dX10_hasItsSquares_46 : decode cX10_hasItsSquares 46 = .ok (.iushr, 1) := by decide +kernel
theorem dX10_hasItsSquares_47 : decode cX10_hasItsSquares 47 = .ok (.ifCond .ne 7, 3) := by decide +kernel
theorem dX10_hasItsSquares_50 : decode cX10_hasItsSquares 50 = .ok (.iconst 1, 1) := by decide +kernel
theorem dX10_hasItsSquares_51 : decode cX10_hasItsSquares 51 = .ok (.goto 4, 3) := by decide +kernel
theorem dX10_hasItsSquares_54 : decode cX10_hasItsSquares 54 = .ok (.iconst 0, 1) := by decide +kernel
theorem dX10_hasItsSquares_55 : decode cX10_hasItsSquares 55 = .ok (.ireturn, 1) := by decide +kernel
theorem dX10_kings_0 : decode cX10_kings 0 = .ok (.iconst 0, 1) := by decide +kernel
theorem dX10_kings_1 : decode cX10_kings 1 = .ok (.istore_n 2, 1) := by decide +kernel
theorem dX10_kings_2 : decode cX10_kings 2 = .ok (.iconst 0, 1) := by decide +kernel
theorem dX10_kings_3 : decode cX10_kings 3 = .ok (.istore_n 3, 1) := by decide +kernel
theorem dX10_kings_4 : decode cX10_kings 4 = .ok (.iload_n 3, 1) := by decide +kernel
theorem dX10_kings_5 : decode cX10_kings 5 = .ok (.aload_n 0, 1) := by decide +kernel
theorem dX10_kings_6 : decode cX10_kings 6 = .ok (.getfield 18, 3) := by decide +kernel
theorem dX10_kings_9 : decode cX10_kings 9 = .ok (.getfield 103, 3) := by decide +kernel
theorem dX10_kings_12 : decode cX10_kings 12 = .ok (.getfield 128, 3) := by decide +kernel
theorem dX10_kings_15 : decode cX10_kings 15 = .ok (.if_icmp .ge 41, 3) := by decide +kernel
theorem dX10_kings_18 : decode cX10_kings 18 = .ok (.aload_n 0, 1) := by decide +kernel
theorem dX10_kings_19 : decode cX10_kings 19 = .ok (.getfield 18, 3) := by decide +kernel
theorem dX10_kings_22 : decode cX10_kings 22 = .ok (.getfield 103, 3) := by decide +kernel
theorem dX10_kings_25 : decode cX10_kings 25 = .ok (.iload_n 3, 1) := by decide +kernel
theorem dX10_kings_26 : decode cX10_kings 26 = .ok (.invokevirtual 190, 3) := by decide +kernel
theorem dX10_kings_29 : decode cX10_kings 29 = .ok (.ifCond .ne 21, 3) := by decide +kernel
theorem dX10_kings_32 : decode cX10_kings 32 = .ok (.aload_n 0, 1) := by decide +kernel
theorem dX10_kings_33 : decode cX10_kings 33 = .ok (.getfield 18, 3) := by decide +kernel
theorem dX10_kings_36 : decode cX10_kings 36 = .ok (.getfield 103, 3) := by decide +kernel
theorem dX10_kings_39 : decode cX10_kings 39 = .ok (.iload_n 3, 1) := by decide +kernel
theorem dX10_kings_40 : decode cX10_kings 40 = .ok (.invokevirtual 193, 3) := by decide +kernel
theorem dX10_kings_43 : decode cX10_kings 43 = .ok (.iload_n 1, 1) := by decide +kernel
theorem dX10_kings_44 : decode cX10_kings 44 = .ok (.if_icmp .ne 6, 3) := by decide +kernel
theorem dX10_kings_47 : decode cX10_kings 47 = .ok (.iinc 2 1, 3) := by decide +kernel
theorem dX10_kings_50 : decode cX10_kings 50 = .ok (.iinc 3 1, 3) := by decide +kernel
theorem dX10_kings_53 : decode cX10_kings 53 = .ok (.goto (-49), 3) := by decide +kernel
theorem dX10_kings_56 : decode cX10_kings 56 = .ok (.iload_n 2, 1) := by decide +kernel
theorem dX10_kings_57 : decode cX10_kings 57 = .ok (.ireturn, 1) := by decide +kernel
theorem dX10_readToken_0 : decode cX10_readToken 0 = .ok (.aload_n 0, 1) := by decide +kernel
theorem dX10_readToken_1 : decode cX10_readToken 1 = .ok (.aload_n 0, 1) := by decide +kernel
theorem dX10_readToken_2 : decode cX10_readToken 2 = .ok (.aload_n 0, 1) := by decide +kernel
theorem dX10_readToken_3 : decode cX10_readToken 3 = .ok (.getfield 29, 3) := by decide +kernel
theorem dX10_readToken_6 : decode cX10_readToken 6 = .ok (.bipush 32, 2) := by decide +kernel
theorem dX10_readToken_8 : decode cX10_readToken 8 = .ok (.bipush 32, 2) := by decide +kernel
theorem dX10_readToken_10 : decode cX10_readToken 10 = .ok (.invokevirtual 196, 3) := by decide +kernel
theorem dX10_readToken_13 : decode cX10_readToken 13 = .ok (.putfield 29, 3) := by decide +kernel
theorem dX10_readToken_16 : decode cX10_readToken 16 = .ok (.aload_n 0, 1) := by decide +kernel
theorem dX10_readToken_17 : decode cX10_readToken 17 = .ok (.aload_n 0, 1) := by decide +kernel
theorem dX10_readToken_18 : decode cX10_readToken 18 = .ok (.getfield 29, 3) := by decide +kernel
theorem dX10_readToken_21 : decode cX10_readToken 21 = .ok (.putfield 93, 3) := by decide +kernel
theorem dX10_readToken_24 : decode cX10_readToken 24 = .ok (.aload_n 0, 1) := by decide +kernel
theorem dX10_readToken_25 : decode cX10_readToken 25 = .ok (.aload_n 0, 1) := by decide +kernel
theorem dX10_readToken_26 : decode cX10_readToken 26 = .ok (.getfield 29, 3) := by decide +kernel
theorem dX10_readToken_29 : decode cX10_readToken 29 = .ok (.invokevirtual 200, 3) := by decide +kernel
theorem dX10_readToken_32 : decode cX10_readToken 32 = .ok (.istore_n 1, 1) := by decide +kernel
theorem dX10_readToken_33 : decode cX10_readToken 33 = .ok (.aload_n 0, 1) := by decide +kernel
theorem dX10_readToken_34 : decode cX10_readToken 34 = .ok (.getfield 29, 3) := by decide +kernel
theorem dX10_readToken_37 : decode cX10_readToken 37 = .ok (.aload_n 0, 1) := by decide +kernel
theorem dX10_readToken_38 : decode cX10_readToken 38 = .ok (.getfield 22, 3) := by decide +kernel
theorem dX10_readToken_41 : decode cX10_readToken 41 = .ok (.if_icmp .lt 11, 3) := by decide +kernel
theorem dX10_readToken_44 : decode cX10_readToken 44 = .ok (.aload_n 0, 1) := by decide +kernel
theorem dX10_readToken_45 : decode cX10_readToken 45 = .ok (.iconst 4, 1) := by decide +kernel
theorem dX10_readToken_46 : decode cX10_readToken 46 = .ok (.putfield 55, 3) := by decide +kernel
theorem dX10_readToken_49 : decode cX10_readToken 49 = .ok (.goto 178, 3) := by decide +kernel
theorem dX10_readToken_52 : decode cX10_readToken 52 = .ok (.iload_n 1, 1) := by decide +kernel
theorem dX10_readToken_53 : decode cX10_readToken 53 = .ok (.bipush 59, 2) := by decide +kernel
theorem dX10_readToken_55 : decode cX10_readToken 55 = .ok (.if_icmp .ne 21, 3) := by decide +kernel
theorem dX10_readToken_58 : decode cX10_readToken 58 = .ok (.aload_n 0, 1) := by decide +kernel
theorem dX10_readToken_59 : decode cX10_readToken 59 = .ok (.iconst 3, 1) := by decide +kernel
theorem dX10_readToken_60 : decode cX10_readToken 60 = .ok (.putfield 55, 3) := by decide +kernel
theorem dX10_readToken_63 : decode cX10_readToken 63 = .ok (.aload_n 0, 1) := by decide +kernel
theorem dX10_readToken_64 : decode cX10_readToken 64 = .ok (.dup, 1) := by decide +kernel
theorem dX10_readToken_65 : decode cX10_readToken 65 = .ok (.getfield 29, 3) := by decide +kernel
theorem dX10_readToken_68 : decode cX10_readToken 68 = .ok (.iconst 1, 1) := by decide +kernel
theorem dX10_readToken_69 : decode cX10_readToken 69 = .ok (.iadd, 1) := by decide +kernel
theorem dX10_readToken_70 : decode cX10_readToken 70 = .ok (.putfield 29, 3) := by decide +kernel
theorem dX10_readToken_73 : decode cX10_readToken 73 = .ok (.goto 154, 3) := by decide +kernel
theorem dX10_readToken_76 : decode cX10_readToken 76 = .ok (.iload_n 1, 1) := by decide +kernel
theorem dX10_readToken_77 : decode cX10_readToken 77 = .ok (.bipush 97, 2) := by decide +kernel
theorem dX10_readToken_79 : decode cX10_readToken 79 = .ok (.if_icmp .lt 33, 3) := by decide +kernel
theorem dX10_readToken_82 : decode cX10_readToken 82 = .ok (.iload_n 1, 1) := by decide +kernel
theorem dX10_readToken_83 : decode cX10_readToken 83 = .ok (.bipush 122, 2) := by decide +kernel
theorem dX10_readToken_85 : decode cX10_readToken 85 = .ok (.if_icmp .gt 27, 3) := by decide +kernel
theorem dX10_readToken_88 : decode cX10_readToken 88 = .ok (.aload_n 0, 1) := by decide +kernel
theorem dX10_readToken_89 : decode cX10_readToken 89 = .ok (.iconst 1, 1) := by decide +kernel
theorem dX10_readToken_90 : decode cX10_readToken 90 = .ok (.putfield 55, 3) := by decide +kernel
theorem dX10_readToken_93 : decode cX10_readToken 93 = .ok (.aload_n 0, 1) := by decide +kernel
theorem dX10_readToken_94 : decode cX10_readToken 94 = .ok (.aload_n 0, 1) := by decide +kernel
theorem dX10_readToken_95 : decode cX10_readToken 95 = .ok (.aload_n 0, 1) := by decide +kernel
theorem dX10_readToken_96 : decode cX10_readToken 96 = .ok (.getfield 29, 3) := by decide +kernel
theorem dX10_readToken_99 : decode cX10_readToken 99 = .ok (.bipush 97, 2) := by decide +kernel
theorem dX10_readToken_101 : decode cX10_readToken 101 = .ok (.bipush 122, 2) := by decide +kernel
theorem dX10_readToken_103 : decode cX10_readToken 103 = .ok (.invokevirtual 196, 3) := by decide +kernel
theorem dX10_readToken_106 : decode cX10_readToken 106 = .ok (.putfield 29, 3) := by decide +kernel
theorem dX10_readToken_109 : decode cX10_readToken 109 = .ok (.goto 118, 3) := by decide +kernel
theorem dX10_readToken_112 : decode cX10_readToken 112 = .ok (.iload_n 1, 1) := by decide +kernel
theorem dX10_readToken_113 : decode cX10_readToken 113 = .ok (.bipush 48, 2) := by decide +kernel
theorem dX10_readToken_115 : decode cX10_readToken 115 = .ok (.if_icmp .lt 102, 3) := by decide +kernel
theorem dX10_readToken_118 : decode cX10_readToken 118 = .ok (.iload_n 1, 1) := by decide +kernel
theorem dX10_readToken_119 : decode cX10_readToken 119 = .ok (.bipush 57, 2) := by decide +kernel
theorem dX10_readToken_121 : decode cX10_readToken 121 = .ok (.if_icmp .gt 96, 3) := by decide +kernel
theorem dX10_readToken_124 : decode cX10_readToken 124 = .ok (.aload_n 0, 1) := by decide +kernel
theorem dX10_readToken_125 : decode cX10_readToken 125 = .ok (.iconst 2, 1) := by decide +kernel
theorem dX10_readToken_126 : decode cX10_readToken 126 = .ok (.putfield 55, 3) := by decide +kernel
theorem dX10_readToken_129 : decode cX10_readToken 129 = .ok (.aload_n 0, 1) := by decide +kernel
theorem dX10_readToken_130 : decode cX10_readToken 130 = .ok (.aload_n 0, 1) := by decide +kernel
theorem dX10_readToken_131 : decode cX10_readToken 131 = .ok (.aload_n 0, 1) := by decide +kernel
theorem dX10_readToken_132 : decode cX10_readToken 132 = .ok (.getfield 29, 3) := by decide +kernel
theorem dX10_readToken_135 : decode cX10_readToken 135 = .ok (.bipush 48, 2) := by decide +kernel
theorem dX10_readToken_137 : decode cX10_readToken 137 = .ok (.bipush 57, 2) := by decide +kernel
theorem dX10_readToken_139 : decode cX10_readToken 139 = .ok (.invokevirtual 196, 3) := by decide +kernel
theorem dX10_readToken_142 : decode cX10_readToken 142 = .ok (.putfield 29, 3) := by decide +kernel
theorem dX10_readToken_145 : decode cX10_readToken 145 = .ok (.aload_n 0, 1) := by decide +kernel
theorem dX10_readToken_146 : decode cX10_readToken 146 = .ok (.getfield 29, 3) := by decide +kernel
theorem dX10_readToken_149 : decode cX10_readToken 149 = .ok (.aload_n 0, 1) := by decide +kernel
theorem dX10_readToken_150 : decode cX10_readToken 150 = .ok (.getfield 93, 3) := by decide +kernel
theorem dX10_readToken_153 : decode cX10_readToken 153 = .ok (.isub, 1) := by decide +kernel
theorem dX10_readToken_154 : decode cX10_readToken 154 = .ok (.iconst 2, 1) := by decide +kernel
theorem dX10_readToken_155 : decode cX10_readToken 155 = .ok (.if_icmp .le 13, 3) := by decide +kernel
theorem dX10_readToken_158 : decode cX10_readToken 158 = .ok (.aload_n 0, 1) := by decide +kernel
theorem dX10_readToken_159 : decode cX10_readToken 159 = .ok (.iconst 1, 1) := by decide +kernel
theorem dX10_readToken_160 : decode cX10_readToken 160 = .ok (.aload_n 0, 1) := by decide +kernel
theorem dX10_readToken_161 : decode cX10_readToken 161 = .ok (.getfield 93, 3) := by decide +kernel
theorem dX10_readToken_164 : decode cX10_readToken 164 = .ok (.invokevirtual 96, 3) := by decide +kernel
theorem dX10_readToken_167 : decode cX10_readToken 167 = .ok (.ireturn, 1) := by decide +kernel
theorem dX10_readToken_168 : decode cX10_readToken 168 = .ok (.aload_n 0, 1) := by decide +kernel
theorem dX10_readToken_169 : decode cX10_readToken 169 = .ok (.iload_n 1, 1) := by decide +kernel
theorem dX10_readToken_170 : decode cX10_readToken 170 = .ok (.bipush 48, 2) := by decide +kernel
theorem dX10_readToken_172 : decode cX10_readToken 172 = .ok (.isub, 1) := by decide +kernel
theorem dX10_readToken_173 : decode cX10_readToken 173 = .ok (.putfield 107, 3) := by decide +kernel
theorem dX10_readToken_176 : decode cX10_readToken 176 = .ok (.aload_n 0, 1) := by decide +kernel
theorem dX10_readToken_177 : decode cX10_readToken 177 = .ok (.getfield 29, 3) := by decide +kernel
theorem dX10_readToken_180 : decode cX10_readToken 180 = .ok (.aload_n 0, 1) := by decide +kernel
theorem dX10_readToken_181 : decode cX10_readToken 181 = .ok (.getfield 93, 3) := by decide +kernel
theorem dX10_readToken_184 : decode cX10_readToken 184 = .ok (.isub, 1) := by decide +kernel
theorem dX10_readToken_185 : decode cX10_readToken 185 = .ok (.iconst 2, 1) := by decide +kernel
theorem dX10_readToken_186 : decode cX10_readToken 186 = .ok (.if_icmp .ne 41, 3) := by decide +kernel
theorem dX10_readToken_189 : decode cX10_readToken 189 = .ok (.aload_n 0, 1) := by decide +kernel
theorem dX10_readToken_190 : decode cX10_readToken 190 = .ok (.bipush 10, 2) := by decide +kernel
theorem dX10_readToken_192 : decode cX10_readToken 192 = .ok (.aload_n 0, 1) := by decide +kernel
theorem dX10_readToken_193 : decode cX10_readToken 193 = .ok (.getfield 107, 3) := by decide +kernel
theorem dX10_readToken_196 : decode cX10_readToken 196 = .ok (.imul, 1) := by decide +kernel
theorem dX10_readToken_197 : decode cX10_readToken 197 = .ok (.aload_n 0, 1) := by decide +kernel
theorem dX10_readToken_198 : decode cX10_readToken 198 = .ok (.aload_n 0, 1) := by decide +kernel
theorem dX10_readToken_199 : decode cX10_readToken 199 = .ok (.getfield 29, 3) := by decide +kernel
theorem dX10_readToken_202 : decode cX10_readToken 202 = .ok (.iconst 1, 1) := by decide +kernel
theorem dX10_readToken_203 : decode cX10_readToken 203 = .ok (.isub, 1) := by decide +kernel
theorem dX10_readToken_204 : decode cX10_readToken 204 = .ok (.invokevirtual 200, 3) := by decide +kernel
theorem dX10_readToken_207 : decode cX10_readToken 207 = .ok (.iadd, 1) := by decide +kernel
theorem dX10_readToken_208 : decode cX10_readToken 208 = .ok (.bipush 48, 2) := by decide +kernel
theorem dX10_readToken_210 : decode cX10_readToken 210 = .ok (.isub, 1) := by decide +kernel
theorem dX10_readToken_211 : decode cX10_readToken 211 = .ok (.putfield 107, 3) := by decide +kernel
theorem dX10_readToken_214 : decode cX10_readToken 214 = .ok (.goto 13, 3) := by decide +kernel
theorem dX10_readToken_217 : decode cX10_readToken 217 = .ok (.aload_n 0, 1) := by decide +kernel
theorem dX10_readToken_218 : decode cX10_readToken 218 = .ok (.iconst 1, 1) := by decide +kernel
theorem dX10_readToken_219 : decode cX10_readToken 219 = .ok (.aload_n 0, 1) := by decide +kernel
theorem dX10_readToken_220 : decode cX10_readToken 220 = .ok (.getfield 93, 3) := by decide +kernel
theorem dX10_readToken_223 : decode cX10_readToken 223 = .ok (.invokevirtual 96, 3) := by decide +kernel
theorem dX10_readToken_226 : decode cX10_readToken 226 = .ok (.ireturn, 1) := by decide +kernel
theorem dX10_readToken_227 : decode cX10_readToken 227 = .ok (.iconst 1, 1) := by decide +kernel
theorem dX10_readToken_228 : decode cX10_readToken 228 = .ok (.ireturn, 1) := by decide +kernel
theorem dX10_byteAt_0 : decode cX10_byteAt 0 = .ok (.iload_n 1, 1) := by decide +kernel
theorem dX10_byteAt_1 : decode cX10_byteAt 1 = .ok (.ifCond .lt 29, 3) := by decide +kernel
theorem dX10_byteAt_4 : decode cX10_byteAt 4 = .ok (.iload_n 1, 1) := by decide +kernel
theorem dX10_byteAt_5 : decode cX10_byteAt 5 = .ok (.aload_n 0, 1) := by decide +kernel
theorem dX10_byteAt_6 : decode cX10_byteAt 6 = .ok (.getfield 22, 3) := by decide +kernel
theorem dX10_byteAt_9 : decode cX10_byteAt 9 = .ok (.if_icmp .ge 21, 3) := by decide +kernel
theorem dX10_byteAt_12 : decode cX10_byteAt 12 = .ok (.iload_n 1, 1) := by decide +kernel
theorem dX10_byteAt_13 : decode cX10_byteAt 13 = .ok (.aload_n 0, 1) := by decide +kernel
theorem dX10_byteAt_14 : decode cX10_byteAt 14 = .ok (.getfield 9, 3) := by decide +kernel
theorem dX10_byteAt_17 : decode cX10_byteAt 17 = .ok (.arraylength, 1) := by decide +kernel
theorem dX10_byteAt_18 : decode cX10_byteAt 18 = .ok (.if_icmp .ge 12, 3) := by decide +kernel
theorem dX10_byteAt_21 : decode cX10_byteAt 21 = .ok (.aload_n 0, 1) := by decide +kernel
theorem dX10_byteAt_22 : decode cX10_byteAt 22 = .ok (.getfield 9, 3) := by decide +kernel
theorem dX10_byteAt_25 : decode cX10_byteAt 25 = .ok (.iload_n 1, 1) := by decide +kernel
theorem dX10_byteAt_26 : decode cX10_byteAt 26 = .ok (.baload, 1) := by decide +kernel
theorem dX10_byteAt_27 : decode cX10_byteAt 27 = .ok (.goto 5, 3) := by decide +kernel
theorem dX10_byteAt_30 : decode cX10_byteAt 30 = .ok (.bipush (-4), 2) := by decide +kernel
theorem dX10_byteAt_32 : decode cX10_byteAt 32 = .ok (.ireturn, 1) := by decide +kernel
theorem dX10_endOfRun_0 : decode cX10_endOfRun 0 = .ok (.iload_n 1, 1) := by decide +kernel
theorem dX10_endOfRun_1 : decode cX10_endOfRun 1 = .ok (.istore 4, 2) := by decide +kernel
theorem dX10_endOfRun_3 : decode cX10_endOfRun 3 = .ok (.iload 4, 2) := by decide +kernel
theorem dX10_endOfRun_5 : decode cX10_endOfRun 5 = .ok (.ifCond .lt 50, 3) := by decide +kernel
theorem dX10_endOfRun_8 : decode cX10_endOfRun 8 = .ok (.iload 4, 2) := by decide +kernel
theorem dX10_endOfRun_10 : decode cX10_endOfRun 10 = .ok (.aload_n 0, 1) := by decide +kernel
theorem dX10_endOfRun_11 : decode cX10_endOfRun 11 = .ok (.getfield 22, 3) := by decide +kernel
theorem dX10_endOfRun_14 : decode cX10_endOfRun 14 = .ok (.if_icmp .ge 41, 3) := by decide +kernel
theorem dX10_endOfRun_17 : decode cX10_endOfRun 17 = .ok (.iload 4, 2) := by decide +kernel
theorem dX10_endOfRun_19 : decode cX10_endOfRun 19 = .ok (.aload_n 0, 1) := by decide +kernel
theorem dX10_endOfRun_20 : decode cX10_endOfRun 20 = .ok (.getfield 9, 3) := by decide +kernel
theorem dX10_endOfRun_23 : decode cX10_endOfRun 23 = .ok (.arraylength, 1) := by decide +kernel
theorem dX10_endOfRun_24 : decode cX10_endOfRun 24 = .ok (.if_icmp .ge 31, 3) := by decide +kernel
theorem dX10_endOfRun_27 : decode cX10_endOfRun 27 = .ok (.aload_n 0, 1) := by decide +kernel
theorem dX10_endOfRun_28 : decode cX10_endOfRun 28 = .ok (.getfield 9, 3) := by decide +kernel
theorem dX10_endOfRun_31 : decode cX10_endOfRun 31 = .ok (.iload 4, 2) := by decide +kernel
theorem dX10_endOfRun_33 : decode cX10_endOfRun 33 = .ok (.baload, 1) := by decide +kernel
theorem dX10_endOfRun_34 : decode cX10_endOfRun 34 = .ok (.iload_n 2, 1) := by decide +kernel
theorem dX10_endOfRun_35 : decode cX10_endOfRun 35 = .ok (.if_icmp .lt 20, 3) := by decide +kernel
theorem dX10_endOfRun_38 : decode cX10_endOfRun 38 = .ok (.aload_n 0, 1) := by decide +kernel
theorem dX10_endOfRun_39 : decode cX10_endOfRun 39 = .ok (.getfield 9, 3) := by decide +kernel
theorem dX10_endOfRun_42 : decode cX10_endOfRun 42 = .ok (.iload 4, 2) := by decide +kernel
theorem dX10_endOfRun_44 : decode cX10_endOfRun 44 = .ok (.baload, 1) := by decide +kernel
theorem dX10_endOfRun_45 : decode cX10_endOfRun 45 = .ok (.iload_n 3, 1) := by decide +kernel
theorem dX10_endOfRun_46 : decode cX10_endOfRun 46 = .ok (.if_icmp .gt 9, 3) := by decide +kernel
theorem dX10_endOfRun_49 : decode cX10_endOfRun 49 = .ok (.iinc 4 1, 3) := by decide +kernel
theorem dX10_endOfRun_52 : decode cX10_endOfRun 52 = .ok (.goto (-49), 3) := by decide +kernel
theorem dX10_endOfRun_55 : decode cX10_endOfRun 55 = .ok (.iload 4, 2) := by decide +kernel
theorem dX10_endOfRun_57 : decode cX10_endOfRun 57 = .ok (.ireturn, 1) := by decide +kernel
theorem dX10_isName_0 : decode cX10_isName 0 = .ok (.aload_n 0, 1) := by decide +kernel
theorem dX10_isName_1 : decode cX10_isName 1 = .ok (.getfield 55, 3) := by decide +kernel
theorem dX10_isName_4 : decode cX10_isName 4 = .ok (.iconst 1, 1) := by decide +kernel
theorem dX10_isName_5 : decode cX10_isName 5 = .ok (.if_icmp .ne 19, 3) := by decide +kernel
theorem dX10_isName_8 : decode cX10_isName 8 = .ok (.aload_n 0, 1) := by decide +kernel
theorem dX10_isName_9 : decode cX10_isName 9 = .ok (.getfield 29, 3) := by decide +kernel
theorem dX10_isName_12 : decode cX10_isName 12 = .ok (.aload_n 0, 1) := by decide +kernel
theorem dX10_isName_13 : decode cX10_isName 13 = .ok (.getfield 93, 3) := by decide +kernel
theorem dX10_isName_16 : decode cX10_isName 16 = .ok (.isub, 1) := by decide +kernel
theorem dX10_isName_17 : decode cX10_isName 17 = .ok (.aload_n 1, 1) := by decide +kernel
theorem dX10_isName_18 : decode cX10_isName 18 = .ok (.invokevirtual 203, 3) := by decide +kernel
theorem dX10_isName_21 : decode cX10_isName 21 = .ok (.if_icmp .eq 5, 3) := by decide +kernel
theorem dX10_isName_24 : decode cX10_isName 24 = .ok (.iconst 0, 1) := by decide +kernel
theorem dX10_isName_25 : decode cX10_isName 25 = .ok (.ireturn, 1) := by decide +kernel
theorem dX10_isName_26 : decode cX10_isName 26 = .ok (.iconst 0, 1) := by decide +kernel
theorem dX10_isName_27 : decode cX10_isName 27 = .ok (.istore_n 2, 1) := by decide +kernel
theorem dX10_isName_28 : decode cX10_isName 28 = .ok (.iload_n 2, 1) := by decide +kernel
theorem dX10_isName_29 : decode cX10_isName 29 = .ok (.aload_n 1, 1) := by decide +kernel
theorem dX10_isName_30 : decode cX10_isName 30 = .ok (.invokevirtual 203, 3) := by decide +kernel
theorem dX10_isName_33 : decode cX10_isName 33 = .ok (.if_icmp .ge 29, 3) := by decide +kernel
theorem dX10_isName_36 : decode cX10_isName 36 = .ok (.aload_n 0, 1) := by decide +kernel
theorem dX10_isName_37 : decode cX10_isName 37 = .ok (.aload_n 0, 1) := by decide +kernel
theorem dX10_isName_38 : decode cX10_isName 38 = .ok (.getfield 93, 3) := by decide +kernel
theorem dX10_isName_41 : decode cX10_isName 41 = .ok (.iload_n 2, 1) := by decide +kernel
theorem dX10_isName_42 : decode cX10_isName 42 = .ok (.iadd, 1) := by decide +kernel
theorem dX10_isName_43 : decode cX10_isName 43 = .ok (.invokevirtual 200, 3) := by decide +kernel
theorem dX10_isName_46 : decode cX10_isName 46 = .ok (.aload_n 1, 1) := by decide +kernel
theorem dX10_isName_47 : decode cX10_isName 47 = .ok (.iload_n 2, 1) := by decide +kernel
theorem dX10_isName_48 : decode cX10_isName 48 = .ok (.invokevirtual 207, 3) := by decide +kernel
theorem dX10_isName_51 : decode cX10_isName 51 = .ok (.if_icmp .eq 5, 3) := by decide +kernel
theorem dX10_isName_54 : decode cX10_isName 54 = .ok (.iconst 0, 1) := by decide +kernel
theorem dX10_isName_55 : decode cX10_isName 55 = .ok (.ireturn, 1) := by decide +kernel
theorem dX10_isName_56 : decode cX10_isName 56 = .ok (.iinc 2 1, 3) := by decide +kernel
theorem dX10_isName_59 : decode cX10_isName 59 = .ok (.goto (-31), 3) := by decide +kernel
theorem dX10_isName_62 : decode cX10_isName 62 = .ok (.iconst 1, 1) := by decide +kernel
theorem dX10_isName_63 : decode cX10_isName 63 = .ok (.ireturn, 1) := by decide +kernel
theorem dX11_init_0 : decode cX11_init 0 = .ok (.aload_n 0, 1) := by decide +kernel
theorem dX11_init_1 : decode cX11_init 1 = .ok (.invokespecial 1, 3) := by decide +kernel
theorem dX11_init_4 : decode cX11_init 4 = .ok (.aload_n 0, 1) := by decide +kernel
theorem dX11_init_5 : decode cX11_init 5 = .ok (.new 7, 3) := by decide +kernel
theorem dX11_init_8 : decode cX11_init 8 = .ok (.dup, 1) := by decide +kernel
theorem dX11_init_9 : decode cX11_init 9 = .ok (.invokespecial 9, 3) := by decide +kernel
theorem dX11_init_12 : decode cX11_init 12 = .ok (.putfield 10, 3) := by decide +kernel
theorem dX11_init_15 : decode cX11_init 15 = .ok (.aload_n 0, 1) := by decide +kernel
theorem dX11_init_16 : decode cX11_init 16 = .ok (.iconst 2, 1) := by decide +kernel
theorem dX11_init_17 : decode cX11_init 17 = .ok (.anewarray 7, 3) := by decide +kernel
theorem dX11_init_20 : decode cX11_init 20 = .ok (.putfield 16, 3) := by decide +kernel
theorem dX11_init_23 : decode cX11_init 23 = .ok (.aload_n 0, 1) := by decide +kernel
theorem dX11_init_24 : decode cX11_init 24 = .ok (.iconst 2, 1) := by decide +kernel
theorem dX11_init_25 : decode cX11_init 25 = .ok (.newarray .boolean, 2) := by decide +kernel
theorem dX11_init_27 : decode cX11_init 27 = .ok (.putfield 20, 3) := by decide +kernel
theorem dX11_init_30 : decode cX11_init 30 = .ok (.aload_n 0, 1) := by decide +kernel
theorem dX11_init_31 : decode cX11_init 31 = .ok (.new 24, 3) := by decide +kernel
theorem dX11_init_34 : decode cX11_init 34 = .ok (.dup, 1) := by decide +kernel
theorem dX11_init_35 : decode cX11_init 35 = .ok (.invokespecial 26, 3) := by decide +kernel
theorem dX11_init_38 : decode cX11_init 38 = .ok (.putfield 27, 3) := by decide +kernel
theorem dX11_init_41 : decode cX11_init 41 = .ok (.aload_n 0, 1) := by decide +kernel
theorem dX11_init_42 : decode cX11_init 42 = .ok (.iconst 3, 1) := by decide +kernel
theorem dX11_init_43 : decode cX11_init 43 = .ok (.invokestatic 31, 3) := by decide +kernel
theorem dX11_init_46 : decode cX11_init 46 = .ok (.putfield 35, 3) := by decide +kernel
theorem dX11_init_49 : decode cX11_init 49 = .ok (.aload_n 0, 1) := by decide +kernel
theorem dX11_init_50 : decode cX11_init 50 = .ok (.new 39, 3) := by decide +kernel
theorem dX11_init_53 : decode cX11_init 53 = .ok (.dup, 1) := by decide +kernel
theorem dX11_init_54 : decode cX11_init 54 = .ok (.invokespecial 41, 3) := by decide +kernel
theorem dX11_init_57 : decode cX11_init 57 = .ok (.putfield 42, 3) := by decide +kernel
theorem dX11_init_60 : decode cX11_init 60 = .ok (.aload_n 0, 1) := by decide +kernel
theorem dX11_init_61 : decode cX11_init 61 = .ok (.new 46, 3) := by decide +kernel
theorem dX11_init_64 : decode cX11_init 64 = .ok (.dup, 1) := by decide +kernel
theorem dX11_init_65 : decode cX11_init 65 = .ok (.invokespecial 48, 3) := by decide +kernel
theorem dX11_init_68 : decode cX11_init 68 = .ok (.putfield 49, 3) := by decide +kernel
theorem dX11_init_71 : decode cX11_init 71 = .ok (.aload_n 0, 1) := by decide +kernel
theorem dX11_init_72 : decode cX11_init 72 = .ok (.new 53, 3) := by decide +kernel
theorem dX11_init_75 : decode cX11_init 75 = .ok (.dup, 1) := by decide +kernel
theorem dX11_init_76 : decode cX11_init 76 = .ok (.invokespecial 55, 3) := by decide +kernel
theorem dX11_init_79 : decode cX11_init 79 = .ok (.putfield 56, 3) := by decide +kernel
theorem dX11_init_82 : decode cX11_init 82 = .ok (.aload_n 0, 1) := by decide +kernel
theorem dX11_init_83 : decode cX11_init 83 = .ok (.new 60, 3) := by decide +kernel
theorem dX11_init_86 : decode cX11_init 86 = .ok (.dup, 1) := by decide +kernel
theorem dX11_init_87 : decode cX11_init 87 = .ok (.invokespecial 62, 3) := by decide +kernel
theorem dX11_init_90 : decode cX11_init 90 = .ok (.putfield 63, 3) := by decide +kernel
theorem dX11_init_93 : decode cX11_init 93 = .ok (.aload_n 0, 1) := by decide +kernel
theorem dX11_init_94 : decode cX11_init 94 = .ok (.getfield 10, 3) := by decide +kernel
theorem dX11_init_97 : decode cX11_init 97 = .ok (.invokevirtual 67, 3) := by decide +kernel
theorem dX11_init_100 : decode cX11_init 100 = .ok (.aload_n 0, 1) := by decide +kernel
theorem dX11_init_101 : decode cX11_init 101 = .ok (.getfield 10, 3) := by decide +kernel
theorem dX11_init_104 : decode cX11_init 104 = .ok (.invokevirtual 70, 3) := by decide +kernel
theorem dX11_init_107 : decode cX11_init 107 = .ok (.iconst 0, 1) := by decide +kernel
theorem dX11_init_108 : decode cX11_init 108 = .ok (.istore_n 1, 1) := by decide +kernel
theorem dX11_init_109 : decode cX11_init 109 = .ok (.iload_n 1, 1) := by decide +kernel
theorem dX11_init_110 : decode cX11_init 110 = .ok (.aload_n 0, 1) := by decide +kernel
theorem dX11_init_111 : decode cX11_init 111 = .ok (.getfield 16, 3) := by decide +kernel
theorem dX11_init_114 : decode cX11_init 114 = .ok (.arraylength, 1) := by decide +kernel
theorem dX11_init_115 : decode cX11_init 115 = .ok (.if_icmp .ge 22, 3) := by decide +kernel
theorem dX11_init_118 : decode cX11_init 118 = .ok (.aload_n 0, 1) := by decide +kernel
theorem dX11_init_119 : decode cX11_init 119 = .ok (.getfield 16, 3) := by decide +kernel
theorem dX11_init_122 : decode cX11_init 122 = .ok (.iload_n 1, 1) := by decide +kernel
theorem dX11_init_123 : decode cX11_init 123 = .ok (.new 7, 3) := by decide +kernel
theorem dX11_init_126 : decode cX11_init 126 = .ok (.dup, 1) := by decide +kernel
theorem dX11_init_127 : decode cX11_init 127 = .ok (.invokespecial 9, 3) := by decide +kernel
theorem dX11_init_130 : decode cX11_init 130 = .ok (.aastore, 1) := by decide +kernel
theorem dX11_init_131 : decode cX11_init 131 = .ok (.iinc 1 1, 3) := by decide +kernel
theorem dX11_init_134 : decode cX11_init 134 = .ok (.goto (-25), 3) := by decide +kernel
theorem dX11_init_137 : decode cX11_init 137 = .ok (.return_, 1) := by decide +kernel
theorem dX11_feed_0 : decode cX11_feed 0 = .ok (.aload_n 0, 1) := by decide +kernel
theorem dX11_feed_1 : decode cX11_feed 1 = .ok (.getfield 27, 3) := by decide +kernel
theorem dX11_feed_4 : decode cX11_feed 4 = .ok (.lload_n 1, 1) := by decide +kernel
theorem dX11_feed_5 : decode cX11_feed 5 = .ok (.invokevirtual 73, 3) := by decide +kernel
theorem dX11_feed_8 : decode cX11_feed 8 = .ok (.ifCond .eq 13, 3) := by decide +kernel
theorem dX11_feed_11 : decode cX11_feed 11 = .ok (.aload_n 0, 1) := by decide +kernel
theorem dX11_feed_12 : decode cX11_feed 12 = .ok (.getfield 27, 3) := by decide +kernel
theorem dX11_feed_15 : decode cX11_feed 15 = .ok (.getfield 77, 3) := by decide +kernel
theorem dX11_feed_18 : decode cX11_feed 18 = .ok (.goto 5, 3) := by decide +kernel
theorem dX11_feed_21 : decode cX11_feed 21 = .ok (.bipush (-3), 2) := by decide +kernel
theorem dX11_feed_23 : decode cX11_feed 23 = .ok (.ireturn, 1) := by decide +kernel
theorem dX11_end_0 : decode cX11_end 0 = .ok (.aload_n 0, 1) := by decide +kernel
theorem dX11_end_1 : decode cX11_end 1 = .ok (.getfield 27, 3) := by decide +kernel
theorem dX11_end_4 : decode cX11_end 4 = .ok (.getfield 77, 3) := by decide +kernel
theorem dX11_end_7 : decode cX11_end 7 = .ok (.istore_n 2, 1) := by decide +kernel
theorem dX11_end_8 : decode cX11_end 8 = .ok (.iload_n 1, 1) := by decide +kernel
theorem dX11_end_9 : decode cX11_end 9 = .ok (.ifCond .lt 8, 3) := by decide +kernel
theorem dX11_end_12 : decode cX11_end 12 = .ok (.iload_n 1, 1) := by decide +kernel
theorem dX11_end_13 : decode cX11_end 13 = .ok (.iload_n 2, 1) := by decide +kernel
theorem dX11_end_14 : decode cX11_end 14 = .ok (.if_icmp .le 5, 3) := by decide +kernel
theorem dX11_end_17 : decode cX11_end 17 = .ok (.iconst (-1), 1) := by decide +kernel
theorem dX11_end_18 : decode cX11_end 18 = .ok (.ireturn, 1) := by decide +kernel
theorem dX11_end_19 : decode cX11_end 19 = .ok (.aload_n 0, 1) := by decide +kernel
theorem dX11_end_20 : decode cX11_end 20 = .ok (.getfield 27, 3) := by decide +kernel
theorem dX11_end_23 : decode cX11_end 23 = .ok (.iload_n 1, 1) := by decide +kernel
theorem dX11_end_24 : decode cX11_end 24 = .ok (.putfield 77, 3) := by decide +kernel
theorem dX11_end_27 : decode cX11_end 27 = .ok (.iload_n 2, 1) := by decide +kernel
theorem dX11_end_28 : decode cX11_end 28 = .ok (.ireturn, 1) := by decide +kernel
theorem dX11_text_0 : decode cX11_text 0 = .ok (.aload_n 0, 1) := by decide +kernel
theorem dX11_text_1 : decode cX11_text 1 = .ok (.getfield 27, 3) := by decide +kernel
theorem dX11_text_4 : decode cX11_text 4 = .ok (.invokevirtual 81, 3) := by decide +kernel
theorem dX11_text_7 : decode cX11_text 7 = .ok (.istore_n 1, 1) := by decide +kernel
theorem dX11_text_8 : decode cX11_text 8 = .ok (.aload_n 0, 1) := by decide +kernel
theorem dX11_text_9 : decode cX11_text 9 = .ok (.getfield 27, 3) := by decide +kernel
theorem dX11_text_12 : decode cX11_text 12 = .ok (.iconst 0, 1) := by decide +kernel
theorem dX11_text_13 : decode cX11_text 13 = .ok (.putfield 77, 3) := by decide +kernel
theorem dX11_text_16 : decode cX11_text 16 = .ok (.aload_n 0, 1) := by decide +kernel
theorem dX11_text_17 : decode cX11_text 17 = .ok (.aload_n 0, 1) := by decide +kernel
theorem dX11_text_18 : decode cX11_text 18 = .ok (.getfield 27, 3) := by decide +kernel
theorem dX11_text_21 : decode cX11_text 21 = .ok (.getfield 85, 3) := by decide +kernel
theorem dX11_text_24 : decode cX11_text 24 = .ok (.putfield 88, 3) := by decide +kernel
theorem dX11_text_27 : decode cX11_text 27 = .ok (.iload_n 1, 1) := by decide +kernel
theorem dX11_text_28 : decode cX11_text 28 = .ok (.ifCond .ne 14, 3) := by decide +kernel
theorem dX11_text_31 : decode cX11_text 31 = .ok (.bipush (-10), 2) := by decide +kernel
theorem dX11_text_33 : decode cX11_text 33 = .ok (.aload_n 0, 1) := by decide +kernel
theorem dX11_text_34 : decode cX11_text 34 = .ok (.getfield 27, 3) := by decide +kernel
theorem dX11_text_37 : decode cX11_text 37 = .ok (.getfield 91, 3) := by decide +kernel
theorem dX11_text_40 : decode cX11_text 40 = .ok (.isub, 1) := by decide +kernel
theorem dX11_text_41 : decode cX11_text 41 = .ok (.ireturn, 1) := by decide +kernel
theorem dX11_text_42 : decode cX11_text 42 = .ok (.aload_n 0, 1) := by decide +kernel
theorem dX11_text_43 : decode cX11_text 43 = .ok (.getfield 10, 3) := by decide +kernel
theorem dX11_text_46 : decode cX11_text 46 = .ok (.aload_n 0, 1) := by decide +kernel
theorem dX11_text_47 : decode cX11_text 47 = .ok (.getfield 27, 3) := by decide +kernel
theorem dX11_text_50 : decode cX11_text 50 = .ok (.getfield 94, 3) := by decide +kernel
theorem dX11_text_53 : decode cX11_text 53 = .ok (.invokevirtual 97, 3) := by decide +kernel
theorem dX11_text_56 : decode cX11_text 56 = .ok (.iconst 0, 1) := by decide +kernel
theorem dX11_text_57 : decode cX11_text 57 = .ok (.istore_n 2, 1) := by decide +kernel
theorem dX11_text_58 : decode cX11_text 58 = .ok (.iload_n 2, 1) := by decide +kernel
theorem dX11_text_59 : decode cX11_text 59 = .ok (.aload_n 0, 1) := by decide +kernel
theorem dX11_text_60 : decode cX11_text 60 = .ok (.getfield 20, 3) := by decide +kernel
theorem dX11_text_63 : decode cX11_text 63 = .ok (.arraylength, 1) := by decide +kernel
theorem dX11_text_64 : decode cX11_text 64 = .ok (.if_icmp .ge 16, 3) := by decide +kernel
theorem dX11_text_67 : decode cX11_text 67 = .ok (.aload_n 0, 1) := by decide +kernel
theorem dX11_text_68 : decode cX11_text 68 = .ok (.getfield 20, 3) := by decide +kernel
theorem dX11_text_71 : decode cX11_text 71 = .ok (.iload_n 2, 1) := by decide +kernel
theorem dX11_text_72 : decode cX11_text 72 = .ok (.iconst 0, 1) := by decide +kernel
theorem dX11_text_73 : decode cX11_text 73 = .ok (.bastore, 1) := by decide +kernel
theorem dX11_text_74 : decode cX11_text 74 = .ok (.iinc 2 1, 3) := by decide +kernel
theorem dX11_text_77 : decode cX11_text 77 = .ok (.goto (-19), 3) := by decide +kernel
theorem dX11_text_80 : decode cX11_text 80 = .ok (.aload_n 0, 1) := by decide +kernel
theorem dX11_text_81 : decode cX11_text 81 = .ok (.getfield 27, 3) := by decide +kernel
theorem dX11_text_84 : decode cX11_text 84 = .ok (.getfield 101, 3) := by decide +kernel
theorem dX11_text_87 : decode cX11_text 87 = .ok (.ireturn, 1) := by decide +kernel
theorem dX11_fault_0 : decode cX11_fault 0 = .ok (.aload_n 0, 1) := by decide +kernel
theorem dX11_fault_1 : decode cX11_fault 1 = .ok (.getfield 88, 3) := by decide +kernel
theorem dX11_fault_4 : decode cX11_fault 4 = .ok (.ireturn, 1) := by decide +kernel
theorem dX11_rule_0 : decode cX11_rule 0 = .ok (.iload_n 1, 1) := by decide +kernel
theorem dX11_rule_1 : decode cX11_rule 1 = .ok (.tableswitch 124 0 6 #[43, 54, 65, 76, 87, 98, 106], 43) := by decide +kernel
theorem dX11_rule_44 : decode cX11_rule 44 = .ok (.aload_n 0, 1) := by decide +kernel
theorem dX11_rule_45 : decode cX11_rule 45 = .ok (.getfield 10, 3) := by decide +kernel
theorem dX11_rule_48 : decode cX11_rule 48 = .ok (.getfield 104, 3) := by decide +kernel
theorem dX11_rule_51 : decode cX11_rule 51 = .ok (.getfield 108, 3) := by decide +kernel
theorem dX11_rule_54 : decode cX11_rule 54 = .ok (.ireturn, 1) := by decide +kernel
theorem dX11_rule_55 : decode cX11_rule 55 = .ok (.aload_n 0, 1) := by decide +kernel
theorem dX11_rule_56 : decode cX11_rule 56 = .ok (.getfield 10, 3) := by decide +kernel
theorem dX11_rule_59 : decode cX11_rule 59 = .ok (.getfield 104, 3) := by decide +kernel
theorem dX11_rule_62 : decode cX11_rule 62 = .ok (.getfield 113, 3) := by decide +kernel
theorem dX11_rule_65 : decode cX11_rule 65 = .ok (.ireturn, 1) := by decide +kernel
theorem dX11_rule_66 : decode cX11_rule 66 = .ok (.aload_n 0, 1) := by decide +kernel
theorem dX11_rule_67 : decode cX11_rule 67 = .ok (.getfield 10, 3) := by decide +kernel
theorem dX11_rule_70 : decode cX11_rule 70 = .ok (.getfield 104, 3) := by decide +kernel
theorem dX11_rule_73 : decode cX11_rule 73 = .ok (.getfield 116, 3) := by decide +kernel
theorem dX11_rule_76 : decode cX11_rule 76 = .ok (.ireturn, 1) := by decide +kernel
theorem dX11_rule_77 : decode cX11_rule 77 = .ok (.aload_n 0, 1) := by decide +kernel
theorem dX11_rule_78 : decode cX11_rule 78 = .ok (.getfield 10, 3) := by decide +kernel
theorem dX11_rule_81 : decode cX11_rule 81 = .ok (.getfield 104, 3) := by decide +kernel
theorem dX11_rule_84 : decode cX11_rule 84 = .ok (.getfield 119, 3) := by decide +kernel
theorem dX11_rule_87 : decode cX11_rule 87 = .ok (.ireturn, 1) := by decide +kernel
theorem dX11_rule_88 : decode cX11_rule 88 = .ok (.aload_n 0, 1) := by decide +kernel
theorem dX11_rule_89 : decode cX11_rule 89 = .ok (.getfield 10, 3) := by decide +kernel
theorem dX11_rule_92 : decode cX11_rule 92 = .ok (.getfield 122, 3) := by decide +kernel
theorem dX11_rule_95 : decode cX11_rule 95 = .ok (.getfield 125, 3) := by decide +kernel
theorem dX11_rule_98 : decode cX11_rule 98 = .ok (.ireturn, 1) := by decide +kernel
theorem dX11_rule_99 : decode cX11_rule 99 = .ok (.aload_n 0, 1) := by decide +kernel
theorem dX11_rule_100 : decode cX11_rule 100 = .ok (.getfield 10, 3) := by decide +kernel
theorem dX11_rule_103 : decode cX11_rule 103 = .ok (.getfield 128, 3) := by decide +kernel
theorem dX11_rule_106 : decode cX11_rule 106 = .ok (.ireturn, 1) := by decide +kernel
theorem dX11_rule_107 : decode cX11_rule 107 = .ok (.aload_n 0, 1) := by decide +kernel
theorem dX11_rule_108 : decode cX11_rule 108 = .ok (.getfield 10, 3) := by decide +kernel
theorem dX11_rule_111 : decode cX11_rule 111 = .ok (.getfield 122, 3) := by decide +kernel
theorem dX11_rule_114 : decode cX11_rule 114 = .ok (.aload_n 0, 1) := by decide +kernel
theorem dX11_rule_115 : decode cX11_rule 115 = .ok (.getfield 10, 3) := by decide +kernel
theorem dX11_rule_118 : decode cX11_rule 118 = .ok (.getfield 104, 3) := by decide +kernel
theorem dX11_rule_121 : decode cX11_rule 121 = .ok (.invokevirtual 131, 3) := by decide +kernel
theorem dX11_rule_124 : decode cX11_rule 124 = .ok (.ireturn, 1) := by decide +kernel
theorem dX11_rule_125 : decode cX11_rule 125 = .ok (.iconst (-1), 1) := by decide +kernel
theorem dX11_rule_126 : decode cX11_rule 126 = .ok (.ireturn, 1) := by decide +kernel
theorem dX11_square_0 : decode cX11_square 0 = .ok (.aload_n 0, 1) := by decide +kernel
theorem dX11_square_1 : decode cX11_square 1 = .ok (.getfield 10, 3) := by decide +kernel
theorem dX11_square_4 : decode cX11_square 4 = .ok (.getfield 104, 3) := by decide +kernel
theorem dX11_square_7 : decode cX11_square 7 = .ok (.iload_n 1, 1) := by decide +kernel
theorem dX11_square_8 : decode cX11_square 8 = .ok (.invokevirtual 135, 3) := by decide +kernel
theorem dX11_square_11 : decode cX11_square 11 = .ok (.ifCond .eq 24, 3) := by decide +kernel
theorem dX11_square_14 : decode cX11_square 14 = .ok (.aload_n 0, 1) := by decide +kernel
theorem dX11_square_15 : decode cX11_square 15 = .ok (.getfield 10, 3) := by decide +kernel
theorem dX11_square_18 : decode cX11_square 18 = .ok (.getfield 122, 3) := by decide +kernel
theorem dX11_square_21 : decode cX11_square 21 = .ok (.aload_n 0, 1) := by decide +kernel
theorem dX11_square_22 : decode cX11_square 22 = .ok (.getfield 10, 3) := by decide +kernel
theorem dX11_square_25 : decode cX11_square 25 = .ok (.getfield 104, 3) := by decide +kernel
theorem dX11_square_28 : decode cX11_square 28 = .ok (.iload_n 1, 1) := by decide +kernel
theorem dX11_square_29 : decode cX11_square 29 = .ok (.invokevirtual 139, 3) := by decide +kernel
theorem dX11_square_32 : decode cX11_square 32 = .ok (.goto 4, 3) := by decide +kernel
theorem dX11_square_35 : decode cX11_square 35 = .ok (.iconst (-1), 1) := by decide +kernel
theorem dX11_square_36 : decode cX11_square 36 = .ok (.ireturn, 1) := by decide +kernel
theorem dX11_piece_0 : decode cX11_piece 0 = .ok (.aload_n 0, 1) := by decide +kernel
theorem dX11_piece_1 : decode cX11_piece 1 = .ok (.getfield 10, 3) := by decide +kernel
theorem dX11_piece_4 : decode cX11_piece 4 = .ok (.getfield 104, 3) := by decide +kernel
theorem dX11_piece_7 : decode cX11_piece 7 = .ok (.iload_n 1, 1) := by decide +kernel
theorem dX11_piece_8 : decode cX11_piece 8 = .ok (.invokevirtual 143, 3) := by decide +kernel
theorem dX11_piece_11 : decode cX11_piece 11 = .ok (.ifCond .ne 5, 3) := by decide +kernel
theorem dX11_piece_14 : decode cX11_piece 14 = .ok (.iconst (-1), 1) := by decide +kernel
theorem dX11_piece_15 : decode cX11_piece 15 = .ok (.ireturn, 1) := by decide +kernel
theorem dX11_piece_16 : decode cX11_piece 16 = .ok (.iload_n 2, 1) := by decide +kernel
theorem dX11_piece_17 : decode cX11_piece 17 = .ok (.tableswitch 79 0 3 #[31, 43, 55, 67], 31) := by decide +kernel
theorem dX11_piece_48 : decode cX11_piece 48 = .ok (.aload_n 0, 1) := by decide +kernel
theorem dX11_piece_49 : decode cX11_piece 49 = .ok (.getfield 10, 3) := by decide +kernel
theorem dX11_piece_52 : decode cX11_piece 52 = .ok (.getfield 104, 3) := by decide +kernel
theorem dX11_piece_55 : decode cX11_piece 55 = .ok (.iload_n 1, 1) := by decide +kernel
theorem dX11_piece_56 : decode cX11_piece 56 = .ok (.invokevirtual 146, 3) := by decide +kernel
theorem dX11_piece_59 : decode cX11_piece 59 = .ok (.ireturn, 1) := by decide +kernel
theorem dX11_piece_60 : decode cX11_piece 60 = .ok (.aload_n 0, 1) := by decide +kernel
theorem dX11_piece_61 : decode cX11_piece 61 = .ok (.getfield 10, 3) := by decide +kernel
theorem dX11_piece_64 : decode cX11_piece 64 = .ok (.getfield 104, 3) := by decide +kernel
theorem dX11_piece_67 : decode cX11_piece 67 = .ok (.iload_n 1, 1) := by decide +kernel
theorem dX11_piece_68 : decode cX11_piece 68 = .ok (.invokevirtual 150, 3) := by decide +kernel
theorem dX11_piece_71 : decode cX11_piece 71 = .ok (.ireturn, 1) := by decide +kernel
theorem dX11_piece_72 : decode cX11_piece 72 = .ok (.aload_n 0, 1) := by decide +kernel
theorem dX11_piece_73 : decode cX11_piece 73 = .ok (.getfield 10, 3) := by decide +kernel
theorem dX11_piece_76 : decode cX11_piece 76 = .ok (.getfield 122, 3) := by decide +kernel
theorem dX11_piece_79 : decode cX11_piece 79 = .ok (.iload_n 1, 1) := by decide +kernel
theorem dX11_piece_80 : decode cX11_piece 80 = .ok (.invokevirtual 153, 3) := by decide +kernel
theorem dX11_piece_83 : decode cX11_piece 83 = .ok (.ireturn, 1) := by decide +kernel
theorem dX11_piece_84 : decode cX11_piece 84 = .ok (.aload_n 0, 1) := by decide +kernel
theorem dX11_piece_85 : decode cX11_piece 85 = .ok (.getfield 10, 3) := by decide +kernel
theorem dX11_piece_88 : decode cX11_piece 88 = .ok (.getfield 122, 3) := by decide +kernel
theorem dX11_piece_91 : decode cX11_piece 91 = .ok (.iload_n 1, 1) := by decide +kernel
theorem dX11_piece_92 : decode cX11_piece 92 = .ok (.invokevirtual 156, 3) := by decide +kernel
theorem dX11_piece_95 : decode cX11_piece 95 = .ok (.ireturn, 1) := by decide +kernel
theorem dX11_piece_96 : decode cX11_piece 96 = .ok (.iconst (-1), 1) := by decide +kernel
theorem dX11_piece_97 : decode cX11_piece 97 = .ok (.ireturn, 1) := by decide +kernel
theorem dX11_odd_0 : decode cX11_odd 0 = .ok (.iload_n 1, 1) := by decide +kernel
theorem dX11_odd_1 : decode cX11_odd 1 = .ok (.invokestatic 159, 3) := by decide +kernel
theorem dX11_odd_4 : decode cX11_odd 4 = .ok (.ifCond .eq 17, 3) := by decide +kernel
theorem dX11_odd_7 : decode cX11_odd 7 = .ok (.aload_n 0, 1) := by decide +kernel
theorem dX11_odd_8 : decode cX11_odd 8 = .ok (.getfield 10, 3) := by decide +kernel
theorem dX11_odd_11 : decode cX11_odd 11 = .ok (.getfield 104, 3) := by decide +kernel
theorem dX11_odd_14 : decode cX11_odd 14 = .ok (.iload_n 1, 1) := by decide +kernel
theorem dX11_odd_15 : decode cX11_odd 15 = .ok (.invokevirtual 162, 3) := by decide +kernel
theorem dX11_odd_18 : decode cX11_odd 18 = .ok (.goto 4, 3) := by decide +kernel
theorem dX11_odd_21 : decode cX11_odd 21 = .ok (.iconst (-1), 1) := by decide +kernel
theorem dX11_odd_22 : decode cX11_odd 22 = .ok (.ireturn, 1) := by decide +kernel
theorem dX11_oil_0 : decode cX11_oil 0 = .ok (.aload_n 0, 1) := by decide +kernel
theorem dX11_oil_1 : decode cX11_oil 1 = .ok (.getfield 10, 3) := by decide +kernel
theorem dX11_oil_4 : decode cX11_oil 4 = .ok (.getfield 104, 3) := by decide +kernel
theorem dX11_oil_7 : decode cX11_oil 7 = .ok (.iload_n 1, 1) := by decide +kernel
theorem dX11_oil_8 : decode cX11_oil 8 = .ok (.invokevirtual 143, 3) := by decide +kernel
theorem dX11_oil_11 : decode cX11_oil 11 = .ok (.ifCond .eq 13, 3) := by decide +kernel
theorem dX11_oil_14 : decode cX11_oil 14 = .ok (.iload_n 2, 1) := by decide +kernel
theorem dX11_oil_15 : decode cX11_oil 15 = .ok (.ifCond .lt 9, 3) := by decide +kernel
theorem dX11_oil_18 : decode cX11_oil 18 = .ok (.iload_n 2, 1) := by decide +kernel
theorem dX11_oil_19 : decode cX11_oil 19 = .ok (.bipush 9, 2) := by decide +kernel
theorem dX11_oil_21 : decode cX11_oil 21 = .ok (.if_icmp .le 5, 3) := by decide +kernel
theorem dX11_oil_24 : decode cX11_oil 24 = .ok (.iconst (-1), 1) := by decide +kernel
theorem dX11_oil_25 : decode cX11_oil 25 = .ok (.ireturn, 1) := by decide +kernel
theorem dX11_oil_26 : decode cX11_oil 26 = .ok (.aload_n 0, 1) := by decide +kernel
theorem dX11_oil_27 : decode cX11_oil 27 = .ok (.getfield 10, 3) := by decide +kernel
theorem dX11_oil_30 : decode cX11_oil 30 = .ok (.getfield 122, 3) := by decide +kernel
theorem dX11_oil_33 : decode cX11_oil 33 = .ok (.iload_n 1, 1) := by decide +kernel
theorem dX11_oil_34 : decode cX11_oil 34 = .ok (.invokevirtual 156, 3) := by decide +kernel
theorem dX11_oil_37 : decode cX11_oil 37 = .ok (.istore_n 3, 1) := by decide +kernel
theorem dX11_oil_38 : decode cX11_oil 38 = .ok (.aload_n 0, 1) := by decide +kernel
theorem dX11_oil_39 : decode cX11_oil 39 = .ok (.getfield 10, 3) := by decide +kernel
theorem dX11_oil_42 : decode cX11_oil 42 = .ok (.getfield 122, 3) := by decide +kernel
theorem dX11_oil_45 : decode cX11_oil 45 = .ok (.iload_n 1, 1) := by decide +kernel
theorem dX11_oil_46 : decode cX11_oil 46 = .ok (.iload_n 2, 1) := by decide +kernel
theorem dX11_oil_47 : decode cX11_oil 47 = .ok (.invokevirtual 165, 3) := by decide +kernel
theorem dX11_oil_50 : decode cX11_oil 50 = .ok (.iload_n 3, 1) := by decide +kernel
theorem dX11_oil_51 : decode cX11_oil 51 = .ok (.ireturn, 1) := by decide +kernel
theorem dX11_put_0 : decode cX11_put 0 = .ok (.aload_n 0, 1) := by decide +kernel
theorem dX11_put_1 : decode cX11_put 1 = .ok (.getfield 10, 3) := by decide +kernel
theorem dX11_put_4 : decode cX11_put 4 = .ok (.getfield 104, 3) := by decide +kernel
theorem dX11_put_7 : decode cX11_put 7 = .ok (.iload_n 1, 1) := by decide +kernel
theorem dX11_put_8 : decode cX11_put 8 = .ok (.invokevirtual 143, 3) := by decide +kernel
theorem dX11_put_11 : decode cX11_put 11 = .ok (.ifCond .eq 31, 3) := by decide +kernel
theorem dX11_put_14 : decode cX11_put 14 = .ok (.aload_n 0, 1) := by decide +kernel
theorem dX11_put_15 : decode cX11_put 15 = .ok (.getfield 10, 3) := by decide +kernel
theorem dX11_put_18 : decode cX11_put 18 = .ok (.getfield 104, 3) := by decide +kernel
theorem dX11_put_21 : decode cX11_put 21 = .ok (.iload_n 2, 1) := by decide +kernel
theorem dX11_put_22 : decode cX11_put 22 = .ok (.invokevirtual 135, 3) := by decide +kernel
theorem dX11_put_25 : decode cX11_put 25 = .ok (.ifCond .eq 17, 3) := by decide +kernel
theorem dX11_put_28 : decode cX11_put 28 = .ok (.aload_n 0, 1) := by decide +kernel
theorem dX11_put_29 : decode cX11_put 29 = .ok (.getfield 10, 3) := by decide +kernel
theorem dX11_put_32 : decode cX11_put 32 = .ok (.getfield 104, 3) := by decide +kernel
theorem dX11_put_35 : decode cX11_put 35 = .ok (.iload_n 2, 1) := by decide +kernel
theorem dX11_put_36 : decode cX11_put 36 = .ok (.invokevirtual 169, 3) := by decide +kernel
theorem dX11_put_39 : decode cX11_put 39 = .ok (.ifCond .eq 5, 3) := by decide +kernel
theorem dX11_put_42 : decode cX11_put 42 = .ok (.iconst (-1), 1) := by decide +kernel
theorem dX11_put_43 : decode cX11_put 43 = .ok (.ireturn, 1) := by decide +kernel
theorem dX11_put_44 : decode cX11_put 44 = .ok (.aload_n 0, 1) := by decide +kernel
theorem dX11_put_45 : decode cX11_put 45 = .ok (.getfield 10, 3) := by decide +kernel
theorem dX11_put_48 : decode cX11_put 48 = .ok (.getfield 122, 3) := by decide +kernel
theorem dX11_put_51 : decode cX11_put 51 = .ok (.aload_n 0, 1) := by decide +kernel
theorem dX11_put_52 : decode cX11_put 52 = .ok (.getfield 10, 3) := by decide +kernel
theorem dX11_put_55 : decode cX11_put 55 = .ok (.getfield 104, 3) := by decide +kernel
theorem dX11_put_58 : decode cX11_put 58 = .ok (.iload_n 2, 1) := by decide +kernel
theorem dX11_put_59 : decode cX11_put 59 = .ok (.invokevirtual 139, 3) := by decide +kernel
theorem dX11_put_62 : decode cX11_put 62 = .ok (.istore_n 3, 1) := by decide +kernel
theorem dX11_put_63 : decode cX11_put 63 = .ok (.iload_n 3, 1) := by decide +kernel
theorem dX11_put_64 : decode cX11_put 64 = .ok (.bipush (-4), 2) := by decide +kernel
theorem dX11_put_66 : decode cX11_put 66 = .ok (.if_icmp .eq 10, 3) := by decide +kernel
theorem dX11_put_69 : decode cX11_put 69 = .ok (.iload_n 3, 1) := by decide +kernel
theorem dX11_put_70 : decode cX11_put 70 = .ok (.iload_n 1, 1) := by decide +kernel
theorem dX11_put_71 : decode cX11_put 71 = .ok (.if_icmp .eq 5, 3) := by decide +kernel
theorem dX11_put_74 : decode cX11_put 74 = .ok (.iconst (-1), 1) := by decide +kernel
theorem dX11_put_75 : decode cX11_put 75 = .ok (.ireturn, 1) := by decide +kernel
theorem dX11_put_76 : decode cX11_put 76 = .ok (.aload_n 0, 1) := by decide +kernel
theorem dX11_put_77 : decode cX11_put 77 = .ok (.getfield 10, 3) := by decide +kernel
theorem dX11_put_80 : decode cX11_put 80 = .ok (.getfield 122, 3) := by decide +kernel
theorem dX11_put_83 : decode cX11_put 83 = .ok (.iload_n 1, 1) := by decide +kernel
theorem dX11_put_84 : decode cX11_put 84 = .ok (.invokevirtual 153, 3) := by decide +kernel
theorem dX11_put_87 : decode cX11_put 87 = .ok (.istore 4, 2) := by decide +kernel
theorem dX11_put_89 : decode cX11_put 89 = .ok (.aload_n 0, 1) := by decide +kernel
theorem dX11_put_90 : decode cX11_put 90 = .ok (.getfield 10, 3) := by decide +kernel
theorem dX11_put_93 : decode cX11_put 93 = .ok (.getfield 122, 3) := by decide +kernel
theorem dX11_put_96 : decode cX11_put 96 = .ok (.aload_n 0, 1) := by decide +kernel
theorem dX11_put_97 : decode cX11_put 97 = .ok (.getfield 10, 3) := by decide +kernel
theorem dX11_put_100 : decode cX11_put 100 = .ok (.getfield 104, 3) := by decide +kernel
theorem dX11_put_103 : decode cX11_put 103 = .ok (.iload_n 1, 1) := by decide +kernel
theorem dX11_put_104 : decode cX11_put 104 = .ok (.iload_n 2, 1) := by decide +kernel
theorem dX11_put_105 : decode cX11_put 105 = .ok (.invokevirtual 172, 3) := by decide +kernel
theorem dX11_put_108 : decode cX11_put 108 = .ok (.iload 4, 2) := by decide +kernel
theorem dX11_put_110 : decode cX11_put 110 = .ok (.ireturn, 1) := by decide +kernel
theorem dX11_steeple_0 : decode cX11_steeple 0 = .ok (.aload_n 0, 1) := by decide +kernel
theorem dX11_steeple_1 : decode cX11_steeple 1 = .ok (.getfield 10, 3) := by decide +kernel
theorem dX11_steeple_4 : decode cX11_steeple 4 = .ok (.getfield 104, 3) := by decide +kernel
theorem dX11_steeple_7 : decode cX11_steeple 7 = .ok (.iload_n 1, 1) := by decide +kernel
theorem dX11_steeple_8 : decode cX11_steeple 8 = .ok (.invokevirtual 135, 3) := by decide +kernel
theorem dX11_steeple_11 : decode cX11_steeple 11 = .ok (.ifCond .eq 26, 3) := by decide +kernel
theorem dX11_steeple_14 : decode cX11_steeple 14 = .ok (.aload_n 0, 1) := by decide +kernel
theorem dX11_steeple_15 : decode cX11_steeple 15 = .ok (.getfield 10, 3) := by decide +kernel
theorem dX11_steeple_18 : decode cX11_steeple 18 = .ok (.getfield 122, 3) := by decide +kernel
theorem dX11_steeple_21 : decode cX11_steeple 21 = .ok (.aload_n 0, 1) := by decide +kernel
theorem dX11_steeple_22 : decode cX11_steeple 22 = .ok (.getfield 10, 3) := by decide +kernel
theorem dX11_steeple_25 : decode cX11_steeple 25 = .ok (.getfield 104, 3) := by decide +kernel
theorem dX11_steeple_28 : decode cX11_steeple 28 = .ok (.iload_n 1, 1) := by decide +kernel
theorem dX11_steeple_29 : decode cX11_steeple 29 = .ok (.invokevirtual 139, 3) := by decide +kernel
theorem dX11_steeple_32 : decode cX11_steeple 32 = .ok (.bipush (-4), 2) := by decide +kernel
theorem dX11_steeple_34 : decode cX11_steeple 34 = .ok (.if_icmp .eq 5, 3) := by decide +kernel
theorem dX11_steeple_37 : decode cX11_steeple 37 = .ok (.iconst (-1), 1) := by decide +kernel
theorem dX11_steeple_38 : decode cX11_steeple 38 = .ok (.ireturn, 1) := by decide +kernel
theorem dX11_steeple_39 : decode cX11_steeple 39 = .ok (.aload_n 0, 1) := by decide +kernel
theorem dX11_steeple_40 : decode cX11_steeple 40 = .ok (.getfield 10, 3) := by decide +kernel
theorem dX11_steeple_43 : decode cX11_steeple 43 = .ok (.getfield 104, 3) := by decide +kernel
theorem dX11_steeple_46 : decode cX11_steeple 46 = .ok (.iload_n 1, 1) := by decide +kernel
theorem dX11_steeple_47 : decode cX11_steeple 47 = .ok (.invokevirtual 169, 3) := by decide +kernel
theorem dX11_steeple_50 : decode cX11_steeple 50 = .ok (.istore_n 3, 1) := by decide +kernel
theorem dX11_steeple_51 : decode cX11_steeple 51 = .ok (.aload_n 0, 1) := by decide +kernel
theorem dX11_steeple_52 : decode cX11_steeple 52 = .ok (.getfield 10, 3) := by decide +kernel
theorem dX11_steeple_55 : decode cX11_steeple 55 = .ok (.getfield 104, 3) := by decide +kernel
theorem dX11_steeple_58 : decode cX11_steeple 58 = .ok (.iload_n 1, 1) := by decide +kernel
theorem dX11_steeple_59 : decode cX11_steeple 59 = .ok (.iload_n 2, 1) := by decide +kernel
theorem dX11_steeple_60 : decode cX11_steeple 60 = .ok (.invokevirtual 176, 3) := by decide +kernel
theorem dX11_steeple_63 : decode cX11_steeple 63 = .ok (.iload_n 3, 1) := by decide +kernel
theorem dX11_steeple_64 : decode cX11_steeple 64 = .ok (.ifCond .eq 7, 3) := by decide +kernel
theorem dX11_steeple_67 : decode cX11_steeple 67 = .ok (.iconst 1, 1) := by decide +kernel
theorem dX11_steeple_68 : decode cX11_steeple 68 = .ok (.goto 4, 3) := by decide +kernel
theorem dX11_steeple_71 : decode cX11_steeple 71 = .ok (.iconst 0, 1) := by decide +kernel
theorem dX11_steeple_72 : decode cX11_steeple 72 = .ok (.ireturn, 1) := by decide +kernel
theorem dX11_weigh_0 : decode cX11_weigh 0 = .ok (.iload_n 1, 1) := by decide +kernel
theorem dX11_weigh_1 : decode cX11_weigh 1 = .ok (.invokestatic 159, 3) := by decide +kernel
theorem dX11_weigh_4 : decode cX11_weigh 4 = .ok (.ifCond .eq 13, 3) := by decide +kernel
theorem dX11_weigh_7 : decode cX11_weigh 7 = .ok (.iload_n 2, 1) := by decide +kernel
theorem dX11_weigh_8 : decode cX11_weigh 8 = .ok (.ifCond .lt 9, 3) := by decide +kernel
theorem dX11_weigh_11 : decode cX11_weigh 11 = .ok (.iload_n 2, 1) := by decide +kernel
theorem dX11_weigh_12 : decode cX11_weigh 12 = .ok (.bipush 9, 2) := by decide +kernel
theorem dX11_weigh_14 : decode cX11_weigh 14 = .ok (.if_icmp .le 5, 3) := by decide +kernel
theorem dX11_weigh_17 : decode cX11_weigh 17 = .ok (.iconst (-1), 1) := by decide +kernel
theorem dX11_weigh_18 : decode cX11_weigh 18 = .ok (.ireturn, 1) := by decide +kernel
theorem dX11_weigh_19 : decode cX11_weigh 19 = .ok (.aload_n 0, 1) := by decide +kernel
theorem dX11_weigh_20 : decode cX11_weigh 20 = .ok (.getfield 10, 3) := by decide +kernel
theorem dX11_weigh_23 : decode cX11_weigh 23 = .ok (.getfield 104, 3) := by decide +kernel
theorem dX11_weigh_26 : decode cX11_weigh 26 = .ok (.iload_n 1, 1) := by decide +kernel
theorem dX11_weigh_27 : decode cX11_weigh 27 = .ok (.invokevirtual 162, 3) := by decide +kernel
theorem dX11_weigh_30 : decode cX11_weigh 30 = .ok (.istore_n 3, 1) := by decide +kernel
theorem dX11_weigh_31 : decode cX11_weigh 31 = .ok (.aload_n 0, 1) := by decide +kernel
theorem dX11_weigh_32 : decode cX11_weigh 32 = .ok (.getfield 10, 3) := by decide +kernel
theorem dX11_weigh_35 : decode cX11_weigh 35 = .ok (.getfield 104, 3) := by decide +kernel
theorem dX11_weigh_38 : decode cX11_weigh 38 = .ok (.invokevirtual 180, 3) := by decide +kernel
theorem dX11_weigh_41 : decode cX11_weigh 41 = .ok (.iload_n 3, 1) := by decide +kernel
theorem dX11_weigh_42 : decode cX11_weigh 42 = .ok (.isub, 1) := by decide +kernel
theorem dX11_weigh_43 : decode cX11_weigh 43 = .ok (.iload_n 2, 1) := by decide +kernel
theorem dX11_weigh_44 : decode cX11_weigh 44 = .ok (.iadd, 1) := by decide +kernel
theorem dX11_weigh_45 : decode cX11_weigh 45 = .ok (.ifCond .ne 5, 3) := by decide +kernel
theorem dX11_weigh_48 : decode cX11_weigh 48 = .ok (.iconst (-1), 1) := by decide +kernel
theorem dX11_weigh_49 : decode cX11_weigh 49 = .ok (.ireturn, 1) := by decide +kernel
theorem dX11_weigh_50 : decode cX11_weigh 50 = .ok (.aload_n 0, 1) := by decide +kernel
theorem dX11_weigh_51 : decode cX11_weigh 51 = .ok (.getfield 10, 3) := by decide +kernel
theorem dX11_weigh_54 : decode cX11_weigh 54 = .ok (.getfield 104, 3) := by decide +kernel
theorem dX11_weigh_57 : decode cX11_weigh 57 = .ok (.iload_n 1, 1) := by decide +kernel
theorem dX11_weigh_58 : decode cX11_weigh 58 = .ok (.iload_n 2, 1) := by decide +kernel
theorem dX11_weigh_59 : decode cX11_weigh 59 = .ok (.invokevirtual 184, 3) := by decide +kernel
theorem dX11_weigh_62 : decode cX11_weigh 62 = .ok (.iload_n 3, 1) := by decide +kernel
theorem dX11_weigh_63 : decode cX11_weigh 63 = .ok (.ireturn, 1) := by decide +kernel
theorem dX11_turn_0 : decode cX11_turn 0 = .ok (.iload_n 1, 1) := by decide +kernel
theorem dX11_turn_1 : decode cX11_turn 1 = .ok (.invokestatic 187, 3) := by decide +kernel
theorem dX11_turn_4 : decode cX11_turn 4 = .ok (.ifCond .ne 5, 3) := by decide +kernel
theorem dX11_turn_7 : decode cX11_turn 7 = .ok (.iconst (-1), 1) := by decide +kernel
theorem dX11_turn_8 : decode cX11_turn 8 = .ok (.ireturn, 1) := by decide +kernel
theorem dX11_turn_9 : decode cX11_turn 9 = .ok (.aload_n 0, 1) := by decide +kernel
theorem dX11_turn_10 : decode cX11_turn 10 = .ok (.getfield 10, 3) := by decide +kernel
theorem dX11_turn_13 : decode cX11_turn 13 = .ok (.getfield 122, 3) := by decide +kernel
theorem dX11_turn_16 : decode cX11_turn 16 = .ok (.getfield 125, 3) := by decide +kernel
theorem dX11_turn_19 : decode cX11_turn 19 = .ok (.istore_n 2, 1) := by decide +kernel
theorem dX11_turn_20 : decode cX11_turn 20 = .ok (.aload_n 0, 1) := by decide +kernel
theorem dX11_turn_21 : decode cX11_turn 21 = .ok (.getfield 10, 3) := by decide +kernel
theorem dX11_turn_24 : decode cX11_turn 24 = .ok (.getfield 122, 3) := by decide +kernel
theorem dX11_turn_27 : decode cX11_turn 27 = .ok (.iload_n 1, 1) := by decide +kernel
theorem dX11_turn_28 : decode cX11_turn 28 = .ok (.putfield 125, 3) := by decide +kernel
theorem dX11_turn_31 : decode cX11_turn 31 = .ok (.iload_n 2, 1) := by decide +kernel
theorem dX11_turn_32 : decode cX11_turn 32 = .ok (.ireturn, 1) := by decide +kernel
theorem dX11_moves_0 : decode cX11_moves 0 = .ok (.iload_n 1, 1) := by decide +kernel
theorem dX11_moves_1 : decode cX11_moves 1 = .ok (.invokestatic 159, 3) := by decide +kernel
theorem dX11_moves_4 : decode cX11_moves 4 = .ok (.ifCond .eq 11, 3) := by decide +kernel
theorem dX11_moves_7 : decode cX11_moves 7 = .ok (.aload_n 0, 1) := by decide +kernel
theorem dX11_moves_8 : decode cX11_moves 8 = .ok (.iload_n 1, 1) := by decide +kernel
theorem dX11_moves_9 : decode cX11_moves 9 = .ok (.invokevirtual 190, 3) := by decide +kernel
theorem dX11_moves_12 : decode cX11_moves 12 = .ok (.goto 4, 3) := by decide +kernel
theorem dX11_moves_15 : decode cX11_moves 15 = .ok (.iconst (-1), 1) := by decide +kernel
theorem dX11_moves_16 : decode cX11_moves 16 = .ok (.ireturn, 1) := by decide +kernel
theorem dX11_move_0 : decode cX11_move 0 = .ok (.iload_n 1, 1) := by decide +kernel
theorem dX11_move_1 : decode cX11_move 1 = .ok (.invokestatic 159, 3) := by decide +kernel
theorem dX11_move_4 : decode cX11_move 4 = .ok (.ifCond .ne 5, 3) := by decide +kernel
theorem dX11_move_7 : decode cX11_move 7 = .ok (.iconst (-1), 1) := by decide +kernel
theorem dX11_move_8 : decode cX11_move 8 = .ok (.ireturn, 1) := by decide +kernel
theorem dX11_move_9 : decode cX11_move 9 = .ok (.aload_n 0, 1) := by decide +kernel
theorem dX11_move_10 : decode cX11_move 10 = .ok (.iload_n 1, 1) := by decide +kernel
theorem dX11_move_11 : decode cX11_move 11 = .ok (.invokevirtual 190, 3) := by decide +kernel
theorem dX11_move_14 : decode cX11_move 14 = .ok (.istore_n 3, 1) := by decide +kernel
theorem dX11_move_15 : decode cX11_move 15 = .ok (.iload_n 2, 1) := by decide +kernel
theorem dX11_move_16 : decode cX11_move 16 = .ok (.ifCond .lt 19, 3) := by decide +kernel
theorem dX11_move_19 : decode cX11_move 19 = .ok (.iload_n 2, 1) := by decide +kernel
theorem dX11_move_20 : decode cX11_move 20 = .ok (.iload_n 3, 1) := by decide +kernel
theorem dX11_move_21 : decode cX11_move 21 = .ok (.if_icmp .ge 14, 3) := by decide +kernel
theorem dX11_move_24 : decode cX11_move 24 = .ok (.aload_n 0, 1) := by decide +kernel
theorem dX11_move_25 : decode cX11_move 25 = .ok (.getfield 35, 3) := by decide +kernel
theorem dX11_move_28 : decode cX11_move 28 = .ok (.iload_n 2, 1) := by decide +kernel
theorem dX11_move_29 : decode cX11_move 29 = .ok (.invokevirtual 193, 3) := by decide +kernel
theorem dX11_move_32 : decode cX11_move 32 = .ok (.goto 4, 3) := by decide +kernel
theorem dX11_move_35 : decode cX11_move 35 = .ok (.iconst (-1), 1) := by decide +kernel
theorem dX11_move_36 : decode cX11_move 36 = .ok (.ireturn, 1) := by decide +kernel
theorem dX11_go_0 : decode cX11_go 0 = .ok (.aload_n 0, 1) := by decide +kernel
theorem dX11_go_1 : decode cX11_go 1 = .ok (.iload_n 1, 1) := by decide +kernel
theorem dX11_go_2 : decode cX11_go 2 = .ok (.iload_n 2, 1) := by decide +kernel
theorem dX11_go_3 : decode cX11_go 3 = .ok (.invokevirtual 198, 3) := by decide +kernel
theorem dX11_go_6 : decode cX11_go 6 = .ok (.ireturn, 1) := by decide +kernel
theorem dX11_chance_0 : decode cX11_chance 0 = .ok (.iload_n 1, 1) := by decide +kernel
theorem dX11_chance_1 : decode cX11_chance 1 = .ok (.invokestatic 187, 3) := by decide +kernel
theorem dX11_chance_4 : decode cX11_chance 4 = .ok (.ifCond .eq 17, 3) := by decide +kernel
theorem dX11_chance_7 : decode cX11_chance 7 = .ok (.iload_n 2, 1) := by decide +kernel
theorem dX11_chance_8 : decode cX11_chance 8 = .ok (.invokestatic 202, 3) := by decide +kernel
theorem dX11_chance_11 : decode cX11_chance 11 = .ok (.ifCond .eq 10, 3) := by decide +kernel
theorem dX11_chance_14 : decode cX11_chance 14 = .ok (.iload_n 3, 1) := by decide +kernel
theorem dX11_chance_15 : decode cX11_chance 15 = .ok (.invokestatic 205, 3) := by decide +kernel
theorem dX11_chance_18 : decode cX11_chance 18 = .ok (.ifCond .ne 7, 3) := by decide +kernel
theorem dX11_chance_21 : decode cX11_chance 21 = .ok (.ldc2_w 208, 3) := by decide +kernel
theorem dX11_chance_24 : decode cX11_chance 24 = .ok (.lreturn, 1) := by decide +kernel
theorem dX11_chance_25 : decode cX11_chance 25 = .ok (.aload_n 0, 1) := by decide +kernel
theorem dX11_chance_26 : decode cX11_chance 26 = .ok (.getfield 35, 3) := by decide +kernel
theorem dX11_chance_29 : decode cX11_chance 29 = .ok (.getfield 210, 3) := by decide +kernel
theorem dX11_chance_32 : decode cX11_chance 32 = .ok (.aload_n 0, 1) := by decide +kernel
theorem dX11_chance_33 : decode cX11_chance 33 = .ok (.getfield 10, 3) := by decide +kernel
theorem dX11_chance_36 : decode cX11_chance 36 = .ok (.getfield 122, 3) := by decide +kernel
theorem dX11_chance_39 : decode cX11_chance 39 = .ok (.invokevirtual 211, 3) := by decide +kernel
theorem dX11_chance_42 : decode cX11_chance 42 = .ok (.aload_n 0, 1) := by decide +kernel
theorem dX11_chance_43 : decode cX11_chance 43 = .ok (.getfield 10, 3) := by decide +kernel
theorem dX11_chance_46 : decode cX11_chance 46 = .ok (.getfield 104, 3) := by decide +kernel
theorem dX11_chance_49 : decode cX11_chance 49 = .ok (.iload_n 1, 1) := by decide +kernel
theorem dX11_chance_50 : decode cX11_chance 50 = .ok (.aload_n 0, 1) := by decide +kernel
theorem dX11_chance_51 : decode cX11_chance 51 = .ok (.getfield 35, 3) := by decide +kernel
theorem dX11_chance_54 : decode cX11_chance 54 = .ok (.iload_n 2, 1) := by decide +kernel
theorem dX11_chance_55 : decode cX11_chance 55 = .ok (.invokestatic 214, 3) := by decide +kernel
theorem dX11_chance_58 : decode cX11_chance 58 = .ok (.lstore 4, 2) := by decide +kernel
theorem dX11_chance_60 : decode cX11_chance 60 = .ok (.lload 4, 2) := by decide +kernel
theorem dX11_chance_62 : decode cX11_chance 62 = .ok (.aload_n 0, 1) := by decide +kernel
theorem dX11_chance_63 : decode cX11_chance 63 = .ok (.getfield 10, 3) := by decide +kernel
theorem dX11_chance_66 : decode cX11_chance 66 = .ok (.getfield 104, 3) := by decide +kernel
theorem dX11_chance_69 : decode cX11_chance 69 = .ok (.invokevirtual 180, 3) := by decide +kernel
theorem dX11_chance_72 : decode cX11_chance 72 = .ok (.iload_n 2, 1) := by decide +kernel
theorem dX11_chance_73 : decode cX11_chance 73 = .ok (.invokestatic 218, 3) := by decide +kernel
theorem dX11_chance_76 : decode cX11_chance 76 = .ok (.iload_n 3, 1) := by decide +kernel
theorem dX11_chance_77 : decode cX11_chance 77 = .ok (.invokestatic 222, 3) := by decide +kernel
theorem dX11_chance_80 : decode cX11_chance 80 = .ok (.lreturn, 1) := by decide +kernel
theorem dX11_byWind_0 : decode cX11_byWind 0 = .ok (.iload_n 1, 1) := by decide +kernel
theorem dX11_byWind_1 : decode cX11_byWind 1 = .ok (.invokestatic 159, 3) := by decide +kernel
theorem dX11_byWind_4 : decode cX11_byWind 4 = .ok (.ifCond .eq 22, 3) := by decide +kernel
theorem dX11_byWind_7 : decode cX11_byWind 7 = .ok (.iload_n 2, 1) := by decide +kernel
theorem dX11_byWind_8 : decode cX11_byWind 8 = .ok (.invokestatic 202, 3) := by decide +kernel
theorem dX11_byWind_11 : decode cX11_byWind 11 = .ok (.ifCond .eq 15, 3) := by decide +kernel
theorem dX11_byWind_14 : decode cX11_byWind 14 = .ok (.iload_n 2, 1) := by decide +kernel
theorem dX11_byWind_15 : decode cX11_byWind 15 = .ok (.iconst 1, 1) := by decide +kernel
theorem dX11_byWind_16 : decode cX11_byWind 16 = .ok (.if_icmp .lt 10, 3) := by decide +kernel
theorem dX11_byWind_19 : decode cX11_byWind 19 = .ok (.iload_n 3, 1) := by decide +kernel
theorem dX11_byWind_20 : decode cX11_byWind 20 = .ok (.invokestatic 205, 3) := by decide +kernel
theorem dX11_byWind_23 : decode cX11_byWind 23 = .ok (.ifCond .ne 7, 3) := by decide +kernel
theorem dX11_byWind_26 : decode cX11_byWind 26 = .ok (.ldc2_w 208, 3) := by decide +kernel
theorem dX11_byWind_29 : decode cX11_byWind 29 = .ok (.lreturn, 1) := by decide +kernel
theorem dX11_byWind_30 : decode cX11_byWind 30 = .ok (.aload_n 0, 1) := by decide +kernel
theorem dX11_byWind_31 : decode cX11_byWind 31 = .ok (.invokevirtual 226, 3) := by decide +kernel
theorem dX11_byWind_34 : decode cX11_byWind 34 = .ok (.ifCond .eq 7, 3) := by decide +kernel
theorem dX11_byWind_37 : decode cX11_byWind 37 = .ok (.ldc2_w 229, 3) := by decide +kernel
theorem dX11_byWind_40 : decode cX11_byWind 40 = .ok (.lreturn, 1) := by decide +kernel
theorem dX11_byWind_41 : decode cX11_byWind 41 = .ok (.aload_n 0, 1) := by decide +kernel
theorem dX11_byWind_42 : decode cX11_byWind 42 = .ok (.iload_n 1, 1) := by decide +kernel
theorem dX11_byWind_43 : decode cX11_byWind 43 = .ok (.iload_n 2, 1) := by decide +kernel
theorem dX11_byWind_44 : decode cX11_byWind 44 = .ok (.invokevirtual 231, 3) := by decide +kernel
theorem dX11_byWind_47 : decode cX11_byWind 47 = .ok (.aload_n 0, 1) := by decide +kernel
theorem dX11_byWind_48 : decode cX11_byWind 48 = .ok (.getfield 10, 3) := by decide +kernel
theorem dX11_byWind_51 : decode cX11_byWind 51 = .ok (.getfield 104, 3) := by decide +kernel
theorem dX11_byWind_54 : decode cX11_byWind 54 = .ok (.invokevirtual 180, 3) := by decide +kernel
theorem dX11_byWind_57 : decode cX11_byWind 57 = .ok (.iload_n 2, 1) := by decide +kernel
theorem dX11_byWind_58 : decode cX11_byWind 58 = .ok (.iconst 1, 1) := by decide +kernel
theorem dX11_byWind_59 : decode cX11_byWind 59 = .ok (.isub, 1) := by decide +kernel
theorem dX11_byWind_60 : decode cX11_byWind 60 = .ok (.invokestatic 218, 3) := by decide +kernel
theorem dX11_byWind_63 : decode cX11_byWind 63 = .ok (.iload_n 3, 1) := by decide +kernel
theorem dX11_byWind_64 : decode cX11_byWind 64 = .ok (.invokestatic 222, 3) := by decide +kernel
theorem dX11_byWind_67 : decode cX11_byWind 67 = .ok (.lreturn, 1) := by decide +kernel
theorem dX11_best_0 : decode cX11_best 0 = .ok (.iload_n 1, 1) := by decide +kernel
theorem dX11_best_1 : decode cX11_best 1 = .ok (.invokestatic 159, 3) := by decide +kernel
theorem dX11_best_4 : decode cX11_best 4 = .ok (.ifCond .eq 15, 3) := by decide +kernel
theorem dX11_best_7 : decode cX11_best 7 = .ok (.iload_n 2, 1) := by decide +kernel
theorem dX11_best_8 : decode cX11_best 8 = .ok (.invokestatic 202, 3) := by decide +kernel
theorem dX11_best_11 : decode cX11_best 11 = .ok (.ifCond .eq 8, 3) := by decide +kernel
theorem dX11_best_14 : decode cX11_best 14 = .ok (.iload_n 2, 1) := by decide +kernel
theorem dX11_best_15 : decode cX11_best 15 = .ok (.iconst 1, 1) := by decide +kernel
theorem dX11_best_16 : decode cX11_best 16 = .ok (.if_icmp .ge 5, 3) := by decide +kernel
theorem dX11_best_19 : decode cX11_best 19 = .ok (.iconst (-1), 1) := by decide +kernel
theorem dX11_best_20 : decode cX11_best 20 = .ok (.ireturn, 1) := by decide +kernel
theorem dX11_best_21 : decode cX11_best 21 = .ok (.aload_n 0, 1) := by decide +kernel
theorem dX11_best_22 : decode cX11_best 22 = .ok (.invokevirtual 226, 3) := by decide +kernel
theorem dX11_best_25 : decode cX11_best 25 = .ok (.ifCond .eq 6, 3) := by decide +kernel
theorem dX11_best_28 : decode cX11_best 28 = .ok (.bipush (-2), 2) := by decide +kernel
theorem dX11_best_30 : decode cX11_best 30 = .ok (.ireturn, 1) := by decide +kernel
theorem dX11_best_31 : decode cX11_best 31 = .ok (.aload_n 0, 1) := by decide +kernel
theorem dX11_best_32 : decode cX11_best 32 = .ok (.iload_n 1, 1) := by decide +kernel
theorem dX11_best_33 : decode cX11_best 33 = .ok (.iload_n 2, 1) := by decide +kernel
theorem dX11_best_34 : decode cX11_best 34 = .ok (.invokevirtual 231, 3) := by decide +kernel
theorem dX11_best_37 : decode cX11_best 37 = .ok (.pop2, 1) := by decide +kernel
theorem dX11_best_38 : decode cX11_best 38 = .ok (.aload_n 0, 1) := by decide +kernel
theorem dX11_best_39 : decode cX11_best 39 = .ok (.getfield 35, 3) := by decide +kernel
theorem dX11_best_42 : decode cX11_best 42 = .ok (.getfield 234, 3) := by decide +kernel
theorem dX11_best_45 : decode cX11_best 45 = .ok (.ireturn, 1) := by decide +kernel
theorem dX11_hope_0 : decode cX11_hope 0 = .ok (.iload_n 1, 1) := by decide +kernel
theorem dX11_hope_1 : decode cX11_hope 1 = .ok (.invokestatic 202, 3) := by decide +kernel
theorem dX11_hope_4 : decode cX11_hope 4 = .ok (.ifCond .eq 8, 3) := by decide +kernel
theorem dX11_hope_7 : decode cX11_hope 7 = .ok (.iload_n 1, 1) := by decide +kernel
theorem dX11_hope_8 : decode cX11_hope 8 = .ok (.iconst 1, 1) := by decide +kernel
theorem dX11_hope_9 : decode cX11_hope 9 = .ok (.if_icmp .ge 5, 3) := by decide +kernel
theorem dX11_hope_12 : decode cX11_hope 12 = .ok (.iconst (-1), 1) := by decide +kernel
theorem dX11_hope_13 : decode cX11_hope 13 = .ok (.ireturn, 1) := by decide +kernel
theorem dX11_hope_14 : decode cX11_hope 14 = .ok (.aload_n 0, 1) := by decide +kernel
theorem dX11_hope_15 : decode cX11_hope 15 = .ok (.invokevirtual 226, 3) := by decide +kernel
theorem dX11_hope_18 : decode cX11_hope 18 = .ok (.ifCond .eq 6, 3) := by decide +kernel
theorem dX11_hope_21 : decode cX11_hope 21 = .ok (.bipush (-2), 2) := by decide +kernel
theorem dX11_hope_23 : decode cX11_hope 23 = .ok (.ireturn, 1) := by decide +kernel
theorem dX11_hope_24 : decode cX11_hope 24 = .ok (.iconst 0, 1) := by decide +kernel
theorem dX11_hope_25 : decode cX11_hope 25 = .ok (.istore_n 2, 1) := by decide +kernel
theorem dX11_hope_26 : decode cX11_hope 26 = .ok (.ldc2_w 208, 3) := by decide +kernel
theorem dX11_hope_29 : decode cX11_hope 29 = .ok (.lstore_n 3, 1) := by decide +kernel
theorem dX11_hope_30 : decode cX11_hope 30 = .ok (.iconst 0, 1) := by decide +kernel
theorem dX11_hope_31 : decode cX11_hope 31 = .ok (.istore 5, 2) := by decide +kernel
theorem dX11_hope_33 : decode cX11_hope 33 = .ok (.iload 5, 2) := by decide +kernel
theorem dX11_hope_35 : decode cX11_hope 35 = .ok (.iconst 5, 1) := by decide +kernel
theorem dX11_hope_36 : decode cX11_hope 36 = .ok (.if_icmp .ge 34, 3) := by decide +kernel
theorem dX11_hope_39 : decode cX11_hope 39 = .ok (.aload_n 0, 1) := by decide +kernel
theorem dX11_hope_40 : decode cX11_hope 40 = .ok (.iload 5, 2) := by decide +kernel
theorem dX11_hope_42 : decode cX11_hope 42 = .ok (.iload_n 1, 1) := by decide +kernel
theorem dX11_hope_43 : decode cX11_hope 43 = .ok (.invokevirtual 231, 3) := by decide +kernel
theorem dX11_hope_46 : decode cX11_hope 46 = .ok (.lstore 6, 2) := by decide +kernel
theorem dX11_hope_48 : decode cX11_hope 48 = .ok (.lload 6, 2) := by decide +kernel
theorem dX11_hope_50 : decode cX11_hope 50 = .ok (.lload_n 3, 1) := by decide +kernel
theorem dX11_hope_51 : decode cX11_hope 51 = .ok (.lcmp, 1) := by decide +kernel
theorem dX11_hope_52 : decode cX11_hope 52 = .ok (.ifCond .gt 6, 3) := by decide +kernel
theorem dX11_hope_55 : decode cX11_hope 55 = .ok (.goto 9, 3) := by decide +kernel
theorem dX11_hope_58 : decode cX11_hope 58 = .ok (.lload 6, 2) := by decide +kernel
theorem dX11_hope_60 : decode cX11_hope 60 = .ok (.lstore_n 3, 1) := by decide +kernel
theorem dX11_hope_61 : decode cX11_hope 61 = .ok (.iload 5, 2) := by decide +kernel
theorem dX11_hope_63 : decode cX11_hope 63 = .ok (.istore_n 2, 1) := by decide +kernel
theorem dX11_hope_64 : decode cX11_hope 64 = .ok (.iinc 5 1, 3) := by decide +kernel
theorem dX11_hope_67 : decode cX11_hope 67 = .ok (.goto (-34), 3) := by decide +kernel
theorem dX11_hope_70 : decode cX11_hope 70 = .ok (.iload_n 2, 1) := by decide +kernel
theorem dX11_hope_71 : decode cX11_hope 71 = .ok (.ireturn, 1) := by decide +kernel
theorem dX11_since_0 : decode cX11_since 0 = .ok (.iload_n 1, 1) := by decide +kernel
theorem dX11_since_1 : decode cX11_since 1 = .ok (.invokestatic 237, 3) := by decide +kernel
theorem dX11_since_4 : decode cX11_since 4 = .ok (.ifCond .eq 17, 3) := by decide +kernel
theorem dX11_since_7 : decode cX11_since 7 = .ok (.iload_n 2, 1) := by decide +kernel
theorem dX11_since_8 : decode cX11_since 8 = .ok (.invokestatic 202, 3) := by decide +kernel
theorem dX11_since_11 : decode cX11_since 11 = .ok (.ifCond .eq 10, 3) := by decide +kernel
theorem dX11_since_14 : decode cX11_since 14 = .ok (.iload_n 3, 1) := by decide +kernel
theorem dX11_since_15 : decode cX11_since 15 = .ok (.invokestatic 240, 3) := by decide +kernel
theorem dX11_since_18 : decode cX11_since 18 = .ok (.ifCond .ne 5, 3) := by decide +kernel
theorem dX11_since_21 : decode cX11_since 21 = .ok (.iconst (-1), 1) := by decide +kernel
theorem dX11_since_22 : decode cX11_since 22 = .ok (.ireturn, 1) := by decide +kernel
theorem dX11_since_23 : decode cX11_since 23 = .ok (.aload_n 0, 1) := by decide +kernel
theorem dX11_since_24 : decode cX11_since 24 = .ok (.iload_n 1, 1) := by decide +kernel
theorem dX11_since_25 : decode cX11_since 25 = .ok (.invokevirtual 243, 3) := by decide +kernel
theorem dX11_since_28 : decode cX11_since 28 = .ok (.astore 4, 2) := by decide +kernel
theorem dX11_since_30 : decode cX11_since 30 = .ok (.aload 4, 2) := by decide +kernel
theorem dX11_since_32 : decode cX11_since 32 = .ok (.ifnonnull 6, 3) := by decide +kernel
theorem dX11_since_35 : decode cX11_since 35 = .ok (.bipush (-2), 2) := by decide +kernel
theorem dX11_since_37 : decode cX11_since 37 = .ok (.ireturn, 1) := by decide +kernel
theorem dX11_since_38 : decode cX11_since 38 = .ok (.aload_n 0, 1) := by decide +kernel
theorem dX11_since_39 : decode cX11_since 39 = .ok (.getfield 42, 3) := by decide +kernel
theorem dX11_since_42 : decode cX11_since 42 = .ok (.getfield 247, 3) := by decide +kernel
theorem dX11_since_45 : decode cX11_since 45 = .ok (.aload_n 0, 1) := by decide +kernel
theorem dX11_since_46 : decode cX11_since 46 = .ok (.getfield 10, 3) := by decide +kernel
theorem dX11_since_49 : decode cX11_since 49 = .ok (.getfield 104, 3) := by decide +kernel
theorem dX11_since_52 : decode cX11_since 52 = .ok (.aload_n 0, 1) := by decide +kernel
theorem dX11_since_53 : decode cX11_since 53 = .ok (.getfield 10, 3) := by decide +kernel
theorem dX11_since_56 : decode cX11_since 56 = .ok (.getfield 122, 3) := by decide +kernel
theorem dX11_since_59 : decode cX11_since 59 = .ok (.invokevirtual 251, 3) := by decide +kernel
theorem dX11_since_62 : decode cX11_since 62 = .ok (.aload_n 0, 1) := by decide +kernel
theorem dX11_since_63 : decode cX11_since 63 = .ok (.getfield 42, 3) := by decide +kernel
theorem dX11_since_66 : decode cX11_since 66 = .ok (.aload_n 0, 1) := by decide +kernel
theorem dX11_since_67 : decode cX11_since 67 = .ok (.getfield 10, 3) := by decide +kernel
theorem dX11_since_70 : decode cX11_since 70 = .ok (.getfield 104, 3) := by decide +kernel
theorem dX11_since_73 : decode cX11_since 73 = .ok (.aload 4, 2) := by decide +kernel
theorem dX11_since_75 : decode cX11_since 75 = .ok (.getfield 122, 3) := by decide +kernel
theorem dX11_since_78 : decode cX11_since 78 = .ok (.aload_n 0, 1) := by decide +kernel
theorem dX11_since_79 : decode cX11_since 79 = .ok (.getfield 42, 3) := by decide +kernel
theorem dX11_since_82 : decode cX11_since 82 = .ok (.getfield 247, 3) := by decide +kernel
theorem dX11_since_85 : decode cX11_since 85 = .ok (.aload_n 0, 1) := by decide +kernel
theorem dX11_since_86 : decode cX11_since 86 = .ok (.getfield 35, 3) := by decide +kernel
theorem dX11_since_89 : decode cX11_since 89 = .ok (.iload_n 2, 1) := by decide +kernel
theorem dX11_since_90 : decode cX11_since 90 = .ok (.invokevirtual 257, 3) := by decide +kernel
theorem dX11_since_93 : decode cX11_since 93 = .ok (.istore 5, 2) := by decide +kernel
theorem dX11_since_95 : decode cX11_since 95 = .ok (.iload_n 3, 1) := by decide +kernel
theorem dX11_since_96 : decode cX11_since 96 = .ok (.ifCond .ne 6, 3) := by decide +kernel
theorem dX11_since_99 : decode cX11_since 99 = .ok (.iload 5, 2) := by decide +kernel
theorem dX11_since_101 : decode cX11_since 101 = .ok (.ireturn, 1) := by decide +kernel
theorem dX11_since_102 : decode cX11_since 102 = .ok (.iload_n 3, 1) := by decide +kernel
theorem dX11_since_103 : decode cX11_since 103 = .ok (.bipush 10, 2) := by decide +kernel
theorem dX11_since_105 : decode cX11_since 105 = .ok (.isub, 1) := by decide +kernel
theorem dX11_since_106 : decode cX11_since 106 = .ok (.istore 6, 2) := by decide +kernel
theorem dX11_since_108 : decode cX11_since 108 = .ok (.iload 5, 2) := by decide +kernel
theorem dX11_since_110 : decode cX11_since 110 = .ok (.ifCond .le 21, 3) := by decide +kernel
theorem dX11_since_113 : decode cX11_since 113 = .ok (.iload 6, 2) := by decide +kernel
theorem dX11_since_115 : decode cX11_since 115 = .ok (.iload_n 2, 1) := by decide +kernel
theorem dX11_since_116 : decode cX11_since 116 = .ok (.if_icmp .ge 15, 3) := by decide +kernel
theorem dX11_since_119 : decode cX11_since 119 = .ok (.aload_n 0, 1) := by decide +kernel
theorem dX11_since_120 : decode cX11_since 120 = .ok (.getfield 42, 3) := by decide +kernel
theorem dX11_since_123 : decode cX11_since 123 = .ok (.iload 6, 2) := by decide +kernel
theorem dX11_since_125 : decode cX11_since 125 = .ok (.invokevirtual 261, 3) := by decide +kernel
theorem dX11_since_128 : decode cX11_since 128 = .ok (.goto 5, 3) := by decide +kernel
theorem dX11_since_131 : decode cX11_since 131 = .ok (.bipush (-4), 2) := by decide +kernel
theorem dX11_since_133 : decode cX11_since 133 = .ok (.ireturn, 1) := by decide +kernel
theorem dX11_see_0 : decode cX11_see 0 = .ok (.aload_n 0, 1) := by decide +kernel
theorem dX11_see_1 : decode cX11_see 1 = .ok (.getfield 10, 3) := by decide +kernel
theorem dX11_see_4 : decode cX11_see 4 = .ok (.getfield 104, 3) := by decide +kernel
theorem dX11_see_7 : decode cX11_see 7 = .ok (.iload_n 1, 1) := by decide +kernel
theorem dX11_see_8 : decode cX11_see 8 = .ok (.invokevirtual 135, 3) := by decide +kernel
theorem dX11_see_11 : decode cX11_see 11 = .ok (.ifCond .eq 16, 3) := by decide +kernel
theorem dX11_see_14 : decode cX11_see 14 = .ok (.iload_n 2, 1) := by decide +kernel
theorem dX11_see_15 : decode cX11_see 15 = .ok (.invokestatic 187, 3) := by decide +kernel
theorem dX11_see_18 : decode cX11_see 18 = .ok (.ifCond .ne 11, 3) := by decide +kernel
theorem dX11_see_21 : decode cX11_see 21 = .ok (.iload_n 2, 1) := by decide +kernel
theorem dX11_see_22 : decode cX11_see 22 = .ok (.bipush (-4), 2) := by decide +kernel
theorem dX11_see_24 : decode cX11_see 24 = .ok (.if_icmp .eq 5, 3) := by decide +kernel
theorem dX11_see_27 : decode cX11_see 27 = .ok (.iconst (-1), 1) := by decide +kernel
theorem dX11_see_28 : decode cX11_see 28 = .ok (.ireturn, 1) := by decide +kernel
theorem dX11_see_29 : decode cX11_see 29 = .ok (.aload_n 0, 1) := by decide +kernel
theorem dX11_see_30 : decode cX11_see 30 = .ok (.getfield 10, 3) := by decide +kernel
theorem dX11_see_33 : decode cX11_see 33 = .ok (.iload_n 1, 1) := by decide +kernel
theorem dX11_see_34 : decode cX11_see 34 = .ok (.iload_n 2, 1) := by decide +kernel
theorem dX11_see_35 : decode cX11_see 35 = .ok (.invokevirtual 264, 3) := by decide +kernel
theorem dX11_see_38 : decode cX11_see 38 = .ok (.ifCond .eq 13, 3) := by decide +kernel
theorem dX11_see_41 : decode cX11_see 41 = .ok (.aload_n 0, 1) := by decide +kernel
theorem dX11_see_42 : decode cX11_see 42 = .ok (.getfield 10, 3) := by decide +kernel
theorem dX11_see_45 : decode cX11_see 45 = .ok (.getfield 268, 3) := by decide +kernel
theorem dX11_see_48 : decode cX11_see 48 = .ok (.goto 5, 3) := by decide +kernel
theorem dX11_see_51 : decode cX11_see 51 = .ok (.bipush (-3), 2) := by decide +kernel
theorem dX11_see_53 : decode cX11_see 53 = .ok (.ireturn, 1) := by decide +kernel
theorem dX11_forget_0 : decode cX11_forget 0 = .ok (.aload_n 0, 1) := by decide +kernel
theorem dX11_forget_1 : decode cX11_forget 1 = .ok (.getfield 10, 3) := by decide +kernel
theorem dX11_forget_4 : decode cX11_forget 4 = .ok (.getfield 268, 3) := by decide +kernel
theorem dX11_forget_7 : decode cX11_forget 7 = .ok (.istore_n 2, 1) := by decide +kernel
theorem dX11_forget_8 : decode cX11_forget 8 = .ok (.iload_n 1, 1) := by decide +kernel
theorem dX11_forget_9 : decode cX11_forget 9 = .ok (.ifCond .lt 8, 3) := by decide +kernel
theorem dX11_forget_12 : decode cX11_forget 12 = .ok (.iload_n 1, 1) := by decide +kernel
theorem dX11_forget_13 : decode cX11_forget 13 = .ok (.iload_n 2, 1) := by decide +kernel
theorem dX11_forget_14 : decode cX11_forget 14 = .ok (.if_icmp .le 5, 3) := by decide +kernel
theorem dX11_forget_17 : decode cX11_forget 17 = .ok (.iconst (-1), 1) := by decide +kernel
theorem dX11_forget_18 : decode cX11_forget 18 = .ok (.ireturn, 1) := by decide +kernel
theorem dX11_forget_19 : decode cX11_forget 19 = .ok (.aload_n 0, 1) := by decide +kernel
theorem dX11_forget_20 : decode cX11_forget 20 = .ok (.getfield 10, 3) := by decide +kernel
theorem dX11_forget_23 : decode cX11_forget 23 = .ok (.iload_n 1, 1) := by decide +kernel
theorem dX11_forget_24 : decode cX11_forget 24 = .ok (.putfield 268, 3) := by decide +kernel
theorem dX11_forget_27 : decode cX11_forget 27 = .ok (.iload_n 2, 1) := by decide +kernel
theorem dX11_forget_28 : decode cX11_forget 28 = .ok (.ireturn, 1) := by decide +kernel
theorem dX11_fits_0 : decode cX11_fits 0 = .ok (.iload_n 1, 1) := by decide +kernel
theorem dX11_fits_1 : decode cX11_fits 1 = .ok (.invokestatic 202, 3) := by decide +kernel
theorem dX11_fits_4 : decode cX11_fits 4 = .ok (.ifCond .eq 13, 3) := by decide +kernel
theorem dX11_fits_7 : decode cX11_fits 7 = .ok (.aload_n 0, 1) := by decide +kernel
theorem dX11_fits_8 : decode cX11_fits 8 = .ok (.bipush (-4), 2) := by decide +kernel
theorem dX11_fits_10 : decode cX11_fits 10 = .ok (.iload_n 1, 1) := by decide +kernel
theorem dX11_fits_11 : decode cX11_fits 11 = .ok (.invokevirtual 271, 3) := by decide +kernel
theorem dX11_fits_14 : decode cX11_fits 14 = .ok (.goto 4, 3) := by decide +kernel
theorem dX11_fits_17 : decode cX11_fits 17 = .ok (.iconst (-1), 1) := by decide +kernel
theorem dX11_fits_18 : decode cX11_fits 18 = .ok (.ireturn, 1) := by decide +kernel
theorem dX11_where_0 : decode cX11_where 0 = .ok (.aload_n 0, 1) := by decide +kernel
theorem dX11_where_1 : decode cX11_where 1 = .ok (.getfield 10, 3) := by decide +kernel
theorem dX11_where_4 : decode cX11_where 4 = .ok (.getfield 104, 3) := by decide +kernel
theorem dX11_where_7 : decode cX11_where 7 = .ok (.iload_n 1, 1) := by decide +kernel
theorem dX11_where_8 : decode cX11_where 8 = .ok (.invokevirtual 143, 3) := by decide +kernel
theorem dX11_where_11 : decode cX11_where 11 = .ok (.ifCond .eq 10, 3) := by decide +kernel
theorem dX11_where_14 : decode cX11_where 14 = .ok (.iload_n 2, 1) := by decide +kernel
theorem dX11_where_15 : decode cX11_where 15 = .ok (.invokestatic 202, 3) := by decide +kernel
theorem dX11_where_18 : decode cX11_where 18 = .ok (.ifCond .ne 5, 3) := by decide +kernel
theorem dX11_where_21 : decode cX11_where 21 = .ok (.iconst (-1), 1) := by decide +kernel
theorem dX11_where_22 : decode cX11_where 22 = .ok (.ireturn, 1) := by decide +kernel
theorem dX11_where_23 : decode cX11_where 23 = .ok (.aload_n 0, 1) := by decide +kernel
theorem dX11_where_24 : decode cX11_where 24 = .ok (.iload_n 1, 1) := by decide +kernel
theorem dX11_where_25 : decode cX11_where 25 = .ok (.iload_n 2, 1) := by decide +kernel
theorem dX11_where_26 : decode cX11_where 26 = .ok (.invokevirtual 271, 3) := by decide +kernel
theorem dX11_where_29 : decode cX11_where 29 = .ok (.pop, 1) := by decide +kernel
theorem dX11_where_30 : decode cX11_where 30 = .ok (.aload_n 0, 1) := by decide +kernel
theorem dX11_where_31 : decode cX11_where 31 = .ok (.getfield 42, 3) := by decide +kernel
theorem dX11_where_34 : decode cX11_where 34 = .ok (.getfield 274, 3) := by decide +kernel
theorem dX11_where_37 : decode cX11_where 37 = .ok (.ireturn, 1) := by decide +kernel
theorem dX11_tell_0 : decode cX11_tell 0 = .ok (.iload_n 1, 1) := by decide +kernel
theorem dX11_tell_1 : decode cX11_tell 1 = .ok (.invokestatic 159, 3) := by decide +kernel
theorem dX11_tell_4 : decode cX11_tell 4 = .ok (.ifCond .ne 5, 3) := by decide +kernel
theorem dX11_tell_7 : decode cX11_tell 7 = .ok (.iconst (-1), 1) := by decide +kernel
theorem dX11_tell_8 : decode cX11_tell 8 = .ok (.ireturn, 1) := by decide +kernel
theorem dX11_tell_9 : decode cX11_tell 9 = .ok (.aload_n 0, 1) := by decide +kernel
theorem dX11_tell_10 : decode cX11_tell 10 = .ok (.getfield 10, 3) := by decide +kernel
theorem dX11_tell_13 : decode cX11_tell 13 = .ok (.iload_n 1, 1) := by decide +kernel
theorem dX11_tell_14 : decode cX11_tell 14 = .ok (.invokevirtual 277, 3) := by decide +kernel
theorem dX11_tell_17 : decode cX11_tell 17 = .ok (.ifCond .eq 13, 3) := by decide +kernel
theorem dX11_tell_20 : decode cX11_tell 20 = .ok (.aload_n 0, 1) := by decide +kernel
theorem dX11_tell_21 : decode cX11_tell 21 = .ok (.getfield 10, 3) := by decide +kernel
theorem dX11_tell_24 : decode cX11_tell 24 = .ok (.getfield 280, 3) := by decide +kernel
theorem dX11_tell_27 : decode cX11_tell 27 = .ok (.goto 5, 3) := by decide +kernel
theorem dX11_tell_30 : decode cX11_tell 30 = .ok (.bipush (-3), 2) := by decide +kernel
theorem dX11_tell_32 : decode cX11_tell 32 = .ok (.ireturn, 1) := by decide +kernel
theorem dX11_drop_0 : decode cX11_drop 0 = .ok (.aload_n 0, 1) := by decide +kernel
theorem dX11_drop_1 : decode cX11_drop 1 = .ok (.getfield 10, 3) := by decide +kernel
theorem dX11_drop_4 : decode cX11_drop 4 = .ok (.getfield 280, 3) := by decide +kernel
theorem dX11_drop_7 : decode cX11_drop 7 = .ok (.istore_n 2, 1) := by decide +kernel
theorem dX11_drop_8 : decode cX11_drop 8 = .ok (.iload_n 1, 1) := by decide +kernel
theorem dX11_drop_9 : decode cX11_drop 9 = .ok (.ifCond .lt 8, 3) := by decide +kernel
theorem dX11_drop_12 : decode cX11_drop 12 = .ok (.iload_n 1, 1) := by decide +kernel
theorem dX11_drop_13 : decode cX11_drop 13 = .ok (.iload_n 2, 1) := by decide +kernel
theorem dX11_drop_14 : decode cX11_drop 14 = .ok (.if_icmp .le 5, 3) := by decide +kernel
theorem dX11_drop_17 : decode cX11_drop 17 = .ok (.iconst (-1), 1) := by decide +kernel
theorem dX11_drop_18 : decode cX11_drop 18 = .ok (.ireturn, 1) := by decide +kernel
theorem dX11_drop_19 : decode cX11_drop 19 = .ok (.aload_n 0, 1) := by decide +kernel
theorem dX11_drop_20 : decode cX11_drop 20 = .ok (.getfield 10, 3) := by decide +kernel
theorem dX11_drop_23 : decode cX11_drop 23 = .ok (.iload_n 1, 1) := by decide +kernel
theorem dX11_drop_24 : decode cX11_drop 24 = .ok (.putfield 280, 3) := by decide +kernel
theorem dX11_drop_27 : decode cX11_drop 27 = .ok (.iload_n 2, 1) := by decide +kernel
theorem dX11_drop_28 : decode cX11_drop 28 = .ok (.ireturn, 1) := by decide +kernel
theorem dX11_blow_0 : decode cX11_blow 0 = .ok (.iload_n 1, 1) := by decide +kernel
theorem dX11_blow_1 : decode cX11_blow 1 = .ok (.invokestatic 240, 3) := by decide +kernel
theorem dX11_blow_4 : decode cX11_blow 4 = .ok (.ifCond .ne 5, 3) := by decide +kernel
theorem dX11_blow_7 : decode cX11_blow 7 = .ok (.iconst (-1), 1) := by decide +kernel
theorem dX11_blow_8 : decode cX11_blow 8 = .ok (.ireturn, 1) := by decide +kernel
theorem dX11_blow_9 : decode cX11_blow 9 = .ok (.aload_n 0, 1) := by decide +kernel
theorem dX11_blow_10 : decode cX11_blow 10 = .ok (.invokevirtual 226, 3) := by decide +kernel
theorem dX11_blow_13 : decode cX11_blow 13 = .ok (.ifCond .eq 6, 3) := by decide +kernel
theorem dX11_blow_16 : decode cX11_blow 16 = .ok (.bipush (-2), 2) := by decide +kernel
theorem dX11_blow_18 : decode cX11_blow 18 = .ok (.ireturn, 1) := by decide +kernel
theorem dX11_blow_19 : decode cX11_blow 19 = .ok (.aload_n 0, 1) := by decide +kernel
theorem dX11_blow_20 : decode cX11_blow 20 = .ok (.getfield 49, 3) := by decide +kernel
theorem dX11_blow_23 : decode cX11_blow 23 = .ok (.aload_n 0, 1) := by decide +kernel
theorem dX11_blow_24 : decode cX11_blow 24 = .ok (.getfield 10, 3) := by decide +kernel
theorem dX11_blow_27 : decode cX11_blow 27 = .ok (.aload_n 0, 1) := by decide +kernel
theorem dX11_blow_28 : decode cX11_blow 28 = .ok (.getfield 35, 3) := by decide +kernel
theorem dX11_blow_31 : decode cX11_blow 31 = .ok (.invokevirtual 283, 3) := by decide +kernel
theorem dX11_blow_34 : decode cX11_blow 34 = .ok (.aload_n 0, 1) := by decide +kernel
theorem dX11_blow_35 : decode cX11_blow 35 = .ok (.getfield 49, 3) := by decide +kernel
theorem dX11_blow_38 : decode cX11_blow 38 = .ok (.getfield 286, 3) := by decide +kernel
theorem dX11_blow_41 : decode cX11_blow 41 = .ok (.bipush (-4), 2) := by decide +kernel
theorem dX11_blow_43 : decode cX11_blow 43 = .ok (.if_icmp .eq 7, 3) := by decide +kernel
theorem dX11_blow_46 : decode cX11_blow 46 = .ok (.iload_n 1, 1) := by decide +kernel
theorem dX11_blow_47 : decode cX11_blow 47 = .ok (.ifCond .ne 11, 3) := by decide +kernel
theorem dX11_blow_50 : decode cX11_blow 50 = .ok (.aload_n 0, 1) := by decide +kernel
theorem dX11_blow_51 : decode cX11_blow 51 = .ok (.getfield 49, 3) := by decide +kernel
theorem dX11_blow_54 : decode cX11_blow 54 = .ok (.getfield 286, 3) := by decide +kernel
theorem dX11_blow_57 : decode cX11_blow 57 = .ok (.ireturn, 1) := by decide +kernel
theorem dX11_blow_58 : decode cX11_blow 58 = .ok (.iload_n 1, 1) := by decide +kernel
theorem dX11_blow_59 : decode cX11_blow 59 = .ok (.bipush 10, 2) := by decide +kernel
theorem dX11_blow_61 : decode cX11_blow 61 = .ok (.isub, 1) := by decide +kernel
theorem dX11_blow_62 : decode cX11_blow 62 = .ok (.istore_n 2, 1) := by decide +kernel
theorem dX11_blow_63 : decode cX11_blow 63 = .ok (.iload_n 2, 1) := by decide +kernel
theorem dX11_blow_64 : decode cX11_blow 64 = .ok (.aload_n 0, 1) := by decide +kernel
theorem dX11_blow_65 : decode cX11_blow 65 = .ok (.getfield 10, 3) := by decide +kernel
theorem dX11_blow_68 : decode cX11_blow 68 = .ok (.getfield 280, 3) := by decide +kernel
theorem dX11_blow_71 : decode cX11_blow 71 = .ok (.if_icmp .ge 14, 3) := by decide +kernel
theorem dX11_blow_74 : decode cX11_blow 74 = .ok (.aload_n 0, 1) := by decide +kernel
theorem dX11_blow_75 : decode cX11_blow 75 = .ok (.getfield 49, 3) := by decide +kernel
theorem dX11_blow_78 : decode cX11_blow 78 = .ok (.iload_n 2, 1) := by decide +kernel
theorem dX11_blow_79 : decode cX11_blow 79 = .ok (.invokevirtual 289, 3) := by decide +kernel
theorem dX11_blow_82 : decode cX11_blow 82 = .ok (.goto 5, 3) := by decide +kernel
theorem dX11_blow_85 : decode cX11_blow 85 = .ok (.bipush (-4), 2) := by decide +kernel
theorem dX11_blow_87 : decode cX11_blow 87 = .ok (.ireturn, 1) := by decide +kernel
theorem dX11_gale_0 : decode cX11_gale 0 = .ok (.iload_n 2, 1) := by decide +kernel
theorem dX11_gale_1 : decode cX11_gale 1 = .ok (.iconst 1, 1) := by decide +kernel
theorem dX11_gale_2 : decode cX11_gale 2 = .ok (.if_icmp .lt 16, 3) := by decide +kernel
theorem dX11_gale_5 : decode cX11_gale 5 = .ok (.iload_n 2, 1) := by decide +kernel
theorem dX11_gale_6 : decode cX11_gale 6 = .ok (.bipush 60, 2) := by decide +kernel
theorem dX11_gale_8 : decode cX11_gale 8 = .ok (.if_icmp .gt 10, 3) := by decide +kernel
theorem dX11_gale_11 : decode cX11_gale 11 = .ok (.iload_n 3, 1) := by decide +kernel
theorem dX11_gale_12 : decode cX11_gale 12 = .ok (.invokestatic 205, 3) := by decide +kernel
theorem dX11_gale_15 : decode cX11_gale 15 = .ok (.ifCond .ne 5, 3) := by decide +kernel
theorem dX11_gale_18 : decode cX11_gale 18 = .ok (.iconst (-1), 1) := by decide +kernel
theorem dX11_gale_19 : decode cX11_gale 19 = .ok (.ireturn, 1) := by decide +kernel
theorem dX11_gale_20 : decode cX11_gale 20 = .ok (.aload_n 0, 1) := by decide +kernel
theorem dX11_gale_21 : decode cX11_gale 21 = .ok (.getfield 35, 3) := by decide +kernel
theorem dX11_gale_24 : decode cX11_gale 24 = .ok (.getfield 210, 3) := by decide +kernel
theorem dX11_gale_27 : decode cX11_gale 27 = .ok (.astore 4, 2) := by decide +kernel
theorem dX11_gale_29 : decode cX11_gale 29 = .ok (.aload 4, 2) := by decide +kernel
theorem dX11_gale_31 : decode cX11_gale 31 = .ok (.aload_n 0, 1) := by decide +kernel
theorem dX11_gale_32 : decode cX11_gale 32 = .ok (.getfield 10, 3) := by decide +kernel
theorem dX11_gale_35 : decode cX11_gale 35 = .ok (.getfield 122, 3) := by decide +kernel
theorem dX11_gale_38 : decode cX11_gale 38 = .ok (.invokevirtual 211, 3) := by decide +kernel
theorem dX11_gale_41 : decode cX11_gale 41 = .ok (.iload_n 1, 1) := by decide +kernel
theorem dX11_gale_42 : decode cX11_gale 42 = .ok (.istore 5, 2) := by decide +kernel
theorem dX11_gale_44 : decode cX11_gale 44 = .ok (.iconst 0, 1) := by decide +kernel
theorem dX11_gale_45 : decode cX11_gale 45 = .ok (.istore 6, 2) := by decide +kernel
theorem dX11_gale_47 : decode cX11_gale 47 = .ok (.iload 6, 2) := by decide +kernel
theorem dX11_gale_49 : decode cX11_gale 49 = .ok (.iload_n 2, 1) := by decide +kernel
theorem dX11_gale_50 : decode cX11_gale 50 = .ok (.if_icmp .ge 115, 3) := by decide +kernel
theorem dX11_gale_53 : decode cX11_gale 53 = .ok (.aload 4, 2) := by decide +kernel
theorem dX11_gale_55 : decode cX11_gale 55 = .ok (.aload_n 0, 1) := by decide +kernel
theorem dX11_gale_56 : decode cX11_gale 56 = .ok (.getfield 10, 3) := by decide +kernel
theorem dX11_gale_59 : decode cX11_gale 59 = .ok (.getfield 104, 3) := by decide +kernel
theorem dX11_gale_62 : decode cX11_gale 62 = .ok (.invokevirtual 131, 3) := by decide +kernel
theorem dX11_gale_65 : decode cX11_gale 65 = .ok (.bipush (-4), 2) := by decide +kernel
theorem dX11_gale_67 : decode cX11_gale 67 = .ok (.if_icmp .ne 98, 3) := by decide +kernel
theorem dX11_gale_70 : decode cX11_gale 70 = .ok (.iload 5, 2) := by decide +kernel
theorem dX11_gale_72 : decode cX11_gale 72 = .ok (.ldc_w 292, 3) := by decide +kernel
theorem dX11_gale_75 : decode cX11_gale 75 = .ok (.imul, 1) := by decide +kernel
theorem dX11_gale_76 : decode cX11_gale 76 = .ok (.sipush 12345, 3) := by decide +kernel
theorem dX11_gale_79 : decode cX11_gale 79 = .ok (.iadd, 1) := by decide +kernel
theorem dX11_gale_80 : decode cX11_gale 80 = .ok (.istore 5, 2) := by decide +kernel
theorem dX11_gale_82 : decode cX11_gale 82 = .ok (.aload_n 0, 1) := by decide +kernel
theorem dX11_gale_83 : decode cX11_gale 83 = .ok (.getfield 10, 3) := by decide +kernel
theorem dX11_gale_86 : decode cX11_gale 86 = .ok (.getfield 104, 3) := by decide +kernel
theorem dX11_gale_89 : decode cX11_gale 89 = .ok (.iload 5, 2) := by decide +kernel
theorem dX11_gale_91 : decode cX11_gale 91 = .ok (.bipush 16, 2) := by decide +kernel
theorem dX11_gale_93 : decode cX11_gale 93 = .ok (.iushr, 1) := by decide +kernel
theorem dX11_gale_94 : decode cX11_gale 94 = .ok (.sipush 32767, 3) := by decide +kernel
theorem dX11_gale_97 : decode cX11_gale 97 = .ok (.iand, 1) := by decide +kernel
theorem dX11_gale_98 : decode cX11_gale 98 = .ok (.invokevirtual 293, 3) := by decide +kernel
theorem dX11_gale_101 : decode cX11_gale 101 = .ok (.istore 7, 2) := by decide +kernel
theorem dX11_gale_103 : decode cX11_gale 103 = .ok (.aload 4, 2) := by decide +kernel
theorem dX11_gale_105 : decode cX11_gale 105 = .ok (.aload_n 0, 1) := by decide +kernel
theorem dX11_gale_106 : decode cX11_gale 106 = .ok (.getfield 10, 3) := by decide +kernel
theorem dX11_gale_109 : decode cX11_gale 109 = .ok (.getfield 104, 3) := by decide +kernel
theorem dX11_gale_112 : decode cX11_gale 112 = .ok (.iload 7, 2) := by decide +kernel
theorem dX11_gale_114 : decode cX11_gale 114 = .ok (.aload_n 0, 1) := by decide +kernel
theorem dX11_gale_115 : decode cX11_gale 115 = .ok (.getfield 35, 3) := by decide +kernel
theorem dX11_gale_118 : decode cX11_gale 118 = .ok (.getfield 296, 3) := by decide +kernel
theorem dX11_gale_121 : decode cX11_gale 121 = .ok (.invokevirtual 300, 3) := by decide +kernel
theorem dX11_gale_124 : decode cX11_gale 124 = .ok (.istore 8, 2) := by decide +kernel
theorem dX11_gale_126 : decode cX11_gale 126 = .ok (.aload 4, 2) := by decide +kernel
theorem dX11_gale_128 : decode cX11_gale 128 = .ok (.aload_n 0, 1) := by decide +kernel
theorem dX11_gale_129 : decode cX11_gale 129 = .ok (.getfield 10, 3) := by decide +kernel
theorem dX11_gale_132 : decode cX11_gale 132 = .ok (.getfield 104, 3) := by decide +kernel
theorem dX11_gale_135 : decode cX11_gale 135 = .ok (.iload 7, 2) := by decide +kernel
theorem dX11_gale_137 : decode cX11_gale 137 = .ok (.iload 8, 2) := by decide +kernel
theorem dX11_gale_139 : decode cX11_gale 139 = .ok (.ifCond .le 14, 3) := by decide +kernel
theorem dX11_gale_142 : decode cX11_gale 142 = .ok (.aload_n 0, 1) := by decide +kernel
theorem dX11_gale_143 : decode cX11_gale 143 = .ok (.getfield 35, 3) := by decide +kernel
theorem dX11_gale_146 : decode cX11_gale 146 = .ok (.iconst 0, 1) := by decide +kernel
theorem dX11_gale_147 : decode cX11_gale 147 = .ok (.invokevirtual 193, 3) := by decide +kernel
theorem dX11_gale_150 : decode cX11_gale 150 = .ok (.goto 5, 3) := by decide +kernel
theorem dX11_gale_153 : decode cX11_gale 153 = .ok (.bipush (-4), 2) := by decide +kernel
theorem dX11_gale_155 : decode cX11_gale 155 = .ok (.invokevirtual 304, 3) := by decide +kernel
theorem dX11_gale_158 : decode cX11_gale 158 = .ok (.pop, 1) := by decide +kernel
theorem dX11_gale_159 : decode cX11_gale 159 = .ok (.iinc 6 1, 3) := by decide +kernel
theorem dX11_gale_162 : decode cX11_gale 162 = .ok (.goto (-115), 3) := by decide +kernel
theorem dX11_gale_165 : decode cX11_gale 165 = .ok (.iload_n 3, 1) := by decide +kernel
theorem dX11_gale_166 : decode cX11_gale 166 = .ok (.ifCond .ne 8, 3) := by decide +kernel
theorem dX11_gale_169 : decode cX11_gale 169 = .ok (.iload 6, 2) := by decide +kernel
theorem dX11_gale_171 : decode cX11_gale 171 = .ok (.goto 15, 3) := by decide +kernel
theorem dX11_gale_174 : decode cX11_gale 174 = .ok (.aload 4, 2) := by decide +kernel
theorem dX11_gale_176 : decode cX11_gale 176 = .ok (.aload_n 0, 1) := by decide +kernel
theorem dX11_gale_177 : decode cX11_gale 177 = .ok (.getfield 10, 3) := by decide +kernel
theorem dX11_gale_180 : decode cX11_gale 180 = .ok (.getfield 104, 3) := by decide +kernel
theorem dX11_gale_183 : decode cX11_gale 183 = .ok (.invokevirtual 131, 3) := by decide +kernel
theorem dX11_gale_186 : decode cX11_gale 186 = .ok (.ireturn, 1) := by decide +kernel
theorem dX11_keep_0 : decode cX11_keep 0 = .ok (.iload_n 1, 1) := by decide +kernel
theorem dX11_keep_1 : decode cX11_keep 1 = .ok (.invokestatic 237, 3) := by decide +kernel
theorem dX11_keep_4 : decode cX11_keep 4 = .ok (.ifCond .ne 5, 3) := by decide +kernel
theorem dX11_keep_7 : decode cX11_keep 7 = .ok (.iconst (-1), 1) := by decide +kernel
theorem dX11_keep_8 : decode cX11_keep 8 = .ok (.ireturn, 1) := by decide +kernel
theorem dX11_keep_9 : decode cX11_keep 9 = .ok (.aload_n 0, 1) := by decide +kernel
theorem dX11_keep_10 : decode cX11_keep 10 = .ok (.getfield 20, 3) := by decide +kernel
theorem dX11_keep_13 : decode cX11_keep 13 = .ok (.iload_n 1, 1) := by decide +kernel
theorem dX11_keep_14 : decode cX11_keep 14 = .ok (.baload, 1) := by decide +kernel
theorem dX11_keep_15 : decode cX11_keep 15 = .ok (.ifCond .eq 7, 3) := by decide +kernel
theorem dX11_keep_18 : decode cX11_keep 18 = .ok (.iconst 1, 1) := by decide +kernel
theorem dX11_keep_19 : decode cX11_keep 19 = .ok (.goto 4, 3) := by decide +kernel
theorem dX11_keep_22 : decode cX11_keep 22 = .ok (.iconst 0, 1) := by decide +kernel
theorem dX11_keep_23 : decode cX11_keep 23 = .ok (.istore_n 2, 1) := by decide +kernel
theorem dX11_keep_24 : decode cX11_keep 24 = .ok (.aload_n 0, 1) := by decide +kernel
theorem dX11_keep_25 : decode cX11_keep 25 = .ok (.getfield 16, 3) := by decide +kernel
theorem dX11_keep_28 : decode cX11_keep 28 = .ok (.iload_n 1, 1) := by decide +kernel
theorem dX11_keep_29 : decode cX11_keep 29 = .ok (.aaload, 1) := by decide +kernel
theorem dX11_keep_30 : decode cX11_keep 30 = .ok (.astore_n 3, 1) := by decide +kernel
theorem dX11_keep_31 : decode cX11_keep 31 = .ok (.aload_n 3, 1) := by decide +kernel
theorem dX11_keep_32 : decode cX11_keep 32 = .ok (.ifnonnull 5, 3) := by decide +kernel
theorem dX11_keep_35 : decode cX11_keep 35 = .ok (.iconst (-1), 1) := by decide +kernel
theorem dX11_keep_36 : decode cX11_keep 36 = .ok (.ireturn, 1) := by decide +kernel
theorem dX11_keep_37 : decode cX11_keep 37 = .ok (.aload_n 3, 1) := by decide +kernel
theorem dX11_keep_38 : decode cX11_keep 38 = .ok (.aload_n 0, 1) := by decide +kernel
theorem dX11_keep_39 : decode cX11_keep 39 = .ok (.getfield 10, 3) := by decide +kernel
theorem dX11_keep_42 : decode cX11_keep 42 = .ok (.invokevirtual 97, 3) := by decide +kernel
theorem dX11_keep_45 : decode cX11_keep 45 = .ok (.aload_n 0, 1) := by decide +kernel
theorem dX11_keep_46 : decode cX11_keep 46 = .ok (.getfield 20, 3) := by decide +kernel
theorem dX11_keep_49 : decode cX11_keep 49 = .ok (.iload_n 1, 1) := by decide +kernel
theorem dX11_keep_50 : decode cX11_keep 50 = .ok (.iconst 1, 1) := by decide +kernel
theorem dX11_keep_51 : decode cX11_keep 51 = .ok (.bastore, 1) := by decide +kernel
theorem dX11_keep_52 : decode cX11_keep 52 = .ok (.iload_n 2, 1) := by decide +kernel
theorem dX11_keep_53 : decode cX11_keep 53 = .ok (.ireturn, 1) := by decide +kernel
theorem dX11_back_0 : decode cX11_back 0 = .ok (.iload_n 1, 1) := by decide +kernel
theorem dX11_back_1 : decode cX11_back 1 = .ok (.invokestatic 237, 3) := by decide +kernel
theorem dX11_back_4 : decode cX11_back 4 = .ok (.ifCond .ne 5, 3) := by decide +kernel
theorem dX11_back_7 : decode cX11_back 7 = .ok (.iconst (-1), 1) := by decide +kernel
theorem dX11_back_8 : decode cX11_back 8 = .ok (.ireturn, 1) := by decide +kernel
theorem dX11_back_9 : decode cX11_back 9 = .ok (.aload_n 0, 1) := by decide +kernel
theorem dX11_back_10 : decode cX11_back 10 = .ok (.iload_n 1, 1) := by decide +kernel
theorem dX11_back_11 : decode cX11_back 11 = .ok (.invokevirtual 243, 3) := by decide +kernel
theorem dX11_back_14 : decode cX11_back 14 = .ok (.astore_n 2, 1) := by decide +kernel
theorem dX11_back_15 : decode cX11_back 15 = .ok (.aload_n 2, 1) := by decide +kernel
theorem dX11_back_16 : decode cX11_back 16 = .ok (.ifnonnull 6, 3) := by decide +kernel
theorem dX11_back_19 : decode cX11_back 19 = .ok (.bipush (-2), 2) := by decide +kernel
theorem dX11_back_21 : decode cX11_back 21 = .ok (.ireturn, 1) := by decide +kernel
theorem dX11_back_22 : decode cX11_back 22 = .ok (.aload_n 0, 1) := by decide +kernel
theorem dX11_back_23 : decode cX11_back 23 = .ok (.getfield 10, 3) := by decide +kernel
theorem dX11_back_26 : decode cX11_back 26 = .ok (.aload_n 2, 1) := by decide +kernel
theorem dX11_back_27 : decode cX11_back 27 = .ok (.invokevirtual 97, 3) := by decide +kernel
theorem dX11_back_30 : decode cX11_back 30 = .ok (.aload_n 0, 1) := by decide +kernel
theorem dX11_back_31 : decode cX11_back 31 = .ok (.getfield 10, 3) := by decide +kernel
theorem dX11_back_34 : decode cX11_back 34 = .ok (.getfield 128, 3) := by decide +kernel
theorem dX11_back_37 : decode cX11_back 37 = .ok (.ireturn, 1) := by decide +kernel
theorem dX11_sheet_0 : decode cX11_sheet 0 = .ok (.iload_n 1, 1) := by decide +kernel
theorem dX11_sheet_1 : decode cX11_sheet 1 = .ok (.invokestatic 308, 3) := by decide +kernel
theorem dX11_sheet_4 : decode cX11_sheet 4 = .ok (.ifCond .eq 16, 3) := by decide +kernel
theorem dX11_sheet_7 : decode cX11_sheet 7 = .ok (.iload_n 2, 1) := by decide +kernel
theorem dX11_sheet_8 : decode cX11_sheet 8 = .ok (.invokestatic 311, 3) := by decide +kernel
theorem dX11_sheet_11 : decode cX11_sheet 11 = .ok (.ifCond .eq 9, 3) := by decide +kernel
theorem dX11_sheet_14 : decode cX11_sheet 14 = .ok (.iload_n 3, 1) := by decide +kernel
theorem dX11_sheet_15 : decode cX11_sheet 15 = .ok (.bipush 40, 2) := by decide +kernel
theorem dX11_sheet_17 : decode cX11_sheet 17 = .ok (.if_icmp .le 5, 3) := by decide +kernel
theorem dX11_sheet_20 : decode cX11_sheet 20 = .ok (.iconst (-1), 1) := by decide +kernel
theorem dX11_sheet_21 : decode cX11_sheet 21 = .ok (.ireturn, 1) := by decide +kernel
theorem dX11_sheet_22 : decode cX11_sheet 22 = .ok (.iload_n 3, 1) := by decide +kernel
theorem dX11_sheet_23 : decode cX11_sheet 23 = .ok (.ifCond .ge 6, 3) := by decide +kernel
theorem dX11_sheet_26 : decode cX11_sheet 26 = .ok (.bipush (-14), 2) := by decide +kernel
theorem dX11_sheet_28 : decode cX11_sheet 28 = .ok (.ireturn, 1) := by decide +kernel
theorem dX11_sheet_29 : decode cX11_sheet 29 = .ok (.aload_n 0, 1) := by decide +kernel
theorem dX11_sheet_30 : decode cX11_sheet 30 = .ok (.getfield 56, 3) := by decide +kernel
theorem dX11_sheet_33 : decode cX11_sheet 33 = .ok (.iload_n 1, 1) := by decide +kernel
theorem dX11_sheet_34 : decode cX11_sheet 34 = .ok (.iload_n 2, 1) := by decide +kernel
theorem dX11_sheet_35 : decode cX11_sheet 35 = .ok (.iload_n 3, 1) := by decide +kernel
theorem dX11_sheet_36 : decode cX11_sheet 36 = .ok (.invokevirtual 314, 3) := by decide +kernel
theorem dX11_sheet_39 : decode cX11_sheet 39 = .ok (.iconst 1, 1) := by decide +kernel
theorem dX11_sheet_40 : decode cX11_sheet 40 = .ok (.ireturn, 1) := by decide +kernel
theorem dX11_lay_0 : decode cX11_lay 0 = .ok (.iload_n 1, 1) := by decide +kernel
theorem dX11_lay_1 : decode cX11_lay 1 = .ok (.invokestatic 308, 3) := by decide +kernel
theorem dX11_lay_4 : decode cX11_lay 4 = .ok (.ifCond .ne 5, 3) := by decide +kernel
theorem dX11_lay_7 : decode cX11_lay 7 = .ok (.iconst (-1), 1) := by decide +kernel
theorem dX11_lay_8 : decode cX11_lay 8 = .ok (.ireturn, 1) := by decide +kernel
theorem dX11_lay_9 : decode cX11_lay 9 = .ok (.aload_n 0, 1) := by decide +kernel
theorem dX11_lay_10 : decode cX11_lay 10 = .ok (.getfield 56, 3) := by decide +kernel
theorem dX11_lay_13 : decode cX11_lay 13 = .ok (.iload_n 1, 1) := by decide +kernel
theorem dX11_lay_14 : decode cX11_lay 14 = .ok (.iload_n 2, 1) := by decide +kernel
theorem dX11_lay_15 : decode cX11_lay 15 = .ok (.invokevirtual 318, 3) := by decide +kernel
theorem dX11_lay_18 : decode cX11_lay 18 = .ok (.istore 4, 2) := by decide +kernel
theorem dX11_lay_20 : decode cX11_lay 20 = .ok (.iload 4, 2) := by decide +kernel
theorem dX11_lay_22 : decode cX11_lay 22 = .ok (.ifCond .eq 9, 3) := by decide +kernel
theorem dX11_lay_25 : decode cX11_lay 25 = .ok (.bipush (-10), 2) := by decide +kernel
theorem dX11_lay_27 : decode cX11_lay 27 = .ok (.iload 4, 2) := by decide +kernel
theorem dX11_lay_29 : decode cX11_lay 29 = .ok (.isub, 1) := by decide +kernel
theorem dX11_lay_30 : decode cX11_lay 30 = .ok (.ireturn, 1) := by decide +kernel
theorem dX11_lay_31 : decode cX11_lay 31 = .ok (.aload_n 0, 1) := by decide +kernel
theorem dX11_lay_32 : decode cX11_lay 32 = .ok (.getfield 56, 3) := by decide +kernel
theorem dX11_lay_35 : decode cX11_lay 35 = .ok (.iload_n 1, 1) := by decide +kernel
theorem dX11_lay_36 : decode cX11_lay 36 = .ok (.iload_n 2, 1) := by decide +kernel
theorem dX11_lay_37 : decode cX11_lay 37 = .ok (.iload_n 3, 1) := by decide +kernel
theorem dX11_lay_38 : decode cX11_lay 38 = .ok (.invokevirtual 321, 3) := by decide +kernel
theorem dX11_lay_41 : decode cX11_lay 41 = .ok (.iconst 1, 1) := by decide +kernel
theorem dX11_lay_42 : decode cX11_lay 42 = .ok (.ireturn, 1) := by decide +kernel
theorem dX11_read_0 : decode cX11_read 0 = .ok (.iload_n 1, 1) := by decide +kernel
theorem dX11_read_1 : decode cX11_read 1 = .ok (.invokestatic 308, 3) := by decide +kernel
theorem dX11_read_4 : decode cX11_read 4 = .ok (.ifCond .eq 22, 3) := by decide +kernel
theorem dX11_read_7 : decode cX11_read 7 = .ok (.iload_n 2, 1) := by decide +kernel
theorem dX11_read_8 : decode cX11_read 8 = .ok (.invokestatic 311, 3) := by decide +kernel
theorem dX11_read_11 : decode cX11_read 11 = .ok (.ifCond .eq 15, 3) := by decide +kernel
theorem dX11_read_14 : decode cX11_read 14 = .ok (.iload 4, 2) := by decide +kernel
theorem dX11_read_16 : decode cX11_read 16 = .ok (.ifCond .lt 10, 3) := by decide +kernel
theorem dX11_read_19 : decode cX11_read 19 = .ok (.iload 4, 2) := by decide +kernel
theorem dX11_read_21 : decode cX11_read 21 = .ok (.bipush 13, 2) := by decide +kernel
theorem dX11_read_23 : decode cX11_read 23 = .ok (.if_icmp .le 5, 3) := by decide +kernel
theorem dX11_read_26 : decode cX11_read 26 = .ok (.iconst (-1), 1) := by decide +kernel
theorem dX11_read_27 : decode cX11_read 27 = .ok (.ireturn, 1) := by decide +kernel
theorem dX11_read_28 : decode cX11_read 28 = .ok (.iload 4, 2) := by decide +kernel
theorem dX11_read_30 : decode cX11_read 30 = .ok (.ifCond .ne 7, 3) := by decide +kernel
theorem dX11_read_33 : decode cX11_read 33 = .ok (.iconst 0, 1) := by decide +kernel
theorem dX11_read_34 : decode cX11_read 34 = .ok (.goto 12, 3) := by decide +kernel
theorem dX11_read_37 : decode cX11_read 37 = .ok (.aload_n 0, 1) := by decide +kernel
theorem dX11_read_38 : decode cX11_read 38 = .ok (.getfield 56, 3) := by decide +kernel
theorem dX11_read_41 : decode cX11_read 41 = .ok (.iload_n 1, 1) := by decide +kernel
theorem dX11_read_42 : decode cX11_read 42 = .ok (.iload_n 2, 1) := by decide +kernel
theorem dX11_read_43 : decode cX11_read 43 = .ok (.invokevirtual 324, 3) := by decide +kernel
theorem dX11_read_46 : decode cX11_read 46 = .ok (.istore 5, 2) := by decide +kernel
theorem dX11_read_48 : decode cX11_read 48 = .ok (.iconst 0, 1) := by decide +kernel
theorem dX11_read_49 : decode cX11_read 49 = .ok (.istore 6, 2) := by decide +kernel
theorem dX11_read_51 : decode cX11_read 51 = .ok (.iload 4, 2) := by decide +kernel
theorem dX11_read_53 : decode cX11_read 53 = .ok (.ifCond .le 31, 3) := by decide +kernel
theorem dX11_read_56 : decode cX11_read 56 = .ok (.iload 5, 2) := by decide +kernel
theorem dX11_read_58 : decode cX11_read 58 = .ok (.ifCond .ne 26, 3) := by decide +kernel
theorem dX11_read_61 : decode cX11_read 61 = .ok (.aload_n 0, 1) := by decide +kernel
theorem dX11_read_62 : decode cX11_read 62 = .ok (.getfield 56, 3) := by decide +kernel
theorem dX11_read_65 : decode cX11_read 65 = .ok (.iload_n 1, 1) := by decide +kernel
theorem dX11_read_66 : decode cX11_read 66 = .ok (.iload_n 3, 1) := by decide +kernel
theorem dX11_read_67 : decode cX11_read 67 = .ok (.iload 4, 2) := by decide +kernel
theorem dX11_read_69 : decode cX11_read 69 = .ok (.invokevirtual 327, 3) := by decide +kernel
theorem dX11_read_72 : decode cX11_read 72 = .ok (.istore 6, 2) := by decide +kernel
theorem dX11_read_74 : decode cX11_read 74 = .ok (.iload 6, 2) := by decide +kernel
theorem dX11_read_76 : decode cX11_read 76 = .ok (.iload 4, 2) := by decide +kernel
theorem dX11_read_78 : decode cX11_read 78 = .ok (.if_icmp .ge 6, 3) := by decide +kernel
theorem dX11_read_81 : decode cX11_read 81 = .ok (.iconst 2, 1) := by decide +kernel
theorem dX11_read_82 : decode cX11_read 82 = .ok (.istore 5, 2) := by decide +kernel
theorem dX11_read_84 : decode cX11_read 84 = .ok (.aload_n 0, 1) := by decide +kernel
theorem dX11_read_85 : decode cX11_read 85 = .ok (.iload_n 1, 1) := by decide +kernel
theorem dX11_read_86 : decode cX11_read 86 = .ok (.iload_n 3, 1) := by decide +kernel
theorem dX11_read_87 : decode cX11_read 87 = .ok (.iload 6, 2) := by decide +kernel
theorem dX11_read_89 : decode cX11_read 89 = .ok (.invokevirtual 331, 3) := by decide +kernel
theorem dX11_read_92 : decode cX11_read 92 = .ok (.istore 7, 2) := by decide +kernel
theorem dX11_read_94 : decode cX11_read 94 = .ok (.iload 7, 2) := by decide +kernel
theorem dX11_read_96 : decode cX11_read 96 = .ok (.bipush (-4), 2) := by decide +kernel
theorem dX11_read_98 : decode cX11_read 98 = .ok (.if_icmp .eq 9, 3) := by decide +kernel
theorem dX11_read_101 : decode cX11_read 101 = .ok (.bipush (-20), 2) := by decide +kernel
theorem dX11_read_103 : decode cX11_read 103 = .ok (.iload 7, 2) := by decide +kernel
theorem dX11_read_105 : decode cX11_read 105 = .ok (.isub, 1) := by decide +kernel
theorem dX11_read_106 : decode cX11_read 106 = .ok (.ireturn, 1) := by decide +kernel
theorem dX11_read_107 : decode cX11_read 107 = .ok (.aload_n 0, 1) := by decide +kernel
theorem dX11_read_108 : decode cX11_read 108 = .ok (.iload 5, 2) := by decide +kernel
theorem dX11_read_110 : decode cX11_read 110 = .ok (.putfield 334, 3) := by decide +kernel
theorem dX11_read_113 : decode cX11_read 113 = .ok (.iload 6, 2) := by decide +kernel
theorem dX11_read_115 : decode cX11_read 115 = .ok (.ireturn, 1) := by decide +kernel
theorem dX11_torn_0 : decode cX11_torn 0 = .ok (.aload_n 0, 1) := by decide +kernel
theorem dX11_torn_1 : decode cX11_torn 1 = .ok (.getfield 334, 3) := by decide +kernel
theorem dX11_torn_4 : decode cX11_torn 4 = .ok (.ireturn, 1) := by decide +kernel
theorem dX11_count_0 : decode cX11_count 0 = .ok (.iload_n 1, 1) := by decide +kernel
theorem dX11_count_1 : decode cX11_count 1 = .ok (.tableswitch 142 0 6 #[43, 61, 69, 77, 107, 115, 124], 43) := by decide +kernel
theorem dX11_count_44 : decode cX11_count 44 = .ok (.aload_n 0, 1) := by decide +kernel
theorem dX11_count_45 : decode cX11_count 45 = .ok (.getfield 10, 3) := by decide +kernel
theorem dX11_count_48 : decode cX11_count 48 = .ok (.getfield 122, 3) := by decide +kernel
theorem dX11_count_51 : decode cX11_count 51 = .ok (.aload_n 0, 1) := by decide +kernel
theorem dX11_count_52 : decode cX11_count 52 = .ok (.getfield 10, 3) := by decide +kernel
theorem dX11_count_55 : decode cX11_count 55 = .ok (.getfield 104, 3) := by decide +kernel
theorem dX11_count_58 : decode cX11_count 58 = .ok (.invokevirtual 337, 3) := by decide +kernel
theorem dX11_count_61 : decode cX11_count 61 = .ok (.ireturn, 1) := by decide +kernel
theorem dX11_count_62 : decode cX11_count 62 = .ok (.aload_n 0, 1) := by decide +kernel
theorem dX11_count_63 : decode cX11_count 63 = .ok (.getfield 10, 3) := by decide +kernel
theorem dX11_count_66 : decode cX11_count 66 = .ok (.getfield 268, 3) := by decide +kernel
theorem dX11_count_69 : decode cX11_count 69 = .ok (.ireturn, 1) := by decide +kernel
theorem dX11_count_70 : decode cX11_count 70 = .ok (.aload_n 0, 1) := by decide +kernel
theorem dX11_count_71 : decode cX11_count 71 = .ok (.getfield 10, 3) := by decide +kernel
theorem dX11_count_74 : decode cX11_count 74 = .ok (.getfield 280, 3) := by decide +kernel
theorem dX11_count_77 : decode cX11_count 77 = .ok (.ireturn, 1) := by decide +kernel
theorem dX11_count_78 : decode cX11_count 78 = .ok (.aload_n 0, 1) := by decide +kernel
theorem dX11_count_79 : decode cX11_count 79 = .ok (.getfield 20, 3) := by decide +kernel
theorem dX11_count_82 : decode cX11_count 82 = .ok (.iconst 0, 1) := by decide +kernel
theorem dX11_count_83 : decode cX11_count 83 = .ok (.baload, 1) := by decide +kernel
theorem dX11_count_84 : decode cX11_count 84 = .ok (.ifCond .eq 7, 3) := by decide +kernel
theorem dX11_count_87 : decode cX11_count 87 = .ok (.iconst 1, 1) := by decide +kernel
theorem dX11_count_88 : decode cX11_count 88 = .ok (.goto 4, 3) := by decide +kernel
theorem dX11_count_91 : decode cX11_count 91 = .ok (.iconst 0, 1) := by decide +kernel
theorem dX11_count_92 : decode cX11_count 92 = .ok (.aload_n 0, 1) := by decide +kernel
theorem dX11_count_93 : decode cX11_count 93 = .ok (.getfield 20, 3) := by decide +kernel
theorem dX11_count_96 : decode cX11_count 96 = .ok (.iconst 1, 1) := by decide +kernel
theorem dX11_count_97 : decode cX11_count 97 = .ok (.baload, 1) := by decide +kernel
theorem dX11_count_98 : decode cX11_count 98 = .ok (.ifCond .eq 7, 3) := by decide +kernel
theorem dX11_count_101 : decode cX11_count 101 = .ok (.iconst 1, 1) := by decide +kernel
theorem dX11_count_102 : decode cX11_count 102 = .ok (.goto 4, 3) := by decide +kernel
theorem dX11_count_105 : decode cX11_count 105 = .ok (.iconst 0, 1) := by decide +kernel
theorem dX11_count_106 : decode cX11_count 106 = .ok (.iadd, 1) := by decide +kernel
theorem dX11_count_107 : decode cX11_count 107 = .ok (.ireturn, 1) := by decide +kernel
theorem dX11_count_108 : decode cX11_count 108 = .ok (.aload_n 0, 1) := by decide +kernel
theorem dX11_count_109 : decode cX11_count 109 = .ok (.getfield 27, 3) := by decide +kernel
theorem dX11_count_112 : decode cX11_count 112 = .ok (.getfield 77, 3) := by decide +kernel
theorem dX11_count_115 : decode cX11_count 115 = .ok (.ireturn, 1) := by decide +kernel
theorem dX11_count_116 : decode cX11_count 116 = .ok (.aload_n 0, 1) := by decide +kernel
theorem dX11_count_117 : decode cX11_count 117 = .ok (.getfield 56, 3) := by decide +kernel
theorem dX11_count_120 : decode cX11_count 120 = .ok (.iconst 0, 1) := by decide +kernel
theorem dX11_count_121 : decode cX11_count 121 = .ok (.invokevirtual 340, 3) := by decide +kernel
theorem dX11_count_124 : decode cX11_count 124 = .ok (.ireturn, 1) := by decide +kernel
theorem dX11_count_125 : decode cX11_count 125 = .ok (.aload_n 0, 1) := by decide +kernel
theorem dX11_count_126 : decode cX11_count 126 = .ok (.getfield 10, 3) := by decide +kernel
theorem dX11_count_129 : decode cX11_count 129 = .ok (.getfield 122, 3) := by decide +kernel
theorem dX11_count_132 : decode cX11_count 132 = .ok (.aload_n 0, 1) := by decide +kernel
theorem dX11_count_133 : decode cX11_count 133 = .ok (.getfield 10, 3) := by decide +kernel
theorem dX11_count_136 : decode cX11_count 136 = .ok (.getfield 104, 3) := by decide +kernel
theorem dX11_count_139 : decode cX11_count 139 = .ok (.invokevirtual 343, 3) := by decide +kernel
theorem dX11_count_142 : decode cX11_count 142 = .ok (.ireturn, 1) := by decide +kernel
theorem dX11_count_143 : decode cX11_count 143 = .ok (.iconst (-1), 1) := by decide +kernel
theorem dX11_count_144 : decode cX11_count 144 = .ok (.ireturn, 1) := by decide +kernel
theorem dX11_isSide_0 : decode cX11_isSide 0 = .ok (.iload_n 0, 1) := by decide +kernel
theorem dX11_isSide_1 : decode cX11_isSide 1 = .ok (.ifCond .lt 12, 3) := by decide +kernel
theorem dX11_isSide_4 : decode cX11_isSide 4 = .ok (.iload_n 0, 1) := by decide +kernel
theorem dX11_isSide_5 : decode cX11_isSide 5 = .ok (.iconst 2, 1) := by decide +kernel
theorem dX11_isSide_6 : decode cX11_isSide 6 = .ok (.if_icmp .ge 7, 3) := by decide +kernel
theorem dX11_isSide_9 : decode cX11_isSide 9 = .ok (.iconst 1, 1) := by decide +kernel
theorem dX11_isSide_10 : decode cX11_isSide 10 = .ok (.goto 4, 3) := by decide +kernel
theorem dX11_isSide_13 : decode cX11_isSide 13 = .ok (.iconst 0, 1) := by decide +kernel
theorem dX11_isSide_14 : decode cX11_isSide 14 = .ok (.ireturn, 1) := by decide +kernel
theorem dX11_isWind_0 : decode cX11_isWind 0 = .ok (.iload_n 0, 1) := by decide +kernel
theorem dX11_isWind_1 : decode cX11_isWind 1 = .ok (.ifCond .lt 12, 3) := by decide +kernel
theorem dX11_isWind_4 : decode cX11_isWind 4 = .ok (.iload_n 0, 1) := by decide +kernel
theorem dX11_isWind_5 : decode cX11_isWind 5 = .ok (.iconst 5, 1) := by decide +kernel
theorem dX11_isWind_6 : decode cX11_isWind 6 = .ok (.if_icmp .ge 7, 3) := by decide +kernel
theorem dX11_isWind_9 : decode cX11_isWind 9 = .ok (.iconst 1, 1) := by decide +kernel
theorem dX11_isWind_10 : decode cX11_isWind 10 = .ok (.goto 4, 3) := by decide +kernel
theorem dX11_isWind_13 : decode cX11_isWind 13 = .ok (.iconst 0, 1) := by decide +kernel
theorem dX11_isWind_14 : decode cX11_isWind 14 = .ok (.ireturn, 1) := by decide +kernel
theorem dX11_isAhead_0 : decode cX11_isAhead 0 = .ok (.iload_n 0, 1) := by decide +kernel
theorem dX11_isAhead_1 : decode cX11_isAhead 1 = .ok (.ifCond .lt 12, 3) := by decide +kernel
theorem dX11_isAhead_4 : decode cX11_isAhead 4 = .ok (.iload_n 0, 1) := by decide +kernel
theorem dX11_isAhead_5 : decode cX11_isAhead 5 = .ok (.iconst 3, 1) := by decide +kernel
theorem dX11_isAhead_6 : decode cX11_isAhead 6 = .ok (.if_icmp .gt 7, 3) := by decide +kernel
theorem dX11_isAhead_9 : decode cX11_isAhead 9 = .ok (.iconst 1, 1) := by decide +kernel
theorem dX11_isAhead_10 : decode cX11_isAhead 10 = .ok (.goto 4, 3) := by decide +kernel
theorem dX11_isAhead_13 : decode cX11_isAhead 13 = .ok (.iconst 0, 1) := by decide +kernel
theorem dX11_isAhead_14 : decode cX11_isAhead 14 = .ok (.ireturn, 1) := by decide +kernel
theorem dX11_isPart_0 : decode cX11_isPart 0 = .ok (.iload_n 0, 1) := by decide +kernel
theorem dX11_isPart_1 : decode cX11_isPart 1 = .ok (.ifCond .eq 8, 3) := by decide +kernel
theorem dX11_isPart_4 : decode cX11_isPart 4 = .ok (.iload_n 0, 1) := by decide +kernel
theorem dX11_isPart_5 : decode cX11_isPart 5 = .ok (.iconst 1, 1) := by decide +kernel
theorem dX11_isPart_6 : decode cX11_isPart 6 = .ok (.if_icmp .ne 7, 3) := by decide +kernel
theorem dX11_isPart_9 : decode cX11_isPart 9 = .ok (.iconst 1, 1) := by decide +kernel
theorem dX11_isPart_10 : decode cX11_isPart 10 = .ok (.goto 4, 3) := by decide +kernel
theorem dX11_isPart_13 : decode cX11_isPart 13 = .ok (.iconst 0, 1) := by decide +kernel
theorem dX11_isPart_14 : decode cX11_isPart 14 = .ok (.ireturn, 1) := by decide +kernel
theorem dX11_isAsked_0 : decode cX11_isAsked 0 = .ok (.iload_n 0, 1) := by decide +kernel
theorem dX11_isAsked_1 : decode cX11_isAsked 1 = .ok (.ifCond .eq 15, 3) := by decide +kernel
theorem dX11_isAsked_4 : decode cX11_isAsked 4 = .ok (.iload_n 0, 1) := by decide +kernel
theorem dX11_isAsked_5 : decode cX11_isAsked 5 = .ok (.bipush 10, 2) := by decide +kernel
theorem dX11_isAsked_7 : decode cX11_isAsked 7 = .ok (.if_icmp .lt 13, 3) := by decide +kernel
theorem dX11_isAsked_10 : decode cX11_isAsked 10 = .ok (.iload_n 0, 1) := by decide +kernel
theorem dX11_isAsked_11 : decode cX11_isAsked 11 = .ok (.bipush 12, 2) := by decide +kernel
theorem dX11_isAsked_13 : decode cX11_isAsked 13 = .ok (.if_icmp .gt 7, 3) := by decide +kernel
theorem dX11_isAsked_16 : decode cX11_isAsked 16 = .ok (.iconst 1, 1) := by decide +kernel
theorem dX11_isAsked_17 : decode cX11_isAsked 17 = .ok (.goto 4, 3) := by decide +kernel
theorem dX11_isAsked_20 : decode cX11_isAsked 20 = .ok (.iconst 0, 1) := by decide +kernel
theorem dX11_isAsked_21 : decode cX11_isAsked 21 = .ok (.ireturn, 1) := by decide +kernel
theorem dX11_isImage_0 : decode cX11_isImage 0 = .ok (.iload_n 0, 1) := by decide +kernel
theorem dX11_isImage_1 : decode cX11_isImage 1 = .ok (.ifCond .lt 12, 3) := by decide +kernel
theorem dX11_isImage_4 : decode cX11_isImage 4 = .ok (.iload_n 0, 1) := by decide +kernel
theorem dX11_isImage_5 : decode cX11_isImage 5 = .ok (.iconst 2, 1) := by decide +kernel
theorem dX11_isImage_6 : decode cX11_isImage 6 = .ok (.if_icmp .ge 7, 3) := by decide +kernel
theorem dX11_isImage_9 : decode cX11_isImage 9 = .ok (.iconst 1, 1) := by decide +kernel
theorem dX11_isImage_10 : decode cX11_isImage 10 = .ok (.goto 4, 3) := by decide +kernel
theorem dX11_isImage_13 : decode cX11_isImage 13 = .ok (.iconst 0, 1) := by decide +kernel
theorem dX11_isImage_14 : decode cX11_isImage 14 = .ok (.ireturn, 1) := by decide +kernel
theorem dX11_isSheet_0 : decode cX11_isSheet 0 = .ok (.iload_n 0, 1) := by decide +kernel
theorem dX11_isSheet_1 : decode cX11_isSheet 1 = .ok (.ifCond .lt 12, 3) := by decide +kernel
theorem dX11_isSheet_4 : decode cX11_isSheet 4 = .ok (.iload_n 0, 1) := by decide +kernel
theorem dX11_isSheet_5 : decode cX11_isSheet 5 = .ok (.iconst 4, 1) := by decide +kernel
theorem dX11_isSheet_6 : decode cX11_isSheet 6 = .ok (.if_icmp .ge 7, 3) := by decide +kernel
theorem dX11_isSheet_9 : decode cX11_isSheet 9 = .ok (.iconst 1, 1) := by decide +kernel
theorem dX11_isSheet_10 : decode cX11_isSheet 10 = .ok (.goto 4, 3) := by decide +kernel
theorem dX11_isSheet_13 : decode cX11_isSheet 13 = .ok (.iconst 0, 1) := by decide +kernel
theorem dX11_isSheet_14 : decode cX11_isSheet 14 = .ok (.ireturn, 1) := by decide +kernel
theorem dX11_isLane_0 : decode cX11_isLane 0 = .ok (.iload_n 0, 1) := by decide +kernel
theorem dX11_isLane_1 : decode cX11_isLane 1 = .ok (.ifCond .lt 12, 3) := by decide +kernel
theorem dX11_isLane_4 : decode cX11_isLane 4 = .ok (.iload_n 0, 1) := by decide +kernel
theorem dX11_isLane_5 : decode cX11_isLane 5 = .ok (.iconst 3, 1) := by decide +kernel
theorem dX11_isLane_6 : decode cX11_isLane 6 = .ok (.if_icmp .ge 7, 3) := by decide +kernel
theorem dX11_isLane_9 : decode cX11_isLane 9 = .ok (.iconst 1, 1) := by decide +kernel
theorem dX11_isLane_10 : decode cX11_isLane 10 = .ok (.goto 4, 3) := by decide +kernel
theorem dX11_isLane_13 : decode cX11_isLane 13 = .ok (.iconst 0, 1) := by decide +kernel
theorem dX11_isLane_14 : decode cX11_isLane 14 = .ok (.ireturn, 1) := by decide +kernel
theorem dX11_isOver_0 : decode cX11_isOver 0 = .ok (.aload_n 0, 1) := by decide +kernel
theorem dX11_isOver_1 : decode cX11_isOver 1 = .ok (.getfield 10, 3) := by decide +kernel
theorem dX11_isOver_4 : decode cX11_isOver 4 = .ok (.getfield 122, 3) := by decide +kernel
theorem dX11_isOver_7 : decode cX11_isOver 7 = .ok (.aload_n 0, 1) := by decide +kernel
theorem dX11_isOver_8 : decode cX11_isOver 8 = .ok (.getfield 10, 3) := by decide +kernel
theorem dX11_isOver_11 : decode cX11_isOver 11 = .ok (.getfield 104, 3) := by decide +kernel
theorem dX11_isOver_14 : decode cX11_isOver 14 = .ok (.invokevirtual 131, 3) := by decide +kernel
theorem dX11_isOver_17 : decode cX11_isOver 17 = .ok (.bipush (-4), 2) := by decide +kernel
theorem dX11_isOver_19 : decode cX11_isOver 19 = .ok (.if_icmp .eq 7, 3) := by decide +kernel
theorem dX11_isOver_22 : decode cX11_isOver 22 = .ok (.iconst 1, 1) := by decide +kernel
theorem dX11_isOver_23 : decode cX11_isOver 23 = .ok (.goto 4, 3) := by decide +kernel
theorem dX11_isOver_26 : decode cX11_isOver 26 = .ok (.iconst 0, 1) := by decide +kernel
theorem dX11_isOver_27 : decode cX11_isOver 27 = .ok (.ireturn, 1) := by decide +kernel
theorem dX11_imageAt_0 : decode cX11_imageAt 0 = .ok (.iload_n 1, 1) := by decide +kernel
theorem dX11_imageAt_1 : decode cX11_imageAt 1 = .ok (.invokestatic 237, 3) := by decide +kernel
theorem dX11_imageAt_4 : decode cX11_imageAt 4 = .ok (.ifCond .eq 21, 3) := by decide +kernel
theorem dX11_imageAt_7 : decode cX11_imageAt 7 = .ok (.aload_n 0, 1) := by decide +kernel
theorem dX11_imageAt_8 : decode cX11_imageAt 8 = .ok (.getfield 20, 3) := by decide +kernel
theorem dX11_imageAt_11 : decode cX11_imageAt 11 = .ok (.iload_n 1, 1) := by decide +kernel
theorem dX11_imageAt_12 : decode cX11_imageAt 12 = .ok (.baload, 1) := by decide +kernel
theorem dX11_imageAt_13 : decode cX11_imageAt 13 = .ok (.ifCond .eq 12, 3) := by decide +kernel
theorem dX11_imageAt_16 : decode cX11_imageAt 16 = .ok (.aload_n 0, 1) := by decide +kernel
theorem dX11_imageAt_17 : decode cX11_imageAt 17 = .ok (.getfield 16, 3) := by decide +kernel
theorem dX11_imageAt_20 : decode cX11_imageAt 20 = .ok (.iload_n 1, 1) := by decide +kernel
theorem dX11_imageAt_21 : decode cX11_imageAt 21 = .ok (.aaload, 1) := by decide +kernel
theorem dX11_imageAt_22 : decode cX11_imageAt 22 = .ok (.goto 4, 3) := by decide +kernel
theorem dX11_imageAt_25 : decode cX11_imageAt 25 = .ok (.aconst_null, 1) := by decide +kernel
theorem dX11_imageAt_26 : decode cX11_imageAt 26 = .ok (.areturn, 1) := by decide +kernel
theorem dX11_listNow_0 : decode cX11_listNow 0 = .ok (.aload_n 0, 1) := by decide +kernel
theorem dX11_listNow_1 : decode cX11_listNow 1 = .ok (.getfield 10, 3) := by decide +kernel
theorem dX11_listNow_4 : decode cX11_listNow 4 = .ok (.getfield 122, 3) := by decide +kernel
theorem dX11_listNow_7 : decode cX11_listNow 7 = .ok (.aload_n 0, 1) := by decide +kernel
theorem dX11_listNow_8 : decode cX11_listNow 8 = .ok (.getfield 10, 3) := by decide +kernel
theorem dX11_listNow_11 : decode cX11_listNow 11 = .ok (.getfield 104, 3) := by decide +kernel
theorem dX11_listNow_14 : decode cX11_listNow 14 = .ok (.iload_n 1, 1) := by decide +kernel
theorem dX11_listNow_15 : decode cX11_listNow 15 = .ok (.aload_n 0, 1) := by decide +kernel
theorem dX11_listNow_16 : decode cX11_listNow 16 = .ok (.getfield 35, 3) := by decide +kernel
theorem dX11_listNow_19 : decode cX11_listNow 19 = .ok (.getfield 296, 3) := by decide +kernel
theorem dX11_listNow_22 : decode cX11_listNow 22 = .ok (.invokevirtual 300, 3) := by decide +kernel
theorem dX11_listNow_25 : decode cX11_listNow 25 = .ok (.ireturn, 1) := by decide +kernel
theorem dX11_playNow_0 : decode cX11_playNow 0 = .ok (.iload_n 1, 1) := by decide +kernel
theorem dX11_playNow_1 : decode cX11_playNow 1 = .ok (.invokestatic 159, 3) := by decide +kernel
theorem dX11_playNow_4 : decode cX11_playNow 4 = .ok (.ifCond .ne 5, 3) := by decide +kernel
theorem dX11_playNow_7 : decode cX11_playNow 7 = .ok (.iconst (-1), 1) := by decide +kernel
theorem dX11_playNow_8 : decode cX11_playNow 8 = .ok (.ireturn, 1) := by decide +kernel
theorem dX11_playNow_9 : decode cX11_playNow 9 = .ok (.aload_n 0, 1) := by decide +kernel
theorem dX11_playNow_10 : decode cX11_playNow 10 = .ok (.iload_n 1, 1) := by decide +kernel
theorem dX11_playNow_11 : decode cX11_playNow 11 = .ok (.invokevirtual 190, 3) := by decide +kernel
theorem dX11_playNow_14 : decode cX11_playNow 14 = .ok (.istore_n 3, 1) := by decide +kernel
theorem dX11_playNow_15 : decode cX11_playNow 15 = .ok (.iload_n 2, 1) := by decide +kernel
theorem dX11_playNow_16 : decode cX11_playNow 16 = .ok (.ifCond .lt 12, 3) := by decide +kernel
theorem dX11_playNow_19 : decode cX11_playNow 19 = .ok (.iload_n 2, 1) := by decide +kernel
theorem dX11_playNow_20 : decode cX11_playNow 20 = .ok (.iload_n 3, 1) := by decide +kernel
theorem dX11_playNow_21 : decode cX11_playNow 21 = .ok (.if_icmp .ge 7, 3) := by decide +kernel
theorem dX11_playNow_24 : decode cX11_playNow 24 = .ok (.iconst 1, 1) := by decide +kernel
theorem dX11_playNow_25 : decode cX11_playNow 25 = .ok (.goto 4, 3) := by decide +kernel
theorem dX11_playNow_28 : decode cX11_playNow 28 = .ok (.iconst 0, 1) := by decide +kernel
theorem dX11_playNow_29 : decode cX11_playNow 29 = .ok (.istore 4, 2) := by decide +kernel
theorem dX11_playNow_31 : decode cX11_playNow 31 = .ok (.iload_n 2, 1) := by decide +kernel
theorem dX11_playNow_32 : decode cX11_playNow 32 = .ok (.bipush (-4), 2) := by decide +kernel
theorem dX11_playNow_34 : decode cX11_playNow 34 = .ok (.if_icmp .ne 11, 3) := by decide +kernel
theorem dX11_playNow_37 : decode cX11_playNow 37 = .ok (.iload_n 3, 1) := by decide +kernel
theorem dX11_playNow_38 : decode cX11_playNow 38 = .ok (.ifCond .ne 7, 3) := by decide +kernel
theorem dX11_playNow_41 : decode cX11_playNow 41 = .ok (.iconst 1, 1) := by decide +kernel
theorem dX11_playNow_42 : decode cX11_playNow 42 = .ok (.goto 4, 3) := by decide +kernel
theorem dX11_playNow_45 : decode cX11_playNow 45 = .ok (.iconst 0, 1) := by decide +kernel
theorem dX11_playNow_46 : decode cX11_playNow 46 = .ok (.istore 5, 2) := by decide +kernel
theorem dX11_playNow_48 : decode cX11_playNow 48 = .ok (.iload 4, 2) := by decide +kernel
theorem dX11_playNow_50 : decode cX11_playNow 50 = .ok (.ifCond .ne 10, 3) := by decide +kernel
theorem dX11_playNow_53 : decode cX11_playNow 53 = .ok (.iload 5, 2) := by decide +kernel
theorem dX11_playNow_55 : decode cX11_playNow 55 = .ok (.ifCond .ne 5, 3) := by decide +kernel
theorem dX11_playNow_58 : decode cX11_playNow 58 = .ok (.iconst (-1), 1) := by decide +kernel
theorem dX11_playNow_59 : decode cX11_playNow 59 = .ok (.ireturn, 1) := by decide +kernel
theorem dX11_playNow_60 : decode cX11_playNow 60 = .ok (.aload_n 0, 1) := by decide +kernel
theorem dX11_playNow_61 : decode cX11_playNow 61 = .ok (.invokevirtual 226, 3) := by decide +kernel
theorem dX11_playNow_64 : decode cX11_playNow 64 = .ok (.ifCond .eq 6, 3) := by decide +kernel
theorem dX11_playNow_67 : decode cX11_playNow 67 = .ok (.bipush (-2), 2) := by decide +kernel
theorem dX11_playNow_69 : decode cX11_playNow 69 = .ok (.ireturn, 1) := by decide +kernel
theorem dX11_playNow_70 : decode cX11_playNow 70 = .ok (.aload_n 0, 1) := by decide +kernel
theorem dX11_playNow_71 : decode cX11_playNow 71 = .ok (.getfield 10, 3) := by decide +kernel
theorem dX11_playNow_74 : decode cX11_playNow 74 = .ok (.getfield 128, 3) := by decide +kernel
theorem dX11_playNow_77 : decode cX11_playNow 77 = .ok (.sipush 999, 3) := by decide +kernel
theorem dX11_playNow_80 : decode cX11_playNow 80 = .ok (.if_icmp .lt 6, 3) := by decide +kernel
theorem dX11_playNow_83 : decode cX11_playNow 83 = .ok (.bipush (-3), 2) := by decide +kernel
theorem dX11_playNow_85 : decode cX11_playNow 85 = .ok (.ireturn, 1) := by decide +kernel
theorem dX11_playNow_86 : decode cX11_playNow 86 = .ok (.aload_n 0, 1) := by decide +kernel
theorem dX11_playNow_87 : decode cX11_playNow 87 = .ok (.getfield 10, 3) := by decide +kernel
theorem dX11_playNow_90 : decode cX11_playNow 90 = .ok (.dup, 1) := by decide +kernel
theorem dX11_playNow_91 : decode cX11_playNow 91 = .ok (.getfield 128, 3) := by decide +kernel
theorem dX11_playNow_94 : decode cX11_playNow 94 = .ok (.iconst 1, 1) := by decide +kernel
theorem dX11_playNow_95 : decode cX11_playNow 95 = .ok (.iadd, 1) := by decide +kernel
theorem dX11_playNow_96 : decode cX11_playNow 96 = .ok (.putfield 128, 3) := by decide +kernel
theorem dX11_playNow_99 : decode cX11_playNow 99 = .ok (.aload_n 0, 1) := by decide +kernel
theorem dX11_playNow_100 : decode cX11_playNow 100 = .ok (.getfield 10, 3) := by decide +kernel
theorem dX11_playNow_103 : decode cX11_playNow 103 = .ok (.getfield 122, 3) := by decide +kernel
theorem dX11_playNow_106 : decode cX11_playNow 106 = .ok (.aload_n 0, 1) := by decide +kernel
theorem dX11_playNow_107 : decode cX11_playNow 107 = .ok (.getfield 10, 3) := by decide +kernel
theorem dX11_playNow_110 : decode cX11_playNow 110 = .ok (.getfield 104, 3) := by decide +kernel
theorem dX11_playNow_113 : decode cX11_playNow 113 = .ok (.iload_n 1, 1) := by decide +kernel
theorem dX11_playNow_114 : decode cX11_playNow 114 = .ok (.iload 4, 2) := by decide +kernel
theorem dX11_playNow_116 : decode cX11_playNow 116 = .ok (.ifCond .eq 14, 3) := by decide +kernel
theorem dX11_playNow_119 : decode cX11_playNow 119 = .ok (.aload_n 0, 1) := by decide +kernel
theorem dX11_playNow_120 : decode cX11_playNow 120 = .ok (.getfield 35, 3) := by decide +kernel
theorem dX11_playNow_123 : decode cX11_playNow 123 = .ok (.iload_n 2, 1) := by decide +kernel
theorem dX11_playNow_124 : decode cX11_playNow 124 = .ok (.invokevirtual 193, 3) := by decide +kernel
theorem dX11_playNow_127 : decode cX11_playNow 127 = .ok (.goto 5, 3) := by decide +kernel
theorem dX11_playNow_130 : decode cX11_playNow 130 = .ok (.bipush (-4), 2) := by decide +kernel
theorem dX11_playNow_132 : decode cX11_playNow 132 = .ok (.invokevirtual 304, 3) := by decide +kernel
theorem dX11_playNow_135 : decode cX11_playNow 135 = .ok (.ireturn, 1) := by decide +kernel
theorem dX11_playSheet_0 : decode cX11_playSheet 0 = .ok (.aload_n 0, 1) := by decide +kernel
theorem dX11_playSheet_1 : decode cX11_playSheet 1 = .ok (.getfield 10, 3) := by decide +kernel
theorem dX11_playSheet_4 : decode cX11_playSheet 4 = .ok (.getfield 128, 3) := by decide +kernel
theorem dX11_playSheet_7 : decode cX11_playSheet 7 = .ok (.istore 4, 2) := by decide +kernel
theorem dX11_playSheet_9 : decode cX11_playSheet 9 = .ok (.aload_n 0, 1) := by decide +kernel
theorem dX11_playSheet_10 : decode cX11_playSheet 10 = .ok (.getfield 63, 3) := by decide +kernel
theorem dX11_playSheet_13 : decode cX11_playSheet 13 = .ok (.aload_n 0, 1) := by decide +kernel
theorem dX11_playSheet_14 : decode cX11_playSheet 14 = .ok (.getfield 10, 3) := by decide +kernel
theorem dX11_playSheet_17 : decode cX11_playSheet 17 = .ok (.getfield 122, 3) := by decide +kernel
theorem dX11_playSheet_20 : decode cX11_playSheet 20 = .ok (.invokevirtual 211, 3) := by decide +kernel
theorem dX11_playSheet_23 : decode cX11_playSheet 23 = .ok (.iconst 0, 1) := by decide +kernel
theorem dX11_playSheet_24 : decode cX11_playSheet 24 = .ok (.istore 5, 2) := by decide +kernel
theorem dX11_playSheet_26 : decode cX11_playSheet 26 = .ok (.iload 5, 2) := by decide +kernel
theorem dX11_playSheet_28 : decode cX11_playSheet 28 = .ok (.iload_n 3, 1) := by decide +kernel
theorem dX11_playSheet_29 : decode cX11_playSheet 29 = .ok (.if_icmp .ge 94, 3) := by decide +kernel
theorem dX11_playSheet_32 : decode cX11_playSheet 32 = .ok (.iload_n 2, 1) := by decide +kernel
theorem dX11_playSheet_33 : decode cX11_playSheet 33 = .ok (.iconst 2, 1) := by decide +kernel
theorem dX11_playSheet_34 : decode cX11_playSheet 34 = .ok (.iload 5, 2) := by decide +kernel
theorem dX11_playSheet_36 : decode cX11_playSheet 36 = .ok (.imul, 1) := by decide +kernel
theorem dX11_playSheet_37 : decode cX11_playSheet 37 = .ok (.iadd, 1) := by decide +kernel
theorem dX11_playSheet_38 : decode cX11_playSheet 38 = .ok (.istore 6, 2) := by decide +kernel
theorem dX11_playSheet_40 : decode cX11_playSheet 40 = .ok (.aload_n 0, 1) := by decide +kernel
theorem dX11_playSheet_41 : decode cX11_playSheet 41 = .ok (.aload_n 0, 1) := by decide +kernel
theorem dX11_playSheet_42 : decode cX11_playSheet 42 = .ok (.getfield 56, 3) := by decide +kernel
theorem dX11_playSheet_45 : decode cX11_playSheet 45 = .ok (.iload_n 1, 1) := by decide +kernel
theorem dX11_playSheet_46 : decode cX11_playSheet 46 = .ok (.iload 6, 2) := by decide +kernel
theorem dX11_playSheet_48 : decode cX11_playSheet 48 = .ok (.invokevirtual 346, 3) := by decide +kernel
theorem dX11_playSheet_51 : decode cX11_playSheet 51 = .ok (.aload_n 0, 1) := by decide +kernel
theorem dX11_playSheet_52 : decode cX11_playSheet 52 = .ok (.getfield 56, 3) := by decide +kernel
theorem dX11_playSheet_55 : decode cX11_playSheet 55 = .ok (.iload_n 1, 1) := by decide +kernel
theorem dX11_playSheet_56 : decode cX11_playSheet 56 = .ok (.iload 6, 2) := by decide +kernel
theorem dX11_playSheet_58 : decode cX11_playSheet 58 = .ok (.iconst 1, 1) := by decide +kernel
theorem dX11_playSheet_59 : decode cX11_playSheet 59 = .ok (.iadd, 1) := by decide +kernel
theorem dX11_playSheet_60 : decode cX11_playSheet 60 = .ok (.invokevirtual 346, 3) := by decide +kernel
theorem dX11_playSheet_63 : decode cX11_playSheet 63 = .ok (.invokevirtual 198, 3) := by decide +kernel
theorem dX11_playSheet_66 : decode cX11_playSheet 66 = .ok (.istore 7, 2) := by decide +kernel
theorem dX11_playSheet_68 : decode cX11_playSheet 68 = .ok (.iload 7, 2) := by decide +kernel
theorem dX11_playSheet_70 : decode cX11_playSheet 70 = .ok (.iconst (-1), 1) := by decide +kernel
theorem dX11_playSheet_71 : decode cX11_playSheet 71 = .ok (.if_icmp .eq 20, 3) := by decide +kernel
theorem dX11_playSheet_74 : decode cX11_playSheet 74 = .ok (.iload 7, 2) := by decide +kernel
theorem dX11_playSheet_76 : decode cX11_playSheet 76 = .ok (.bipush (-2), 2) := by decide +kernel
theorem dX11_playSheet_78 : decode cX11_playSheet 78 = .ok (.if_icmp .eq 13, 3) := by decide +kernel
theorem dX11_playSheet_81 : decode cX11_playSheet 81 = .ok (.iload 7, 2) := by decide +kernel
theorem dX11_playSheet_83 : decode cX11_playSheet 83 = .ok (.bipush (-3), 2) := by decide +kernel
theorem dX11_playSheet_85 : decode cX11_playSheet 85 = .ok (.if_icmp .eq 6, 3) := by decide +kernel
theorem dX11_playSheet_88 : decode cX11_playSheet 88 = .ok (.goto 29, 3) := by decide +kernel
theorem dX11_playSheet_91 : decode cX11_playSheet 91 = .ok (.aload_n 0, 1) := by decide +kernel
theorem dX11_playSheet_92 : decode cX11_playSheet 92 = .ok (.getfield 10, 3) := by decide +kernel
theorem dX11_playSheet_95 : decode cX11_playSheet 95 = .ok (.getfield 122, 3) := by decide +kernel
theorem dX11_playSheet_98 : decode cX11_playSheet 98 = .ok (.aload_n 0, 1) := by decide +kernel
theorem dX11_playSheet_99 : decode cX11_playSheet 99 = .ok (.getfield 63, 3) := by decide +kernel
theorem dX11_playSheet_102 : decode cX11_playSheet 102 = .ok (.invokevirtual 211, 3) := by decide +kernel
theorem dX11_playSheet_105 : decode cX11_playSheet 105 = .ok (.aload_n 0, 1) := by decide +kernel
theorem dX11_playSheet_106 : decode cX11_playSheet 106 = .ok (.getfield 10, 3) := by decide +kernel
theorem dX11_playSheet_109 : decode cX11_playSheet 109 = .ok (.iload 4, 2) := by decide +kernel
theorem dX11_playSheet_111 : decode cX11_playSheet 111 = .ok (.putfield 128, 3) := by decide +kernel
theorem dX11_playSheet_114 : decode cX11_playSheet 114 = .ok (.iload 5, 2) := by decide +kernel
theorem dX11_playSheet_116 : decode cX11_playSheet 116 = .ok (.ireturn, 1) := by decide +kernel
theorem dX11_playSheet_117 : decode cX11_playSheet 117 = .ok (.iinc 5 1, 3) := by decide +kernel
theorem dX11_playSheet_120 : decode cX11_playSheet 120 = .ok (.goto (-94), 3) := by decide +kernel
theorem dX11_playSheet_123 : decode cX11_playSheet 123 = .ok (.bipush (-4), 2) := by decide +kernel
theorem dX11_playSheet_125 : decode cX11_playSheet 125 = .ok (.ireturn, 1) := by decide +kernel
theorem dX11_findFits_0 : decode cX11_findFits 0 = .ok (.aload_n 0, 1) := by decide +kernel
theorem dX11_findFits_1 : decode cX11_findFits 1 = .ok (.getfield 42, 3) := by decide +kernel
theorem dX11_findFits_4 : decode cX11_findFits 4 = .ok (.getfield 349, 3) := by decide +kernel
theorem dX11_findFits_7 : decode cX11_findFits 7 = .ok (.aload_n 0, 1) := by decide +kernel
theorem dX11_findFits_8 : decode cX11_findFits 8 = .ok (.getfield 10, 3) := by decide +kernel
theorem dX11_findFits_11 : decode cX11_findFits 11 = .ok (.invokevirtual 353, 3) := by decide +kernel
theorem dX11_findFits_14 : decode cX11_findFits 14 = .ok (.aload_n 0, 1) := by decide +kernel
theorem dX11_findFits_15 : decode cX11_findFits 15 = .ok (.getfield 42, 3) := by decide +kernel
theorem dX11_findFits_18 : decode cX11_findFits 18 = .ok (.iload_n 1, 1) := by decide +kernel
theorem dX11_findFits_19 : decode cX11_findFits 19 = .ok (.putfield 357, 3) := by decide +kernel
theorem dX11_findFits_22 : decode cX11_findFits 22 = .ok (.aload_n 0, 1) := by decide +kernel
theorem dX11_findFits_23 : decode cX11_findFits 23 = .ok (.getfield 42, 3) := by decide +kernel
theorem dX11_findFits_26 : decode cX11_findFits 26 = .ok (.aload_n 0, 1) := by decide +kernel
theorem dX11_findFits_27 : decode cX11_findFits 27 = .ok (.getfield 10, 3) := by decide +kernel
theorem dX11_findFits_30 : decode cX11_findFits 30 = .ok (.getfield 104, 3) := by decide +kernel
theorem dX11_findFits_33 : decode cX11_findFits 33 = .ok (.aload_n 0, 1) := by decide +kernel
theorem dX11_findFits_34 : decode cX11_findFits 34 = .ok (.getfield 10, 3) := by decide +kernel
theorem dX11_findFits_37 : decode cX11_findFits 37 = .ok (.getfield 122, 3) := by decide +kernel
theorem dX11_findFits_40 : decode cX11_findFits 40 = .ok (.aload_n 0, 1) := by decide +kernel
theorem dX11_findFits_41 : decode cX11_findFits 41 = .ok (.getfield 42, 3) := by decide +kernel
theorem dX11_findFits_44 : decode cX11_findFits 44 = .ok (.getfield 349, 3) := by decide +kernel
theorem dX11_findFits_47 : decode cX11_findFits 47 = .ok (.aload_n 0, 1) := by decide +kernel
theorem dX11_findFits_48 : decode cX11_findFits 48 = .ok (.getfield 35, 3) := by decide +kernel
theorem dX11_findFits_51 : decode cX11_findFits 51 = .ok (.iload_n 2, 1) := by decide +kernel
theorem dX11_findFits_52 : decode cX11_findFits 52 = .ok (.invokevirtual 257, 3) := by decide +kernel
theorem dX11_findFits_55 : decode cX11_findFits 55 = .ok (.ireturn, 1) := by decide +kernel
theorem dX11_likelyNow_0 : decode cX11_likelyNow 0 = .ok (.aload_n 0, 1) := by decide +kernel
theorem dX11_likelyNow_1 : decode cX11_likelyNow 1 = .ok (.getfield 35, 3) := by decide +kernel
theorem dX11_likelyNow_4 : decode cX11_likelyNow 4 = .ok (.getfield 210, 3) := by decide +kernel
theorem dX11_likelyNow_7 : decode cX11_likelyNow 7 = .ok (.aload_n 0, 1) := by decide +kernel
theorem dX11_likelyNow_8 : decode cX11_likelyNow 8 = .ok (.getfield 10, 3) := by decide +kernel
theorem dX11_likelyNow_11 : decode cX11_likelyNow 11 = .ok (.getfield 122, 3) := by decide +kernel
theorem dX11_likelyNow_14 : decode cX11_likelyNow 14 = .ok (.invokevirtual 211, 3) := by decide +kernel
theorem dX11_likelyNow_17 : decode cX11_likelyNow 17 = .ok (.aload_n 0, 1) := by decide +kernel
theorem dX11_likelyNow_18 : decode cX11_likelyNow 18 = .ok (.getfield 10, 3) := by decide +kernel
theorem dX11_likelyNow_21 : decode cX11_likelyNow 21 = .ok (.getfield 104, 3) := by decide +kernel
theorem dX11_likelyNow_24 : decode cX11_likelyNow 24 = .ok (.aload_n 0, 1) := by decide +kernel
theorem dX11_likelyNow_25 : decode cX11_likelyNow 25 = .ok (.getfield 10, 3) := by decide +kernel
theorem dX11_likelyNow_28 : decode cX11_likelyNow 28 = .ok (.getfield 122, 3) := by decide +kernel
theorem dX11_likelyNow_31 : decode cX11_likelyNow 31 = .ok (.getfield 125, 3) := by decide +kernel
theorem dX11_likelyNow_34 : decode cX11_likelyNow 34 = .ok (.aload_n 0, 1) := by decide +kernel
theorem dX11_likelyNow_35 : decode cX11_likelyNow 35 = .ok (.getfield 35, 3) := by decide +kernel
theorem dX11_likelyNow_38 : decode cX11_likelyNow 38 = .ok (.iload_n 1, 1) := by decide +kernel
theorem dX11_likelyNow_39 : decode cX11_likelyNow 39 = .ok (.iload_n 2, 1) := by decide +kernel
theorem dX11_likelyNow_40 : decode cX11_likelyNow 40 = .ok (.invokestatic 360, 3) := by decide +kernel
theorem dX11_likelyNow_43 : decode cX11_likelyNow 43 = .ok (.lreturn, 1) := by decide +kernel
theorem dX11_chain_0 : decode cX11_chain 0 = .ok (.new 194, 3) := by decide +kernel
theorem dX11_chain_3 : decode cX11_chain 3 = .ok (.dup, 1) := by decide +kernel
theorem dX11_chain_4 : decode cX11_chain 4 = .ok (.aconst_null, 1) := by decide +kernel
theorem dX11_chain_5 : decode cX11_chain 5 = .ok (.invokespecial 364, 3) := by decide +kernel
theorem dX11_chain_8 : decode cX11_chain 8 = .ok (.astore_n 1, 1) := by decide +kernel
theorem dX11_chain_9 : decode cX11_chain 9 = .ok (.iconst 0, 1) := by decide +kernel
theorem dX11_chain_10 : decode cX11_chain 10 = .ok (.istore_n 2, 1) := by decide +kernel
theorem dX11_chain_11 : decode cX11_chain 11 = .ok (.iload_n 2, 1) := by decide +kernel
theorem dX11_chain_12 : decode cX11_chain 12 = .ok (.iload_n 0, 1) := by decide +kernel
theorem dX11_chain_13 : decode cX11_chain 13 = .ok (.if_icmp .ge 18, 3) := by decide +kernel
theorem dX11_chain_16 : decode cX11_chain 16 = .ok (.new 194, 3) := by decide +kernel
theorem dX11_chain_19 : decode cX11_chain 19 = .ok (.dup, 1) := by decide +kernel
theorem dX11_chain_20 : decode cX11_chain 20 = .ok (.aload_n 1, 1) := by decide +kernel
theorem dX11_chain_21 : decode cX11_chain 21 = .ok (.invokespecial 364, 3) := by decide +kernel
theorem dX11_chain_24 : decode cX11_chain 24 = .ok (.astore_n 1, 1) := by decide +kernel
theorem dX11_chain_25 : decode cX11_chain 25 = .ok (.iinc 2 1, 3) := by decide +kernel
theorem dX11_chain_28 : decode cX11_chain 28 = .ok (.goto (-17), 3) := by decide +kernel
theorem dX11_chain_31 : decode cX11_chain 31 = .ok (.aload_n 1, 1) := by decide +kernel
theorem dX11_chain_32 : decode cX11_chain 32 = .ok (.areturn, 1) := by decide +kernel
theorem dX11_power_0 : decode cX11_power 0 = .ok (.lconst 1, 1) := by decide +kernel
theorem dX11_power_1 : decode cX11_power 1 = .ok (.lstore_n 2, 1) := by decide +kernel
theorem dX11_power_2 : decode cX11_power 2 = .ok (.iconst 0, 1) := by decide +kernel
theorem dX11_power_3 : decode cX11_power 3 = .ok (.istore 4, 2) := by decide +kernel
theorem dX11_power_5 : decode cX11_power 5 = .ok (.iload 4, 2) := by decide +kernel
theorem dX11_power_7 : decode cX11_power 7 = .ok (.iload_n 1, 1) := by decide +kernel
theorem dX11_power_8 : decode cX11_power 8 = .ok (.if_icmp .ge 14, 3) := by decide +kernel
theorem dX11_power_11 : decode cX11_power 11 = .ok (.lload_n 2, 1) := by decide +kernel
theorem dX11_power_12 : decode cX11_power 12 = .ok (.iload_n 0, 1) := by decide +kernel
theorem dX11_power_13 : decode cX11_power 13 = .ok (.i2l, 1) := by decide +kernel
theorem dX11_power_14 : decode cX11_power 14 = .ok (.lmul, 1) := by decide +kernel
theorem dX11_power_15 : decode cX11_power 15 = .ok (.lstore_n 2, 1) := by decide +kernel
theorem dX11_power_16 : decode cX11_power 16 = .ok (.iinc 4 1, 3) := by decide +kernel
theorem dX11_power_19 : decode cX11_power 19 = .ok (.goto (-14), 3) := by decide +kernel
theorem dX11_power_22 : decode cX11_power 22 = .ok (.lload_n 2, 1) := by decide +kernel
theorem dX11_power_23 : decode cX11_power 23 = .ok (.lreturn, 1) := by decide +kernel
theorem dX11_part_0 : decode cX11_part 0 = .ok (.lload_n 0, 1) := by decide +kernel
theorem dX11_part_1 : decode cX11_part 1 = .ok (.lload_n 2, 1) := by decide +kernel
theorem dX11_part_2 : decode cX11_part 2 = .ok (.invokestatic 367, 3) := by decide +kernel
theorem dX11_part_5 : decode cX11_part 5 = .ok (.lstore 5, 2) := by decide +kernel
theorem dX11_part_7 : decode cX11_part 7 = .ok (.lload 5, 2) := by decide +kernel
theorem dX11_part_9 : decode cX11_part 9 = .ok (.lconst 1, 1) := by decide +kernel
theorem dX11_part_10 : decode cX11_part 10 = .ok (.lcmp, 1) := by decide +kernel
theorem dX11_part_11 : decode cX11_part 11 = .ok (.ifCond .ge 7, 3) := by decide +kernel
theorem dX11_part_14 : decode cX11_part 14 = .ok (.ldc2_w 208, 3) := by decide +kernel
theorem dX11_part_17 : decode cX11_part 17 = .ok (.lreturn, 1) := by decide +kernel
theorem dX11_part_18 : decode cX11_part 18 = .ok (.iload 4, 2) := by decide +kernel
theorem dX11_part_20 : decode cX11_part 20 = .ok (.ifCond .ne 10, 3) := by decide +kernel
theorem dX11_part_23 : decode cX11_part 23 = .ok (.lload_n 0, 1) := by decide +kernel
theorem dX11_part_24 : decode cX11_part 24 = .ok (.lload 5, 2) := by decide +kernel
theorem dX11_part_26 : decode cX11_part 26 = .ok (.ldiv, 1) := by decide +kernel
theorem dX11_part_27 : decode cX11_part 27 = .ok (.goto 7, 3) := by decide +kernel
theorem dX11_part_30 : decode cX11_part 30 = .ok (.lload_n 2, 1) := by decide +kernel
theorem dX11_part_31 : decode cX11_part 31 = .ok (.lload 5, 2) := by decide +kernel
theorem dX11_part_33 : decode cX11_part 33 = .ok (.ldiv, 1) := by decide +kernel
theorem dX11_part_34 : decode cX11_part 34 = .ok (.lreturn, 1) := by decide +kernel
theorem dX11_greatestShared_0 : decode cX11_greatestShared 0 = .ok (.lload_n 0, 1) := by decide +kernel
theorem dX11_greatestShared_1 : decode cX11_greatestShared 1 = .ok (.lstore 4, 2) := by decide +kernel
theorem dX11_greatestShared_3 : decode cX11_greatestShared 3 = .ok (.lload_n 2, 1) := by decide +kernel
theorem dX11_greatestShared_4 : decode cX11_greatestShared 4 = .ok (.lstore 6, 2) := by decide +kernel
theorem dX11_greatestShared_6 : decode cX11_greatestShared 6 = .ok (.iconst 0, 1) := by decide +kernel
theorem dX11_greatestShared_7 : decode cX11_greatestShared 7 = .ok (.istore 8, 2) := by decide +kernel
theorem dX11_greatestShared_9 : decode cX11_greatestShared 9 = .ok (.iload 8, 2) := by decide +kernel
theorem dX11_greatestShared_11 : decode cX11_greatestShared 11 = .ok (.sipush 200, 3) := by decide +kernel
theorem dX11_greatestShared_14 : decode cX11_greatestShared 14 = .ok (.if_icmp .ge 31, 3) := by decide +kernel
theorem dX11_greatestShared_17 : decode cX11_greatestShared 17 = .ok (.lload 6, 2) := by decide +kernel
theorem dX11_greatestShared_19 : decode cX11_greatestShared 19 = .ok (.lconst 0, 1) := by decide +kernel
theorem dX11_greatestShared_20 : decode cX11_greatestShared 20 = .ok (.lcmp, 1) := by decide +kernel
theorem dX11_greatestShared_21 : decode cX11_greatestShared 21 = .ok (.ifCond .le 24, 3) := by decide +kernel
theorem dX11_greatestShared_24 : decode cX11_greatestShared 24 = .ok (.lload 4, 2) := by decide +kernel
theorem dX11_greatestShared_26 : decode cX11_greatestShared 26 = .ok (.lload 6, 2) := by decide +kernel
theorem dX11_greatestShared_28 : decode cX11_greatestShared 28 = .ok (.lrem, 1) := by decide +kernel
theorem dX11_greatestShared_29 : decode cX11_greatestShared 29 = .ok (.lstore 9, 2) := by decide +kernel
theorem dX11_greatestShared_31 : decode cX11_greatestShared 31 = .ok (.lload 6, 2) := by decide +kernel
theorem dX11_greatestShared_33 : decode cX11_greatestShared 33 = .ok (.lstore 4, 2) := by decide +kernel
theorem dX11_greatestShared_35 : decode cX11_greatestShared 35 = .ok (.lload 9, 2) := by decide +kernel
theorem dX11_greatestShared_37 : decode cX11_greatestShared 37 = .ok (.lstore 6, 2) := by decide +kernel
theorem dX11_greatestShared_39 : decode cX11_greatestShared 39 = .ok (.iinc 8 1, 3) := by decide +kernel
theorem dX11_greatestShared_42 : decode cX11_greatestShared 42 = .ok (.goto (-33), 3) := by decide +kernel
theorem dX11_greatestShared_45 : decode cX11_greatestShared 45 = .ok (.lload 4, 2) := by decide +kernel
theorem dX11_greatestShared_47 : decode cX11_greatestShared 47 = .ok (.lreturn, 1) := by decide +kernel
theorem dX11_likely_0 : decode cX11_likely 0 = .ok (.aload_n 2, 1) := by decide +kernel
theorem dX11_likely_1 : decode cX11_likely 1 = .ok (.getfield 210, 3) := by decide +kernel
theorem dX11_likely_4 : decode cX11_likely 4 = .ok (.aload_n 0, 1) := by decide +kernel
theorem dX11_likely_5 : decode cX11_likely 5 = .ok (.invokevirtual 131, 3) := by decide +kernel
theorem dX11_likely_8 : decode cX11_likely 8 = .ok (.istore 4, 2) := by decide +kernel
theorem dX11_likely_10 : decode cX11_likely 10 = .ok (.iload 4, 2) := by decide +kernel
theorem dX11_likely_12 : decode cX11_likely 12 = .ok (.bipush (-4), 2) := by decide +kernel
theorem dX11_likely_14 : decode cX11_likely 14 = .ok (.if_icmp .eq 22, 3) := by decide +kernel
theorem dX11_likely_17 : decode cX11_likely 17 = .ok (.iload 4, 2) := by decide +kernel
theorem dX11_likely_19 : decode cX11_likely 19 = .ok (.iload_n 1, 1) := by decide +kernel
theorem dX11_likely_20 : decode cX11_likely 20 = .ok (.if_icmp .ne 7, 3) := by decide +kernel
theorem dX11_likely_23 : decode cX11_likely 23 = .ok (.lconst 0, 1) := by decide +kernel
theorem dX11_likely_24 : decode cX11_likely 24 = .ok (.goto 11, 3) := by decide +kernel
theorem dX11_likely_27 : decode cX11_likely 27 = .ok (.aload_n 0, 1) := by decide +kernel
theorem dX11_likely_28 : decode cX11_likely 28 = .ok (.invokevirtual 180, 3) := by decide +kernel
theorem dX11_likely_31 : decode cX11_likely 31 = .ok (.iload_n 3, 1) := by decide +kernel
theorem dX11_likely_32 : decode cX11_likely 32 = .ok (.invokestatic 218, 3) := by decide +kernel
theorem dX11_likely_35 : decode cX11_likely 35 = .ok (.lreturn, 1) := by decide +kernel
theorem dX11_likely_36 : decode cX11_likely 36 = .ok (.iload_n 3, 1) := by decide +kernel
theorem dX11_likely_37 : decode cX11_likely 37 = .ok (.ifCond .le 19, 3) := by decide +kernel
theorem dX11_likely_40 : decode cX11_likely 40 = .ok (.iload_n 3, 1) := by decide +kernel
theorem dX11_likely_41 : decode cX11_likely 41 = .ok (.iconst 1, 1) := by decide +kernel
theorem dX11_likely_42 : decode cX11_likely 42 = .ok (.if_icmp .ne 16, 3) := by decide +kernel
theorem dX11_likely_45 : decode cX11_likely 45 = .ok (.aload_n 2, 1) := by decide +kernel
theorem dX11_likely_46 : decode cX11_likely 46 = .ok (.getfield 210, 3) := by decide +kernel
theorem dX11_likely_49 : decode cX11_likely 49 = .ok (.getfield 125, 3) := by decide +kernel
theorem dX11_likely_52 : decode cX11_likely 52 = .ok (.iload_n 1, 1) := by decide +kernel
theorem dX11_likely_53 : decode cX11_likely 53 = .ok (.if_icmp .eq 5, 3) := by decide +kernel
theorem dX11_likely_56 : decode cX11_likely 56 = .ok (.lconst 0, 1) := by decide +kernel
theorem dX11_likely_57 : decode cX11_likely 57 = .ok (.lreturn, 1) := by decide +kernel
theorem dX11_likely_58 : decode cX11_likely 58 = .ok (.lconst 0, 1) := by decide +kernel
theorem dX11_likely_59 : decode cX11_likely 59 = .ok (.lstore 5, 2) := by decide +kernel
theorem dX11_likely_61 : decode cX11_likely 61 = .ok (.iconst 0, 1) := by decide +kernel
theorem dX11_likely_62 : decode cX11_likely 62 = .ok (.istore 7, 2) := by decide +kernel
theorem dX11_likely_64 : decode cX11_likely 64 = .ok (.iload 7, 2) := by decide +kernel
theorem dX11_likely_66 : decode cX11_likely 66 = .ok (.iconst 5, 1) := by decide +kernel
theorem dX11_likely_67 : decode cX11_likely 67 = .ok (.if_icmp .ge 40, 3) := by decide +kernel
theorem dX11_likely_70 : decode cX11_likely 70 = .ok (.aload_n 0, 1) := by decide +kernel
theorem dX11_likely_71 : decode cX11_likely 71 = .ok (.iload 7, 2) := by decide +kernel
theorem dX11_likely_73 : decode cX11_likely 73 = .ok (.invokevirtual 162, 3) := by decide +kernel
theorem dX11_likely_76 : decode cX11_likely 76 = .ok (.istore 8, 2) := by decide +kernel
theorem dX11_likely_78 : decode cX11_likely 78 = .ok (.iload 8, 2) := by decide +kernel
theorem dX11_likely_80 : decode cX11_likely 80 = .ok (.ifCond .le 21, 3) := by decide +kernel
theorem dX11_likely_83 : decode cX11_likely 83 = .ok (.lload 5, 2) := by decide +kernel
theorem dX11_likely_85 : decode cX11_likely 85 = .ok (.iload 8, 2) := by decide +kernel
theorem dX11_likely_87 : decode cX11_likely 87 = .ok (.i2l, 1) := by decide +kernel
theorem dX11_likely_88 : decode cX11_likely 88 = .ok (.aload_n 0, 1) := by decide +kernel
theorem dX11_likely_89 : decode cX11_likely 89 = .ok (.iload_n 1, 1) := by decide +kernel
theorem dX11_likely_90 : decode cX11_likely 90 = .ok (.aload_n 2, 1) := by decide +kernel
theorem dX11_likely_91 : decode cX11_likely 91 = .ok (.iload 7, 2) := by decide +kernel
theorem dX11_likely_93 : decode cX11_likely 93 = .ok (.iload_n 3, 1) := by decide +kernel
theorem dX11_likely_94 : decode cX11_likely 94 = .ok (.invokestatic 360, 3) := by decide +kernel
theorem dX11_likely_97 : decode cX11_likely 97 = .ok (.lmul, 1) := by decide +kernel
theorem dX11_likely_98 : decode cX11_likely 98 = .ok (.ladd, 1) := by decide +kernel
theorem dX11_likely_99 : decode cX11_likely 99 = .ok (.lstore 5, 2) := by decide +kernel
theorem dX11_likely_101 : decode cX11_likely 101 = .ok (.iinc 7 1, 3) := by decide +kernel
theorem dX11_likely_104 : decode cX11_likely 104 = .ok (.goto (-40), 3) := by decide +kernel
theorem dX11_likely_107 : decode cX11_likely 107 = .ok (.lload 5, 2) := by decide +kernel
theorem dX11_likely_109 : decode cX11_likely 109 = .ok (.lreturn, 1) := by decide +kernel
theorem dX11_likelyBy_0 : decode cX11_likelyBy 0 = .ok (.aload_n 2, 1) := by decide +kernel
theorem dX11_likelyBy_1 : decode cX11_likelyBy 1 = .ok (.getfield 210, 3) := by decide +kernel
theorem dX11_likelyBy_4 : decode cX11_likelyBy 4 = .ok (.aload_n 0, 1) := by decide +kernel
theorem dX11_likelyBy_5 : decode cX11_likelyBy 5 = .ok (.iload_n 3, 1) := by decide +kernel
theorem dX11_likelyBy_6 : decode cX11_likelyBy 6 = .ok (.aload_n 2, 1) := by decide +kernel
theorem dX11_likelyBy_7 : decode cX11_likelyBy 7 = .ok (.getfield 296, 3) := by decide +kernel
theorem dX11_likelyBy_10 : decode cX11_likelyBy 10 = .ok (.invokevirtual 300, 3) := by decide +kernel
theorem dX11_likelyBy_13 : decode cX11_likelyBy 13 = .ok (.istore 5, 2) := by decide +kernel
theorem dX11_likelyBy_15 : decode cX11_likelyBy 15 = .ok (.aload_n 2, 1) := by decide +kernel
theorem dX11_likelyBy_16 : decode cX11_likelyBy 16 = .ok (.iload 5, 2) := by decide +kernel
theorem dX11_likelyBy_18 : decode cX11_likelyBy 18 = .ok (.ifCond .le 7, 3) := by decide +kernel
theorem dX11_likelyBy_21 : decode cX11_likelyBy 21 = .ok (.iconst 0, 1) := by decide +kernel
theorem dX11_likelyBy_22 : decode cX11_likelyBy 22 = .ok (.goto 5, 3) := by decide +kernel
theorem dX11_likelyBy_25 : decode cX11_likelyBy 25 = .ok (.bipush (-4), 2) := by decide +kernel
theorem dX11_likelyBy_27 : decode cX11_likelyBy 27 = .ok (.putfield 234, 3) := by decide +kernel
theorem dX11_likelyBy_30 : decode cX11_likelyBy 30 = .ok (.aload_n 2, 1) := by decide +kernel
theorem dX11_likelyBy_31 : decode cX11_likelyBy 31 = .ok (.getfield 210, 3) := by decide +kernel
theorem dX11_likelyBy_34 : decode cX11_likelyBy 34 = .ok (.getfield 125, 3) := by decide +kernel
theorem dX11_likelyBy_37 : decode cX11_likelyBy 37 = .ok (.iload_n 1, 1) := by decide +kernel
theorem dX11_likelyBy_38 : decode cX11_likelyBy 38 = .ok (.if_icmp .ne 7, 3) := by decide +kernel
theorem dX11_likelyBy_41 : decode cX11_likelyBy 41 = .ok (.iconst 1, 1) := by decide +kernel
theorem dX11_likelyBy_42 : decode cX11_likelyBy 42 = .ok (.goto 4, 3) := by decide +kernel
theorem dX11_likelyBy_45 : decode cX11_likelyBy 45 = .ok (.iconst 0, 1) := by decide +kernel
theorem dX11_likelyBy_46 : decode cX11_likelyBy 46 = .ok (.istore 6, 2) := by decide +kernel
theorem dX11_likelyBy_48 : decode cX11_likelyBy 48 = .ok (.aload_n 2, 1) := by decide +kernel
theorem dX11_likelyBy_49 : decode cX11_likelyBy 49 = .ok (.getfield 371, 3) := by decide +kernel
theorem dX11_likelyBy_52 : decode cX11_likelyBy 52 = .ok (.ifnull 9, 3) := by decide +kernel
theorem dX11_likelyBy_55 : decode cX11_likelyBy 55 = .ok (.iload 4, 2) := by decide +kernel
theorem dX11_likelyBy_57 : decode cX11_likelyBy 57 = .ok (.iconst 1, 1) := by decide +kernel
theorem dX11_likelyBy_58 : decode cX11_likelyBy 58 = .ok (.if_icmp .gt 24, 3) := by decide +kernel
theorem dX11_likelyBy_61 : decode cX11_likelyBy 61 = .ok (.iload 6, 2) := by decide +kernel
theorem dX11_likelyBy_63 : decode cX11_likelyBy 63 = .ok (.ifCond .eq 17, 3) := by decide +kernel
theorem dX11_likelyBy_66 : decode cX11_likelyBy 66 = .ok (.aload_n 2, 1) := by decide +kernel
theorem dX11_likelyBy_67 : decode cX11_likelyBy 67 = .ok (.aload_n 0, 1) := by decide +kernel
theorem dX11_likelyBy_68 : decode cX11_likelyBy 68 = .ok (.iload 5, 2) := by decide +kernel
theorem dX11_likelyBy_70 : decode cX11_likelyBy 70 = .ok (.invokevirtual 374, 3) := by decide +kernel
theorem dX11_likelyBy_73 : decode cX11_likelyBy 73 = .ok (.ifCond .eq 7, 3) := by decide +kernel
theorem dX11_likelyBy_76 : decode cX11_likelyBy 76 = .ok (.lconst 1, 1) := by decide +kernel
theorem dX11_likelyBy_77 : decode cX11_likelyBy 77 = .ok (.goto 4, 3) := by decide +kernel
theorem dX11_likelyBy_80 : decode cX11_likelyBy 80 = .ok (.lconst 0, 1) := by decide +kernel
theorem dX11_likelyBy_81 : decode cX11_likelyBy 81 = .ok (.lreturn, 1) := by decide +kernel
theorem dX11_likelyBy_82 : decode cX11_likelyBy 82 = .ok (.iload 6, 2) := by decide +kernel
theorem dX11_likelyBy_84 : decode cX11_likelyBy 84 = .ok (.ifCond .eq 17, 3) := by decide +kernel
theorem dX11_likelyBy_87 : decode cX11_likelyBy 87 = .ok (.aload_n 0, 1) := by decide +kernel
theorem dX11_likelyBy_88 : decode cX11_likelyBy 88 = .ok (.invokevirtual 180, 3) := by decide +kernel
theorem dX11_likelyBy_91 : decode cX11_likelyBy 91 = .ok (.iload 4, 2) := by decide +kernel
theorem dX11_likelyBy_93 : decode cX11_likelyBy 93 = .ok (.iconst 1, 1) := by decide +kernel
theorem dX11_likelyBy_94 : decode cX11_likelyBy 94 = .ok (.isub, 1) := by decide +kernel
theorem dX11_likelyBy_95 : decode cX11_likelyBy 95 = .ok (.invokestatic 218, 3) := by decide +kernel
theorem dX11_likelyBy_98 : decode cX11_likelyBy 98 = .ok (.goto 4, 3) := by decide +kernel
theorem dX11_likelyBy_101 : decode cX11_likelyBy 101 = .ok (.lconst 0, 1) := by decide +kernel
theorem dX11_likelyBy_102 : decode cX11_likelyBy 102 = .ok (.lstore 7, 2) := by decide +kernel
theorem dX11_likelyBy_104 : decode cX11_likelyBy 104 = .ok (.ldc2_w 208, 3) := by decide +kernel
theorem dX11_likelyBy_107 : decode cX11_likelyBy 107 = .ok (.lstore 9, 2) := by decide +kernel
theorem dX11_likelyBy_109 : decode cX11_likelyBy 109 = .ok (.iconst 0, 1) := by decide +kernel
theorem dX11_likelyBy_110 : decode cX11_likelyBy 110 = .ok (.istore 11, 2) := by decide +kernel
theorem dX11_likelyBy_112 : decode cX11_likelyBy 112 = .ok (.iload 11, 2) := by decide +kernel
theorem dX11_likelyBy_114 : decode cX11_likelyBy 114 = .ok (.iload 5, 2) := by decide +kernel
theorem dX11_likelyBy_116 : decode cX11_likelyBy 116 = .ok (.if_icmp .lt 8, 3) := by decide +kernel
theorem dX11_likelyBy_119 : decode cX11_likelyBy 119 = .ok (.iload 11, 2) := by decide +kernel
theorem dX11_likelyBy_121 : decode cX11_likelyBy 121 = .ok (.ifCond .ne 103, 3) := by decide +kernel
theorem dX11_likelyBy_124 : decode cX11_likelyBy 124 = .ok (.lload 9, 2) := by decide +kernel
theorem dX11_likelyBy_126 : decode cX11_likelyBy 126 = .ok (.lload 7, 2) := by decide +kernel
theorem dX11_likelyBy_128 : decode cX11_likelyBy 128 = .ok (.lcmp, 1) := by decide +kernel
theorem dX11_likelyBy_129 : decode cX11_likelyBy 129 = .ok (.ifCond .eq 95, 3) := by decide +kernel
theorem dX11_likelyBy_132 : decode cX11_likelyBy 132 = .ok (.aload_n 2, 1) := by decide +kernel
theorem dX11_likelyBy_133 : decode cX11_likelyBy 133 = .ok (.aload_n 0, 1) := by decide +kernel
theorem dX11_likelyBy_134 : decode cX11_likelyBy 134 = .ok (.iload_n 3, 1) := by decide +kernel
theorem dX11_likelyBy_135 : decode cX11_likelyBy 135 = .ok (.iload 5, 2) := by decide +kernel
theorem dX11_likelyBy_137 : decode cX11_likelyBy 137 = .ok (.ifCond .le 12, 3) := by decide +kernel
theorem dX11_likelyBy_140 : decode cX11_likelyBy 140 = .ok (.aload_n 2, 1) := by decide +kernel
theorem dX11_likelyBy_141 : decode cX11_likelyBy 141 = .ok (.iload 11, 2) := by decide +kernel
theorem dX11_likelyBy_143 : decode cX11_likelyBy 143 = .ok (.invokevirtual 193, 3) := by decide +kernel
theorem dX11_likelyBy_146 : decode cX11_likelyBy 146 = .ok (.goto 5, 3) := by decide +kernel
theorem dX11_likelyBy_149 : decode cX11_likelyBy 149 = .ok (.bipush (-4), 2) := by decide +kernel
theorem dX11_likelyBy_151 : decode cX11_likelyBy 151 = .ok (.invokevirtual 378, 3) := by decide +kernel
theorem dX11_likelyBy_154 : decode cX11_likelyBy 154 = .ok (.aload_n 0, 1) := by decide +kernel
theorem dX11_likelyBy_155 : decode cX11_likelyBy 155 = .ok (.iload_n 1, 1) := by decide +kernel
theorem dX11_likelyBy_156 : decode cX11_likelyBy 156 = .ok (.aload_n 2, 1) := by decide +kernel
theorem dX11_likelyBy_157 : decode cX11_likelyBy 157 = .ok (.getfield 371, 3) := by decide +kernel
theorem dX11_likelyBy_160 : decode cX11_likelyBy 160 = .ok (.iload 4, 2) := by decide +kernel
theorem dX11_likelyBy_162 : decode cX11_likelyBy 162 = .ok (.iconst 1, 1) := by decide +kernel
theorem dX11_likelyBy_163 : decode cX11_likelyBy 163 = .ok (.isub, 1) := by decide +kernel
theorem dX11_likelyBy_164 : decode cX11_likelyBy 164 = .ok (.invokestatic 214, 3) := by decide +kernel
theorem dX11_likelyBy_167 : decode cX11_likelyBy 167 = .ok (.lstore 12, 2) := by decide +kernel
theorem dX11_likelyBy_169 : decode cX11_likelyBy 169 = .ok (.lload 9, 2) := by decide +kernel
theorem dX11_likelyBy_171 : decode cX11_likelyBy 171 = .ok (.lconst 0, 1) := by decide +kernel
theorem dX11_likelyBy_172 : decode cX11_likelyBy 172 = .ok (.lcmp, 1) := by decide +kernel
theorem dX11_likelyBy_173 : decode cX11_likelyBy 173 = .ok (.ifCond .lt 30, 3) := by decide +kernel
theorem dX11_likelyBy_176 : decode cX11_likelyBy 176 = .ok (.iload 6, 2) := by decide +kernel
theorem dX11_likelyBy_178 : decode cX11_likelyBy 178 = .ok (.ifCond .eq 14, 3) := by decide +kernel
theorem dX11_likelyBy_181 : decode cX11_likelyBy 181 = .ok (.lload 12, 2) := by decide +kernel
theorem dX11_likelyBy_183 : decode cX11_likelyBy 183 = .ok (.lload 9, 2) := by decide +kernel
theorem dX11_likelyBy_185 : decode cX11_likelyBy 185 = .ok (.lcmp, 1) := by decide +kernel
theorem dX11_likelyBy_186 : decode cX11_likelyBy 186 = .ok (.ifCond .gt 17, 3) := by decide +kernel
theorem dX11_likelyBy_189 : decode cX11_likelyBy 189 = .ok (.goto 29, 3) := by decide +kernel
theorem dX11_likelyBy_192 : decode cX11_likelyBy 192 = .ok (.lload 12, 2) := by decide +kernel
theorem dX11_likelyBy_194 : decode cX11_likelyBy 194 = .ok (.lload 9, 2) := by decide +kernel
theorem dX11_likelyBy_196 : decode cX11_likelyBy 196 = .ok (.lcmp, 1) := by decide +kernel
theorem dX11_likelyBy_197 : decode cX11_likelyBy 197 = .ok (.ifCond .lt 6, 3) := by decide +kernel
theorem dX11_likelyBy_200 : decode cX11_likelyBy 200 = .ok (.goto 18, 3) := by decide +kernel
theorem dX11_likelyBy_203 : decode cX11_likelyBy 203 = .ok (.lload 12, 2) := by decide +kernel
theorem dX11_likelyBy_205 : decode cX11_likelyBy 205 = .ok (.lstore 9, 2) := by decide +kernel
theorem dX11_likelyBy_207 : decode cX11_likelyBy 207 = .ok (.iload 5, 2) := by decide +kernel
theorem dX11_likelyBy_209 : decode cX11_likelyBy 209 = .ok (.ifCond .le 9, 3) := by decide +kernel
theorem dX11_likelyBy_212 : decode cX11_likelyBy 212 = .ok (.aload_n 2, 1) := by decide +kernel
theorem dX11_likelyBy_213 : decode cX11_likelyBy 213 = .ok (.iload 11, 2) := by decide +kernel
theorem dX11_likelyBy_215 : decode cX11_likelyBy 215 = .ok (.putfield 234, 3) := by decide +kernel
theorem dX11_likelyBy_218 : decode cX11_likelyBy 218 = .ok (.iinc 11 1, 3) := by decide +kernel
theorem dX11_likelyBy_221 : decode cX11_likelyBy 221 = .ok (.goto (-109), 3) := by decide +kernel
theorem dX11_likelyBy_224 : decode cX11_likelyBy 224 = .ok (.lload 9, 2) := by decide +kernel
theorem dX11_likelyBy_226 : decode cX11_likelyBy 226 = .ok (.lreturn, 1) := by decide +kernel
theorem dX11_countRows_0 : decode cX11_countRows 0 = .ok (.aload_n 1, 1) := by decide +kernel
theorem dX11_countRows_1 : decode cX11_countRows 1 = .ok (.aload_n 3, 1) := by decide +kernel
theorem dX11_countRows_2 : decode cX11_countRows 2 = .ok (.getfield 210, 3) := by decide +kernel
theorem dX11_countRows_5 : decode cX11_countRows 5 = .ok (.iload 4, 2) := by decide +kernel
theorem dX11_countRows_7 : decode cX11_countRows 7 = .ok (.invokevirtual 381, 3) := by decide +kernel
theorem dX11_countRows_10 : decode cX11_countRows 10 = .ok (.ifCond .ne 5, 3) := by decide +kernel
theorem dX11_countRows_13 : decode cX11_countRows 13 = .ok (.iconst 0, 1) := by decide +kernel
theorem dX11_countRows_14 : decode cX11_countRows 14 = .ok (.ireturn, 1) := by decide +kernel
theorem dX11_countRows_15 : decode cX11_countRows 15 = .ok (.iload 4, 2) := by decide +kernel
theorem dX11_countRows_17 : decode cX11_countRows 17 = .ok (.ifCond .gt 13, 3) := by decide +kernel
theorem dX11_countRows_20 : decode cX11_countRows 20 = .ok (.aload_n 0, 1) := by decide +kernel
theorem dX11_countRows_21 : decode cX11_countRows 21 = .ok (.aload_n 3, 1) := by decide +kernel
theorem dX11_countRows_22 : decode cX11_countRows 22 = .ok (.getfield 210, 3) := by decide +kernel
theorem dX11_countRows_25 : decode cX11_countRows 25 = .ok (.invokevirtual 387, 3) := by decide +kernel
theorem dX11_countRows_28 : decode cX11_countRows 28 = .ok (.iconst 1, 1) := by decide +kernel
theorem dX11_countRows_29 : decode cX11_countRows 29 = .ok (.ireturn, 1) := by decide +kernel
theorem dX11_countRows_30 : decode cX11_countRows 30 = .ok (.aload_n 3, 1) := by decide +kernel
theorem dX11_countRows_31 : decode cX11_countRows 31 = .ok (.getfield 371, 3) := by decide +kernel
theorem dX11_countRows_34 : decode cX11_countRows 34 = .ok (.ifnull 16, 3) := by decide +kernel
theorem dX11_countRows_37 : decode cX11_countRows 37 = .ok (.aload_n 3, 1) := by decide +kernel
theorem dX11_countRows_38 : decode cX11_countRows 38 = .ok (.getfield 210, 3) := by decide +kernel
theorem dX11_countRows_41 : decode cX11_countRows 41 = .ok (.aload_n 2, 1) := by decide +kernel
theorem dX11_countRows_42 : decode cX11_countRows 42 = .ok (.invokevirtual 131, 3) := by decide +kernel
theorem dX11_countRows_45 : decode cX11_countRows 45 = .ok (.bipush (-4), 2) := by decide +kernel
theorem dX11_countRows_47 : decode cX11_countRows 47 = .ok (.if_icmp .eq 5, 3) := by decide +kernel
theorem dX11_countRows_50 : decode cX11_countRows 50 = .ok (.iconst 0, 1) := by decide +kernel
theorem dX11_countRows_51 : decode cX11_countRows 51 = .ok (.ireturn, 1) := by decide +kernel
theorem dX11_countRows_52 : decode cX11_countRows 52 = .ok (.iconst 0, 1) := by decide +kernel
theorem dX11_countRows_53 : decode cX11_countRows 53 = .ok (.istore 5, 2) := by decide +kernel
theorem dX11_countRows_55 : decode cX11_countRows 55 = .ok (.iconst 0, 1) := by decide +kernel
theorem dX11_countRows_56 : decode cX11_countRows 56 = .ok (.istore 6, 2) := by decide +kernel
theorem dX11_countRows_58 : decode cX11_countRows 58 = .ok (.iload 6, 2) := by decide +kernel
theorem dX11_countRows_60 : decode cX11_countRows 60 = .ok (.iconst 5, 1) := by decide +kernel
theorem dX11_countRows_61 : decode cX11_countRows 61 = .ok (.if_icmp .ge 110, 3) := by decide +kernel
theorem dX11_countRows_64 : decode cX11_countRows 64 = .ok (.aload_n 3, 1) := by decide +kernel
theorem dX11_countRows_65 : decode cX11_countRows 65 = .ok (.getfield 210, 3) := by decide +kernel
theorem dX11_countRows_68 : decode cX11_countRows 68 = .ok (.aload_n 2, 1) := by decide +kernel
theorem dX11_countRows_69 : decode cX11_countRows 69 = .ok (.iload 6, 2) := by decide +kernel
theorem dX11_countRows_71 : decode cX11_countRows 71 = .ok (.aload_n 3, 1) := by decide +kernel
theorem dX11_countRows_72 : decode cX11_countRows 72 = .ok (.getfield 296, 3) := by decide +kernel
theorem dX11_countRows_75 : decode cX11_countRows 75 = .ok (.invokevirtual 300, 3) := by decide +kernel
theorem dX11_countRows_78 : decode cX11_countRows 78 = .ok (.istore 7, 2) := by decide +kernel
theorem dX11_countRows_80 : decode cX11_countRows 80 = .ok (.iconst 0, 1) := by decide +kernel
theorem dX11_countRows_81 : decode cX11_countRows 81 = .ok (.istore 8, 2) := by decide +kernel
theorem dX11_countRows_83 : decode cX11_countRows 83 = .ok (.iload 8, 2) := by decide +kernel
theorem dX11_countRows_85 : decode cX11_countRows 85 = .ok (.iload 7, 2) := by decide +kernel
theorem dX11_countRows_87 : decode cX11_countRows 87 = .ok (.if_icmp .lt 8, 3) := by decide +kernel
theorem dX11_countRows_90 : decode cX11_countRows 90 = .ok (.iload 8, 2) := by decide +kernel
theorem dX11_countRows_92 : decode cX11_countRows 92 = .ok (.ifCond .ne 73, 3) := by decide +kernel
theorem dX11_countRows_95 : decode cX11_countRows 95 = .ok (.aload_n 3, 1) := by decide +kernel
theorem dX11_countRows_96 : decode cX11_countRows 96 = .ok (.bipush 100, 2) := by decide +kernel
theorem dX11_countRows_98 : decode cX11_countRows 98 = .ok (.iload 6, 2) := by decide +kernel
theorem dX11_countRows_100 : decode cX11_countRows 100 = .ok (.imul, 1) := by decide +kernel
theorem dX11_countRows_101 : decode cX11_countRows 101 = .ok (.iload 7, 2) := by decide +kernel
theorem dX11_countRows_103 : decode cX11_countRows 103 = .ok (.ifCond .le 8, 3) := by decide +kernel
theorem dX11_countRows_106 : decode cX11_countRows 106 = .ok (.iload 8, 2) := by decide +kernel
theorem dX11_countRows_108 : decode cX11_countRows 108 = .ok (.goto 5, 3) := by decide +kernel
theorem dX11_countRows_111 : decode cX11_countRows 111 = .ok (.bipush 99, 2) := by decide +kernel
theorem dX11_countRows_113 : decode cX11_countRows 113 = .ok (.iadd, 1) := by decide +kernel
theorem dX11_countRows_114 : decode cX11_countRows 114 = .ok (.putfield 390, 3) := by decide +kernel
theorem dX11_countRows_117 : decode cX11_countRows 117 = .ok (.aload_n 3, 1) := by decide +kernel
theorem dX11_countRows_118 : decode cX11_countRows 118 = .ok (.aload_n 2, 1) := by decide +kernel
theorem dX11_countRows_119 : decode cX11_countRows 119 = .ok (.iload 6, 2) := by decide +kernel
theorem dX11_countRows_121 : decode cX11_countRows 121 = .ok (.iload 7, 2) := by decide +kernel
theorem dX11_countRows_123 : decode cX11_countRows 123 = .ok (.ifCond .le 12, 3) := by decide +kernel
theorem dX11_countRows_126 : decode cX11_countRows 126 = .ok (.aload_n 3, 1) := by decide +kernel
theorem dX11_countRows_127 : decode cX11_countRows 127 = .ok (.iload 8, 2) := by decide +kernel
theorem dX11_countRows_129 : decode cX11_countRows 129 = .ok (.invokevirtual 193, 3) := by decide +kernel
theorem dX11_countRows_132 : decode cX11_countRows 132 = .ok (.goto 5, 3) := by decide +kernel
theorem dX11_countRows_135 : decode cX11_countRows 135 = .ok (.bipush (-4), 2) := by decide +kernel
theorem dX11_countRows_137 : decode cX11_countRows 137 = .ok (.invokevirtual 378, 3) := by decide +kernel
theorem dX11_countRows_140 : decode cX11_countRows 140 = .ok (.iload 5, 2) := by decide +kernel
theorem dX11_countRows_142 : decode cX11_countRows 142 = .ok (.aload_n 0, 1) := by decide +kernel
theorem dX11_countRows_143 : decode cX11_countRows 143 = .ok (.aload_n 1, 1) := by decide +kernel
theorem dX11_countRows_144 : decode cX11_countRows 144 = .ok (.aload_n 2, 1) := by decide +kernel
theorem dX11_countRows_145 : decode cX11_countRows 145 = .ok (.aload_n 3, 1) := by decide +kernel
theorem dX11_countRows_146 : decode cX11_countRows 146 = .ok (.getfield 371, 3) := by decide +kernel
theorem dX11_countRows_149 : decode cX11_countRows 149 = .ok (.iload 4, 2) := by decide +kernel
theorem dX11_countRows_151 : decode cX11_countRows 151 = .ok (.iconst 1, 1) := by decide +kernel
theorem dX11_countRows_152 : decode cX11_countRows 152 = .ok (.isub, 1) := by decide +kernel
theorem dX11_countRows_153 : decode cX11_countRows 153 = .ok (.invokestatic 393, 3) := by decide +kernel
theorem dX11_countRows_156 : decode cX11_countRows 156 = .ok (.iadd, 1) := by decide +kernel
theorem dX11_countRows_157 : decode cX11_countRows 157 = .ok (.istore 5, 2) := by decide +kernel
theorem dX11_countRows_159 : decode cX11_countRows 159 = .ok (.iinc 8 1, 3) := by decide +kernel
theorem dX11_countRows_162 : decode cX11_countRows 162 = .ok (.goto (-79), 3) := by decide +kernel
theorem dX11_countRows_165 : decode cX11_countRows 165 = .ok (.iinc 6 1, 3) := by decide +kernel
theorem dX11_countRows_168 : decode cX11_countRows 168 = .ok (.goto (-110), 3) := by decide +kernel
theorem dX11_countRows_171 : decode cX11_countRows 171 = .ok (.iload 5, 2) := by decide +kernel
theorem dX11_countRows_173 : decode cX11_countRows 173 = .ok (.ireturn, 1) := by decide +kernel
theorem dX11_canTake_0 : decode cX11_canTake 0 = .ok (.aload_n 2, 1) := by decide +kernel
theorem dX11_canTake_1 : decode cX11_canTake 1 = .ok (.getfield 210, 3) := by decide +kernel
theorem dX11_canTake_4 : decode cX11_canTake 4 = .ok (.aload_n 0, 1) := by decide +kernel
theorem dX11_canTake_5 : decode cX11_canTake 5 = .ok (.invokevirtual 131, 3) := by decide +kernel
theorem dX11_canTake_8 : decode cX11_canTake 8 = .ok (.istore 6, 2) := by decide +kernel
theorem dX11_canTake_10 : decode cX11_canTake 10 = .ok (.iload 6, 2) := by decide +kernel
theorem dX11_canTake_12 : decode cX11_canTake 12 = .ok (.bipush (-4), 2) := by decide +kernel
theorem dX11_canTake_14 : decode cX11_canTake 14 = .ok (.if_icmp .eq 15, 3) := by decide +kernel
theorem dX11_canTake_17 : decode cX11_canTake 17 = .ok (.iload 6, 2) := by decide +kernel
theorem dX11_canTake_19 : decode cX11_canTake 19 = .ok (.iload_n 1, 1) := by decide +kernel
theorem dX11_canTake_20 : decode cX11_canTake 20 = .ok (.if_icmp .eq 7, 3) := by decide +kernel
theorem dX11_canTake_23 : decode cX11_canTake 23 = .ok (.iconst 1, 1) := by decide +kernel
theorem dX11_canTake_24 : decode cX11_canTake 24 = .ok (.goto 4, 3) := by decide +kernel
theorem dX11_canTake_27 : decode cX11_canTake 27 = .ok (.iconst 0, 1) := by decide +kernel
theorem dX11_canTake_28 : decode cX11_canTake 28 = .ok (.ireturn, 1) := by decide +kernel
theorem dX11_canTake_29 : decode cX11_canTake 29 = .ok (.iload 4, 2) := by decide +kernel
theorem dX11_canTake_31 : decode cX11_canTake 31 = .ok (.ifCond .lt 24, 3) := by decide +kernel
theorem dX11_canTake_34 : decode cX11_canTake 34 = .ok (.iload 4, 2) := by decide +kernel
theorem dX11_canTake_36 : decode cX11_canTake 36 = .ok (.iload 5, 2) := by decide +kernel
theorem dX11_canTake_38 : decode cX11_canTake 38 = .ok (.if_icmp .ge 17, 3) := by decide +kernel
theorem dX11_canTake_41 : decode cX11_canTake 41 = .ok (.iload 4, 2) := by decide +kernel
theorem dX11_canTake_43 : decode cX11_canTake 43 = .ok (.aload_n 3, 1) := by decide +kernel
theorem dX11_canTake_44 : decode cX11_canTake 44 = .ok (.arraylength, 1) := by decide +kernel
theorem dX11_canTake_45 : decode cX11_canTake 45 = .ok (.if_icmp .ge 10, 3) := by decide +kernel
theorem dX11_canTake_48 : decode cX11_canTake 48 = .ok (.aload_n 2, 1) := by decide +kernel
theorem dX11_canTake_49 : decode cX11_canTake 49 = .ok (.getfield 371, 3) := by decide +kernel
theorem dX11_canTake_52 : decode cX11_canTake 52 = .ok (.ifnonnull 5, 3) := by decide +kernel
theorem dX11_canTake_55 : decode cX11_canTake 55 = .ok (.iconst 0, 1) := by decide +kernel
theorem dX11_canTake_56 : decode cX11_canTake 56 = .ok (.ireturn, 1) := by decide +kernel
theorem dX11_canTake_57 : decode cX11_canTake 57 = .ok (.aload_n 2, 1) := by decide +kernel
theorem dX11_canTake_58 : decode cX11_canTake 58 = .ok (.getfield 210, 3) := by decide +kernel
theorem dX11_canTake_61 : decode cX11_canTake 61 = .ok (.aload_n 0, 1) := by decide +kernel
theorem dX11_canTake_62 : decode cX11_canTake 62 = .ok (.aload_n 3, 1) := by decide +kernel
theorem dX11_canTake_63 : decode cX11_canTake 63 = .ok (.iload 4, 2) := by decide +kernel
theorem dX11_canTake_65 : decode cX11_canTake 65 = .ok (.iaload, 1) := by decide +kernel
theorem dX11_canTake_66 : decode cX11_canTake 66 = .ok (.aload_n 2, 1) := by decide +kernel
theorem dX11_canTake_67 : decode cX11_canTake 67 = .ok (.getfield 296, 3) := by decide +kernel
theorem dX11_canTake_70 : decode cX11_canTake 70 = .ok (.invokevirtual 300, 3) := by decide +kernel
theorem dX11_canTake_73 : decode cX11_canTake 73 = .ok (.istore 7, 2) := by decide +kernel
theorem dX11_canTake_75 : decode cX11_canTake 75 = .ok (.iconst 0, 1) := by decide +kernel
theorem dX11_canTake_76 : decode cX11_canTake 76 = .ok (.istore 8, 2) := by decide +kernel
theorem dX11_canTake_78 : decode cX11_canTake 78 = .ok (.iload 8, 2) := by decide +kernel
theorem dX11_canTake_80 : decode cX11_canTake 80 = .ok (.iload 7, 2) := by decide +kernel
theorem dX11_canTake_82 : decode cX11_canTake 82 = .ok (.if_icmp .lt 8, 3) := by decide +kernel
theorem dX11_canTake_85 : decode cX11_canTake 85 = .ok (.iload 8, 2) := by decide +kernel
theorem dX11_canTake_87 : decode cX11_canTake 87 = .ok (.ifCond .ne 55, 3) := by decide +kernel
theorem dX11_canTake_90 : decode cX11_canTake 90 = .ok (.aload_n 2, 1) := by decide +kernel
theorem dX11_canTake_91 : decode cX11_canTake 91 = .ok (.aload_n 0, 1) := by decide +kernel
theorem dX11_canTake_92 : decode cX11_canTake 92 = .ok (.aload_n 3, 1) := by decide +kernel
theorem dX11_canTake_93 : decode cX11_canTake 93 = .ok (.iload 4, 2) := by decide +kernel
theorem dX11_canTake_95 : decode cX11_canTake 95 = .ok (.iaload, 1) := by decide +kernel
theorem dX11_canTake_96 : decode cX11_canTake 96 = .ok (.iload 7, 2) := by decide +kernel
theorem dX11_canTake_98 : decode cX11_canTake 98 = .ok (.ifCond .le 12, 3) := by decide +kernel
theorem dX11_canTake_101 : decode cX11_canTake 101 = .ok (.aload_n 2, 1) := by decide +kernel
theorem dX11_canTake_102 : decode cX11_canTake 102 = .ok (.iload 8, 2) := by decide +kernel
theorem dX11_canTake_104 : decode cX11_canTake 104 = .ok (.invokevirtual 193, 3) := by decide +kernel
theorem dX11_canTake_107 : decode cX11_canTake 107 = .ok (.goto 5, 3) := by decide +kernel
theorem dX11_canTake_110 : decode cX11_canTake 110 = .ok (.bipush (-4), 2) := by decide +kernel
theorem dX11_canTake_112 : decode cX11_canTake 112 = .ok (.invokevirtual 378, 3) := by decide +kernel
theorem dX11_canTake_115 : decode cX11_canTake 115 = .ok (.aload_n 0, 1) := by decide +kernel
theorem dX11_canTake_116 : decode cX11_canTake 116 = .ok (.iload_n 1, 1) := by decide +kernel
theorem dX11_canTake_117 : decode cX11_canTake 117 = .ok (.aload_n 2, 1) := by decide +kernel
theorem dX11_canTake_118 : decode cX11_canTake 118 = .ok (.getfield 371, 3) := by decide +kernel
theorem dX11_canTake_121 : decode cX11_canTake 121 = .ok (.aload_n 3, 1) := by decide +kernel
theorem dX11_canTake_122 : decode cX11_canTake 122 = .ok (.iload 4, 2) := by decide +kernel
theorem dX11_canTake_124 : decode cX11_canTake 124 = .ok (.iconst 1, 1) := by decide +kernel
theorem dX11_canTake_125 : decode cX11_canTake 125 = .ok (.iadd, 1) := by decide +kernel
theorem dX11_canTake_126 : decode cX11_canTake 126 = .ok (.iload 5, 2) := by decide +kernel
theorem dX11_canTake_128 : decode cX11_canTake 128 = .ok (.invokestatic 397, 3) := by decide +kernel
theorem dX11_canTake_131 : decode cX11_canTake 131 = .ok (.ifCond .eq 5, 3) := by decide +kernel
theorem dX11_canTake_134 : decode cX11_canTake 134 = .ok (.iconst 1, 1) := by decide +kernel
theorem dX11_canTake_135 : decode cX11_canTake 135 = .ok (.ireturn, 1) := by decide +kernel
theorem dX11_canTake_136 : decode cX11_canTake 136 = .ok (.iinc 8 1, 3) := by decide +kernel
theorem dX11_canTake_139 : decode cX11_canTake 139 = .ok (.goto (-61), 3) := by decide +kernel
theorem dX11_canTake_142 : decode cX11_canTake 142 = .ok (.iconst 0, 1) := by decide +kernel
theorem dX11_canTake_143 : decode cX11_canTake 143 = .ok (.ireturn, 1) := by decide +kernel
theorem dJ6_bitCount_0f7a4_0 : decode cJ6_bitCount_0f7a4 0 = .ok (.iload_n 0, 1) := by decide +kernel
theorem dJ6_bitCount_0f7a4_1 : decode cJ6_bitCount_0f7a4 1 = .ok (.iload_n 0, 1) := by decide +kernel
theorem dJ6_bitCount_0f7a4_2 : decode cJ6_bitCount_0f7a4 2 = .ok (.iconst 1, 1) := by decide +kernel
theorem dJ6_bitCount_0f7a4_3 : decode cJ6_bitCount_0f7a4 3 = .ok (.iushr, 1) := by decide +kernel
theorem dJ6_bitCount_0f7a4_4 : decode cJ6_bitCount_0f7a4 4 = .ok (.ldc_w 265, 3) := by decide +kernel
theorem dJ6_bitCount_0f7a4_7 : decode cJ6_bitCount_0f7a4 7 = .ok (.iand, 1) := by decide +kernel
theorem dJ6_bitCount_0f7a4_8 : decode cJ6_bitCount_0f7a4 8 = .ok (.isub, 1) := by decide +kernel
theorem dJ6_bitCount_0f7a4_9 : decode cJ6_bitCount_0f7a4 9 = .ok (.istore_n 0, 1) := by decide +kernel
theorem dJ6_bitCount_0f7a4_10 : decode cJ6_bitCount_0f7a4 10 = .ok (.iload_n 0, 1) := by decide +kernel
theorem dJ6_bitCount_0f7a4_11 : decode cJ6_bitCount_0f7a4 11 = .ok (.ldc_w 266, 3) := by decide +kernel
theorem dJ6_bitCount_0f7a4_14 : decode cJ6_bitCount_0f7a4 14 = .ok (.iand, 1) := by decide +kernel
theorem dJ6_bitCount_0f7a4_15 : decode cJ6_bitCount_0f7a4 15 = .ok (.iload_n 0, 1) := by decide +kernel
theorem dJ6_bitCount_0f7a4_16 : decode cJ6_bitCount_0f7a4 16 = .ok (.iconst 2, 1) := by decide +kernel
theorem dJ6_bitCount_0f7a4_17 : decode cJ6_bitCount_0f7a4 17 = .ok (.iushr, 1) := by decide +kernel
theorem dJ6_bitCount_0f7a4_18 : decode cJ6_bitCount_0f7a4 18 = .ok (.ldc_w 266, 3) := by decide +kernel
theorem dJ6_bitCount_0f7a4_21 : decode cJ6_bitCount_0f7a4 21 = .ok (.iand, 1) := by decide +kernel
theorem dJ6_bitCount_0f7a4_22 : decode cJ6_bitCount_0f7a4 22 = .ok (.iadd, 1) := by decide +kernel
theorem dJ6_bitCount_0f7a4_23 : decode cJ6_bitCount_0f7a4 23 = .ok (.istore_n 0, 1) := by decide +kernel
theorem dJ6_bitCount_0f7a4_24 : decode cJ6_bitCount_0f7a4 24 = .ok (.iload_n 0, 1) := by decide +kernel
theorem dJ6_bitCount_0f7a4_25 : decode cJ6_bitCount_0f7a4 25 = .ok (.iload_n 0, 1) := by decide +kernel
theorem dJ6_bitCount_0f7a4_26 : decode cJ6_bitCount_0f7a4 26 = .ok (.iconst 4, 1) := by decide +kernel
theorem dJ6_bitCount_0f7a4_27 : decode cJ6_bitCount_0f7a4 27 = .ok (.iushr, 1) := by decide +kernel
theorem dJ6_bitCount_0f7a4_28 : decode cJ6_bitCount_0f7a4 28 = .ok (.iadd, 1) := by decide +kernel
theorem dJ6_bitCount_0f7a4_29 : decode cJ6_bitCount_0f7a4 29 = .ok (.ldc_w 267, 3) := by decide +kernel
theorem dJ6_bitCount_0f7a4_32 : decode cJ6_bitCount_0f7a4 32 = .ok (.iand, 1) := by decide +kernel
theorem dJ6_bitCount_0f7a4_33 : decode cJ6_bitCount_0f7a4 33 = .ok (.istore_n 0, 1) := by decide +kernel
theorem dJ6_bitCount_0f7a4_34 : decode cJ6_bitCount_0f7a4 34 = .ok (.iload_n 0, 1) := by decide +kernel
theorem dJ6_bitCount_0f7a4_35 : decode cJ6_bitCount_0f7a4 35 = .ok (.iload_n 0, 1) := by decide +kernel
theorem dJ6_bitCount_0f7a4_36 : decode cJ6_bitCount_0f7a4 36 = .ok (.bipush 8, 2) := by decide +kernel
theorem dJ6_bitCount_0f7a4_38 : decode cJ6_bitCount_0f7a4 38 = .ok (.iushr, 1) := by decide +kernel
theorem dJ6_bitCount_0f7a4_39 : decode cJ6_bitCount_0f7a4 39 = .ok (.iadd, 1) := by decide +kernel
theorem dJ6_bitCount_0f7a4_40 : decode cJ6_bitCount_0f7a4 40 = .ok (.istore_n 0, 1) := by decide +kernel
theorem dJ6_bitCount_0f7a4_41 : decode cJ6_bitCount_0f7a4 41 = .ok (.iload_n 0, 1) := by decide +kernel
theorem dJ6_bitCount_0f7a4_42 : decode cJ6_bitCount_0f7a4 42 = .ok (.iload_n 0, 1) := by decide +kernel
theorem dJ6_bitCount_0f7a4_43 : decode cJ6_bitCount_0f7a4 43 = .ok (.bipush 16, 2) := by decide +kernel
theorem dJ6_bitCount_0f7a4_45 : decode cJ6_bitCount_0f7a4 45 = .ok (.iushr, 1) := by decide +kernel
theorem dJ6_bitCount_0f7a4_46 : decode cJ6_bitCount_0f7a4 46 = .ok (.iadd, 1) := by decide +kernel
theorem dJ6_bitCount_0f7a4_47 : decode cJ6_bitCount_0f7a4 47 = .ok (.istore_n 0, 1) := by decide +kernel
theorem dJ6_bitCount_0f7a4_48 : decode cJ6_bitCount_0f7a4 48 = .ok (.iload_n 0, 1) := by decide +kernel
theorem dJ6_bitCount_0f7a4_49 : decode cJ6_bitCount_0f7a4 49 = .ok (.bipush 63, 2) := by decide +kernel
theorem dJ6_bitCount_0f7a4_51 : decode cJ6_bitCount_0f7a4 51 = .ok (.iand, 1) := by decide +kernel
theorem dJ6_bitCount_0f7a4_52 : decode cJ6_bitCount_0f7a4 52 = .ok (.ireturn, 1) := by decide +kernel
theorem dJ9_min_7cf53_0 : decode cJ9_min_7cf53 0 = .ok (.iload_n 0, 1) := by decide +kernel
theorem dJ9_min_7cf53_1 : decode cJ9_min_7cf53 1 = .ok (.iload_n 1, 1) := by decide +kernel
theorem dJ9_min_7cf53_2 : decode cJ9_min_7cf53 2 = .ok (.if_icmp .gt 7, 3) := by decide +kernel
theorem dJ9_min_7cf53_5 : decode cJ9_min_7cf53 5 = .ok (.iload_n 0, 1) := by decide +kernel
theorem dJ9_min_7cf53_6 : decode cJ9_min_7cf53 6 = .ok (.goto 4, 3) := by decide +kernel
theorem dJ9_min_7cf53_9 : decode cJ9_min_7cf53 9 = .ok (.iload_n 1, 1) := by decide +kernel
theorem dJ9_min_7cf53_10 : decode cJ9_min_7cf53 10 = .ok (.ireturn, 1) := by decide +kernel
theorem dJ0_length_8abf5_0 : decode cJ0_length_8abf5 0 = .ok (.aload_n 0, 1) := by decide +kernel
theorem dJ0_length_8abf5_1 : decode cJ0_length_8abf5 1 = .ok (.getfield 9, 3) := by decide +kernel
theorem dJ0_length_8abf5_4 : decode cJ0_length_8abf5 4 = .ok (.arraylength, 1) := by decide +kernel
theorem dJ0_length_8abf5_5 : decode cJ0_length_8abf5 5 = .ok (.aload_n 0, 1) := by decide +kernel
theorem dJ0_length_8abf5_6 : decode cJ0_length_8abf5 6 = .ok (.invokevirtual 335, 3) := by decide +kernel
theorem dJ0_length_8abf5_9 : decode cJ0_length_8abf5 9 = .ok (.ishr, 1) := by decide +kernel
theorem dJ0_length_8abf5_10 : decode cJ0_length_8abf5 10 = .ok (.ireturn, 1) := by decide +kernel
theorem dJ0_charAt_5068e_0 : decode cJ0_charAt_5068e 0 = .ok (.aload_n 0, 1) := by decide +kernel
theorem dJ0_charAt_5068e_1 : decode cJ0_charAt_5068e 1 = .ok (.invokevirtual 492, 3) := by decide +kernel
theorem dJ0_charAt_5068e_4 : decode cJ0_charAt_5068e 4 = .ok (.ifCond .eq 12, 3) := by decide +kernel
theorem dJ0_charAt_5068e_7 : decode cJ0_charAt_5068e 7 = .ok (.aload_n 0, 1) := by decide +kernel
theorem dJ0_charAt_5068e_8 : decode cJ0_charAt_5068e 8 = .ok (.getfield 9, 3) := by decide +kernel
theorem dJ0_charAt_5068e_11 : decode cJ0_charAt_5068e 11 = .ok (.iload_n 1, 1) := by decide +kernel
theorem dJ0_charAt_5068e_12 : decode cJ0_charAt_5068e 12 = .ok (.invokestatic 495, 3) := by decide +kernel
theorem dJ0_charAt_5068e_15 : decode cJ0_charAt_5068e 15 = .ok (.ireturn, 1) := by decide +kernel
theorem dJ0_charAt_5068e_16 : decode cJ0_charAt_5068e 16 = .ok (.aload_n 0, 1) := by decide +kernel
theorem dJ0_charAt_5068e_17 : decode cJ0_charAt_5068e 17 = .ok (.getfield 9, 3) := by decide +kernel
theorem dJ0_charAt_5068e_20 : decode cJ0_charAt_5068e 20 = .ok (.iload_n 1, 1) := by decide +kernel
theorem dJ0_charAt_5068e_21 : decode cJ0_charAt_5068e 21 = .ok (.invokestatic 498, 3) := by decide +kernel
theorem dJ0_charAt_5068e_24 : decode cJ0_charAt_5068e 24 = .ok (.ireturn, 1) := by decide +kernel
theorem dJ0_coder_7d493_0 : decode cJ0_coder_7d493 0 = .ok (.getstatic 38, 3) := by decide +kernel
theorem dJ0_coder_7d493_3 : decode cJ0_coder_7d493 3 = .ok (.ifCond .eq 10, 3) := by decide +kernel
theorem dJ0_coder_7d493_6 : decode cJ0_coder_7d493 6 = .ok (.aload_n 0, 1) := by decide +kernel
theorem dJ0_coder_7d493_7 : decode cJ0_coder_7d493 7 = .ok (.getfield 15, 3) := by decide +kernel
theorem dJ0_coder_7d493_10 : decode cJ0_coder_7d493 10 = .ok (.goto 4, 3) := by decide +kernel
theorem dJ0_coder_7d493_13 : decode cJ0_coder_7d493 13 = .ok (.iconst 1, 1) := by decide +kernel
theorem dJ0_coder_7d493_14 : decode cJ0_coder_7d493 14 = .ok (.ireturn, 1) := by decide +kernel
theorem dJ0_isLatin1_aae02_0 : decode cJ0_isLatin1_aae02 0 = .ok (.getstatic 38, 3) := by decide +kernel
theorem dJ0_isLatin1_aae02_3 : decode cJ0_isLatin1_aae02 3 = .ok (.ifCond .eq 14, 3) := by decide +kernel
theorem dJ0_isLatin1_aae02_6 : decode cJ0_isLatin1_aae02 6 = .ok (.aload_n 0, 1) := by decide +kernel
theorem dJ0_isLatin1_aae02_7 : decode cJ0_isLatin1_aae02 7 = .ok (.getfield 15, 3) := by decide +kernel
theorem dJ0_isLatin1_aae02_10 : decode cJ0_isLatin1_aae02 10 = .ok (.ifCond .ne 7, 3) := by decide +kernel
theorem dJ0_isLatin1_aae02_13 : decode cJ0_isLatin1_aae02 13 = .ok (.iconst 1, 1) := by decide +kernel
theorem dJ0_isLatin1_aae02_14 : decode cJ0_isLatin1_aae02 14 = .ok (.goto 4, 3) := by decide +kernel
theorem dJ0_isLatin1_aae02_17 : decode cJ0_isLatin1_aae02 17 = .ok (.iconst 0, 1) := by decide +kernel
theorem dJ0_isLatin1_aae02_18 : decode cJ0_isLatin1_aae02 18 = .ok (.ireturn, 1) := by decide +kernel
theorem dJ0_checkIndex_df160_0 : decode cJ0_checkIndex_df160 0 = .ok (.iload_n 0, 1) := by decide +kernel
theorem dJ0_checkIndex_df160_1 : decode cJ0_checkIndex_df160 1 = .ok (.iload_n 1, 1) := by decide +kernel
theorem dJ0_checkIndex_df160_2 : decode cJ0_checkIndex_df160 2 = .ok (.getstatic 1053, 3) := by decide +kernel
theorem dJ0_checkIndex_df160_5 : decode cJ0_checkIndex_df160 5 = .ok (.invokestatic 1059, 3) := by decide +kernel
theorem dJ0_checkIndex_df160_8 : decode cJ0_checkIndex_df160 8 = .ok (.pop, 1) := by decide +kernel
theorem dJ0_checkIndex_df160_9 : decode cJ0_checkIndex_df160 9 = .ok (.return_, 1) := by decide +kernel
theorem dJ1_charAt_3b067_0 : decode cJ1_charAt_3b067 0 = .ok (.iload_n 1, 1) := by decide +kernel
theorem dJ1_charAt_3b067_1 : decode cJ1_charAt_3b067 1 = .ok (.aload_n 0, 1) := by decide +kernel
theorem dJ1_charAt_3b067_2 : decode cJ1_charAt_3b067 2 = .ok (.arraylength, 1) := by decide +kernel
theorem dJ1_charAt_3b067_3 : decode cJ1_charAt_3b067 3 = .ok (.invokestatic 9, 3) := by decide +kernel
theorem dJ1_charAt_3b067_6 : decode cJ1_charAt_3b067 6 = .ok (.aload_n 0, 1) := by decide +kernel
theorem dJ1_charAt_3b067_7 : decode cJ1_charAt_3b067 7 = .ok (.iload_n 1, 1) := by decide +kernel
theorem dJ1_charAt_3b067_8 : decode cJ1_charAt_3b067 8 = .ok (.baload, 1) := by decide +kernel
theorem dJ1_charAt_3b067_9 : decode cJ1_charAt_3b067 9 = .ok (.sipush 255, 3) := by decide +kernel
theorem dJ1_charAt_3b067_12 : decode cJ1_charAt_3b067 12 = .ok (.iand, 1) := by decide +kernel
theorem dJ1_charAt_3b067_13 : decode cJ1_charAt_3b067 13 = .ok (.i2c, 1) := by decide +kernel
theorem dJ1_charAt_3b067_14 : decode cJ1_charAt_3b067 14 = .ok (.ireturn, 1) := by decide +kernel
theorem dJ2_getChar_3b067_0 : decode cJ2_getChar_3b067 0 = .ok (.getstatic 44, 3) := by decide +kernel
theorem dJ2_getChar_3b067_3 : decode cJ2_getChar_3b067 3 = .ok (.ifCond .ne 25, 3) := by decide +kernel
theorem dJ2_getChar_3b067_6 : decode cJ2_getChar_3b067 6 = .ok (.iload_n 1, 1) := by decide +kernel
theorem dJ2_getChar_3b067_7 : decode cJ2_getChar_3b067 7 = .ok (.ifCond .lt 11, 3) := by decide +kernel
theorem dJ2_getChar_3b067_10 : decode cJ2_getChar_3b067 10 = .ok (.iload_n 1, 1) := by decide +kernel
theorem dJ2_getChar_3b067_11 : decode cJ2_getChar_3b067 11 = .ok (.aload_n 0, 1) := by decide +kernel
theorem dJ2_getChar_3b067_12 : decode cJ2_getChar_3b067 12 = .ok (.invokestatic 48, 3) := by decide +kernel
theorem dJ2_getChar_3b067_15 : decode cJ2_getChar_3b067 15 = .ok (.if_icmp .lt 13, 3) := by decide +kernel
theorem dJ2_getChar_3b067_18 : decode cJ2_getChar_3b067 18 = .ok (.new 52, 3) := by decide +kernel
theorem dJ2_getChar_3b067_21 : decode cJ2_getChar_3b067 21 = .ok (.dup, 1) := by decide +kernel
theorem dJ2_getChar_3b067_22 : decode cJ2_getChar_3b067 22 = .ok (.ldc 54, 2) := by decide +kernel
theorem dJ2_getChar_3b067_24 : decode cJ2_getChar_3b067 24 = .ok (.invokespecial 56, 3) := by decide +kernel
theorem dJ2_getChar_3b067_27 : decode cJ2_getChar_3b067 27 = .ok (.athrow, 1) := by decide +kernel
theorem dJ2_getChar_3b067_28 : decode cJ2_getChar_3b067 28 = .ok (.iload_n 1, 1) := by decide +kernel
theorem dJ2_getChar_3b067_29 : decode cJ2_getChar_3b067 29 = .ok (.iconst 1, 1) := by decide +kernel
theorem dJ2_getChar_3b067_30 : decode cJ2_getChar_3b067 30 = .ok (.ishl, 1) := by decide +kernel
theorem dJ2_getChar_3b067_31 : decode cJ2_getChar_3b067 31 = .ok (.istore_n 1, 1) := by decide +kernel
theorem dJ2_getChar_3b067_32 : decode cJ2_getChar_3b067 32 = .ok (.aload_n 0, 1) := by decide +kernel
theorem dJ2_getChar_3b067_33 : decode cJ2_getChar_3b067 33 = .ok (.iload_n 1, 1) := by decide +kernel
theorem dJ2_getChar_3b067_34 : decode cJ2_getChar_3b067 34 = .ok (.iinc 1 1, 3) := by decide +kernel
theorem dJ2_getChar_3b067_37 : decode cJ2_getChar_3b067 37 = .ok (.baload, 1) := by decide +kernel
theorem dJ2_getChar_3b067_38 : decode cJ2_getChar_3b067 38 = .ok (.sipush 255, 3) := by decide +kernel
theorem dJ2_getChar_3b067_41 : decode cJ2_getChar_3b067 41 = .ok (.iand, 1) := by decide +kernel
theorem dJ2_getChar_3b067_42 : decode cJ2_getChar_3b067 42 = .ok (.getstatic 59, 3) := by decide +kernel
theorem dJ2_getChar_3b067_45 : decode cJ2_getChar_3b067 45 = .ok (.ishl, 1) := by decide +kernel
theorem dJ2_getChar_3b067_46 : decode cJ2_getChar_3b067 46 = .ok (.aload_n 0, 1) := by decide +kernel
theorem dJ2_getChar_3b067_47 : decode cJ2_getChar_3b067 47 = .ok (.iload_n 1, 1) := by decide +kernel
theorem dJ2_getChar_3b067_48 : decode cJ2_getChar_3b067 48 = .ok (.baload, 1) := by decide +kernel
theorem dJ2_getChar_3b067_49 : decode cJ2_getChar_3b067 49 = .ok (.sipush 255, 3) := by decide +kernel
theorem dJ2_getChar_3b067_52 : decode cJ2_getChar_3b067 52 = .ok (.iand, 1) := by decide +kernel
theorem dJ2_getChar_3b067_53 : decode cJ2_getChar_3b067 53 = .ok (.getstatic 63, 3) := by decide +kernel
theorem dJ2_getChar_3b067_56 : decode cJ2_getChar_3b067 56 = .ok (.ishl, 1) := by decide +kernel
theorem dJ2_getChar_3b067_57 : decode cJ2_getChar_3b067 57 = .ok (.ior, 1) := by decide +kernel
theorem dJ2_getChar_3b067_58 : decode cJ2_getChar_3b067 58 = .ok (.i2c, 1) := by decide +kernel
theorem dJ2_getChar_3b067_59 : decode cJ2_getChar_3b067 59 = .ok (.ireturn, 1) := by decide +kernel
theorem dJ2_length_9d52b_0 : decode cJ2_length_9d52b 0 = .ok (.aload_n 0, 1) := by decide +kernel
theorem dJ2_length_9d52b_1 : decode cJ2_length_9d52b 1 = .ok (.arraylength, 1) := by decide +kernel
theorem dJ2_length_9d52b_2 : decode cJ2_length_9d52b 2 = .ok (.iconst 1, 1) := by decide +kernel
theorem dJ2_length_9d52b_3 : decode cJ2_length_9d52b 3 = .ok (.ishr, 1) := by decide +kernel
theorem dJ2_length_9d52b_4 : decode cJ2_length_9d52b 4 = .ok (.ireturn, 1) := by decide +kernel
theorem dJ2_charAt_3b067_0 : decode cJ2_charAt_3b067 0 = .ok (.iload_n 1, 1) := by decide +kernel
theorem dJ2_charAt_3b067_1 : decode cJ2_charAt_3b067 1 = .ok (.aload_n 0, 1) := by decide +kernel
theorem dJ2_charAt_3b067_2 : decode cJ2_charAt_3b067 2 = .ok (.invokestatic 67, 3) := by decide +kernel
theorem dJ2_charAt_3b067_5 : decode cJ2_charAt_3b067 5 = .ok (.aload_n 0, 1) := by decide +kernel
theorem dJ2_charAt_3b067_6 : decode cJ2_charAt_3b067 6 = .ok (.iload_n 1, 1) := by decide +kernel
theorem dJ2_charAt_3b067_7 : decode cJ2_charAt_3b067 7 = .ok (.invokestatic 71, 3) := by decide +kernel
theorem dJ2_charAt_3b067_10 : decode cJ2_charAt_3b067 10 = .ok (.ireturn, 1) := by decide +kernel
theorem dJ2_checkIndex_2214a_0 : decode cJ2_checkIndex_2214a 0 = .ok (.iload_n 0, 1) := by decide +kernel
theorem dJ2_checkIndex_2214a_1 : decode cJ2_checkIndex_2214a 1 = .ok (.aload_n 1, 1) := by decide +kernel
theorem dJ2_checkIndex_2214a_2 : decode cJ2_checkIndex_2214a 2 = .ok (.invokestatic 48, 3) := by decide +kernel
theorem dJ2_checkIndex_2214a_5 : decode cJ2_checkIndex_2214a 5 = .ok (.invokestatic 414, 3) := by decide +kernel
theorem dJ2_checkIndex_2214a_8 : decode cJ2_checkIndex_2214a 8 = .ok (.return_, 1) := by decide +kernel
theorem dJ3_checkIndex_8e157_0 : decode cJ3_checkIndex_8e157 0 = .ok (.iload_n 0, 1) := by decide +kernel
theorem dJ3_checkIndex_8e157_1 : decode cJ3_checkIndex_8e157 1 = .ok (.ifCond .lt 8, 3) := by decide +kernel
theorem dJ3_checkIndex_8e157_4 : decode cJ3_checkIndex_8e157 4 = .ok (.iload_n 0, 1) := by decide +kernel
theorem dJ3_checkIndex_8e157_5 : decode cJ3_checkIndex_8e157 5 = .ok (.iload_n 1, 1) := by decide +kernel
theorem dJ3_checkIndex_8e157_6 : decode cJ3_checkIndex_8e157 6 = .ok (.if_icmp .lt 10, 3) := by decide +kernel
theorem dJ3_checkIndex_8e157_9 : decode cJ3_checkIndex_8e157 9 = .ok (.aload_n 2, 1) := by decide +kernel
theorem dJ3_checkIndex_8e157_10 : decode cJ3_checkIndex_8e157 10 = .ok (.iload_n 0, 1) := by decide +kernel
theorem dJ3_checkIndex_8e157_11 : decode cJ3_checkIndex_8e157 11 = .ok (.iload_n 1, 1) := by decide +kernel
theorem dJ3_checkIndex_8e157_12 : decode cJ3_checkIndex_8e157 12 = .ok (.invokestatic 95, 3) := by decide +kernel
theorem dJ3_checkIndex_8e157_15 : decode cJ3_checkIndex_8e157 15 = .ok (.athrow, 1) := by decide +kernel
theorem dJ3_checkIndex_8e157_16 : decode cJ3_checkIndex_8e157 16 = .ok (.iload_n 0, 1) := by decide +kernel
theorem dJ3_checkIndex_8e157_17 : decode cJ3_checkIndex_8e157 17 = .ok (.ireturn, 1) := by decide +kernel
