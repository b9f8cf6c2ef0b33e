theorem dX12_init_0 : decode cX12_init 0 = .ok (.aload_n 0, 1) := by decide +kernel
theorem dX12_init_1 : decode cX12_init 1 = .ok (.invokespecial 1, 3) := by decide +kernel
theorem dX12_init_4 : decode cX12_init 4 = .ok (.aload_n 0, 1) := by decide +kernel
theorem dX12_init_5 : decode cX12_init 5 = .ok (.bipush 123, 2) := by decide +kernel
theorem dX12_init_7 : decode cX12_init 7 = .ok (.newarray .int, 2) := by decide +kernel
theorem dX12_init_9 : decode cX12_init 9 = .ok (.putfield 7, 3) := by decide +kernel
theorem dX12_init_12 : decode cX12_init 12 = .ok (.aload_n 0, 1) := by decide +kernel
theorem dX12_init_13 : decode cX12_init 13 = .ok (.iconst 2, 1) := by decide +kernel
theorem dX12_init_14 : decode cX12_init 14 = .ok (.newarray .boolean, 2) := by decide +kernel
theorem dX12_init_16 : decode cX12_init 16 = .ok (.putfield 13, 3) := by decide +kernel
theorem dX12_init_19 : decode cX12_init 19 = .ok (.aload_n 0, 1) := by decide +kernel
theorem dX12_init_20 : decode cX12_init 20 = .ok (.bipush 6, 2) := by decide +kernel
theorem dX12_init_22 : decode cX12_init 22 = .ok (.newarray .int, 2) := by decide +kernel
theorem dX12_init_24 : decode cX12_init 24 = .ok (.putfield 17, 3) := by decide +kernel
theorem dX12_init_27 : decode cX12_init 27 = .ok (.aload_n 0, 1) := by decide +kernel
theorem dX12_init_28 : decode cX12_init 28 = .ok (.bipush 6, 2) := by decide +kernel
theorem dX12_init_30 : decode cX12_init 30 = .ok (.newarray .int, 2) := by decide +kernel
theorem dX12_init_32 : decode cX12_init 32 = .ok (.putfield 20, 3) := by decide +kernel
theorem dX12_init_35 : decode cX12_init 35 = .ok (.aload_n 0, 1) := by decide +kernel
theorem dX12_init_36 : decode cX12_init 36 = .ok (.bipush 41, 2) := by decide +kernel
theorem dX12_init_38 : decode cX12_init 38 = .ok (.newarray .int, 2) := by decide +kernel
theorem dX12_init_40 : decode cX12_init 40 = .ok (.putfield 23, 3) := by decide +kernel
theorem dX12_init_43 : decode cX12_init 43 = .ok (.aload_n 0, 1) := by decide +kernel
theorem dX12_init_44 : decode cX12_init 44 = .ok (.bipush 6, 2) := by decide +kernel
theorem dX12_init_46 : decode cX12_init 46 = .ok (.newarray .int, 2) := by decide +kernel
theorem dX12_init_48 : decode cX12_init 48 = .ok (.putfield 26, 3) := by decide +kernel
theorem dX12_init_51 : decode cX12_init 51 = .ok (.aload_n 0, 1) := by decide +kernel
theorem dX12_init_52 : decode cX12_init 52 = .ok (.bipush 6, 2) := by decide +kernel
theorem dX12_init_54 : decode cX12_init 54 = .ok (.newarray .int, 2) := by decide +kernel
theorem dX12_init_56 : decode cX12_init 56 = .ok (.putfield 29, 3) := by decide +kernel
theorem dX12_init_59 : decode cX12_init 59 = .ok (.aload_n 0, 1) := by decide +kernel
theorem dX12_init_60 : decode cX12_init 60 = .ok (.sipush 320, 3) := by decide +kernel
theorem dX12_init_63 : decode cX12_init 63 = .ok (.newarray .int, 2) := by decide +kernel
theorem dX12_init_65 : decode cX12_init 65 = .ok (.putfield 32, 3) := by decide +kernel
theorem dX12_init_68 : decode cX12_init 68 = .ok (.aload_n 0, 1) := by decide +kernel
theorem dX12_init_69 : decode cX12_init 69 = .ok (.bipush 6, 2) := by decide +kernel
theorem dX12_init_71 : decode cX12_init 71 = .ok (.newarray .int, 2) := by decide +kernel
theorem dX12_init_73 : decode cX12_init 73 = .ok (.putfield 35, 3) := by decide +kernel
theorem dX12_init_76 : decode cX12_init 76 = .ok (.aload_n 0, 1) := by decide +kernel
theorem dX12_init_77 : decode cX12_init 77 = .ok (.bipush 6, 2) := by decide +kernel
theorem dX12_init_79 : decode cX12_init 79 = .ok (.newarray .int, 2) := by decide +kernel
theorem dX12_init_81 : decode cX12_init 81 = .ok (.putfield 38, 3) := by decide +kernel
theorem dX12_init_84 : decode cX12_init 84 = .ok (.aload_n 0, 1) := by decide +kernel
theorem dX12_init_85 : decode cX12_init 85 = .ok (.sipush 256, 3) := by decide +kernel
theorem dX12_init_88 : decode cX12_init 88 = .ok (.newarray .int, 2) := by decide +kernel
theorem dX12_init_90 : decode cX12_init 90 = .ok (.putfield 41, 3) := by decide +kernel
theorem dX12_init_93 : decode cX12_init 93 = .ok (.aload_n 0, 1) := by decide +kernel
theorem dX12_init_94 : decode cX12_init 94 = .ok (.iconst 4, 1) := by decide +kernel
theorem dX12_init_95 : decode cX12_init 95 = .ok (.newarray .int, 2) := by decide +kernel
theorem dX12_init_97 : decode cX12_init 97 = .ok (.putfield 44, 3) := by decide +kernel
theorem dX12_init_100 : decode cX12_init 100 = .ok (.aload_n 0, 1) := by decide +kernel
theorem dX12_init_101 : decode cX12_init 101 = .ok (.bipush 52, 2) := by decide +kernel
theorem dX12_init_103 : decode cX12_init 103 = .ok (.newarray .int, 2) := by decide +kernel
theorem dX12_init_105 : decode cX12_init 105 = .ok (.putfield 47, 3) := by decide +kernel
theorem dX12_init_108 : decode cX12_init 108 = .ok (.aload_n 0, 1) := by decide +kernel
theorem dX12_init_109 : decode cX12_init 109 = .ok (.iconst 3, 1) := by decide +kernel
theorem dX12_init_110 : decode cX12_init 110 = .ok (.newarray .int, 2) := by decide +kernel
theorem dX12_init_112 : decode cX12_init 112 = .ok (.putfield 50, 3) := by decide +kernel
theorem dX12_init_115 : decode cX12_init 115 = .ok (.aload_n 0, 1) := by decide +kernel
theorem dX12_init_116 : decode cX12_init 116 = .ok (.iconst 3, 1) := by decide +kernel
theorem dX12_init_117 : decode cX12_init 117 = .ok (.newarray .int, 2) := by decide +kernel
theorem dX12_init_119 : decode cX12_init 119 = .ok (.putfield 53, 3) := by decide +kernel
theorem dX12_init_122 : decode cX12_init 122 = .ok (.aload_n 0, 1) := by decide +kernel
theorem dX12_init_123 : decode cX12_init 123 = .ok (.iconst 3, 1) := by decide +kernel
theorem dX12_init_124 : decode cX12_init 124 = .ok (.newarray .int, 2) := by decide +kernel
theorem dX12_init_126 : decode cX12_init 126 = .ok (.putfield 56, 3) := by decide +kernel
theorem dX12_init_129 : decode cX12_init 129 = .ok (.aload_n 0, 1) := by decide +kernel
theorem dX12_init_130 : decode cX12_init 130 = .ok (.iconst 3, 1) := by decide +kernel
theorem dX12_init_131 : decode cX12_init 131 = .ok (.newarray .int, 2) := by decide +kernel
theorem dX12_init_133 : decode cX12_init 133 = .ok (.putfield 59, 3) := by decide +kernel
theorem dX12_init_136 : decode cX12_init 136 = .ok (.aload_n 0, 1) := by decide +kernel
theorem dX12_init_137 : decode cX12_init 137 = .ok (.iconst 4, 1) := by decide +kernel
theorem dX12_init_138 : decode cX12_init 138 = .ok (.newarray .int, 2) := by decide +kernel
theorem dX12_init_140 : decode cX12_init 140 = .ok (.putfield 62, 3) := by decide +kernel
theorem dX12_init_143 : decode cX12_init 143 = .ok (.aload_n 0, 1) := by decide +kernel
theorem dX12_init_144 : decode cX12_init 144 = .ok (.iconst 4, 1) := by decide +kernel
theorem dX12_init_145 : decode cX12_init 145 = .ok (.newarray .int, 2) := by decide +kernel
theorem dX12_init_147 : decode cX12_init 147 = .ok (.putfield 65, 3) := by decide +kernel
theorem dX12_init_150 : decode cX12_init 150 = .ok (.aload_n 0, 1) := by decide +kernel
theorem dX12_init_151 : decode cX12_init 151 = .ok (.sipush 160, 3) := by decide +kernel
theorem dX12_init_154 : decode cX12_init 154 = .ok (.newarray .int, 2) := by decide +kernel
theorem dX12_init_156 : decode cX12_init 156 = .ok (.putfield 68, 3) := by decide +kernel
theorem dX12_init_159 : decode cX12_init 159 = .ok (.aload_n 0, 1) := by decide +kernel
theorem dX12_init_160 : decode cX12_init 160 = .ok (.bipush 20, 2) := by decide +kernel
theorem dX12_init_162 : decode cX12_init 162 = .ok (.newarray .int, 2) := by decide +kernel
theorem dX12_init_164 : decode cX12_init 164 = .ok (.putfield 71, 3) := by decide +kernel
theorem dX12_init_167 : decode cX12_init 167 = .ok (.iconst 0, 1) := by decide +kernel
theorem dX12_init_168 : decode cX12_init 168 = .ok (.istore_n 1, 1) := by decide +kernel
theorem dX12_init_169 : decode cX12_init 169 = .ok (.iload_n 1, 1) := by decide +kernel
theorem dX12_init_170 : decode cX12_init 170 = .ok (.iconst 4, 1) := by decide +kernel
theorem dX12_init_171 : decode cX12_init 171 = .ok (.if_icmp .ge 17, 3) := by decide +kernel
theorem dX12_init_174 : decode cX12_init 174 = .ok (.aload_n 0, 1) := by decide +kernel
theorem dX12_init_175 : decode cX12_init 175 = .ok (.getfield 62, 3) := by decide +kernel
theorem dX12_init_178 : decode cX12_init 178 = .ok (.iload_n 1, 1) := by decide +kernel
theorem dX12_init_179 : decode cX12_init 179 = .ok (.bipush (-4), 2) := by decide +kernel
theorem dX12_init_181 : decode cX12_init 181 = .ok (.iastore, 1) := by decide +kernel
theorem dX12_init_182 : decode cX12_init 182 = .ok (.iinc 1 1, 3) := by decide +kernel
theorem dX12_init_185 : decode cX12_init 185 = .ok (.goto (-16), 3) := by decide +kernel
theorem dX12_init_188 : decode cX12_init 188 = .ok (.aload_n 0, 1) := by decide +kernel
theorem dX12_init_189 : decode cX12_init 189 = .ok (.invokevirtual 74, 3) := by decide +kernel
theorem dX12_init_192 : decode cX12_init 192 = .ok (.aload_n 0, 1) := by decide +kernel
theorem dX12_init_193 : decode cX12_init 193 = .ok (.invokevirtual 77, 3) := by decide +kernel
theorem dX12_init_196 : decode cX12_init 196 = .ok (.aload_n 0, 1) := by decide +kernel
theorem dX12_init_197 : decode cX12_init 197 = .ok (.invokevirtual 80, 3) := by decide +kernel
theorem dX12_init_200 : decode cX12_init 200 = .ok (.return_, 1) := by decide +kernel
theorem dX12_in_0 : decode cX12_in 0 = .ok (.lload_n 0, 1) := by decide +kernel
theorem dX12_in_1 : decode cX12_in 1 = .ok (.lload_n 2, 1) := by decide +kernel
theorem dX12_in_2 : decode cX12_in 2 = .ok (.lcmp, 1) := by decide +kernel
theorem dX12_in_3 : decode cX12_in 3 = .ok (.ifCond .lt 14, 3) := by decide +kernel
theorem dX12_in_6 : decode cX12_in 6 = .ok (.lload_n 0, 1) := by decide +kernel
theorem dX12_in_7 : decode cX12_in 7 = .ok (.lload 4, 2) := by decide +kernel
theorem dX12_in_9 : decode cX12_in 9 = .ok (.lcmp, 1) := by decide +kernel
theorem dX12_in_10 : decode cX12_in 10 = .ok (.ifCond .gt 7, 3) := by decide +kernel
theorem dX12_in_13 : decode cX12_in 13 = .ok (.iconst 1, 1) := by decide +kernel
theorem dX12_in_14 : decode cX12_in 14 = .ok (.goto 4, 3) := by decide +kernel
theorem dX12_in_17 : decode cX12_in 17 = .ok (.iconst 0, 1) := by decide +kernel
theorem dX12_in_18 : decode cX12_in 18 = .ok (.ireturn, 1) := by decide +kernel
theorem dX12_flag_0 : decode cX12_flag 0 = .ok (.iload_n 0, 1) := by decide +kernel
theorem dX12_flag_1 : decode cX12_flag 1 = .ok (.ifCond .eq 7, 3) := by decide +kernel
theorem dX12_flag_4 : decode cX12_flag 4 = .ok (.iconst 1, 1) := by decide +kernel
theorem dX12_flag_5 : decode cX12_flag 5 = .ok (.goto 4, 3) := by decide +kernel
theorem dX12_flag_8 : decode cX12_flag 8 = .ok (.iconst 0, 1) := by decide +kernel
theorem dX12_flag_9 : decode cX12_flag 9 = .ok (.ireturn, 1) := by decide +kernel
theorem dX12_firstDraft_0 : decode cX12_firstDraft 0 = .ok (.iconst 0, 1) := by decide +kernel
theorem dX12_firstDraft_1 : decode cX12_firstDraft 1 = .ok (.istore_n 1, 1) := by decide +kernel
theorem dX12_firstDraft_2 : decode cX12_firstDraft 2 = .ok (.iload_n 1, 1) := by decide +kernel
theorem dX12_firstDraft_3 : decode cX12_firstDraft 3 = .ok (.bipush 41, 2) := by decide +kernel
theorem dX12_firstDraft_5 : decode cX12_firstDraft 5 = .ok (.if_icmp .ge 27, 3) := by decide +kernel
theorem dX12_firstDraft_8 : decode cX12_firstDraft 8 = .ok (.aload_n 0, 1) := by decide +kernel
theorem dX12_firstDraft_9 : decode cX12_firstDraft 9 = .ok (.getfield 23, 3) := by decide +kernel
theorem dX12_firstDraft_12 : decode cX12_firstDraft 12 = .ok (.iload_n 1, 1) := by decide +kernel
theorem dX12_firstDraft_13 : decode cX12_firstDraft 13 = .ok (.iload_n 1, 1) := by decide +kernel
theorem dX12_firstDraft_14 : decode cX12_firstDraft 14 = .ok (.bipush 6, 2) := by decide +kernel
theorem dX12_firstDraft_16 : decode cX12_firstDraft 16 = .ok (.if_icmp .ge 8, 3) := by decide +kernel
theorem dX12_firstDraft_19 : decode cX12_firstDraft 19 = .ok (.bipush (-4), 2) := by decide +kernel
theorem dX12_firstDraft_21 : decode cX12_firstDraft 21 = .ok (.goto 4, 3) := by decide +kernel
theorem dX12_firstDraft_24 : decode cX12_firstDraft 24 = .ok (.iconst 0, 1) := by decide +kernel
theorem dX12_firstDraft_25 : decode cX12_firstDraft 25 = .ok (.iastore, 1) := by decide +kernel
theorem dX12_firstDraft_26 : decode cX12_firstDraft 26 = .ok (.iinc 1 1, 3) := by decide +kernel
theorem dX12_firstDraft_29 : decode cX12_firstDraft 29 = .ok (.goto (-27), 3) := by decide +kernel
theorem dX12_firstDraft_32 : decode cX12_firstDraft 32 = .ok (.iconst 0, 1) := by decide +kernel
theorem dX12_firstDraft_33 : decode cX12_firstDraft 33 = .ok (.istore_n 1, 1) := by decide +kernel
theorem dX12_firstDraft_34 : decode cX12_firstDraft 34 = .ok (.iload_n 1, 1) := by decide +kernel
theorem dX12_firstDraft_35 : decode cX12_firstDraft 35 = .ok (.iconst 5, 1) := by decide +kernel
theorem dX12_firstDraft_36 : decode cX12_firstDraft 36 = .ok (.if_icmp .ge 19, 3) := by decide +kernel
theorem dX12_firstDraft_39 : decode cX12_firstDraft 39 = .ok (.aload_n 0, 1) := by decide +kernel
theorem dX12_firstDraft_40 : decode cX12_firstDraft 40 = .ok (.getfield 23, 3) := by decide +kernel
theorem dX12_firstDraft_43 : decode cX12_firstDraft 43 = .ok (.bipush 13, 2) := by decide +kernel
theorem dX12_firstDraft_45 : decode cX12_firstDraft 45 = .ok (.iload_n 1, 1) := by decide +kernel
theorem dX12_firstDraft_46 : decode cX12_firstDraft 46 = .ok (.iadd, 1) := by decide +kernel
theorem dX12_firstDraft_47 : decode cX12_firstDraft 47 = .ok (.iconst 1, 1) := by decide +kernel
theorem dX12_firstDraft_48 : decode cX12_firstDraft 48 = .ok (.iastore, 1) := by decide +kernel
theorem dX12_firstDraft_49 : decode cX12_firstDraft 49 = .ok (.iinc 1 1, 3) := by decide +kernel
theorem dX12_firstDraft_52 : decode cX12_firstDraft 52 = .ok (.goto (-18), 3) := by decide +kernel
theorem dX12_firstDraft_55 : decode cX12_firstDraft 55 = .ok (.aload_n 0, 1) := by decide +kernel
theorem dX12_firstDraft_56 : decode cX12_firstDraft 56 = .ok (.iconst 3, 1) := by decide +kernel
theorem dX12_firstDraft_57 : decode cX12_firstDraft 57 = .ok (.putfield 83, 3) := by decide +kernel
theorem dX12_firstDraft_60 : decode cX12_firstDraft 60 = .ok (.aload_n 0, 1) := by decide +kernel
theorem dX12_firstDraft_61 : decode cX12_firstDraft 61 = .ok (.iconst 3, 1) := by decide +kernel
theorem dX12_firstDraft_62 : decode cX12_firstDraft 62 = .ok (.putfield 87, 3) := by decide +kernel
theorem dX12_firstDraft_65 : decode cX12_firstDraft 65 = .ok (.aload_n 0, 1) := by decide +kernel
theorem dX12_firstDraft_66 : decode cX12_firstDraft 66 = .ok (.iconst 0, 1) := by decide +kernel
theorem dX12_firstDraft_67 : decode cX12_firstDraft 67 = .ok (.putfield 90, 3) := by decide +kernel
theorem dX12_firstDraft_70 : decode cX12_firstDraft 70 = .ok (.aload_n 0, 1) := by decide +kernel
theorem dX12_firstDraft_71 : decode cX12_firstDraft 71 = .ok (.iconst 0, 1) := by decide +kernel
theorem dX12_firstDraft_72 : decode cX12_firstDraft 72 = .ok (.putfield 93, 3) := by decide +kernel
theorem dX12_firstDraft_75 : decode cX12_firstDraft 75 = .ok (.aload_n 0, 1) := by decide +kernel
theorem dX12_firstDraft_76 : decode cX12_firstDraft 76 = .ok (.bipush (-4), 2) := by decide +kernel
theorem dX12_firstDraft_78 : decode cX12_firstDraft 78 = .ok (.putfield 96, 3) := by decide +kernel
theorem dX12_firstDraft_81 : decode cX12_firstDraft 81 = .ok (.return_, 1) := by decide +kernel
theorem dX12_twoKings_0 : decode cX12_twoKings 0 = .ok (.aload_n 0, 1) := by decide +kernel
theorem dX12_twoKings_1 : decode cX12_twoKings 1 = .ok (.iconst 2, 1) := by decide +kernel
theorem dX12_twoKings_2 : decode cX12_twoKings 2 = .ok (.putfield 90, 3) := by decide +kernel
theorem dX12_twoKings_5 : decode cX12_twoKings 5 = .ok (.iconst 0, 1) := by decide +kernel
theorem dX12_twoKings_6 : decode cX12_twoKings 6 = .ok (.istore_n 1, 1) := by decide +kernel
theorem dX12_twoKings_7 : decode cX12_twoKings 7 = .ok (.iload_n 1, 1) := by decide +kernel
theorem dX12_twoKings_8 : decode cX12_twoKings 8 = .ok (.iconst 2, 1) := by decide +kernel
theorem dX12_twoKings_9 : decode cX12_twoKings 9 = .ok (.if_icmp .ge 61, 3) := by decide +kernel
theorem dX12_twoKings_12 : decode cX12_twoKings 12 = .ok (.aload_n 0, 1) := by decide +kernel
theorem dX12_twoKings_13 : decode cX12_twoKings 13 = .ok (.getfield 26, 3) := by decide +kernel
theorem dX12_twoKings_16 : decode cX12_twoKings 16 = .ok (.iload_n 1, 1) := by decide +kernel
theorem dX12_twoKings_17 : decode cX12_twoKings 17 = .ok (.iload_n 1, 1) := by decide +kernel
theorem dX12_twoKings_18 : decode cX12_twoKings 18 = .ok (.iastore, 1) := by decide +kernel
theorem dX12_twoKings_19 : decode cX12_twoKings 19 = .ok (.aload_n 0, 1) := by decide +kernel
theorem dX12_twoKings_20 : decode cX12_twoKings 20 = .ok (.getfield 29, 3) := by decide +kernel
theorem dX12_twoKings_23 : decode cX12_twoKings 23 = .ok (.iload_n 1, 1) := by decide +kernel
theorem dX12_twoKings_24 : decode cX12_twoKings 24 = .ok (.iconst 0, 1) := by decide +kernel
theorem dX12_twoKings_25 : decode cX12_twoKings 25 = .ok (.iastore, 1) := by decide +kernel
theorem dX12_twoKings_26 : decode cX12_twoKings 26 = .ok (.aload_n 0, 1) := by decide +kernel
theorem dX12_twoKings_27 : decode cX12_twoKings 27 = .ok (.getfield 23, 3) := by decide +kernel
theorem dX12_twoKings_30 : decode cX12_twoKings 30 = .ok (.iconst 0, 1) := by decide +kernel
theorem dX12_twoKings_31 : decode cX12_twoKings 31 = .ok (.iload_n 1, 1) := by decide +kernel
theorem dX12_twoKings_32 : decode cX12_twoKings 32 = .ok (.iadd, 1) := by decide +kernel
theorem dX12_twoKings_33 : decode cX12_twoKings 33 = .ok (.iload_n 1, 1) := by decide +kernel
theorem dX12_twoKings_34 : decode cX12_twoKings 34 = .ok (.ifCond .ne 7, 3) := by decide +kernel
theorem dX12_twoKings_37 : decode cX12_twoKings 37 = .ok (.iconst 0, 1) := by decide +kernel
theorem dX12_twoKings_38 : decode cX12_twoKings 38 = .ok (.goto 14, 3) := by decide +kernel
theorem dX12_twoKings_41 : decode cX12_twoKings 41 = .ok (.aload_n 0, 1) := by decide +kernel
theorem dX12_twoKings_42 : decode cX12_twoKings 42 = .ok (.getfield 83, 3) := by decide +kernel
theorem dX12_twoKings_45 : decode cX12_twoKings 45 = .ok (.aload_n 0, 1) := by decide +kernel
theorem dX12_twoKings_46 : decode cX12_twoKings 46 = .ok (.getfield 87, 3) := by decide +kernel
theorem dX12_twoKings_49 : decode cX12_twoKings 49 = .ok (.imul, 1) := by decide +kernel
theorem dX12_twoKings_50 : decode cX12_twoKings 50 = .ok (.iconst 1, 1) := by decide +kernel
theorem dX12_twoKings_51 : decode cX12_twoKings 51 = .ok (.isub, 1) := by decide +kernel
theorem dX12_twoKings_52 : decode cX12_twoKings 52 = .ok (.iastore, 1) := by decide +kernel
theorem dX12_twoKings_53 : decode cX12_twoKings 53 = .ok (.aload_n 0, 1) := by decide +kernel
theorem dX12_twoKings_54 : decode cX12_twoKings 54 = .ok (.getfield 23, 3) := by decide +kernel
theorem dX12_twoKings_57 : decode cX12_twoKings 57 = .ok (.bipush 6, 2) := by decide +kernel
theorem dX12_twoKings_59 : decode cX12_twoKings 59 = .ok (.iload_n 1, 1) := by decide +kernel
theorem dX12_twoKings_60 : decode cX12_twoKings 60 = .ok (.iadd, 1) := by decide +kernel
theorem dX12_twoKings_61 : decode cX12_twoKings 61 = .ok (.bipush 9, 2) := by decide +kernel
theorem dX12_twoKings_63 : decode cX12_twoKings 63 = .ok (.iastore, 1) := by decide +kernel
theorem dX12_twoKings_64 : decode cX12_twoKings 64 = .ok (.iinc 1 1, 3) := by decide +kernel
theorem dX12_twoKings_67 : decode cX12_twoKings 67 = .ok (.goto (-60), 3) := by decide +kernel
theorem dX12_twoKings_70 : decode cX12_twoKings 70 = .ok (.return_, 1) := by decide +kernel
theorem dX12_keepDraft_0 : decode cX12_keepDraft 0 = .ok (.iconst 0, 1) := by decide +kernel
theorem dX12_keepDraft_1 : decode cX12_keepDraft 1 = .ok (.istore_n 1, 1) := by decide +kernel
theorem dX12_keepDraft_2 : decode cX12_keepDraft 2 = .ok (.iload_n 1, 1) := by decide +kernel
theorem dX12_keepDraft_3 : decode cX12_keepDraft 3 = .ok (.bipush 41, 2) := by decide +kernel
theorem dX12_keepDraft_5 : decode cX12_keepDraft 5 = .ok (.if_icmp .ge 21, 3) := by decide +kernel
theorem dX12_keepDraft_8 : decode cX12_keepDraft 8 = .ok (.aload_n 0, 1) := by decide +kernel
theorem dX12_keepDraft_9 : decode cX12_keepDraft 9 = .ok (.getfield 7, 3) := by decide +kernel
theorem dX12_keepDraft_12 : decode cX12_keepDraft 12 = .ok (.iload_n 1, 1) := by decide +kernel
theorem dX12_keepDraft_13 : decode cX12_keepDraft 13 = .ok (.aload_n 0, 1) := by decide +kernel
theorem dX12_keepDraft_14 : decode cX12_keepDraft 14 = .ok (.getfield 23, 3) := by decide +kernel
theorem dX12_keepDraft_17 : decode cX12_keepDraft 17 = .ok (.iload_n 1, 1) := by decide +kernel
theorem dX12_keepDraft_18 : decode cX12_keepDraft 18 = .ok (.iaload, 1) := by decide +kernel
theorem dX12_keepDraft_19 : decode cX12_keepDraft 19 = .ok (.iastore, 1) := by decide +kernel
theorem dX12_keepDraft_20 : decode cX12_keepDraft 20 = .ok (.iinc 1 1, 3) := by decide +kernel
theorem dX12_keepDraft_23 : decode cX12_keepDraft 23 = .ok (.goto (-21), 3) := by decide +kernel
theorem dX12_keepDraft_26 : decode cX12_keepDraft 26 = .ok (.aload_n 0, 1) := by decide +kernel
theorem dX12_keepDraft_27 : decode cX12_keepDraft 27 = .ok (.aload_n 0, 1) := by decide +kernel
theorem dX12_keepDraft_28 : decode cX12_keepDraft 28 = .ok (.getfield 83, 3) := by decide +kernel
theorem dX12_keepDraft_31 : decode cX12_keepDraft 31 = .ok (.putfield 99, 3) := by decide +kernel
theorem dX12_keepDraft_34 : decode cX12_keepDraft 34 = .ok (.aload_n 0, 1) := by decide +kernel
theorem dX12_keepDraft_35 : decode cX12_keepDraft 35 = .ok (.aload_n 0, 1) := by decide +kernel
theorem dX12_keepDraft_36 : decode cX12_keepDraft 36 = .ok (.getfield 87, 3) := by decide +kernel
theorem dX12_keepDraft_39 : decode cX12_keepDraft 39 = .ok (.putfield 102, 3) := by decide +kernel
theorem dX12_keepDraft_42 : decode cX12_keepDraft 42 = .ok (.aload_n 0, 1) := by decide +kernel
theorem dX12_keepDraft_43 : decode cX12_keepDraft 43 = .ok (.aload_n 0, 1) := by decide +kernel
theorem dX12_keepDraft_44 : decode cX12_keepDraft 44 = .ok (.getfield 90, 3) := by decide +kernel
theorem dX12_keepDraft_47 : decode cX12_keepDraft 47 = .ok (.putfield 105, 3) := by decide +kernel
theorem dX12_keepDraft_50 : decode cX12_keepDraft 50 = .ok (.iconst 0, 1) := by decide +kernel
theorem dX12_keepDraft_51 : decode cX12_keepDraft 51 = .ok (.istore_n 1, 1) := by decide +kernel
theorem dX12_keepDraft_52 : decode cX12_keepDraft 52 = .ok (.iload_n 1, 1) := by decide +kernel
theorem dX12_keepDraft_53 : decode cX12_keepDraft 53 = .ok (.aload_n 0, 1) := by decide +kernel
theorem dX12_keepDraft_54 : decode cX12_keepDraft 54 = .ok (.getfield 105, 3) := by decide +kernel
theorem dX12_keepDraft_57 : decode cX12_keepDraft 57 = .ok (.if_icmp .ge 33, 3) := by decide +kernel
theorem dX12_keepDraft_60 : decode cX12_keepDraft 60 = .ok (.aload_n 0, 1) := by decide +kernel
theorem dX12_keepDraft_61 : decode cX12_keepDraft 61 = .ok (.getfield 17, 3) := by decide +kernel
theorem dX12_keepDraft_64 : decode cX12_keepDraft 64 = .ok (.iload_n 1, 1) := by decide +kernel
theorem dX12_keepDraft_65 : decode cX12_keepDraft 65 = .ok (.aload_n 0, 1) := by decide +kernel
theorem dX12_keepDraft_66 : decode cX12_keepDraft 66 = .ok (.getfield 26, 3) := by decide +kernel
theorem dX12_keepDraft_69 : decode cX12_keepDraft 69 = .ok (.iload_n 1, 1) := by decide +kernel
theorem dX12_keepDraft_70 : decode cX12_keepDraft 70 = .ok (.iaload, 1) := by decide +kernel
theorem dX12_keepDraft_71 : decode cX12_keepDraft 71 = .ok (.iastore, 1) := by decide +kernel
theorem dX12_keepDraft_72 : decode cX12_keepDraft 72 = .ok (.aload_n 0, 1) := by decide +kernel
theorem dX12_keepDraft_73 : decode cX12_keepDraft 73 = .ok (.getfield 20, 3) := by decide +kernel
theorem dX12_keepDraft_76 : decode cX12_keepDraft 76 = .ok (.iload_n 1, 1) := by decide +kernel
theorem dX12_keepDraft_77 : decode cX12_keepDraft 77 = .ok (.aload_n 0, 1) := by decide +kernel
theorem dX12_keepDraft_78 : decode cX12_keepDraft 78 = .ok (.getfield 29, 3) := by decide +kernel
theorem dX12_keepDraft_81 : decode cX12_keepDraft 81 = .ok (.iload_n 1, 1) := by decide +kernel
theorem dX12_keepDraft_82 : decode cX12_keepDraft 82 = .ok (.iaload, 1) := by decide +kernel
theorem dX12_keepDraft_83 : decode cX12_keepDraft 83 = .ok (.iastore, 1) := by decide +kernel
theorem dX12_keepDraft_84 : decode cX12_keepDraft 84 = .ok (.iinc 1 1, 3) := by decide +kernel
theorem dX12_keepDraft_87 : decode cX12_keepDraft 87 = .ok (.goto (-35), 3) := by decide +kernel
theorem dX12_keepDraft_90 : decode cX12_keepDraft 90 = .ok (.aload_n 0, 1) := by decide +kernel
theorem dX12_keepDraft_91 : decode cX12_keepDraft 91 = .ok (.getfield 13, 3) := by decide +kernel
theorem dX12_keepDraft_94 : decode cX12_keepDraft 94 = .ok (.iconst 0, 1) := by decide +kernel
theorem dX12_keepDraft_95 : decode cX12_keepDraft 95 = .ok (.iconst 0, 1) := by decide +kernel
theorem dX12_keepDraft_96 : decode cX12_keepDraft 96 = .ok (.bastore, 1) := by decide +kernel
theorem dX12_keepDraft_97 : decode cX12_keepDraft 97 = .ok (.aload_n 0, 1) := by decide +kernel
theorem dX12_keepDraft_98 : decode cX12_keepDraft 98 = .ok (.getfield 13, 3) := by decide +kernel
theorem dX12_keepDraft_101 : decode cX12_keepDraft 101 = .ok (.iconst 1, 1) := by decide +kernel
theorem dX12_keepDraft_102 : decode cX12_keepDraft 102 = .ok (.iconst 0, 1) := by decide +kernel
theorem dX12_keepDraft_103 : decode cX12_keepDraft 103 = .ok (.bastore, 1) := by decide +kernel
theorem dX12_keepDraft_104 : decode cX12_keepDraft 104 = .ok (.return_, 1) := by decide +kernel
theorem dX12_feed_0 : decode cX12_feed 0 = .ok (.aload_n 0, 1) := by decide +kernel
theorem dX12_feed_1 : decode cX12_feed 1 = .ok (.getfield 108, 3) := by decide +kernel
theorem dX12_feed_4 : decode cX12_feed 4 = .ok (.bipush 8, 2) := by decide +kernel
theorem dX12_feed_6 : decode cX12_feed 6 = .ok (.iadd, 1) := by decide +kernel
theorem dX12_feed_7 : decode cX12_feed 7 = .ok (.sipush 320, 3) := by decide +kernel
theorem dX12_feed_10 : decode cX12_feed 10 = .ok (.if_icmp .le 6, 3) := by decide +kernel
theorem dX12_feed_13 : decode cX12_feed 13 = .ok (.bipush (-3), 2) := by decide +kernel
theorem dX12_feed_15 : decode cX12_feed 15 = .ok (.ireturn, 1) := by decide +kernel
theorem dX12_feed_16 : decode cX12_feed 16 = .ok (.bipush 56, 2) := by decide +kernel
theorem dX12_feed_18 : decode cX12_feed 18 = .ok (.istore_n 3, 1) := by decide +kernel
theorem dX12_feed_19 : decode cX12_feed 19 = .ok (.iload_n 3, 1) := by decide +kernel
theorem dX12_feed_20 : decode cX12_feed 20 = .ok (.ifCond .lt 36, 3) := by decide +kernel
theorem dX12_feed_23 : decode cX12_feed 23 = .ok (.aload_n 0, 1) := by decide +kernel
theorem dX12_feed_24 : decode cX12_feed 24 = .ok (.getfield 32, 3) := by decide +kernel
theorem dX12_feed_27 : decode cX12_feed 27 = .ok (.aload_n 0, 1) := by decide +kernel
theorem dX12_feed_28 : decode cX12_feed 28 = .ok (.getfield 108, 3) := by decide +kernel
theorem dX12_feed_31 : decode cX12_feed 31 = .ok (.lload_n 1, 1) := by decide +kernel
theorem dX12_feed_32 : decode cX12_feed 32 = .ok (.iload_n 3, 1) := by decide +kernel
theorem dX12_feed_33 : decode cX12_feed 33 = .ok (.lshr, 1) := by decide +kernel
theorem dX12_feed_34 : decode cX12_feed 34 = .ok (.ldc2_w 111, 3) := by decide +kernel
theorem dX12_feed_37 : decode cX12_feed 37 = .ok (.land, 1) := by decide +kernel
theorem dX12_feed_38 : decode cX12_feed 38 = .ok (.l2i, 1) := by decide +kernel
theorem dX12_feed_39 : decode cX12_feed 39 = .ok (.iastore, 1) := by decide +kernel
theorem dX12_feed_40 : decode cX12_feed 40 = .ok (.aload_n 0, 1) := by decide +kernel
theorem dX12_feed_41 : decode cX12_feed 41 = .ok (.dup, 1) := by decide +kernel
theorem dX12_feed_42 : decode cX12_feed 42 = .ok (.getfield 108, 3) := by decide +kernel
theorem dX12_feed_45 : decode cX12_feed 45 = .ok (.iconst 1, 1) := by decide +kernel
theorem dX12_feed_46 : decode cX12_feed 46 = .ok (.iadd, 1) := by decide +kernel
theorem dX12_feed_47 : decode cX12_feed 47 = .ok (.putfield 108, 3) := by decide +kernel
theorem dX12_feed_50 : decode cX12_feed 50 = .ok (.iinc 3 (-8), 3) := by decide +kernel
theorem dX12_feed_53 : decode cX12_feed 53 = .ok (.goto (-34), 3) := by decide +kernel
theorem dX12_feed_56 : decode cX12_feed 56 = .ok (.aload_n 0, 1) := by decide +kernel
theorem dX12_feed_57 : decode cX12_feed 57 = .ok (.getfield 108, 3) := by decide +kernel
theorem dX12_feed_60 : decode cX12_feed 60 = .ok (.ireturn, 1) := by decide +kernel
theorem dX12_end_0 : decode cX12_end 0 = .ok (.iload_n 1, 1) := by decide +kernel
theorem dX12_end_1 : decode cX12_end 1 = .ok (.i2l, 1) := by decide +kernel
theorem dX12_end_2 : decode cX12_end 2 = .ok (.lconst 0, 1) := by decide +kernel
theorem dX12_end_3 : decode cX12_end 3 = .ok (.aload_n 0, 1) := by decide +kernel
theorem dX12_end_4 : decode cX12_end 4 = .ok (.getfield 108, 3) := by decide +kernel
theorem dX12_end_7 : decode cX12_end 7 = .ok (.i2l, 1) := by decide +kernel
theorem dX12_end_8 : decode cX12_end 8 = .ok (.invokestatic 113, 3) := by decide +kernel
theorem dX12_end_11 : decode cX12_end 11 = .ok (.ifCond .ne 5, 3) := by decide +kernel
theorem dX12_end_14 : decode cX12_end 14 = .ok (.iconst (-1), 1) := by decide +kernel
theorem dX12_end_15 : decode cX12_end 15 = .ok (.ireturn, 1) := by decide +kernel
theorem dX12_end_16 : decode cX12_end 16 = .ok (.aload_n 0, 1) := by decide +kernel
theorem dX12_end_17 : decode cX12_end 17 = .ok (.getfield 108, 3) := by decide +kernel
theorem dX12_end_20 : decode cX12_end 20 = .ok (.istore_n 2, 1) := by decide +kernel
theorem dX12_end_21 : decode cX12_end 21 = .ok (.aload_n 0, 1) := by decide +kernel
theorem dX12_end_22 : decode cX12_end 22 = .ok (.iload_n 1, 1) := by decide +kernel
theorem dX12_end_23 : decode cX12_end 23 = .ok (.putfield 108, 3) := by decide +kernel
theorem dX12_end_26 : decode cX12_end 26 = .ok (.iload_n 2, 1) := by decide +kernel
theorem dX12_end_27 : decode cX12_end 27 = .ok (.ireturn, 1) := by decide +kernel
theorem dX12_needs_0 : decode cX12_needs 0 = .ok (.iload_n 1, 1) := by decide +kernel
theorem dX12_needs_1 : decode cX12_needs 1 = .ok (.ifCond .ne 23, 3) := by decide +kernel
theorem dX12_needs_4 : decode cX12_needs 4 = .ok (.aload_n 0, 1) := by decide +kernel
theorem dX12_needs_5 : decode cX12_needs 5 = .ok (.getfield 117, 3) := by decide +kernel
theorem dX12_needs_8 : decode cX12_needs 8 = .ok (.ifCond .ne 16, 3) := by decide +kernel
theorem dX12_needs_11 : decode cX12_needs 11 = .ok (.aload_n 0, 1) := by decide +kernel
theorem dX12_needs_12 : decode cX12_needs 12 = .ok (.iload_n 2, 1) := by decide +kernel
theorem dX12_needs_13 : decode cX12_needs 13 = .ok (.putfield 117, 3) := by decide +kernel
theorem dX12_needs_16 : decode cX12_needs 16 = .ok (.aload_n 0, 1) := by decide +kernel
theorem dX12_needs_17 : decode cX12_needs 17 = .ok (.aload_n 0, 1) := by decide +kernel
theorem dX12_needs_18 : decode cX12_needs 18 = .ok (.getfield 120, 3) := by decide +kernel
theorem dX12_needs_21 : decode cX12_needs 21 = .ok (.putfield 123, 3) := by decide +kernel
theorem dX12_needs_24 : decode cX12_needs 24 = .ok (.return_, 1) := by decide +kernel
theorem dX12_look_0 : decode cX12_look 0 = .ok (.iload_n 1, 1) := by decide +kernel
theorem dX12_look_1 : decode cX12_look 1 = .ok (.aload_n 0, 1) := by decide +kernel
theorem dX12_look_2 : decode cX12_look 2 = .ok (.getfield 108, 3) := by decide +kernel
theorem dX12_look_5 : decode cX12_look 5 = .ok (.if_icmp .ge 12, 3) := by decide +kernel
theorem dX12_look_8 : decode cX12_look 8 = .ok (.aload_n 0, 1) := by decide +kernel
theorem dX12_look_9 : decode cX12_look 9 = .ok (.getfield 32, 3) := by decide +kernel
theorem dX12_look_12 : decode cX12_look 12 = .ok (.iload_n 1, 1) := by decide +kernel
theorem dX12_look_13 : decode cX12_look 13 = .ok (.iaload, 1) := by decide +kernel
theorem dX12_look_14 : decode cX12_look 14 = .ok (.goto 4, 3) := by decide +kernel
theorem dX12_look_17 : decode cX12_look 17 = .ok (.iconst (-1), 1) := by decide +kernel
theorem dX12_look_18 : decode cX12_look 18 = .ok (.ireturn, 1) := by decide +kernel
theorem dX12_is_0 : decode cX12_is 0 = .ok (.aload_n 0, 1) := by decide +kernel
theorem dX12_is_1 : decode cX12_is 1 = .ok (.getfield 126, 3) := by decide +kernel
theorem dX12_is_4 : decode cX12_is 4 = .ok (.aload_n 0, 1) := by decide +kernel
theorem dX12_is_5 : decode cX12_is 5 = .ok (.getfield 120, 3) := by decide +kernel
theorem dX12_is_8 : decode cX12_is 8 = .ok (.isub, 1) := by decide +kernel
theorem dX12_is_9 : decode cX12_is 9 = .ok (.iload_n 1, 1) := by decide +kernel
theorem dX12_is_10 : decode cX12_is 10 = .ok (.if_icmp .ne 48, 3) := by decide +kernel
theorem dX12_is_13 : decode cX12_is 13 = .ok (.aload_n 0, 1) := by decide +kernel
theorem dX12_is_14 : decode cX12_is 14 = .ok (.aload_n 0, 1) := by decide +kernel
theorem dX12_is_15 : decode cX12_is 15 = .ok (.getfield 120, 3) := by decide +kernel
theorem dX12_is_18 : decode cX12_is 18 = .ok (.invokevirtual 129, 3) := by decide +kernel
theorem dX12_is_21 : decode cX12_is 21 = .ok (.iload_n 2, 1) := by decide +kernel
theorem dX12_is_22 : decode cX12_is 22 = .ok (.if_icmp .ne 36, 3) := by decide +kernel
theorem dX12_is_25 : decode cX12_is 25 = .ok (.aload_n 0, 1) := by decide +kernel
theorem dX12_is_26 : decode cX12_is 26 = .ok (.aload_n 0, 1) := by decide +kernel
theorem dX12_is_27 : decode cX12_is 27 = .ok (.getfield 120, 3) := by decide +kernel
theorem dX12_is_30 : decode cX12_is 30 = .ok (.iconst 1, 1) := by decide +kernel
theorem dX12_is_31 : decode cX12_is 31 = .ok (.iadd, 1) := by decide +kernel
theorem dX12_is_32 : decode cX12_is 32 = .ok (.invokevirtual 129, 3) := by decide +kernel
theorem dX12_is_35 : decode cX12_is 35 = .ok (.iload_n 3, 1) := by decide +kernel
theorem dX12_is_36 : decode cX12_is 36 = .ok (.if_icmp .ne 22, 3) := by decide +kernel
theorem dX12_is_39 : decode cX12_is 39 = .ok (.aload_n 0, 1) := by decide +kernel
theorem dX12_is_40 : decode cX12_is 40 = .ok (.aload_n 0, 1) := by decide +kernel
theorem dX12_is_41 : decode cX12_is 41 = .ok (.getfield 120, 3) := by decide +kernel
theorem dX12_is_44 : decode cX12_is 44 = .ok (.iconst 2, 1) := by decide +kernel
theorem dX12_is_45 : decode cX12_is 45 = .ok (.iadd, 1) := by decide +kernel
theorem dX12_is_46 : decode cX12_is 46 = .ok (.invokevirtual 129, 3) := by decide +kernel
theorem dX12_is_49 : decode cX12_is 49 = .ok (.iload 4, 2) := by decide +kernel
theorem dX12_is_51 : decode cX12_is 51 = .ok (.if_icmp .ne 7, 3) := by decide +kernel
theorem dX12_is_54 : decode cX12_is 54 = .ok (.iconst 1, 1) := by decide +kernel
theorem dX12_is_55 : decode cX12_is 55 = .ok (.goto 4, 3) := by decide +kernel
theorem dX12_is_58 : decode cX12_is 58 = .ok (.iconst 0, 1) := by decide +kernel
theorem dX12_is_59 : decode cX12_is 59 = .ok (.ireturn, 1) := by decide +kernel
theorem dX12_ends_0 : decode cX12_ends 0 = .ok (.aload_n 0, 1) := by decide +kernel
theorem dX12_ends_1 : decode cX12_ends 1 = .ok (.aload_n 0, 1) := by decide +kernel
theorem dX12_ends_2 : decode cX12_ends 2 = .ok (.getfield 120, 3) := by decide +kernel
theorem dX12_ends_5 : decode cX12_ends 5 = .ok (.iconst 3, 1) := by decide +kernel
theorem dX12_ends_6 : decode cX12_ends 6 = .ok (.iadd, 1) := by decide +kernel
theorem dX12_ends_7 : decode cX12_ends 7 = .ok (.invokevirtual 129, 3) := by decide +kernel
theorem dX12_ends_10 : decode cX12_ends 10 = .ok (.iload_n 1, 1) := by decide +kernel
theorem dX12_ends_11 : decode cX12_ends 11 = .ok (.if_icmp .ne 43, 3) := by decide +kernel
theorem dX12_ends_14 : decode cX12_ends 14 = .ok (.iload_n 2, 1) := by decide +kernel
theorem dX12_ends_15 : decode cX12_ends 15 = .ok (.ifCond .eq 17, 3) := by decide +kernel
theorem dX12_ends_18 : decode cX12_ends 18 = .ok (.aload_n 0, 1) := by decide +kernel
theorem dX12_ends_19 : decode cX12_ends 19 = .ok (.aload_n 0, 1) := by decide +kernel
theorem dX12_ends_20 : decode cX12_ends 20 = .ok (.getfield 120, 3) := by decide +kernel
theorem dX12_ends_23 : decode cX12_ends 23 = .ok (.iconst 4, 1) := by decide +kernel
theorem dX12_ends_24 : decode cX12_ends 24 = .ok (.iadd, 1) := by decide +kernel
theorem dX12_ends_25 : decode cX12_ends 25 = .ok (.invokevirtual 129, 3) := by decide +kernel
theorem dX12_ends_28 : decode cX12_ends 28 = .ok (.iload_n 2, 1) := by decide +kernel
theorem dX12_ends_29 : decode cX12_ends 29 = .ok (.if_icmp .ne 25, 3) := by decide +kernel
theorem dX12_ends_32 : decode cX12_ends 32 = .ok (.iload_n 3, 1) := by decide +kernel
theorem dX12_ends_33 : decode cX12_ends 33 = .ok (.ifCond .eq 17, 3) := by decide +kernel
theorem dX12_ends_36 : decode cX12_ends 36 = .ok (.aload_n 0, 1) := by decide +kernel
theorem dX12_ends_37 : decode cX12_ends 37 = .ok (.aload_n 0, 1) := by decide +kernel
theorem dX12_ends_38 : decode cX12_ends 38 = .ok (.getfield 120, 3) := by decide +kernel
theorem dX12_ends_41 : decode cX12_ends 41 = .ok (.iconst 5, 1) := by decide +kernel
theorem dX12_ends_42 : decode cX12_ends 42 = .ok (.iadd, 1) := by decide +kernel
theorem dX12_ends_43 : decode cX12_ends 43 = .ok (.invokevirtual 129, 3) := by decide +kernel
theorem dX12_ends_46 : decode cX12_ends 46 = .ok (.iload_n 3, 1) := by decide +kernel
theorem dX12_ends_47 : decode cX12_ends 47 = .ok (.if_icmp .ne 7, 3) := by decide +kernel
theorem dX12_ends_50 : decode cX12_ends 50 = .ok (.iconst 1, 1) := by decide +kernel
theorem dX12_ends_51 : decode cX12_ends 51 = .ok (.goto 4, 3) := by decide +kernel
theorem dX12_ends_54 : decode cX12_ends 54 = .ok (.iconst 0, 1) := by decide +kernel
theorem dX12_ends_55 : decode cX12_ends 55 = .ok (.ireturn, 1) := by decide +kernel
theorem dX12_lineNow_0 : decode cX12_lineNow 0 = .ok (.aload_n 0, 1) := by decide +kernel
theorem dX12_lineNow_1 : decode cX12_lineNow 1 = .ok (.iconst 5, 1) := by decide +kernel
theorem dX12_lineNow_2 : decode cX12_lineNow 2 = .ok (.bipush 98, 2) := by decide +kernel
theorem dX12_lineNow_4 : decode cX12_lineNow 4 = .ok (.bipush 111, 2) := by decide +kernel
theorem dX12_lineNow_6 : decode cX12_lineNow 6 = .ok (.bipush 97, 2) := by decide +kernel
theorem dX12_lineNow_8 : decode cX12_lineNow 8 = .ok (.invokevirtual 133, 3) := by decide +kernel
theorem dX12_lineNow_11 : decode cX12_lineNow 11 = .ok (.ifCond .eq 17, 3) := by decide +kernel
theorem dX12_lineNow_14 : decode cX12_lineNow 14 = .ok (.aload_n 0, 1) := by decide +kernel
theorem dX12_lineNow_15 : decode cX12_lineNow 15 = .ok (.bipush 114, 2) := by decide +kernel
theorem dX12_lineNow_17 : decode cX12_lineNow 17 = .ok (.bipush 100, 2) := by decide +kernel
theorem dX12_lineNow_19 : decode cX12_lineNow 19 = .ok (.iconst 0, 1) := by decide +kernel
theorem dX12_lineNow_20 : decode cX12_lineNow 20 = .ok (.invokevirtual 137, 3) := by decide +kernel
theorem dX12_lineNow_23 : decode cX12_lineNow 23 = .ok (.ifCond .eq 5, 3) := by decide +kernel
theorem dX12_lineNow_26 : decode cX12_lineNow 26 = .ok (.iconst 0, 1) := by decide +kernel
theorem dX12_lineNow_27 : decode cX12_lineNow 27 = .ok (.ireturn, 1) := by decide +kernel
theorem dX12_lineNow_28 : decode cX12_lineNow 28 = .ok (.aload_n 0, 1) := by decide +kernel
theorem dX12_lineNow_29 : decode cX12_lineNow 29 = .ok (.iconst 4, 1) := by decide +kernel
theorem dX12_lineNow_30 : decode cX12_lineNow 30 = .ok (.bipush 111, 2) := by decide +kernel
theorem dX12_lineNow_32 : decode cX12_lineNow 32 = .ok (.bipush 100, 2) := by decide +kernel
theorem dX12_lineNow_34 : decode cX12_lineNow 34 = .ok (.bipush 100, 2) := by decide +kernel
theorem dX12_lineNow_36 : decode cX12_lineNow 36 = .ok (.invokevirtual 133, 3) := by decide +kernel
theorem dX12_lineNow_39 : decode cX12_lineNow 39 = .ok (.ifCond .eq 16, 3) := by decide +kernel
theorem dX12_lineNow_42 : decode cX12_lineNow 42 = .ok (.aload_n 0, 1) := by decide +kernel
theorem dX12_lineNow_43 : decode cX12_lineNow 43 = .ok (.bipush 115, 2) := by decide +kernel
theorem dX12_lineNow_45 : decode cX12_lineNow 45 = .ok (.iconst 0, 1) := by decide +kernel
theorem dX12_lineNow_46 : decode cX12_lineNow 46 = .ok (.iconst 0, 1) := by decide +kernel
theorem dX12_lineNow_47 : decode cX12_lineNow 47 = .ok (.invokevirtual 137, 3) := by decide +kernel
theorem dX12_lineNow_50 : decode cX12_lineNow 50 = .ok (.ifCond .eq 5, 3) := by decide +kernel
theorem dX12_lineNow_53 : decode cX12_lineNow 53 = .ok (.iconst 1, 1) := by decide +kernel
theorem dX12_lineNow_54 : decode cX12_lineNow 54 = .ok (.ireturn, 1) := by decide +kernel
theorem dX12_lineNow_55 : decode cX12_lineNow 55 = .ok (.aload_n 0, 1) := by decide +kernel
theorem dX12_lineNow_56 : decode cX12_lineNow 56 = .ok (.iconst 4, 1) := by decide +kernel
theorem dX12_lineNow_57 : decode cX12_lineNow 57 = .ok (.bipush 116, 2) := by decide +kernel
theorem dX12_lineNow_59 : decode cX12_lineNow 59 = .ok (.bipush 117, 2) := by decide +kernel
theorem dX12_lineNow_61 : decode cX12_lineNow 61 = .ok (.bipush 114, 2) := by decide +kernel
theorem dX12_lineNow_63 : decode cX12_lineNow 63 = .ok (.invokevirtual 133, 3) := by decide +kernel
theorem dX12_lineNow_66 : decode cX12_lineNow 66 = .ok (.ifCond .eq 16, 3) := by decide +kernel
theorem dX12_lineNow_69 : decode cX12_lineNow 69 = .ok (.aload_n 0, 1) := by decide +kernel
theorem dX12_lineNow_70 : decode cX12_lineNow 70 = .ok (.bipush 110, 2) := by decide +kernel
theorem dX12_lineNow_72 : decode cX12_lineNow 72 = .ok (.iconst 0, 1) := by decide +kernel
theorem dX12_lineNow_73 : decode cX12_lineNow 73 = .ok (.iconst 0, 1) := by decide +kernel
theorem dX12_lineNow_74 : decode cX12_lineNow 74 = .ok (.invokevirtual 137, 3) := by decide +kernel
theorem dX12_lineNow_77 : decode cX12_lineNow 77 = .ok (.ifCond .eq 5, 3) := by decide +kernel
theorem dX12_lineNow_80 : decode cX12_lineNow 80 = .ok (.iconst 2, 1) := by decide +kernel
theorem dX12_lineNow_81 : decode cX12_lineNow 81 = .ok (.ireturn, 1) := by decide +kernel
theorem dX12_lineNow_82 : decode cX12_lineNow 82 = .ok (.aload_n 0, 1) := by decide +kernel
theorem dX12_lineNow_83 : decode cX12_lineNow 83 = .ok (.bipush 7, 2) := by decide +kernel
theorem dX12_lineNow_85 : decode cX12_lineNow 85 = .ok (.bipush 115, 2) := by decide +kernel
theorem dX12_lineNow_87 : decode cX12_lineNow 87 = .ok (.bipush 116, 2) := by decide +kernel
theorem dX12_lineNow_89 : decode cX12_lineNow 89 = .ok (.bipush 101, 2) := by decide +kernel
theorem dX12_lineNow_91 : decode cX12_lineNow 91 = .ok (.invokevirtual 133, 3) := by decide +kernel
theorem dX12_lineNow_94 : decode cX12_lineNow 94 = .ok (.ifCond .eq 34, 3) := by decide +kernel
theorem dX12_lineNow_97 : decode cX12_lineNow 97 = .ok (.aload_n 0, 1) := by decide +kernel
theorem dX12_lineNow_98 : decode cX12_lineNow 98 = .ok (.bipush 101, 2) := by decide +kernel
theorem dX12_lineNow_100 : decode cX12_lineNow 100 = .ok (.bipush 112, 2) := by decide +kernel
theorem dX12_lineNow_102 : decode cX12_lineNow 102 = .ok (.bipush 108, 2) := by decide +kernel
theorem dX12_lineNow_104 : decode cX12_lineNow 104 = .ok (.invokevirtual 137, 3) := by decide +kernel
theorem dX12_lineNow_107 : decode cX12_lineNow 107 = .ok (.ifCond .eq 21, 3) := by decide +kernel
theorem dX12_lineNow_110 : decode cX12_lineNow 110 = .ok (.aload_n 0, 1) := by decide +kernel
theorem dX12_lineNow_111 : decode cX12_lineNow 111 = .ok (.aload_n 0, 1) := by decide +kernel
theorem dX12_lineNow_112 : decode cX12_lineNow 112 = .ok (.getfield 120, 3) := by decide +kernel
theorem dX12_lineNow_115 : decode cX12_lineNow 115 = .ok (.bipush 6, 2) := by decide +kernel
theorem dX12_lineNow_117 : decode cX12_lineNow 117 = .ok (.iadd, 1) := by decide +kernel
theorem dX12_lineNow_118 : decode cX12_lineNow 118 = .ok (.invokevirtual 129, 3) := by decide +kernel
theorem dX12_lineNow_121 : decode cX12_lineNow 121 = .ok (.bipush 101, 2) := by decide +kernel
theorem dX12_lineNow_123 : decode cX12_lineNow 123 = .ok (.if_icmp .ne 5, 3) := by decide +kernel
theorem dX12_lineNow_126 : decode cX12_lineNow 126 = .ok (.iconst 3, 1) := by decide +kernel
theorem dX12_lineNow_127 : decode cX12_lineNow 127 = .ok (.ireturn, 1) := by decide +kernel
theorem dX12_lineNow_128 : decode cX12_lineNow 128 = .ok (.aload_n 0, 1) := by decide +kernel
theorem dX12_lineNow_129 : decode cX12_lineNow 129 = .ok (.iconst 5, 1) := by decide +kernel
theorem dX12_lineNow_130 : decode cX12_lineNow 130 = .ok (.bipush 112, 2) := by decide +kernel
theorem dX12_lineNow_132 : decode cX12_lineNow 132 = .ok (.bipush 105, 2) := by decide +kernel
theorem dX12_lineNow_134 : decode cX12_lineNow 134 = .ok (.bipush 101, 2) := by decide +kernel
theorem dX12_lineNow_136 : decode cX12_lineNow 136 = .ok (.invokevirtual 133, 3) := by decide +kernel
theorem dX12_lineNow_139 : decode cX12_lineNow 139 = .ok (.ifCond .eq 19, 3) := by decide +kernel
theorem dX12_lineNow_142 : decode cX12_lineNow 142 = .ok (.aload_n 0, 1) := by decide +kernel
theorem dX12_lineNow_143 : decode cX12_lineNow 143 = .ok (.bipush 99, 2) := by decide +kernel
theorem dX12_lineNow_145 : decode cX12_lineNow 145 = .ok (.bipush 101, 2) := by decide +kernel
theorem dX12_lineNow_147 : decode cX12_lineNow 147 = .ok (.iconst 0, 1) := by decide +kernel
theorem dX12_lineNow_148 : decode cX12_lineNow 148 = .ok (.invokevirtual 137, 3) := by decide +kernel
theorem dX12_lineNow_151 : decode cX12_lineNow 151 = .ok (.ifCond .eq 7, 3) := by decide +kernel
theorem dX12_lineNow_154 : decode cX12_lineNow 154 = .ok (.iconst 4, 1) := by decide +kernel
theorem dX12_lineNow_155 : decode cX12_lineNow 155 = .ok (.goto 5, 3) := by decide +kernel
theorem dX12_lineNow_158 : decode cX12_lineNow 158 = .ok (.bipush (-4), 2) := by decide +kernel
theorem dX12_lineNow_160 : decode cX12_lineNow 160 = .ok (.ireturn, 1) := by decide +kernel
theorem dX12_kindNow_0 : decode cX12_kindNow 0 = .ok (.aload_n 0, 1) := by decide +kernel
theorem dX12_kindNow_1 : decode cX12_kindNow 1 = .ok (.iconst 4, 1) := by decide +kernel
theorem dX12_kindNow_2 : decode cX12_kindNow 2 = .ok (.bipush 107, 2) := by decide +kernel
theorem dX12_kindNow_4 : decode cX12_kindNow 4 = .ok (.bipush 105, 2) := by decide +kernel
theorem dX12_kindNow_6 : decode cX12_kindNow 6 = .ok (.bipush 110, 2) := by decide +kernel
theorem dX12_kindNow_8 : decode cX12_kindNow 8 = .ok (.invokevirtual 133, 3) := by decide +kernel
theorem dX12_kindNow_11 : decode cX12_kindNow 11 = .ok (.ifCond .eq 16, 3) := by decide +kernel
theorem dX12_kindNow_14 : decode cX12_kindNow 14 = .ok (.aload_n 0, 1) := by decide +kernel
theorem dX12_kindNow_15 : decode cX12_kindNow 15 = .ok (.bipush 103, 2) := by decide +kernel
theorem dX12_kindNow_17 : decode cX12_kindNow 17 = .ok (.iconst 0, 1) := by decide +kernel
theorem dX12_kindNow_18 : decode cX12_kindNow 18 = .ok (.iconst 0, 1) := by decide +kernel
theorem dX12_kindNow_19 : decode cX12_kindNow 19 = .ok (.invokevirtual 137, 3) := by decide +kernel
theorem dX12_kindNow_22 : decode cX12_kindNow 22 = .ok (.ifCond .eq 5, 3) := by decide +kernel
theorem dX12_kindNow_25 : decode cX12_kindNow 25 = .ok (.iconst 0, 1) := by decide +kernel
theorem dX12_kindNow_26 : decode cX12_kindNow 26 = .ok (.ireturn, 1) := by decide +kernel
theorem dX12_kindNow_27 : decode cX12_kindNow 27 = .ok (.aload_n 0, 1) := by decide +kernel
theorem dX12_kindNow_28 : decode cX12_kindNow 28 = .ok (.iconst 3, 1) := by decide +kernel
theorem dX12_kindNow_29 : decode cX12_kindNow 29 = .ok (.bipush 109, 2) := by decide +kernel
theorem dX12_kindNow_31 : decode cX12_kindNow 31 = .ok (.bipush 97, 2) := by decide +kernel
theorem dX12_kindNow_33 : decode cX12_kindNow 33 = .ok (.bipush 110, 2) := by decide +kernel
theorem dX12_kindNow_35 : decode cX12_kindNow 35 = .ok (.invokevirtual 133, 3) := by decide +kernel
theorem dX12_kindNow_38 : decode cX12_kindNow 38 = .ok (.ifCond .eq 5, 3) := by decide +kernel
theorem dX12_kindNow_41 : decode cX12_kindNow 41 = .ok (.iconst 1, 1) := by decide +kernel
theorem dX12_kindNow_42 : decode cX12_kindNow 42 = .ok (.ireturn, 1) := by decide +kernel
theorem dX12_kindNow_43 : decode cX12_kindNow 43 = .ok (.aload_n 0, 1) := by decide +kernel
theorem dX12_kindNow_44 : decode cX12_kindNow 44 = .ok (.bipush 6, 2) := by decide +kernel
theorem dX12_kindNow_46 : decode cX12_kindNow 46 = .ok (.bipush 114, 2) := by decide +kernel
theorem dX12_kindNow_48 : decode cX12_kindNow 48 = .ok (.bipush 117, 2) := by decide +kernel
theorem dX12_kindNow_50 : decode cX12_kindNow 50 = .ok (.bipush 110, 2) := by decide +kernel
theorem dX12_kindNow_52 : decode cX12_kindNow 52 = .ok (.invokevirtual 133, 3) := by decide +kernel
theorem dX12_kindNow_55 : decode cX12_kindNow 55 = .ok (.ifCond .eq 18, 3) := by decide +kernel
theorem dX12_kindNow_58 : decode cX12_kindNow 58 = .ok (.aload_n 0, 1) := by decide +kernel
theorem dX12_kindNow_59 : decode cX12_kindNow 59 = .ok (.bipush 110, 2) := by decide +kernel
theorem dX12_kindNow_61 : decode cX12_kindNow 61 = .ok (.bipush 101, 2) := by decide +kernel
theorem dX12_kindNow_63 : decode cX12_kindNow 63 = .ok (.bipush 114, 2) := by decide +kernel
theorem dX12_kindNow_65 : decode cX12_kindNow 65 = .ok (.invokevirtual 137, 3) := by decide +kernel
theorem dX12_kindNow_68 : decode cX12_kindNow 68 = .ok (.ifCond .eq 5, 3) := by decide +kernel
theorem dX12_kindNow_71 : decode cX12_kindNow 71 = .ok (.iconst 2, 1) := by decide +kernel
theorem dX12_kindNow_72 : decode cX12_kindNow 72 = .ok (.ireturn, 1) := by decide +kernel
theorem dX12_kindNow_73 : decode cX12_kindNow 73 = .ok (.aload_n 0, 1) := by decide +kernel
theorem dX12_kindNow_74 : decode cX12_kindNow 74 = .ok (.bipush 7, 2) := by decide +kernel
theorem dX12_kindNow_76 : decode cX12_kindNow 76 = .ok (.bipush 115, 2) := by decide +kernel
theorem dX12_kindNow_78 : decode cX12_kindNow 78 = .ok (.bipush 112, 2) := by decide +kernel
theorem dX12_kindNow_80 : decode cX12_kindNow 80 = .ok (.bipush 97, 2) := by decide +kernel
theorem dX12_kindNow_82 : decode cX12_kindNow 82 = .ok (.invokevirtual 133, 3) := by decide +kernel
theorem dX12_kindNow_85 : decode cX12_kindNow 85 = .ok (.ifCond .eq 36, 3) := by decide +kernel
theorem dX12_kindNow_88 : decode cX12_kindNow 88 = .ok (.aload_n 0, 1) := by decide +kernel
theorem dX12_kindNow_89 : decode cX12_kindNow 89 = .ok (.bipush 114, 2) := by decide +kernel
theorem dX12_kindNow_91 : decode cX12_kindNow 91 = .ok (.bipush 114, 2) := by decide +kernel
theorem dX12_kindNow_93 : decode cX12_kindNow 93 = .ok (.bipush 111, 2) := by decide +kernel
theorem dX12_kindNow_95 : decode cX12_kindNow 95 = .ok (.invokevirtual 137, 3) := by decide +kernel
theorem dX12_kindNow_98 : decode cX12_kindNow 98 = .ok (.ifCond .eq 23, 3) := by decide +kernel
theorem dX12_kindNow_101 : decode cX12_kindNow 101 = .ok (.aload_n 0, 1) := by decide +kernel
theorem dX12_kindNow_102 : decode cX12_kindNow 102 = .ok (.aload_n 0, 1) := by decide +kernel
theorem dX12_kindNow_103 : decode cX12_kindNow 103 = .ok (.getfield 120, 3) := by decide +kernel
theorem dX12_kindNow_106 : decode cX12_kindNow 106 = .ok (.bipush 6, 2) := by decide +kernel
theorem dX12_kindNow_108 : decode cX12_kindNow 108 = .ok (.iadd, 1) := by decide +kernel
theorem dX12_kindNow_109 : decode cX12_kindNow 109 = .ok (.invokevirtual 129, 3) := by decide +kernel
theorem dX12_kindNow_112 : decode cX12_kindNow 112 = .ok (.bipush 119, 2) := by decide +kernel
theorem dX12_kindNow_114 : decode cX12_kindNow 114 = .ok (.if_icmp .ne 7, 3) := by decide +kernel
theorem dX12_kindNow_117 : decode cX12_kindNow 117 = .ok (.iconst 3, 1) := by decide +kernel
theorem dX12_kindNow_118 : decode cX12_kindNow 118 = .ok (.goto 5, 3) := by decide +kernel
theorem dX12_kindNow_121 : decode cX12_kindNow 121 = .ok (.bipush (-4), 2) := by decide +kernel
theorem dX12_kindNow_123 : decode cX12_kindNow 123 = .ok (.ireturn, 1) := by decide +kernel
theorem dX12_next_0 : decode cX12_next 0 = .ok (.aload_n 0, 1) := by decide +kernel
theorem dX12_next_1 : decode cX12_next 1 = .ok (.getfield 117, 3) := by decide +kernel
theorem dX12_next_4 : decode cX12_next 4 = .ok (.ifCond .le 4, 3) := by decide +kernel
theorem dX12_next_7 : decode cX12_next 7 = .ok (.return_, 1) := by decide +kernel
theorem dX12_next_8 : decode cX12_next 8 = .ok (.aload_n 0, 1) := by decide +kernel
theorem dX12_next_9 : decode cX12_next 9 = .ok (.aload_n 0, 1) := by decide +kernel
theorem dX12_next_10 : decode cX12_next 10 = .ok (.getfield 126, 3) := by decide +kernel
theorem dX12_next_13 : decode cX12_next 13 = .ok (.invokevirtual 129, 3) := by decide +kernel
theorem dX12_next_16 : decode cX12_next 16 = .ok (.bipush 32, 2) := by decide +kernel
theorem dX12_next_18 : decode cX12_next 18 = .ok (.if_icmp .ne 16, 3) := by decide +kernel
theorem dX12_next_21 : decode cX12_next 21 = .ok (.aload_n 0, 1) := by decide +kernel
theorem dX12_next_22 : decode cX12_next 22 = .ok (.dup, 1) := by decide +kernel
theorem dX12_next_23 : decode cX12_next 23 = .ok (.getfield 126, 3) := by decide +kernel
theorem dX12_next_26 : decode cX12_next 26 = .ok (.iconst 1, 1) := by decide +kernel
theorem dX12_next_27 : decode cX12_next 27 = .ok (.iadd, 1) := by decide +kernel
theorem dX12_next_28 : decode cX12_next 28 = .ok (.putfield 126, 3) := by decide +kernel
theorem dX12_next_31 : decode cX12_next 31 = .ok (.goto (-23), 3) := by decide +kernel
theorem dX12_next_34 : decode cX12_next 34 = .ok (.aload_n 0, 1) := by decide +kernel
theorem dX12_next_35 : decode cX12_next 35 = .ok (.aload_n 0, 1) := by decide +kernel
theorem dX12_next_36 : decode cX12_next 36 = .ok (.getfield 126, 3) := by decide +kernel
theorem dX12_next_39 : decode cX12_next 39 = .ok (.putfield 120, 3) := by decide +kernel
theorem dX12_next_42 : decode cX12_next 42 = .ok (.aload_n 0, 1) := by decide +kernel
theorem dX12_next_43 : decode cX12_next 43 = .ok (.aload_n 0, 1) := by decide +kernel
theorem dX12_next_44 : decode cX12_next 44 = .ok (.getfield 126, 3) := by decide +kernel
theorem dX12_next_47 : decode cX12_next 47 = .ok (.invokevirtual 129, 3) := by decide +kernel
theorem dX12_next_50 : decode cX12_next 50 = .ok (.istore_n 1, 1) := by decide +kernel
theorem dX12_next_51 : decode cX12_next 51 = .ok (.iload_n 1, 1) := by decide +kernel
theorem dX12_next_52 : decode cX12_next 52 = .ok (.ifCond .ge 11, 3) := by decide +kernel
theorem dX12_next_55 : decode cX12_next 55 = .ok (.aload_n 0, 1) := by decide +kernel
theorem dX12_next_56 : decode cX12_next 56 = .ok (.iconst 0, 1) := by decide +kernel
theorem dX12_next_57 : decode cX12_next 57 = .ok (.putfield 141, 3) := by decide +kernel
theorem dX12_next_60 : decode cX12_next 60 = .ok (.goto 214, 3) := by decide +kernel
theorem dX12_next_63 : decode cX12_next 63 = .ok (.iload_n 1, 1) := by decide +kernel
theorem dX12_next_64 : decode cX12_next 64 = .ok (.i2l, 1) := by decide +kernel
theorem dX12_next_65 : decode cX12_next 65 = .ok (.ldc2_w 144, 3) := by decide +kernel
theorem dX12_next_68 : decode cX12_next 68 = .ok (.ldc2_w 146, 3) := by decide +kernel
theorem dX12_next_71 : decode cX12_next 71 = .ok (.invokestatic 113, 3) := by decide +kernel
theorem dX12_next_74 : decode cX12_next 74 = .ok (.ifCond .eq 42, 3) := by decide +kernel
theorem dX12_next_77 : decode cX12_next 77 = .ok (.aload_n 0, 1) := by decide +kernel
theorem dX12_next_78 : decode cX12_next 78 = .ok (.iconst 1, 1) := by decide +kernel
theorem dX12_next_79 : decode cX12_next 79 = .ok (.putfield 141, 3) := by decide +kernel
theorem dX12_next_82 : decode cX12_next 82 = .ok (.aload_n 0, 1) := by decide +kernel
theorem dX12_next_83 : decode cX12_next 83 = .ok (.aload_n 0, 1) := by decide +kernel
theorem dX12_next_84 : decode cX12_next 84 = .ok (.getfield 126, 3) := by decide +kernel
theorem dX12_next_87 : decode cX12_next 87 = .ok (.invokevirtual 129, 3) := by decide +kernel
theorem dX12_next_90 : decode cX12_next 90 = .ok (.i2l, 1) := by decide +kernel
theorem dX12_next_91 : decode cX12_next 91 = .ok (.ldc2_w 144, 3) := by decide +kernel
theorem dX12_next_94 : decode cX12_next 94 = .ok (.ldc2_w 146, 3) := by decide +kernel
theorem dX12_next_97 : decode cX12_next 97 = .ok (.invokestatic 113, 3) := by decide +kernel
theorem dX12_next_100 : decode cX12_next 100 = .ok (.ifCond .eq 174, 3) := by decide +kernel
theorem dX12_next_103 : decode cX12_next 103 = .ok (.aload_n 0, 1) := by decide +kernel
theorem dX12_next_104 : decode cX12_next 104 = .ok (.dup, 1) := by decide +kernel
theorem dX12_next_105 : decode cX12_next 105 = .ok (.getfield 126, 3) := by decide +kernel
theorem dX12_next_108 : decode cX12_next 108 = .ok (.iconst 1, 1) := by decide +kernel
theorem dX12_next_109 : decode cX12_next 109 = .ok (.iadd, 1) := by decide +kernel
theorem dX12_next_110 : decode cX12_next 110 = .ok (.putfield 126, 3) := by decide +kernel
theorem dX12_next_113 : decode cX12_next 113 = .ok (.goto (-31), 3) := by decide +kernel
theorem dX12_next_116 : decode cX12_next 116 = .ok (.iload_n 1, 1) := by decide +kernel
theorem dX12_next_117 : decode cX12_next 117 = .ok (.i2l, 1) := by decide +kernel
theorem dX12_next_118 : decode cX12_next 118 = .ok (.ldc2_w 148, 3) := by decide +kernel
theorem dX12_next_121 : decode cX12_next 121 = .ok (.ldc2_w 150, 3) := by decide +kernel
theorem dX12_next_124 : decode cX12_next 124 = .ok (.invokestatic 113, 3) := by decide +kernel
theorem dX12_next_127 : decode cX12_next 127 = .ok (.ifCond .eq 116, 3) := by decide +kernel
theorem dX12_next_130 : decode cX12_next 130 = .ok (.aload_n 0, 1) := by decide +kernel
theorem dX12_next_131 : decode cX12_next 131 = .ok (.iconst 2, 1) := by decide +kernel
theorem dX12_next_132 : decode cX12_next 132 = .ok (.putfield 141, 3) := by decide +kernel
theorem dX12_next_135 : decode cX12_next 135 = .ok (.aload_n 0, 1) := by decide +kernel
theorem dX12_next_136 : decode cX12_next 136 = .ok (.iconst 0, 1) := by decide +kernel
theorem dX12_next_137 : decode cX12_next 137 = .ok (.putfield 152, 3) := by decide +kernel
theorem dX12_next_140 : decode cX12_next 140 = .ok (.aload_n 0, 1) := by decide +kernel
theorem dX12_next_141 : decode cX12_next 141 = .ok (.aload_n 0, 1) := by decide +kernel
theorem dX12_next_142 : decode cX12_next 142 = .ok (.getfield 126, 3) := by decide +kernel
theorem dX12_next_145 : decode cX12_next 145 = .ok (.invokevirtual 129, 3) := by decide +kernel
theorem dX12_next_148 : decode cX12_next 148 = .ok (.i2l, 1) := by decide +kernel
theorem dX12_next_149 : decode cX12_next 149 = .ok (.ldc2_w 148, 3) := by decide +kernel
theorem dX12_next_152 : decode cX12_next 152 = .ok (.ldc2_w 150, 3) := by decide +kernel
theorem dX12_next_155 : decode cX12_next 155 = .ok (.invokestatic 113, 3) := by decide +kernel
theorem dX12_next_158 : decode cX12_next 158 = .ok (.ifCond .eq 59, 3) := by decide +kernel
theorem dX12_next_161 : decode cX12_next 161 = .ok (.aload_n 0, 1) := by decide +kernel
theorem dX12_next_162 : decode cX12_next 162 = .ok (.aload_n 0, 1) := by decide +kernel
theorem dX12_next_163 : decode cX12_next 163 = .ok (.getfield 126, 3) := by decide +kernel
theorem dX12_next_166 : decode cX12_next 166 = .ok (.aload_n 0, 1) := by decide +kernel
theorem dX12_next_167 : decode cX12_next 167 = .ok (.getfield 120, 3) := by decide +kernel
theorem dX12_next_170 : decode cX12_next 170 = .ok (.isub, 1) := by decide +kernel
theorem dX12_next_171 : decode cX12_next 171 = .ok (.iconst 2, 1) := by decide +kernel
theorem dX12_next_172 : decode cX12_next 172 = .ok (.if_icmp .ge 25, 3) := by decide +kernel
theorem dX12_next_175 : decode cX12_next 175 = .ok (.bipush 10, 2) := by decide +kernel
theorem dX12_next_177 : decode cX12_next 177 = .ok (.aload_n 0, 1) := by decide +kernel
theorem dX12_next_178 : decode cX12_next 178 = .ok (.getfield 152, 3) := by decide +kernel
theorem dX12_next_181 : decode cX12_next 181 = .ok (.imul, 1) := by decide +kernel
theorem dX12_next_182 : decode cX12_next 182 = .ok (.aload_n 0, 1) := by decide +kernel
theorem dX12_next_183 : decode cX12_next 183 = .ok (.aload_n 0, 1) := by decide +kernel
theorem dX12_next_184 : decode cX12_next 184 = .ok (.getfield 126, 3) := by decide +kernel
theorem dX12_next_187 : decode cX12_next 187 = .ok (.invokevirtual 129, 3) := by decide +kernel
theorem dX12_next_190 : decode cX12_next 190 = .ok (.iadd, 1) := by decide +kernel
theorem dX12_next_191 : decode cX12_next 191 = .ok (.bipush 48, 2) := by decide +kernel
theorem dX12_next_193 : decode cX12_next 193 = .ok (.isub, 1) := by decide +kernel
theorem dX12_next_194 : decode cX12_next 194 = .ok (.goto 7, 3) := by decide +kernel
theorem dX12_next_197 : decode cX12_next 197 = .ok (.aload_n 0, 1) := by decide +kernel
theorem dX12_next_198 : decode cX12_next 198 = .ok (.getfield 152, 3) := by decide +kernel
theorem dX12_next_201 : decode cX12_next 201 = .ok (.putfield 152, 3) := by decide +kernel
theorem dX12_next_204 : decode cX12_next 204 = .ok (.aload_n 0, 1) := by decide +kernel
theorem dX12_next_205 : decode cX12_next 205 = .ok (.dup, 1) := by decide +kernel
theorem dX12_next_206 : decode cX12_next 206 = .ok (.getfield 126, 3) := by decide +kernel
theorem dX12_next_209 : decode cX12_next 209 = .ok (.iconst 1, 1) := by decide +kernel
theorem dX12_next_210 : decode cX12_next 210 = .ok (.iadd, 1) := by decide +kernel
theorem dX12_next_211 : decode cX12_next 211 = .ok (.putfield 126, 3) := by decide +kernel
theorem dX12_next_214 : decode cX12_next 214 = .ok (.goto (-74), 3) := by decide +kernel
theorem dX12_next_217 : decode cX12_next 217 = .ok (.aload_n 0, 1) := by decide +kernel
theorem dX12_next_218 : decode cX12_next 218 = .ok (.aload_n 0, 1) := by decide +kernel
theorem dX12_next_219 : decode cX12_next 219 = .ok (.getfield 126, 3) := by decide +kernel
theorem dX12_next_222 : decode cX12_next 222 = .ok (.aload_n 0, 1) := by decide +kernel
theorem dX12_next_223 : decode cX12_next 223 = .ok (.getfield 120, 3) := by decide +kernel
theorem dX12_next_226 : decode cX12_next 226 = .ok (.isub, 1) := by decide +kernel
theorem dX12_next_227 : decode cX12_next 227 = .ok (.iconst 2, 1) := by decide +kernel
theorem dX12_next_228 : decode cX12_next 228 = .ok (.if_icmp .gt 7, 3) := by decide +kernel
theorem dX12_next_231 : decode cX12_next 231 = .ok (.iconst 1, 1) := by decide +kernel
theorem dX12_next_232 : decode cX12_next 232 = .ok (.goto 4, 3) := by decide +kernel
theorem dX12_next_235 : decode cX12_next 235 = .ok (.iconst 0, 1) := by decide +kernel
theorem dX12_next_236 : decode cX12_next 236 = .ok (.iconst 1, 1) := by decide +kernel
theorem dX12_next_237 : decode cX12_next 237 = .ok (.invokevirtual 155, 3) := by decide +kernel
theorem dX12_next_240 : decode cX12_next 240 = .ok (.goto 34, 3) := by decide +kernel
theorem dX12_next_243 : decode cX12_next 243 = .ok (.aload_n 0, 1) := by decide +kernel
theorem dX12_next_244 : decode cX12_next 244 = .ok (.iconst 3, 1) := by decide +kernel
theorem dX12_next_245 : decode cX12_next 245 = .ok (.putfield 141, 3) := by decide +kernel
theorem dX12_next_248 : decode cX12_next 248 = .ok (.aload_n 0, 1) := by decide +kernel
theorem dX12_next_249 : decode cX12_next 249 = .ok (.iload_n 1, 1) := by decide +kernel
theorem dX12_next_250 : decode cX12_next 250 = .ok (.bipush 59, 2) := by decide +kernel
theorem dX12_next_252 : decode cX12_next 252 = .ok (.if_icmp .ne 7, 3) := by decide +kernel
theorem dX12_next_255 : decode cX12_next 255 = .ok (.iconst 1, 1) := by decide +kernel
theorem dX12_next_256 : decode cX12_next 256 = .ok (.goto 4, 3) := by decide +kernel
theorem dX12_next_259 : decode cX12_next 259 = .ok (.iconst 0, 1) := by decide +kernel
theorem dX12_next_260 : decode cX12_next 260 = .ok (.iconst 1, 1) := by decide +kernel
theorem dX12_next_261 : decode cX12_next 261 = .ok (.invokevirtual 155, 3) := by decide +kernel
theorem dX12_next_264 : decode cX12_next 264 = .ok (.aload_n 0, 1) := by decide +kernel
theorem dX12_next_265 : decode cX12_next 265 = .ok (.dup, 1) := by decide +kernel
theorem dX12_next_266 : decode cX12_next 266 = .ok (.getfield 126, 3) := by decide +kernel
theorem dX12_next_269 : decode cX12_next 269 = .ok (.iconst 1, 1) := by decide +kernel
theorem dX12_next_270 : decode cX12_next 270 = .ok (.iadd, 1) := by decide +kernel
theorem dX12_next_271 : decode cX12_next 271 = .ok (.putfield 126, 3) := by decide +kernel
theorem dX12_next_274 : decode cX12_next 274 = .ok (.return_, 1) := by decide +kernel
theorem dX12_looked_0 : decode cX12_looked 0 = .ok (.aload_n 0, 1) := by decide +kernel
theorem dX12_looked_1 : decode cX12_looked 1 = .ok (.getfield 117, 3) := by decide +kernel
theorem dX12_looked_4 : decode cX12_looked 4 = .ok (.ifCond .ne 21, 3) := by decide +kernel
theorem dX12_looked_7 : decode cX12_looked 7 = .ok (.aload_n 0, 1) := by decide +kernel
theorem dX12_looked_8 : decode cX12_looked 8 = .ok (.aload_n 0, 1) := by decide +kernel
theorem dX12_looked_9 : decode cX12_looked 9 = .ok (.getfield 141, 3) := by decide +kernel
theorem dX12_looked_12 : decode cX12_looked 12 = .ok (.iconst 2, 1) := by decide +kernel
theorem dX12_looked_13 : decode cX12_looked 13 = .ok (.if_icmp .ne 7, 3) := by decide +kernel
theorem dX12_looked_16 : decode cX12_looked 16 = .ok (.iconst 1, 1) := by decide +kernel
theorem dX12_looked_17 : decode cX12_looked 17 = .ok (.goto 4, 3) := by decide +kernel
theorem dX12_looked_20 : decode cX12_looked 20 = .ok (.iconst 0, 1) := by decide +kernel
theorem dX12_looked_21 : decode cX12_looked 21 = .ok (.iconst 2, 1) := by decide +kernel
theorem dX12_looked_22 : decode cX12_looked 22 = .ok (.invokevirtual 155, 3) := by decide +kernel
theorem dX12_looked_25 : decode cX12_looked 25 = .ok (.aload_n 0, 1) := by decide +kernel
theorem dX12_looked_26 : decode cX12_looked 26 = .ok (.getfield 117, 3) := by decide +kernel
theorem dX12_looked_29 : decode cX12_looked 29 = .ok (.ifCond .ne 20, 3) := by decide +kernel
theorem dX12_looked_32 : decode cX12_looked 32 = .ok (.aload_n 0, 1) := by decide +kernel
theorem dX12_looked_33 : decode cX12_looked 33 = .ok (.aload_n 0, 1) := by decide +kernel
theorem dX12_looked_34 : decode cX12_looked 34 = .ok (.getfield 152, 3) := by decide +kernel
theorem dX12_looked_37 : decode cX12_looked 37 = .ok (.i2l, 1) := by decide +kernel
theorem dX12_looked_38 : decode cX12_looked 38 = .ok (.iload_n 1, 1) := by decide +kernel
theorem dX12_looked_39 : decode cX12_looked 39 = .ok (.i2l, 1) := by decide +kernel
theorem dX12_looked_40 : decode cX12_looked 40 = .ok (.iload_n 2, 1) := by decide +kernel
theorem dX12_looked_41 : decode cX12_looked 41 = .ok (.i2l, 1) := by decide +kernel
theorem dX12_looked_42 : decode cX12_looked 42 = .ok (.invokestatic 113, 3) := by decide +kernel
theorem dX12_looked_45 : decode cX12_looked 45 = .ok (.iconst 3, 1) := by decide +kernel
theorem dX12_looked_46 : decode cX12_looked 46 = .ok (.invokevirtual 155, 3) := by decide +kernel
theorem dX12_looked_49 : decode cX12_looked 49 = .ok (.aload_n 0, 1) := by decide +kernel
theorem dX12_looked_50 : decode cX12_looked 50 = .ok (.getfield 117, 3) := by decide +kernel
theorem dX12_looked_53 : decode cX12_looked 53 = .ok (.ifCond .ne 10, 3) := by decide +kernel
theorem dX12_looked_56 : decode cX12_looked 56 = .ok (.aload_n 0, 1) := by decide +kernel
theorem dX12_looked_57 : decode cX12_looked 57 = .ok (.getfield 152, 3) := by decide +kernel
theorem dX12_looked_60 : decode cX12_looked 60 = .ok (.goto 4, 3) := by decide +kernel
theorem dX12_looked_63 : decode cX12_looked 63 = .ok (.iconst 0, 1) := by decide +kernel
theorem dX12_looked_64 : decode cX12_looked 64 = .ok (.ireturn, 1) := by decide +kernel
theorem dX12_readNumber_0 : decode cX12_readNumber 0 = .ok (.aload_n 0, 1) := by decide +kernel
theorem dX12_readNumber_1 : decode cX12_readNumber 1 = .ok (.iload_n 1, 1) := by decide +kernel
theorem dX12_readNumber_2 : decode cX12_readNumber 2 = .ok (.iload_n 2, 1) := by decide +kernel
theorem dX12_readNumber_3 : decode cX12_readNumber 3 = .ok (.invokevirtual 159, 3) := by decide +kernel
theorem dX12_readNumber_6 : decode cX12_readNumber 6 = .ok (.istore_n 3, 1) := by decide +kernel
theorem dX12_readNumber_7 : decode cX12_readNumber 7 = .ok (.aload_n 0, 1) := by decide +kernel
theorem dX12_readNumber_8 : decode cX12_readNumber 8 = .ok (.invokevirtual 163, 3) := by decide +kernel
theorem dX12_readNumber_11 : decode cX12_readNumber 11 = .ok (.iload_n 3, 1) := by decide +kernel
theorem dX12_readNumber_12 : decode cX12_readNumber 12 = .ok (.ireturn, 1) := by decide +kernel
theorem dX12_readFree_0 : decode cX12_readFree 0 = .ok (.aload_n 0, 1) := by decide +kernel
theorem dX12_readFree_1 : decode cX12_readFree 1 = .ok (.iconst 0, 1) := by decide +kernel
theorem dX12_readFree_2 : decode cX12_readFree 2 = .ok (.bipush 24, 2) := by decide +kernel
theorem dX12_readFree_4 : decode cX12_readFree 4 = .ok (.invokevirtual 159, 3) := by decide +kernel
theorem dX12_readFree_7 : decode cX12_readFree 7 = .ok (.istore_n 1, 1) := by decide +kernel
theorem dX12_readFree_8 : decode cX12_readFree 8 = .ok (.aload_n 0, 1) := by decide +kernel
theorem dX12_readFree_9 : decode cX12_readFree 9 = .ok (.getfield 117, 3) := by decide +kernel
theorem dX12_readFree_12 : decode cX12_readFree 12 = .ok (.ifCond .ne 67, 3) := by decide +kernel
theorem dX12_readFree_15 : decode cX12_readFree 15 = .ok (.aload_n 0, 1) := by decide +kernel
theorem dX12_readFree_16 : decode cX12_readFree 16 = .ok (.getfield 23, 3) := by decide +kernel
theorem dX12_readFree_19 : decode cX12_readFree 19 = .ok (.bipush 12, 2) := by decide +kernel
theorem dX12_readFree_21 : decode cX12_readFree 21 = .ok (.iaload, 1) := by decide +kernel
theorem dX12_readFree_22 : decode cX12_readFree 22 = .ok (.iload_n 1, 1) := by decide +kernel
theorem dX12_readFree_23 : decode cX12_readFree 23 = .ok (.ishr, 1) := by decide +kernel
theorem dX12_readFree_24 : decode cX12_readFree 24 = .ok (.iconst 1, 1) := by decide +kernel
theorem dX12_readFree_25 : decode cX12_readFree 25 = .ok (.iand, 1) := by decide +kernel
theorem dX12_readFree_26 : decode cX12_readFree 26 = .ok (.ifCond .ne 7, 3) := by decide +kernel
theorem dX12_readFree_29 : decode cX12_readFree 29 = .ok (.iconst 1, 1) := by decide +kernel
theorem dX12_readFree_30 : decode cX12_readFree 30 = .ok (.goto 4, 3) := by decide +kernel
theorem dX12_readFree_33 : decode cX12_readFree 33 = .ok (.iconst 0, 1) := by decide +kernel
theorem dX12_readFree_34 : decode cX12_readFree 34 = .ok (.istore_n 2, 1) := by decide +kernel
theorem dX12_readFree_35 : decode cX12_readFree 35 = .ok (.iconst 0, 1) := by decide +kernel
theorem dX12_readFree_36 : decode cX12_readFree 36 = .ok (.istore_n 3, 1) := by decide +kernel
theorem dX12_readFree_37 : decode cX12_readFree 37 = .ok (.iload_n 3, 1) := by decide +kernel
theorem dX12_readFree_38 : decode cX12_readFree 38 = .ok (.aload_n 0, 1) := by decide +kernel
theorem dX12_readFree_39 : decode cX12_readFree 39 = .ok (.getfield 90, 3) := by decide +kernel
theorem dX12_readFree_42 : decode cX12_readFree 42 = .ok (.if_icmp .ge 31, 3) := by decide +kernel
theorem dX12_readFree_45 : decode cX12_readFree 45 = .ok (.iload_n 2, 1) := by decide +kernel
theorem dX12_readFree_46 : decode cX12_readFree 46 = .ok (.ifCond .eq 19, 3) := by decide +kernel
theorem dX12_readFree_49 : decode cX12_readFree 49 = .ok (.aload_n 0, 1) := by decide +kernel
theorem dX12_readFree_50 : decode cX12_readFree 50 = .ok (.getfield 23, 3) := by decide +kernel
theorem dX12_readFree_53 : decode cX12_readFree 53 = .ok (.iconst 0, 1) := by decide +kernel
theorem dX12_readFree_54 : decode cX12_readFree 54 = .ok (.iload_n 3, 1) := by decide +kernel
theorem dX12_readFree_55 : decode cX12_readFree 55 = .ok (.iadd, 1) := by decide +kernel
theorem dX12_readFree_56 : decode cX12_readFree 56 = .ok (.iaload, 1) := by decide +kernel
theorem dX12_readFree_57 : decode cX12_readFree 57 = .ok (.iload_n 1, 1) := by decide +kernel
theorem dX12_readFree_58 : decode cX12_readFree 58 = .ok (.if_icmp .eq 7, 3) := by decide +kernel
theorem dX12_readFree_61 : decode cX12_readFree 61 = .ok (.iconst 1, 1) := by decide +kernel
theorem dX12_readFree_62 : decode cX12_readFree 62 = .ok (.goto 4, 3) := by decide +kernel
theorem dX12_readFree_65 : decode cX12_readFree 65 = .ok (.iconst 0, 1) := by decide +kernel
theorem dX12_readFree_66 : decode cX12_readFree 66 = .ok (.istore_n 2, 1) := by decide +kernel
theorem dX12_readFree_67 : decode cX12_readFree 67 = .ok (.iinc 3 1, 3) := by decide +kernel
theorem dX12_readFree_70 : decode cX12_readFree 70 = .ok (.goto (-33), 3) := by decide +kernel
theorem dX12_readFree_73 : decode cX12_readFree 73 = .ok (.aload_n 0, 1) := by decide +kernel
theorem dX12_readFree_74 : decode cX12_readFree 74 = .ok (.iload_n 2, 1) := by decide +kernel
theorem dX12_readFree_75 : decode cX12_readFree 75 = .ok (.iconst 4, 1) := by decide +kernel
theorem dX12_readFree_76 : decode cX12_readFree 76 = .ok (.invokevirtual 155, 3) := by decide +kernel
theorem dX12_readFree_79 : decode cX12_readFree 79 = .ok (.aload_n 0, 1) := by decide +kernel
theorem dX12_readFree_80 : decode cX12_readFree 80 = .ok (.getfield 117, 3) := by decide +kernel
theorem dX12_readFree_83 : decode cX12_readFree 83 = .ok (.ifCond .ne 23, 3) := by decide +kernel
theorem dX12_readFree_86 : decode cX12_readFree 86 = .ok (.aload_n 0, 1) := by decide +kernel
theorem dX12_readFree_87 : decode cX12_readFree 87 = .ok (.iload_n 1, 1) := by decide +kernel
theorem dX12_readFree_88 : decode cX12_readFree 88 = .ok (.aload_n 0, 1) := by decide +kernel
theorem dX12_readFree_89 : decode cX12_readFree 89 = .ok (.getfield 96, 3) := by decide +kernel
theorem dX12_readFree_92 : decode cX12_readFree 92 = .ok (.if_icmp .le 7, 3) := by decide +kernel
theorem dX12_readFree_95 : decode cX12_readFree 95 = .ok (.iload_n 1, 1) := by decide +kernel
theorem dX12_readFree_96 : decode cX12_readFree 96 = .ok (.goto 7, 3) := by decide +kernel
theorem dX12_readFree_99 : decode cX12_readFree 99 = .ok (.aload_n 0, 1) := by decide +kernel
theorem dX12_readFree_100 : decode cX12_readFree 100 = .ok (.getfield 96, 3) := by decide +kernel
theorem dX12_readFree_103 : decode cX12_readFree 103 = .ok (.putfield 96, 3) := by decide +kernel
theorem dX12_readFree_106 : decode cX12_readFree 106 = .ok (.aload_n 0, 1) := by decide +kernel
theorem dX12_readFree_107 : decode cX12_readFree 107 = .ok (.invokevirtual 163, 3) := by decide +kernel
theorem dX12_readFree_110 : decode cX12_readFree 110 = .ok (.iload_n 1, 1) := by decide +kernel
theorem dX12_readFree_111 : decode cX12_readFree 111 = .ok (.ireturn, 1) := by decide +kernel
theorem dX12_readOdds_0 : decode cX12_readOdds 0 = .ok (.iconst 0, 1) := by decide +kernel
theorem dX12_readOdds_1 : decode cX12_readOdds 1 = .ok (.istore_n 1, 1) := by decide +kernel
theorem dX12_readOdds_2 : decode cX12_readOdds 2 = .ok (.iconst 0, 1) := by decide +kernel
theorem dX12_readOdds_3 : decode cX12_readOdds 3 = .ok (.istore_n 2, 1) := by decide +kernel
theorem dX12_readOdds_4 : decode cX12_readOdds 4 = .ok (.iload_n 2, 1) := by decide +kernel
theorem dX12_readOdds_5 : decode cX12_readOdds 5 = .ok (.iconst 5, 1) := by decide +kernel
theorem dX12_readOdds_6 : decode cX12_readOdds 6 = .ok (.if_icmp .ge 61, 3) := by decide +kernel
theorem dX12_readOdds_9 : decode cX12_readOdds 9 = .ok (.aload_n 0, 1) := by decide +kernel
theorem dX12_readOdds_10 : decode cX12_readOdds 10 = .ok (.iconst 0, 1) := by decide +kernel
theorem dX12_readOdds_11 : decode cX12_readOdds 11 = .ok (.bipush 9, 2) := by decide +kernel
theorem dX12_readOdds_13 : decode cX12_readOdds 13 = .ok (.invokevirtual 159, 3) := by decide +kernel
theorem dX12_readOdds_16 : decode cX12_readOdds 16 = .ok (.istore_n 3, 1) := by decide +kernel
theorem dX12_readOdds_17 : decode cX12_readOdds 17 = .ok (.iload_n 1, 1) := by decide +kernel
theorem dX12_readOdds_18 : decode cX12_readOdds 18 = .ok (.iload_n 3, 1) := by decide +kernel
theorem dX12_readOdds_19 : decode cX12_readOdds 19 = .ok (.iadd, 1) := by decide +kernel
theorem dX12_readOdds_20 : decode cX12_readOdds 20 = .ok (.istore_n 1, 1) := by decide +kernel
theorem dX12_readOdds_21 : decode cX12_readOdds 21 = .ok (.aload_n 0, 1) := by decide +kernel
theorem dX12_readOdds_22 : decode cX12_readOdds 22 = .ok (.getfield 117, 3) := by decide +kernel
theorem dX12_readOdds_25 : decode cX12_readOdds 25 = .ok (.ifCond .ne 22, 3) := by decide +kernel
theorem dX12_readOdds_28 : decode cX12_readOdds 28 = .ok (.aload_n 0, 1) := by decide +kernel
theorem dX12_readOdds_29 : decode cX12_readOdds 29 = .ok (.iload_n 2, 1) := by decide +kernel
theorem dX12_readOdds_30 : decode cX12_readOdds 30 = .ok (.iconst 4, 1) := by decide +kernel
theorem dX12_readOdds_31 : decode cX12_readOdds 31 = .ok (.if_icmp .lt 7, 3) := by decide +kernel
theorem dX12_readOdds_34 : decode cX12_readOdds 34 = .ok (.iload_n 1, 1) := by decide +kernel
theorem dX12_readOdds_35 : decode cX12_readOdds 35 = .ok (.ifCond .le 7, 3) := by decide +kernel
theorem dX12_readOdds_38 : decode cX12_readOdds 38 = .ok (.iconst 1, 1) := by decide +kernel
theorem dX12_readOdds_39 : decode cX12_readOdds 39 = .ok (.goto 4, 3) := by decide +kernel
theorem dX12_readOdds_42 : decode cX12_readOdds 42 = .ok (.iconst 0, 1) := by decide +kernel
theorem dX12_readOdds_43 : decode cX12_readOdds 43 = .ok (.iconst 3, 1) := by decide +kernel
theorem dX12_readOdds_44 : decode cX12_readOdds 44 = .ok (.invokevirtual 155, 3) := by decide +kernel
theorem dX12_readOdds_47 : decode cX12_readOdds 47 = .ok (.aload_n 0, 1) := by decide +kernel
theorem dX12_readOdds_48 : decode cX12_readOdds 48 = .ok (.getfield 23, 3) := by decide +kernel
theorem dX12_readOdds_51 : decode cX12_readOdds 51 = .ok (.bipush 13, 2) := by decide +kernel
theorem dX12_readOdds_53 : decode cX12_readOdds 53 = .ok (.iload_n 2, 1) := by decide +kernel
theorem dX12_readOdds_54 : decode cX12_readOdds 54 = .ok (.iadd, 1) := by decide +kernel
theorem dX12_readOdds_55 : decode cX12_readOdds 55 = .ok (.iload_n 3, 1) := by decide +kernel
theorem dX12_readOdds_56 : decode cX12_readOdds 56 = .ok (.iastore, 1) := by decide +kernel
theorem dX12_readOdds_57 : decode cX12_readOdds 57 = .ok (.aload_n 0, 1) := by decide +kernel
theorem dX12_readOdds_58 : decode cX12_readOdds 58 = .ok (.invokevirtual 163, 3) := by decide +kernel
theorem dX12_readOdds_61 : decode cX12_readOdds 61 = .ok (.iinc 2 1, 3) := by decide +kernel
theorem dX12_readOdds_64 : decode cX12_readOdds 64 = .ok (.goto (-60), 3) := by decide +kernel
theorem dX12_readOdds_67 : decode cX12_readOdds 67 = .ok (.return_, 1) := by decide +kernel
theorem dX12_readPiece_0 : decode cX12_readPiece 0 = .ok (.aload_n 0, 1) := by decide +kernel
theorem dX12_readPiece_1 : decode cX12_readPiece 1 = .ok (.getfield 117, 3) := by decide +kernel
theorem dX12_readPiece_4 : decode cX12_readPiece 4 = .ok (.ifCond .ne 18, 3) := by decide +kernel
theorem dX12_readPiece_7 : decode cX12_readPiece 7 = .ok (.aload_n 0, 1) := by decide +kernel
theorem dX12_readPiece_8 : decode cX12_readPiece 8 = .ok (.getfield 141, 3) := by decide +kernel
theorem dX12_readPiece_11 : decode cX12_readPiece 11 = .ok (.iconst 1, 1) := by decide +kernel
theorem dX12_readPiece_12 : decode cX12_readPiece 12 = .ok (.if_icmp .ne 10, 3) := by decide +kernel
theorem dX12_readPiece_15 : decode cX12_readPiece 15 = .ok (.aload_n 0, 1) := by decide +kernel
theorem dX12_readPiece_16 : decode cX12_readPiece 16 = .ok (.invokevirtual 166, 3) := by decide +kernel
theorem dX12_readPiece_19 : decode cX12_readPiece 19 = .ok (.goto 5, 3) := by decide +kernel
theorem dX12_readPiece_22 : decode cX12_readPiece 22 = .ok (.bipush (-4), 2) := by decide +kernel
theorem dX12_readPiece_24 : decode cX12_readPiece 24 = .ok (.istore_n 1, 1) := by decide +kernel
theorem dX12_readPiece_25 : decode cX12_readPiece 25 = .ok (.aload_n 0, 1) := by decide +kernel
theorem dX12_readPiece_26 : decode cX12_readPiece 26 = .ok (.iload_n 1, 1) := by decide +kernel
theorem dX12_readPiece_27 : decode cX12_readPiece 27 = .ok (.bipush (-4), 2) := by decide +kernel
theorem dX12_readPiece_29 : decode cX12_readPiece 29 = .ok (.if_icmp .eq 7, 3) := by decide +kernel
theorem dX12_readPiece_32 : decode cX12_readPiece 32 = .ok (.iconst 1, 1) := by decide +kernel
theorem dX12_readPiece_33 : decode cX12_readPiece 33 = .ok (.goto 4, 3) := by decide +kernel
theorem dX12_readPiece_36 : decode cX12_readPiece 36 = .ok (.iconst 0, 1) := by decide +kernel
theorem dX12_readPiece_37 : decode cX12_readPiece 37 = .ok (.iconst 2, 1) := by decide +kernel
theorem dX12_readPiece_38 : decode cX12_readPiece 38 = .ok (.invokevirtual 155, 3) := by decide +kernel
theorem dX12_readPiece_41 : decode cX12_readPiece 41 = .ok (.aload_n 0, 1) := by decide +kernel
theorem dX12_readPiece_42 : decode cX12_readPiece 42 = .ok (.invokevirtual 163, 3) := by decide +kernel
theorem dX12_readPiece_45 : decode cX12_readPiece 45 = .ok (.aload_n 0, 1) := by decide +kernel
theorem dX12_readPiece_46 : decode cX12_readPiece 46 = .ok (.iconst 0, 1) := by decide +kernel
theorem dX12_readPiece_47 : decode cX12_readPiece 47 = .ok (.iconst 1, 1) := by decide +kernel
theorem dX12_readPiece_48 : decode cX12_readPiece 48 = .ok (.invokevirtual 170, 3) := by decide +kernel
theorem dX12_readPiece_51 : decode cX12_readPiece 51 = .ok (.istore_n 2, 1) := by decide +kernel
theorem dX12_readPiece_52 : decode cX12_readPiece 52 = .ok (.aload_n 0, 1) := by decide +kernel
theorem dX12_readPiece_53 : decode cX12_readPiece 53 = .ok (.invokevirtual 173, 3) := by decide +kernel
theorem dX12_readPiece_56 : decode cX12_readPiece 56 = .ok (.istore_n 3, 1) := by decide +kernel
theorem dX12_readPiece_57 : decode cX12_readPiece 57 = .ok (.aload_n 0, 1) := by decide +kernel
theorem dX12_readPiece_58 : decode cX12_readPiece 58 = .ok (.iconst 0, 1) := by decide +kernel
theorem dX12_readPiece_59 : decode cX12_readPiece 59 = .ok (.bipush 9, 2) := by decide +kernel
theorem dX12_readPiece_61 : decode cX12_readPiece 61 = .ok (.invokevirtual 170, 3) := by decide +kernel
theorem dX12_readPiece_64 : decode cX12_readPiece 64 = .ok (.istore 4, 2) := by decide +kernel
theorem dX12_readPiece_66 : decode cX12_readPiece 66 = .ok (.aload_n 0, 1) := by decide +kernel
theorem dX12_readPiece_67 : decode cX12_readPiece 67 = .ok (.getfield 117, 3) := by decide +kernel
theorem dX12_readPiece_70 : decode cX12_readPiece 70 = .ok (.ifCond .ne 59, 3) := by decide +kernel
theorem dX12_readPiece_73 : decode cX12_readPiece 73 = .ok (.aload_n 0, 1) := by decide +kernel
theorem dX12_readPiece_74 : decode cX12_readPiece 74 = .ok (.getfield 29, 3) := by decide +kernel
theorem dX12_readPiece_77 : decode cX12_readPiece 77 = .ok (.aload_n 0, 1) := by decide +kernel
theorem dX12_readPiece_78 : decode cX12_readPiece 78 = .ok (.getfield 90, 3) := by decide +kernel
theorem dX12_readPiece_81 : decode cX12_readPiece 81 = .ok (.iload_n 1, 1) := by decide +kernel
theorem dX12_readPiece_82 : decode cX12_readPiece 82 = .ok (.iastore, 1) := by decide +kernel
theorem dX12_readPiece_83 : decode cX12_readPiece 83 = .ok (.aload_n 0, 1) := by decide +kernel
theorem dX12_readPiece_84 : decode cX12_readPiece 84 = .ok (.getfield 26, 3) := by decide +kernel
theorem dX12_readPiece_87 : decode cX12_readPiece 87 = .ok (.aload_n 0, 1) := by decide +kernel
theorem dX12_readPiece_88 : decode cX12_readPiece 88 = .ok (.getfield 90, 3) := by decide +kernel
theorem dX12_readPiece_91 : decode cX12_readPiece 91 = .ok (.iload_n 2, 1) := by decide +kernel
theorem dX12_readPiece_92 : decode cX12_readPiece 92 = .ok (.iastore, 1) := by decide +kernel
theorem dX12_readPiece_93 : decode cX12_readPiece 93 = .ok (.aload_n 0, 1) := by decide +kernel
theorem dX12_readPiece_94 : decode cX12_readPiece 94 = .ok (.getfield 23, 3) := by decide +kernel
theorem dX12_readPiece_97 : decode cX12_readPiece 97 = .ok (.iconst 0, 1) := by decide +kernel
theorem dX12_readPiece_98 : decode cX12_readPiece 98 = .ok (.aload_n 0, 1) := by decide +kernel
theorem dX12_readPiece_99 : decode cX12_readPiece 99 = .ok (.getfield 90, 3) := by decide +kernel
theorem dX12_readPiece_102 : decode cX12_readPiece 102 = .ok (.iadd, 1) := by decide +kernel
theorem dX12_readPiece_103 : decode cX12_readPiece 103 = .ok (.iload_n 3, 1) := by decide +kernel
theorem dX12_readPiece_104 : decode cX12_readPiece 104 = .ok (.iastore, 1) := by decide +kernel
theorem dX12_readPiece_105 : decode cX12_readPiece 105 = .ok (.aload_n 0, 1) := by decide +kernel
theorem dX12_readPiece_106 : decode cX12_readPiece 106 = .ok (.getfield 23, 3) := by decide +kernel
theorem dX12_readPiece_109 : decode cX12_readPiece 109 = .ok (.bipush 6, 2) := by decide +kernel
theorem dX12_readPiece_111 : decode cX12_readPiece 111 = .ok (.aload_n 0, 1) := by decide +kernel
theorem dX12_readPiece_112 : decode cX12_readPiece 112 = .ok (.getfield 90, 3) := by decide +kernel
theorem dX12_readPiece_115 : decode cX12_readPiece 115 = .ok (.iadd, 1) := by decide +kernel
theorem dX12_readPiece_116 : decode cX12_readPiece 116 = .ok (.iload 4, 2) := by decide +kernel
theorem dX12_readPiece_118 : decode cX12_readPiece 118 = .ok (.iastore, 1) := by decide +kernel
theorem dX12_readPiece_119 : decode cX12_readPiece 119 = .ok (.aload_n 0, 1) := by decide +kernel
theorem dX12_readPiece_120 : decode cX12_readPiece 120 = .ok (.dup, 1) := by decide +kernel
theorem dX12_readPiece_121 : decode cX12_readPiece 121 = .ok (.getfield 90, 3) := by decide +kernel
theorem dX12_readPiece_124 : decode cX12_readPiece 124 = .ok (.iconst 1, 1) := by decide +kernel
theorem dX12_readPiece_125 : decode cX12_readPiece 125 = .ok (.iadd, 1) := by decide +kernel
theorem dX12_readPiece_126 : decode cX12_readPiece 126 = .ok (.putfield 90, 3) := by decide +kernel
theorem dX12_readPiece_129 : decode cX12_readPiece 129 = .ok (.return_, 1) := by decide +kernel
theorem dX12_readLineOf_0 : decode cX12_readLineOf 0 = .ok (.iload_n 1, 1) := by decide +kernel
theorem dX12_readLineOf_1 : decode cX12_readLineOf 1 = .ok (.tableswitch 109 0 3 #[31, 54, 61, 77], 31) := by decide +kernel
theorem dX12_readLineOf_32 : decode cX12_readLineOf 32 = .ok (.aload_n 0, 1) := by decide +kernel
theorem dX12_readLineOf_33 : decode cX12_readLineOf 33 = .ok (.aload_n 0, 1) := by decide +kernel
theorem dX12_readLineOf_34 : decode cX12_readLineOf 34 = .ok (.iconst 2, 1) := by decide +kernel
theorem dX12_readLineOf_35 : decode cX12_readLineOf 35 = .ok (.iconst 5, 1) := by decide +kernel
theorem dX12_readLineOf_36 : decode cX12_readLineOf 36 = .ok (.invokevirtual 170, 3) := by decide +kernel
theorem dX12_readLineOf_39 : decode cX12_readLineOf 39 = .ok (.putfield 83, 3) := by decide +kernel
theorem dX12_readLineOf_42 : decode cX12_readLineOf 42 = .ok (.aload_n 0, 1) := by decide +kernel
theorem dX12_readLineOf_43 : decode cX12_readLineOf 43 = .ok (.aload_n 0, 1) := by decide +kernel
theorem dX12_readLineOf_44 : decode cX12_readLineOf 44 = .ok (.iconst 2, 1) := by decide +kernel
theorem dX12_readLineOf_45 : decode cX12_readLineOf 45 = .ok (.iconst 5, 1) := by decide +kernel
theorem dX12_readLineOf_46 : decode cX12_readLineOf 46 = .ok (.invokevirtual 170, 3) := by decide +kernel
theorem dX12_readLineOf_49 : decode cX12_readLineOf 49 = .ok (.putfield 87, 3) := by decide +kernel
theorem dX12_readLineOf_52 : decode cX12_readLineOf 52 = .ok (.goto 62, 3) := by decide +kernel
theorem dX12_readLineOf_55 : decode cX12_readLineOf 55 = .ok (.aload_n 0, 1) := by decide +kernel
theorem dX12_readLineOf_56 : decode cX12_readLineOf 56 = .ok (.invokevirtual 176, 3) := by decide +kernel
theorem dX12_readLineOf_59 : decode cX12_readLineOf 59 = .ok (.goto 55, 3) := by decide +kernel
theorem dX12_readLineOf_62 : decode cX12_readLineOf 62 = .ok (.aload_n 0, 1) := by decide +kernel
theorem dX12_readLineOf_63 : decode cX12_readLineOf 63 = .ok (.getfield 23, 3) := by decide +kernel
theorem dX12_readLineOf_66 : decode cX12_readLineOf 66 = .ok (.bipush 18, 2) := by decide +kernel
theorem dX12_readLineOf_68 : decode cX12_readLineOf 68 = .ok (.aload_n 0, 1) := by decide +kernel
theorem dX12_readLineOf_69 : decode cX12_readLineOf 69 = .ok (.iconst 0, 1) := by decide +kernel
theorem dX12_readLineOf_70 : decode cX12_readLineOf 70 = .ok (.iconst 1, 1) := by decide +kernel
theorem dX12_readLineOf_71 : decode cX12_readLineOf 71 = .ok (.invokevirtual 170, 3) := by decide +kernel
theorem dX12_readLineOf_74 : decode cX12_readLineOf 74 = .ok (.iastore, 1) := by decide +kernel
theorem dX12_readLineOf_75 : decode cX12_readLineOf 75 = .ok (.goto 39, 3) := by decide +kernel
theorem dX12_readLineOf_78 : decode cX12_readLineOf 78 = .ok (.aload_n 0, 1) := by decide +kernel
theorem dX12_readLineOf_79 : decode cX12_readLineOf 79 = .ok (.invokevirtual 173, 3) := by decide +kernel
theorem dX12_readLineOf_82 : decode cX12_readLineOf 82 = .ok (.istore_n 2, 1) := by decide +kernel
theorem dX12_readLineOf_83 : decode cX12_readLineOf 83 = .ok (.aload_n 0, 1) := by decide +kernel
theorem dX12_readLineOf_84 : decode cX12_readLineOf 84 = .ok (.getfield 23, 3) := by decide +kernel
theorem dX12_readLineOf_87 : decode cX12_readLineOf 87 = .ok (.bipush 12, 2) := by decide +kernel
theorem dX12_readLineOf_89 : decode cX12_readLineOf 89 = .ok (.dup2, 1) := by decide +kernel
theorem dX12_readLineOf_90 : decode cX12_readLineOf 90 = .ok (.iaload, 1) := by decide +kernel
theorem dX12_readLineOf_91 : decode cX12_readLineOf 91 = .ok (.aload_n 0, 1) := by decide +kernel
theorem dX12_readLineOf_92 : decode cX12_readLineOf 92 = .ok (.getfield 117, 3) := by decide +kernel
theorem dX12_readLineOf_95 : decode cX12_readLineOf 95 = .ok (.ifCond .ne 9, 3) := by decide +kernel
theorem dX12_readLineOf_98 : decode cX12_readLineOf 98 = .ok (.iconst 1, 1) := by decide +kernel
theorem dX12_readLineOf_99 : decode cX12_readLineOf 99 = .ok (.iload_n 2, 1) := by decide +kernel
theorem dX12_readLineOf_100 : decode cX12_readLineOf 100 = .ok (.ishl, 1) := by decide +kernel
theorem dX12_readLineOf_101 : decode cX12_readLineOf 101 = .ok (.goto 4, 3) := by decide +kernel
theorem dX12_readLineOf_104 : decode cX12_readLineOf 104 = .ok (.iconst 0, 1) := by decide +kernel
theorem dX12_readLineOf_105 : decode cX12_readLineOf 105 = .ok (.ior, 1) := by decide +kernel
theorem dX12_readLineOf_106 : decode cX12_readLineOf 106 = .ok (.iastore, 1) := by decide +kernel
theorem dX12_readLineOf_107 : decode cX12_readLineOf 107 = .ok (.goto 7, 3) := by decide +kernel
theorem dX12_readLineOf_110 : decode cX12_readLineOf 110 = .ok (.aload_n 0, 1) := by decide +kernel
theorem dX12_readLineOf_111 : decode cX12_readLineOf 111 = .ok (.invokevirtual 179, 3) := by decide +kernel
theorem dX12_readLineOf_114 : decode cX12_readLineOf 114 = .ok (.return_, 1) := by decide +kernel
theorem dX12_readLine_0 : decode cX12_readLine 0 = .ok (.aload_n 0, 1) := by decide +kernel
theorem dX12_readLine_1 : decode cX12_readLine 1 = .ok (.getfield 141, 3) := by decide +kernel
theorem dX12_readLine_4 : decode cX12_readLine 4 = .ok (.iconst 1, 1) := by decide +kernel
theorem dX12_readLine_5 : decode cX12_readLine 5 = .ok (.if_icmp .ne 10, 3) := by decide +kernel
theorem dX12_readLine_8 : decode cX12_readLine 8 = .ok (.aload_n 0, 1) := by decide +kernel
theorem dX12_readLine_9 : decode cX12_readLine 9 = .ok (.invokevirtual 182, 3) := by decide +kernel
theorem dX12_readLine_12 : decode cX12_readLine 12 = .ok (.goto 5, 3) := by decide +kernel
theorem dX12_readLine_15 : decode cX12_readLine 15 = .ok (.bipush (-4), 2) := by decide +kernel
theorem dX12_readLine_17 : decode cX12_readLine 17 = .ok (.istore_n 1, 1) := by decide +kernel
theorem dX12_readLine_18 : decode cX12_readLine 18 = .ok (.aload_n 0, 1) := by decide +kernel
theorem dX12_readLine_19 : decode cX12_readLine 19 = .ok (.iload_n 1, 1) := by decide +kernel
theorem dX12_readLine_20 : decode cX12_readLine 20 = .ok (.bipush (-4), 2) := by decide +kernel
theorem dX12_readLine_22 : decode cX12_readLine 22 = .ok (.if_icmp .eq 7, 3) := by decide +kernel
theorem dX12_readLine_25 : decode cX12_readLine 25 = .ok (.iconst 1, 1) := by decide +kernel
theorem dX12_readLine_26 : decode cX12_readLine 26 = .ok (.goto 4, 3) := by decide +kernel
theorem dX12_readLine_29 : decode cX12_readLine 29 = .ok (.iconst 0, 1) := by decide +kernel
theorem dX12_readLine_30 : decode cX12_readLine 30 = .ok (.iconst 2, 1) := by decide +kernel
theorem dX12_readLine_31 : decode cX12_readLine 31 = .ok (.invokevirtual 155, 3) := by decide +kernel
theorem dX12_readLine_34 : decode cX12_readLine 34 = .ok (.aload_n 0, 1) := by decide +kernel
theorem dX12_readLine_35 : decode cX12_readLine 35 = .ok (.iload_n 1, 1) := by decide +kernel
theorem dX12_readLine_36 : decode cX12_readLine 36 = .ok (.iconst 4, 1) := by decide +kernel
theorem dX12_readLine_37 : decode cX12_readLine 37 = .ok (.if_icmp .ne 12, 3) := by decide +kernel
theorem dX12_readLine_40 : decode cX12_readLine 40 = .ok (.aload_n 0, 1) := by decide +kernel
theorem dX12_readLine_41 : decode cX12_readLine 41 = .ok (.getfield 90, 3) := by decide +kernel
theorem dX12_readLine_44 : decode cX12_readLine 44 = .ok (.bipush 6, 2) := by decide +kernel
theorem dX12_readLine_46 : decode cX12_readLine 46 = .ok (.if_icmp .ge 7, 3) := by decide +kernel
theorem dX12_readLine_49 : decode cX12_readLine 49 = .ok (.iconst 1, 1) := by decide +kernel
theorem dX12_readLine_50 : decode cX12_readLine 50 = .ok (.goto 4, 3) := by decide +kernel
theorem dX12_readLine_53 : decode cX12_readLine 53 = .ok (.iconst 0, 1) := by decide +kernel
theorem dX12_readLine_54 : decode cX12_readLine 54 = .ok (.iconst 5, 1) := by decide +kernel
theorem dX12_readLine_55 : decode cX12_readLine 55 = .ok (.invokevirtual 155, 3) := by decide +kernel
theorem dX12_readLine_58 : decode cX12_readLine 58 = .ok (.aload_n 0, 1) := by decide +kernel
theorem dX12_readLine_59 : decode cX12_readLine 59 = .ok (.getfield 117, 3) := by decide +kernel
theorem dX12_readLine_62 : decode cX12_readLine 62 = .ok (.ifCond .ne 41, 3) := by decide +kernel
theorem dX12_readLine_65 : decode cX12_readLine 65 = .ok (.iload_n 1, 1) := by decide +kernel
theorem dX12_readLine_66 : decode cX12_readLine 66 = .ok (.iconst 2, 1) := by decide +kernel
theorem dX12_readLine_67 : decode cX12_readLine 67 = .ok (.if_icmp .gt 36, 3) := by decide +kernel
theorem dX12_readLine_70 : decode cX12_readLine 70 = .ok (.aload_n 0, 1) := by decide +kernel
theorem dX12_readLine_71 : decode cX12_readLine 71 = .ok (.aload_n 0, 1) := by decide +kernel
theorem dX12_readLine_72 : decode cX12_readLine 72 = .ok (.getfield 93, 3) := by decide +kernel
theorem dX12_readLine_75 : decode cX12_readLine 75 = .ok (.iload_n 1, 1) := by decide +kernel
theorem dX12_readLine_76 : decode cX12_readLine 76 = .ok (.ishr, 1) := by decide +kernel
theorem dX12_readLine_77 : decode cX12_readLine 77 = .ok (.iconst 1, 1) := by decide +kernel
theorem dX12_readLine_78 : decode cX12_readLine 78 = .ok (.iand, 1) := by decide +kernel
theorem dX12_readLine_79 : decode cX12_readLine 79 = .ok (.ifCond .ne 7, 3) := by decide +kernel
theorem dX12_readLine_82 : decode cX12_readLine 82 = .ok (.iconst 1, 1) := by decide +kernel
theorem dX12_readLine_83 : decode cX12_readLine 83 = .ok (.goto 4, 3) := by decide +kernel
theorem dX12_readLine_86 : decode cX12_readLine 86 = .ok (.iconst 0, 1) := by decide +kernel
theorem dX12_readLine_87 : decode cX12_readLine 87 = .ok (.iconst 4, 1) := by decide +kernel
theorem dX12_readLine_88 : decode cX12_readLine 88 = .ok (.invokevirtual 155, 3) := by decide +kernel
theorem dX12_readLine_91 : decode cX12_readLine 91 = .ok (.aload_n 0, 1) := by decide +kernel
theorem dX12_readLine_92 : decode cX12_readLine 92 = .ok (.dup, 1) := by decide +kernel
theorem dX12_readLine_93 : decode cX12_readLine 93 = .ok (.getfield 93, 3) := by decide +kernel
theorem dX12_readLine_96 : decode cX12_readLine 96 = .ok (.iconst 1, 1) := by decide +kernel
theorem dX12_readLine_97 : decode cX12_readLine 97 = .ok (.iload_n 1, 1) := by decide +kernel
theorem dX12_readLine_98 : decode cX12_readLine 98 = .ok (.ishl, 1) := by decide +kernel
theorem dX12_readLine_99 : decode cX12_readLine 99 = .ok (.ior, 1) := by decide +kernel
theorem dX12_readLine_100 : decode cX12_readLine 100 = .ok (.putfield 93, 3) := by decide +kernel
theorem dX12_readLine_103 : decode cX12_readLine 103 = .ok (.aload_n 0, 1) := by decide +kernel
theorem dX12_readLine_104 : decode cX12_readLine 104 = .ok (.invokevirtual 163, 3) := by decide +kernel
theorem dX12_readLine_107 : decode cX12_readLine 107 = .ok (.aload_n 0, 1) := by decide +kernel
theorem dX12_readLine_108 : decode cX12_readLine 108 = .ok (.getfield 117, 3) := by decide +kernel
theorem dX12_readLine_111 : decode cX12_readLine 111 = .ok (.ifCond .le 4, 3) := by decide +kernel
theorem dX12_readLine_114 : decode cX12_readLine 114 = .ok (.return_, 1) := by decide +kernel
theorem dX12_readLine_115 : decode cX12_readLine 115 = .ok (.aload_n 0, 1) := by decide +kernel
theorem dX12_readLine_116 : decode cX12_readLine 116 = .ok (.iload_n 1, 1) := by decide +kernel
theorem dX12_readLine_117 : decode cX12_readLine 117 = .ok (.invokevirtual 185, 3) := by decide +kernel
theorem dX12_readLine_120 : decode cX12_readLine 120 = .ok (.aload_n 0, 1) := by decide +kernel
theorem dX12_readLine_121 : decode cX12_readLine 121 = .ok (.getfield 117, 3) := by decide +kernel
theorem dX12_readLine_124 : decode cX12_readLine 124 = .ok (.ifCond .ne 21, 3) := by decide +kernel
theorem dX12_readLine_127 : decode cX12_readLine 127 = .ok (.aload_n 0, 1) := by decide +kernel
theorem dX12_readLine_128 : decode cX12_readLine 128 = .ok (.aload_n 0, 1) := by decide +kernel
theorem dX12_readLine_129 : decode cX12_readLine 129 = .ok (.getfield 141, 3) := by decide +kernel
theorem dX12_readLine_132 : decode cX12_readLine 132 = .ok (.iconst 3, 1) := by decide +kernel
theorem dX12_readLine_133 : decode cX12_readLine 133 = .ok (.if_icmp .ne 7, 3) := by decide +kernel
theorem dX12_readLine_136 : decode cX12_readLine 136 = .ok (.iconst 1, 1) := by decide +kernel
theorem dX12_readLine_137 : decode cX12_readLine 137 = .ok (.goto 4, 3) := by decide +kernel
theorem dX12_readLine_140 : decode cX12_readLine 140 = .ok (.iconst 0, 1) := by decide +kernel
theorem dX12_readLine_141 : decode cX12_readLine 141 = .ok (.iconst 2, 1) := by decide +kernel
theorem dX12_readLine_142 : decode cX12_readLine 142 = .ok (.invokevirtual 155, 3) := by decide +kernel
theorem dX12_readLine_145 : decode cX12_readLine 145 = .ok (.aload_n 0, 1) := by decide +kernel
theorem dX12_readLine_146 : decode cX12_readLine 146 = .ok (.invokevirtual 163, 3) := by decide +kernel
theorem dX12_readLine_149 : decode cX12_readLine 149 = .ok (.return_, 1) := by decide +kernel
theorem dX12_kingsOf_0 : decode cX12_kingsOf 0 = .ok (.iconst 0, 1) := by decide +kernel
theorem dX12_kingsOf_1 : decode cX12_kingsOf 1 = .ok (.istore_n 2, 1) := by decide +kernel
theorem dX12_kingsOf_2 : decode cX12_kingsOf 2 = .ok (.iconst 0, 1) := by decide +kernel
theorem dX12_kingsOf_3 : decode cX12_kingsOf 3 = .ok (.istore_n 3, 1) := by decide +kernel
theorem dX12_kingsOf_4 : decode cX12_kingsOf 4 = .ok (.iload_n 3, 1) := by decide +kernel
theorem dX12_kingsOf_5 : decode cX12_kingsOf 5 = .ok (.aload_n 0, 1) := by decide +kernel
theorem dX12_kingsOf_6 : decode cX12_kingsOf 6 = .ok (.getfield 90, 3) := by decide +kernel
theorem dX12_kingsOf_9 : decode cX12_kingsOf 9 = .ok (.if_icmp .ge 39, 3) := by decide +kernel
theorem dX12_kingsOf_12 : decode cX12_kingsOf 12 = .ok (.iload_n 2, 1) := by decide +kernel
theorem dX12_kingsOf_13 : decode cX12_kingsOf 13 = .ok (.aload_n 0, 1) := by decide +kernel
theorem dX12_kingsOf_14 : decode cX12_kingsOf 14 = .ok (.getfield 29, 3) := by decide +kernel
theorem dX12_kingsOf_17 : decode cX12_kingsOf 17 = .ok (.iload_n 3, 1) := by decide +kernel
theorem dX12_kingsOf_18 : decode cX12_kingsOf 18 = .ok (.iaload, 1) := by decide +kernel
theorem dX12_kingsOf_19 : decode cX12_kingsOf 19 = .ok (.ifCond .ne 17, 3) := by decide +kernel
theorem dX12_kingsOf_22 : decode cX12_kingsOf 22 = .ok (.aload_n 0, 1) := by decide +kernel
theorem dX12_kingsOf_23 : decode cX12_kingsOf 23 = .ok (.getfield 26, 3) := by decide +kernel
theorem dX12_kingsOf_26 : decode cX12_kingsOf 26 = .ok (.iload_n 3, 1) := by decide +kernel
theorem dX12_kingsOf_27 : decode cX12_kingsOf 27 = .ok (.iaload, 1) := by decide +kernel
theorem dX12_kingsOf_28 : decode cX12_kingsOf 28 = .ok (.iload_n 1, 1) := by decide +kernel
theorem dX12_kingsOf_29 : decode cX12_kingsOf 29 = .ok (.if_icmp .ne 7, 3) := by decide +kernel
theorem dX12_kingsOf_32 : decode cX12_kingsOf 32 = .ok (.iconst 1, 1) := by decide +kernel
theorem dX12_kingsOf_33 : decode cX12_kingsOf 33 = .ok (.goto 4, 3) := by decide +kernel
theorem dX12_kingsOf_36 : decode cX12_kingsOf 36 = .ok (.iconst 0, 1) := by decide +kernel
theorem dX12_kingsOf_37 : decode cX12_kingsOf 37 = .ok (.invokestatic 189, 3) := by decide +kernel
theorem dX12_kingsOf_40 : decode cX12_kingsOf 40 = .ok (.iadd, 1) := by decide +kernel
theorem dX12_kingsOf_41 : decode cX12_kingsOf 41 = .ok (.istore_n 2, 1) := by decide +kernel
theorem dX12_kingsOf_42 : decode cX12_kingsOf 42 = .ok (.iinc 3 1, 3) := by decide +kernel
theorem dX12_kingsOf_45 : decode cX12_kingsOf 45 = .ok (.goto (-41), 3) := by decide +kernel
theorem dX12_kingsOf_48 : decode cX12_kingsOf 48 = .ok (.iload_n 2, 1) := by decide +kernel
theorem dX12_kingsOf_49 : decode cX12_kingsOf 49 = .ok (.ireturn, 1) := by decide +kernel
theorem dX12_looksAtAll_0 : decode cX12_looksAtAll 0 = .ok (.aload_n 0, 1) := by decide +kernel
theorem dX12_looksAtAll_1 : decode cX12_looksAtAll 1 = .ok (.aload_n 0, 1) := by decide +kernel
theorem dX12_looksAtAll_2 : decode cX12_looksAtAll 2 = .ok (.getfield 96, 3) := by decide +kernel
theorem dX12_looksAtAll_5 : decode cX12_looksAtAll 5 = .ok (.aload_n 0, 1) := by decide +kernel
theorem dX12_looksAtAll_6 : decode cX12_looksAtAll 6 = .ok (.getfield 83, 3) := by decide +kernel
theorem dX12_looksAtAll_9 : decode cX12_looksAtAll 9 = .ok (.aload_n 0, 1) := by decide +kernel
theorem dX12_looksAtAll_10 : decode cX12_looksAtAll 10 = .ok (.getfield 87, 3) := by decide +kernel
theorem dX12_looksAtAll_13 : decode cX12_looksAtAll 13 = .ok (.imul, 1) := by decide +kernel
theorem dX12_looksAtAll_14 : decode cX12_looksAtAll 14 = .ok (.if_icmp .ge 7, 3) := by decide +kernel
theorem dX12_looksAtAll_17 : decode cX12_looksAtAll 17 = .ok (.iconst 1, 1) := by decide +kernel
theorem dX12_looksAtAll_18 : decode cX12_looksAtAll 18 = .ok (.goto 4, 3) := by decide +kernel
theorem dX12_looksAtAll_21 : decode cX12_looksAtAll 21 = .ok (.iconst 0, 1) := by decide +kernel
theorem dX12_looksAtAll_22 : decode cX12_looksAtAll 22 = .ok (.bipush 6, 2) := by decide +kernel
theorem dX12_looksAtAll_24 : decode cX12_looksAtAll 24 = .ok (.invokevirtual 155, 3) := by decide +kernel
theorem dX12_looksAtAll_27 : decode cX12_looksAtAll 27 = .ok (.aload_n 0, 1) := by decide +kernel
theorem dX12_looksAtAll_28 : decode cX12_looksAtAll 28 = .ok (.aload_n 0, 1) := by decide +kernel
theorem dX12_looksAtAll_29 : decode cX12_looksAtAll 29 = .ok (.getfield 90, 3) := by decide +kernel
theorem dX12_looksAtAll_32 : decode cX12_looksAtAll 32 = .ok (.ifCond .eq 21, 3) := by decide +kernel
theorem dX12_looksAtAll_35 : decode cX12_looksAtAll 35 = .ok (.aload_n 0, 1) := by decide +kernel
theorem dX12_looksAtAll_36 : decode cX12_looksAtAll 36 = .ok (.iconst 0, 1) := by decide +kernel
theorem dX12_looksAtAll_37 : decode cX12_looksAtAll 37 = .ok (.invokevirtual 193, 3) := by decide +kernel
theorem dX12_looksAtAll_40 : decode cX12_looksAtAll 40 = .ok (.iconst 1, 1) := by decide +kernel
theorem dX12_looksAtAll_41 : decode cX12_looksAtAll 41 = .ok (.if_icmp .ne 16, 3) := by decide +kernel
theorem dX12_looksAtAll_44 : decode cX12_looksAtAll 44 = .ok (.aload_n 0, 1) := by decide +kernel
theorem dX12_looksAtAll_45 : decode cX12_looksAtAll 45 = .ok (.iconst 1, 1) := by decide +kernel
theorem dX12_looksAtAll_46 : decode cX12_looksAtAll 46 = .ok (.invokevirtual 193, 3) := by decide +kernel
theorem dX12_looksAtAll_49 : decode cX12_looksAtAll 49 = .ok (.iconst 1, 1) := by decide +kernel
theorem dX12_looksAtAll_50 : decode cX12_looksAtAll 50 = .ok (.if_icmp .ne 7, 3) := by decide +kernel
theorem dX12_looksAtAll_53 : decode cX12_looksAtAll 53 = .ok (.iconst 1, 1) := by decide +kernel
theorem dX12_looksAtAll_54 : decode cX12_looksAtAll 54 = .ok (.goto 4, 3) := by decide +kernel
theorem dX12_looksAtAll_57 : decode cX12_looksAtAll 57 = .ok (.iconst 0, 1) := by decide +kernel
theorem dX12_looksAtAll_58 : decode cX12_looksAtAll 58 = .ok (.bipush 7, 2) := by decide +kernel
theorem dX12_looksAtAll_60 : decode cX12_looksAtAll 60 = .ok (.invokevirtual 155, 3) := by decide +kernel
theorem dX12_looksAtAll_63 : decode cX12_looksAtAll 63 = .ok (.aload_n 0, 1) := by decide +kernel
theorem dX12_looksAtAll_64 : decode cX12_looksAtAll 64 = .ok (.getfield 117, 3) := by decide +kernel
theorem dX12_looksAtAll_67 : decode cX12_looksAtAll 67 = .ok (.ifCond .ne 51, 3) := by decide +kernel
theorem dX12_looksAtAll_70 : decode cX12_looksAtAll 70 = .ok (.aload_n 0, 1) := by decide +kernel
theorem dX12_looksAtAll_71 : decode cX12_looksAtAll 71 = .ok (.getfield 90, 3) := by decide +kernel
theorem dX12_looksAtAll_74 : decode cX12_looksAtAll 74 = .ok (.ifCond .ne 44, 3) := by decide +kernel
theorem dX12_looksAtAll_77 : decode cX12_looksAtAll 77 = .ok (.aload_n 0, 1) := by decide +kernel
theorem dX12_looksAtAll_78 : decode cX12_looksAtAll 78 = .ok (.invokevirtual 77, 3) := by decide +kernel
theorem dX12_looksAtAll_81 : decode cX12_looksAtAll 81 = .ok (.aload_n 0, 1) := by decide +kernel
theorem dX12_looksAtAll_82 : decode cX12_looksAtAll 82 = .ok (.aload_n 0, 1) := by decide +kernel
theorem dX12_looksAtAll_83 : decode cX12_looksAtAll 83 = .ok (.getfield 23, 3) := by decide +kernel
theorem dX12_looksAtAll_86 : decode cX12_looksAtAll 86 = .ok (.bipush 12, 2) := by decide +kernel
theorem dX12_looksAtAll_88 : decode cX12_looksAtAll 88 = .ok (.iaload, 1) := by decide +kernel
theorem dX12_looksAtAll_89 : decode cX12_looksAtAll 89 = .ok (.iconst 1, 1) := by decide +kernel
theorem dX12_looksAtAll_90 : decode cX12_looksAtAll 90 = .ok (.iconst 1, 1) := by decide +kernel
theorem dX12_looksAtAll_91 : decode cX12_looksAtAll 91 = .ok (.aload_n 0, 1) := by decide +kernel
theorem dX12_looksAtAll_92 : decode cX12_looksAtAll 92 = .ok (.getfield 83, 3) := by decide +kernel
theorem dX12_looksAtAll_95 : decode cX12_looksAtAll 95 = .ok (.aload_n 0, 1) := by decide +kernel
theorem dX12_looksAtAll_96 : decode cX12_looksAtAll 96 = .ok (.getfield 87, 3) := by decide +kernel
theorem dX12_looksAtAll_99 : decode cX12_looksAtAll 99 = .ok (.imul, 1) := by decide +kernel
theorem dX12_looksAtAll_100 : decode cX12_looksAtAll 100 = .ok (.iconst 1, 1) := by decide +kernel
theorem dX12_looksAtAll_101 : decode cX12_looksAtAll 101 = .ok (.isub, 1) := by decide +kernel
theorem dX12_looksAtAll_102 : decode cX12_looksAtAll 102 = .ok (.ishl, 1) := by decide +kernel
theorem dX12_looksAtAll_103 : decode cX12_looksAtAll 103 = .ok (.ior, 1) := by decide +kernel
theorem dX12_looksAtAll_104 : decode cX12_looksAtAll 104 = .ok (.iand, 1) := by decide +kernel
theorem dX12_looksAtAll_105 : decode cX12_looksAtAll 105 = .ok (.ifCond .ne 7, 3) := by decide +kernel
theorem dX12_looksAtAll_108 : decode cX12_looksAtAll 108 = .ok (.iconst 1, 1) := by decide +kernel
theorem dX12_looksAtAll_109 : decode cX12_looksAtAll 109 = .ok (.goto 4, 3) := by decide +kernel
theorem dX12_looksAtAll_112 : decode cX12_looksAtAll 112 = .ok (.iconst 0, 1) := by decide +kernel
theorem dX12_looksAtAll_113 : decode cX12_looksAtAll 113 = .ok (.bipush 8, 2) := by decide +kernel
theorem dX12_looksAtAll_115 : decode cX12_looksAtAll 115 = .ok (.invokevirtual 155, 3) := by decide +kernel
theorem dX12_looksAtAll_118 : decode cX12_looksAtAll 118 = .ok (.return_, 1) := by decide +kernel
theorem dX12_text_0 : decode cX12_text 0 = .ok (.iconst 0, 1) := by decide +kernel
theorem dX12_text_1 : decode cX12_text 1 = .ok (.istore_n 1, 1) := by decide +kernel
theorem dX12_text_2 : decode cX12_text 2 = .ok (.aload_n 0, 1) := by decide +kernel
theorem dX12_text_3 : decode cX12_text 3 = .ok (.iconst 0, 1) := by decide +kernel
theorem dX12_text_4 : decode cX12_text 4 = .ok (.putfield 117, 3) := by decide +kernel
theorem dX12_text_7 : decode cX12_text 7 = .ok (.aload_n 0, 1) := by decide +kernel
theorem dX12_text_8 : decode cX12_text 8 = .ok (.iconst 0, 1) := by decide +kernel
theorem dX12_text_9 : decode cX12_text 9 = .ok (.putfield 126, 3) := by decide +kernel
theorem dX12_text_12 : decode cX12_text 12 = .ok (.aload_n 0, 1) := by decide +kernel
theorem dX12_text_13 : decode cX12_text 13 = .ok (.invokevirtual 74, 3) := by decide +kernel
theorem dX12_text_16 : decode cX12_text 16 = .ok (.aload_n 0, 1) := by decide +kernel
theorem dX12_text_17 : decode cX12_text 17 = .ok (.invokevirtual 163, 3) := by decide +kernel
theorem dX12_text_20 : decode cX12_text 20 = .ok (.aload_n 0, 1) := by decide +kernel
theorem dX12_text_21 : decode cX12_text 21 = .ok (.getfield 117, 3) := by decide +kernel
theorem dX12_text_24 : decode cX12_text 24 = .ok (.ifCond .ne 20, 3) := by decide +kernel
theorem dX12_text_27 : decode cX12_text 27 = .ok (.aload_n 0, 1) := by decide +kernel
theorem dX12_text_28 : decode cX12_text 28 = .ok (.getfield 141, 3) := by decide +kernel
theorem dX12_text_31 : decode cX12_text 31 = .ok (.ifCond .eq 13, 3) := by decide +kernel
theorem dX12_text_34 : decode cX12_text 34 = .ok (.aload_n 0, 1) := by decide +kernel
theorem dX12_text_35 : decode cX12_text 35 = .ok (.invokevirtual 196, 3) := by decide +kernel
theorem dX12_text_38 : decode cX12_text 38 = .ok (.iinc 1 1, 3) := by decide +kernel
theorem dX12_text_41 : decode cX12_text 41 = .ok (.goto (-21), 3) := by decide +kernel
theorem dX12_text_44 : decode cX12_text 44 = .ok (.aload_n 0, 1) := by decide +kernel
theorem dX12_text_45 : decode cX12_text 45 = .ok (.getfield 117, 3) := by decide +kernel
theorem dX12_text_48 : decode cX12_text 48 = .ok (.ifCond .ne 7, 3) := by decide +kernel
theorem dX12_text_51 : decode cX12_text 51 = .ok (.aload_n 0, 1) := by decide +kernel
theorem dX12_text_52 : decode cX12_text 52 = .ok (.invokevirtual 199, 3) := by decide +kernel
theorem dX12_text_55 : decode cX12_text 55 = .ok (.aload_n 0, 1) := by decide +kernel
theorem dX12_text_56 : decode cX12_text 56 = .ok (.iconst 0, 1) := by decide +kernel
theorem dX12_text_57 : decode cX12_text 57 = .ok (.putfield 108, 3) := by decide +kernel
theorem dX12_text_60 : decode cX12_text 60 = .ok (.aload_n 0, 1) := by decide +kernel
theorem dX12_text_61 : decode cX12_text 61 = .ok (.getfield 117, 3) := by decide +kernel
theorem dX12_text_64 : decode cX12_text 64 = .ok (.ifCond .le 11, 3) := by decide +kernel
theorem dX12_text_67 : decode cX12_text 67 = .ok (.bipush (-10), 2) := by decide +kernel
theorem dX12_text_69 : decode cX12_text 69 = .ok (.aload_n 0, 1) := by decide +kernel
theorem dX12_text_70 : decode cX12_text 70 = .ok (.getfield 123, 3) := by decide +kernel
theorem dX12_text_73 : decode cX12_text 73 = .ok (.isub, 1) := by decide +kernel
theorem dX12_text_74 : decode cX12_text 74 = .ok (.ireturn, 1) := by decide +kernel
theorem dX12_text_75 : decode cX12_text 75 = .ok (.aload_n 0, 1) := by decide +kernel
theorem dX12_text_76 : decode cX12_text 76 = .ok (.invokevirtual 80, 3) := by decide +kernel
theorem dX12_text_79 : decode cX12_text 79 = .ok (.iload_n 1, 1) := by decide +kernel
theorem dX12_text_80 : decode cX12_text 80 = .ok (.ireturn, 1) := by decide +kernel
theorem dX12_fault_0 : decode cX12_fault 0 = .ok (.aload_n 0, 1) := by decide +kernel
theorem dX12_fault_1 : decode cX12_fault 1 = .ok (.getfield 117, 3) := by decide +kernel
theorem dX12_fault_4 : decode cX12_fault 4 = .ok (.ireturn, 1) := by decide +kernel
theorem dX12_isSquare_0 : decode cX12_isSquare 0 = .ok (.iload_n 1, 1) := by decide +kernel
theorem dX12_isSquare_1 : decode cX12_isSquare 1 = .ok (.i2l, 1) := by decide +kernel
theorem dX12_isSquare_2 : decode cX12_isSquare 2 = .ok (.lconst 0, 1) := by decide +kernel
theorem dX12_isSquare_3 : decode cX12_isSquare 3 = .ok (.aload_n 0, 1) := by decide +kernel
theorem dX12_isSquare_4 : decode cX12_isSquare 4 = .ok (.getfield 99, 3) := by decide +kernel
theorem dX12_isSquare_7 : decode cX12_isSquare 7 = .ok (.aload_n 0, 1) := by decide +kernel
theorem dX12_isSquare_8 : decode cX12_isSquare 8 = .ok (.getfield 102, 3) := by decide +kernel
theorem dX12_isSquare_11 : decode cX12_isSquare 11 = .ok (.imul, 1) := by decide +kernel
theorem dX12_isSquare_12 : decode cX12_isSquare 12 = .ok (.iconst 1, 1) := by decide +kernel
theorem dX12_isSquare_13 : decode cX12_isSquare 13 = .ok (.isub, 1) := by decide +kernel
theorem dX12_isSquare_14 : decode cX12_isSquare 14 = .ok (.i2l, 1) := by decide +kernel
theorem dX12_isSquare_15 : decode cX12_isSquare 15 = .ok (.invokestatic 113, 3) := by decide +kernel
theorem dX12_isSquare_18 : decode cX12_isSquare 18 = .ok (.ireturn, 1) := by decide +kernel
theorem dX12_isPiece_0 : decode cX12_isPiece 0 = .ok (.iload_n 1, 1) := by decide +kernel
theorem dX12_isPiece_1 : decode cX12_isPiece 1 = .ok (.i2l, 1) := by decide +kernel
theorem dX12_isPiece_2 : decode cX12_isPiece 2 = .ok (.lconst 0, 1) := by decide +kernel
theorem dX12_isPiece_3 : decode cX12_isPiece 3 = .ok (.aload_n 0, 1) := by decide +kernel
theorem dX12_isPiece_4 : decode cX12_isPiece 4 = .ok (.getfield 105, 3) := by decide +kernel
theorem dX12_isPiece_7 : decode cX12_isPiece 7 = .ok (.iconst 1, 1) := by decide +kernel
theorem dX12_isPiece_8 : decode cX12_isPiece 8 = .ok (.isub, 1) := by decide +kernel
theorem dX12_isPiece_9 : decode cX12_isPiece 9 = .ok (.i2l, 1) := by decide +kernel
theorem dX12_isPiece_10 : decode cX12_isPiece 10 = .ok (.invokestatic 113, 3) := by decide +kernel
theorem dX12_isPiece_13 : decode cX12_isPiece 13 = .ok (.ireturn, 1) := by decide +kernel
theorem dX12_isWind_0 : decode cX12_isWind 0 = .ok (.iload_n 0, 1) := by decide +kernel
theorem dX12_isWind_1 : decode cX12_isWind 1 = .ok (.i2l, 1) := by decide +kernel
theorem dX12_isWind_2 : decode cX12_isWind 2 = .ok (.lconst 0, 1) := by decide +kernel
theorem dX12_isWind_3 : decode cX12_isWind 3 = .ok (.ldc2_w 202, 3) := by decide +kernel
theorem dX12_isWind_6 : decode cX12_isWind 6 = .ok (.invokestatic 113, 3) := by decide +kernel
theorem dX12_isWind_9 : decode cX12_isWind 9 = .ok (.ireturn, 1) := by decide +kernel
theorem dX12_starts_0 : decode cX12_starts 0 = .ok (.iconst 0, 1) := by decide +kernel
theorem dX12_starts_1 : decode cX12_starts 1 = .ok (.istore_n 1, 1) := by decide +kernel
theorem dX12_starts_2 : decode cX12_starts 2 = .ok (.iload_n 1, 1) := by decide +kernel
theorem dX12_starts_3 : decode cX12_starts 3 = .ok (.bipush 6, 2) := by decide +kernel
theorem dX12_starts_5 : decode cX12_starts 5 = .ok (.if_icmp .ge 38, 3) := by decide +kernel
theorem dX12_starts_8 : decode cX12_starts 8 = .ok (.aload_n 0, 1) := by decide +kernel
theorem dX12_starts_9 : decode cX12_starts 9 = .ok (.getfield 35, 3) := by decide +kernel
theorem dX12_starts_12 : decode cX12_starts 12 = .ok (.iload_n 1, 1) := by decide +kernel
theorem dX12_starts_13 : decode cX12_starts 13 = .ok (.aload_n 0, 1) := by decide +kernel
theorem dX12_starts_14 : decode cX12_starts 14 = .ok (.getfield 7, 3) := by decide +kernel
theorem dX12_starts_17 : decode cX12_starts 17 = .ok (.iconst 0, 1) := by decide +kernel
theorem dX12_starts_18 : decode cX12_starts 18 = .ok (.iload_n 1, 1) := by decide +kernel
theorem dX12_starts_19 : decode cX12_starts 19 = .ok (.iadd, 1) := by decide +kernel
theorem dX12_starts_20 : decode cX12_starts 20 = .ok (.iaload, 1) := by decide +kernel
theorem dX12_starts_21 : decode cX12_starts 21 = .ok (.iastore, 1) := by decide +kernel
theorem dX12_starts_22 : decode cX12_starts 22 = .ok (.aload_n 0, 1) := by decide +kernel
theorem dX12_starts_23 : decode cX12_starts 23 = .ok (.getfield 38, 3) := by decide +kernel
theorem dX12_starts_26 : decode cX12_starts 26 = .ok (.iload_n 1, 1) := by decide +kernel
theorem dX12_starts_27 : decode cX12_starts 27 = .ok (.aload_n 0, 1) := by decide +kernel
theorem dX12_starts_28 : decode cX12_starts 28 = .ok (.getfield 7, 3) := by decide +kernel
theorem dX12_starts_31 : decode cX12_starts 31 = .ok (.bipush 6, 2) := by decide +kernel
theorem dX12_starts_33 : decode cX12_starts 33 = .ok (.iload_n 1, 1) := by decide +kernel
theorem dX12_starts_34 : decode cX12_starts 34 = .ok (.iadd, 1) := by decide +kernel
theorem dX12_starts_35 : decode cX12_starts 35 = .ok (.iaload, 1) := by decide +kernel
theorem dX12_starts_36 : decode cX12_starts 36 = .ok (.iastore, 1) := by decide +kernel
theorem dX12_starts_37 : decode cX12_starts 37 = .ok (.iinc 1 1, 3) := by decide +kernel
theorem dX12_starts_40 : decode cX12_starts 40 = .ok (.goto (-38), 3) := by decide +kernel
theorem dX12_starts_43 : decode cX12_starts 43 = .ok (.aload_n 0, 1) := by decide +kernel
theorem dX12_starts_44 : decode cX12_starts 44 = .ok (.aload_n 0, 1) := by decide +kernel
theorem dX12_starts_45 : decode cX12_starts 45 = .ok (.getfield 7, 3) := by decide +kernel
theorem dX12_starts_48 : decode cX12_starts 48 = .ok (.bipush 18, 2) := by decide +kernel
theorem dX12_starts_50 : decode cX12_starts 50 = .ok (.iaload, 1) := by decide +kernel
theorem dX12_starts_51 : decode cX12_starts 51 = .ok (.putfield 204, 3) := by decide +kernel
theorem dX12_starts_54 : decode cX12_starts 54 = .ok (.return_, 1) := by decide +kernel
theorem dX12_pieceAt_0 : decode cX12_pieceAt 0 = .ok (.bipush (-4), 2) := by decide +kernel
theorem dX12_pieceAt_2 : decode cX12_pieceAt 2 = .ok (.istore_n 2, 1) := by decide +kernel
theorem dX12_pieceAt_3 : decode cX12_pieceAt 3 = .ok (.iconst 0, 1) := by decide +kernel
theorem dX12_pieceAt_4 : decode cX12_pieceAt 4 = .ok (.istore_n 3, 1) := by decide +kernel
theorem dX12_pieceAt_5 : decode cX12_pieceAt 5 = .ok (.iload_n 3, 1) := by decide +kernel
theorem dX12_pieceAt_6 : decode cX12_pieceAt 6 = .ok (.aload_n 0, 1) := by decide +kernel
theorem dX12_pieceAt_7 : decode cX12_pieceAt 7 = .ok (.getfield 105, 3) := by decide +kernel
theorem dX12_pieceAt_10 : decode cX12_pieceAt 10 = .ok (.if_icmp .ge 25, 3) := by decide +kernel
theorem dX12_pieceAt_13 : decode cX12_pieceAt 13 = .ok (.aload_n 0, 1) := by decide +kernel
theorem dX12_pieceAt_14 : decode cX12_pieceAt 14 = .ok (.getfield 35, 3) := by decide +kernel
theorem dX12_pieceAt_17 : decode cX12_pieceAt 17 = .ok (.iload_n 3, 1) := by decide +kernel
theorem dX12_pieceAt_18 : decode cX12_pieceAt 18 = .ok (.iaload, 1) := by decide +kernel
theorem dX12_pieceAt_19 : decode cX12_pieceAt 19 = .ok (.iload_n 1, 1) := by decide +kernel
theorem dX12_pieceAt_20 : decode cX12_pieceAt 20 = .ok (.if_icmp .ne 7, 3) := by decide +kernel
theorem dX12_pieceAt_23 : decode cX12_pieceAt 23 = .ok (.iload_n 3, 1) := by decide +kernel
theorem dX12_pieceAt_24 : decode cX12_pieceAt 24 = .ok (.goto 4, 3) := by decide +kernel
theorem dX12_pieceAt_27 : decode cX12_pieceAt 27 = .ok (.iload_n 2, 1) := by decide +kernel
theorem dX12_pieceAt_28 : decode cX12_pieceAt 28 = .ok (.istore_n 2, 1) := by decide +kernel
theorem dX12_pieceAt_29 : decode cX12_pieceAt 29 = .ok (.iinc 3 1, 3) := by decide +kernel
theorem dX12_pieceAt_32 : decode cX12_pieceAt 32 = .ok (.goto (-27), 3) := by decide +kernel
theorem dX12_pieceAt_35 : decode cX12_pieceAt 35 = .ok (.iload_n 2, 1) := by decide +kernel
theorem dX12_pieceAt_36 : decode cX12_pieceAt 36 = .ok (.ireturn, 1) := by decide +kernel
theorem dX12_lost_0 : decode cX12_lost 0 = .ok (.bipush (-4), 2) := by decide +kernel
theorem dX12_lost_2 : decode cX12_lost 2 = .ok (.istore_n 1, 1) := by decide +kernel
theorem dX12_lost_3 : decode cX12_lost 3 = .ok (.iconst 0, 1) := by decide +kernel
theorem dX12_lost_4 : decode cX12_lost 4 = .ok (.istore_n 2, 1) := by decide +kernel
theorem dX12_lost_5 : decode cX12_lost 5 = .ok (.iload_n 2, 1) := by decide +kernel
theorem dX12_lost_6 : decode cX12_lost 6 = .ok (.aload_n 0, 1) := by decide +kernel
theorem dX12_lost_7 : decode cX12_lost 7 = .ok (.getfield 105, 3) := by decide +kernel
theorem dX12_lost_10 : decode cX12_lost 10 = .ok (.if_icmp .ge 40, 3) := by decide +kernel
theorem dX12_lost_13 : decode cX12_lost 13 = .ok (.aload_n 0, 1) := by decide +kernel
theorem dX12_lost_14 : decode cX12_lost 14 = .ok (.getfield 20, 3) := by decide +kernel
theorem dX12_lost_17 : decode cX12_lost 17 = .ok (.iload_n 2, 1) := by decide +kernel
theorem dX12_lost_18 : decode cX12_lost 18 = .ok (.iaload, 1) := by decide +kernel
theorem dX12_lost_19 : decode cX12_lost 19 = .ok (.ifCond .ne 23, 3) := by decide +kernel
theorem dX12_lost_22 : decode cX12_lost 22 = .ok (.aload_n 0, 1) := by decide +kernel
theorem dX12_lost_23 : decode cX12_lost 23 = .ok (.getfield 35, 3) := by decide +kernel
theorem dX12_lost_26 : decode cX12_lost 26 = .ok (.iload_n 2, 1) := by decide +kernel
theorem dX12_lost_27 : decode cX12_lost 27 = .ok (.iaload, 1) := by decide +kernel
theorem dX12_lost_28 : decode cX12_lost 28 = .ok (.bipush (-4), 2) := by decide +kernel
theorem dX12_lost_30 : decode cX12_lost 30 = .ok (.if_icmp .ne 12, 3) := by decide +kernel
theorem dX12_lost_33 : decode cX12_lost 33 = .ok (.aload_n 0, 1) := by decide +kernel
theorem dX12_lost_34 : decode cX12_lost 34 = .ok (.getfield 17, 3) := by decide +kernel
theorem dX12_lost_37 : decode cX12_lost 37 = .ok (.iload_n 2, 1) := by decide +kernel
theorem dX12_lost_38 : decode cX12_lost 38 = .ok (.iaload, 1) := by decide +kernel
theorem dX12_lost_39 : decode cX12_lost 39 = .ok (.goto 4, 3) := by decide +kernel
theorem dX12_lost_42 : decode cX12_lost 42 = .ok (.iload_n 1, 1) := by decide +kernel
theorem dX12_lost_43 : decode cX12_lost 43 = .ok (.istore_n 1, 1) := by decide +kernel
theorem dX12_lost_44 : decode cX12_lost 44 = .ok (.iinc 2 1, 3) := by decide +kernel
theorem dX12_lost_47 : decode cX12_lost 47 = .ok (.goto (-42), 3) := by decide +kernel
theorem dX12_lost_50 : decode cX12_lost 50 = .ok (.iload_n 1, 1) := by decide +kernel
theorem dX12_lost_51 : decode cX12_lost 51 = .ok (.ireturn, 1) := by decide +kernel
theorem dX12_onTo_0 : decode cX12_onTo 0 = .ok (.iload_n 1, 1) := by decide +kernel
theorem dX12_onTo_1 : decode cX12_onTo 1 = .ok (.aload_n 0, 1) := by decide +kernel
theorem dX12_onTo_2 : decode cX12_onTo 2 = .ok (.getfield 99, 3) := by decide +kernel
theorem dX12_onTo_5 : decode cX12_onTo 5 = .ok (.idiv, 1) := by decide +kernel
theorem dX12_onTo_6 : decode cX12_onTo 6 = .ok (.istore 5, 2) := by decide +kernel
theorem dX12_onTo_8 : decode cX12_onTo 8 = .ok (.iload_n 1, 1) := by decide +kernel
theorem dX12_onTo_9 : decode cX12_onTo 9 = .ok (.aload_n 0, 1) := by decide +kernel
theorem dX12_onTo_10 : decode cX12_onTo 10 = .ok (.getfield 99, 3) := by decide +kernel
theorem dX12_onTo_13 : decode cX12_onTo 13 = .ok (.irem, 1) := by decide +kernel
theorem dX12_onTo_14 : decode cX12_onTo 14 = .ok (.istore 6, 2) := by decide +kernel
theorem dX12_onTo_16 : decode cX12_onTo 16 = .ok (.iload_n 2, 1) := by decide +kernel
theorem dX12_onTo_17 : decode cX12_onTo 17 = .ok (.ifCond .eq 8, 3) := by decide +kernel
theorem dX12_onTo_20 : decode cX12_onTo 20 = .ok (.iload_n 2, 1) := by decide +kernel
theorem dX12_onTo_21 : decode cX12_onTo 21 = .ok (.iconst 3, 1) := by decide +kernel
theorem dX12_onTo_22 : decode cX12_onTo 22 = .ok (.if_icmp .ne 8, 3) := by decide +kernel
theorem dX12_onTo_25 : decode cX12_onTo 25 = .ok (.iload_n 3, 1) := by decide +kernel
theorem dX12_onTo_26 : decode cX12_onTo 26 = .ok (.ineg, 1) := by decide +kernel
theorem dX12_onTo_27 : decode cX12_onTo 27 = .ok (.goto 4, 3) := by decide +kernel
theorem dX12_onTo_30 : decode cX12_onTo 30 = .ok (.iload_n 3, 1) := by decide +kernel
theorem dX12_onTo_31 : decode cX12_onTo 31 = .ok (.istore 7, 2) := by decide +kernel
theorem dX12_onTo_33 : decode cX12_onTo 33 = .ok (.iload 5, 2) := by decide +kernel
theorem dX12_onTo_35 : decode cX12_onTo 35 = .ok (.iload_n 2, 1) := by decide +kernel
theorem dX12_onTo_36 : decode cX12_onTo 36 = .ok (.iconst 2, 1) := by decide +kernel
theorem dX12_onTo_37 : decode cX12_onTo 37 = .ok (.irem, 1) := by decide +kernel
theorem dX12_onTo_38 : decode cX12_onTo 38 = .ok (.ifCond .ne 8, 3) := by decide +kernel
theorem dX12_onTo_41 : decode cX12_onTo 41 = .ok (.iload 7, 2) := by decide +kernel
theorem dX12_onTo_43 : decode cX12_onTo 43 = .ok (.goto 5, 3) := by decide +kernel
theorem dX12_onTo_46 : decode cX12_onTo 46 = .ok (.iload 4, 2) := by decide +kernel
theorem dX12_onTo_48 : decode cX12_onTo 48 = .ok (.iadd, 1) := by decide +kernel
theorem dX12_onTo_49 : decode cX12_onTo 49 = .ok (.istore 5, 2) := by decide +kernel
theorem dX12_onTo_51 : decode cX12_onTo 51 = .ok (.iload 6, 2) := by decide +kernel
theorem dX12_onTo_53 : decode cX12_onTo 53 = .ok (.iload_n 2, 1) := by decide +kernel
theorem dX12_onTo_54 : decode cX12_onTo 54 = .ok (.iconst 2, 1) := by decide +kernel
theorem dX12_onTo_55 : decode cX12_onTo 55 = .ok (.irem, 1) := by decide +kernel
theorem dX12_onTo_56 : decode cX12_onTo 56 = .ok (.ifCond .ne 8, 3) := by decide +kernel
theorem dX12_onTo_59 : decode cX12_onTo 59 = .ok (.iload 4, 2) := by decide +kernel
theorem dX12_onTo_61 : decode cX12_onTo 61 = .ok (.goto 5, 3) := by decide +kernel
theorem dX12_onTo_64 : decode cX12_onTo 64 = .ok (.iload 7, 2) := by decide +kernel
theorem dX12_onTo_66 : decode cX12_onTo 66 = .ok (.iadd, 1) := by decide +kernel
theorem dX12_onTo_67 : decode cX12_onTo 67 = .ok (.istore 6, 2) := by decide +kernel
theorem dX12_onTo_69 : decode cX12_onTo 69 = .ok (.iload 5, 2) := by decide +kernel
theorem dX12_onTo_71 : decode cX12_onTo 71 = .ok (.i2l, 1) := by decide +kernel
theorem dX12_onTo_72 : decode cX12_onTo 72 = .ok (.lconst 0, 1) := by decide +kernel
theorem dX12_onTo_73 : decode cX12_onTo 73 = .ok (.aload_n 0, 1) := by decide +kernel
theorem dX12_onTo_74 : decode cX12_onTo 74 = .ok (.getfield 102, 3) := by decide +kernel
theorem dX12_onTo_77 : decode cX12_onTo 77 = .ok (.iconst 1, 1) := by decide +kernel
theorem dX12_onTo_78 : decode cX12_onTo 78 = .ok (.isub, 1) := by decide +kernel
theorem dX12_onTo_79 : decode cX12_onTo 79 = .ok (.i2l, 1) := by decide +kernel
theorem dX12_onTo_80 : decode cX12_onTo 80 = .ok (.invokestatic 113, 3) := by decide +kernel
theorem dX12_onTo_83 : decode cX12_onTo 83 = .ok (.ifCond .eq 33, 3) := by decide +kernel
theorem dX12_onTo_86 : decode cX12_onTo 86 = .ok (.iload 6, 2) := by decide +kernel
theorem dX12_onTo_88 : decode cX12_onTo 88 = .ok (.i2l, 1) := by decide +kernel
theorem dX12_onTo_89 : decode cX12_onTo 89 = .ok (.lconst 0, 1) := by decide +kernel
theorem dX12_onTo_90 : decode cX12_onTo 90 = .ok (.aload_n 0, 1) := by decide +kernel
theorem dX12_onTo_91 : decode cX12_onTo 91 = .ok (.getfield 99, 3) := by decide +kernel
theorem dX12_onTo_94 : decode cX12_onTo 94 = .ok (.iconst 1, 1) := by decide +kernel
theorem dX12_onTo_95 : decode cX12_onTo 95 = .ok (.isub, 1) := by decide +kernel
theorem dX12_onTo_96 : decode cX12_onTo 96 = .ok (.i2l, 1) := by decide +kernel
theorem dX12_onTo_97 : decode cX12_onTo 97 = .ok (.invokestatic 113, 3) := by decide +kernel
theorem dX12_onTo_100 : decode cX12_onTo 100 = .ok (.ifCond .eq 16, 3) := by decide +kernel
theorem dX12_onTo_103 : decode cX12_onTo 103 = .ok (.iload 5, 2) := by decide +kernel
theorem dX12_onTo_105 : decode cX12_onTo 105 = .ok (.aload_n 0, 1) := by decide +kernel
theorem dX12_onTo_106 : decode cX12_onTo 106 = .ok (.getfield 99, 3) := by decide +kernel
theorem dX12_onTo_109 : decode cX12_onTo 109 = .ok (.imul, 1) := by decide +kernel
theorem dX12_onTo_110 : decode cX12_onTo 110 = .ok (.iload 6, 2) := by decide +kernel
theorem dX12_onTo_112 : decode cX12_onTo 112 = .ok (.iadd, 1) := by decide +kernel
theorem dX12_onTo_113 : decode cX12_onTo 113 = .ok (.goto 5, 3) := by decide +kernel
theorem dX12_onTo_116 : decode cX12_onTo 116 = .ok (.bipush (-4), 2) := by decide +kernel
theorem dX12_onTo_118 : decode cX12_onTo 118 = .ok (.ireturn, 1) := by decide +kernel
theorem dX12_isOpen_0 : decode cX12_isOpen 0 = .ok (.iload_n 1, 1) := by decide +kernel
theorem dX12_isOpen_1 : decode cX12_isOpen 1 = .ok (.bipush (-4), 2) := by decide +kernel
theorem dX12_isOpen_3 : decode cX12_isOpen 3 = .ok (.if_icmp .eq 21, 3) := by decide +kernel
theorem dX12_isOpen_6 : decode cX12_isOpen 6 = .ok (.aload_n 0, 1) := by decide +kernel
theorem dX12_isOpen_7 : decode cX12_isOpen 7 = .ok (.getfield 7, 3) := by decide +kernel
theorem dX12_isOpen_10 : decode cX12_isOpen 10 = .ok (.bipush 12, 2) := by decide +kernel
theorem dX12_isOpen_12 : decode cX12_isOpen 12 = .ok (.iaload, 1) := by decide +kernel
theorem dX12_isOpen_13 : decode cX12_isOpen 13 = .ok (.iload_n 1, 1) := by decide +kernel
theorem dX12_isOpen_14 : decode cX12_isOpen 14 = .ok (.ishr, 1) := by decide +kernel
theorem dX12_isOpen_15 : decode cX12_isOpen 15 = .ok (.iconst 1, 1) := by decide +kernel
theorem dX12_isOpen_16 : decode cX12_isOpen 16 = .ok (.iand, 1) := by decide +kernel
theorem dX12_isOpen_17 : decode cX12_isOpen 17 = .ok (.ifCond .ne 7, 3) := by decide +kernel
theorem dX12_isOpen_20 : decode cX12_isOpen 20 = .ok (.iconst 1, 1) := by decide +kernel
theorem dX12_isOpen_21 : decode cX12_isOpen 21 = .ok (.goto 4, 3) := by decide +kernel
theorem dX12_isOpen_24 : decode cX12_isOpen 24 = .ok (.iconst 0, 1) := by decide +kernel
theorem dX12_isOpen_25 : decode cX12_isOpen 25 = .ok (.ireturn, 1) := by decide +kernel
theorem dX12_targets_0 : decode cX12_targets 0 = .ok (.iconst 0, 1) := by decide +kernel
theorem dX12_targets_1 : decode cX12_targets 1 = .ok (.istore_n 3, 1) := by decide +kernel
theorem dX12_targets_2 : decode cX12_targets 2 = .ok (.aload_n 0, 1) := by decide +kernel
theorem dX12_targets_3 : decode cX12_targets 3 = .ok (.getfield 20, 3) := by decide +kernel
theorem dX12_targets_6 : decode cX12_targets 6 = .ok (.iload_n 1, 1) := by decide +kernel
theorem dX12_targets_7 : decode cX12_targets 7 = .ok (.iaload, 1) := by decide +kernel
theorem dX12_targets_8 : decode cX12_targets 8 = .ok (.iconst 3, 1) := by decide +kernel
theorem dX12_targets_9 : decode cX12_targets 9 = .ok (.if_icmp .ne 60, 3) := by decide +kernel
theorem dX12_targets_12 : decode cX12_targets 12 = .ok (.iconst (-1), 1) := by decide +kernel
theorem dX12_targets_13 : decode cX12_targets 13 = .ok (.istore 4, 2) := by decide +kernel
theorem dX12_targets_15 : decode cX12_targets 15 = .ok (.iload 4, 2) := by decide +kernel
theorem dX12_targets_17 : decode cX12_targets 17 = .ok (.iconst 2, 1) := by decide +kernel
theorem dX12_targets_18 : decode cX12_targets 18 = .ok (.if_icmp .ge 45, 3) := by decide +kernel
theorem dX12_targets_21 : decode cX12_targets 21 = .ok (.aload_n 0, 1) := by decide +kernel
theorem dX12_targets_22 : decode cX12_targets 22 = .ok (.aload_n 0, 1) := by decide +kernel
theorem dX12_targets_23 : decode cX12_targets 23 = .ok (.getfield 35, 3) := by decide +kernel
theorem dX12_targets_26 : decode cX12_targets 26 = .ok (.iload_n 1, 1) := by decide +kernel
theorem dX12_targets_27 : decode cX12_targets 27 = .ok (.iaload, 1) := by decide +kernel
theorem dX12_targets_28 : decode cX12_targets 28 = .ok (.iload_n 2, 1) := by decide +kernel
theorem dX12_targets_29 : decode cX12_targets 29 = .ok (.iconst 2, 1) := by decide +kernel
theorem dX12_targets_30 : decode cX12_targets 30 = .ok (.iload 4, 2) := by decide +kernel
theorem dX12_targets_32 : decode cX12_targets 32 = .ok (.invokevirtual 207, 3) := by decide +kernel
theorem dX12_targets_35 : decode cX12_targets 35 = .ok (.istore 5, 2) := by decide +kernel
theorem dX12_targets_37 : decode cX12_targets 37 = .ok (.iload_n 3, 1) := by decide +kernel
theorem dX12_targets_38 : decode cX12_targets 38 = .ok (.aload_n 0, 1) := by decide +kernel
theorem dX12_targets_39 : decode cX12_targets 39 = .ok (.iload 5, 2) := by decide +kernel
theorem dX12_targets_41 : decode cX12_targets 41 = .ok (.invokevirtual 211, 3) := by decide +kernel
theorem dX12_targets_44 : decode cX12_targets 44 = .ok (.ifCond .eq 10, 3) := by decide +kernel
theorem dX12_targets_47 : decode cX12_targets 47 = .ok (.iconst 1, 1) := by decide +kernel
theorem dX12_targets_48 : decode cX12_targets 48 = .ok (.iload 5, 2) := by decide +kernel
theorem dX12_targets_50 : decode cX12_targets 50 = .ok (.ishl, 1) := by decide +kernel
theorem dX12_targets_51 : decode cX12_targets 51 = .ok (.goto 4, 3) := by decide +kernel
theorem dX12_targets_54 : decode cX12_targets 54 = .ok (.iconst 0, 1) := by decide +kernel
theorem dX12_targets_55 : decode cX12_targets 55 = .ok (.ior, 1) := by decide +kernel
theorem dX12_targets_56 : decode cX12_targets 56 = .ok (.istore_n 3, 1) := by decide +kernel
theorem dX12_targets_57 : decode cX12_targets 57 = .ok (.iinc 4 2, 3) := by decide +kernel
theorem dX12_targets_60 : decode cX12_targets 60 = .ok (.goto (-45), 3) := by decide +kernel
theorem dX12_targets_63 : decode cX12_targets 63 = .ok (.aload_n 0, 1) := by decide +kernel
theorem dX12_targets_64 : decode cX12_targets 64 = .ok (.iload_n 3, 1) := by decide +kernel
theorem dX12_targets_65 : decode cX12_targets 65 = .ok (.invokevirtual 215, 3) := by decide +kernel
theorem dX12_targets_68 : decode cX12_targets 68 = .ok (.ireturn, 1) := by decide +kernel
theorem dX12_targets_69 : decode cX12_targets 69 = .ok (.iconst 1, 1) := by decide +kernel
theorem dX12_targets_70 : decode cX12_targets 70 = .ok (.istore 4, 2) := by decide +kernel
theorem dX12_targets_72 : decode cX12_targets 72 = .ok (.aload_n 0, 1) := by decide +kernel
theorem dX12_targets_73 : decode cX12_targets 73 = .ok (.getfield 20, 3) := by decide +kernel
theorem dX12_targets_76 : decode cX12_targets 76 = .ok (.iload_n 1, 1) := by decide +kernel
theorem dX12_targets_77 : decode cX12_targets 77 = .ok (.iaload, 1) := by decide +kernel
theorem dX12_targets_78 : decode cX12_targets 78 = .ok (.iconst 2, 1) := by decide +kernel
theorem dX12_targets_79 : decode cX12_targets 79 = .ok (.if_icmp .ne 7, 3) := by decide +kernel
theorem dX12_targets_82 : decode cX12_targets 82 = .ok (.iconst 5, 1) := by decide +kernel
theorem dX12_targets_83 : decode cX12_targets 83 = .ok (.goto 4, 3) := by decide +kernel
theorem dX12_targets_86 : decode cX12_targets 86 = .ok (.iconst 1, 1) := by decide +kernel
theorem dX12_targets_87 : decode cX12_targets 87 = .ok (.istore 5, 2) := by decide +kernel
theorem dX12_targets_89 : decode cX12_targets 89 = .ok (.iconst 1, 1) := by decide +kernel
theorem dX12_targets_90 : decode cX12_targets 90 = .ok (.istore 6, 2) := by decide +kernel
theorem dX12_targets_92 : decode cX12_targets 92 = .ok (.iload 6, 2) := by decide +kernel
theorem dX12_targets_94 : decode cX12_targets 94 = .ok (.iload 5, 2) := by decide +kernel
theorem dX12_targets_96 : decode cX12_targets 96 = .ok (.if_icmp .gt 77, 3) := by decide +kernel
theorem dX12_targets_99 : decode cX12_targets 99 = .ok (.iload 4, 2) := by decide +kernel
theorem dX12_targets_101 : decode cX12_targets 101 = .ok (.ifCond .eq 72, 3) := by decide +kernel
theorem dX12_targets_104 : decode cX12_targets 104 = .ok (.aload_n 0, 1) := by decide +kernel
theorem dX12_targets_105 : decode cX12_targets 105 = .ok (.aload_n 0, 1) := by decide +kernel
theorem dX12_targets_106 : decode cX12_targets 106 = .ok (.getfield 35, 3) := by decide +kernel
theorem dX12_targets_109 : decode cX12_targets 109 = .ok (.iload_n 1, 1) := by decide +kernel
theorem dX12_targets_110 : decode cX12_targets 110 = .ok (.iaload, 1) := by decide +kernel
theorem dX12_targets_111 : decode cX12_targets 111 = .ok (.iload_n 2, 1) := by decide +kernel
theorem dX12_targets_112 : decode cX12_targets 112 = .ok (.iload 6, 2) := by decide +kernel
theorem dX12_targets_114 : decode cX12_targets 114 = .ok (.iconst 0, 1) := by decide +kernel
theorem dX12_targets_115 : decode cX12_targets 115 = .ok (.invokevirtual 207, 3) := by decide +kernel
theorem dX12_targets_118 : decode cX12_targets 118 = .ok (.istore 7, 2) := by decide +kernel
theorem dX12_targets_120 : decode cX12_targets 120 = .ok (.aload_n 0, 1) := by decide +kernel
theorem dX12_targets_121 : decode cX12_targets 121 = .ok (.iload 7, 2) := by decide +kernel
theorem dX12_targets_123 : decode cX12_targets 123 = .ok (.invokevirtual 211, 3) := by decide +kernel
theorem dX12_targets_126 : decode cX12_targets 126 = .ok (.istore 4, 2) := by decide +kernel
theorem dX12_targets_128 : decode cX12_targets 128 = .ok (.iload_n 3, 1) := by decide +kernel
theorem dX12_targets_129 : decode cX12_targets 129 = .ok (.iload 4, 2) := by decide +kernel
theorem dX12_targets_131 : decode cX12_targets 131 = .ok (.ifCond .eq 10, 3) := by decide +kernel
theorem dX12_targets_134 : decode cX12_targets 134 = .ok (.iconst 1, 1) := by decide +kernel
theorem dX12_targets_135 : decode cX12_targets 135 = .ok (.iload 7, 2) := by decide +kernel
theorem dX12_targets_137 : decode cX12_targets 137 = .ok (.ishl, 1) := by decide +kernel
theorem dX12_targets_138 : decode cX12_targets 138 = .ok (.goto 4, 3) := by decide +kernel
theorem dX12_targets_141 : decode cX12_targets 141 = .ok (.iconst 0, 1) := by decide +kernel
theorem dX12_targets_142 : decode cX12_targets 142 = .ok (.ior, 1) := by decide +kernel
theorem dX12_targets_143 : decode cX12_targets 143 = .ok (.istore_n 3, 1) := by decide +kernel
theorem dX12_targets_144 : decode cX12_targets 144 = .ok (.iload 4, 2) := by decide +kernel
theorem dX12_targets_146 : decode cX12_targets 146 = .ok (.ifCond .eq 18, 3) := by decide +kernel
theorem dX12_targets_149 : decode cX12_targets 149 = .ok (.aload_n 0, 1) := by decide +kernel
theorem dX12_targets_150 : decode cX12_targets 150 = .ok (.iload 7, 2) := by decide +kernel
theorem dX12_targets_152 : decode cX12_targets 152 = .ok (.invokevirtual 218, 3) := by decide +kernel
theorem dX12_targets_155 : decode cX12_targets 155 = .ok (.bipush (-4), 2) := by decide +kernel
theorem dX12_targets_157 : decode cX12_targets 157 = .ok (.if_icmp .ne 7, 3) := by decide +kernel
theorem dX12_targets_160 : decode cX12_targets 160 = .ok (.iconst 1, 1) := by decide +kernel
theorem dX12_targets_161 : decode cX12_targets 161 = .ok (.goto 4, 3) := by decide +kernel
theorem dX12_targets_164 : decode cX12_targets 164 = .ok (.iconst 0, 1) := by decide +kernel
theorem dX12_targets_165 : decode cX12_targets 165 = .ok (.istore 4, 2) := by decide +kernel
theorem dX12_targets_167 : decode cX12_targets 167 = .ok (.iinc 6 1, 3) := by decide +kernel
theorem dX12_targets_170 : decode cX12_targets 170 = .ok (.goto (-78), 3) := by decide +kernel
theorem dX12_targets_173 : decode cX12_targets 173 = .ok (.aload_n 0, 1) := by decide +kernel
theorem dX12_targets_174 : decode cX12_targets 174 = .ok (.iload_n 3, 1) := by decide +kernel
theorem dX12_targets_175 : decode cX12_targets 175 = .ok (.invokevirtual 215, 3) := by decide +kernel
theorem dX12_targets_178 : decode cX12_targets 178 = .ok (.ireturn, 1) := by decide +kernel
theorem dX12_ownGone_0 : decode cX12_ownGone 0 = .ok (.iload_n 1, 1) := by decide +kernel
theorem dX12_ownGone_1 : decode cX12_ownGone 1 = .ok (.istore_n 2, 1) := by decide +kernel
theorem dX12_ownGone_2 : decode cX12_ownGone 2 = .ok (.iconst 0, 1) := by decide +kernel
theorem dX12_ownGone_3 : decode cX12_ownGone 3 = .ok (.istore_n 3, 1) := by decide +kernel
theorem dX12_ownGone_4 : decode cX12_ownGone 4 = .ok (.iload_n 3, 1) := by decide +kernel
theorem dX12_ownGone_5 : decode cX12_ownGone 5 = .ok (.aload_n 0, 1) := by decide +kernel
theorem dX12_ownGone_6 : decode cX12_ownGone 6 = .ok (.getfield 105, 3) := by decide +kernel
theorem dX12_ownGone_9 : decode cX12_ownGone 9 = .ok (.if_icmp .ge 50, 3) := by decide +kernel
theorem dX12_ownGone_12 : decode cX12_ownGone 12 = .ok (.iload_n 2, 1) := by decide +kernel
theorem dX12_ownGone_13 : decode cX12_ownGone 13 = .ok (.aload_n 0, 1) := by decide +kernel
theorem dX12_ownGone_14 : decode cX12_ownGone 14 = .ok (.getfield 35, 3) := by decide +kernel
theorem dX12_ownGone_17 : decode cX12_ownGone 17 = .ok (.iload_n 3, 1) := by decide +kernel
theorem dX12_ownGone_18 : decode cX12_ownGone 18 = .ok (.iaload, 1) := by decide +kernel
theorem dX12_ownGone_19 : decode cX12_ownGone 19 = .ok (.bipush (-4), 2) := by decide +kernel
theorem dX12_ownGone_21 : decode cX12_ownGone 21 = .ok (.if_icmp .eq 29, 3) := by decide +kernel
theorem dX12_ownGone_24 : decode cX12_ownGone 24 = .ok (.aload_n 0, 1) := by decide +kernel
theorem dX12_ownGone_25 : decode cX12_ownGone 25 = .ok (.getfield 17, 3) := by decide +kernel
theorem dX12_ownGone_28 : decode cX12_ownGone 28 = .ok (.iload_n 3, 1) := by decide +kernel
theorem dX12_ownGone_29 : decode cX12_ownGone 29 = .ok (.iaload, 1) := by decide +kernel
theorem dX12_ownGone_30 : decode cX12_ownGone 30 = .ok (.aload_n 0, 1) := by decide +kernel
theorem dX12_ownGone_31 : decode cX12_ownGone 31 = .ok (.getfield 204, 3) := by decide +kernel
theorem dX12_ownGone_34 : decode cX12_ownGone 34 = .ok (.if_icmp .ne 16, 3) := by decide +kernel
theorem dX12_ownGone_37 : decode cX12_ownGone 37 = .ok (.iconst 1, 1) := by decide +kernel
theorem dX12_ownGone_38 : decode cX12_ownGone 38 = .ok (.aload_n 0, 1) := by decide +kernel
theorem dX12_ownGone_39 : decode cX12_ownGone 39 = .ok (.getfield 35, 3) := by decide +kernel
theorem dX12_ownGone_42 : decode cX12_ownGone 42 = .ok (.iload_n 3, 1) := by decide +kernel
theorem dX12_ownGone_43 : decode cX12_ownGone 43 = .ok (.iaload, 1) := by decide +kernel
theorem dX12_ownGone_44 : decode cX12_ownGone 44 = .ok (.ishl, 1) := by decide +kernel
theorem dX12_ownGone_45 : decode cX12_ownGone 45 = .ok (.iconst (-1), 1) := by decide +kernel
theorem dX12_ownGone_46 : decode cX12_ownGone 46 = .ok (.ixor, 1) := by decide +kernel
theorem dX12_ownGone_47 : decode cX12_ownGone 47 = .ok (.goto 4, 3) := by decide +kernel
theorem dX12_ownGone_50 : decode cX12_ownGone 50 = .ok (.iconst (-1), 1) := by decide +kernel
theorem dX12_ownGone_51 : decode cX12_ownGone 51 = .ok (.iand, 1) := by decide +kernel
theorem dX12_ownGone_52 : decode cX12_ownGone 52 = .ok (.istore_n 2, 1) := by decide +kernel
theorem dX12_ownGone_53 : decode cX12_ownGone 53 = .ok (.iinc 3 1, 3) := by decide +kernel
theorem dX12_ownGone_56 : decode cX12_ownGone 56 = .ok (.goto (-52), 3) := by decide +kernel
theorem dX12_ownGone_59 : decode cX12_ownGone 59 = .ok (.iload_n 2, 1) := by decide +kernel
theorem dX12_ownGone_60 : decode cX12_ownGone 60 = .ok (.ireturn, 1) := by decide +kernel
theorem dX12_findMoves_0 : decode cX12_findMoves 0 = .ok (.iconst 0, 1) := by decide +kernel
theorem dX12_findMoves_1 : decode cX12_findMoves 1 = .ok (.istore_n 3, 1) := by decide +kernel
theorem dX12_findMoves_2 : decode cX12_findMoves 2 = .ok (.aload_n 0, 1) := by decide +kernel
theorem dX12_findMoves_3 : decode cX12_findMoves 3 = .ok (.invokevirtual 221, 3) := by decide +kernel
theorem dX12_findMoves_6 : decode cX12_findMoves 6 = .ok (.bipush (-4), 2) := by decide +kernel
theorem dX12_findMoves_8 : decode cX12_findMoves 8 = .ok (.if_icmp .eq 7, 3) := by decide +kernel
theorem dX12_findMoves_11 : decode cX12_findMoves 11 = .ok (.iconst 1, 1) := by decide +kernel
theorem dX12_findMoves_12 : decode cX12_findMoves 12 = .ok (.goto 4, 3) := by decide +kernel
theorem dX12_findMoves_15 : decode cX12_findMoves 15 = .ok (.iconst 0, 1) := by decide +kernel
theorem dX12_findMoves_16 : decode cX12_findMoves 16 = .ok (.istore 4, 2) := by decide +kernel
theorem dX12_findMoves_18 : decode cX12_findMoves 18 = .ok (.iconst 0, 1) := by decide +kernel
theorem dX12_findMoves_19 : decode cX12_findMoves 19 = .ok (.istore 5, 2) := by decide +kernel
theorem dX12_findMoves_21 : decode cX12_findMoves 21 = .ok (.iload 5, 2) := by decide +kernel
theorem dX12_findMoves_23 : decode cX12_findMoves 23 = .ok (.aload_n 0, 1) := by decide +kernel
theorem dX12_findMoves_24 : decode cX12_findMoves 24 = .ok (.getfield 105, 3) := by decide +kernel
theorem dX12_findMoves_27 : decode cX12_findMoves 27 = .ok (.if_icmp .ge 136, 3) := by decide +kernel
theorem dX12_findMoves_30 : decode cX12_findMoves 30 = .ok (.iload 4, 2) := by decide +kernel
theorem dX12_findMoves_32 : decode cX12_findMoves 32 = .ok (.ifCond .ne 48, 3) := by decide +kernel
theorem dX12_findMoves_35 : decode cX12_findMoves 35 = .ok (.iload_n 1, 1) := by decide +kernel
theorem dX12_findMoves_36 : decode cX12_findMoves 36 = .ok (.iconst 4, 1) := by decide +kernel
theorem dX12_findMoves_37 : decode cX12_findMoves 37 = .ok (.if_icmp .eq 43, 3) := by decide +kernel
theorem dX12_findMoves_40 : decode cX12_findMoves 40 = .ok (.aload_n 0, 1) := by decide +kernel
theorem dX12_findMoves_41 : decode cX12_findMoves 41 = .ok (.getfield 17, 3) := by decide +kernel
theorem dX12_findMoves_44 : decode cX12_findMoves 44 = .ok (.iload 5, 2) := by decide +kernel
theorem dX12_findMoves_46 : decode cX12_findMoves 46 = .ok (.iaload, 1) := by decide +kernel
theorem dX12_findMoves_47 : decode cX12_findMoves 47 = .ok (.aload_n 0, 1) := by decide +kernel
theorem dX12_findMoves_48 : decode cX12_findMoves 48 = .ok (.getfield 204, 3) := by decide +kernel
theorem dX12_findMoves_51 : decode cX12_findMoves 51 = .ok (.if_icmp .ne 29, 3) := by decide +kernel
theorem dX12_findMoves_54 : decode cX12_findMoves 54 = .ok (.aload_n 0, 1) := by decide +kernel
theorem dX12_findMoves_55 : decode cX12_findMoves 55 = .ok (.getfield 35, 3) := by decide +kernel
theorem dX12_findMoves_58 : decode cX12_findMoves 58 = .ok (.iload 5, 2) := by decide +kernel
theorem dX12_findMoves_60 : decode cX12_findMoves 60 = .ok (.iaload, 1) := by decide +kernel
theorem dX12_findMoves_61 : decode cX12_findMoves 61 = .ok (.bipush (-4), 2) := by decide +kernel
theorem dX12_findMoves_63 : decode cX12_findMoves 63 = .ok (.if_icmp .eq 17, 3) := by decide +kernel
theorem dX12_findMoves_66 : decode cX12_findMoves 66 = .ok (.aload_n 0, 1) := by decide +kernel
theorem dX12_findMoves_67 : decode cX12_findMoves 67 = .ok (.getfield 38, 3) := by decide +kernel
theorem dX12_findMoves_70 : decode cX12_findMoves 70 = .ok (.iload 5, 2) := by decide +kernel
theorem dX12_findMoves_72 : decode cX12_findMoves 72 = .ok (.iaload, 1) := by decide +kernel
theorem dX12_findMoves_73 : decode cX12_findMoves 73 = .ok (.ifCond .le 7, 3) := by decide +kernel
theorem dX12_findMoves_76 : decode cX12_findMoves 76 = .ok (.iconst 1, 1) := by decide +kernel
theorem dX12_findMoves_77 : decode cX12_findMoves 77 = .ok (.goto 4, 3) := by decide +kernel
theorem dX12_findMoves_80 : decode cX12_findMoves 80 = .ok (.iconst 0, 1) := by decide +kernel
theorem dX12_findMoves_81 : decode cX12_findMoves 81 = .ok (.istore 6, 2) := by decide +kernel
theorem dX12_findMoves_83 : decode cX12_findMoves 83 = .ok (.iload 6, 2) := by decide +kernel
theorem dX12_findMoves_85 : decode cX12_findMoves 85 = .ok (.ifCond .eq 13, 3) := by decide +kernel
theorem dX12_findMoves_88 : decode cX12_findMoves 88 = .ok (.aload_n 0, 1) := by decide +kernel
theorem dX12_findMoves_89 : decode cX12_findMoves 89 = .ok (.iload 5, 2) := by decide +kernel
theorem dX12_findMoves_91 : decode cX12_findMoves 91 = .ok (.iload_n 1, 1) := by decide +kernel
theorem dX12_findMoves_92 : decode cX12_findMoves 92 = .ok (.invokevirtual 224, 3) := by decide +kernel
theorem dX12_findMoves_95 : decode cX12_findMoves 95 = .ok (.goto 4, 3) := by decide +kernel
theorem dX12_findMoves_98 : decode cX12_findMoves 98 = .ok (.iconst 0, 1) := by decide +kernel
theorem dX12_findMoves_99 : decode cX12_findMoves 99 = .ok (.istore 7, 2) := by decide +kernel
theorem dX12_findMoves_101 : decode cX12_findMoves 101 = .ok (.iconst 0, 1) := by decide +kernel
theorem dX12_findMoves_102 : decode cX12_findMoves 102 = .ok (.istore 8, 2) := by decide +kernel
theorem dX12_findMoves_104 : decode cX12_findMoves 104 = .ok (.iload 8, 2) := by decide +kernel
theorem dX12_findMoves_106 : decode cX12_findMoves 106 = .ok (.aload_n 0, 1) := by decide +kernel
theorem dX12_findMoves_107 : decode cX12_findMoves 107 = .ok (.getfield 99, 3) := by decide +kernel
theorem dX12_findMoves_110 : decode cX12_findMoves 110 = .ok (.aload_n 0, 1) := by decide +kernel
theorem dX12_findMoves_111 : decode cX12_findMoves 111 = .ok (.getfield 102, 3) := by decide +kernel
theorem dX12_findMoves_114 : decode cX12_findMoves 114 = .ok (.imul, 1) := by decide +kernel
theorem dX12_findMoves_115 : decode cX12_findMoves 115 = .ok (.if_icmp .ge 42, 3) := by decide +kernel
theorem dX12_findMoves_118 : decode cX12_findMoves 118 = .ok (.iload 7, 2) := by decide +kernel
theorem dX12_findMoves_120 : decode cX12_findMoves 120 = .ok (.iload 8, 2) := by decide +kernel
theorem dX12_findMoves_122 : decode cX12_findMoves 122 = .ok (.ishr, 1) := by decide +kernel
theorem dX12_findMoves_123 : decode cX12_findMoves 123 = .ok (.iconst 1, 1) := by decide +kernel
theorem dX12_findMoves_124 : decode cX12_findMoves 124 = .ok (.iand, 1) := by decide +kernel
theorem dX12_findMoves_125 : decode cX12_findMoves 125 = .ok (.iconst 1, 1) := by decide +kernel
theorem dX12_findMoves_126 : decode cX12_findMoves 126 = .ok (.if_icmp .ne 25, 3) := by decide +kernel
theorem dX12_findMoves_129 : decode cX12_findMoves 129 = .ok (.aload_n 0, 1) := by decide +kernel
theorem dX12_findMoves_130 : decode cX12_findMoves 130 = .ok (.getfield 41, 3) := by decide +kernel
theorem dX12_findMoves_133 : decode cX12_findMoves 133 = .ok (.bipush 64, 2) := by decide +kernel
theorem dX12_findMoves_135 : decode cX12_findMoves 135 = .ok (.iload_n 2, 1) := by decide +kernel
theorem dX12_findMoves_136 : decode cX12_findMoves 136 = .ok (.imul, 1) := by decide +kernel
theorem dX12_findMoves_137 : decode cX12_findMoves 137 = .ok (.iload_n 3, 1) := by decide +kernel
theorem dX12_findMoves_138 : decode cX12_findMoves 138 = .ok (.iadd, 1) := by decide +kernel
theorem dX12_findMoves_139 : decode cX12_findMoves 139 = .ok (.bipush 100, 2) := by decide +kernel
theorem dX12_findMoves_141 : decode cX12_findMoves 141 = .ok (.iload 5, 2) := by decide +kernel
theorem dX12_findMoves_143 : decode cX12_findMoves 143 = .ok (.imul, 1) := by decide +kernel
theorem dX12_findMoves_144 : decode cX12_findMoves 144 = .ok (.iload 8, 2) := by decide +kernel
theorem dX12_findMoves_146 : decode cX12_findMoves 146 = .ok (.iadd, 1) := by decide +kernel
theorem dX12_findMoves_147 : decode cX12_findMoves 147 = .ok (.iastore, 1) := by decide +kernel
theorem dX12_findMoves_148 : decode cX12_findMoves 148 = .ok (.iinc 3 1, 3) := by decide +kernel
theorem dX12_findMoves_151 : decode cX12_findMoves 151 = .ok (.iinc 8 1, 3) := by decide +kernel
theorem dX12_findMoves_154 : decode cX12_findMoves 154 = .ok (.goto (-50), 3) := by decide +kernel
theorem dX12_findMoves_157 : decode cX12_findMoves 157 = .ok (.iinc 5 1, 3) := by decide +kernel
theorem dX12_findMoves_160 : decode cX12_findMoves 160 = .ok (.goto (-139), 3) := by decide +kernel
theorem dX12_findMoves_163 : decode cX12_findMoves 163 = .ok (.aload_n 0, 1) := by decide +kernel
theorem dX12_findMoves_164 : decode cX12_findMoves 164 = .ok (.getfield 44, 3) := by decide +kernel
theorem dX12_findMoves_167 : decode cX12_findMoves 167 = .ok (.iload_n 2, 1) := by decide +kernel
theorem dX12_findMoves_168 : decode cX12_findMoves 168 = .ok (.iload_n 3, 1) := by decide +kernel
theorem dX12_findMoves_169 : decode cX12_findMoves 169 = .ok (.iastore, 1) := by decide +kernel
theorem dX12_findMoves_170 : decode cX12_findMoves 170 = .ok (.return_, 1) := by decide +kernel
theorem dX12_saves_0 : decode cX12_saves 0 = .ok (.iconst 0, 1) := by decide +kernel
theorem dX12_saves_1 : decode cX12_saves 1 = .ok (.istore_n 2, 1) := by decide +kernel
theorem dX12_saves_2 : decode cX12_saves 2 = .ok (.iload_n 2, 1) := by decide +kernel
theorem dX12_saves_3 : decode cX12_saves 3 = .ok (.bipush 6, 2) := by decide +kernel
theorem dX12_saves_5 : decode cX12_saves 5 = .ok (.if_icmp .ge 46, 3) := by decide +kernel
theorem dX12_saves_8 : decode cX12_saves 8 = .ok (.aload_n 0, 1) := by decide +kernel
theorem dX12_saves_9 : decode cX12_saves 9 = .ok (.getfield 47, 3) := by decide +kernel
theorem dX12_saves_12 : decode cX12_saves 12 = .ok (.bipush 13, 2) := by decide +kernel
theorem dX12_saves_14 : decode cX12_saves 14 = .ok (.iload_n 1, 1) := by decide +kernel
theorem dX12_saves_15 : decode cX12_saves 15 = .ok (.imul, 1) := by decide +kernel
theorem dX12_saves_16 : decode cX12_saves 16 = .ok (.iload_n 2, 1) := by decide +kernel
theorem dX12_saves_17 : decode cX12_saves 17 = .ok (.iadd, 1) := by decide +kernel
theorem dX12_saves_18 : decode cX12_saves 18 = .ok (.aload_n 0, 1) := by decide +kernel
theorem dX12_saves_19 : decode cX12_saves 19 = .ok (.getfield 35, 3) := by decide +kernel
theorem dX12_saves_22 : decode cX12_saves 22 = .ok (.iload_n 2, 1) := by decide +kernel
theorem dX12_saves_23 : decode cX12_saves 23 = .ok (.iaload, 1) := by decide +kernel
theorem dX12_saves_24 : decode cX12_saves 24 = .ok (.iastore, 1) := by decide +kernel
theorem dX12_saves_25 : decode cX12_saves 25 = .ok (.aload_n 0, 1) := by decide +kernel
theorem dX12_saves_26 : decode cX12_saves 26 = .ok (.getfield 47, 3) := by decide +kernel
theorem dX12_saves_29 : decode cX12_saves 29 = .ok (.bipush 13, 2) := by decide +kernel
theorem dX12_saves_31 : decode cX12_saves 31 = .ok (.iload_n 1, 1) := by decide +kernel
theorem dX12_saves_32 : decode cX12_saves 32 = .ok (.imul, 1) := by decide +kernel
theorem dX12_saves_33 : decode cX12_saves 33 = .ok (.bipush 6, 2) := by decide +kernel
theorem dX12_saves_35 : decode cX12_saves 35 = .ok (.iadd, 1) := by decide +kernel
theorem dX12_saves_36 : decode cX12_saves 36 = .ok (.iload_n 2, 1) := by decide +kernel
theorem dX12_saves_37 : decode cX12_saves 37 = .ok (.iadd, 1) := by decide +kernel
theorem dX12_saves_38 : decode cX12_saves 38 = .ok (.aload_n 0, 1) := by decide +kernel
theorem dX12_saves_39 : decode cX12_saves 39 = .ok (.getfield 38, 3) := by decide +kernel
theorem dX12_saves_42 : decode cX12_saves 42 = .ok (.iload_n 2, 1) := by decide +kernel
theorem dX12_saves_43 : decode cX12_saves 43 = .ok (.iaload, 1) := by decide +kernel
theorem dX12_saves_44 : decode cX12_saves 44 = .ok (.iastore, 1) := by decide +kernel
theorem dX12_saves_45 : decode cX12_saves 45 = .ok (.iinc 2 1, 3) := by decide +kernel
theorem dX12_saves_48 : decode cX12_saves 48 = .ok (.goto (-46), 3) := by decide +kernel
theorem dX12_saves_51 : decode cX12_saves 51 = .ok (.aload_n 0, 1) := by decide +kernel
theorem dX12_saves_52 : decode cX12_saves 52 = .ok (.getfield 47, 3) := by decide +kernel
theorem dX12_saves_55 : decode cX12_saves 55 = .ok (.bipush 13, 2) := by decide +kernel
theorem dX12_saves_57 : decode cX12_saves 57 = .ok (.iload_n 1, 1) := by decide +kernel
theorem dX12_saves_58 : decode cX12_saves 58 = .ok (.imul, 1) := by decide +kernel
theorem dX12_saves_59 : decode cX12_saves 59 = .ok (.bipush 12, 2) := by decide +kernel
theorem dX12_saves_61 : decode cX12_saves 61 = .ok (.iadd, 1) := by decide +kernel
theorem dX12_saves_62 : decode cX12_saves 62 = .ok (.aload_n 0, 1) := by decide +kernel
theorem dX12_saves_63 : decode cX12_saves 63 = .ok (.getfield 204, 3) := by decide +kernel
theorem dX12_saves_66 : decode cX12_saves 66 = .ok (.iastore, 1) := by decide +kernel
theorem dX12_saves_67 : decode cX12_saves 67 = .ok (.return_, 1) := by decide +kernel
theorem dX12_returns_0 : decode cX12_returns 0 = .ok (.iconst 0, 1) := by decide +kernel
theorem dX12_returns_1 : decode cX12_returns 1 = .ok (.istore_n 2, 1) := by decide +kernel
theorem dX12_returns_2 : decode cX12_returns 2 = .ok (.iload_n 2, 1) := by decide +kernel
theorem dX12_returns_3 : decode cX12_returns 3 = .ok (.bipush 6, 2) := by decide +kernel
theorem dX12_returns_5 : decode cX12_returns 5 = .ok (.if_icmp .ge 46, 3) := by decide +kernel
theorem dX12_returns_8 : decode cX12_returns 8 = .ok (.aload_n 0, 1) := by decide +kernel
theorem dX12_returns_9 : decode cX12_returns 9 = .ok (.getfield 35, 3) := by decide +kernel
theorem dX12_returns_12 : decode cX12_returns 12 = .ok (.iload_n 2, 1) := by decide +kernel
theorem dX12_returns_13 : decode cX12_returns 13 = .ok (.aload_n 0, 1) := by decide +kernel
theorem dX12_returns_14 : decode cX12_returns 14 = .ok (.getfield 47, 3) := by decide +kernel
theorem dX12_returns_17 : decode cX12_returns 17 = .ok (.bipush 13, 2) := by decide +kernel
theorem dX12_returns_19 : decode cX12_returns 19 = .ok (.iload_n 1, 1) := by decide +kernel
theorem dX12_returns_20 : decode cX12_returns 20 = .ok (.imul, 1) := by decide +kernel
theorem dX12_returns_21 : decode cX12_returns 21 = .ok (.iload_n 2, 1) := by decide +kernel
theorem dX12_returns_22 : decode cX12_returns 22 = .ok (.iadd, 1) := by decide +kernel
theorem dX12_returns_23 : decode cX12_returns 23 = .ok (.iaload, 1) := by decide +kernel
theorem dX12_returns_24 : decode cX12_returns 24 = .ok (.iastore, 1) := by decide +kernel
theorem dX12_returns_25 : decode cX12_returns 25 = .ok (.aload_n 0, 1) := by decide +kernel
theorem dX12_returns_26 : decode cX12_returns 26 = .ok (.getfield 38, 3) := by decide +kernel
theorem dX12_returns_29 : decode cX12_returns 29 = .ok (.iload_n 2, 1) := by decide +kernel
theorem dX12_returns_30 : decode cX12_returns 30 = .ok (.aload_n 0, 1) := by decide +kernel
theorem dX12_returns_31 : decode cX12_returns 31 = .ok (.getfield 47, 3) := by decide +kernel
theorem dX12_returns_34 : decode cX12_returns 34 = .ok (.bipush 13, 2) := by decide +kernel
theorem dX12_returns_36 : decode cX12_returns 36 = .ok (.iload_n 1, 1) := by decide +kernel
theorem dX12_returns_37 : decode cX12_returns 37 = .ok (.imul, 1) := by decide +kernel
theorem dX12_returns_38 : decode cX12_returns 38 = .ok (.bipush 6, 2) := by decide +kernel
theorem dX12_returns_40 : decode cX12_returns 40 = .ok (.iadd, 1) := by decide +kernel
theorem dX12_returns_41 : decode cX12_returns 41 = .ok (.iload_n 2, 1) := by decide +kernel
theorem dX12_returns_42 : decode cX12_returns 42 = .ok (.iadd, 1) := by decide +kernel
theorem dX12_returns_43 : decode cX12_returns 43 = .ok (.iaload, 1) := by decide +kernel
theorem dX12_returns_44 : decode cX12_returns 44 = .ok (.iastore, 1) := by decide +kernel
theorem dX12_returns_45 : decode cX12_returns 45 = .ok (.iinc 2 1, 3) := by decide +kernel
theorem dX12_returns_48 : decode cX12_returns 48 = .ok (.goto (-46), 3) := by decide +kernel
theorem dX12_returns_51 : decode cX12_returns 51 = .ok (.aload_n 0, 1) := by decide +kernel
theorem dX12_returns_52 : decode cX12_returns 52 = .ok (.aload_n 0, 1) := by decide +kernel
theorem dX12_returns_53 : decode cX12_returns 53 = .ok (.getfield 47, 3) := by decide +kernel
theorem dX12_returns_56 : decode cX12_returns 56 = .ok (.bipush 13, 2) := by decide +kernel
theorem dX12_returns_58 : decode cX12_returns 58 = .ok (.iload_n 1, 1) := by decide +kernel
theorem dX12_returns_59 : decode cX12_returns 59 = .ok (.imul, 1) := by decide +kernel
theorem dX12_returns_60 : decode cX12_returns 60 = .ok (.bipush 12, 2) := by decide +kernel
theorem dX12_returns_62 : decode cX12_returns 62 = .ok (.iadd, 1) := by decide +kernel
theorem dX12_returns_63 : decode cX12_returns 63 = .ok (.iaload, 1) := by decide +kernel
theorem dX12_returns_64 : decode cX12_returns 64 = .ok (.putfield 204, 3) := by decide +kernel
theorem dX12_returns_67 : decode cX12_returns 67 = .ok (.return_, 1) := by decide +kernel
theorem dX12_goes_0 : decode cX12_goes 0 = .ok (.iload_n 2, 1) := by decide +kernel
theorem dX12_goes_1 : decode cX12_goes 1 = .ok (.bipush (-4), 2) := by decide +kernel
theorem dX12_goes_3 : decode cX12_goes 3 = .ok (.if_icmp .ne 8, 3) := by decide +kernel
theorem dX12_goes_6 : decode cX12_goes 6 = .ok (.bipush (-4), 2) := by decide +kernel
theorem dX12_goes_8 : decode cX12_goes 8 = .ok (.goto 7, 3) := by decide +kernel
theorem dX12_goes_11 : decode cX12_goes 11 = .ok (.iload_n 2, 1) := by decide +kernel
theorem dX12_goes_12 : decode cX12_goes 12 = .ok (.bipush 100, 2) := by decide +kernel
theorem dX12_goes_14 : decode cX12_goes 14 = .ok (.idiv, 1) := by decide +kernel
theorem dX12_goes_15 : decode cX12_goes 15 = .ok (.istore_n 3, 1) := by decide +kernel
theorem dX12_goes_16 : decode cX12_goes 16 = .ok (.iload_n 2, 1) := by decide +kernel
theorem dX12_goes_17 : decode cX12_goes 17 = .ok (.bipush (-4), 2) := by decide +kernel
theorem dX12_goes_19 : decode cX12_goes 19 = .ok (.if_icmp .ne 8, 3) := by decide +kernel
theorem dX12_goes_22 : decode cX12_goes 22 = .ok (.bipush (-4), 2) := by decide +kernel
theorem dX12_goes_24 : decode cX12_goes 24 = .ok (.goto 11, 3) := by decide +kernel
theorem dX12_goes_27 : decode cX12_goes 27 = .ok (.aload_n 0, 1) := by decide +kernel
theorem dX12_goes_28 : decode cX12_goes 28 = .ok (.iload_n 2, 1) := by decide +kernel
theorem dX12_goes_29 : decode cX12_goes 29 = .ok (.bipush 100, 2) := by decide +kernel
theorem dX12_goes_31 : decode cX12_goes 31 = .ok (.irem, 1) := by decide +kernel
theorem dX12_goes_32 : decode cX12_goes 32 = .ok (.invokevirtual 218, 3) := by decide +kernel
theorem dX12_goes_35 : decode cX12_goes 35 = .ok (.istore 4, 2) := by decide +kernel
theorem dX12_goes_37 : decode cX12_goes 37 = .ok (.iload 4, 2) := by decide +kernel
theorem dX12_goes_39 : decode cX12_goes 39 = .ok (.bipush (-4), 2) := by decide +kernel
theorem dX12_goes_41 : decode cX12_goes 41 = .ok (.if_icmp .eq 12, 3) := by decide +kernel
theorem dX12_goes_44 : decode cX12_goes 44 = .ok (.aload_n 0, 1) := by decide +kernel
theorem dX12_goes_45 : decode cX12_goes 45 = .ok (.getfield 35, 3) := by decide +kernel
theorem dX12_goes_48 : decode cX12_goes 48 = .ok (.iload 4, 2) := by decide +kernel
theorem dX12_goes_50 : decode cX12_goes 50 = .ok (.bipush (-4), 2) := by decide +kernel
theorem dX12_goes_52 : decode cX12_goes 52 = .ok (.iastore, 1) := by decide +kernel
theorem dX12_goes_53 : decode cX12_goes 53 = .ok (.iload_n 3, 1) := by decide +kernel
theorem dX12_goes_54 : decode cX12_goes 54 = .ok (.bipush (-4), 2) := by decide +kernel
theorem dX12_goes_56 : decode cX12_goes 56 = .ok (.if_icmp .eq 13, 3) := by decide +kernel
theorem dX12_goes_59 : decode cX12_goes 59 = .ok (.aload_n 0, 1) := by decide +kernel
theorem dX12_goes_60 : decode cX12_goes 60 = .ok (.getfield 35, 3) := by decide +kernel
theorem dX12_goes_63 : decode cX12_goes 63 = .ok (.iload_n 3, 1) := by decide +kernel
theorem dX12_goes_64 : decode cX12_goes 64 = .ok (.iload_n 2, 1) := by decide +kernel
theorem dX12_goes_65 : decode cX12_goes 65 = .ok (.bipush 100, 2) := by decide +kernel
theorem dX12_goes_67 : decode cX12_goes 67 = .ok (.irem, 1) := by decide +kernel
theorem dX12_goes_68 : decode cX12_goes 68 = .ok (.iastore, 1) := by decide +kernel
theorem dX12_goes_69 : decode cX12_goes 69 = .ok (.iconst 0, 1) := by decide +kernel
theorem dX12_goes_70 : decode cX12_goes 70 = .ok (.istore 5, 2) := by decide +kernel
theorem dX12_goes_72 : decode cX12_goes 72 = .ok (.iload 5, 2) := by decide +kernel
theorem dX12_goes_74 : decode cX12_goes 74 = .ok (.aload_n 0, 1) := by decide +kernel
theorem dX12_goes_75 : decode cX12_goes 75 = .ok (.getfield 105, 3) := by decide +kernel
theorem dX12_goes_78 : decode cX12_goes 78 = .ok (.if_icmp .ge 78, 3) := by decide +kernel
theorem dX12_goes_81 : decode cX12_goes 81 = .ok (.iload_n 1, 1) := by decide +kernel
theorem dX12_goes_82 : decode cX12_goes 82 = .ok (.iconst 4, 1) := by decide +kernel
theorem dX12_goes_83 : decode cX12_goes 83 = .ok (.if_icmp .eq 49, 3) := by decide +kernel
theorem dX12_goes_86 : decode cX12_goes 86 = .ok (.iload 5, 2) := by decide +kernel
theorem dX12_goes_88 : decode cX12_goes 88 = .ok (.iload_n 3, 1) := by decide +kernel
theorem dX12_goes_89 : decode cX12_goes 89 = .ok (.if_icmp .eq 43, 3) := by decide +kernel
theorem dX12_goes_92 : decode cX12_goes 92 = .ok (.aload_n 0, 1) := by decide +kernel
theorem dX12_goes_93 : decode cX12_goes 93 = .ok (.getfield 17, 3) := by decide +kernel
theorem dX12_goes_96 : decode cX12_goes 96 = .ok (.iload 5, 2) := by decide +kernel
theorem dX12_goes_98 : decode cX12_goes 98 = .ok (.iaload, 1) := by decide +kernel
theorem dX12_goes_99 : decode cX12_goes 99 = .ok (.aload_n 0, 1) := by decide +kernel
theorem dX12_goes_100 : decode cX12_goes 100 = .ok (.getfield 204, 3) := by decide +kernel
theorem dX12_goes_103 : decode cX12_goes 103 = .ok (.if_icmp .ne 29, 3) := by decide +kernel
theorem dX12_goes_106 : decode cX12_goes 106 = .ok (.aload_n 0, 1) := by decide +kernel
theorem dX12_goes_107 : decode cX12_goes 107 = .ok (.getfield 35, 3) := by decide +kernel
theorem dX12_goes_110 : decode cX12_goes 110 = .ok (.iload 5, 2) := by decide +kernel
theorem dX12_goes_112 : decode cX12_goes 112 = .ok (.iaload, 1) := by decide +kernel
theorem dX12_goes_113 : decode cX12_goes 113 = .ok (.bipush (-4), 2) := by decide +kernel
theorem dX12_goes_115 : decode cX12_goes 115 = .ok (.if_icmp .eq 17, 3) := by decide +kernel
theorem dX12_goes_118 : decode cX12_goes 118 = .ok (.aload_n 0, 1) := by decide +kernel
theorem dX12_goes_119 : decode cX12_goes 119 = .ok (.getfield 38, 3) := by decide +kernel
theorem dX12_goes_122 : decode cX12_goes 122 = .ok (.iload 5, 2) := by decide +kernel
theorem dX12_goes_124 : decode cX12_goes 124 = .ok (.iaload, 1) := by decide +kernel
theorem dX12_goes_125 : decode cX12_goes 125 = .ok (.ifCond .le 7, 3) := by decide +kernel
theorem dX12_goes_128 : decode cX12_goes 128 = .ok (.iconst 1, 1) := by decide +kernel
theorem dX12_goes_129 : decode cX12_goes 129 = .ok (.goto 4, 3) := by decide +kernel
theorem dX12_goes_132 : decode cX12_goes 132 = .ok (.iconst 0, 1) := by decide +kernel
theorem dX12_goes_133 : decode cX12_goes 133 = .ok (.istore 6, 2) := by decide +kernel
theorem dX12_goes_135 : decode cX12_goes 135 = .ok (.aload_n 0, 1) := by decide +kernel
theorem dX12_goes_136 : decode cX12_goes 136 = .ok (.getfield 38, 3) := by decide +kernel
theorem dX12_goes_139 : decode cX12_goes 139 = .ok (.iload 5, 2) := by decide +kernel
theorem dX12_goes_141 : decode cX12_goes 141 = .ok (.dup2, 1) := by decide +kernel
theorem dX12_goes_142 : decode cX12_goes 142 = .ok (.iaload, 1) := by decide +kernel
theorem dX12_goes_143 : decode cX12_goes 143 = .ok (.iload 6, 2) := by decide +kernel
theorem dX12_goes_145 : decode cX12_goes 145 = .ok (.invokestatic 189, 3) := by decide +kernel
theorem dX12_goes_148 : decode cX12_goes 148 = .ok (.isub, 1) := by decide +kernel
theorem dX12_goes_149 : decode cX12_goes 149 = .ok (.iastore, 1) := by decide +kernel
theorem dX12_goes_150 : decode cX12_goes 150 = .ok (.iinc 5 1, 3) := by decide +kernel
theorem dX12_goes_153 : decode cX12_goes 153 = .ok (.goto (-81), 3) := by decide +kernel
theorem dX12_goes_156 : decode cX12_goes 156 = .ok (.aload_n 0, 1) := by decide +kernel
theorem dX12_goes_157 : decode cX12_goes 157 = .ok (.iconst 1, 1) := by decide +kernel
theorem dX12_goes_158 : decode cX12_goes 158 = .ok (.aload_n 0, 1) := by decide +kernel
theorem dX12_goes_159 : decode cX12_goes 159 = .ok (.getfield 204, 3) := by decide +kernel
theorem dX12_goes_162 : decode cX12_goes 162 = .ok (.isub, 1) := by decide +kernel
theorem dX12_goes_163 : decode cX12_goes 163 = .ok (.putfield 204, 3) := by decide +kernel
theorem dX12_goes_166 : decode cX12_goes 166 = .ok (.iload 4, 2) := by decide +kernel
theorem dX12_goes_168 : decode cX12_goes 168 = .ok (.ireturn, 1) := by decide +kernel
theorem dX12_rule_0 : decode cX12_rule 0 = .ok (.iload_n 1, 1) := by decide +kernel
theorem dX12_rule_1 : decode cX12_rule 1 = .ok (.tableswitch 91 0 6 #[43, 48, 53, 58, 66, 74, 82], 43) := by decide +kernel
theorem dX12_rule_44 : decode cX12_rule 44 = .ok (.aload_n 0, 1) := by decide +kernel
theorem dX12_rule_45 : decode cX12_rule 45 = .ok (.getfield 99, 3) := by decide +kernel
theorem dX12_rule_48 : decode cX12_rule 48 = .ok (.ireturn, 1) := by decide +kernel
theorem dX12_rule_49 : decode cX12_rule 49 = .ok (.aload_n 0, 1) := by decide +kernel
theorem dX12_rule_50 : decode cX12_rule 50 = .ok (.getfield 102, 3) := by decide +kernel
theorem dX12_rule_53 : decode cX12_rule 53 = .ok (.ireturn, 1) := by decide +kernel
theorem dX12_rule_54 : decode cX12_rule 54 = .ok (.aload_n 0, 1) := by decide +kernel
theorem dX12_rule_55 : decode cX12_rule 55 = .ok (.getfield 105, 3) := by decide +kernel
theorem dX12_rule_58 : decode cX12_rule 58 = .ok (.ireturn, 1) := by decide +kernel
theorem dX12_rule_59 : decode cX12_rule 59 = .ok (.aload_n 0, 1) := by decide +kernel
theorem dX12_rule_60 : decode cX12_rule 60 = .ok (.getfield 7, 3) := by decide +kernel
theorem dX12_rule_63 : decode cX12_rule 63 = .ok (.bipush 12, 2) := by decide +kernel
theorem dX12_rule_65 : decode cX12_rule 65 = .ok (.iaload, 1) := by decide +kernel
theorem dX12_rule_66 : decode cX12_rule 66 = .ok (.ireturn, 1) := by decide +kernel
theorem dX12_rule_67 : decode cX12_rule 67 = .ok (.aload_n 0, 1) := by decide +kernel
theorem dX12_rule_68 : decode cX12_rule 68 = .ok (.getfield 7, 3) := by decide +kernel
theorem dX12_rule_71 : decode cX12_rule 71 = .ok (.bipush 18, 2) := by decide +kernel
theorem dX12_rule_73 : decode cX12_rule 73 = .ok (.iaload, 1) := by decide +kernel
theorem dX12_rule_74 : decode cX12_rule 74 = .ok (.ireturn, 1) := by decide +kernel
theorem dX12_rule_75 : decode cX12_rule 75 = .ok (.aload_n 0, 1) := by decide +kernel
theorem dX12_rule_76 : decode cX12_rule 76 = .ok (.getfield 7, 3) := by decide +kernel
theorem dX12_rule_79 : decode cX12_rule 79 = .ok (.bipush 19, 2) := by decide +kernel
theorem dX12_rule_81 : decode cX12_rule 81 = .ok (.iaload, 1) := by decide +kernel
theorem dX12_rule_82 : decode cX12_rule 82 = .ok (.ireturn, 1) := by decide +kernel
theorem dX12_rule_83 : decode cX12_rule 83 = .ok (.aload_n 0, 1) := by decide +kernel
theorem dX12_rule_84 : decode cX12_rule 84 = .ok (.invokevirtual 227, 3) := by decide +kernel
theorem dX12_rule_87 : decode cX12_rule 87 = .ok (.aload_n 0, 1) := by decide +kernel
theorem dX12_rule_88 : decode cX12_rule 88 = .ok (.invokevirtual 221, 3) := by decide +kernel
theorem dX12_rule_91 : decode cX12_rule 91 = .ok (.ireturn, 1) := by decide +kernel
theorem dX12_rule_92 : decode cX12_rule 92 = .ok (.iconst (-1), 1) := by decide +kernel
theorem dX12_rule_93 : decode cX12_rule 93 = .ok (.ireturn, 1) := by decide +kernel
theorem dX12_square_0 : decode cX12_square 0 = .ok (.aload_n 0, 1) := by decide +kernel
theorem dX12_square_1 : decode cX12_square 1 = .ok (.iload_n 1, 1) := by decide +kernel
theorem dX12_square_2 : decode cX12_square 2 = .ok (.invokevirtual 230, 3) := by decide +kernel
theorem dX12_square_5 : decode cX12_square 5 = .ok (.ifCond .ne 5, 3) := by decide +kernel
theorem dX12_square_8 : decode cX12_square 8 = .ok (.iconst (-1), 1) := by decide +kernel
theorem dX12_square_9 : decode cX12_square 9 = .ok (.ireturn, 1) := by decide +kernel
theorem dX12_square_10 : decode cX12_square 10 = .ok (.aload_n 0, 1) := by decide +kernel
theorem dX12_square_11 : decode cX12_square 11 = .ok (.invokevirtual 227, 3) := by decide +kernel
theorem dX12_square_14 : decode cX12_square 14 = .ok (.aload_n 0, 1) := by decide +kernel
theorem dX12_square_15 : decode cX12_square 15 = .ok (.iload_n 1, 1) := by decide +kernel
theorem dX12_square_16 : decode cX12_square 16 = .ok (.invokevirtual 218, 3) := by decide +kernel
theorem dX12_square_19 : decode cX12_square 19 = .ok (.ireturn, 1) := by decide +kernel
theorem dX12_piece_0 : decode cX12_piece 0 = .ok (.aload_n 0, 1) := by decide +kernel
theorem dX12_piece_1 : decode cX12_piece 1 = .ok (.iload_n 1, 1) := by decide +kernel
theorem dX12_piece_2 : decode cX12_piece 2 = .ok (.invokevirtual 233, 3) := by decide +kernel
theorem dX12_piece_5 : decode cX12_piece 5 = .ok (.ifCond .ne 5, 3) := by decide +kernel
theorem dX12_piece_8 : decode cX12_piece 8 = .ok (.iconst (-1), 1) := by decide +kernel
theorem dX12_piece_9 : decode cX12_piece 9 = .ok (.ireturn, 1) := by decide +kernel
theorem dX12_piece_10 : decode cX12_piece 10 = .ok (.iload_n 2, 1) := by decide +kernel
theorem dX12_piece_11 : decode cX12_piece 11 = .ok (.tableswitch 62 0 3 #[29, 36, 43, 52], 29) := by decide +kernel
theorem dX12_piece_40 : decode cX12_piece 40 = .ok (.aload_n 0, 1) := by decide +kernel
theorem dX12_piece_41 : decode cX12_piece 41 = .ok (.getfield 17, 3) := by decide +kernel
theorem dX12_piece_44 : decode cX12_piece 44 = .ok (.iload_n 1, 1) := by decide +kernel
theorem dX12_piece_45 : decode cX12_piece 45 = .ok (.iaload, 1) := by decide +kernel
theorem dX12_piece_46 : decode cX12_piece 46 = .ok (.ireturn, 1) := by decide +kernel
theorem dX12_piece_47 : decode cX12_piece 47 = .ok (.aload_n 0, 1) := by decide +kernel
theorem dX12_piece_48 : decode cX12_piece 48 = .ok (.getfield 20, 3) := by decide +kernel
theorem dX12_piece_51 : decode cX12_piece 51 = .ok (.iload_n 1, 1) := by decide +kernel
theorem dX12_piece_52 : decode cX12_piece 52 = .ok (.iaload, 1) := by decide +kernel
theorem dX12_piece_53 : decode cX12_piece 53 = .ok (.ireturn, 1) := by decide +kernel
theorem dX12_piece_54 : decode cX12_piece 54 = .ok (.aload_n 0, 1) := by decide +kernel
theorem dX12_piece_55 : decode cX12_piece 55 = .ok (.getfield 7, 3) := by decide +kernel
theorem dX12_piece_58 : decode cX12_piece 58 = .ok (.iconst 0, 1) := by decide +kernel
theorem dX12_piece_59 : decode cX12_piece 59 = .ok (.iload_n 1, 1) := by decide +kernel
theorem dX12_piece_60 : decode cX12_piece 60 = .ok (.iadd, 1) := by decide +kernel
theorem dX12_piece_61 : decode cX12_piece 61 = .ok (.iaload, 1) := by decide +kernel
theorem dX12_piece_62 : decode cX12_piece 62 = .ok (.ireturn, 1) := by decide +kernel
theorem dX12_piece_63 : decode cX12_piece 63 = .ok (.aload_n 0, 1) := by decide +kernel
theorem dX12_piece_64 : decode cX12_piece 64 = .ok (.getfield 7, 3) := by decide +kernel
theorem dX12_piece_67 : decode cX12_piece 67 = .ok (.bipush 6, 2) := by decide +kernel
theorem dX12_piece_69 : decode cX12_piece 69 = .ok (.iload_n 1, 1) := by decide +kernel
theorem dX12_piece_70 : decode cX12_piece 70 = .ok (.iadd, 1) := by decide +kernel
theorem dX12_piece_71 : decode cX12_piece 71 = .ok (.iaload, 1) := by decide +kernel
theorem dX12_piece_72 : decode cX12_piece 72 = .ok (.ireturn, 1) := by decide +kernel
theorem dX12_piece_73 : decode cX12_piece 73 = .ok (.iconst (-1), 1) := by decide +kernel
theorem dX12_piece_74 : decode cX12_piece 74 = .ok (.ireturn, 1) := by decide +kernel
theorem dX12_odd_0 : decode cX12_odd 0 = .ok (.iload_n 1, 1) := by decide +kernel
theorem dX12_odd_1 : decode cX12_odd 1 = .ok (.invokestatic 236, 3) := by decide +kernel
theorem dX12_odd_4 : decode cX12_odd 4 = .ok (.ifCond .eq 15, 3) := by decide +kernel
theorem dX12_odd_7 : decode cX12_odd 7 = .ok (.aload_n 0, 1) := by decide +kernel
theorem dX12_odd_8 : decode cX12_odd 8 = .ok (.getfield 7, 3) := by decide +kernel
theorem dX12_odd_11 : decode cX12_odd 11 = .ok (.bipush 13, 2) := by decide +kernel
theorem dX12_odd_13 : decode cX12_odd 13 = .ok (.iload_n 1, 1) := by decide +kernel
theorem dX12_odd_14 : decode cX12_odd 14 = .ok (.iadd, 1) := by decide +kernel
theorem dX12_odd_15 : decode cX12_odd 15 = .ok (.iaload, 1) := by decide +kernel
theorem dX12_odd_16 : decode cX12_odd 16 = .ok (.goto 4, 3) := by decide +kernel
theorem dX12_odd_19 : decode cX12_odd 19 = .ok (.iconst (-1), 1) := by decide +kernel
theorem dX12_odd_20 : decode cX12_odd 20 = .ok (.ireturn, 1) := by decide +kernel
theorem dX12_becomes_0 : decode cX12_becomes 0 = .ok (.aload_n 0, 1) := by decide +kernel
theorem dX12_becomes_1 : decode cX12_becomes 1 = .ok (.getfield 7, 3) := by decide +kernel
theorem dX12_becomes_4 : decode cX12_becomes 4 = .ok (.iload_n 1, 1) := by decide +kernel
theorem dX12_becomes_5 : decode cX12_becomes 5 = .ok (.iaload, 1) := by decide +kernel
theorem dX12_becomes_6 : decode cX12_becomes 6 = .ok (.istore_n 3, 1) := by decide +kernel
theorem dX12_becomes_7 : decode cX12_becomes 7 = .ok (.aload_n 0, 1) := by decide +kernel
theorem dX12_becomes_8 : decode cX12_becomes 8 = .ok (.getfield 7, 3) := by decide +kernel
theorem dX12_becomes_11 : decode cX12_becomes 11 = .ok (.iload_n 1, 1) := by decide +kernel
theorem dX12_becomes_12 : decode cX12_becomes 12 = .ok (.iload_n 2, 1) := by decide +kernel
theorem dX12_becomes_13 : decode cX12_becomes 13 = .ok (.iastore, 1) := by decide +kernel
theorem dX12_becomes_14 : decode cX12_becomes 14 = .ok (.iload_n 3, 1) := by decide +kernel
theorem dX12_becomes_15 : decode cX12_becomes 15 = .ok (.ireturn, 1) := by decide +kernel
theorem dX12_oil_0 : decode cX12_oil 0 = .ok (.aload_n 0, 1) := by decide +kernel
theorem dX12_oil_1 : decode cX12_oil 1 = .ok (.iload_n 1, 1) := by decide +kernel
theorem dX12_oil_2 : decode cX12_oil 2 = .ok (.invokevirtual 233, 3) := by decide +kernel
theorem dX12_oil_5 : decode cX12_oil 5 = .ok (.ifCond .eq 27, 3) := by decide +kernel
theorem dX12_oil_8 : decode cX12_oil 8 = .ok (.iload_n 2, 1) := by decide +kernel
theorem dX12_oil_9 : decode cX12_oil 9 = .ok (.i2l, 1) := by decide +kernel
theorem dX12_oil_10 : decode cX12_oil 10 = .ok (.lconst 0, 1) := by decide +kernel
theorem dX12_oil_11 : decode cX12_oil 11 = .ok (.ldc2_w 239, 3) := by decide +kernel
theorem dX12_oil_14 : decode cX12_oil 14 = .ok (.invokestatic 113, 3) := by decide +kernel
theorem dX12_oil_17 : decode cX12_oil 17 = .ok (.ifCond .eq 15, 3) := by decide +kernel
theorem dX12_oil_20 : decode cX12_oil 20 = .ok (.aload_n 0, 1) := by decide +kernel
theorem dX12_oil_21 : decode cX12_oil 21 = .ok (.bipush 6, 2) := by decide +kernel
theorem dX12_oil_23 : decode cX12_oil 23 = .ok (.iload_n 1, 1) := by decide +kernel
theorem dX12_oil_24 : decode cX12_oil 24 = .ok (.iadd, 1) := by decide +kernel
theorem dX12_oil_25 : decode cX12_oil 25 = .ok (.iload_n 2, 1) := by decide +kernel
theorem dX12_oil_26 : decode cX12_oil 26 = .ok (.invokevirtual 241, 3) := by decide +kernel
theorem dX12_oil_29 : decode cX12_oil 29 = .ok (.goto 4, 3) := by decide +kernel
theorem dX12_oil_32 : decode cX12_oil 32 = .ok (.iconst (-1), 1) := by decide +kernel
theorem dX12_oil_33 : decode cX12_oil 33 = .ok (.ireturn, 1) := by decide +kernel
theorem dX12_put_0 : decode cX12_put 0 = .ok (.aload_n 0, 1) := by decide +kernel
theorem dX12_put_1 : decode cX12_put 1 = .ok (.iload_n 1, 1) := by decide +kernel
theorem dX12_put_2 : decode cX12_put 2 = .ok (.invokevirtual 233, 3) := by decide +kernel
theorem dX12_put_5 : decode cX12_put 5 = .ok (.ifCond .eq 11, 3) := by decide +kernel
theorem dX12_put_8 : decode cX12_put 8 = .ok (.aload_n 0, 1) := by decide +kernel
theorem dX12_put_9 : decode cX12_put 9 = .ok (.iload_n 2, 1) := by decide +kernel
theorem dX12_put_10 : decode cX12_put 10 = .ok (.invokevirtual 230, 3) := by decide +kernel
theorem dX12_put_13 : decode cX12_put 13 = .ok (.ifCond .ne 5, 3) := by decide +kernel
theorem dX12_put_16 : decode cX12_put 16 = .ok (.iconst (-1), 1) := by decide +kernel
theorem dX12_put_17 : decode cX12_put 17 = .ok (.ireturn, 1) := by decide +kernel
theorem dX12_put_18 : decode cX12_put 18 = .ok (.aload_n 0, 1) := by decide +kernel
theorem dX12_put_19 : decode cX12_put 19 = .ok (.invokevirtual 227, 3) := by decide +kernel
theorem dX12_put_22 : decode cX12_put 22 = .ok (.aload_n 0, 1) := by decide +kernel
theorem dX12_put_23 : decode cX12_put 23 = .ok (.iload_n 2, 1) := by decide +kernel
theorem dX12_put_24 : decode cX12_put 24 = .ok (.invokevirtual 218, 3) := by decide +kernel
theorem dX12_put_27 : decode cX12_put 27 = .ok (.istore_n 3, 1) := by decide +kernel
theorem dX12_put_28 : decode cX12_put 28 = .ok (.aload_n 0, 1) := by decide +kernel
theorem dX12_put_29 : decode cX12_put 29 = .ok (.iload_n 2, 1) := by decide +kernel
theorem dX12_put_30 : decode cX12_put 30 = .ok (.invokevirtual 211, 3) := by decide +kernel
theorem dX12_put_33 : decode cX12_put 33 = .ok (.ifCond .eq 25, 3) := by decide +kernel
theorem dX12_put_36 : decode cX12_put 36 = .ok (.iload_n 3, 1) := by decide +kernel
theorem dX12_put_37 : decode cX12_put 37 = .ok (.bipush (-4), 2) := by decide +kernel
theorem dX12_put_39 : decode cX12_put 39 = .ok (.if_icmp .eq 8, 3) := by decide +kernel
theorem dX12_put_42 : decode cX12_put 42 = .ok (.iload_n 3, 1) := by decide +kernel
theorem dX12_put_43 : decode cX12_put 43 = .ok (.iload_n 1, 1) := by decide +kernel
theorem dX12_put_44 : decode cX12_put 44 = .ok (.if_icmp .ne 14, 3) := by decide +kernel
theorem dX12_put_47 : decode cX12_put 47 = .ok (.aload_n 0, 1) := by decide +kernel
theorem dX12_put_48 : decode cX12_put 48 = .ok (.iconst 0, 1) := by decide +kernel
theorem dX12_put_49 : decode cX12_put 49 = .ok (.iload_n 1, 1) := by decide +kernel
theorem dX12_put_50 : decode cX12_put 50 = .ok (.iadd, 1) := by decide +kernel
theorem dX12_put_51 : decode cX12_put 51 = .ok (.iload_n 2, 1) := by decide +kernel
theorem dX12_put_52 : decode cX12_put 52 = .ok (.invokevirtual 241, 3) := by decide +kernel
theorem dX12_put_55 : decode cX12_put 55 = .ok (.goto 4, 3) := by decide +kernel
theorem dX12_put_58 : decode cX12_put 58 = .ok (.iconst (-1), 1) := by decide +kernel
theorem dX12_put_59 : decode cX12_put 59 = .ok (.ireturn, 1) := by decide +kernel
theorem dX12_steeple_0 : decode cX12_steeple 0 = .ok (.aload_n 0, 1) := by decide +kernel
theorem dX12_steeple_1 : decode cX12_steeple 1 = .ok (.iload_n 1, 1) := by decide +kernel
theorem dX12_steeple_2 : decode cX12_steeple 2 = .ok (.invokevirtual 230, 3) := by decide +kernel
theorem dX12_steeple_5 : decode cX12_steeple 5 = .ok (.ifCond .ne 5, 3) := by decide +kernel
theorem dX12_steeple_8 : decode cX12_steeple 8 = .ok (.iconst (-1), 1) := by decide +kernel
theorem dX12_steeple_9 : decode cX12_steeple 9 = .ok (.ireturn, 1) := by decide +kernel
theorem dX12_steeple_10 : decode cX12_steeple 10 = .ok (.aload_n 0, 1) := by decide +kernel
theorem dX12_steeple_11 : decode cX12_steeple 11 = .ok (.invokevirtual 227, 3) := by decide +kernel
theorem dX12_steeple_14 : decode cX12_steeple 14 = .ok (.aload_n 0, 1) := by decide +kernel
theorem dX12_steeple_15 : decode cX12_steeple 15 = .ok (.iload_n 1, 1) := by decide +kernel
theorem dX12_steeple_16 : decode cX12_steeple 16 = .ok (.invokevirtual 218, 3) := by decide +kernel
theorem dX12_steeple_19 : decode cX12_steeple 19 = .ok (.bipush (-4), 2) := by decide +kernel
theorem dX12_steeple_21 : decode cX12_steeple 21 = .ok (.if_icmp .eq 5, 3) := by decide +kernel
theorem dX12_steeple_24 : decode cX12_steeple 24 = .ok (.iconst (-1), 1) := by decide +kernel
theorem dX12_steeple_25 : decode cX12_steeple 25 = .ok (.ireturn, 1) := by decide +kernel
theorem dX12_steeple_26 : decode cX12_steeple 26 = .ok (.aload_n 0, 1) := by decide +kernel
theorem dX12_steeple_27 : decode cX12_steeple 27 = .ok (.getfield 7, 3) := by decide +kernel
theorem dX12_steeple_30 : decode cX12_steeple 30 = .ok (.bipush 12, 2) := by decide +kernel
theorem dX12_steeple_32 : decode cX12_steeple 32 = .ok (.iaload, 1) := by decide +kernel
theorem dX12_steeple_33 : decode cX12_steeple 33 = .ok (.iload_n 1, 1) := by decide +kernel
theorem dX12_steeple_34 : decode cX12_steeple 34 = .ok (.ishr, 1) := by decide +kernel
theorem dX12_steeple_35 : decode cX12_steeple 35 = .ok (.iconst 1, 1) := by decide +kernel
theorem dX12_steeple_36 : decode cX12_steeple 36 = .ok (.iand, 1) := by decide +kernel
theorem dX12_steeple_37 : decode cX12_steeple 37 = .ok (.istore_n 3, 1) := by decide +kernel
theorem dX12_steeple_38 : decode cX12_steeple 38 = .ok (.aload_n 0, 1) := by decide +kernel
theorem dX12_steeple_39 : decode cX12_steeple 39 = .ok (.getfield 7, 3) := by decide +kernel
theorem dX12_steeple_42 : decode cX12_steeple 42 = .ok (.bipush 12, 2) := by decide +kernel
theorem dX12_steeple_44 : decode cX12_steeple 44 = .ok (.iload_n 2, 1) := by decide +kernel
theorem dX12_steeple_45 : decode cX12_steeple 45 = .ok (.ifCond .eq 17, 3) := by decide +kernel
theorem dX12_steeple_48 : decode cX12_steeple 48 = .ok (.aload_n 0, 1) := by decide +kernel
theorem dX12_steeple_49 : decode cX12_steeple 49 = .ok (.getfield 7, 3) := by decide +kernel
theorem dX12_steeple_52 : decode cX12_steeple 52 = .ok (.bipush 12, 2) := by decide +kernel
theorem dX12_steeple_54 : decode cX12_steeple 54 = .ok (.iaload, 1) := by decide +kernel
theorem dX12_steeple_55 : decode cX12_steeple 55 = .ok (.iconst 1, 1) := by decide +kernel
theorem dX12_steeple_56 : decode cX12_steeple 56 = .ok (.iload_n 1, 1) := by decide +kernel
theorem dX12_steeple_57 : decode cX12_steeple 57 = .ok (.ishl, 1) := by decide +kernel
theorem dX12_steeple_58 : decode cX12_steeple 58 = .ok (.ior, 1) := by decide +kernel
theorem dX12_steeple_59 : decode cX12_steeple 59 = .ok (.goto 16, 3) := by decide +kernel
theorem dX12_steeple_62 : decode cX12_steeple 62 = .ok (.aload_n 0, 1) := by decide +kernel
theorem dX12_steeple_63 : decode cX12_steeple 63 = .ok (.getfield 7, 3) := by decide +kernel
theorem dX12_steeple_66 : decode cX12_steeple 66 = .ok (.bipush 12, 2) := by decide +kernel
theorem dX12_steeple_68 : decode cX12_steeple 68 = .ok (.iaload, 1) := by decide +kernel
theorem dX12_steeple_69 : decode cX12_steeple 69 = .ok (.iconst 1, 1) := by decide +kernel
theorem dX12_steeple_70 : decode cX12_steeple 70 = .ok (.iload_n 1, 1) := by decide +kernel
theorem dX12_steeple_71 : decode cX12_steeple 71 = .ok (.ishl, 1) := by decide +kernel
theorem dX12_steeple_72 : decode cX12_steeple 72 = .ok (.iconst (-1), 1) := by decide +kernel
theorem dX12_steeple_73 : decode cX12_steeple 73 = .ok (.ixor, 1) := by decide +kernel
theorem dX12_steeple_74 : decode cX12_steeple 74 = .ok (.iand, 1) := by decide +kernel
theorem dX12_steeple_75 : decode cX12_steeple 75 = .ok (.iastore, 1) := by decide +kernel
theorem dX12_steeple_76 : decode cX12_steeple 76 = .ok (.iload_n 3, 1) := by decide +kernel
theorem dX12_steeple_77 : decode cX12_steeple 77 = .ok (.ireturn, 1) := by decide +kernel
theorem dX12_allOdds_0 : decode cX12_allOdds 0 = .ok (.iconst 0, 1) := by decide +kernel
theorem dX12_allOdds_1 : decode cX12_allOdds 1 = .ok (.istore_n 1, 1) := by decide +kernel
theorem dX12_allOdds_2 : decode cX12_allOdds 2 = .ok (.iconst 0, 1) := by decide +kernel
theorem dX12_allOdds_3 : decode cX12_allOdds 3 = .ok (.istore_n 2, 1) := by decide +kernel
theorem dX12_allOdds_4 : decode cX12_allOdds 4 = .ok (.iload_n 2, 1) := by decide +kernel
theorem dX12_allOdds_5 : decode cX12_allOdds 5 = .ok (.iconst 5, 1) := by decide +kernel
theorem dX12_allOdds_6 : decode cX12_allOdds 6 = .ok (.if_icmp .ge 21, 3) := by decide +kernel
theorem dX12_allOdds_9 : decode cX12_allOdds 9 = .ok (.iload_n 1, 1) := by decide +kernel
theorem dX12_allOdds_10 : decode cX12_allOdds 10 = .ok (.aload_n 0, 1) := by decide +kernel
theorem dX12_allOdds_11 : decode cX12_allOdds 11 = .ok (.getfield 7, 3) := by decide +kernel
theorem dX12_allOdds_14 : decode cX12_allOdds 14 = .ok (.bipush 13, 2) := by decide +kernel
theorem dX12_allOdds_16 : decode cX12_allOdds 16 = .ok (.iload_n 2, 1) := by decide +kernel
theorem dX12_allOdds_17 : decode cX12_allOdds 17 = .ok (.iadd, 1) := by decide +kernel
theorem dX12_allOdds_18 : decode cX12_allOdds 18 = .ok (.iaload, 1) := by decide +kernel
theorem dX12_allOdds_19 : decode cX12_allOdds 19 = .ok (.iadd, 1) := by decide +kernel
theorem dX12_allOdds_20 : decode cX12_allOdds 20 = .ok (.istore_n 1, 1) := by decide +kernel
theorem dX12_allOdds_21 : decode cX12_allOdds 21 = .ok (.iinc 2 1, 3) := by decide +kernel
theorem dX12_allOdds_24 : decode cX12_allOdds 24 = .ok (.goto (-20), 3) := by decide +kernel
theorem dX12_allOdds_27 : decode cX12_allOdds 27 = .ok (.iload_n 1, 1) := by decide +kernel
theorem dX12_allOdds_28 : decode cX12_allOdds 28 = .ok (.ireturn, 1) := by decide +kernel
theorem dX12_weigh_0 : decode cX12_weigh 0 = .ok (.iload_n 1, 1) := by decide +kernel
theorem dX12_weigh_1 : decode cX12_weigh 1 = .ok (.invokestatic 236, 3) := by decide +kernel
theorem dX12_weigh_4 : decode cX12_weigh 4 = .ok (.ifCond .eq 46, 3) := by decide +kernel
theorem dX12_weigh_7 : decode cX12_weigh 7 = .ok (.iload_n 2, 1) := by decide +kernel
theorem dX12_weigh_8 : decode cX12_weigh 8 = .ok (.i2l, 1) := by decide +kernel
theorem dX12_weigh_9 : decode cX12_weigh 9 = .ok (.lconst 0, 1) := by decide +kernel
theorem dX12_weigh_10 : decode cX12_weigh 10 = .ok (.ldc2_w 239, 3) := by decide +kernel
theorem dX12_weigh_13 : decode cX12_weigh 13 = .ok (.invokestatic 113, 3) := by decide +kernel
theorem dX12_weigh_16 : decode cX12_weigh 16 = .ok (.ifCond .eq 34, 3) := by decide +kernel
theorem dX12_weigh_19 : decode cX12_weigh 19 = .ok (.aload_n 0, 1) := by decide +kernel
theorem dX12_weigh_20 : decode cX12_weigh 20 = .ok (.invokevirtual 244, 3) := by decide +kernel
theorem dX12_weigh_23 : decode cX12_weigh 23 = .ok (.aload_n 0, 1) := by decide +kernel
theorem dX12_weigh_24 : decode cX12_weigh 24 = .ok (.getfield 7, 3) := by decide +kernel
theorem dX12_weigh_27 : decode cX12_weigh 27 = .ok (.bipush 13, 2) := by decide +kernel
theorem dX12_weigh_29 : decode cX12_weigh 29 = .ok (.iload_n 1, 1) := by decide +kernel
theorem dX12_weigh_30 : decode cX12_weigh 30 = .ok (.iadd, 1) := by decide +kernel
theorem dX12_weigh_31 : decode cX12_weigh 31 = .ok (.iaload, 1) := by decide +kernel
theorem dX12_weigh_32 : decode cX12_weigh 32 = .ok (.isub, 1) := by decide +kernel
theorem dX12_weigh_33 : decode cX12_weigh 33 = .ok (.iload_n 2, 1) := by decide +kernel
theorem dX12_weigh_34 : decode cX12_weigh 34 = .ok (.iadd, 1) := by decide +kernel
theorem dX12_weigh_35 : decode cX12_weigh 35 = .ok (.ifCond .le 15, 3) := by decide +kernel
theorem dX12_weigh_38 : decode cX12_weigh 38 = .ok (.aload_n 0, 1) := by decide +kernel
theorem dX12_weigh_39 : decode cX12_weigh 39 = .ok (.bipush 13, 2) := by decide +kernel
theorem dX12_weigh_41 : decode cX12_weigh 41 = .ok (.iload_n 1, 1) := by decide +kernel
theorem dX12_weigh_42 : decode cX12_weigh 42 = .ok (.iadd, 1) := by decide +kernel
theorem dX12_weigh_43 : decode cX12_weigh 43 = .ok (.iload_n 2, 1) := by decide +kernel
theorem dX12_weigh_44 : decode cX12_weigh 44 = .ok (.invokevirtual 241, 3) := by decide +kernel
theorem dX12_weigh_47 : decode cX12_weigh 47 = .ok (.goto 4, 3) := by decide +kernel
theorem dX12_weigh_50 : decode cX12_weigh 50 = .ok (.iconst (-1), 1) := by decide +kernel
theorem dX12_weigh_51 : decode cX12_weigh 51 = .ok (.ireturn, 1) := by decide +kernel
theorem dX12_turn_0 : decode cX12_turn 0 = .ok (.iload_n 1, 1) := by decide +kernel
theorem dX12_turn_1 : decode cX12_turn 1 = .ok (.i2l, 1) := by decide +kernel
theorem dX12_turn_2 : decode cX12_turn 2 = .ok (.lconst 0, 1) := by decide +kernel
theorem dX12_turn_3 : decode cX12_turn 3 = .ok (.lconst 1, 1) := by decide +kernel
theorem dX12_turn_4 : decode cX12_turn 4 = .ok (.invokestatic 113, 3) := by decide +kernel
theorem dX12_turn_7 : decode cX12_turn 7 = .ok (.ifCond .eq 13, 3) := by decide +kernel
theorem dX12_turn_10 : decode cX12_turn 10 = .ok (.aload_n 0, 1) := by decide +kernel
theorem dX12_turn_11 : decode cX12_turn 11 = .ok (.bipush 18, 2) := by decide +kernel
theorem dX12_turn_13 : decode cX12_turn 13 = .ok (.iload_n 1, 1) := by decide +kernel
theorem dX12_turn_14 : decode cX12_turn 14 = .ok (.invokevirtual 241, 3) := by decide +kernel
theorem dX12_turn_17 : decode cX12_turn 17 = .ok (.goto 4, 3) := by decide +kernel
theorem dX12_turn_20 : decode cX12_turn 20 = .ok (.iconst (-1), 1) := by decide +kernel
theorem dX12_turn_21 : decode cX12_turn 21 = .ok (.ireturn, 1) := by decide +kernel
theorem dX12_moves_0 : decode cX12_moves 0 = .ok (.iload_n 1, 1) := by decide +kernel
theorem dX12_moves_1 : decode cX12_moves 1 = .ok (.invokestatic 236, 3) := by decide +kernel
theorem dX12_moves_4 : decode cX12_moves 4 = .ok (.ifCond .ne 5, 3) := by decide +kernel
theorem dX12_moves_7 : decode cX12_moves 7 = .ok (.iconst (-1), 1) := by decide +kernel
theorem dX12_moves_8 : decode cX12_moves 8 = .ok (.ireturn, 1) := by decide +kernel
theorem dX12_moves_9 : decode cX12_moves 9 = .ok (.aload_n 0, 1) := by decide +kernel
theorem dX12_moves_10 : decode cX12_moves 10 = .ok (.invokevirtual 227, 3) := by decide +kernel
theorem dX12_moves_13 : decode cX12_moves 13 = .ok (.aload_n 0, 1) := by decide +kernel
theorem dX12_moves_14 : decode cX12_moves 14 = .ok (.iload_n 1, 1) := by decide +kernel
theorem dX12_moves_15 : decode cX12_moves 15 = .ok (.iconst 0, 1) := by decide +kernel
theorem dX12_moves_16 : decode cX12_moves 16 = .ok (.invokevirtual 247, 3) := by decide +kernel
theorem dX12_moves_19 : decode cX12_moves 19 = .ok (.aload_n 0, 1) := by decide +kernel
theorem dX12_moves_20 : decode cX12_moves 20 = .ok (.getfield 44, 3) := by decide +kernel
theorem dX12_moves_23 : decode cX12_moves 23 = .ok (.iconst 0, 1) := by decide +kernel
theorem dX12_moves_24 : decode cX12_moves 24 = .ok (.iaload, 1) := by decide +kernel
theorem dX12_moves_25 : decode cX12_moves 25 = .ok (.ireturn, 1) := by decide +kernel
theorem dX12_move_0 : decode cX12_move 0 = .ok (.iload_n 1, 1) := by decide +kernel
theorem dX12_move_1 : decode cX12_move 1 = .ok (.invokestatic 236, 3) := by decide +kernel
theorem dX12_move_4 : decode cX12_move 4 = .ok (.ifCond .ne 5, 3) := by decide +kernel
theorem dX12_move_7 : decode cX12_move 7 = .ok (.iconst (-1), 1) := by decide +kernel
theorem dX12_move_8 : decode cX12_move 8 = .ok (.ireturn, 1) := by decide +kernel
theorem dX12_move_9 : decode cX12_move 9 = .ok (.aload_n 0, 1) := by decide +kernel
theorem dX12_move_10 : decode cX12_move 10 = .ok (.invokevirtual 227, 3) := by decide +kernel
theorem dX12_move_13 : decode cX12_move 13 = .ok (.aload_n 0, 1) := by decide +kernel
theorem dX12_move_14 : decode cX12_move 14 = .ok (.iload_n 1, 1) := by decide +kernel
theorem dX12_move_15 : decode cX12_move 15 = .ok (.iconst 0, 1) := by decide +kernel
theorem dX12_move_16 : decode cX12_move 16 = .ok (.invokevirtual 247, 3) := by decide +kernel
theorem dX12_move_19 : decode cX12_move 19 = .ok (.iload_n 2, 1) := by decide +kernel
theorem dX12_move_20 : decode cX12_move 20 = .ok (.i2l, 1) := by decide +kernel
theorem dX12_move_21 : decode cX12_move 21 = .ok (.lconst 0, 1) := by decide +kernel
theorem dX12_move_22 : decode cX12_move 22 = .ok (.aload_n 0, 1) := by decide +kernel
theorem dX12_move_23 : decode cX12_move 23 = .ok (.getfield 44, 3) := by decide +kernel
theorem dX12_move_26 : decode cX12_move 26 = .ok (.iconst 0, 1) := by decide +kernel
theorem dX12_move_27 : decode cX12_move 27 = .ok (.iaload, 1) := by decide +kernel
theorem dX12_move_28 : decode cX12_move 28 = .ok (.iconst 1, 1) := by decide +kernel
theorem dX12_move_29 : decode cX12_move 29 = .ok (.isub, 1) := by decide +kernel
theorem dX12_move_30 : decode cX12_move 30 = .ok (.i2l, 1) := by decide +kernel
theorem dX12_move_31 : decode cX12_move 31 = .ok (.invokestatic 113, 3) := by decide +kernel
theorem dX12_move_34 : decode cX12_move 34 = .ok (.ifCond .eq 12, 3) := by decide +kernel
theorem dX12_move_37 : decode cX12_move 37 = .ok (.aload_n 0, 1) := by decide +kernel
theorem dX12_move_38 : decode cX12_move 38 = .ok (.getfield 41, 3) := by decide +kernel
theorem dX12_move_41 : decode cX12_move 41 = .ok (.iload_n 2, 1) := by decide +kernel
theorem dX12_move_42 : decode cX12_move 42 = .ok (.iaload, 1) := by decide +kernel
theorem dX12_move_43 : decode cX12_move 43 = .ok (.goto 4, 3) := by decide +kernel
theorem dX12_move_46 : decode cX12_move 46 = .ok (.iconst (-1), 1) := by decide +kernel
theorem dX12_move_47 : decode cX12_move 47 = .ok (.ireturn, 1) := by decide +kernel
theorem dX12_go_0 : decode cX12_go 0 = .ok (.iload_n 1, 1) := by decide +kernel
theorem dX12_go_1 : decode cX12_go 1 = .ok (.invokestatic 236, 3) := by decide +kernel
theorem dX12_go_4 : decode cX12_go 4 = .ok (.ifCond .ne 5, 3) := by decide +kernel
theorem dX12_go_7 : decode cX12_go 7 = .ok (.iconst (-1), 1) := by decide +kernel
theorem dX12_go_8 : decode cX12_go 8 = .ok (.ireturn, 1) := by decide +kernel
theorem dX12_go_9 : decode cX12_go 9 = .ok (.aload_n 0, 1) := by decide +kernel
theorem dX12_go_10 : decode cX12_go 10 = .ok (.invokevirtual 227, 3) := by decide +kernel
theorem dX12_go_13 : decode cX12_go 13 = .ok (.aload_n 0, 1) := by decide +kernel
theorem dX12_go_14 : decode cX12_go 14 = .ok (.iload_n 1, 1) := by decide +kernel
theorem dX12_go_15 : decode cX12_go 15 = .ok (.iconst 0, 1) := by decide +kernel
theorem dX12_go_16 : decode cX12_go 16 = .ok (.invokevirtual 247, 3) := by decide +kernel
theorem dX12_go_19 : decode cX12_go 19 = .ok (.iload_n 2, 1) := by decide +kernel
theorem dX12_go_20 : decode cX12_go 20 = .ok (.bipush (-4), 2) := by decide +kernel
theorem dX12_go_22 : decode cX12_go 22 = .ok (.if_icmp .ne 15, 3) := by decide +kernel
theorem dX12_go_25 : decode cX12_go 25 = .ok (.aload_n 0, 1) := by decide +kernel
theorem dX12_go_26 : decode cX12_go 26 = .ok (.getfield 44, 3) := by decide +kernel
theorem dX12_go_29 : decode cX12_go 29 = .ok (.iconst 0, 1) := by decide +kernel
theorem dX12_go_30 : decode cX12_go 30 = .ok (.iaload, 1) := by decide +kernel
theorem dX12_go_31 : decode cX12_go 31 = .ok (.ifCond .le 26, 3) := by decide +kernel
theorem dX12_go_34 : decode cX12_go 34 = .ok (.goto 21, 3) := by decide +kernel
theorem dX12_go_37 : decode cX12_go 37 = .ok (.iload_n 2, 1) := by decide +kernel
theorem dX12_go_38 : decode cX12_go 38 = .ok (.i2l, 1) := by decide +kernel
theorem dX12_go_39 : decode cX12_go 39 = .ok (.lconst 0, 1) := by decide +kernel
theorem dX12_go_40 : decode cX12_go 40 = .ok (.aload_n 0, 1) := by decide +kernel
theorem dX12_go_41 : decode cX12_go 41 = .ok (.getfield 44, 3) := by decide +kernel
theorem dX12_go_44 : decode cX12_go 44 = .ok (.iconst 0, 1) := by decide +kernel
theorem dX12_go_45 : decode cX12_go 45 = .ok (.iaload, 1) := by decide +kernel
theorem dX12_go_46 : decode cX12_go 46 = .ok (.iconst 1, 1) := by decide +kernel
theorem dX12_go_47 : decode cX12_go 47 = .ok (.isub, 1) := by decide +kernel
theorem dX12_go_48 : decode cX12_go 48 = .ok (.i2l, 1) := by decide +kernel
theorem dX12_go_49 : decode cX12_go 49 = .ok (.invokestatic 113, 3) := by decide +kernel
theorem dX12_go_52 : decode cX12_go 52 = .ok (.ifCond .ne 5, 3) := by decide +kernel
theorem dX12_go_55 : decode cX12_go 55 = .ok (.iconst (-1), 1) := by decide +kernel
theorem dX12_go_56 : decode cX12_go 56 = .ok (.ireturn, 1) := by decide +kernel
theorem dX12_go_57 : decode cX12_go 57 = .ok (.aload_n 0, 1) := by decide +kernel
theorem dX12_go_58 : decode cX12_go 58 = .ok (.invokevirtual 221, 3) := by decide +kernel
theorem dX12_go_61 : decode cX12_go 61 = .ok (.bipush (-4), 2) := by decide +kernel
theorem dX12_go_63 : decode cX12_go 63 = .ok (.if_icmp .eq 6, 3) := by decide +kernel
theorem dX12_go_66 : decode cX12_go 66 = .ok (.bipush (-2), 2) := by decide +kernel
theorem dX12_go_68 : decode cX12_go 68 = .ok (.ireturn, 1) := by decide +kernel
theorem dX12_go_69 : decode cX12_go 69 = .ok (.aload_n 0, 1) := by decide +kernel
theorem dX12_go_70 : decode cX12_go 70 = .ok (.getfield 7, 3) := by decide +kernel
theorem dX12_go_73 : decode cX12_go 73 = .ok (.bipush 19, 2) := by decide +kernel
theorem dX12_go_75 : decode cX12_go 75 = .ok (.iaload, 1) := by decide +kernel
theorem dX12_go_76 : decode cX12_go 76 = .ok (.sipush 999, 3) := by decide +kernel
theorem dX12_go_79 : decode cX12_go 79 = .ok (.if_icmp .ne 6, 3) := by decide +kernel
theorem dX12_go_82 : decode cX12_go 82 = .ok (.bipush (-3), 2) := by decide +kernel
theorem dX12_go_84 : decode cX12_go 84 = .ok (.ireturn, 1) := by decide +kernel
theorem dX12_go_85 : decode cX12_go 85 = .ok (.aload_n 0, 1) := by decide +kernel
theorem dX12_go_86 : decode cX12_go 86 = .ok (.iload_n 1, 1) := by decide +kernel
theorem dX12_go_87 : decode cX12_go 87 = .ok (.iload_n 2, 1) := by decide +kernel
theorem dX12_go_88 : decode cX12_go 88 = .ok (.bipush (-4), 2) := by decide +kernel
theorem dX12_go_90 : decode cX12_go 90 = .ok (.if_icmp .ne 8, 3) := by decide +kernel
theorem dX12_go_93 : decode cX12_go 93 = .ok (.bipush (-4), 2) := by decide +kernel
theorem dX12_go_95 : decode cX12_go 95 = .ok (.goto 9, 3) := by decide +kernel
theorem dX12_go_98 : decode cX12_go 98 = .ok (.aload_n 0, 1) := by decide +kernel
theorem dX12_go_99 : decode cX12_go 99 = .ok (.getfield 41, 3) := by decide +kernel
theorem dX12_go_102 : decode cX12_go 102 = .ok (.iload_n 2, 1) := by decide +kernel
theorem dX12_go_103 : decode cX12_go 103 = .ok (.iaload, 1) := by decide +kernel
theorem dX12_go_104 : decode cX12_go 104 = .ok (.invokevirtual 251, 3) := by decide +kernel
theorem dX12_go_107 : decode cX12_go 107 = .ok (.istore_n 3, 1) := by decide +kernel
theorem dX12_go_108 : decode cX12_go 108 = .ok (.iconst 0, 1) := by decide +kernel
theorem dX12_go_109 : decode cX12_go 109 = .ok (.istore 4, 2) := by decide +kernel
theorem dX12_go_111 : decode cX12_go 111 = .ok (.iload 4, 2) := by decide +kernel
theorem dX12_go_113 : decode cX12_go 113 = .ok (.bipush 6, 2) := by decide +kernel
theorem dX12_go_115 : decode cX12_go 115 = .ok (.if_icmp .ge 42, 3) := by decide +kernel
theorem dX12_go_118 : decode cX12_go 118 = .ok (.aload_n 0, 1) := by decide +kernel
theorem dX12_go_119 : decode cX12_go 119 = .ok (.getfield 7, 3) := by decide +kernel
theorem dX12_go_122 : decode cX12_go 122 = .ok (.iconst 0, 1) := by decide +kernel
theorem dX12_go_123 : decode cX12_go 123 = .ok (.iload 4, 2) := by decide +kernel
theorem dX12_go_125 : decode cX12_go 125 = .ok (.iadd, 1) := by decide +kernel
theorem dX12_go_126 : decode cX12_go 126 = .ok (.aload_n 0, 1) := by decide +kernel
theorem dX12_go_127 : decode cX12_go 127 = .ok (.getfield 35, 3) := by decide +kernel
theorem dX12_go_130 : decode cX12_go 130 = .ok (.iload 4, 2) := by decide +kernel
theorem dX12_go_132 : decode cX12_go 132 = .ok (.iaload, 1) := by decide +kernel
theorem dX12_go_133 : decode cX12_go 133 = .ok (.iastore, 1) := by decide +kernel
theorem dX12_go_134 : decode cX12_go 134 = .ok (.aload_n 0, 1) := by decide +kernel
theorem dX12_go_135 : decode cX12_go 135 = .ok (.getfield 7, 3) := by decide +kernel
theorem dX12_go_138 : decode cX12_go 138 = .ok (.bipush 6, 2) := by decide +kernel
theorem dX12_go_140 : decode cX12_go 140 = .ok (.iload 4, 2) := by decide +kernel
theorem dX12_go_142 : decode cX12_go 142 = .ok (.iadd, 1) := by decide +kernel
theorem dX12_go_143 : decode cX12_go 143 = .ok (.aload_n 0, 1) := by decide +kernel
theorem dX12_go_144 : decode cX12_go 144 = .ok (.getfield 38, 3) := by decide +kernel
theorem dX12_go_147 : decode cX12_go 147 = .ok (.iload 4, 2) := by decide +kernel
theorem dX12_go_149 : decode cX12_go 149 = .ok (.iaload, 1) := by decide +kernel
theorem dX12_go_150 : decode cX12_go 150 = .ok (.iastore, 1) := by decide +kernel
theorem dX12_go_151 : decode cX12_go 151 = .ok (.iinc 4 1, 3) := by decide +kernel
theorem dX12_go_154 : decode cX12_go 154 = .ok (.goto (-43), 3) := by decide +kernel
theorem dX12_go_157 : decode cX12_go 157 = .ok (.aload_n 0, 1) := by decide +kernel
theorem dX12_go_158 : decode cX12_go 158 = .ok (.getfield 7, 3) := by decide +kernel
theorem dX12_go_161 : decode cX12_go 161 = .ok (.bipush 18, 2) := by decide +kernel
theorem dX12_go_163 : decode cX12_go 163 = .ok (.aload_n 0, 1) := by decide +kernel
theorem dX12_go_164 : decode cX12_go 164 = .ok (.getfield 204, 3) := by decide +kernel
theorem dX12_go_167 : decode cX12_go 167 = .ok (.iastore, 1) := by decide +kernel
theorem dX12_go_168 : decode cX12_go 168 = .ok (.aload_n 0, 1) := by decide +kernel
theorem dX12_go_169 : decode cX12_go 169 = .ok (.getfield 7, 3) := by decide +kernel
theorem dX12_go_172 : decode cX12_go 172 = .ok (.bipush 19, 2) := by decide +kernel
theorem dX12_go_174 : decode cX12_go 174 = .ok (.dup2, 1) := by decide +kernel
theorem dX12_go_175 : decode cX12_go 175 = .ok (.iaload, 1) := by decide +kernel
theorem dX12_go_176 : decode cX12_go 176 = .ok (.iconst 1, 1) := by decide +kernel
theorem dX12_go_177 : decode cX12_go 177 = .ok (.iadd, 1) := by decide +kernel
theorem dX12_go_178 : decode cX12_go 178 = .ok (.iastore, 1) := by decide +kernel
theorem dX12_go_179 : decode cX12_go 179 = .ok (.iload_n 3, 1) := by decide +kernel
theorem dX12_go_180 : decode cX12_go 180 = .ok (.ireturn, 1) := by decide +kernel
theorem dX12_isBetter_0 : decode cX12_isBetter 0 = .ok (.iload_n 0, 1) := by decide +kernel
theorem dX12_isBetter_1 : decode cX12_isBetter 1 = .ok (.ifCond .ne 24, 3) := by decide +kernel
theorem dX12_isBetter_4 : decode cX12_isBetter 4 = .ok (.iload_n 1, 1) := by decide +kernel
theorem dX12_isBetter_5 : decode cX12_isBetter 5 = .ok (.ifCond .eq 13, 3) := by decide +kernel
theorem dX12_isBetter_8 : decode cX12_isBetter 8 = .ok (.lload_n 2, 1) := by decide +kernel
theorem dX12_isBetter_9 : decode cX12_isBetter 9 = .ok (.lload 4, 2) := by decide +kernel
theorem dX12_isBetter_11 : decode cX12_isBetter 11 = .ok (.lcmp, 1) := by decide +kernel
theorem dX12_isBetter_12 : decode cX12_isBetter 12 = .ok (.ifCond .le 17, 3) := by decide +kernel
theorem dX12_isBetter_15 : decode cX12_isBetter 15 = .ok (.goto 10, 3) := by decide +kernel
theorem dX12_isBetter_18 : decode cX12_isBetter 18 = .ok (.lload_n 2, 1) := by decide +kernel
theorem dX12_isBetter_19 : decode cX12_isBetter 19 = .ok (.lload 4, 2) := by decide +kernel
theorem dX12_isBetter_21 : decode cX12_isBetter 21 = .ok (.lcmp, 1) := by decide +kernel
theorem dX12_isBetter_22 : decode cX12_isBetter 22 = .ok (.ifCond .ge 7, 3) := by decide +kernel
theorem dX12_isBetter_25 : decode cX12_isBetter 25 = .ok (.iconst 1, 1) := by decide +kernel
theorem dX12_isBetter_26 : decode cX12_isBetter 26 = .ok (.goto 4, 3) := by decide +kernel
theorem dX12_isBetter_29 : decode cX12_isBetter 29 = .ok (.iconst 0, 1) := by decide +kernel
theorem dX12_isBetter_30 : decode cX12_isBetter 30 = .ok (.ireturn, 1) := by decide +kernel
theorem dX12_wonNow_0 : decode cX12_wonNow 0 = .ok (.aload_n 0, 1) := by decide +kernel
theorem dX12_wonNow_1 : decode cX12_wonNow 1 = .ok (.invokevirtual 221, 3) := by decide +kernel
theorem dX12_wonNow_4 : decode cX12_wonNow 4 = .ok (.iconst 1, 1) := by decide +kernel
theorem dX12_wonNow_5 : decode cX12_wonNow 5 = .ok (.iload_n 1, 1) := by decide +kernel
theorem dX12_wonNow_6 : decode cX12_wonNow 6 = .ok (.isub, 1) := by decide +kernel
theorem dX12_wonNow_7 : decode cX12_wonNow 7 = .ok (.if_icmp .ne 7, 3) := by decide +kernel
theorem dX12_wonNow_10 : decode cX12_wonNow 10 = .ok (.lconst 1, 1) := by decide +kernel
theorem dX12_wonNow_11 : decode cX12_wonNow 11 = .ok (.goto 4, 3) := by decide +kernel
theorem dX12_wonNow_14 : decode cX12_wonNow 14 = .ok (.lconst 0, 1) := by decide +kernel
theorem dX12_wonNow_15 : decode cX12_wonNow 15 = .ok (.lreturn, 1) := by decide +kernel
theorem dX12_windOfOne_0 : decode cX12_windOfOne 0 = .ok (.aload_n 0, 1) := by decide +kernel
theorem dX12_windOfOne_1 : decode cX12_windOfOne 1 = .ok (.iload_n 2, 1) := by decide +kernel
theorem dX12_windOfOne_2 : decode cX12_windOfOne 2 = .ok (.iconst 0, 1) := by decide +kernel
theorem dX12_windOfOne_3 : decode cX12_windOfOne 3 = .ok (.invokevirtual 247, 3) := by decide +kernel
theorem dX12_windOfOne_6 : decode cX12_windOfOne 6 = .ok (.aload_n 0, 1) := by decide +kernel
theorem dX12_windOfOne_7 : decode cX12_windOfOne 7 = .ok (.iconst 0, 1) := by decide +kernel
theorem dX12_windOfOne_8 : decode cX12_windOfOne 8 = .ok (.invokevirtual 254, 3) := by decide +kernel
theorem dX12_windOfOne_11 : decode cX12_windOfOne 11 = .ok (.aload_n 0, 1) := by decide +kernel
theorem dX12_windOfOne_12 : decode cX12_windOfOne 12 = .ok (.getfield 204, 3) := by decide +kernel
theorem dX12_windOfOne_15 : decode cX12_windOfOne 15 = .ok (.iload_n 1, 1) := by decide +kernel
theorem dX12_windOfOne_16 : decode cX12_windOfOne 16 = .ok (.if_icmp .ne 7, 3) := by decide +kernel
theorem dX12_windOfOne_19 : decode cX12_windOfOne 19 = .ok (.iconst 1, 1) := by decide +kernel
theorem dX12_windOfOne_20 : decode cX12_windOfOne 20 = .ok (.goto 4, 3) := by decide +kernel
theorem dX12_windOfOne_23 : decode cX12_windOfOne 23 = .ok (.iconst 0, 1) := by decide +kernel
theorem dX12_windOfOne_24 : decode cX12_windOfOne 24 = .ok (.istore_n 3, 1) := by decide +kernel
theorem dX12_windOfOne_25 : decode cX12_windOfOne 25 = .ok (.lconst 0, 1) := by decide +kernel
theorem dX12_windOfOne_26 : decode cX12_windOfOne 26 = .ok (.lstore 4, 2) := by decide +kernel
theorem dX12_windOfOne_28 : decode cX12_windOfOne 28 = .ok (.bipush (-4), 2) := by decide +kernel
theorem dX12_windOfOne_30 : decode cX12_windOfOne 30 = .ok (.istore 6, 2) := by decide +kernel
theorem dX12_windOfOne_32 : decode cX12_windOfOne 32 = .ok (.aload_n 0, 1) := by decide +kernel
theorem dX12_windOfOne_33 : decode cX12_windOfOne 33 = .ok (.getfield 44, 3) := by decide +kernel
theorem dX12_windOfOne_36 : decode cX12_windOfOne 36 = .ok (.iconst 0, 1) := by decide +kernel
theorem dX12_windOfOne_37 : decode cX12_windOfOne 37 = .ok (.iaload, 1) := by decide +kernel
theorem dX12_windOfOne_38 : decode cX12_windOfOne 38 = .ok (.ifCond .ne 7, 3) := by decide +kernel
theorem dX12_windOfOne_41 : decode cX12_windOfOne 41 = .ok (.iconst 1, 1) := by decide +kernel
theorem dX12_windOfOne_42 : decode cX12_windOfOne 42 = .ok (.goto 9, 3) := by decide +kernel
theorem dX12_windOfOne_45 : decode cX12_windOfOne 45 = .ok (.aload_n 0, 1) := by decide +kernel
theorem dX12_windOfOne_46 : decode cX12_windOfOne 46 = .ok (.getfield 44, 3) := by decide +kernel
theorem dX12_windOfOne_49 : decode cX12_windOfOne 49 = .ok (.iconst 0, 1) := by decide +kernel
theorem dX12_windOfOne_50 : decode cX12_windOfOne 50 = .ok (.iaload, 1) := by decide +kernel
theorem dX12_windOfOne_51 : decode cX12_windOfOne 51 = .ok (.istore 7, 2) := by decide +kernel
theorem dX12_windOfOne_53 : decode cX12_windOfOne 53 = .ok (.iconst 0, 1) := by decide +kernel
theorem dX12_windOfOne_54 : decode cX12_windOfOne 54 = .ok (.istore 8, 2) := by decide +kernel
theorem dX12_windOfOne_56 : decode cX12_windOfOne 56 = .ok (.iload 8, 2) := by decide +kernel
theorem dX12_windOfOne_58 : decode cX12_windOfOne 58 = .ok (.iload 7, 2) := by decide +kernel
theorem dX12_windOfOne_60 : decode cX12_windOfOne 60 = .ok (.if_icmp .ge 96, 3) := by decide +kernel
theorem dX12_windOfOne_63 : decode cX12_windOfOne 63 = .ok (.aload_n 0, 1) := by decide +kernel
theorem dX12_windOfOne_64 : decode cX12_windOfOne 64 = .ok (.iconst 0, 1) := by decide +kernel
theorem dX12_windOfOne_65 : decode cX12_windOfOne 65 = .ok (.invokevirtual 257, 3) := by decide +kernel
theorem dX12_windOfOne_68 : decode cX12_windOfOne 68 = .ok (.aload_n 0, 1) := by decide +kernel
theorem dX12_windOfOne_69 : decode cX12_windOfOne 69 = .ok (.iload_n 2, 1) := by decide +kernel
theorem dX12_windOfOne_70 : decode cX12_windOfOne 70 = .ok (.aload_n 0, 1) := by decide +kernel
theorem dX12_windOfOne_71 : decode cX12_windOfOne 71 = .ok (.getfield 44, 3) := by decide +kernel
theorem dX12_windOfOne_74 : decode cX12_windOfOne 74 = .ok (.iconst 0, 1) := by decide +kernel
theorem dX12_windOfOne_75 : decode cX12_windOfOne 75 = .ok (.iaload, 1) := by decide +kernel
theorem dX12_windOfOne_76 : decode cX12_windOfOne 76 = .ok (.ifCond .ne 8, 3) := by decide +kernel
theorem dX12_windOfOne_79 : decode cX12_windOfOne 79 = .ok (.bipush (-4), 2) := by decide +kernel
theorem dX12_windOfOne_81 : decode cX12_windOfOne 81 = .ok (.goto 10, 3) := by decide +kernel
theorem dX12_windOfOne_84 : decode cX12_windOfOne 84 = .ok (.aload_n 0, 1) := by decide +kernel
theorem dX12_windOfOne_85 : decode cX12_windOfOne 85 = .ok (.getfield 41, 3) := by decide +kernel
theorem dX12_windOfOne_88 : decode cX12_windOfOne 88 = .ok (.iload 8, 2) := by decide +kernel
theorem dX12_windOfOne_90 : decode cX12_windOfOne 90 = .ok (.iaload, 1) := by decide +kernel
theorem dX12_windOfOne_91 : decode cX12_windOfOne 91 = .ok (.invokevirtual 251, 3) := by decide +kernel
theorem dX12_windOfOne_94 : decode cX12_windOfOne 94 = .ok (.pop, 1) := by decide +kernel
theorem dX12_windOfOne_95 : decode cX12_windOfOne 95 = .ok (.aload_n 0, 1) := by decide +kernel
theorem dX12_windOfOne_96 : decode cX12_windOfOne 96 = .ok (.iload_n 1, 1) := by decide +kernel
theorem dX12_windOfOne_97 : decode cX12_windOfOne 97 = .ok (.invokevirtual 260, 3) := by decide +kernel
theorem dX12_windOfOne_100 : decode cX12_windOfOne 100 = .ok (.lstore 9, 2) := by decide +kernel
theorem dX12_windOfOne_102 : decode cX12_windOfOne 102 = .ok (.iload 8, 2) := by decide +kernel
theorem dX12_windOfOne_104 : decode cX12_windOfOne 104 = .ok (.ifCond .ne 7, 3) := by decide +kernel
theorem dX12_windOfOne_107 : decode cX12_windOfOne 107 = .ok (.iconst 1, 1) := by decide +kernel
theorem dX12_windOfOne_108 : decode cX12_windOfOne 108 = .ok (.goto 4, 3) := by decide +kernel
theorem dX12_windOfOne_111 : decode cX12_windOfOne 111 = .ok (.iconst 0, 1) := by decide +kernel
theorem dX12_windOfOne_112 : decode cX12_windOfOne 112 = .ok (.iload_n 3, 1) := by decide +kernel
theorem dX12_windOfOne_113 : decode cX12_windOfOne 113 = .ok (.lload 9, 2) := by decide +kernel
theorem dX12_windOfOne_115 : decode cX12_windOfOne 115 = .ok (.lload 4, 2) := by decide +kernel
theorem dX12_windOfOne_117 : decode cX12_windOfOne 117 = .ok (.invokestatic 264, 3) := by decide +kernel
theorem dX12_windOfOne_120 : decode cX12_windOfOne 120 = .ok (.istore 11, 2) := by decide +kernel
theorem dX12_windOfOne_122 : decode cX12_windOfOne 122 = .ok (.iload 11, 2) := by decide +kernel
theorem dX12_windOfOne_124 : decode cX12_windOfOne 124 = .ok (.ifCond .eq 8, 3) := by decide +kernel
theorem dX12_windOfOne_127 : decode cX12_windOfOne 127 = .ok (.iload 8, 2) := by decide +kernel
theorem dX12_windOfOne_129 : decode cX12_windOfOne 129 = .ok (.goto 5, 3) := by decide +kernel
theorem dX12_windOfOne_132 : decode cX12_windOfOne 132 = .ok (.iload 6, 2) := by decide +kernel
theorem dX12_windOfOne_134 : decode cX12_windOfOne 134 = .ok (.istore 6, 2) := by decide +kernel
theorem dX12_windOfOne_136 : decode cX12_windOfOne 136 = .ok (.iload 11, 2) := by decide +kernel
theorem dX12_windOfOne_138 : decode cX12_windOfOne 138 = .ok (.ifCond .eq 8, 3) := by decide +kernel
theorem dX12_windOfOne_141 : decode cX12_windOfOne 141 = .ok (.lload 9, 2) := by decide +kernel
theorem dX12_windOfOne_143 : decode cX12_windOfOne 143 = .ok (.goto 5, 3) := by decide +kernel
theorem dX12_windOfOne_146 : decode cX12_windOfOne 146 = .ok (.lload 4, 2) := by decide +kernel
theorem dX12_windOfOne_148 : decode cX12_windOfOne 148 = .ok (.lstore 4, 2) := by decide +kernel
theorem dX12_windOfOne_150 : decode cX12_windOfOne 150 = .ok (.iinc 8 1, 3) := by decide +kernel
theorem dX12_windOfOne_153 : decode cX12_windOfOne 153 = .ok (.goto (-97), 3) := by decide +kernel
theorem dX12_windOfOne_156 : decode cX12_windOfOne 156 = .ok (.aload_n 0, 1) := by decide +kernel
theorem dX12_windOfOne_157 : decode cX12_windOfOne 157 = .ok (.iconst 0, 1) := by decide +kernel
theorem dX12_windOfOne_158 : decode cX12_windOfOne 158 = .ok (.invokevirtual 257, 3) := by decide +kernel
theorem dX12_windOfOne_161 : decode cX12_windOfOne 161 = .ok (.aload_n 0, 1) := by decide +kernel
theorem dX12_windOfOne_162 : decode cX12_windOfOne 162 = .ok (.aload_n 0, 1) := by decide +kernel
theorem dX12_windOfOne_163 : decode cX12_windOfOne 163 = .ok (.getfield 44, 3) := by decide +kernel
theorem dX12_windOfOne_166 : decode cX12_windOfOne 166 = .ok (.iconst 0, 1) := by decide +kernel
theorem dX12_windOfOne_167 : decode cX12_windOfOne 167 = .ok (.iaload, 1) := by decide +kernel
theorem dX12_windOfOne_168 : decode cX12_windOfOne 168 = .ok (.ifCond .ne 8, 3) := by decide +kernel
theorem dX12_windOfOne_171 : decode cX12_windOfOne 171 = .ok (.bipush (-4), 2) := by decide +kernel
theorem dX12_windOfOne_173 : decode cX12_windOfOne 173 = .ok (.goto 5, 3) := by decide +kernel
theorem dX12_windOfOne_176 : decode cX12_windOfOne 176 = .ok (.iload 6, 2) := by decide +kernel
theorem dX12_windOfOne_178 : decode cX12_windOfOne 178 = .ok (.putfield 268, 3) := by decide +kernel
theorem dX12_windOfOne_181 : decode cX12_windOfOne 181 = .ok (.lload 4, 2) := by decide +kernel
theorem dX12_windOfOne_183 : decode cX12_windOfOne 183 = .ok (.lreturn, 1) := by decide +kernel
theorem dX12_one_0 : decode cX12_one 0 = .ok (.aload_n 0, 1) := by decide +kernel
theorem dX12_one_1 : decode cX12_one 1 = .ok (.invokevirtual 244, 3) := by decide +kernel
theorem dX12_one_4 : decode cX12_one 4 = .ok (.i2l, 1) := by decide +kernel
theorem dX12_one_5 : decode cX12_one 5 = .ok (.lstore_n 2, 1) := by decide +kernel
theorem dX12_one_6 : decode cX12_one 6 = .ok (.aload_n 0, 1) := by decide +kernel
theorem dX12_one_7 : decode cX12_one 7 = .ok (.invokevirtual 221, 3) := by decide +kernel
theorem dX12_one_10 : decode cX12_one 10 = .ok (.bipush (-4), 2) := by decide +kernel
theorem dX12_one_12 : decode cX12_one 12 = .ok (.if_icmp .eq 11, 3) := by decide +kernel
theorem dX12_one_15 : decode cX12_one 15 = .ok (.aload_n 0, 1) := by decide +kernel
theorem dX12_one_16 : decode cX12_one 16 = .ok (.iload_n 1, 1) := by decide +kernel
theorem dX12_one_17 : decode cX12_one 17 = .ok (.invokevirtual 260, 3) := by decide +kernel
theorem dX12_one_20 : decode cX12_one 20 = .ok (.lload_n 2, 1) := by decide +kernel
theorem dX12_one_21 : decode cX12_one 21 = .ok (.lmul, 1) := by decide +kernel
theorem dX12_one_22 : decode cX12_one 22 = .ok (.lreturn, 1) := by decide +kernel
theorem dX12_one_23 : decode cX12_one 23 = .ok (.lconst 0, 1) := by decide +kernel
theorem dX12_one_24 : decode cX12_one 24 = .ok (.lstore 4, 2) := by decide +kernel
theorem dX12_one_26 : decode cX12_one 26 = .ok (.iconst 0, 1) := by decide +kernel
theorem dX12_one_27 : decode cX12_one 27 = .ok (.istore 6, 2) := by decide +kernel
theorem dX12_one_29 : decode cX12_one 29 = .ok (.iload 6, 2) := by decide +kernel
theorem dX12_one_31 : decode cX12_one 31 = .ok (.iconst 5, 1) := by decide +kernel
theorem dX12_one_32 : decode cX12_one 32 = .ok (.if_icmp .ge 50, 3) := by decide +kernel
theorem dX12_one_35 : decode cX12_one 35 = .ok (.lload 4, 2) := by decide +kernel
theorem dX12_one_37 : decode cX12_one 37 = .ok (.aload_n 0, 1) := by decide +kernel
theorem dX12_one_38 : decode cX12_one 38 = .ok (.getfield 7, 3) := by decide +kernel
theorem dX12_one_41 : decode cX12_one 41 = .ok (.bipush 13, 2) := by decide +kernel
theorem dX12_one_43 : decode cX12_one 43 = .ok (.iload 6, 2) := by decide +kernel
theorem dX12_one_45 : decode cX12_one 45 = .ok (.iadd, 1) := by decide +kernel
theorem dX12_one_46 : decode cX12_one 46 = .ok (.iaload, 1) := by decide +kernel
theorem dX12_one_47 : decode cX12_one 47 = .ok (.ifCond .ne 7, 3) := by decide +kernel
theorem dX12_one_50 : decode cX12_one 50 = .ok (.lconst 0, 1) := by decide +kernel
theorem dX12_one_51 : decode cX12_one 51 = .ok (.goto 22, 3) := by decide +kernel
theorem dX12_one_54 : decode cX12_one 54 = .ok (.aload_n 0, 1) := by decide +kernel
theorem dX12_one_55 : decode cX12_one 55 = .ok (.getfield 7, 3) := by decide +kernel
theorem dX12_one_58 : decode cX12_one 58 = .ok (.bipush 13, 2) := by decide +kernel
theorem dX12_one_60 : decode cX12_one 60 = .ok (.iload 6, 2) := by decide +kernel
theorem dX12_one_62 : decode cX12_one 62 = .ok (.iadd, 1) := by decide +kernel
theorem dX12_one_63 : decode cX12_one 63 = .ok (.iaload, 1) := by decide +kernel
theorem dX12_one_64 : decode cX12_one 64 = .ok (.i2l, 1) := by decide +kernel
theorem dX12_one_65 : decode cX12_one 65 = .ok (.aload_n 0, 1) := by decide +kernel
theorem dX12_one_66 : decode cX12_one 66 = .ok (.iload_n 1, 1) := by decide +kernel
theorem dX12_one_67 : decode cX12_one 67 = .ok (.iload 6, 2) := by decide +kernel
theorem dX12_one_69 : decode cX12_one 69 = .ok (.invokevirtual 271, 3) := by decide +kernel
theorem dX12_one_72 : decode cX12_one 72 = .ok (.lmul, 1) := by decide +kernel
theorem dX12_one_73 : decode cX12_one 73 = .ok (.ladd, 1) := by decide +kernel
theorem dX12_one_74 : decode cX12_one 74 = .ok (.lstore 4, 2) := by decide +kernel
theorem dX12_one_76 : decode cX12_one 76 = .ok (.iinc 6 1, 3) := by decide +kernel
theorem dX12_one_79 : decode cX12_one 79 = .ok (.goto (-50), 3) := by decide +kernel
theorem dX12_one_82 : decode cX12_one 82 = .ok (.lload 4, 2) := by decide +kernel
theorem dX12_one_84 : decode cX12_one 84 = .ok (.lreturn, 1) := by decide +kernel
theorem dX12_windOfTwo_0 : decode cX12_windOfTwo 0 = .ok (.aload_n 0, 1) := by decide +kernel
theorem dX12_windOfTwo_1 : decode cX12_windOfTwo 1 = .ok (.iload_n 2, 1) := by decide +kernel
theorem dX12_windOfTwo_2 : decode cX12_windOfTwo 2 = .ok (.iconst 1, 1) := by decide +kernel
theorem dX12_windOfTwo_3 : decode cX12_windOfTwo 3 = .ok (.invokevirtual 247, 3) := by decide +kernel
theorem dX12_windOfTwo_6 : decode cX12_windOfTwo 6 = .ok (.aload_n 0, 1) := by decide +kernel
theorem dX12_windOfTwo_7 : decode cX12_windOfTwo 7 = .ok (.iconst 1, 1) := by decide +kernel
theorem dX12_windOfTwo_8 : decode cX12_windOfTwo 8 = .ok (.invokevirtual 254, 3) := by decide +kernel
theorem dX12_windOfTwo_11 : decode cX12_windOfTwo 11 = .ok (.aload_n 0, 1) := by decide +kernel
theorem dX12_windOfTwo_12 : decode cX12_windOfTwo 12 = .ok (.getfield 204, 3) := by decide +kernel
theorem dX12_windOfTwo_15 : decode cX12_windOfTwo 15 = .ok (.iload_n 1, 1) := by decide +kernel
theorem dX12_windOfTwo_16 : decode cX12_windOfTwo 16 = .ok (.if_icmp .ne 7, 3) := by decide +kernel
theorem dX12_windOfTwo_19 : decode cX12_windOfTwo 19 = .ok (.iconst 1, 1) := by decide +kernel
theorem dX12_windOfTwo_20 : decode cX12_windOfTwo 20 = .ok (.goto 4, 3) := by decide +kernel
theorem dX12_windOfTwo_23 : decode cX12_windOfTwo 23 = .ok (.iconst 0, 1) := by decide +kernel
theorem dX12_windOfTwo_24 : decode cX12_windOfTwo 24 = .ok (.istore_n 3, 1) := by decide +kernel
theorem dX12_windOfTwo_25 : decode cX12_windOfTwo 25 = .ok (.lconst 0, 1) := by decide +kernel
theorem dX12_windOfTwo_26 : decode cX12_windOfTwo 26 = .ok (.lstore 4, 2) := by decide +kernel
theorem dX12_windOfTwo_28 : decode cX12_windOfTwo 28 = .ok (.bipush (-4), 2) := by decide +kernel
theorem dX12_windOfTwo_30 : decode cX12_windOfTwo 30 = .ok (.istore 6, 2) := by decide +kernel
theorem dX12_windOfTwo_32 : decode cX12_windOfTwo 32 = .ok (.aload_n 0, 1) := by decide +kernel
theorem dX12_windOfTwo_33 : decode cX12_windOfTwo 33 = .ok (.getfield 44, 3) := by decide +kernel
theorem dX12_windOfTwo_36 : decode cX12_windOfTwo 36 = .ok (.iconst 1, 1) := by decide +kernel
theorem dX12_windOfTwo_37 : decode cX12_windOfTwo 37 = .ok (.iaload, 1) := by decide +kernel
theorem dX12_windOfTwo_38 : decode cX12_windOfTwo 38 = .ok (.ifCond .ne 7, 3) := by decide +kernel
theorem dX12_windOfTwo_41 : decode cX12_windOfTwo 41 = .ok (.iconst 1, 1) := by decide +kernel
theorem dX12_windOfTwo_42 : decode cX12_windOfTwo 42 = .ok (.goto 9, 3) := by decide +kernel
theorem dX12_windOfTwo_45 : decode cX12_windOfTwo 45 = .ok (.aload_n 0, 1) := by decide +kernel
theorem dX12_windOfTwo_46 : decode cX12_windOfTwo 46 = .ok (.getfield 44, 3) := by decide +kernel
theorem dX12_windOfTwo_49 : decode cX12_windOfTwo 49 = .ok (.iconst 1, 1) := by decide +kernel
theorem dX12_windOfTwo_50 : decode cX12_windOfTwo 50 = .ok (.iaload, 1) := by decide +kernel
theorem dX12_windOfTwo_51 : decode cX12_windOfTwo 51 = .ok (.istore 7, 2) := by decide +kernel
theorem dX12_windOfTwo_53 : decode cX12_windOfTwo 53 = .ok (.iconst 0, 1) := by decide +kernel
theorem dX12_windOfTwo_54 : decode cX12_windOfTwo 54 = .ok (.istore 8, 2) := by decide +kernel
theorem dX12_windOfTwo_56 : decode cX12_windOfTwo 56 = .ok (.iload 8, 2) := by decide +kernel
theorem dX12_windOfTwo_58 : decode cX12_windOfTwo 58 = .ok (.iload 7, 2) := by decide +kernel
theorem dX12_windOfTwo_60 : decode cX12_windOfTwo 60 = .ok (.if_icmp .ge 99, 3) := by decide +kernel
theorem dX12_windOfTwo_63 : decode cX12_windOfTwo 63 = .ok (.aload_n 0, 1) := by decide +kernel
theorem dX12_windOfTwo_64 : decode cX12_windOfTwo 64 = .ok (.iconst 1, 1) := by decide +kernel
theorem dX12_windOfTwo_65 : decode cX12_windOfTwo 65 = .ok (.invokevirtual 257, 3) := by decide +kernel
theorem dX12_windOfTwo_68 : decode cX12_windOfTwo 68 = .ok (.aload_n 0, 1) := by decide +kernel
theorem dX12_windOfTwo_69 : decode cX12_windOfTwo 69 = .ok (.iload_n 2, 1) := by decide +kernel
theorem dX12_windOfTwo_70 : decode cX12_windOfTwo 70 = .ok (.aload_n 0, 1) := by decide +kernel
theorem dX12_windOfTwo_71 : decode cX12_windOfTwo 71 = .ok (.getfield 44, 3) := by decide +kernel
theorem dX12_windOfTwo_74 : decode cX12_windOfTwo 74 = .ok (.iconst 1, 1) := by decide +kernel
theorem dX12_windOfTwo_75 : decode cX12_windOfTwo 75 = .ok (.iaload, 1) := by decide +kernel
theorem dX12_windOfTwo_76 : decode cX12_windOfTwo 76 = .ok (.ifCond .ne 8, 3) := by decide +kernel
theorem dX12_windOfTwo_79 : decode cX12_windOfTwo 79 = .ok (.bipush (-4), 2) := by decide +kernel
theorem dX12_windOfTwo_81 : decode cX12_windOfTwo 81 = .ok (.goto 13, 3) := by decide +kernel
theorem dX12_windOfTwo_84 : decode cX12_windOfTwo 84 = .ok (.aload_n 0, 1) := by decide +kernel
theorem dX12_windOfTwo_85 : decode cX12_windOfTwo 85 = .ok (.getfield 41, 3) := by decide +kernel
theorem dX12_windOfTwo_88 : decode cX12_windOfTwo 88 = .ok (.bipush 64, 2) := by decide +kernel
theorem dX12_windOfTwo_90 : decode cX12_windOfTwo 90 = .ok (.iload 8, 2) := by decide +kernel
theorem dX12_windOfTwo_92 : decode cX12_windOfTwo 92 = .ok (.iadd, 1) := by decide +kernel
theorem dX12_windOfTwo_93 : decode cX12_windOfTwo 93 = .ok (.iaload, 1) := by decide +kernel
theorem dX12_windOfTwo_94 : decode cX12_windOfTwo 94 = .ok (.invokevirtual 251, 3) := by decide +kernel
theorem dX12_windOfTwo_97 : decode cX12_windOfTwo 97 = .ok (.pop, 1) := by decide +kernel
theorem dX12_windOfTwo_98 : decode cX12_windOfTwo 98 = .ok (.aload_n 0, 1) := by decide +kernel
theorem dX12_windOfTwo_99 : decode cX12_windOfTwo 99 = .ok (.iload_n 1, 1) := by decide +kernel
theorem dX12_windOfTwo_100 : decode cX12_windOfTwo 100 = .ok (.invokevirtual 275, 3) := by decide +kernel
theorem dX12_windOfTwo_103 : decode cX12_windOfTwo 103 = .ok (.lstore 9, 2) := by decide +kernel
theorem dX12_windOfTwo_105 : decode cX12_windOfTwo 105 = .ok (.iload 8, 2) := by decide +kernel
theorem dX12_windOfTwo_107 : decode cX12_windOfTwo 107 = .ok (.ifCond .ne 7, 3) := by decide +kernel
theorem dX12_windOfTwo_110 : decode cX12_windOfTwo 110 = .ok (.iconst 1, 1) := by decide +kernel
theorem dX12_windOfTwo_111 : decode cX12_windOfTwo 111 = .ok (.goto 4, 3) := by decide +kernel
theorem dX12_windOfTwo_114 : decode cX12_windOfTwo 114 = .ok (.iconst 0, 1) := by decide +kernel
theorem dX12_windOfTwo_115 : decode cX12_windOfTwo 115 = .ok (.iload_n 3, 1) := by decide +kernel
theorem dX12_windOfTwo_116 : decode cX12_windOfTwo 116 = .ok (.lload 9, 2) := by decide +kernel
theorem dX12_windOfTwo_118 : decode cX12_windOfTwo 118 = .ok (.lload 4, 2) := by decide +kernel
theorem dX12_windOfTwo_120 : decode cX12_windOfTwo 120 = .ok (.invokestatic 264, 3) := by decide +kernel
theorem dX12_windOfTwo_123 : decode cX12_windOfTwo 123 = .ok (.istore 11, 2) := by decide +kernel
theorem dX12_windOfTwo_125 : decode cX12_windOfTwo 125 = .ok (.iload 11, 2) := by decide +kernel
theorem dX12_windOfTwo_127 : decode cX12_windOfTwo 127 = .ok (.ifCond .eq 8, 3) := by decide +kernel
theorem dX12_windOfTwo_130 : decode cX12_windOfTwo 130 = .ok (.iload 8, 2) := by decide +kernel
theorem dX12_windOfTwo_132 : decode cX12_windOfTwo 132 = .ok (.goto 5, 3) := by decide +kernel
theorem dX12_windOfTwo_135 : decode cX12_windOfTwo 135 = .ok (.iload 6, 2) := by decide +kernel
theorem dX12_windOfTwo_137 : decode cX12_windOfTwo 137 = .ok (.istore 6, 2) := by decide +kernel
theorem dX12_windOfTwo_139 : decode cX12_windOfTwo 139 = .ok (.iload 11, 2) := by decide +kernel
theorem dX12_windOfTwo_141 : decode cX12_windOfTwo 141 = .ok (.ifCond .eq 8, 3) := by decide +kernel
theorem dX12_windOfTwo_144 : decode cX12_windOfTwo 144 = .ok (.lload 9, 2) := by decide +kernel
theorem dX12_windOfTwo_146 : decode cX12_windOfTwo 146 = .ok (.goto 5, 3) := by decide +kernel
theorem dX12_windOfTwo_149 : decode cX12_windOfTwo 149 = .ok (.lload 4, 2) := by decide +kernel
theorem dX12_windOfTwo_151 : decode cX12_windOfTwo 151 = .ok (.lstore 4, 2) := by decide +kernel
theorem dX12_windOfTwo_153 : decode cX12_windOfTwo 153 = .ok (.iinc 8 1, 3) := by decide +kernel
theorem dX12_windOfTwo_156 : decode cX12_windOfTwo 156 = .ok (.goto (-100), 3) := by decide +kernel
theorem dX12_windOfTwo_159 : decode cX12_windOfTwo 159 = .ok (.aload_n 0, 1) := by decide +kernel
theorem dX12_windOfTwo_160 : decode cX12_windOfTwo 160 = .ok (.iconst 1, 1) := by decide +kernel
theorem dX12_windOfTwo_161 : decode cX12_windOfTwo 161 = .ok (.invokevirtual 257, 3) := by decide +kernel
theorem dX12_windOfTwo_164 : decode cX12_windOfTwo 164 = .ok (.aload_n 0, 1) := by decide +kernel
theorem dX12_windOfTwo_165 : decode cX12_windOfTwo 165 = .ok (.aload_n 0, 1) := by decide +kernel
theorem dX12_windOfTwo_166 : decode cX12_windOfTwo 166 = .ok (.getfield 44, 3) := by decide +kernel
theorem dX12_windOfTwo_169 : decode cX12_windOfTwo 169 = .ok (.iconst 1, 1) := by decide +kernel
theorem dX12_windOfTwo_170 : decode cX12_windOfTwo 170 = .ok (.iaload, 1) := by decide +kernel
theorem dX12_windOfTwo_171 : decode cX12_windOfTwo 171 = .ok (.ifCond .ne 8, 3) := by decide +kernel
theorem dX12_windOfTwo_174 : decode cX12_windOfTwo 174 = .ok (.bipush (-4), 2) := by decide +kernel
theorem dX12_windOfTwo_176 : decode cX12_windOfTwo 176 = .ok (.goto 5, 3) := by decide +kernel
theorem dX12_windOfTwo_179 : decode cX12_windOfTwo 179 = .ok (.iload 6, 2) := by decide +kernel
theorem dX12_windOfTwo_181 : decode cX12_windOfTwo 181 = .ok (.putfield 268, 3) := by decide +kernel
theorem dX12_windOfTwo_184 : decode cX12_windOfTwo 184 = .ok (.lload 4, 2) := by decide +kernel
theorem dX12_windOfTwo_186 : decode cX12_windOfTwo 186 = .ok (.lreturn, 1) := by decide +kernel
theorem dX12_two_0 : decode cX12_two 0 = .ok (.aload_n 0, 1) := by decide +kernel
theorem dX12_two_1 : decode cX12_two 1 = .ok (.invokevirtual 244, 3) := by decide +kernel
theorem dX12_two_4 : decode cX12_two 4 = .ok (.i2l, 1) := by decide +kernel
theorem dX12_two_5 : decode cX12_two 5 = .ok (.lstore_n 2, 1) := by decide +kernel
theorem dX12_two_6 : decode cX12_two 6 = .ok (.aload_n 0, 1) := by decide +kernel
theorem dX12_two_7 : decode cX12_two 7 = .ok (.invokevirtual 221, 3) := by decide +kernel
theorem dX12_two_10 : decode cX12_two 10 = .ok (.bipush (-4), 2) := by decide +kernel
theorem dX12_two_12 : decode cX12_two 12 = .ok (.if_icmp .eq 13, 3) := by decide +kernel
theorem dX12_two_15 : decode cX12_two 15 = .ok (.aload_n 0, 1) := by decide +kernel
theorem dX12_two_16 : decode cX12_two 16 = .ok (.iload_n 1, 1) := by decide +kernel
theorem dX12_two_17 : decode cX12_two 17 = .ok (.invokevirtual 260, 3) := by decide +kernel
theorem dX12_two_20 : decode cX12_two 20 = .ok (.lload_n 2, 1) := by decide +kernel
theorem dX12_two_21 : decode cX12_two 21 = .ok (.lmul, 1) := by decide +kernel
theorem dX12_two_22 : decode cX12_two 22 = .ok (.lload_n 2, 1) := by decide +kernel
theorem dX12_two_23 : decode cX12_two 23 = .ok (.lmul, 1) := by decide +kernel
theorem dX12_two_24 : decode cX12_two 24 = .ok (.lreturn, 1) := by decide +kernel
theorem dX12_two_25 : decode cX12_two 25 = .ok (.lconst 0, 1) := by decide +kernel
theorem dX12_two_26 : decode cX12_two 26 = .ok (.lstore 4, 2) := by decide +kernel
theorem dX12_two_28 : decode cX12_two 28 = .ok (.iconst 0, 1) := by decide +kernel
theorem dX12_two_29 : decode cX12_two 29 = .ok (.istore 6, 2) := by decide +kernel
theorem dX12_two_31 : decode cX12_two 31 = .ok (.iload 6, 2) := by decide +kernel
theorem dX12_two_33 : decode cX12_two 33 = .ok (.iconst 5, 1) := by decide +kernel
theorem dX12_two_34 : decode cX12_two 34 = .ok (.if_icmp .ge 50, 3) := by decide +kernel
theorem dX12_two_37 : decode cX12_two 37 = .ok (.lload 4, 2) := by decide +kernel
theorem dX12_two_39 : decode cX12_two 39 = .ok (.aload_n 0, 1) := by decide +kernel
theorem dX12_two_40 : decode cX12_two 40 = .ok (.getfield 7, 3) := by decide +kernel
theorem dX12_two_43 : decode cX12_two 43 = .ok (.bipush 13, 2) := by decide +kernel
theorem dX12_two_45 : decode cX12_two 45 = .ok (.iload 6, 2) := by decide +kernel
theorem dX12_two_47 : decode cX12_two 47 = .ok (.iadd, 1) := by decide +kernel
theorem dX12_two_48 : decode cX12_two 48 = .ok (.iaload, 1) := by decide +kernel
theorem dX12_two_49 : decode cX12_two 49 = .ok (.ifCond .ne 7, 3) := by decide +kernel
theorem dX12_two_52 : decode cX12_two 52 = .ok (.lconst 0, 1) := by decide +kernel
theorem dX12_two_53 : decode cX12_two 53 = .ok (.goto 22, 3) := by decide +kernel
theorem dX12_two_56 : decode cX12_two 56 = .ok (.aload_n 0, 1) := by decide +kernel
theorem dX12_two_57 : decode cX12_two 57 = .ok (.getfield 7, 3) := by decide +kernel
theorem dX12_two_60 : decode cX12_two 60 = .ok (.bipush 13, 2) := by decide +kernel
theorem dX12_two_62 : decode cX12_two 62 = .ok (.iload 6, 2) := by decide +kernel
theorem dX12_two_64 : decode cX12_two 64 = .ok (.iadd, 1) := by decide +kernel
theorem dX12_two_65 : decode cX12_two 65 = .ok (.iaload, 1) := by decide +kernel
theorem dX12_two_66 : decode cX12_two 66 = .ok (.i2l, 1) := by decide +kernel
theorem dX12_two_67 : decode cX12_two 67 = .ok (.aload_n 0, 1) := by decide +kernel
theorem dX12_two_68 : decode cX12_two 68 = .ok (.iload_n 1, 1) := by decide +kernel
theorem dX12_two_69 : decode cX12_two 69 = .ok (.iload 6, 2) := by decide +kernel
theorem dX12_two_71 : decode cX12_two 71 = .ok (.invokevirtual 278, 3) := by decide +kernel
theorem dX12_two_74 : decode cX12_two 74 = .ok (.lmul, 1) := by decide +kernel
theorem dX12_two_75 : decode cX12_two 75 = .ok (.ladd, 1) := by decide +kernel
theorem dX12_two_76 : decode cX12_two 76 = .ok (.lstore 4, 2) := by decide +kernel
theorem dX12_two_78 : decode cX12_two 78 = .ok (.iinc 6 1, 3) := by decide +kernel
theorem dX12_two_81 : decode cX12_two 81 = .ok (.goto (-50), 3) := by decide +kernel
theorem dX12_two_84 : decode cX12_two 84 = .ok (.lload 4, 2) := by decide +kernel
theorem dX12_two_86 : decode cX12_two 86 = .ok (.lreturn, 1) := by decide +kernel
theorem dX12_windOfThree_0 : decode cX12_windOfThree 0 = .ok (.aload_n 0, 1) := by decide +kernel
theorem dX12_windOfThree_1 : decode cX12_windOfThree 1 = .ok (.iload_n 2, 1) := by decide +kernel
theorem dX12_windOfThree_2 : decode cX12_windOfThree 2 = .ok (.iconst 2, 1) := by decide +kernel
theorem dX12_windOfThree_3 : decode cX12_windOfThree 3 = .ok (.invokevirtual 247, 3) := by decide +kernel
theorem dX12_windOfThree_6 : decode cX12_windOfThree 6 = .ok (.aload_n 0, 1) := by decide +kernel
theorem dX12_windOfThree_7 : decode cX12_windOfThree 7 = .ok (.iconst 2, 1) := by decide +kernel
theorem dX12_windOfThree_8 : decode cX12_windOfThree 8 = .ok (.invokevirtual 254, 3) := by decide +kernel
theorem dX12_windOfThree_11 : decode cX12_windOfThree 11 = .ok (.aload_n 0, 1) := by decide +kernel
theorem dX12_windOfThree_12 : decode cX12_windOfThree 12 = .ok (.getfield 204, 3) := by decide +kernel
theorem dX12_windOfThree_15 : decode cX12_windOfThree 15 = .ok (.iload_n 1, 1) := by decide +kernel
theorem dX12_windOfThree_16 : decode cX12_windOfThree 16 = .ok (.if_icmp .ne 7, 3) := by decide +kernel
theorem dX12_windOfThree_19 : decode cX12_windOfThree 19 = .ok (.iconst 1, 1) := by decide +kernel
theorem dX12_windOfThree_20 : decode cX12_windOfThree 20 = .ok (.goto 4, 3) := by decide +kernel
theorem dX12_windOfThree_23 : decode cX12_windOfThree 23 = .ok (.iconst 0, 1) := by decide +kernel
theorem dX12_windOfThree_24 : decode cX12_windOfThree 24 = .ok (.istore_n 3, 1) := by decide +kernel
theorem dX12_windOfThree_25 : decode cX12_windOfThree 25 = .ok (.lconst 0, 1) := by decide +kernel
theorem dX12_windOfThree_26 : decode cX12_windOfThree 26 = .ok (.lstore 4, 2) := by decide +kernel
theorem dX12_windOfThree_28 : decode cX12_windOfThree 28 = .ok (.bipush (-4), 2) := by decide +kernel
theorem dX12_windOfThree_30 : decode cX12_windOfThree 30 = .ok (.istore 6, 2) := by decide +kernel
theorem dX12_windOfThree_32 : decode cX12_windOfThree 32 = .ok (.aload_n 0, 1) := by decide +kernel
theorem dX12_windOfThree_33 : decode cX12_windOfThree 33 = .ok (.getfield 44, 3) := by decide +kernel
theorem dX12_windOfThree_36 : decode cX12_windOfThree 36 = .ok (.iconst 2, 1) := by decide +kernel
theorem dX12_windOfThree_37 : decode cX12_windOfThree 37 = .ok (.iaload, 1) := by decide +kernel
theorem dX12_windOfThree_38 : decode cX12_windOfThree 38 = .ok (.ifCond .ne 7, 3) := by decide +kernel
theorem dX12_windOfThree_41 : decode cX12_windOfThree 41 = .ok (.iconst 1, 1) := by decide +kernel
theorem dX12_windOfThree_42 : decode cX12_windOfThree 42 = .ok (.goto 9, 3) := by decide +kernel
theorem dX12_windOfThree_45 : decode cX12_windOfThree 45 = .ok (.aload_n 0, 1) := by decide +kernel
theorem dX12_windOfThree_46 : decode cX12_windOfThree 46 = .ok (.getfield 44, 3) := by decide +kernel
theorem dX12_windOfThree_49 : decode cX12_windOfThree 49 = .ok (.iconst 2, 1) := by decide +kernel
theorem dX12_windOfThree_50 : decode cX12_windOfThree 50 = .ok (.iaload, 1) := by decide +kernel
theorem dX12_windOfThree_51 : decode cX12_windOfThree 51 = .ok (.istore 7, 2) := by decide +kernel
theorem dX12_windOfThree_53 : decode cX12_windOfThree 53 = .ok (.iconst 0, 1) := by decide +kernel
theorem dX12_windOfThree_54 : decode cX12_windOfThree 54 = .ok (.istore 8, 2) := by decide +kernel
theorem dX12_windOfThree_56 : decode cX12_windOfThree 56 = .ok (.iload 8, 2) := by decide +kernel
theorem dX12_windOfThree_58 : decode cX12_windOfThree 58 = .ok (.iload 7, 2) := by decide +kernel
theorem dX12_windOfThree_60 : decode cX12_windOfThree 60 = .ok (.if_icmp .ge 100, 3) := by decide +kernel
theorem dX12_windOfThree_63 : decode cX12_windOfThree 63 = .ok (.aload_n 0, 1) := by decide +kernel
theorem dX12_windOfThree_64 : decode cX12_windOfThree 64 = .ok (.iconst 2, 1) := by decide +kernel
theorem dX12_windOfThree_65 : decode cX12_windOfThree 65 = .ok (.invokevirtual 257, 3) := by decide +kernel
theorem dX12_windOfThree_68 : decode cX12_windOfThree 68 = .ok (.aload_n 0, 1) := by decide +kernel
theorem dX12_windOfThree_69 : decode cX12_windOfThree 69 = .ok (.iload_n 2, 1) := by decide +kernel
theorem dX12_windOfThree_70 : decode cX12_windOfThree 70 = .ok (.aload_n 0, 1) := by decide +kernel
theorem dX12_windOfThree_71 : decode cX12_windOfThree 71 = .ok (.getfield 44, 3) := by decide +kernel
theorem dX12_windOfThree_74 : decode cX12_windOfThree 74 = .ok (.iconst 2, 1) := by decide +kernel
theorem dX12_windOfThree_75 : decode cX12_windOfThree 75 = .ok (.iaload, 1) := by decide +kernel
theorem dX12_windOfThree_76 : decode cX12_windOfThree 76 = .ok (.ifCond .ne 8, 3) := by decide +kernel
theorem dX12_windOfThree_79 : decode cX12_windOfThree 79 = .ok (.bipush (-4), 2) := by decide +kernel
theorem dX12_windOfThree_81 : decode cX12_windOfThree 81 = .ok (.goto 14, 3) := by decide +kernel
theorem dX12_windOfThree_84 : decode cX12_windOfThree 84 = .ok (.aload_n 0, 1) := by decide +kernel
theorem dX12_windOfThree_85 : decode cX12_windOfThree 85 = .ok (.getfield 41, 3) := by decide +kernel
theorem dX12_windOfThree_88 : decode cX12_windOfThree 88 = .ok (.sipush 128, 3) := by decide +kernel
theorem dX12_windOfThree_91 : decode cX12_windOfThree 91 = .ok (.iload 8, 2) := by decide +kernel
theorem dX12_windOfThree_93 : decode cX12_windOfThree 93 = .ok (.iadd, 1) := by decide +kernel
theorem dX12_windOfThree_94 : decode cX12_windOfThree 94 = .ok (.iaload, 1) := by decide +kernel
theorem dX12_windOfThree_95 : decode cX12_windOfThree 95 = .ok (.invokevirtual 251, 3) := by decide +kernel
theorem dX12_windOfThree_98 : decode cX12_windOfThree 98 = .ok (.pop, 1) := by decide +kernel
theorem dX12_windOfThree_99 : decode cX12_windOfThree 99 = .ok (.aload_n 0, 1) := by decide +kernel
theorem dX12_windOfThree_100 : decode cX12_windOfThree 100 = .ok (.iload_n 1, 1) := by decide +kernel
theorem dX12_windOfThree_101 : decode cX12_windOfThree 101 = .ok (.invokevirtual 281, 3) := by decide +kernel
theorem dX12_windOfThree_104 : decode cX12_windOfThree 104 = .ok (.lstore 9, 2) := by decide +kernel
theorem dX12_windOfThree_106 : decode cX12_windOfThree 106 = .ok (.iload 8, 2) := by decide +kernel
theorem dX12_windOfThree_108 : decode cX12_windOfThree 108 = .ok (.ifCond .ne 7, 3) := by decide +kernel
theorem dX12_windOfThree_111 : decode cX12_windOfThree 111 = .ok (.iconst 1, 1) := by decide +kernel
theorem dX12_windOfThree_112 : decode cX12_windOfThree 112 = .ok (.goto 4, 3) := by decide +kernel
theorem dX12_windOfThree_115 : decode cX12_windOfThree 115 = .ok (.iconst 0, 1) := by decide +kernel
theorem dX12_windOfThree_116 : decode cX12_windOfThree 116 = .ok (.iload_n 3, 1) := by decide +kernel
theorem dX12_windOfThree_117 : decode cX12_windOfThree 117 = .ok (.lload 9, 2) := by decide +kernel
theorem dX12_windOfThree_119 : decode cX12_windOfThree 119 = .ok (.lload 4, 2) := by decide +kernel
theorem dX12_windOfThree_121 : decode cX12_windOfThree 121 = .ok (.invokestatic 264, 3) := by decide +kernel
theorem dX12_windOfThree_124 : decode cX12_windOfThree 124 = .ok (.istore 11, 2) := by decide +kernel
theorem dX12_windOfThree_126 : decode cX12_windOfThree 126 = .ok (.iload 11, 2) := by decide +kernel
theorem dX12_windOfThree_128 : decode cX12_windOfThree 128 = .ok (.ifCond .eq 8, 3) := by decide +kernel
theorem dX12_windOfThree_131 : decode cX12_windOfThree 131 = .ok (.iload 8, 2) := by decide +kernel
theorem dX12_windOfThree_133 : decode cX12_windOfThree 133 = .ok (.goto 5, 3) := by decide +kernel
theorem dX12_windOfThree_136 : decode cX12_windOfThree 136 = .ok (.iload 6, 2) := by decide +kernel
theorem dX12_windOfThree_138 : decode cX12_windOfThree 138 = .ok (.istore 6, 2) := by decide +kernel
theorem dX12_windOfThree_140 : decode cX12_windOfThree 140 = .ok (.iload 11, 2) := by decide +kernel
theorem dX12_windOfThree_142 : decode cX12_windOfThree 142 = .ok (.ifCond .eq 8, 3) := by decide +kernel
theorem dX12_windOfThree_145 : decode cX12_windOfThree 145 = .ok (.lload 9, 2) := by decide +kernel
theorem dX12_windOfThree_147 : decode cX12_windOfThree 147 = .ok (.goto 5, 3) := by decide +kernel
theorem dX12_windOfThree_150 : decode cX12_windOfThree 150 = .ok (.lload 4, 2) := by decide +kernel
theorem dX12_windOfThree_152 : decode cX12_windOfThree 152 = .ok (.lstore 4, 2) := by decide +kernel
theorem dX12_windOfThree_154 : decode cX12_windOfThree 154 = .ok (.iinc 8 1, 3) := by decide +kernel
theorem dX12_windOfThree_157 : decode cX12_windOfThree 157 = .ok (.goto (-101), 3) := by decide +kernel
theorem dX12_windOfThree_160 : decode cX12_windOfThree 160 = .ok (.aload_n 0, 1) := by decide +kernel
theorem dX12_windOfThree_161 : decode cX12_windOfThree 161 = .ok (.iconst 2, 1) := by decide +kernel
theorem dX12_windOfThree_162 : decode cX12_windOfThree 162 = .ok (.invokevirtual 257, 3) := by decide +kernel
theorem dX12_windOfThree_165 : decode cX12_windOfThree 165 = .ok (.aload_n 0, 1) := by decide +kernel
theorem dX12_windOfThree_166 : decode cX12_windOfThree 166 = .ok (.aload_n 0, 1) := by decide +kernel
theorem dX12_windOfThree_167 : decode cX12_windOfThree 167 = .ok (.getfield 44, 3) := by decide +kernel
theorem dX12_windOfThree_170 : decode cX12_windOfThree 170 = .ok (.iconst 2, 1) := by decide +kernel
theorem dX12_windOfThree_171 : decode cX12_windOfThree 171 = .ok (.iaload, 1) := by decide +kernel
theorem dX12_windOfThree_172 : decode cX12_windOfThree 172 = .ok (.ifCond .ne 8, 3) := by decide +kernel
theorem dX12_windOfThree_175 : decode cX12_windOfThree 175 = .ok (.bipush (-4), 2) := by decide +kernel
theorem dX12_windOfThree_177 : decode cX12_windOfThree 177 = .ok (.goto 5, 3) := by decide +kernel
theorem dX12_windOfThree_180 : decode cX12_windOfThree 180 = .ok (.iload 6, 2) := by decide +kernel
theorem dX12_windOfThree_182 : decode cX12_windOfThree 182 = .ok (.putfield 268, 3) := by decide +kernel
theorem dX12_windOfThree_185 : decode cX12_windOfThree 185 = .ok (.lload 4, 2) := by decide +kernel
theorem dX12_windOfThree_187 : decode cX12_windOfThree 187 = .ok (.lreturn, 1) := by decide +kernel
theorem dX12_windOf_0 : decode cX12_windOf 0 = .ok (.iload_n 2, 1) := by decide +kernel
theorem dX12_windOf_1 : decode cX12_windOf 1 = .ok (.iconst 1, 1) := by decide +kernel
theorem dX12_windOf_2 : decode cX12_windOf 2 = .ok (.if_icmp .ne 12, 3) := by decide +kernel
theorem dX12_windOf_5 : decode cX12_windOf 5 = .ok (.aload_n 0, 1) := by decide +kernel
theorem dX12_windOf_6 : decode cX12_windOf 6 = .ok (.iload_n 1, 1) := by decide +kernel
theorem dX12_windOf_7 : decode cX12_windOf 7 = .ok (.iload_n 3, 1) := by decide +kernel
theorem dX12_windOf_8 : decode cX12_windOf 8 = .ok (.invokevirtual 271, 3) := by decide +kernel
theorem dX12_windOf_11 : decode cX12_windOf 11 = .ok (.goto 23, 3) := by decide +kernel
theorem dX12_windOf_14 : decode cX12_windOf 14 = .ok (.iload_n 2, 1) := by decide +kernel
theorem dX12_windOf_15 : decode cX12_windOf 15 = .ok (.iconst 2, 1) := by decide +kernel
theorem dX12_windOf_16 : decode cX12_windOf 16 = .ok (.if_icmp .ne 12, 3) := by decide +kernel
theorem dX12_windOf_19 : decode cX12_windOf 19 = .ok (.aload_n 0, 1) := by decide +kernel
theorem dX12_windOf_20 : decode cX12_windOf 20 = .ok (.iload_n 1, 1) := by decide +kernel
theorem dX12_windOf_21 : decode cX12_windOf 21 = .ok (.iload_n 3, 1) := by decide +kernel
theorem dX12_windOf_22 : decode cX12_windOf 22 = .ok (.invokevirtual 278, 3) := by decide +kernel
theorem dX12_windOf_25 : decode cX12_windOf 25 = .ok (.goto 9, 3) := by decide +kernel
theorem dX12_windOf_28 : decode cX12_windOf 28 = .ok (.aload_n 0, 1) := by decide +kernel
theorem dX12_windOf_29 : decode cX12_windOf 29 = .ok (.iload_n 1, 1) := by decide +kernel
theorem dX12_windOf_30 : decode cX12_windOf 30 = .ok (.iload_n 3, 1) := by decide +kernel
theorem dX12_windOf_31 : decode cX12_windOf 31 = .ok (.invokevirtual 284, 3) := by decide +kernel
theorem dX12_windOf_34 : decode cX12_windOf 34 = .ok (.lreturn, 1) := by decide +kernel
theorem dX12_valueOf_0 : decode cX12_valueOf 0 = .ok (.iload_n 2, 1) := by decide +kernel
theorem dX12_valueOf_1 : decode cX12_valueOf 1 = .ok (.iconst 3, 1) := by decide +kernel
theorem dX12_valueOf_2 : decode cX12_valueOf 2 = .ok (.if_icmp .ge 34, 3) := by decide +kernel
theorem dX12_valueOf_5 : decode cX12_valueOf 5 = .ok (.iload_n 2, 1) := by decide +kernel
theorem dX12_valueOf_6 : decode cX12_valueOf 6 = .ok (.ifCond .ne 11, 3) := by decide +kernel
theorem dX12_valueOf_9 : decode cX12_valueOf 9 = .ok (.aload_n 0, 1) := by decide +kernel
theorem dX12_valueOf_10 : decode cX12_valueOf 10 = .ok (.iload_n 1, 1) := by decide +kernel
theorem dX12_valueOf_11 : decode cX12_valueOf 11 = .ok (.invokevirtual 260, 3) := by decide +kernel
theorem dX12_valueOf_14 : decode cX12_valueOf 14 = .ok (.goto 21, 3) := by decide +kernel
theorem dX12_valueOf_17 : decode cX12_valueOf 17 = .ok (.iload_n 2, 1) := by decide +kernel
theorem dX12_valueOf_18 : decode cX12_valueOf 18 = .ok (.iconst 1, 1) := by decide +kernel
theorem dX12_valueOf_19 : decode cX12_valueOf 19 = .ok (.if_icmp .ne 11, 3) := by decide +kernel
theorem dX12_valueOf_22 : decode cX12_valueOf 22 = .ok (.aload_n 0, 1) := by decide +kernel
theorem dX12_valueOf_23 : decode cX12_valueOf 23 = .ok (.iload_n 1, 1) := by decide +kernel
theorem dX12_valueOf_24 : decode cX12_valueOf 24 = .ok (.invokevirtual 275, 3) := by decide +kernel
theorem dX12_valueOf_27 : decode cX12_valueOf 27 = .ok (.goto 8, 3) := by decide +kernel
theorem dX12_valueOf_30 : decode cX12_valueOf 30 = .ok (.aload_n 0, 1) := by decide +kernel
theorem dX12_valueOf_31 : decode cX12_valueOf 31 = .ok (.iload_n 1, 1) := by decide +kernel
theorem dX12_valueOf_32 : decode cX12_valueOf 32 = .ok (.invokevirtual 281, 3) := by decide +kernel
theorem dX12_valueOf_35 : decode cX12_valueOf 35 = .ok (.lreturn, 1) := by decide +kernel
theorem dX12_valueOf_36 : decode cX12_valueOf 36 = .ok (.aload_n 0, 1) := by decide +kernel
theorem dX12_valueOf_37 : decode cX12_valueOf 37 = .ok (.invokevirtual 244, 3) := by decide +kernel
theorem dX12_valueOf_40 : decode cX12_valueOf 40 = .ok (.i2l, 1) := by decide +kernel
theorem dX12_valueOf_41 : decode cX12_valueOf 41 = .ok (.lstore_n 3, 1) := by decide +kernel
theorem dX12_valueOf_42 : decode cX12_valueOf 42 = .ok (.aload_n 0, 1) := by decide +kernel
theorem dX12_valueOf_43 : decode cX12_valueOf 43 = .ok (.invokevirtual 221, 3) := by decide +kernel
theorem dX12_valueOf_46 : decode cX12_valueOf 46 = .ok (.bipush (-4), 2) := by decide +kernel
theorem dX12_valueOf_48 : decode cX12_valueOf 48 = .ok (.if_icmp .eq 15, 3) := by decide +kernel
theorem dX12_valueOf_51 : decode cX12_valueOf 51 = .ok (.aload_n 0, 1) := by decide +kernel
theorem dX12_valueOf_52 : decode cX12_valueOf 52 = .ok (.iload_n 1, 1) := by decide +kernel
theorem dX12_valueOf_53 : decode cX12_valueOf 53 = .ok (.invokevirtual 260, 3) := by decide +kernel
theorem dX12_valueOf_56 : decode cX12_valueOf 56 = .ok (.lload_n 3, 1) := by decide +kernel
theorem dX12_valueOf_57 : decode cX12_valueOf 57 = .ok (.lmul, 1) := by decide +kernel
theorem dX12_valueOf_58 : decode cX12_valueOf 58 = .ok (.lload_n 3, 1) := by decide +kernel
theorem dX12_valueOf_59 : decode cX12_valueOf 59 = .ok (.lmul, 1) := by decide +kernel
theorem dX12_valueOf_60 : decode cX12_valueOf 60 = .ok (.lload_n 3, 1) := by decide +kernel
theorem dX12_valueOf_61 : decode cX12_valueOf 61 = .ok (.lmul, 1) := by decide +kernel
theorem dX12_valueOf_62 : decode cX12_valueOf 62 = .ok (.lreturn, 1) := by decide +kernel
theorem dX12_valueOf_63 : decode cX12_valueOf 63 = .ok (.lconst 0, 1) := by decide +kernel
theorem dX12_valueOf_64 : decode cX12_valueOf 64 = .ok (.lstore 5, 2) := by decide +kernel
theorem dX12_valueOf_66 : decode cX12_valueOf 66 = .ok (.iconst 0, 1) := by decide +kernel
theorem dX12_valueOf_67 : decode cX12_valueOf 67 = .ok (.istore 7, 2) := by decide +kernel
theorem dX12_valueOf_69 : decode cX12_valueOf 69 = .ok (.iload 7, 2) := by decide +kernel
theorem dX12_valueOf_71 : decode cX12_valueOf 71 = .ok (.iconst 5, 1) := by decide +kernel
theorem dX12_valueOf_72 : decode cX12_valueOf 72 = .ok (.if_icmp .ge 50, 3) := by decide +kernel
theorem dX12_valueOf_75 : decode cX12_valueOf 75 = .ok (.lload 5, 2) := by decide +kernel
theorem dX12_valueOf_77 : decode cX12_valueOf 77 = .ok (.aload_n 0, 1) := by decide +kernel
theorem dX12_valueOf_78 : decode cX12_valueOf 78 = .ok (.getfield 7, 3) := by decide +kernel
theorem dX12_valueOf_81 : decode cX12_valueOf 81 = .ok (.bipush 13, 2) := by decide +kernel
theorem dX12_valueOf_83 : decode cX12_valueOf 83 = .ok (.iload 7, 2) := by decide +kernel
theorem dX12_valueOf_85 : decode cX12_valueOf 85 = .ok (.iadd, 1) := by decide +kernel
theorem dX12_valueOf_86 : decode cX12_valueOf 86 = .ok (.iaload, 1) := by decide +kernel
theorem dX12_valueOf_87 : decode cX12_valueOf 87 = .ok (.ifCond .ne 7, 3) := by decide +kernel
theorem dX12_valueOf_90 : decode cX12_valueOf 90 = .ok (.lconst 0, 1) := by decide +kernel
theorem dX12_valueOf_91 : decode cX12_valueOf 91 = .ok (.goto 22, 3) := by decide +kernel
theorem dX12_valueOf_94 : decode cX12_valueOf 94 = .ok (.aload_n 0, 1) := by decide +kernel
theorem dX12_valueOf_95 : decode cX12_valueOf 95 = .ok (.getfield 7, 3) := by decide +kernel
theorem dX12_valueOf_98 : decode cX12_valueOf 98 = .ok (.bipush 13, 2) := by decide +kernel
theorem dX12_valueOf_100 : decode cX12_valueOf 100 = .ok (.iload 7, 2) := by decide +kernel
theorem dX12_valueOf_102 : decode cX12_valueOf 102 = .ok (.iadd, 1) := by decide +kernel
theorem dX12_valueOf_103 : decode cX12_valueOf 103 = .ok (.iaload, 1) := by decide +kernel
theorem dX12_valueOf_104 : decode cX12_valueOf 104 = .ok (.i2l, 1) := by decide +kernel
theorem dX12_valueOf_105 : decode cX12_valueOf 105 = .ok (.aload_n 0, 1) := by decide +kernel
theorem dX12_valueOf_106 : decode cX12_valueOf 106 = .ok (.iload_n 1, 1) := by decide +kernel
theorem dX12_valueOf_107 : decode cX12_valueOf 107 = .ok (.iload 7, 2) := by decide +kernel
theorem dX12_valueOf_109 : decode cX12_valueOf 109 = .ok (.invokevirtual 284, 3) := by decide +kernel
theorem dX12_valueOf_112 : decode cX12_valueOf 112 = .ok (.lmul, 1) := by decide +kernel
theorem dX12_valueOf_113 : decode cX12_valueOf 113 = .ok (.ladd, 1) := by decide +kernel
theorem dX12_valueOf_114 : decode cX12_valueOf 114 = .ok (.lstore 5, 2) := by decide +kernel
theorem dX12_valueOf_116 : decode cX12_valueOf 116 = .ok (.iinc 7 1, 3) := by decide +kernel
theorem dX12_valueOf_119 : decode cX12_valueOf 119 = .ok (.goto (-50), 3) := by decide +kernel
theorem dX12_valueOf_122 : decode cX12_valueOf 122 = .ok (.lload 5, 2) := by decide +kernel
theorem dX12_valueOf_124 : decode cX12_valueOf 124 = .ok (.lreturn, 1) := by decide +kernel
theorem dX12_common_0 : decode cX12_common 0 = .ok (.lload_n 0, 1) := by decide +kernel
theorem dX12_common_1 : decode cX12_common 1 = .ok (.lstore 4, 2) := by decide +kernel
theorem dX12_common_3 : decode cX12_common 3 = .ok (.lload_n 2, 1) := by decide +kernel
theorem dX12_common_4 : decode cX12_common 4 = .ok (.lstore 6, 2) := by decide +kernel
theorem dX12_common_6 : decode cX12_common 6 = .ok (.lload 6, 2) := by decide +kernel
theorem dX12_common_8 : decode cX12_common 8 = .ok (.lconst 0, 1) := by decide +kernel
theorem dX12_common_9 : decode cX12_common 9 = .ok (.lcmp, 1) := by decide +kernel
theorem dX12_common_10 : decode cX12_common 10 = .ok (.ifCond .eq 21, 3) := by decide +kernel
theorem dX12_common_13 : decode cX12_common 13 = .ok (.lload 4, 2) := by decide +kernel
theorem dX12_common_15 : decode cX12_common 15 = .ok (.lload 6, 2) := by decide +kernel
theorem dX12_common_17 : decode cX12_common 17 = .ok (.lrem, 1) := by decide +kernel
theorem dX12_common_18 : decode cX12_common 18 = .ok (.lstore 8, 2) := by decide +kernel
theorem dX12_common_20 : decode cX12_common 20 = .ok (.lload 6, 2) := by decide +kernel
theorem dX12_common_22 : decode cX12_common 22 = .ok (.lstore 4, 2) := by decide +kernel
theorem dX12_common_24 : decode cX12_common 24 = .ok (.lload 8, 2) := by decide +kernel
theorem dX12_common_26 : decode cX12_common 26 = .ok (.lstore 6, 2) := by decide +kernel
theorem dX12_common_28 : decode cX12_common 28 = .ok (.goto (-22), 3) := by decide +kernel
theorem dX12_common_31 : decode cX12_common 31 = .ok (.lload 4, 2) := by decide +kernel
theorem dX12_common_33 : decode cX12_common 33 = .ok (.lreturn, 1) := by decide +kernel
theorem dX12_told_0 : decode cX12_told 0 = .ok (.lconst 1, 1) := by decide +kernel
theorem dX12_told_1 : decode cX12_told 1 = .ok (.lstore 5, 2) := by decide +kernel
theorem dX12_told_3 : decode cX12_told 3 = .ok (.iconst 0, 1) := by decide +kernel
theorem dX12_told_4 : decode cX12_told 4 = .ok (.istore 7, 2) := by decide +kernel
theorem dX12_told_6 : decode cX12_told 6 = .ok (.iload 7, 2) := by decide +kernel
theorem dX12_told_8 : decode cX12_told 8 = .ok (.iload_n 3, 1) := by decide +kernel
theorem dX12_told_9 : decode cX12_told 9 = .ok (.if_icmp .ge 19, 3) := by decide +kernel
theorem dX12_told_12 : decode cX12_told 12 = .ok (.lload 5, 2) := by decide +kernel
theorem dX12_told_14 : decode cX12_told 14 = .ok (.aload_n 0, 1) := by decide +kernel
theorem dX12_told_15 : decode cX12_told 15 = .ok (.invokevirtual 244, 3) := by decide +kernel
theorem dX12_told_18 : decode cX12_told 18 = .ok (.i2l, 1) := by decide +kernel
theorem dX12_told_19 : decode cX12_told 19 = .ok (.lmul, 1) := by decide +kernel
theorem dX12_told_20 : decode cX12_told 20 = .ok (.lstore 5, 2) := by decide +kernel
theorem dX12_told_22 : decode cX12_told 22 = .ok (.iinc 7 1, 3) := by decide +kernel
theorem dX12_told_25 : decode cX12_told 25 = .ok (.goto (-19), 3) := by decide +kernel
theorem dX12_told_28 : decode cX12_told 28 = .ok (.lload 5, 2) := by decide +kernel
theorem dX12_told_30 : decode cX12_told 30 = .ok (.lload_n 1, 1) := by decide +kernel
theorem dX12_told_31 : decode cX12_told 31 = .ok (.invokestatic 287, 3) := by decide +kernel
theorem dX12_told_34 : decode cX12_told 34 = .ok (.lstore 7, 2) := by decide +kernel
theorem dX12_told_36 : decode cX12_told 36 = .ok (.iload 4, 2) := by decide +kernel
theorem dX12_told_38 : decode cX12_told 38 = .ok (.ifCond .ne 10, 3) := by decide +kernel
theorem dX12_told_41 : decode cX12_told 41 = .ok (.lload_n 1, 1) := by decide +kernel
theorem dX12_told_42 : decode cX12_told 42 = .ok (.lload 7, 2) := by decide +kernel
theorem dX12_told_44 : decode cX12_told 44 = .ok (.ldiv, 1) := by decide +kernel
theorem dX12_told_45 : decode cX12_told 45 = .ok (.goto 8, 3) := by decide +kernel
theorem dX12_told_48 : decode cX12_told 48 = .ok (.lload 5, 2) := by decide +kernel
theorem dX12_told_50 : decode cX12_told 50 = .ok (.lload 7, 2) := by decide +kernel
theorem dX12_told_52 : decode cX12_told 52 = .ok (.ldiv, 1) := by decide +kernel
theorem dX12_told_53 : decode cX12_told 53 = .ok (.lreturn, 1) := by decide +kernel
theorem dX12_chance_0 : decode cX12_chance 0 = .ok (.iload_n 1, 1) := by decide +kernel
theorem dX12_chance_1 : decode cX12_chance 1 = .ok (.i2l, 1) := by decide +kernel
theorem dX12_chance_2 : decode cX12_chance 2 = .ok (.lconst 0, 1) := by decide +kernel
theorem dX12_chance_3 : decode cX12_chance 3 = .ok (.lconst 1, 1) := by decide +kernel
theorem dX12_chance_4 : decode cX12_chance 4 = .ok (.invokestatic 113, 3) := by decide +kernel
theorem dX12_chance_7 : decode cX12_chance 7 = .ok (.ifCond .eq 25, 3) := by decide +kernel
theorem dX12_chance_10 : decode cX12_chance 10 = .ok (.iload_n 2, 1) := by decide +kernel
theorem dX12_chance_11 : decode cX12_chance 11 = .ok (.i2l, 1) := by decide +kernel
theorem dX12_chance_12 : decode cX12_chance 12 = .ok (.lconst 0, 1) := by decide +kernel
theorem dX12_chance_13 : decode cX12_chance 13 = .ok (.ldc2_w 291, 3) := by decide +kernel
theorem dX12_chance_16 : decode cX12_chance 16 = .ok (.invokestatic 113, 3) := by decide +kernel
theorem dX12_chance_19 : decode cX12_chance 19 = .ok (.ifCond .eq 13, 3) := by decide +kernel
theorem dX12_chance_22 : decode cX12_chance 22 = .ok (.iload_n 3, 1) := by decide +kernel
theorem dX12_chance_23 : decode cX12_chance 23 = .ok (.i2l, 1) := by decide +kernel
theorem dX12_chance_24 : decode cX12_chance 24 = .ok (.lconst 0, 1) := by decide +kernel
theorem dX12_chance_25 : decode cX12_chance 25 = .ok (.lconst 1, 1) := by decide +kernel
theorem dX12_chance_26 : decode cX12_chance 26 = .ok (.invokestatic 113, 3) := by decide +kernel
theorem dX12_chance_29 : decode cX12_chance 29 = .ok (.ifCond .ne 7, 3) := by decide +kernel
theorem dX12_chance_32 : decode cX12_chance 32 = .ok (.ldc2_w 293, 3) := by decide +kernel
theorem dX12_chance_35 : decode cX12_chance 35 = .ok (.lreturn, 1) := by decide +kernel
theorem dX12_chance_36 : decode cX12_chance 36 = .ok (.aload_n 0, 1) := by decide +kernel
theorem dX12_chance_37 : decode cX12_chance 37 = .ok (.invokevirtual 227, 3) := by decide +kernel
theorem dX12_chance_40 : decode cX12_chance 40 = .ok (.aload_n 0, 1) := by decide +kernel
theorem dX12_chance_41 : decode cX12_chance 41 = .ok (.aload_n 0, 1) := by decide +kernel
theorem dX12_chance_42 : decode cX12_chance 42 = .ok (.iload_n 1, 1) := by decide +kernel
theorem dX12_chance_43 : decode cX12_chance 43 = .ok (.iload_n 2, 1) := by decide +kernel
theorem dX12_chance_44 : decode cX12_chance 44 = .ok (.invokevirtual 295, 3) := by decide +kernel
theorem dX12_chance_47 : decode cX12_chance 47 = .ok (.iload_n 2, 1) := by decide +kernel
theorem dX12_chance_48 : decode cX12_chance 48 = .ok (.iload_n 3, 1) := by decide +kernel
theorem dX12_chance_49 : decode cX12_chance 49 = .ok (.invokevirtual 298, 3) := by decide +kernel
theorem dX12_chance_52 : decode cX12_chance 52 = .ok (.lreturn, 1) := by decide +kernel
theorem dX12_byWind_0 : decode cX12_byWind 0 = .ok (.iload_n 1, 1) := by decide +kernel
theorem dX12_byWind_1 : decode cX12_byWind 1 = .ok (.invokestatic 236, 3) := by decide +kernel
theorem dX12_byWind_4 : decode cX12_byWind 4 = .ok (.ifCond .eq 25, 3) := by decide +kernel
theorem dX12_byWind_7 : decode cX12_byWind 7 = .ok (.iload_n 2, 1) := by decide +kernel
theorem dX12_byWind_8 : decode cX12_byWind 8 = .ok (.i2l, 1) := by decide +kernel
theorem dX12_byWind_9 : decode cX12_byWind 9 = .ok (.lconst 1, 1) := by decide +kernel
theorem dX12_byWind_10 : decode cX12_byWind 10 = .ok (.ldc2_w 291, 3) := by decide +kernel
theorem dX12_byWind_13 : decode cX12_byWind 13 = .ok (.invokestatic 113, 3) := by decide +kernel
theorem dX12_byWind_16 : decode cX12_byWind 16 = .ok (.ifCond .eq 13, 3) := by decide +kernel
theorem dX12_byWind_19 : decode cX12_byWind 19 = .ok (.iload_n 3, 1) := by decide +kernel
theorem dX12_byWind_20 : decode cX12_byWind 20 = .ok (.i2l, 1) := by decide +kernel
theorem dX12_byWind_21 : decode cX12_byWind 21 = .ok (.lconst 0, 1) := by decide +kernel
theorem dX12_byWind_22 : decode cX12_byWind 22 = .ok (.lconst 1, 1) := by decide +kernel
theorem dX12_byWind_23 : decode cX12_byWind 23 = .ok (.invokestatic 113, 3) := by decide +kernel
theorem dX12_byWind_26 : decode cX12_byWind 26 = .ok (.ifCond .ne 7, 3) := by decide +kernel
theorem dX12_byWind_29 : decode cX12_byWind 29 = .ok (.ldc2_w 293, 3) := by decide +kernel
theorem dX12_byWind_32 : decode cX12_byWind 32 = .ok (.lreturn, 1) := by decide +kernel
theorem dX12_byWind_33 : decode cX12_byWind 33 = .ok (.aload_n 0, 1) := by decide +kernel
theorem dX12_byWind_34 : decode cX12_byWind 34 = .ok (.invokevirtual 227, 3) := by decide +kernel
theorem dX12_byWind_37 : decode cX12_byWind 37 = .ok (.aload_n 0, 1) := by decide +kernel
theorem dX12_byWind_38 : decode cX12_byWind 38 = .ok (.invokevirtual 221, 3) := by decide +kernel
theorem dX12_byWind_41 : decode cX12_byWind 41 = .ok (.bipush (-4), 2) := by decide +kernel
theorem dX12_byWind_43 : decode cX12_byWind 43 = .ok (.if_icmp .eq 7, 3) := by decide +kernel
theorem dX12_byWind_46 : decode cX12_byWind 46 = .ok (.ldc2_w 302, 3) := by decide +kernel
theorem dX12_byWind_49 : decode cX12_byWind 49 = .ok (.lreturn, 1) := by decide +kernel
theorem dX12_byWind_50 : decode cX12_byWind 50 = .ok (.aload_n 0, 1) := by decide +kernel
theorem dX12_byWind_51 : decode cX12_byWind 51 = .ok (.aload_n 0, 1) := by decide +kernel
theorem dX12_byWind_52 : decode cX12_byWind 52 = .ok (.aload_n 0, 1) := by decide +kernel
theorem dX12_byWind_53 : decode cX12_byWind 53 = .ok (.getfield 204, 3) := by decide +kernel
theorem dX12_byWind_56 : decode cX12_byWind 56 = .ok (.iload_n 2, 1) := by decide +kernel
theorem dX12_byWind_57 : decode cX12_byWind 57 = .ok (.iload_n 1, 1) := by decide +kernel
theorem dX12_byWind_58 : decode cX12_byWind 58 = .ok (.invokevirtual 304, 3) := by decide +kernel
theorem dX12_byWind_61 : decode cX12_byWind 61 = .ok (.iload_n 2, 1) := by decide +kernel
theorem dX12_byWind_62 : decode cX12_byWind 62 = .ok (.iconst 1, 1) := by decide +kernel
theorem dX12_byWind_63 : decode cX12_byWind 63 = .ok (.isub, 1) := by decide +kernel
theorem dX12_byWind_64 : decode cX12_byWind 64 = .ok (.iload_n 3, 1) := by decide +kernel
theorem dX12_byWind_65 : decode cX12_byWind 65 = .ok (.invokevirtual 298, 3) := by decide +kernel
theorem dX12_byWind_68 : decode cX12_byWind 68 = .ok (.lreturn, 1) := by decide +kernel
theorem dX12_best_0 : decode cX12_best 0 = .ok (.iload_n 1, 1) := by decide +kernel
theorem dX12_best_1 : decode cX12_best 1 = .ok (.invokestatic 236, 3) := by decide +kernel
theorem dX12_best_4 : decode cX12_best 4 = .ok (.ifCond .eq 15, 3) := by decide +kernel
theorem dX12_best_7 : decode cX12_best 7 = .ok (.iload_n 2, 1) := by decide +kernel
theorem dX12_best_8 : decode cX12_best 8 = .ok (.i2l, 1) := by decide +kernel
theorem dX12_best_9 : decode cX12_best 9 = .ok (.lconst 1, 1) := by decide +kernel
theorem dX12_best_10 : decode cX12_best 10 = .ok (.ldc2_w 291, 3) := by decide +kernel
theorem dX12_best_13 : decode cX12_best 13 = .ok (.invokestatic 113, 3) := by decide +kernel
theorem dX12_best_16 : decode cX12_best 16 = .ok (.ifCond .ne 5, 3) := by decide +kernel
theorem dX12_best_19 : decode cX12_best 19 = .ok (.iconst (-1), 1) := by decide +kernel
theorem dX12_best_20 : decode cX12_best 20 = .ok (.ireturn, 1) := by decide +kernel
theorem dX12_best_21 : decode cX12_best 21 = .ok (.aload_n 0, 1) := by decide +kernel
theorem dX12_best_22 : decode cX12_best 22 = .ok (.invokevirtual 227, 3) := by decide +kernel
theorem dX12_best_25 : decode cX12_best 25 = .ok (.aload_n 0, 1) := by decide +kernel
theorem dX12_best_26 : decode cX12_best 26 = .ok (.invokevirtual 221, 3) := by decide +kernel
theorem dX12_best_29 : decode cX12_best 29 = .ok (.bipush (-4), 2) := by decide +kernel
theorem dX12_best_31 : decode cX12_best 31 = .ok (.if_icmp .eq 6, 3) := by decide +kernel
theorem dX12_best_34 : decode cX12_best 34 = .ok (.bipush (-2), 2) := by decide +kernel
theorem dX12_best_36 : decode cX12_best 36 = .ok (.ireturn, 1) := by decide +kernel
theorem dX12_best_37 : decode cX12_best 37 = .ok (.aload_n 0, 1) := by decide +kernel
theorem dX12_best_38 : decode cX12_best 38 = .ok (.aload_n 0, 1) := by decide +kernel
theorem dX12_best_39 : decode cX12_best 39 = .ok (.getfield 204, 3) := by decide +kernel
theorem dX12_best_42 : decode cX12_best 42 = .ok (.iload_n 2, 1) := by decide +kernel
theorem dX12_best_43 : decode cX12_best 43 = .ok (.iload_n 1, 1) := by decide +kernel
theorem dX12_best_44 : decode cX12_best 44 = .ok (.invokevirtual 304, 3) := by decide +kernel
theorem dX12_best_47 : decode cX12_best 47 = .ok (.pop2, 1) := by decide +kernel
theorem dX12_best_48 : decode cX12_best 48 = .ok (.aload_n 0, 1) := by decide +kernel
theorem dX12_best_49 : decode cX12_best 49 = .ok (.getfield 268, 3) := by decide +kernel
theorem dX12_best_52 : decode cX12_best 52 = .ok (.ireturn, 1) := by decide +kernel
theorem dX12_hope_0 : decode cX12_hope 0 = .ok (.iload_n 1, 1) := by decide +kernel
theorem dX12_hope_1 : decode cX12_hope 1 = .ok (.i2l, 1) := by decide +kernel
theorem dX12_hope_2 : decode cX12_hope 2 = .ok (.lconst 1, 1) := by decide +kernel
theorem dX12_hope_3 : decode cX12_hope 3 = .ok (.ldc2_w 291, 3) := by decide +kernel
theorem dX12_hope_6 : decode cX12_hope 6 = .ok (.invokestatic 113, 3) := by decide +kernel
theorem dX12_hope_9 : decode cX12_hope 9 = .ok (.ifCond .ne 5, 3) := by decide +kernel
theorem dX12_hope_12 : decode cX12_hope 12 = .ok (.iconst (-1), 1) := by decide +kernel
theorem dX12_hope_13 : decode cX12_hope 13 = .ok (.ireturn, 1) := by decide +kernel
theorem dX12_hope_14 : decode cX12_hope 14 = .ok (.aload_n 0, 1) := by decide +kernel
theorem dX12_hope_15 : decode cX12_hope 15 = .ok (.invokevirtual 227, 3) := by decide +kernel
theorem dX12_hope_18 : decode cX12_hope 18 = .ok (.aload_n 0, 1) := by decide +kernel
theorem dX12_hope_19 : decode cX12_hope 19 = .ok (.invokevirtual 221, 3) := by decide +kernel
theorem dX12_hope_22 : decode cX12_hope 22 = .ok (.bipush (-4), 2) := by decide +kernel
theorem dX12_hope_24 : decode cX12_hope 24 = .ok (.if_icmp .eq 6, 3) := by decide +kernel
theorem dX12_hope_27 : decode cX12_hope 27 = .ok (.bipush (-2), 2) := by decide +kernel
theorem dX12_hope_29 : decode cX12_hope 29 = .ok (.ireturn, 1) := by decide +kernel
theorem dX12_hope_30 : decode cX12_hope 30 = .ok (.iconst 0, 1) := by decide +kernel
theorem dX12_hope_31 : decode cX12_hope 31 = .ok (.istore_n 2, 1) := by decide +kernel
theorem dX12_hope_32 : decode cX12_hope 32 = .ok (.ldc2_w 293, 3) := by decide +kernel
theorem dX12_hope_35 : decode cX12_hope 35 = .ok (.lstore_n 3, 1) := by decide +kernel
theorem dX12_hope_36 : decode cX12_hope 36 = .ok (.iconst 0, 1) := by decide +kernel
theorem dX12_hope_37 : decode cX12_hope 37 = .ok (.istore 5, 2) := by decide +kernel
theorem dX12_hope_39 : decode cX12_hope 39 = .ok (.iload 5, 2) := by decide +kernel
theorem dX12_hope_41 : decode cX12_hope 41 = .ok (.iconst 5, 1) := by decide +kernel
theorem dX12_hope_42 : decode cX12_hope 42 = .ok (.if_icmp .ge 50, 3) := by decide +kernel
theorem dX12_hope_45 : decode cX12_hope 45 = .ok (.aload_n 0, 1) := by decide +kernel
theorem dX12_hope_46 : decode cX12_hope 46 = .ok (.aload_n 0, 1) := by decide +kernel
theorem dX12_hope_47 : decode cX12_hope 47 = .ok (.getfield 204, 3) := by decide +kernel
theorem dX12_hope_50 : decode cX12_hope 50 = .ok (.iload_n 1, 1) := by decide +kernel
theorem dX12_hope_51 : decode cX12_hope 51 = .ok (.iload 5, 2) := by decide +kernel
theorem dX12_hope_53 : decode cX12_hope 53 = .ok (.invokevirtual 304, 3) := by decide +kernel
theorem dX12_hope_56 : decode cX12_hope 56 = .ok (.lstore 6, 2) := by decide +kernel
theorem dX12_hope_58 : decode cX12_hope 58 = .ok (.lload 6, 2) := by decide +kernel
theorem dX12_hope_60 : decode cX12_hope 60 = .ok (.lload_n 3, 1) := by decide +kernel
theorem dX12_hope_61 : decode cX12_hope 61 = .ok (.lcmp, 1) := by decide +kernel
theorem dX12_hope_62 : decode cX12_hope 62 = .ok (.ifCond .le 8, 3) := by decide +kernel
theorem dX12_hope_65 : decode cX12_hope 65 = .ok (.iload 5, 2) := by decide +kernel
theorem dX12_hope_67 : decode cX12_hope 67 = .ok (.goto 4, 3) := by decide +kernel
theorem dX12_hope_70 : decode cX12_hope 70 = .ok (.iload_n 2, 1) := by decide +kernel
theorem dX12_hope_71 : decode cX12_hope 71 = .ok (.istore_n 2, 1) := by decide +kernel
theorem dX12_hope_72 : decode cX12_hope 72 = .ok (.lload 6, 2) := by decide +kernel
theorem dX12_hope_74 : decode cX12_hope 74 = .ok (.lload_n 3, 1) := by decide +kernel
theorem dX12_hope_75 : decode cX12_hope 75 = .ok (.lcmp, 1) := by decide +kernel
theorem dX12_hope_76 : decode cX12_hope 76 = .ok (.ifCond .le 8, 3) := by decide +kernel
theorem dX12_hope_79 : decode cX12_hope 79 = .ok (.lload 6, 2) := by decide +kernel
theorem dX12_hope_81 : decode cX12_hope 81 = .ok (.goto 4, 3) := by decide +kernel
theorem dX12_hope_84 : decode cX12_hope 84 = .ok (.lload_n 3, 1) := by decide +kernel
theorem dX12_hope_85 : decode cX12_hope 85 = .ok (.lstore_n 3, 1) := by decide +kernel
theorem dX12_hope_86 : decode cX12_hope 86 = .ok (.iinc 5 1, 3) := by decide +kernel
theorem dX12_hope_89 : decode cX12_hope 89 = .ok (.goto (-50), 3) := by decide +kernel
theorem dX12_hope_92 : decode cX12_hope 92 = .ok (.iload_n 2, 1) := by decide +kernel
theorem dX12_hope_93 : decode cX12_hope 93 = .ok (.ireturn, 1) := by decide +kernel
theorem dX12_isAsNow_0 : decode cX12_isAsNow 0 = .ok (.aload_n 0, 1) := by decide +kernel
theorem dX12_isAsNow_1 : decode cX12_isAsNow 1 = .ok (.getfield 204, 3) := by decide +kernel
theorem dX12_isAsNow_4 : decode cX12_isAsNow 4 = .ok (.aload_n 0, 1) := by decide +kernel
theorem dX12_isAsNow_5 : decode cX12_isAsNow 5 = .ok (.getfield 7, 3) := by decide +kernel
theorem dX12_isAsNow_8 : decode cX12_isAsNow 8 = .ok (.bipush 18, 2) := by decide +kernel
theorem dX12_isAsNow_10 : decode cX12_isAsNow 10 = .ok (.iaload, 1) := by decide +kernel
theorem dX12_isAsNow_11 : decode cX12_isAsNow 11 = .ok (.if_icmp .ne 7, 3) := by decide +kernel
theorem dX12_isAsNow_14 : decode cX12_isAsNow 14 = .ok (.iconst 1, 1) := by decide +kernel
theorem dX12_isAsNow_15 : decode cX12_isAsNow 15 = .ok (.goto 4, 3) := by decide +kernel
theorem dX12_isAsNow_18 : decode cX12_isAsNow 18 = .ok (.iconst 0, 1) := by decide +kernel
theorem dX12_isAsNow_19 : decode cX12_isAsNow 19 = .ok (.istore_n 1, 1) := by decide +kernel
theorem dX12_isAsNow_20 : decode cX12_isAsNow 20 = .ok (.iconst 0, 1) := by decide +kernel
theorem dX12_isAsNow_21 : decode cX12_isAsNow 21 = .ok (.istore_n 2, 1) := by decide +kernel
theorem dX12_isAsNow_22 : decode cX12_isAsNow 22 = .ok (.iload_n 2, 1) := by decide +kernel
theorem dX12_isAsNow_23 : decode cX12_isAsNow 23 = .ok (.aload_n 0, 1) := by decide +kernel
theorem dX12_isAsNow_24 : decode cX12_isAsNow 24 = .ok (.getfield 105, 3) := by decide +kernel
theorem dX12_isAsNow_27 : decode cX12_isAsNow 27 = .ok (.if_icmp .ge 54, 3) := by decide +kernel
theorem dX12_isAsNow_30 : decode cX12_isAsNow 30 = .ok (.iload_n 1, 1) := by decide +kernel
theorem dX12_isAsNow_31 : decode cX12_isAsNow 31 = .ok (.ifCond .eq 42, 3) := by decide +kernel
theorem dX12_isAsNow_34 : decode cX12_isAsNow 34 = .ok (.aload_n 0, 1) := by decide +kernel
theorem dX12_isAsNow_35 : decode cX12_isAsNow 35 = .ok (.getfield 35, 3) := by decide +kernel
theorem dX12_isAsNow_38 : decode cX12_isAsNow 38 = .ok (.iload_n 2, 1) := by decide +kernel
theorem dX12_isAsNow_39 : decode cX12_isAsNow 39 = .ok (.iaload, 1) := by decide +kernel
theorem dX12_isAsNow_40 : decode cX12_isAsNow 40 = .ok (.aload_n 0, 1) := by decide +kernel
theorem dX12_isAsNow_41 : decode cX12_isAsNow 41 = .ok (.getfield 7, 3) := by decide +kernel
theorem dX12_isAsNow_44 : decode cX12_isAsNow 44 = .ok (.iconst 0, 1) := by decide +kernel
theorem dX12_isAsNow_45 : decode cX12_isAsNow 45 = .ok (.iload_n 2, 1) := by decide +kernel
theorem dX12_isAsNow_46 : decode cX12_isAsNow 46 = .ok (.iadd, 1) := by decide +kernel
theorem dX12_isAsNow_47 : decode cX12_isAsNow 47 = .ok (.iaload, 1) := by decide +kernel
theorem dX12_isAsNow_48 : decode cX12_isAsNow 48 = .ok (.if_icmp .ne 25, 3) := by decide +kernel
theorem dX12_isAsNow_51 : decode cX12_isAsNow 51 = .ok (.aload_n 0, 1) := by decide +kernel
theorem dX12_isAsNow_52 : decode cX12_isAsNow 52 = .ok (.getfield 38, 3) := by decide +kernel
theorem dX12_isAsNow_55 : decode cX12_isAsNow 55 = .ok (.iload_n 2, 1) := by decide +kernel
theorem dX12_isAsNow_56 : decode cX12_isAsNow 56 = .ok (.iaload, 1) := by decide +kernel
theorem dX12_isAsNow_57 : decode cX12_isAsNow 57 = .ok (.aload_n 0, 1) := by decide +kernel
theorem dX12_isAsNow_58 : decode cX12_isAsNow 58 = .ok (.getfield 7, 3) := by decide +kernel
theorem dX12_isAsNow_61 : decode cX12_isAsNow 61 = .ok (.bipush 6, 2) := by decide +kernel
theorem dX12_isAsNow_63 : decode cX12_isAsNow 63 = .ok (.iload_n 2, 1) := by decide +kernel
theorem dX12_isAsNow_64 : decode cX12_isAsNow 64 = .ok (.iadd, 1) := by decide +kernel
theorem dX12_isAsNow_65 : decode cX12_isAsNow 65 = .ok (.iaload, 1) := by decide +kernel
theorem dX12_isAsNow_66 : decode cX12_isAsNow 66 = .ok (.if_icmp .ne 7, 3) := by decide +kernel
theorem dX12_isAsNow_69 : decode cX12_isAsNow 69 = .ok (.iconst 1, 1) := by decide +kernel
theorem dX12_isAsNow_70 : decode cX12_isAsNow 70 = .ok (.goto 4, 3) := by decide +kernel
theorem dX12_isAsNow_73 : decode cX12_isAsNow 73 = .ok (.iconst 0, 1) := by decide +kernel
theorem dX12_isAsNow_74 : decode cX12_isAsNow 74 = .ok (.istore_n 1, 1) := by decide +kernel
theorem dX12_isAsNow_75 : decode cX12_isAsNow 75 = .ok (.iinc 2 1, 3) := by decide +kernel
theorem dX12_isAsNow_78 : decode cX12_isAsNow 78 = .ok (.goto (-56), 3) := by decide +kernel
theorem dX12_isAsNow_81 : decode cX12_isAsNow 81 = .ok (.iload_n 1, 1) := by decide +kernel
theorem dX12_isAsNow_82 : decode cX12_isAsNow 82 = .ok (.ireturn, 1) := by decide +kernel
theorem dX12_isAsSeen_0 : decode cX12_isAsSeen 0 = .ok (.iconst 1, 1) := by decide +kernel
theorem dX12_isAsSeen_1 : decode cX12_isAsSeen 1 = .ok (.istore_n 1, 1) := by decide +kernel
theorem dX12_isAsSeen_2 : decode cX12_isAsSeen 2 = .ok (.iconst 0, 1) := by decide +kernel
theorem dX12_isAsSeen_3 : decode cX12_isAsSeen 3 = .ok (.istore_n 2, 1) := by decide +kernel
theorem dX12_isAsSeen_4 : decode cX12_isAsSeen 4 = .ok (.iload_n 2, 1) := by decide +kernel
theorem dX12_isAsSeen_5 : decode cX12_isAsSeen 5 = .ok (.aload_n 0, 1) := by decide +kernel
theorem dX12_isAsSeen_6 : decode cX12_isAsSeen 6 = .ok (.getfield 7, 3) := by decide +kernel
theorem dX12_isAsSeen_9 : decode cX12_isAsSeen 9 = .ok (.bipush 20, 2) := by decide +kernel
theorem dX12_isAsSeen_11 : decode cX12_isAsSeen 11 = .ok (.iaload, 1) := by decide +kernel
theorem dX12_isAsSeen_12 : decode cX12_isAsSeen 12 = .ok (.if_icmp .ge 68, 3) := by decide +kernel
theorem dX12_isAsSeen_15 : decode cX12_isAsSeen 15 = .ok (.aload_n 0, 1) := by decide +kernel
theorem dX12_isAsSeen_16 : decode cX12_isAsSeen 16 = .ok (.aload_n 0, 1) := by decide +kernel
theorem dX12_isAsSeen_17 : decode cX12_isAsSeen 17 = .ok (.getfield 7, 3) := by decide +kernel
theorem dX12_isAsSeen_20 : decode cX12_isAsSeen 20 = .ok (.bipush 21, 2) := by decide +kernel
theorem dX12_isAsSeen_22 : decode cX12_isAsSeen 22 = .ok (.iconst 2, 1) := by decide +kernel
theorem dX12_isAsSeen_23 : decode cX12_isAsSeen 23 = .ok (.iload_n 2, 1) := by decide +kernel
theorem dX12_isAsSeen_24 : decode cX12_isAsSeen 24 = .ok (.imul, 1) := by decide +kernel
theorem dX12_isAsSeen_25 : decode cX12_isAsSeen 25 = .ok (.iadd, 1) := by decide +kernel
theorem dX12_isAsSeen_26 : decode cX12_isAsSeen 26 = .ok (.iaload, 1) := by decide +kernel
theorem dX12_isAsSeen_27 : decode cX12_isAsSeen 27 = .ok (.invokevirtual 218, 3) := by decide +kernel
theorem dX12_isAsSeen_30 : decode cX12_isAsSeen 30 = .ok (.istore_n 3, 1) := by decide +kernel
theorem dX12_isAsSeen_31 : decode cX12_isAsSeen 31 = .ok (.iload_n 1, 1) := by decide +kernel
theorem dX12_isAsSeen_32 : decode cX12_isAsSeen 32 = .ok (.ifCond .eq 40, 3) := by decide +kernel
theorem dX12_isAsSeen_35 : decode cX12_isAsSeen 35 = .ok (.iload_n 3, 1) := by decide +kernel
theorem dX12_isAsSeen_36 : decode cX12_isAsSeen 36 = .ok (.bipush (-4), 2) := by decide +kernel
theorem dX12_isAsSeen_38 : decode cX12_isAsSeen 38 = .ok (.if_icmp .ne 8, 3) := by decide +kernel
theorem dX12_isAsSeen_41 : decode cX12_isAsSeen 41 = .ok (.bipush (-4), 2) := by decide +kernel
theorem dX12_isAsSeen_43 : decode cX12_isAsSeen 43 = .ok (.goto 9, 3) := by decide +kernel
theorem dX12_isAsSeen_46 : decode cX12_isAsSeen 46 = .ok (.aload_n 0, 1) := by decide +kernel
theorem dX12_isAsSeen_47 : decode cX12_isAsSeen 47 = .ok (.getfield 17, 3) := by decide +kernel
theorem dX12_isAsSeen_50 : decode cX12_isAsSeen 50 = .ok (.iload_n 3, 1) := by decide +kernel
theorem dX12_isAsSeen_51 : decode cX12_isAsSeen 51 = .ok (.iaload, 1) := by decide +kernel
theorem dX12_isAsSeen_52 : decode cX12_isAsSeen 52 = .ok (.aload_n 0, 1) := by decide +kernel
theorem dX12_isAsSeen_53 : decode cX12_isAsSeen 53 = .ok (.getfield 7, 3) := by decide +kernel
theorem dX12_isAsSeen_56 : decode cX12_isAsSeen 56 = .ok (.bipush 21, 2) := by decide +kernel
theorem dX12_isAsSeen_58 : decode cX12_isAsSeen 58 = .ok (.iconst 2, 1) := by decide +kernel
theorem dX12_isAsSeen_59 : decode cX12_isAsSeen 59 = .ok (.iload_n 2, 1) := by decide +kernel
theorem dX12_isAsSeen_60 : decode cX12_isAsSeen 60 = .ok (.imul, 1) := by decide +kernel
theorem dX12_isAsSeen_61 : decode cX12_isAsSeen 61 = .ok (.iadd, 1) := by decide +kernel
theorem dX12_isAsSeen_62 : decode cX12_isAsSeen 62 = .ok (.iconst 1, 1) := by decide +kernel
theorem dX12_isAsSeen_63 : decode cX12_isAsSeen 63 = .ok (.iadd, 1) := by decide +kernel
theorem dX12_isAsSeen_64 : decode cX12_isAsSeen 64 = .ok (.iaload, 1) := by decide +kernel
theorem dX12_isAsSeen_65 : decode cX12_isAsSeen 65 = .ok (.if_icmp .ne 7, 3) := by decide +kernel
theorem dX12_isAsSeen_68 : decode cX12_isAsSeen 68 = .ok (.iconst 1, 1) := by decide +kernel
theorem dX12_isAsSeen_69 : decode cX12_isAsSeen 69 = .ok (.goto 4, 3) := by decide +kernel
theorem dX12_isAsSeen_72 : decode cX12_isAsSeen 72 = .ok (.iconst 0, 1) := by decide +kernel
theorem dX12_isAsSeen_73 : decode cX12_isAsSeen 73 = .ok (.istore_n 1, 1) := by decide +kernel
theorem dX12_isAsSeen_74 : decode cX12_isAsSeen 74 = .ok (.iinc 2 1, 3) := by decide +kernel
theorem dX12_isAsSeen_77 : decode cX12_isAsSeen 77 = .ok (.goto (-73), 3) := by decide +kernel
theorem dX12_isAsSeen_80 : decode cX12_isAsSeen 80 = .ok (.iload_n 1, 1) := by decide +kernel
theorem dX12_isAsSeen_81 : decode cX12_isAsSeen 81 = .ok (.ireturn, 1) := by decide +kernel
theorem dX12_leaf_0 : decode cX12_leaf 0 = .ok (.iload_n 2, 1) := by decide +kernel
theorem dX12_leaf_1 : decode cX12_leaf 1 = .ok (.iconst 2, 1) := by decide +kernel
theorem dX12_leaf_2 : decode cX12_leaf 2 = .ok (.if_icmp .eq 24, 3) := by decide +kernel
theorem dX12_leaf_5 : decode cX12_leaf 5 = .ok (.iload_n 2, 1) := by decide +kernel
theorem dX12_leaf_6 : decode cX12_leaf 6 = .ok (.ifCond .ne 13, 3) := by decide +kernel
theorem dX12_leaf_9 : decode cX12_leaf 9 = .ok (.aload_n 0, 1) := by decide +kernel
theorem dX12_leaf_10 : decode cX12_leaf 10 = .ok (.invokevirtual 308, 3) := by decide +kernel
theorem dX12_leaf_13 : decode cX12_leaf 13 = .ok (.ifCond .eq 13, 3) := by decide +kernel
theorem dX12_leaf_16 : decode cX12_leaf 16 = .ok (.goto 11, 3) := by decide +kernel
theorem dX12_leaf_19 : decode cX12_leaf 19 = .ok (.aload_n 0, 1) := by decide +kernel
theorem dX12_leaf_20 : decode cX12_leaf 20 = .ok (.invokevirtual 312, 3) := by decide +kernel
theorem dX12_leaf_23 : decode cX12_leaf 23 = .ok (.ifCond .ne 4, 3) := by decide +kernel
theorem dX12_leaf_26 : decode cX12_leaf 26 = .ok (.return_, 1) := by decide +kernel
theorem dX12_leaf_27 : decode cX12_leaf 27 = .ok (.iconst 0, 1) := by decide +kernel
theorem dX12_leaf_28 : decode cX12_leaf 28 = .ok (.istore_n 3, 1) := by decide +kernel
theorem dX12_leaf_29 : decode cX12_leaf 29 = .ok (.iload_n 3, 1) := by decide +kernel
theorem dX12_leaf_30 : decode cX12_leaf 30 = .ok (.iload_n 1, 1) := by decide +kernel
theorem dX12_leaf_31 : decode cX12_leaf 31 = .ok (.if_icmp .ge 52, 3) := by decide +kernel
theorem dX12_leaf_34 : decode cX12_leaf 34 = .ok (.aload_n 0, 1) := by decide +kernel
theorem dX12_leaf_35 : decode cX12_leaf 35 = .ok (.getfield 315, 3) := by decide +kernel
theorem dX12_leaf_38 : decode cX12_leaf 38 = .ok (.ifCond .ne 45, 3) := by decide +kernel
theorem dX12_leaf_41 : decode cX12_leaf 41 = .ok (.aload_n 0, 1) := by decide +kernel
theorem dX12_leaf_42 : decode cX12_leaf 42 = .ok (.getfield 59, 3) := by decide +kernel
theorem dX12_leaf_45 : decode cX12_leaf 45 = .ok (.iload_n 3, 1) := by decide +kernel
theorem dX12_leaf_46 : decode cX12_leaf 46 = .ok (.bipush 100, 2) := by decide +kernel
theorem dX12_leaf_48 : decode cX12_leaf 48 = .ok (.aload_n 0, 1) := by decide +kernel
theorem dX12_leaf_49 : decode cX12_leaf 49 = .ok (.getfield 50, 3) := by decide +kernel
theorem dX12_leaf_52 : decode cX12_leaf 52 = .ok (.iload_n 3, 1) := by decide +kernel
theorem dX12_leaf_53 : decode cX12_leaf 53 = .ok (.iaload, 1) := by decide +kernel
theorem dX12_leaf_54 : decode cX12_leaf 54 = .ok (.imul, 1) := by decide +kernel
theorem dX12_leaf_55 : decode cX12_leaf 55 = .ok (.aload_n 0, 1) := by decide +kernel
theorem dX12_leaf_56 : decode cX12_leaf 56 = .ok (.getfield 44, 3) := by decide +kernel
theorem dX12_leaf_59 : decode cX12_leaf 59 = .ok (.iload_n 3, 1) := by decide +kernel
theorem dX12_leaf_60 : decode cX12_leaf 60 = .ok (.iaload, 1) := by decide +kernel
theorem dX12_leaf_61 : decode cX12_leaf 61 = .ok (.ifCond .ne 8, 3) := by decide +kernel
theorem dX12_leaf_64 : decode cX12_leaf 64 = .ok (.bipush 99, 2) := by decide +kernel
theorem dX12_leaf_66 : decode cX12_leaf 66 = .ok (.goto 9, 3) := by decide +kernel
theorem dX12_leaf_69 : decode cX12_leaf 69 = .ok (.aload_n 0, 1) := by decide +kernel
theorem dX12_leaf_70 : decode cX12_leaf 70 = .ok (.getfield 53, 3) := by decide +kernel
theorem dX12_leaf_73 : decode cX12_leaf 73 = .ok (.iload_n 3, 1) := by decide +kernel
theorem dX12_leaf_74 : decode cX12_leaf 74 = .ok (.iaload, 1) := by decide +kernel
theorem dX12_leaf_75 : decode cX12_leaf 75 = .ok (.iadd, 1) := by decide +kernel
theorem dX12_leaf_76 : decode cX12_leaf 76 = .ok (.iastore, 1) := by decide +kernel
theorem dX12_leaf_77 : decode cX12_leaf 77 = .ok (.iinc 3 1, 3) := by decide +kernel
theorem dX12_leaf_80 : decode cX12_leaf 80 = .ok (.goto (-51), 3) := by decide +kernel
theorem dX12_leaf_83 : decode cX12_leaf 83 = .ok (.aload_n 0, 1) := by decide +kernel
theorem dX12_leaf_84 : decode cX12_leaf 84 = .ok (.dup, 1) := by decide +kernel
theorem dX12_leaf_85 : decode cX12_leaf 85 = .ok (.getfield 318, 3) := by decide +kernel
theorem dX12_leaf_88 : decode cX12_leaf 88 = .ok (.aload_n 0, 1) := by decide +kernel
theorem dX12_leaf_89 : decode cX12_leaf 89 = .ok (.getfield 35, 3) := by decide +kernel
theorem dX12_leaf_92 : decode cX12_leaf 92 = .ok (.aload_n 0, 1) := by decide +kernel
theorem dX12_leaf_93 : decode cX12_leaf 93 = .ok (.getfield 321, 3) := by decide +kernel
theorem dX12_leaf_96 : decode cX12_leaf 96 = .ok (.iaload, 1) := by decide +kernel
theorem dX12_leaf_97 : decode cX12_leaf 97 = .ok (.bipush (-4), 2) := by decide +kernel
theorem dX12_leaf_99 : decode cX12_leaf 99 = .ok (.if_icmp .ne 9, 3) := by decide +kernel
theorem dX12_leaf_102 : decode cX12_leaf 102 = .ok (.ldc_w 324, 3) := by decide +kernel
theorem dX12_leaf_105 : decode cX12_leaf 105 = .ok (.goto 14, 3) := by decide +kernel
theorem dX12_leaf_108 : decode cX12_leaf 108 = .ok (.iconst 1, 1) := by decide +kernel
theorem dX12_leaf_109 : decode cX12_leaf 109 = .ok (.aload_n 0, 1) := by decide +kernel
theorem dX12_leaf_110 : decode cX12_leaf 110 = .ok (.getfield 35, 3) := by decide +kernel
theorem dX12_leaf_113 : decode cX12_leaf 113 = .ok (.aload_n 0, 1) := by decide +kernel
theorem dX12_leaf_114 : decode cX12_leaf 114 = .ok (.getfield 321, 3) := by decide +kernel
theorem dX12_leaf_117 : decode cX12_leaf 117 = .ok (.iaload, 1) := by decide +kernel
theorem dX12_leaf_118 : decode cX12_leaf 118 = .ok (.ishl, 1) := by decide +kernel
theorem dX12_leaf_119 : decode cX12_leaf 119 = .ok (.ior, 1) := by decide +kernel
theorem dX12_leaf_120 : decode cX12_leaf 120 = .ok (.putfield 318, 3) := by decide +kernel
theorem dX12_leaf_123 : decode cX12_leaf 123 = .ok (.aload_n 0, 1) := by decide +kernel
theorem dX12_leaf_124 : decode cX12_leaf 124 = .ok (.dup, 1) := by decide +kernel
theorem dX12_leaf_125 : decode cX12_leaf 125 = .ok (.getfield 315, 3) := by decide +kernel
theorem dX12_leaf_128 : decode cX12_leaf 128 = .ok (.iconst 1, 1) := by decide +kernel
theorem dX12_leaf_129 : decode cX12_leaf 129 = .ok (.iadd, 1) := by decide +kernel
theorem dX12_leaf_130 : decode cX12_leaf 130 = .ok (.putfield 315, 3) := by decide +kernel
theorem dX12_leaf_133 : decode cX12_leaf 133 = .ok (.return_, 1) := by decide +kernel
theorem dX12_enters_0 : decode cX12_enters 0 = .ok (.aload_n 0, 1) := by decide +kernel
theorem dX12_enters_1 : decode cX12_enters 1 = .ok (.iload_n 1, 1) := by decide +kernel
theorem dX12_enters_2 : decode cX12_enters 2 = .ok (.invokevirtual 254, 3) := by decide +kernel
theorem dX12_enters_5 : decode cX12_enters 5 = .ok (.aload_n 0, 1) := by decide +kernel
theorem dX12_enters_6 : decode cX12_enters 6 = .ok (.getfield 50, 3) := by decide +kernel
theorem dX12_enters_9 : decode cX12_enters 9 = .ok (.iload_n 1, 1) := by decide +kernel
theorem dX12_enters_10 : decode cX12_enters 10 = .ok (.iload_n 2, 1) := by decide +kernel
theorem dX12_enters_11 : decode cX12_enters 11 = .ok (.iconst 2, 1) := by decide +kernel
theorem dX12_enters_12 : decode cX12_enters 12 = .ok (.if_icmp .ne 12, 3) := by decide +kernel
theorem dX12_enters_15 : decode cX12_enters 15 = .ok (.aload_n 0, 1) := by decide +kernel
theorem dX12_enters_16 : decode cX12_enters 16 = .ok (.getfield 56, 3) := by decide +kernel
theorem dX12_enters_19 : decode cX12_enters 19 = .ok (.iload_n 1, 1) := by decide +kernel
theorem dX12_enters_20 : decode cX12_enters 20 = .ok (.iaload, 1) := by decide +kernel
theorem dX12_enters_21 : decode cX12_enters 21 = .ok (.goto 4, 3) := by decide +kernel
theorem dX12_enters_24 : decode cX12_enters 24 = .ok (.iconst 0, 1) := by decide +kernel
theorem dX12_enters_25 : decode cX12_enters 25 = .ok (.iastore, 1) := by decide +kernel
theorem dX12_enters_26 : decode cX12_enters 26 = .ok (.aload_n 0, 1) := by decide +kernel
theorem dX12_enters_27 : decode cX12_enters 27 = .ok (.getfield 53, 3) := by decide +kernel
theorem dX12_enters_30 : decode cX12_enters 30 = .ok (.iload_n 1, 1) := by decide +kernel
theorem dX12_enters_31 : decode cX12_enters 31 = .ok (.iconst (-1), 1) := by decide +kernel
theorem dX12_enters_32 : decode cX12_enters 32 = .ok (.iastore, 1) := by decide +kernel
theorem dX12_enters_33 : decode cX12_enters 33 = .ok (.aload_n 0, 1) := by decide +kernel
theorem dX12_enters_34 : decode cX12_enters 34 = .ok (.aload_n 0, 1) := by decide +kernel
theorem dX12_enters_35 : decode cX12_enters 35 = .ok (.getfield 50, 3) := by decide +kernel
theorem dX12_enters_38 : decode cX12_enters 38 = .ok (.iload_n 1, 1) := by decide +kernel
theorem dX12_enters_39 : decode cX12_enters 39 = .ok (.iaload, 1) := by decide +kernel
theorem dX12_enters_40 : decode cX12_enters 40 = .ok (.iload_n 1, 1) := by decide +kernel
theorem dX12_enters_41 : decode cX12_enters 41 = .ok (.invokevirtual 247, 3) := by decide +kernel
theorem dX12_enters_44 : decode cX12_enters 44 = .ok (.return_, 1) := by decide +kernel
theorem dX12_findRows_0 : decode cX12_findRows 0 = .ok (.aload_n 0, 1) := by decide +kernel
theorem dX12_findRows_1 : decode cX12_findRows 1 = .ok (.iconst 0, 1) := by decide +kernel
theorem dX12_findRows_2 : decode cX12_findRows 2 = .ok (.putfield 315, 3) := by decide +kernel
theorem dX12_findRows_5 : decode cX12_findRows 5 = .ok (.aload_n 0, 1) := by decide +kernel
theorem dX12_findRows_6 : decode cX12_findRows 6 = .ok (.iconst 0, 1) := by decide +kernel
theorem dX12_findRows_7 : decode cX12_findRows 7 = .ok (.putfield 318, 3) := by decide +kernel
theorem dX12_findRows_10 : decode cX12_findRows 10 = .ok (.aload_n 0, 1) := by decide +kernel
theorem dX12_findRows_11 : decode cX12_findRows 11 = .ok (.iconst 0, 1) := by decide +kernel
theorem dX12_findRows_12 : decode cX12_findRows 12 = .ok (.putfield 325, 3) := by decide +kernel
theorem dX12_findRows_15 : decode cX12_findRows 15 = .ok (.iconst 1, 1) := by decide +kernel
theorem dX12_findRows_16 : decode cX12_findRows 16 = .ok (.aload_n 0, 1) := by decide +kernel
theorem dX12_findRows_17 : decode cX12_findRows 17 = .ok (.getfield 204, 3) := by decide +kernel
theorem dX12_findRows_20 : decode cX12_findRows 20 = .ok (.isub, 1) := by decide +kernel
theorem dX12_findRows_21 : decode cX12_findRows 21 = .ok (.istore_n 3, 1) := by decide +kernel
theorem dX12_findRows_22 : decode cX12_findRows 22 = .ok (.iconst 0, 1) := by decide +kernel
theorem dX12_findRows_23 : decode cX12_findRows 23 = .ok (.istore 4, 2) := by decide +kernel
theorem dX12_findRows_25 : decode cX12_findRows 25 = .ok (.iload_n 1, 1) := by decide +kernel
theorem dX12_findRows_26 : decode cX12_findRows 26 = .ok (.ifCond .ne 10, 3) := by decide +kernel
theorem dX12_findRows_29 : decode cX12_findRows 29 = .ok (.aload_n 0, 1) := by decide +kernel
theorem dX12_findRows_30 : decode cX12_findRows 30 = .ok (.iconst 0, 1) := by decide +kernel
theorem dX12_findRows_31 : decode cX12_findRows 31 = .ok (.iload_n 2, 1) := by decide +kernel
theorem dX12_findRows_32 : decode cX12_findRows 32 = .ok (.invokevirtual 329, 3) := by decide +kernel
theorem dX12_findRows_35 : decode cX12_findRows 35 = .ok (.return_, 1) := by decide +kernel
theorem dX12_findRows_36 : decode cX12_findRows 36 = .ok (.aload_n 0, 1) := by decide +kernel
theorem dX12_findRows_37 : decode cX12_findRows 37 = .ok (.invokevirtual 221, 3) := by decide +kernel
theorem dX12_findRows_40 : decode cX12_findRows 40 = .ok (.bipush (-4), 2) := by decide +kernel
theorem dX12_findRows_42 : decode cX12_findRows 42 = .ok (.if_icmp .eq 4, 3) := by decide +kernel
theorem dX12_findRows_45 : decode cX12_findRows 45 = .ok (.return_, 1) := by decide +kernel
theorem dX12_findRows_46 : decode cX12_findRows 46 = .ok (.aload_n 0, 1) := by decide +kernel
theorem dX12_findRows_47 : decode cX12_findRows 47 = .ok (.iconst 0, 1) := by decide +kernel
theorem dX12_findRows_48 : decode cX12_findRows 48 = .ok (.iload_n 2, 1) := by decide +kernel
theorem dX12_findRows_49 : decode cX12_findRows 49 = .ok (.invokevirtual 332, 3) := by decide +kernel
theorem dX12_findRows_52 : decode cX12_findRows 52 = .ok (.iload 4, 2) := by decide +kernel
theorem dX12_findRows_54 : decode cX12_findRows 54 = .ok (.ifCond .lt 216, 3) := by decide +kernel
theorem dX12_findRows_57 : decode cX12_findRows 57 = .ok (.aload_n 0, 1) := by decide +kernel
theorem dX12_findRows_58 : decode cX12_findRows 58 = .ok (.getfield 53, 3) := by decide +kernel
theorem dX12_findRows_61 : decode cX12_findRows 61 = .ok (.iload 4, 2) := by decide +kernel
theorem dX12_findRows_63 : decode cX12_findRows 63 = .ok (.dup2, 1) := by decide +kernel
theorem dX12_findRows_64 : decode cX12_findRows 64 = .ok (.iaload, 1) := by decide +kernel
theorem dX12_findRows_65 : decode cX12_findRows 65 = .ok (.iconst 1, 1) := by decide +kernel
theorem dX12_findRows_66 : decode cX12_findRows 66 = .ok (.iadd, 1) := by decide +kernel
theorem dX12_findRows_67 : decode cX12_findRows 67 = .ok (.iastore, 1) := by decide +kernel
theorem dX12_findRows_68 : decode cX12_findRows 68 = .ok (.aload_n 0, 1) := by decide +kernel
theorem dX12_findRows_69 : decode cX12_findRows 69 = .ok (.iload 4, 2) := by decide +kernel
theorem dX12_findRows_71 : decode cX12_findRows 71 = .ok (.invokevirtual 257, 3) := by decide +kernel
theorem dX12_findRows_74 : decode cX12_findRows 74 = .ok (.aload_n 0, 1) := by decide +kernel
theorem dX12_findRows_75 : decode cX12_findRows 75 = .ok (.getfield 53, 3) := by decide +kernel
theorem dX12_findRows_78 : decode cX12_findRows 78 = .ok (.iload 4, 2) := by decide +kernel
theorem dX12_findRows_80 : decode cX12_findRows 80 = .ok (.iaload, 1) := by decide +kernel
theorem dX12_findRows_81 : decode cX12_findRows 81 = .ok (.aload_n 0, 1) := by decide +kernel
theorem dX12_findRows_82 : decode cX12_findRows 82 = .ok (.getfield 44, 3) := by decide +kernel
theorem dX12_findRows_85 : decode cX12_findRows 85 = .ok (.iload 4, 2) := by decide +kernel
theorem dX12_findRows_87 : decode cX12_findRows 87 = .ok (.iaload, 1) := by decide +kernel
theorem dX12_findRows_88 : decode cX12_findRows 88 = .ok (.ifCond .ne 7, 3) := by decide +kernel
theorem dX12_findRows_91 : decode cX12_findRows 91 = .ok (.iconst 1, 1) := by decide +kernel
theorem dX12_findRows_92 : decode cX12_findRows 92 = .ok (.goto 10, 3) := by decide +kernel
theorem dX12_findRows_95 : decode cX12_findRows 95 = .ok (.aload_n 0, 1) := by decide +kernel
theorem dX12_findRows_96 : decode cX12_findRows 96 = .ok (.getfield 44, 3) := by decide +kernel
theorem dX12_findRows_99 : decode cX12_findRows 99 = .ok (.iload 4, 2) := by decide +kernel
theorem dX12_findRows_101 : decode cX12_findRows 101 = .ok (.iaload, 1) := by decide +kernel
theorem dX12_findRows_102 : decode cX12_findRows 102 = .ok (.if_icmp .ge 111, 3) := by decide +kernel
theorem dX12_findRows_105 : decode cX12_findRows 105 = .ok (.aload_n 0, 1) := by decide +kernel
theorem dX12_findRows_106 : decode cX12_findRows 106 = .ok (.aload_n 0, 1) := by decide +kernel
theorem dX12_findRows_107 : decode cX12_findRows 107 = .ok (.getfield 50, 3) := by decide +kernel
theorem dX12_findRows_110 : decode cX12_findRows 110 = .ok (.iload 4, 2) := by decide +kernel
theorem dX12_findRows_112 : decode cX12_findRows 112 = .ok (.iaload, 1) := by decide +kernel
theorem dX12_findRows_113 : decode cX12_findRows 113 = .ok (.aload_n 0, 1) := by decide +kernel
theorem dX12_findRows_114 : decode cX12_findRows 114 = .ok (.getfield 44, 3) := by decide +kernel
theorem dX12_findRows_117 : decode cX12_findRows 117 = .ok (.iload 4, 2) := by decide +kernel
theorem dX12_findRows_119 : decode cX12_findRows 119 = .ok (.iaload, 1) := by decide +kernel
theorem dX12_findRows_120 : decode cX12_findRows 120 = .ok (.ifCond .ne 8, 3) := by decide +kernel
theorem dX12_findRows_123 : decode cX12_findRows 123 = .ok (.bipush (-4), 2) := by decide +kernel
theorem dX12_findRows_125 : decode cX12_findRows 125 = .ok (.goto 21, 3) := by decide +kernel
theorem dX12_findRows_128 : decode cX12_findRows 128 = .ok (.aload_n 0, 1) := by decide +kernel
theorem dX12_findRows_129 : decode cX12_findRows 129 = .ok (.getfield 41, 3) := by decide +kernel
theorem dX12_findRows_132 : decode cX12_findRows 132 = .ok (.bipush 64, 2) := by decide +kernel
theorem dX12_findRows_134 : decode cX12_findRows 134 = .ok (.iload 4, 2) := by decide +kernel
theorem dX12_findRows_136 : decode cX12_findRows 136 = .ok (.imul, 1) := by decide +kernel
theorem dX12_findRows_137 : decode cX12_findRows 137 = .ok (.aload_n 0, 1) := by decide +kernel
theorem dX12_findRows_138 : decode cX12_findRows 138 = .ok (.getfield 53, 3) := by decide +kernel
theorem dX12_findRows_141 : decode cX12_findRows 141 = .ok (.iload 4, 2) := by decide +kernel
theorem dX12_findRows_143 : decode cX12_findRows 143 = .ok (.iaload, 1) := by decide +kernel
theorem dX12_findRows_144 : decode cX12_findRows 144 = .ok (.iadd, 1) := by decide +kernel
theorem dX12_findRows_145 : decode cX12_findRows 145 = .ok (.iaload, 1) := by decide +kernel
theorem dX12_findRows_146 : decode cX12_findRows 146 = .ok (.invokevirtual 251, 3) := by decide +kernel
theorem dX12_findRows_149 : decode cX12_findRows 149 = .ok (.pop, 1) := by decide +kernel
theorem dX12_findRows_150 : decode cX12_findRows 150 = .ok (.aload_n 0, 1) := by decide +kernel
theorem dX12_findRows_151 : decode cX12_findRows 151 = .ok (.aload_n 0, 1) := by decide +kernel
theorem dX12_findRows_152 : decode cX12_findRows 152 = .ok (.getfield 325, 3) := by decide +kernel
theorem dX12_findRows_155 : decode cX12_findRows 155 = .ok (.ifCond .ne 11, 3) := by decide +kernel
theorem dX12_findRows_158 : decode cX12_findRows 158 = .ok (.aload_n 0, 1) := by decide +kernel
theorem dX12_findRows_159 : decode cX12_findRows 159 = .ok (.invokevirtual 221, 3) := by decide +kernel
theorem dX12_findRows_162 : decode cX12_findRows 162 = .ok (.iload_n 3, 1) := by decide +kernel
theorem dX12_findRows_163 : decode cX12_findRows 163 = .ok (.if_icmp .ne 7, 3) := by decide +kernel
theorem dX12_findRows_166 : decode cX12_findRows 166 = .ok (.iconst 1, 1) := by decide +kernel
theorem dX12_findRows_167 : decode cX12_findRows 167 = .ok (.goto 4, 3) := by decide +kernel
theorem dX12_findRows_170 : decode cX12_findRows 170 = .ok (.iconst 0, 1) := by decide +kernel
theorem dX12_findRows_171 : decode cX12_findRows 171 = .ok (.putfield 325, 3) := by decide +kernel
theorem dX12_findRows_174 : decode cX12_findRows 174 = .ok (.iload 4, 2) := by decide +kernel
theorem dX12_findRows_176 : decode cX12_findRows 176 = .ok (.iload_n 1, 1) := by decide +kernel
theorem dX12_findRows_177 : decode cX12_findRows 177 = .ok (.iconst 1, 1) := by decide +kernel
theorem dX12_findRows_178 : decode cX12_findRows 178 = .ok (.isub, 1) := by decide +kernel
theorem dX12_findRows_179 : decode cX12_findRows 179 = .ok (.if_icmp .ne 12, 3) := by decide +kernel
theorem dX12_findRows_182 : decode cX12_findRows 182 = .ok (.aload_n 0, 1) := by decide +kernel
theorem dX12_findRows_183 : decode cX12_findRows 183 = .ok (.iload_n 1, 1) := by decide +kernel
theorem dX12_findRows_184 : decode cX12_findRows 184 = .ok (.iload_n 2, 1) := by decide +kernel
theorem dX12_findRows_185 : decode cX12_findRows 185 = .ok (.invokevirtual 329, 3) := by decide +kernel
theorem dX12_findRows_188 : decode cX12_findRows 188 = .ok (.goto (-136), 3) := by decide +kernel
theorem dX12_findRows_191 : decode cX12_findRows 191 = .ok (.aload_n 0, 1) := by decide +kernel
theorem dX12_findRows_192 : decode cX12_findRows 192 = .ok (.invokevirtual 221, 3) := by decide +kernel
theorem dX12_findRows_195 : decode cX12_findRows 195 = .ok (.bipush (-4), 2) := by decide +kernel
theorem dX12_findRows_197 : decode cX12_findRows 197 = .ok (.if_icmp .ne (-145), 3) := by decide +kernel
theorem dX12_findRows_200 : decode cX12_findRows 200 = .ok (.iinc 4 1, 3) := by decide +kernel
theorem dX12_findRows_203 : decode cX12_findRows 203 = .ok (.aload_n 0, 1) := by decide +kernel
theorem dX12_findRows_204 : decode cX12_findRows 204 = .ok (.iload 4, 2) := by decide +kernel
theorem dX12_findRows_206 : decode cX12_findRows 206 = .ok (.iload_n 2, 1) := by decide +kernel
theorem dX12_findRows_207 : decode cX12_findRows 207 = .ok (.invokevirtual 332, 3) := by decide +kernel
theorem dX12_findRows_210 : decode cX12_findRows 210 = .ok (.goto (-158), 3) := by decide +kernel
theorem dX12_findRows_213 : decode cX12_findRows 213 = .ok (.iload_n 2, 1) := by decide +kernel
theorem dX12_findRows_214 : decode cX12_findRows 214 = .ok (.iconst 2, 1) := by decide +kernel
theorem dX12_findRows_215 : decode cX12_findRows 215 = .ok (.if_icmp .eq 49, 3) := by decide +kernel
theorem dX12_findRows_218 : decode cX12_findRows 218 = .ok (.aload_n 0, 1) := by decide +kernel
theorem dX12_findRows_219 : decode cX12_findRows 219 = .ok (.getfield 50, 3) := by decide +kernel
theorem dX12_findRows_222 : decode cX12_findRows 222 = .ok (.iload 4, 2) := by decide +kernel
theorem dX12_findRows_224 : decode cX12_findRows 224 = .ok (.iaload, 1) := by decide +kernel
theorem dX12_findRows_225 : decode cX12_findRows 225 = .ok (.iconst 4, 1) := by decide +kernel
theorem dX12_findRows_226 : decode cX12_findRows 226 = .ok (.if_icmp .ge 38, 3) := by decide +kernel
theorem dX12_findRows_229 : decode cX12_findRows 229 = .ok (.aload_n 0, 1) := by decide +kernel
theorem dX12_findRows_230 : decode cX12_findRows 230 = .ok (.getfield 50, 3) := by decide +kernel
theorem dX12_findRows_233 : decode cX12_findRows 233 = .ok (.iload 4, 2) := by decide +kernel
theorem dX12_findRows_235 : decode cX12_findRows 235 = .ok (.dup2, 1) := by decide +kernel
theorem dX12_findRows_236 : decode cX12_findRows 236 = .ok (.iaload, 1) := by decide +kernel
theorem dX12_findRows_237 : decode cX12_findRows 237 = .ok (.iconst 1, 1) := by decide +kernel
theorem dX12_findRows_238 : decode cX12_findRows 238 = .ok (.iadd, 1) := by decide +kernel
theorem dX12_findRows_239 : decode cX12_findRows 239 = .ok (.iastore, 1) := by decide +kernel
theorem dX12_findRows_240 : decode cX12_findRows 240 = .ok (.aload_n 0, 1) := by decide +kernel
theorem dX12_findRows_241 : decode cX12_findRows 241 = .ok (.getfield 53, 3) := by decide +kernel
theorem dX12_findRows_244 : decode cX12_findRows 244 = .ok (.iload 4, 2) := by decide +kernel
theorem dX12_findRows_246 : decode cX12_findRows 246 = .ok (.iconst (-1), 1) := by decide +kernel
theorem dX12_findRows_247 : decode cX12_findRows 247 = .ok (.iastore, 1) := by decide +kernel
theorem dX12_findRows_248 : decode cX12_findRows 248 = .ok (.aload_n 0, 1) := by decide +kernel
theorem dX12_findRows_249 : decode cX12_findRows 249 = .ok (.aload_n 0, 1) := by decide +kernel
theorem dX12_findRows_250 : decode cX12_findRows 250 = .ok (.getfield 50, 3) := by decide +kernel
theorem dX12_findRows_253 : decode cX12_findRows 253 = .ok (.iload 4, 2) := by decide +kernel
theorem dX12_findRows_255 : decode cX12_findRows 255 = .ok (.iaload, 1) := by decide +kernel
theorem dX12_findRows_256 : decode cX12_findRows 256 = .ok (.iload 4, 2) := by decide +kernel
theorem dX12_findRows_258 : decode cX12_findRows 258 = .ok (.invokevirtual 247, 3) := by decide +kernel
theorem dX12_findRows_261 : decode cX12_findRows 261 = .ok (.goto (-209), 3) := by decide +kernel
theorem dX12_findRows_264 : decode cX12_findRows 264 = .ok (.iinc 4 (-1), 3) := by decide +kernel
theorem dX12_findRows_267 : decode cX12_findRows 267 = .ok (.goto (-215), 3) := by decide +kernel
theorem dX12_findRows_270 : decode cX12_findRows 270 = .ok (.return_, 1) := by decide +kernel
theorem dX12_since_0 : decode cX12_since 0 = .ok (.iload_n 1, 1) := by decide +kernel
theorem dX12_since_1 : decode cX12_since 1 = .ok (.i2l, 1) := by decide +kernel
theorem dX12_since_2 : decode cX12_since 2 = .ok (.lconst 0, 1) := by decide +kernel
theorem dX12_since_3 : decode cX12_since 3 = .ok (.lconst 1, 1) := by decide +kernel
theorem dX12_since_4 : decode cX12_since 4 = .ok (.invokestatic 113, 3) := by decide +kernel
theorem dX12_since_7 : decode cX12_since 7 = .ok (.ifCond .eq 33, 3) := by decide +kernel
theorem dX12_since_10 : decode cX12_since 10 = .ok (.iload_n 2, 1) := by decide +kernel
theorem dX12_since_11 : decode cX12_since 11 = .ok (.i2l, 1) := by decide +kernel
theorem dX12_since_12 : decode cX12_since 12 = .ok (.lconst 0, 1) := by decide +kernel
theorem dX12_since_13 : decode cX12_since 13 = .ok (.ldc2_w 291, 3) := by decide +kernel
theorem dX12_since_16 : decode cX12_since 16 = .ok (.invokestatic 113, 3) := by decide +kernel
theorem dX12_since_19 : decode cX12_since 19 = .ok (.ifCond .eq 21, 3) := by decide +kernel
theorem dX12_since_22 : decode cX12_since 22 = .ok (.iload_n 3, 1) := by decide +kernel
theorem dX12_since_23 : decode cX12_since 23 = .ok (.ifCond .eq 19, 3) := by decide +kernel
theorem dX12_since_26 : decode cX12_since 26 = .ok (.iload_n 3, 1) := by decide +kernel
theorem dX12_since_27 : decode cX12_since 27 = .ok (.i2l, 1) := by decide +kernel
theorem dX12_since_28 : decode cX12_since 28 = .ok (.ldc2_w 335, 3) := by decide +kernel
theorem dX12_since_31 : decode cX12_since 31 = .ok (.ldc2_w 337, 3) := by decide +kernel
theorem dX12_since_34 : decode cX12_since 34 = .ok (.invokestatic 113, 3) := by decide +kernel
theorem dX12_since_37 : decode cX12_since 37 = .ok (.ifCond .ne 5, 3) := by decide +kernel
theorem dX12_since_40 : decode cX12_since 40 = .ok (.iconst (-1), 1) := by decide +kernel
theorem dX12_since_41 : decode cX12_since 41 = .ok (.ireturn, 1) := by decide +kernel
theorem dX12_since_42 : decode cX12_since 42 = .ok (.aload_n 0, 1) := by decide +kernel
theorem dX12_since_43 : decode cX12_since 43 = .ok (.getfield 13, 3) := by decide +kernel
theorem dX12_since_46 : decode cX12_since 46 = .ok (.iload_n 1, 1) := by decide +kernel
theorem dX12_since_47 : decode cX12_since 47 = .ok (.baload, 1) := by decide +kernel
theorem dX12_since_48 : decode cX12_since 48 = .ok (.ifCond .ne 6, 3) := by decide +kernel
theorem dX12_since_51 : decode cX12_since 51 = .ok (.bipush (-2), 2) := by decide +kernel
theorem dX12_since_53 : decode cX12_since 53 = .ok (.ireturn, 1) := by decide +kernel
theorem dX12_since_54 : decode cX12_since 54 = .ok (.bipush 41, 2) := by decide +kernel
theorem dX12_since_56 : decode cX12_since 56 = .ok (.iload_n 1, 1) := by decide +kernel
theorem dX12_since_57 : decode cX12_since 57 = .ok (.iconst 1, 1) := by decide +kernel
theorem dX12_since_58 : decode cX12_since 58 = .ok (.iadd, 1) := by decide +kernel
theorem dX12_since_59 : decode cX12_since 59 = .ok (.imul, 1) := by decide +kernel
theorem dX12_since_60 : decode cX12_since 60 = .ok (.istore 4, 2) := by decide +kernel
theorem dX12_since_62 : decode cX12_since 62 = .ok (.iconst 0, 1) := by decide +kernel
theorem dX12_since_63 : decode cX12_since 63 = .ok (.istore 5, 2) := by decide +kernel
theorem dX12_since_65 : decode cX12_since 65 = .ok (.iload 5, 2) := by decide +kernel
theorem dX12_since_67 : decode cX12_since 67 = .ok (.bipush 6, 2) := by decide +kernel
theorem dX12_since_69 : decode cX12_since 69 = .ok (.if_icmp .ge 48, 3) := by decide +kernel
theorem dX12_since_72 : decode cX12_since 72 = .ok (.aload_n 0, 1) := by decide +kernel
theorem dX12_since_73 : decode cX12_since 73 = .ok (.getfield 35, 3) := by decide +kernel
theorem dX12_since_76 : decode cX12_since 76 = .ok (.iload 5, 2) := by decide +kernel
theorem dX12_since_78 : decode cX12_since 78 = .ok (.aload_n 0, 1) := by decide +kernel
theorem dX12_since_79 : decode cX12_since 79 = .ok (.getfield 7, 3) := by decide +kernel
theorem dX12_since_82 : decode cX12_since 82 = .ok (.iload 4, 2) := by decide +kernel
theorem dX12_since_84 : decode cX12_since 84 = .ok (.iconst 0, 1) := by decide +kernel
theorem dX12_since_85 : decode cX12_since 85 = .ok (.iadd, 1) := by decide +kernel
theorem dX12_since_86 : decode cX12_since 86 = .ok (.iload 5, 2) := by decide +kernel
theorem dX12_since_88 : decode cX12_since 88 = .ok (.iadd, 1) := by decide +kernel
theorem dX12_since_89 : decode cX12_since 89 = .ok (.iaload, 1) := by decide +kernel
theorem dX12_since_90 : decode cX12_since 90 = .ok (.iastore, 1) := by decide +kernel
theorem dX12_since_91 : decode cX12_since 91 = .ok (.aload_n 0, 1) := by decide +kernel
theorem dX12_since_92 : decode cX12_since 92 = .ok (.getfield 38, 3) := by decide +kernel
theorem dX12_since_95 : decode cX12_since 95 = .ok (.iload 5, 2) := by decide +kernel
theorem dX12_since_97 : decode cX12_since 97 = .ok (.aload_n 0, 1) := by decide +kernel
theorem dX12_since_98 : decode cX12_since 98 = .ok (.getfield 7, 3) := by decide +kernel
theorem dX12_since_101 : decode cX12_since 101 = .ok (.iload 4, 2) := by decide +kernel
theorem dX12_since_103 : decode cX12_since 103 = .ok (.bipush 6, 2) := by decide +kernel
theorem dX12_since_105 : decode cX12_since 105 = .ok (.iadd, 1) := by decide +kernel
theorem dX12_since_106 : decode cX12_since 106 = .ok (.iload 5, 2) := by decide +kernel
theorem dX12_since_108 : decode cX12_since 108 = .ok (.iadd, 1) := by decide +kernel
theorem dX12_since_109 : decode cX12_since 109 = .ok (.iaload, 1) := by decide +kernel
theorem dX12_since_110 : decode cX12_since 110 = .ok (.iastore, 1) := by decide +kernel
theorem dX12_since_111 : decode cX12_since 111 = .ok (.iinc 5 1, 3) := by decide +kernel
theorem dX12_since_114 : decode cX12_since 114 = .ok (.goto (-49), 3) := by decide +kernel
theorem dX12_since_117 : decode cX12_since 117 = .ok (.aload_n 0, 1) := by decide +kernel
theorem dX12_since_118 : decode cX12_since 118 = .ok (.aload_n 0, 1) := by decide +kernel
theorem dX12_since_119 : decode cX12_since 119 = .ok (.getfield 7, 3) := by decide +kernel
theorem dX12_since_122 : decode cX12_since 122 = .ok (.iload 4, 2) := by decide +kernel
theorem dX12_since_124 : decode cX12_since 124 = .ok (.bipush 18, 2) := by decide +kernel
theorem dX12_since_126 : decode cX12_since 126 = .ok (.iadd, 1) := by decide +kernel
theorem dX12_since_127 : decode cX12_since 127 = .ok (.iaload, 1) := by decide +kernel
theorem dX12_since_128 : decode cX12_since 128 = .ok (.putfield 204, 3) := by decide +kernel
theorem dX12_since_131 : decode cX12_since 131 = .ok (.aload_n 0, 1) := by decide +kernel
theorem dX12_since_132 : decode cX12_since 132 = .ok (.iconst 0, 1) := by decide +kernel
theorem dX12_since_133 : decode cX12_since 133 = .ok (.putfield 321, 3) := by decide +kernel
theorem dX12_since_136 : decode cX12_since 136 = .ok (.aload_n 0, 1) := by decide +kernel
theorem dX12_since_137 : decode cX12_since 137 = .ok (.iload_n 2, 1) := by decide +kernel
theorem dX12_since_138 : decode cX12_since 138 = .ok (.iconst 0, 1) := by decide +kernel
theorem dX12_since_139 : decode cX12_since 139 = .ok (.invokevirtual 339, 3) := by decide +kernel
theorem dX12_since_142 : decode cX12_since 142 = .ok (.iload_n 3, 1) := by decide +kernel
theorem dX12_since_143 : decode cX12_since 143 = .ok (.ifCond .ne 10, 3) := by decide +kernel
theorem dX12_since_146 : decode cX12_since 146 = .ok (.aload_n 0, 1) := by decide +kernel
theorem dX12_since_147 : decode cX12_since 147 = .ok (.getfield 315, 3) := by decide +kernel
theorem dX12_since_150 : decode cX12_since 150 = .ok (.goto 32, 3) := by decide +kernel
theorem dX12_since_153 : decode cX12_since 153 = .ok (.aload_n 0, 1) := by decide +kernel
theorem dX12_since_154 : decode cX12_since 154 = .ok (.getfield 315, 3) := by decide +kernel
theorem dX12_since_157 : decode cX12_since 157 = .ok (.ifCond .le 23, 3) := by decide +kernel
theorem dX12_since_160 : decode cX12_since 160 = .ok (.iload_n 3, 1) := by decide +kernel
theorem dX12_since_161 : decode cX12_since 161 = .ok (.bipush 10, 2) := by decide +kernel
theorem dX12_since_163 : decode cX12_since 163 = .ok (.isub, 1) := by decide +kernel
theorem dX12_since_164 : decode cX12_since 164 = .ok (.iload_n 2, 1) := by decide +kernel
theorem dX12_since_165 : decode cX12_since 165 = .ok (.if_icmp .ge 15, 3) := by decide +kernel
theorem dX12_since_168 : decode cX12_since 168 = .ok (.aload_n 0, 1) := by decide +kernel
theorem dX12_since_169 : decode cX12_since 169 = .ok (.getfield 59, 3) := by decide +kernel
theorem dX12_since_172 : decode cX12_since 172 = .ok (.iload_n 3, 1) := by decide +kernel
theorem dX12_since_173 : decode cX12_since 173 = .ok (.bipush 10, 2) := by decide +kernel
theorem dX12_since_175 : decode cX12_since 175 = .ok (.isub, 1) := by decide +kernel
theorem dX12_since_176 : decode cX12_since 176 = .ok (.iaload, 1) := by decide +kernel
theorem dX12_since_177 : decode cX12_since 177 = .ok (.goto 5, 3) := by decide +kernel
theorem dX12_since_180 : decode cX12_since 180 = .ok (.bipush (-4), 2) := by decide +kernel
theorem dX12_since_182 : decode cX12_since 182 = .ok (.ireturn, 1) := by decide +kernel
theorem dX12_see_0 : decode cX12_see 0 = .ok (.aload_n 0, 1) := by decide +kernel
theorem dX12_see_1 : decode cX12_see 1 = .ok (.iload_n 1, 1) := by decide +kernel
theorem dX12_see_2 : decode cX12_see 2 = .ok (.invokevirtual 230, 3) := by decide +kernel
theorem dX12_see_5 : decode cX12_see 5 = .ok (.ifCond .eq 19, 3) := by decide +kernel
theorem dX12_see_8 : decode cX12_see 8 = .ok (.iload_n 2, 1) := by decide +kernel
theorem dX12_see_9 : decode cX12_see 9 = .ok (.bipush (-4), 2) := by decide +kernel
theorem dX12_see_11 : decode cX12_see 11 = .ok (.if_icmp .eq 15, 3) := by decide +kernel
theorem dX12_see_14 : decode cX12_see 14 = .ok (.iload_n 2, 1) := by decide +kernel
theorem dX12_see_15 : decode cX12_see 15 = .ok (.i2l, 1) := by decide +kernel
theorem dX12_see_16 : decode cX12_see 16 = .ok (.lconst 0, 1) := by decide +kernel
theorem dX12_see_17 : decode cX12_see 17 = .ok (.lconst 1, 1) := by decide +kernel
theorem dX12_see_18 : decode cX12_see 18 = .ok (.invokestatic 113, 3) := by decide +kernel
theorem dX12_see_21 : decode cX12_see 21 = .ok (.ifCond .ne 5, 3) := by decide +kernel
theorem dX12_see_24 : decode cX12_see 24 = .ok (.iconst (-1), 1) := by decide +kernel
theorem dX12_see_25 : decode cX12_see 25 = .ok (.ireturn, 1) := by decide +kernel
theorem dX12_see_26 : decode cX12_see 26 = .ok (.aload_n 0, 1) := by decide +kernel
theorem dX12_see_27 : decode cX12_see 27 = .ok (.getfield 7, 3) := by decide +kernel
theorem dX12_see_30 : decode cX12_see 30 = .ok (.bipush 20, 2) := by decide +kernel
theorem dX12_see_32 : decode cX12_see 32 = .ok (.iaload, 1) := by decide +kernel
theorem dX12_see_33 : decode cX12_see 33 = .ok (.bipush 8, 2) := by decide +kernel
theorem dX12_see_35 : decode cX12_see 35 = .ok (.if_icmp .ne 6, 3) := by decide +kernel
theorem dX12_see_38 : decode cX12_see 38 = .ok (.bipush (-3), 2) := by decide +kernel
theorem dX12_see_40 : decode cX12_see 40 = .ok (.ireturn, 1) := by decide +kernel
theorem dX12_see_41 : decode cX12_see 41 = .ok (.aload_n 0, 1) := by decide +kernel
theorem dX12_see_42 : decode cX12_see 42 = .ok (.getfield 7, 3) := by decide +kernel
theorem dX12_see_45 : decode cX12_see 45 = .ok (.bipush 21, 2) := by decide +kernel
theorem dX12_see_47 : decode cX12_see 47 = .ok (.iconst 2, 1) := by decide +kernel
theorem dX12_see_48 : decode cX12_see 48 = .ok (.aload_n 0, 1) := by decide +kernel
theorem dX12_see_49 : decode cX12_see 49 = .ok (.getfield 7, 3) := by decide +kernel
theorem dX12_see_52 : decode cX12_see 52 = .ok (.bipush 20, 2) := by decide +kernel
theorem dX12_see_54 : decode cX12_see 54 = .ok (.iaload, 1) := by decide +kernel
theorem dX12_see_55 : decode cX12_see 55 = .ok (.imul, 1) := by decide +kernel
theorem dX12_see_56 : decode cX12_see 56 = .ok (.iadd, 1) := by decide +kernel
theorem dX12_see_57 : decode cX12_see 57 = .ok (.iload_n 1, 1) := by decide +kernel
theorem dX12_see_58 : decode cX12_see 58 = .ok (.iastore, 1) := by decide +kernel
theorem dX12_see_59 : decode cX12_see 59 = .ok (.aload_n 0, 1) := by decide +kernel
theorem dX12_see_60 : decode cX12_see 60 = .ok (.getfield 7, 3) := by decide +kernel
theorem dX12_see_63 : decode cX12_see 63 = .ok (.bipush 21, 2) := by decide +kernel
theorem dX12_see_65 : decode cX12_see 65 = .ok (.iconst 2, 1) := by decide +kernel
theorem dX12_see_66 : decode cX12_see 66 = .ok (.aload_n 0, 1) := by decide +kernel
theorem dX12_see_67 : decode cX12_see 67 = .ok (.getfield 7, 3) := by decide +kernel
theorem dX12_see_70 : decode cX12_see 70 = .ok (.bipush 20, 2) := by decide +kernel
theorem dX12_see_72 : decode cX12_see 72 = .ok (.iaload, 1) := by decide +kernel
theorem dX12_see_73 : decode cX12_see 73 = .ok (.imul, 1) := by decide +kernel
theorem dX12_see_74 : decode cX12_see 74 = .ok (.iadd, 1) := by decide +kernel
theorem dX12_see_75 : decode cX12_see 75 = .ok (.iconst 1, 1) := by decide +kernel
theorem dX12_see_76 : decode cX12_see 76 = .ok (.iadd, 1) := by decide +kernel
theorem dX12_see_77 : decode cX12_see 77 = .ok (.iload_n 2, 1) := by decide +kernel
theorem dX12_see_78 : decode cX12_see 78 = .ok (.iastore, 1) := by decide +kernel
theorem dX12_see_79 : decode cX12_see 79 = .ok (.aload_n 0, 1) := by decide +kernel
theorem dX12_see_80 : decode cX12_see 80 = .ok (.getfield 7, 3) := by decide +kernel
theorem dX12_see_83 : decode cX12_see 83 = .ok (.bipush 20, 2) := by decide +kernel
theorem dX12_see_85 : decode cX12_see 85 = .ok (.dup2, 1) := by decide +kernel
theorem dX12_see_86 : decode cX12_see 86 = .ok (.iaload, 1) := by decide +kernel
theorem dX12_see_87 : decode cX12_see 87 = .ok (.iconst 1, 1) := by decide +kernel
theorem dX12_see_88 : decode cX12_see 88 = .ok (.iadd, 1) := by decide +kernel
theorem dX12_see_89 : decode cX12_see 89 = .ok (.iastore, 1) := by decide +kernel
theorem dX12_see_90 : decode cX12_see 90 = .ok (.aload_n 0, 1) := by decide +kernel
theorem dX12_see_91 : decode cX12_see 91 = .ok (.getfield 7, 3) := by decide +kernel
theorem dX12_see_94 : decode cX12_see 94 = .ok (.bipush 20, 2) := by decide +kernel
theorem dX12_see_96 : decode cX12_see 96 = .ok (.iaload, 1) := by decide +kernel
theorem dX12_see_97 : decode cX12_see 97 = .ok (.ireturn, 1) := by decide +kernel
theorem dX12_forget_0 : decode cX12_forget 0 = .ok (.iload_n 1, 1) := by decide +kernel
theorem dX12_forget_1 : decode cX12_forget 1 = .ok (.i2l, 1) := by decide +kernel
theorem dX12_forget_2 : decode cX12_forget 2 = .ok (.lconst 0, 1) := by decide +kernel
theorem dX12_forget_3 : decode cX12_forget 3 = .ok (.aload_n 0, 1) := by decide +kernel
theorem dX12_forget_4 : decode cX12_forget 4 = .ok (.getfield 7, 3) := by decide +kernel
theorem dX12_forget_7 : decode cX12_forget 7 = .ok (.bipush 20, 2) := by decide +kernel
theorem dX12_forget_9 : decode cX12_forget 9 = .ok (.iaload, 1) := by decide +kernel
theorem dX12_forget_10 : decode cX12_forget 10 = .ok (.i2l, 1) := by decide +kernel
theorem dX12_forget_11 : decode cX12_forget 11 = .ok (.invokestatic 113, 3) := by decide +kernel
theorem dX12_forget_14 : decode cX12_forget 14 = .ok (.ifCond .ne 5, 3) := by decide +kernel
theorem dX12_forget_17 : decode cX12_forget 17 = .ok (.iconst (-1), 1) := by decide +kernel
theorem dX12_forget_18 : decode cX12_forget 18 = .ok (.ireturn, 1) := by decide +kernel
theorem dX12_forget_19 : decode cX12_forget 19 = .ok (.aload_n 0, 1) := by decide +kernel
theorem dX12_forget_20 : decode cX12_forget 20 = .ok (.getfield 7, 3) := by decide +kernel
theorem dX12_forget_23 : decode cX12_forget 23 = .ok (.bipush 20, 2) := by decide +kernel
theorem dX12_forget_25 : decode cX12_forget 25 = .ok (.iaload, 1) := by decide +kernel
theorem dX12_forget_26 : decode cX12_forget 26 = .ok (.istore_n 2, 1) := by decide +kernel
theorem dX12_forget_27 : decode cX12_forget 27 = .ok (.aload_n 0, 1) := by decide +kernel
theorem dX12_forget_28 : decode cX12_forget 28 = .ok (.getfield 7, 3) := by decide +kernel
theorem dX12_forget_31 : decode cX12_forget 31 = .ok (.bipush 20, 2) := by decide +kernel
theorem dX12_forget_33 : decode cX12_forget 33 = .ok (.iload_n 1, 1) := by decide +kernel
theorem dX12_forget_34 : decode cX12_forget 34 = .ok (.iastore, 1) := by decide +kernel
theorem dX12_forget_35 : decode cX12_forget 35 = .ok (.iload_n 2, 1) := by decide +kernel
theorem dX12_forget_36 : decode cX12_forget 36 = .ok (.ireturn, 1) := by decide +kernel
theorem dX12_fits_0 : decode cX12_fits 0 = .ok (.iload_n 1, 1) := by decide +kernel
theorem dX12_fits_1 : decode cX12_fits 1 = .ok (.i2l, 1) := by decide +kernel
theorem dX12_fits_2 : decode cX12_fits 2 = .ok (.lconst 0, 1) := by decide +kernel
theorem dX12_fits_3 : decode cX12_fits 3 = .ok (.ldc2_w 291, 3) := by decide +kernel
theorem dX12_fits_6 : decode cX12_fits 6 = .ok (.invokestatic 113, 3) := by decide +kernel
theorem dX12_fits_9 : decode cX12_fits 9 = .ok (.ifCond .ne 5, 3) := by decide +kernel
theorem dX12_fits_12 : decode cX12_fits 12 = .ok (.iconst (-1), 1) := by decide +kernel
theorem dX12_fits_13 : decode cX12_fits 13 = .ok (.ireturn, 1) := by decide +kernel
theorem dX12_fits_14 : decode cX12_fits 14 = .ok (.aload_n 0, 1) := by decide +kernel
theorem dX12_fits_15 : decode cX12_fits 15 = .ok (.invokevirtual 227, 3) := by decide +kernel
theorem dX12_fits_18 : decode cX12_fits 18 = .ok (.aload_n 0, 1) := by decide +kernel
theorem dX12_fits_19 : decode cX12_fits 19 = .ok (.iconst 0, 1) := by decide +kernel
theorem dX12_fits_20 : decode cX12_fits 20 = .ok (.putfield 321, 3) := by decide +kernel
theorem dX12_fits_23 : decode cX12_fits 23 = .ok (.aload_n 0, 1) := by decide +kernel
theorem dX12_fits_24 : decode cX12_fits 24 = .ok (.iload_n 1, 1) := by decide +kernel
theorem dX12_fits_25 : decode cX12_fits 25 = .ok (.iconst 1, 1) := by decide +kernel
theorem dX12_fits_26 : decode cX12_fits 26 = .ok (.invokevirtual 339, 3) := by decide +kernel
theorem dX12_fits_29 : decode cX12_fits 29 = .ok (.aload_n 0, 1) := by decide +kernel
theorem dX12_fits_30 : decode cX12_fits 30 = .ok (.getfield 315, 3) := by decide +kernel
theorem dX12_fits_33 : decode cX12_fits 33 = .ok (.ireturn, 1) := by decide +kernel
theorem dX12_where_0 : decode cX12_where 0 = .ok (.aload_n 0, 1) := by decide +kernel
theorem dX12_where_1 : decode cX12_where 1 = .ok (.iload_n 1, 1) := by decide +kernel
theorem dX12_where_2 : decode cX12_where 2 = .ok (.invokevirtual 233, 3) := by decide +kernel
theorem dX12_where_5 : decode cX12_where 5 = .ok (.ifCond .eq 15, 3) := by decide +kernel
theorem dX12_where_8 : decode cX12_where 8 = .ok (.iload_n 2, 1) := by decide +kernel
theorem dX12_where_9 : decode cX12_where 9 = .ok (.i2l, 1) := by decide +kernel
theorem dX12_where_10 : decode cX12_where 10 = .ok (.lconst 0, 1) := by decide +kernel
theorem dX12_where_11 : decode cX12_where 11 = .ok (.ldc2_w 291, 3) := by decide +kernel
theorem dX12_where_14 : decode cX12_where 14 = .ok (.invokestatic 113, 3) := by decide +kernel
theorem dX12_where_17 : decode cX12_where 17 = .ok (.ifCond .ne 5, 3) := by decide +kernel
theorem dX12_where_20 : decode cX12_where 20 = .ok (.iconst (-1), 1) := by decide +kernel
theorem dX12_where_21 : decode cX12_where 21 = .ok (.ireturn, 1) := by decide +kernel
theorem dX12_where_22 : decode cX12_where 22 = .ok (.aload_n 0, 1) := by decide +kernel
theorem dX12_where_23 : decode cX12_where 23 = .ok (.invokevirtual 227, 3) := by decide +kernel
theorem dX12_where_26 : decode cX12_where 26 = .ok (.aload_n 0, 1) := by decide +kernel
theorem dX12_where_27 : decode cX12_where 27 = .ok (.iload_n 1, 1) := by decide +kernel
theorem dX12_where_28 : decode cX12_where 28 = .ok (.putfield 321, 3) := by decide +kernel
theorem dX12_where_31 : decode cX12_where 31 = .ok (.aload_n 0, 1) := by decide +kernel
theorem dX12_where_32 : decode cX12_where 32 = .ok (.iload_n 2, 1) := by decide +kernel
theorem dX12_where_33 : decode cX12_where 33 = .ok (.iconst 1, 1) := by decide +kernel
theorem dX12_where_34 : decode cX12_where 34 = .ok (.invokevirtual 339, 3) := by decide +kernel
theorem dX12_where_37 : decode cX12_where 37 = .ok (.aload_n 0, 1) := by decide +kernel
theorem dX12_where_38 : decode cX12_where 38 = .ok (.getfield 318, 3) := by decide +kernel
theorem dX12_where_41 : decode cX12_where 41 = .ok (.ireturn, 1) := by decide +kernel
theorem dX12_tell_0 : decode cX12_tell 0 = .ok (.iload_n 1, 1) := by decide +kernel
theorem dX12_tell_1 : decode cX12_tell 1 = .ok (.invokestatic 236, 3) := by decide +kernel
theorem dX12_tell_4 : decode cX12_tell 4 = .ok (.ifCond .ne 5, 3) := by decide +kernel
theorem dX12_tell_7 : decode cX12_tell 7 = .ok (.iconst (-1), 1) := by decide +kernel
theorem dX12_tell_8 : decode cX12_tell 8 = .ok (.ireturn, 1) := by decide +kernel
theorem dX12_tell_9 : decode cX12_tell 9 = .ok (.aload_n 0, 1) := by decide +kernel
theorem dX12_tell_10 : decode cX12_tell 10 = .ok (.getfield 7, 3) := by decide +kernel
theorem dX12_tell_13 : decode cX12_tell 13 = .ok (.bipush 37, 2) := by decide +kernel
theorem dX12_tell_15 : decode cX12_tell 15 = .ok (.iaload, 1) := by decide +kernel
theorem dX12_tell_16 : decode cX12_tell 16 = .ok (.iconst 3, 1) := by decide +kernel
theorem dX12_tell_17 : decode cX12_tell 17 = .ok (.if_icmp .ne 6, 3) := by decide +kernel
theorem dX12_tell_20 : decode cX12_tell 20 = .ok (.bipush (-3), 2) := by decide +kernel
theorem dX12_tell_22 : decode cX12_tell 22 = .ok (.ireturn, 1) := by decide +kernel
theorem dX12_tell_23 : decode cX12_tell 23 = .ok (.aload_n 0, 1) := by decide +kernel
theorem dX12_tell_24 : decode cX12_tell 24 = .ok (.getfield 7, 3) := by decide +kernel
theorem dX12_tell_27 : decode cX12_tell 27 = .ok (.bipush 38, 2) := by decide +kernel
theorem dX12_tell_29 : decode cX12_tell 29 = .ok (.aload_n 0, 1) := by decide +kernel
theorem dX12_tell_30 : decode cX12_tell 30 = .ok (.getfield 7, 3) := by decide +kernel
theorem dX12_tell_33 : decode cX12_tell 33 = .ok (.bipush 37, 2) := by decide +kernel
theorem dX12_tell_35 : decode cX12_tell 35 = .ok (.iaload, 1) := by decide +kernel
theorem dX12_tell_36 : decode cX12_tell 36 = .ok (.iadd, 1) := by decide +kernel
theorem dX12_tell_37 : decode cX12_tell 37 = .ok (.iload_n 1, 1) := by decide +kernel
theorem dX12_tell_38 : decode cX12_tell 38 = .ok (.iastore, 1) := by decide +kernel
theorem dX12_tell_39 : decode cX12_tell 39 = .ok (.aload_n 0, 1) := by decide +kernel
theorem dX12_tell_40 : decode cX12_tell 40 = .ok (.getfield 7, 3) := by decide +kernel
theorem dX12_tell_43 : decode cX12_tell 43 = .ok (.bipush 37, 2) := by decide +kernel
theorem dX12_tell_45 : decode cX12_tell 45 = .ok (.dup2, 1) := by decide +kernel
theorem dX12_tell_46 : decode cX12_tell 46 = .ok (.iaload, 1) := by decide +kernel
theorem dX12_tell_47 : decode cX12_tell 47 = .ok (.iconst 1, 1) := by decide +kernel
theorem dX12_tell_48 : decode cX12_tell 48 = .ok (.iadd, 1) := by decide +kernel
theorem dX12_tell_49 : decode cX12_tell 49 = .ok (.iastore, 1) := by decide +kernel
theorem dX12_tell_50 : decode cX12_tell 50 = .ok (.aload_n 0, 1) := by decide +kernel
theorem dX12_tell_51 : decode cX12_tell 51 = .ok (.getfield 7, 3) := by decide +kernel
theorem dX12_tell_54 : decode cX12_tell 54 = .ok (.bipush 37, 2) := by decide +kernel
theorem dX12_tell_56 : decode cX12_tell 56 = .ok (.iaload, 1) := by decide +kernel
theorem dX12_tell_57 : decode cX12_tell 57 = .ok (.ireturn, 1) := by decide +kernel
theorem dX12_drop_0 : decode cX12_drop 0 = .ok (.iload_n 1, 1) := by decide +kernel
theorem dX12_drop_1 : decode cX12_drop 1 = .ok (.i2l, 1) := by decide +kernel
theorem dX12_drop_2 : decode cX12_drop 2 = .ok (.lconst 0, 1) := by decide +kernel
theorem dX12_drop_3 : decode cX12_drop 3 = .ok (.aload_n 0, 1) := by decide +kernel
theorem dX12_drop_4 : decode cX12_drop 4 = .ok (.getfield 7, 3) := by decide +kernel
theorem dX12_drop_7 : decode cX12_drop 7 = .ok (.bipush 37, 2) := by decide +kernel
theorem dX12_drop_9 : decode cX12_drop 9 = .ok (.iaload, 1) := by decide +kernel
theorem dX12_drop_10 : decode cX12_drop 10 = .ok (.i2l, 1) := by decide +kernel
theorem dX12_drop_11 : decode cX12_drop 11 = .ok (.invokestatic 113, 3) := by decide +kernel
theorem dX12_drop_14 : decode cX12_drop 14 = .ok (.ifCond .ne 5, 3) := by decide +kernel
theorem dX12_drop_17 : decode cX12_drop 17 = .ok (.iconst (-1), 1) := by decide +kernel
theorem dX12_drop_18 : decode cX12_drop 18 = .ok (.ireturn, 1) := by decide +kernel
theorem dX12_drop_19 : decode cX12_drop 19 = .ok (.aload_n 0, 1) := by decide +kernel
theorem dX12_drop_20 : decode cX12_drop 20 = .ok (.getfield 7, 3) := by decide +kernel
theorem dX12_drop_23 : decode cX12_drop 23 = .ok (.bipush 37, 2) := by decide +kernel
theorem dX12_drop_25 : decode cX12_drop 25 = .ok (.iaload, 1) := by decide +kernel
theorem dX12_drop_26 : decode cX12_drop 26 = .ok (.istore_n 2, 1) := by decide +kernel
theorem dX12_drop_27 : decode cX12_drop 27 = .ok (.aload_n 0, 1) := by decide +kernel
theorem dX12_drop_28 : decode cX12_drop 28 = .ok (.getfield 7, 3) := by decide +kernel
theorem dX12_drop_31 : decode cX12_drop 31 = .ok (.bipush 37, 2) := by decide +kernel
theorem dX12_drop_33 : decode cX12_drop 33 = .ok (.iload_n 1, 1) := by decide +kernel
theorem dX12_drop_34 : decode cX12_drop 34 = .ok (.iastore, 1) := by decide +kernel
theorem dX12_drop_35 : decode cX12_drop 35 = .ok (.iload_n 2, 1) := by decide +kernel
theorem dX12_drop_36 : decode cX12_drop 36 = .ok (.ireturn, 1) := by decide +kernel
theorem dX12_blownOf_0 : decode cX12_blownOf 0 = .ok (.iload_n 1, 1) := by decide +kernel
theorem dX12_blownOf_1 : decode cX12_blownOf 1 = .ok (.istore_n 3, 1) := by decide +kernel
theorem dX12_blownOf_2 : decode cX12_blownOf 2 = .ok (.iconst 0, 1) := by decide +kernel
theorem dX12_blownOf_3 : decode cX12_blownOf 3 = .ok (.istore 4, 2) := by decide +kernel
theorem dX12_blownOf_5 : decode cX12_blownOf 5 = .ok (.iload_n 2, 1) := by decide +kernel
theorem dX12_blownOf_6 : decode cX12_blownOf 6 = .ok (.iconst 1, 1) := by decide +kernel
theorem dX12_blownOf_7 : decode cX12_blownOf 7 = .ok (.isub, 1) := by decide +kernel
theorem dX12_blownOf_8 : decode cX12_blownOf 8 = .ok (.istore 5, 2) := by decide +kernel
theorem dX12_blownOf_10 : decode cX12_blownOf 10 = .ok (.iload 5, 2) := by decide +kernel
theorem dX12_blownOf_12 : decode cX12_blownOf 12 = .ok (.ifCond .lt 56, 3) := by decide +kernel
theorem dX12_blownOf_15 : decode cX12_blownOf 15 = .ok (.aload_n 0, 1) := by decide +kernel
theorem dX12_blownOf_16 : decode cX12_blownOf 16 = .ok (.getfield 56, 3) := by decide +kernel
theorem dX12_blownOf_19 : decode cX12_blownOf 19 = .ok (.iload 5, 2) := by decide +kernel
theorem dX12_blownOf_21 : decode cX12_blownOf 21 = .ok (.iload_n 3, 1) := by decide +kernel
theorem dX12_blownOf_22 : decode cX12_blownOf 22 = .ok (.iconst 5, 1) := by decide +kernel
theorem dX12_blownOf_23 : decode cX12_blownOf 23 = .ok (.irem, 1) := by decide +kernel
theorem dX12_blownOf_24 : decode cX12_blownOf 24 = .ok (.iastore, 1) := by decide +kernel
theorem dX12_blownOf_25 : decode cX12_blownOf 25 = .ok (.iload_n 3, 1) := by decide +kernel
theorem dX12_blownOf_26 : decode cX12_blownOf 26 = .ok (.iconst 5, 1) := by decide +kernel
theorem dX12_blownOf_27 : decode cX12_blownOf 27 = .ok (.idiv, 1) := by decide +kernel
theorem dX12_blownOf_28 : decode cX12_blownOf 28 = .ok (.istore_n 3, 1) := by decide +kernel
theorem dX12_blownOf_29 : decode cX12_blownOf 29 = .ok (.iload 4, 2) := by decide +kernel
theorem dX12_blownOf_31 : decode cX12_blownOf 31 = .ok (.aload_n 0, 1) := by decide +kernel
theorem dX12_blownOf_32 : decode cX12_blownOf 32 = .ok (.getfield 56, 3) := by decide +kernel
theorem dX12_blownOf_35 : decode cX12_blownOf 35 = .ok (.iload 5, 2) := by decide +kernel
theorem dX12_blownOf_37 : decode cX12_blownOf 37 = .ok (.iaload, 1) := by decide +kernel
theorem dX12_blownOf_38 : decode cX12_blownOf 38 = .ok (.aload_n 0, 1) := by decide +kernel
theorem dX12_blownOf_39 : decode cX12_blownOf 39 = .ok (.getfield 7, 3) := by decide +kernel
theorem dX12_blownOf_42 : decode cX12_blownOf 42 = .ok (.bipush 38, 2) := by decide +kernel
theorem dX12_blownOf_44 : decode cX12_blownOf 44 = .ok (.iload 5, 2) := by decide +kernel
theorem dX12_blownOf_46 : decode cX12_blownOf 46 = .ok (.iadd, 1) := by decide +kernel
theorem dX12_blownOf_47 : decode cX12_blownOf 47 = .ok (.iaload, 1) := by decide +kernel
theorem dX12_blownOf_48 : decode cX12_blownOf 48 = .ok (.if_icmp .eq 7, 3) := by decide +kernel
theorem dX12_blownOf_51 : decode cX12_blownOf 51 = .ok (.iconst 1, 1) := by decide +kernel
theorem dX12_blownOf_52 : decode cX12_blownOf 52 = .ok (.goto 4, 3) := by decide +kernel
theorem dX12_blownOf_55 : decode cX12_blownOf 55 = .ok (.iconst 0, 1) := by decide +kernel
theorem dX12_blownOf_56 : decode cX12_blownOf 56 = .ok (.invokestatic 189, 3) := by decide +kernel
theorem dX12_blownOf_59 : decode cX12_blownOf 59 = .ok (.iadd, 1) := by decide +kernel
theorem dX12_blownOf_60 : decode cX12_blownOf 60 = .ok (.istore 4, 2) := by decide +kernel
theorem dX12_blownOf_62 : decode cX12_blownOf 62 = .ok (.iinc 5 (-1), 3) := by decide +kernel
theorem dX12_blownOf_65 : decode cX12_blownOf 65 = .ok (.goto (-55), 3) := by decide +kernel
theorem dX12_blownOf_68 : decode cX12_blownOf 68 = .ok (.iload 4, 2) := by decide +kernel
theorem dX12_blownOf_70 : decode cX12_blownOf 70 = .ok (.ireturn, 1) := by decide +kernel
theorem dX12_blow_0 : decode cX12_blow 0 = .ok (.iload_n 1, 1) := by decide +kernel
theorem dX12_blow_1 : decode cX12_blow 1 = .ok (.ifCond .eq 19, 3) := by decide +kernel
theorem dX12_blow_4 : decode cX12_blow 4 = .ok (.iload_n 1, 1) := by decide +kernel
theorem dX12_blow_5 : decode cX12_blow 5 = .ok (.i2l, 1) := by decide +kernel
theorem dX12_blow_6 : decode cX12_blow 6 = .ok (.ldc2_w 335, 3) := by decide +kernel
theorem dX12_blow_9 : decode cX12_blow 9 = .ok (.ldc2_w 337, 3) := by decide +kernel
theorem dX12_blow_12 : decode cX12_blow 12 = .ok (.invokestatic 113, 3) := by decide +kernel
theorem dX12_blow_15 : decode cX12_blow 15 = .ok (.ifCond .ne 5, 3) := by decide +kernel
theorem dX12_blow_18 : decode cX12_blow 18 = .ok (.iconst (-1), 1) := by decide +kernel
theorem dX12_blow_19 : decode cX12_blow 19 = .ok (.ireturn, 1) := by decide +kernel
theorem dX12_blow_20 : decode cX12_blow 20 = .ok (.aload_n 0, 1) := by decide +kernel
theorem dX12_blow_21 : decode cX12_blow 21 = .ok (.invokevirtual 227, 3) := by decide +kernel
theorem dX12_blow_24 : decode cX12_blow 24 = .ok (.aload_n 0, 1) := by decide +kernel
theorem dX12_blow_25 : decode cX12_blow 25 = .ok (.invokevirtual 221, 3) := by decide +kernel
theorem dX12_blow_28 : decode cX12_blow 28 = .ok (.bipush (-4), 2) := by decide +kernel
theorem dX12_blow_30 : decode cX12_blow 30 = .ok (.if_icmp .eq 6, 3) := by decide +kernel
theorem dX12_blow_33 : decode cX12_blow 33 = .ok (.bipush (-2), 2) := by decide +kernel
theorem dX12_blow_35 : decode cX12_blow 35 = .ok (.ireturn, 1) := by decide +kernel
theorem dX12_blow_36 : decode cX12_blow 36 = .ok (.aload_n 0, 1) := by decide +kernel
theorem dX12_blow_37 : decode cX12_blow 37 = .ok (.getfield 7, 3) := by decide +kernel
theorem dX12_blow_40 : decode cX12_blow 40 = .ok (.bipush 37, 2) := by decide +kernel
theorem dX12_blow_42 : decode cX12_blow 42 = .ok (.iaload, 1) := by decide +kernel
theorem dX12_blow_43 : decode cX12_blow 43 = .ok (.istore_n 2, 1) := by decide +kernel
theorem dX12_blow_44 : decode cX12_blow 44 = .ok (.iload_n 2, 1) := by decide +kernel
theorem dX12_blow_45 : decode cX12_blow 45 = .ok (.ifCond .ne 7, 3) := by decide +kernel
theorem dX12_blow_48 : decode cX12_blow 48 = .ok (.iconst 0, 1) := by decide +kernel
theorem dX12_blow_49 : decode cX12_blow 49 = .ok (.goto 24, 3) := by decide +kernel
theorem dX12_blow_52 : decode cX12_blow 52 = .ok (.iload_n 2, 1) := by decide +kernel
theorem dX12_blow_53 : decode cX12_blow 53 = .ok (.iconst 1, 1) := by decide +kernel
theorem dX12_blow_54 : decode cX12_blow 54 = .ok (.if_icmp .ne 7, 3) := by decide +kernel
theorem dX12_blow_57 : decode cX12_blow 57 = .ok (.iconst 5, 1) := by decide +kernel
theorem dX12_blow_58 : decode cX12_blow 58 = .ok (.goto 15, 3) := by decide +kernel
theorem dX12_blow_61 : decode cX12_blow 61 = .ok (.iload_n 2, 1) := by decide +kernel
theorem dX12_blow_62 : decode cX12_blow 62 = .ok (.iconst 2, 1) := by decide +kernel
theorem dX12_blow_63 : decode cX12_blow 63 = .ok (.if_icmp .ne 8, 3) := by decide +kernel
theorem dX12_blow_66 : decode cX12_blow 66 = .ok (.bipush 25, 2) := by decide +kernel
theorem dX12_blow_68 : decode cX12_blow 68 = .ok (.goto 5, 3) := by decide +kernel
theorem dX12_blow_71 : decode cX12_blow 71 = .ok (.bipush 125, 2) := by decide +kernel
theorem dX12_blow_73 : decode cX12_blow 73 = .ok (.istore_n 3, 1) := by decide +kernel
theorem dX12_blow_74 : decode cX12_blow 74 = .ok (.ldc_w 342, 3) := by decide +kernel
theorem dX12_blow_77 : decode cX12_blow 77 = .ok (.istore 4, 2) := by decide +kernel
theorem dX12_blow_79 : decode cX12_blow 79 = .ok (.bipush (-4), 2) := by decide +kernel
theorem dX12_blow_81 : decode cX12_blow 81 = .ok (.istore 5, 2) := by decide +kernel
theorem dX12_blow_83 : decode cX12_blow 83 = .ok (.iconst 0, 1) := by decide +kernel
theorem dX12_blow_84 : decode cX12_blow 84 = .ok (.istore 6, 2) := by decide +kernel
theorem dX12_blow_86 : decode cX12_blow 86 = .ok (.iload 6, 2) := by decide +kernel
theorem dX12_blow_88 : decode cX12_blow 88 = .ok (.iload_n 3, 1) := by decide +kernel
theorem dX12_blow_89 : decode cX12_blow 89 = .ok (.if_icmp .ge 67, 3) := by decide +kernel
theorem dX12_blow_92 : decode cX12_blow 92 = .ok (.aload_n 0, 1) := by decide +kernel
theorem dX12_blow_93 : decode cX12_blow 93 = .ok (.iload 6, 2) := by decide +kernel
theorem dX12_blow_95 : decode cX12_blow 95 = .ok (.iload_n 2, 1) := by decide +kernel
theorem dX12_blow_96 : decode cX12_blow 96 = .ok (.invokevirtual 343, 3) := by decide +kernel
theorem dX12_blow_99 : decode cX12_blow 99 = .ok (.istore 7, 2) := by decide +kernel
theorem dX12_blow_101 : decode cX12_blow 101 = .ok (.iload 7, 2) := by decide +kernel
theorem dX12_blow_103 : decode cX12_blow 103 = .ok (.iload 4, 2) := by decide +kernel
theorem dX12_blow_105 : decode cX12_blow 105 = .ok (.if_icmp .ge 45, 3) := by decide +kernel
theorem dX12_blow_108 : decode cX12_blow 108 = .ok (.aload_n 0, 1) := by decide +kernel
theorem dX12_blow_109 : decode cX12_blow 109 = .ok (.invokevirtual 227, 3) := by decide +kernel
theorem dX12_blow_112 : decode cX12_blow 112 = .ok (.aload_n 0, 1) := by decide +kernel
theorem dX12_blow_113 : decode cX12_blow 113 = .ok (.iload_n 2, 1) := by decide +kernel
theorem dX12_blow_114 : decode cX12_blow 114 = .ok (.iconst 2, 1) := by decide +kernel
theorem dX12_blow_115 : decode cX12_blow 115 = .ok (.invokevirtual 339, 3) := by decide +kernel
theorem dX12_blow_118 : decode cX12_blow 118 = .ok (.aload_n 0, 1) := by decide +kernel
theorem dX12_blow_119 : decode cX12_blow 119 = .ok (.getfield 325, 3) := by decide +kernel
theorem dX12_blow_122 : decode cX12_blow 122 = .ok (.ifCond .eq 8, 3) := by decide +kernel
theorem dX12_blow_125 : decode cX12_blow 125 = .ok (.iload 6, 2) := by decide +kernel
theorem dX12_blow_127 : decode cX12_blow 127 = .ok (.goto 5, 3) := by decide +kernel
theorem dX12_blow_130 : decode cX12_blow 130 = .ok (.iload 5, 2) := by decide +kernel
theorem dX12_blow_132 : decode cX12_blow 132 = .ok (.istore 5, 2) := by decide +kernel
theorem dX12_blow_134 : decode cX12_blow 134 = .ok (.aload_n 0, 1) := by decide +kernel
theorem dX12_blow_135 : decode cX12_blow 135 = .ok (.getfield 325, 3) := by decide +kernel
theorem dX12_blow_138 : decode cX12_blow 138 = .ok (.ifCond .eq 8, 3) := by decide +kernel
theorem dX12_blow_141 : decode cX12_blow 141 = .ok (.iload 7, 2) := by decide +kernel
theorem dX12_blow_143 : decode cX12_blow 143 = .ok (.goto 5, 3) := by decide +kernel
theorem dX12_blow_146 : decode cX12_blow 146 = .ok (.iload 4, 2) := by decide +kernel
theorem dX12_blow_148 : decode cX12_blow 148 = .ok (.istore 4, 2) := by decide +kernel
theorem dX12_blow_150 : decode cX12_blow 150 = .ok (.iinc 6 1, 3) := by decide +kernel
theorem dX12_blow_153 : decode cX12_blow 153 = .ok (.goto (-67), 3) := by decide +kernel
theorem dX12_blow_156 : decode cX12_blow 156 = .ok (.iload 5, 2) := by decide +kernel
theorem dX12_blow_158 : decode cX12_blow 158 = .ok (.bipush (-4), 2) := by decide +kernel
theorem dX12_blow_160 : decode cX12_blow 160 = .ok (.if_icmp .eq 7, 3) := by decide +kernel
theorem dX12_blow_163 : decode cX12_blow 163 = .ok (.iload_n 1, 1) := by decide +kernel
theorem dX12_blow_164 : decode cX12_blow 164 = .ok (.ifCond .ne 18, 3) := by decide +kernel
theorem dX12_blow_167 : decode cX12_blow 167 = .ok (.iload 5, 2) := by decide +kernel
theorem dX12_blow_169 : decode cX12_blow 169 = .ok (.bipush (-4), 2) := by decide +kernel
theorem dX12_blow_171 : decode cX12_blow 171 = .ok (.if_icmp .ne 8, 3) := by decide +kernel
theorem dX12_blow_174 : decode cX12_blow 174 = .ok (.bipush (-4), 2) := by decide +kernel
theorem dX12_blow_176 : decode cX12_blow 176 = .ok (.goto 5, 3) := by decide +kernel
theorem dX12_blow_179 : decode cX12_blow 179 = .ok (.iload 4, 2) := by decide +kernel
theorem dX12_blow_181 : decode cX12_blow 181 = .ok (.ireturn, 1) := by decide +kernel
theorem dX12_blow_182 : decode cX12_blow 182 = .ok (.aload_n 0, 1) := by decide +kernel
theorem dX12_blow_183 : decode cX12_blow 183 = .ok (.iload 5, 2) := by decide +kernel
theorem dX12_blow_185 : decode cX12_blow 185 = .ok (.iload_n 2, 1) := by decide +kernel
theorem dX12_blow_186 : decode cX12_blow 186 = .ok (.invokevirtual 343, 3) := by decide +kernel
theorem dX12_blow_189 : decode cX12_blow 189 = .ok (.pop, 1) := by decide +kernel
theorem dX12_blow_190 : decode cX12_blow 190 = .ok (.iload_n 1, 1) := by decide +kernel
theorem dX12_blow_191 : decode cX12_blow 191 = .ok (.bipush 10, 2) := by decide +kernel
theorem dX12_blow_193 : decode cX12_blow 193 = .ok (.isub, 1) := by decide +kernel
theorem dX12_blow_194 : decode cX12_blow 194 = .ok (.iload_n 2, 1) := by decide +kernel
theorem dX12_blow_195 : decode cX12_blow 195 = .ok (.if_icmp .ge 15, 3) := by decide +kernel
theorem dX12_blow_198 : decode cX12_blow 198 = .ok (.aload_n 0, 1) := by decide +kernel
theorem dX12_blow_199 : decode cX12_blow 199 = .ok (.getfield 56, 3) := by decide +kernel
theorem dX12_blow_202 : decode cX12_blow 202 = .ok (.iload_n 1, 1) := by decide +kernel
theorem dX12_blow_203 : decode cX12_blow 203 = .ok (.bipush 10, 2) := by decide +kernel
theorem dX12_blow_205 : decode cX12_blow 205 = .ok (.isub, 1) := by decide +kernel
theorem dX12_blow_206 : decode cX12_blow 206 = .ok (.iaload, 1) := by decide +kernel
theorem dX12_blow_207 : decode cX12_blow 207 = .ok (.goto 5, 3) := by decide +kernel
theorem dX12_blow_210 : decode cX12_blow 210 = .ok (.bipush (-4), 2) := by decide +kernel
theorem dX12_blow_212 : decode cX12_blow 212 = .ok (.ireturn, 1) := by decide +kernel
theorem dX12_gale_0 : decode cX12_gale 0 = .ok (.iload_n 2, 1) := by decide +kernel
theorem dX12_gale_1 : decode cX12_gale 1 = .ok (.i2l, 1) := by decide +kernel
theorem dX12_gale_2 : decode cX12_gale 2 = .ok (.lconst 1, 1) := by decide +kernel
theorem dX12_gale_3 : decode cX12_gale 3 = .ok (.ldc2_w 346, 3) := by decide +kernel
theorem dX12_gale_6 : decode cX12_gale 6 = .ok (.invokestatic 113, 3) := by decide +kernel
theorem dX12_gale_9 : decode cX12_gale 9 = .ok (.ifCond .eq 13, 3) := by decide +kernel
theorem dX12_gale_12 : decode cX12_gale 12 = .ok (.iload_n 3, 1) := by decide +kernel
theorem dX12_gale_13 : decode cX12_gale 13 = .ok (.i2l, 1) := by decide +kernel
theorem dX12_gale_14 : decode cX12_gale 14 = .ok (.lconst 0, 1) := by decide +kernel
theorem dX12_gale_15 : decode cX12_gale 15 = .ok (.lconst 1, 1) := by decide +kernel
theorem dX12_gale_16 : decode cX12_gale 16 = .ok (.invokestatic 113, 3) := by decide +kernel
theorem dX12_gale_19 : decode cX12_gale 19 = .ok (.ifCond .ne 5, 3) := by decide +kernel
theorem dX12_gale_22 : decode cX12_gale 22 = .ok (.iconst (-1), 1) := by decide +kernel
theorem dX12_gale_23 : decode cX12_gale 23 = .ok (.ireturn, 1) := by decide +kernel
theorem dX12_gale_24 : decode cX12_gale 24 = .ok (.aload_n 0, 1) := by decide +kernel
theorem dX12_gale_25 : decode cX12_gale 25 = .ok (.invokevirtual 227, 3) := by decide +kernel
theorem dX12_gale_28 : decode cX12_gale 28 = .ok (.iload_n 1, 1) := by decide +kernel
theorem dX12_gale_29 : decode cX12_gale 29 = .ok (.istore 4, 2) := by decide +kernel
theorem dX12_gale_31 : decode cX12_gale 31 = .ok (.iconst 0, 1) := by decide +kernel
theorem dX12_gale_32 : decode cX12_gale 32 = .ok (.istore 5, 2) := by decide +kernel
theorem dX12_gale_34 : decode cX12_gale 34 = .ok (.iload 5, 2) := by decide +kernel
theorem dX12_gale_36 : decode cX12_gale 36 = .ok (.iload_n 2, 1) := by decide +kernel
theorem dX12_gale_37 : decode cX12_gale 37 = .ok (.if_icmp .ge 119, 3) := by decide +kernel
theorem dX12_gale_40 : decode cX12_gale 40 = .ok (.aload_n 0, 1) := by decide +kernel
theorem dX12_gale_41 : decode cX12_gale 41 = .ok (.invokevirtual 221, 3) := by decide +kernel
theorem dX12_gale_44 : decode cX12_gale 44 = .ok (.bipush (-4), 2) := by decide +kernel
theorem dX12_gale_46 : decode cX12_gale 46 = .ok (.if_icmp .ne 110, 3) := by decide +kernel
theorem dX12_gale_49 : decode cX12_gale 49 = .ok (.iload 4, 2) := by decide +kernel
theorem dX12_gale_51 : decode cX12_gale 51 = .ok (.ldc_w 348, 3) := by decide +kernel
theorem dX12_gale_54 : decode cX12_gale 54 = .ok (.imul, 1) := by decide +kernel
theorem dX12_gale_55 : decode cX12_gale 55 = .ok (.sipush 12345, 3) := by decide +kernel
theorem dX12_gale_58 : decode cX12_gale 58 = .ok (.iadd, 1) := by decide +kernel
theorem dX12_gale_59 : decode cX12_gale 59 = .ok (.istore 4, 2) := by decide +kernel
theorem dX12_gale_61 : decode cX12_gale 61 = .ok (.iload 4, 2) := by decide +kernel
theorem dX12_gale_63 : decode cX12_gale 63 = .ok (.bipush 16, 2) := by decide +kernel
theorem dX12_gale_65 : decode cX12_gale 65 = .ok (.ishr, 1) := by decide +kernel
theorem dX12_gale_66 : decode cX12_gale 66 = .ok (.sipush 32767, 3) := by decide +kernel
theorem dX12_gale_69 : decode cX12_gale 69 = .ok (.iand, 1) := by decide +kernel
theorem dX12_gale_70 : decode cX12_gale 70 = .ok (.aload_n 0, 1) := by decide +kernel
theorem dX12_gale_71 : decode cX12_gale 71 = .ok (.invokevirtual 244, 3) := by decide +kernel
theorem dX12_gale_74 : decode cX12_gale 74 = .ok (.irem, 1) := by decide +kernel
theorem dX12_gale_75 : decode cX12_gale 75 = .ok (.istore 6, 2) := by decide +kernel
theorem dX12_gale_77 : decode cX12_gale 77 = .ok (.iconst 0, 1) := by decide +kernel
theorem dX12_gale_78 : decode cX12_gale 78 = .ok (.istore 7, 2) := by decide +kernel
theorem dX12_gale_80 : decode cX12_gale 80 = .ok (.iload 6, 2) := by decide +kernel
theorem dX12_gale_82 : decode cX12_gale 82 = .ok (.aload_n 0, 1) := by decide +kernel
theorem dX12_gale_83 : decode cX12_gale 83 = .ok (.getfield 7, 3) := by decide +kernel
theorem dX12_gale_86 : decode cX12_gale 86 = .ok (.bipush 13, 2) := by decide +kernel
theorem dX12_gale_88 : decode cX12_gale 88 = .ok (.iload 7, 2) := by decide +kernel
theorem dX12_gale_90 : decode cX12_gale 90 = .ok (.iadd, 1) := by decide +kernel
theorem dX12_gale_91 : decode cX12_gale 91 = .ok (.iaload, 1) := by decide +kernel
theorem dX12_gale_92 : decode cX12_gale 92 = .ok (.if_icmp .lt 24, 3) := by decide +kernel
theorem dX12_gale_95 : decode cX12_gale 95 = .ok (.iload 6, 2) := by decide +kernel
theorem dX12_gale_97 : decode cX12_gale 97 = .ok (.aload_n 0, 1) := by decide +kernel
theorem dX12_gale_98 : decode cX12_gale 98 = .ok (.getfield 7, 3) := by decide +kernel
theorem dX12_gale_101 : decode cX12_gale 101 = .ok (.bipush 13, 2) := by decide +kernel
theorem dX12_gale_103 : decode cX12_gale 103 = .ok (.iload 7, 2) := by decide +kernel
theorem dX12_gale_105 : decode cX12_gale 105 = .ok (.iadd, 1) := by decide +kernel
theorem dX12_gale_106 : decode cX12_gale 106 = .ok (.iaload, 1) := by decide +kernel
theorem dX12_gale_107 : decode cX12_gale 107 = .ok (.isub, 1) := by decide +kernel
theorem dX12_gale_108 : decode cX12_gale 108 = .ok (.istore 6, 2) := by decide +kernel
theorem dX12_gale_110 : decode cX12_gale 110 = .ok (.iinc 7 1, 3) := by decide +kernel
theorem dX12_gale_113 : decode cX12_gale 113 = .ok (.goto (-33), 3) := by decide +kernel
theorem dX12_gale_116 : decode cX12_gale 116 = .ok (.aload_n 0, 1) := by decide +kernel
theorem dX12_gale_117 : decode cX12_gale 117 = .ok (.iload 7, 2) := by decide +kernel
theorem dX12_gale_119 : decode cX12_gale 119 = .ok (.iconst 0, 1) := by decide +kernel
theorem dX12_gale_120 : decode cX12_gale 120 = .ok (.invokevirtual 247, 3) := by decide +kernel
theorem dX12_gale_123 : decode cX12_gale 123 = .ok (.aload_n 0, 1) := by decide +kernel
theorem dX12_gale_124 : decode cX12_gale 124 = .ok (.iload 7, 2) := by decide +kernel
theorem dX12_gale_126 : decode cX12_gale 126 = .ok (.aload_n 0, 1) := by decide +kernel
theorem dX12_gale_127 : decode cX12_gale 127 = .ok (.getfield 44, 3) := by decide +kernel
theorem dX12_gale_130 : decode cX12_gale 130 = .ok (.iconst 0, 1) := by decide +kernel
theorem dX12_gale_131 : decode cX12_gale 131 = .ok (.iaload, 1) := by decide +kernel
theorem dX12_gale_132 : decode cX12_gale 132 = .ok (.ifCond .ne 8, 3) := by decide +kernel
theorem dX12_gale_135 : decode cX12_gale 135 = .ok (.bipush (-4), 2) := by decide +kernel
theorem dX12_gale_137 : decode cX12_gale 137 = .ok (.goto 9, 3) := by decide +kernel
theorem dX12_gale_140 : decode cX12_gale 140 = .ok (.aload_n 0, 1) := by decide +kernel
theorem dX12_gale_141 : decode cX12_gale 141 = .ok (.getfield 41, 3) := by decide +kernel
theorem dX12_gale_144 : decode cX12_gale 144 = .ok (.iconst 0, 1) := by decide +kernel
theorem dX12_gale_145 : decode cX12_gale 145 = .ok (.iaload, 1) := by decide +kernel
theorem dX12_gale_146 : decode cX12_gale 146 = .ok (.invokevirtual 251, 3) := by decide +kernel
theorem dX12_gale_149 : decode cX12_gale 149 = .ok (.pop, 1) := by decide +kernel
theorem dX12_gale_150 : decode cX12_gale 150 = .ok (.iinc 5 1, 3) := by decide +kernel
theorem dX12_gale_153 : decode cX12_gale 153 = .ok (.goto (-119), 3) := by decide +kernel
theorem dX12_gale_156 : decode cX12_gale 156 = .ok (.iload_n 3, 1) := by decide +kernel
theorem dX12_gale_157 : decode cX12_gale 157 = .ok (.ifCond .ne 8, 3) := by decide +kernel
theorem dX12_gale_160 : decode cX12_gale 160 = .ok (.iload 5, 2) := by decide +kernel
theorem dX12_gale_162 : decode cX12_gale 162 = .ok (.goto 7, 3) := by decide +kernel
theorem dX12_gale_165 : decode cX12_gale 165 = .ok (.aload_n 0, 1) := by decide +kernel
theorem dX12_gale_166 : decode cX12_gale 166 = .ok (.invokevirtual 221, 3) := by decide +kernel
theorem dX12_gale_169 : decode cX12_gale 169 = .ok (.ireturn, 1) := by decide +kernel
theorem dX12_copies_0 : decode cX12_copies 0 = .ok (.iconst 0, 1) := by decide +kernel
theorem dX12_copies_1 : decode cX12_copies 1 = .ok (.istore_n 3, 1) := by decide +kernel
theorem dX12_copies_2 : decode cX12_copies 2 = .ok (.iload_n 3, 1) := by decide +kernel
theorem dX12_copies_3 : decode cX12_copies 3 = .ok (.bipush 41, 2) := by decide +kernel
theorem dX12_copies_5 : decode cX12_copies 5 = .ok (.if_icmp .ge 25, 3) := by decide +kernel
theorem dX12_copies_8 : decode cX12_copies 8 = .ok (.aload_n 0, 1) := by decide +kernel
theorem dX12_copies_9 : decode cX12_copies 9 = .ok (.getfield 7, 3) := by decide +kernel
theorem dX12_copies_12 : decode cX12_copies 12 = .ok (.iload_n 1, 1) := by decide +kernel
theorem dX12_copies_13 : decode cX12_copies 13 = .ok (.iload_n 3, 1) := by decide +kernel
theorem dX12_copies_14 : decode cX12_copies 14 = .ok (.iadd, 1) := by decide +kernel
theorem dX12_copies_15 : decode cX12_copies 15 = .ok (.aload_n 0, 1) := by decide +kernel
theorem dX12_copies_16 : decode cX12_copies 16 = .ok (.getfield 7, 3) := by decide +kernel
theorem dX12_copies_19 : decode cX12_copies 19 = .ok (.iload_n 2, 1) := by decide +kernel
theorem dX12_copies_20 : decode cX12_copies 20 = .ok (.iload_n 3, 1) := by decide +kernel
theorem dX12_copies_21 : decode cX12_copies 21 = .ok (.iadd, 1) := by decide +kernel
theorem dX12_copies_22 : decode cX12_copies 22 = .ok (.iaload, 1) := by decide +kernel
theorem dX12_copies_23 : decode cX12_copies 23 = .ok (.iastore, 1) := by decide +kernel
theorem dX12_copies_24 : decode cX12_copies 24 = .ok (.iinc 3 1, 3) := by decide +kernel
theorem dX12_copies_27 : decode cX12_copies 27 = .ok (.goto (-25), 3) := by decide +kernel
theorem dX12_copies_30 : decode cX12_copies 30 = .ok (.return_, 1) := by decide +kernel
theorem dX12_keep_0 : decode cX12_keep 0 = .ok (.iload_n 1, 1) := by decide +kernel
theorem dX12_keep_1 : decode cX12_keep 1 = .ok (.i2l, 1) := by decide +kernel
theorem dX12_keep_2 : decode cX12_keep 2 = .ok (.lconst 0, 1) := by decide +kernel
theorem dX12_keep_3 : decode cX12_keep 3 = .ok (.lconst 1, 1) := by decide +kernel
theorem dX12_keep_4 : decode cX12_keep 4 = .ok (.invokestatic 113, 3) := by decide +kernel
theorem dX12_keep_7 : decode cX12_keep 7 = .ok (.ifCond .ne 5, 3) := by decide +kernel
theorem dX12_keep_10 : decode cX12_keep 10 = .ok (.iconst (-1), 1) := by decide +kernel
theorem dX12_keep_11 : decode cX12_keep 11 = .ok (.ireturn, 1) := by decide +kernel
theorem dX12_keep_12 : decode cX12_keep 12 = .ok (.aload_n 0, 1) := by decide +kernel
theorem dX12_keep_13 : decode cX12_keep 13 = .ok (.getfield 13, 3) := by decide +kernel
theorem dX12_keep_16 : decode cX12_keep 16 = .ok (.iload_n 1, 1) := by decide +kernel
theorem dX12_keep_17 : decode cX12_keep 17 = .ok (.baload, 1) := by decide +kernel
theorem dX12_keep_18 : decode cX12_keep 18 = .ok (.invokestatic 189, 3) := by decide +kernel
theorem dX12_keep_21 : decode cX12_keep 21 = .ok (.istore_n 2, 1) := by decide +kernel
theorem dX12_keep_22 : decode cX12_keep 22 = .ok (.aload_n 0, 1) := by decide +kernel
theorem dX12_keep_23 : decode cX12_keep 23 = .ok (.getfield 13, 3) := by decide +kernel
theorem dX12_keep_26 : decode cX12_keep 26 = .ok (.iload_n 1, 1) := by decide +kernel
theorem dX12_keep_27 : decode cX12_keep 27 = .ok (.iconst 1, 1) := by decide +kernel
theorem dX12_keep_28 : decode cX12_keep 28 = .ok (.bastore, 1) := by decide +kernel
theorem dX12_keep_29 : decode cX12_keep 29 = .ok (.aload_n 0, 1) := by decide +kernel
theorem dX12_keep_30 : decode cX12_keep 30 = .ok (.bipush 41, 2) := by decide +kernel
theorem dX12_keep_32 : decode cX12_keep 32 = .ok (.iload_n 1, 1) := by decide +kernel
theorem dX12_keep_33 : decode cX12_keep 33 = .ok (.iconst 1, 1) := by decide +kernel
theorem dX12_keep_34 : decode cX12_keep 34 = .ok (.iadd, 1) := by decide +kernel
theorem dX12_keep_35 : decode cX12_keep 35 = .ok (.imul, 1) := by decide +kernel
theorem dX12_keep_36 : decode cX12_keep 36 = .ok (.iconst 0, 1) := by decide +kernel
theorem dX12_keep_37 : decode cX12_keep 37 = .ok (.invokevirtual 349, 3) := by decide +kernel
theorem dX12_keep_40 : decode cX12_keep 40 = .ok (.iload_n 2, 1) := by decide +kernel
theorem dX12_keep_41 : decode cX12_keep 41 = .ok (.ireturn, 1) := by decide +kernel
theorem dX12_back_0 : decode cX12_back 0 = .ok (.iload_n 1, 1) := by decide +kernel
theorem dX12_back_1 : decode cX12_back 1 = .ok (.i2l, 1) := by decide +kernel
theorem dX12_back_2 : decode cX12_back 2 = .ok (.lconst 0, 1) := by decide +kernel
theorem dX12_back_3 : decode cX12_back 3 = .ok (.lconst 1, 1) := by decide +kernel
theorem dX12_back_4 : decode cX12_back 4 = .ok (.invokestatic 113, 3) := by decide +kernel
theorem dX12_back_7 : decode cX12_back 7 = .ok (.ifCond .ne 5, 3) := by decide +kernel
theorem dX12_back_10 : decode cX12_back 10 = .ok (.iconst (-1), 1) := by decide +kernel
theorem dX12_back_11 : decode cX12_back 11 = .ok (.ireturn, 1) := by decide +kernel
theorem dX12_back_12 : decode cX12_back 12 = .ok (.aload_n 0, 1) := by decide +kernel
theorem dX12_back_13 : decode cX12_back 13 = .ok (.getfield 13, 3) := by decide +kernel
theorem dX12_back_16 : decode cX12_back 16 = .ok (.iload_n 1, 1) := by decide +kernel
theorem dX12_back_17 : decode cX12_back 17 = .ok (.baload, 1) := by decide +kernel
theorem dX12_back_18 : decode cX12_back 18 = .ok (.ifCond .ne 6, 3) := by decide +kernel
theorem dX12_back_21 : decode cX12_back 21 = .ok (.bipush (-2), 2) := by decide +kernel
theorem dX12_back_23 : decode cX12_back 23 = .ok (.ireturn, 1) := by decide +kernel
theorem dX12_back_24 : decode cX12_back 24 = .ok (.aload_n 0, 1) := by decide +kernel
theorem dX12_back_25 : decode cX12_back 25 = .ok (.iconst 0, 1) := by decide +kernel
theorem dX12_back_26 : decode cX12_back 26 = .ok (.bipush 41, 2) := by decide +kernel
theorem dX12_back_28 : decode cX12_back 28 = .ok (.iload_n 1, 1) := by decide +kernel
theorem dX12_back_29 : decode cX12_back 29 = .ok (.iconst 1, 1) := by decide +kernel
theorem dX12_back_30 : decode cX12_back 30 = .ok (.iadd, 1) := by decide +kernel
theorem dX12_back_31 : decode cX12_back 31 = .ok (.imul, 1) := by decide +kernel
theorem dX12_back_32 : decode cX12_back 32 = .ok (.invokevirtual 349, 3) := by decide +kernel
theorem dX12_back_35 : decode cX12_back 35 = .ok (.aload_n 0, 1) := by decide +kernel
theorem dX12_back_36 : decode cX12_back 36 = .ok (.getfield 7, 3) := by decide +kernel
theorem dX12_back_39 : decode cX12_back 39 = .ok (.bipush 19, 2) := by decide +kernel
theorem dX12_back_41 : decode cX12_back 41 = .ok (.iaload, 1) := by decide +kernel
theorem dX12_back_42 : decode cX12_back 42 = .ok (.ireturn, 1) := by decide +kernel
theorem dX12_isSheet_0 : decode cX12_isSheet 0 = .ok (.iload_n 0, 1) := by decide +kernel
theorem dX12_isSheet_1 : decode cX12_isSheet 1 = .ok (.i2l, 1) := by decide +kernel
theorem dX12_isSheet_2 : decode cX12_isSheet 2 = .ok (.lconst 0, 1) := by decide +kernel
theorem dX12_isSheet_3 : decode cX12_isSheet 3 = .ok (.ldc2_w 291, 3) := by decide +kernel
theorem dX12_isSheet_6 : decode cX12_isSheet 6 = .ok (.invokestatic 113, 3) := by decide +kernel
theorem dX12_isSheet_9 : decode cX12_isSheet 9 = .ok (.ifCond .eq 19, 3) := by decide +kernel
theorem dX12_isSheet_12 : decode cX12_isSheet 12 = .ok (.iload_n 1, 1) := by decide +kernel
theorem dX12_isSheet_13 : decode cX12_isSheet 13 = .ok (.i2l, 1) := by decide +kernel
theorem dX12_isSheet_14 : decode cX12_isSheet 14 = .ok (.lconst 0, 1) := by decide +kernel
theorem dX12_isSheet_15 : decode cX12_isSheet 15 = .ok (.ldc2_w 352, 3) := by decide +kernel
theorem dX12_isSheet_18 : decode cX12_isSheet 18 = .ok (.invokestatic 113, 3) := by decide +kernel
theorem dX12_isSheet_21 : decode cX12_isSheet 21 = .ok (.ifCond .eq 7, 3) := by decide +kernel
theorem dX12_isSheet_24 : decode cX12_isSheet 24 = .ok (.iconst 1, 1) := by decide +kernel
theorem dX12_isSheet_25 : decode cX12_isSheet 25 = .ok (.goto 4, 3) := by decide +kernel
theorem dX12_isSheet_28 : decode cX12_isSheet 28 = .ok (.iconst 0, 1) := by decide +kernel
theorem dX12_isSheet_29 : decode cX12_isSheet 29 = .ok (.ireturn, 1) := by decide +kernel
theorem dX12_sheet_0 : decode cX12_sheet 0 = .ok (.iload_n 1, 1) := by decide +kernel
theorem dX12_sheet_1 : decode cX12_sheet 1 = .ok (.iload_n 2, 1) := by decide +kernel
theorem dX12_sheet_2 : decode cX12_sheet 2 = .ok (.invokestatic 354, 3) := by decide +kernel
theorem dX12_sheet_5 : decode cX12_sheet 5 = .ok (.ifCond .eq 9, 3) := by decide +kernel
theorem dX12_sheet_8 : decode cX12_sheet 8 = .ok (.iload_n 3, 1) := by decide +kernel
theorem dX12_sheet_9 : decode cX12_sheet 9 = .ok (.bipush 40, 2) := by decide +kernel
theorem dX12_sheet_11 : decode cX12_sheet 11 = .ok (.if_icmp .le 5, 3) := by decide +kernel
theorem dX12_sheet_14 : decode cX12_sheet 14 = .ok (.iconst (-1), 1) := by decide +kernel
theorem dX12_sheet_15 : decode cX12_sheet 15 = .ok (.ireturn, 1) := by decide +kernel
theorem dX12_sheet_16 : decode cX12_sheet 16 = .ok (.iload_n 3, 1) := by decide +kernel
theorem dX12_sheet_17 : decode cX12_sheet 17 = .ok (.ifCond .ge 6, 3) := by decide +kernel
theorem dX12_sheet_20 : decode cX12_sheet 20 = .ok (.bipush (-14), 2) := by decide +kernel
theorem dX12_sheet_22 : decode cX12_sheet 22 = .ok (.ireturn, 1) := by decide +kernel
theorem dX12_sheet_23 : decode cX12_sheet 23 = .ok (.aload_n 0, 1) := by decide +kernel
theorem dX12_sheet_24 : decode cX12_sheet 24 = .ok (.getfield 62, 3) := by decide +kernel
theorem dX12_sheet_27 : decode cX12_sheet 27 = .ok (.iload_n 1, 1) := by decide +kernel
theorem dX12_sheet_28 : decode cX12_sheet 28 = .ok (.iload_n 2, 1) := by decide +kernel
theorem dX12_sheet_29 : decode cX12_sheet 29 = .ok (.iastore, 1) := by decide +kernel
theorem dX12_sheet_30 : decode cX12_sheet 30 = .ok (.aload_n 0, 1) := by decide +kernel
theorem dX12_sheet_31 : decode cX12_sheet 31 = .ok (.getfield 65, 3) := by decide +kernel
theorem dX12_sheet_34 : decode cX12_sheet 34 = .ok (.iload_n 1, 1) := by decide +kernel
theorem dX12_sheet_35 : decode cX12_sheet 35 = .ok (.iload_n 3, 1) := by decide +kernel
theorem dX12_sheet_36 : decode cX12_sheet 36 = .ok (.iastore, 1) := by decide +kernel
theorem dX12_sheet_37 : decode cX12_sheet 37 = .ok (.iconst 0, 1) := by decide +kernel
theorem dX12_sheet_38 : decode cX12_sheet 38 = .ok (.istore 4, 2) := by decide +kernel
theorem dX12_sheet_40 : decode cX12_sheet 40 = .ok (.iload 4, 2) := by decide +kernel
theorem dX12_sheet_42 : decode cX12_sheet 42 = .ok (.bipush 40, 2) := by decide +kernel
theorem dX12_sheet_44 : decode cX12_sheet 44 = .ok (.if_icmp .ge 22, 3) := by decide +kernel
theorem dX12_sheet_47 : decode cX12_sheet 47 = .ok (.aload_n 0, 1) := by decide +kernel
theorem dX12_sheet_48 : decode cX12_sheet 48 = .ok (.getfield 68, 3) := by decide +kernel
theorem dX12_sheet_51 : decode cX12_sheet 51 = .ok (.bipush 40, 2) := by decide +kernel
theorem dX12_sheet_53 : decode cX12_sheet 53 = .ok (.iload_n 1, 1) := by decide +kernel
theorem dX12_sheet_54 : decode cX12_sheet 54 = .ok (.imul, 1) := by decide +kernel
theorem dX12_sheet_55 : decode cX12_sheet 55 = .ok (.iload 4, 2) := by decide +kernel
theorem dX12_sheet_57 : decode cX12_sheet 57 = .ok (.iadd, 1) := by decide +kernel
theorem dX12_sheet_58 : decode cX12_sheet 58 = .ok (.iconst 0, 1) := by decide +kernel
theorem dX12_sheet_59 : decode cX12_sheet 59 = .ok (.iastore, 1) := by decide +kernel
theorem dX12_sheet_60 : decode cX12_sheet 60 = .ok (.iinc 4 1, 3) := by decide +kernel
theorem dX12_sheet_63 : decode cX12_sheet 63 = .ok (.goto (-23), 3) := by decide +kernel
theorem dX12_sheet_66 : decode cX12_sheet 66 = .ok (.iconst 1, 1) := by decide +kernel
theorem dX12_sheet_67 : decode cX12_sheet 67 = .ok (.ireturn, 1) := by decide +kernel
theorem dX12_lay_0 : decode cX12_lay 0 = .ok (.iload_n 1, 1) := by decide +kernel
theorem dX12_lay_1 : decode cX12_lay 1 = .ok (.iconst 0, 1) := by decide +kernel
theorem dX12_lay_2 : decode cX12_lay 2 = .ok (.invokestatic 354, 3) := by decide +kernel
theorem dX12_lay_5 : decode cX12_lay 5 = .ok (.ifCond .ne 5, 3) := by decide +kernel
theorem dX12_lay_8 : decode cX12_lay 8 = .ok (.iconst (-1), 1) := by decide +kernel
theorem dX12_lay_9 : decode cX12_lay 9 = .ok (.ireturn, 1) := by decide +kernel
theorem dX12_lay_10 : decode cX12_lay 10 = .ok (.aload_n 0, 1) := by decide +kernel
theorem dX12_lay_11 : decode cX12_lay 11 = .ok (.getfield 62, 3) := by decide +kernel
theorem dX12_lay_14 : decode cX12_lay 14 = .ok (.iload_n 1, 1) := by decide +kernel
theorem dX12_lay_15 : decode cX12_lay 15 = .ok (.iaload, 1) := by decide +kernel
theorem dX12_lay_16 : decode cX12_lay 16 = .ok (.bipush (-4), 2) := by decide +kernel
theorem dX12_lay_18 : decode cX12_lay 18 = .ok (.if_icmp .ne 6, 3) := by decide +kernel
theorem dX12_lay_21 : decode cX12_lay 21 = .ok (.bipush (-11), 2) := by decide +kernel
theorem dX12_lay_23 : decode cX12_lay 23 = .ok (.ireturn, 1) := by decide +kernel
theorem dX12_lay_24 : decode cX12_lay 24 = .ok (.iload_n 2, 1) := by decide +kernel
theorem dX12_lay_25 : decode cX12_lay 25 = .ok (.i2l, 1) := by decide +kernel
theorem dX12_lay_26 : decode cX12_lay 26 = .ok (.lconst 0, 1) := by decide +kernel
theorem dX12_lay_27 : decode cX12_lay 27 = .ok (.aload_n 0, 1) := by decide +kernel
theorem dX12_lay_28 : decode cX12_lay 28 = .ok (.getfield 65, 3) := by decide +kernel
theorem dX12_lay_31 : decode cX12_lay 31 = .ok (.iload_n 1, 1) := by decide +kernel
theorem dX12_lay_32 : decode cX12_lay 32 = .ok (.iaload, 1) := by decide +kernel
theorem dX12_lay_33 : decode cX12_lay 33 = .ok (.iconst 1, 1) := by decide +kernel
theorem dX12_lay_34 : decode cX12_lay 34 = .ok (.isub, 1) := by decide +kernel
theorem dX12_lay_35 : decode cX12_lay 35 = .ok (.i2l, 1) := by decide +kernel
theorem dX12_lay_36 : decode cX12_lay 36 = .ok (.invokestatic 113, 3) := by decide +kernel
theorem dX12_lay_39 : decode cX12_lay 39 = .ok (.ifCond .ne 6, 3) := by decide +kernel
theorem dX12_lay_42 : decode cX12_lay 42 = .ok (.bipush (-12), 2) := by decide +kernel
theorem dX12_lay_44 : decode cX12_lay 44 = .ok (.ireturn, 1) := by decide +kernel
theorem dX12_lay_45 : decode cX12_lay 45 = .ok (.aload_n 0, 1) := by decide +kernel
theorem dX12_lay_46 : decode cX12_lay 46 = .ok (.getfield 68, 3) := by decide +kernel
theorem dX12_lay_49 : decode cX12_lay 49 = .ok (.bipush 40, 2) := by decide +kernel
theorem dX12_lay_51 : decode cX12_lay 51 = .ok (.iload_n 1, 1) := by decide +kernel
theorem dX12_lay_52 : decode cX12_lay 52 = .ok (.imul, 1) := by decide +kernel
theorem dX12_lay_53 : decode cX12_lay 53 = .ok (.iload_n 2, 1) := by decide +kernel
theorem dX12_lay_54 : decode cX12_lay 54 = .ok (.iadd, 1) := by decide +kernel
theorem dX12_lay_55 : decode cX12_lay 55 = .ok (.aload_n 0, 1) := by decide +kernel
theorem dX12_lay_56 : decode cX12_lay 56 = .ok (.getfield 62, 3) := by decide +kernel
theorem dX12_lay_59 : decode cX12_lay 59 = .ok (.iload_n 1, 1) := by decide +kernel
theorem dX12_lay_60 : decode cX12_lay 60 = .ok (.iaload, 1) := by decide +kernel
theorem dX12_lay_61 : decode cX12_lay 61 = .ok (.ifCond .ne 8, 3) := by decide +kernel
theorem dX12_lay_64 : decode cX12_lay 64 = .ok (.iload_n 3, 1) := by decide +kernel
theorem dX12_lay_65 : decode cX12_lay 65 = .ok (.i2b, 1) := by decide +kernel
theorem dX12_lay_66 : decode cX12_lay 66 = .ok (.goto 19, 3) := by decide +kernel
theorem dX12_lay_69 : decode cX12_lay 69 = .ok (.aload_n 0, 1) := by decide +kernel
theorem dX12_lay_70 : decode cX12_lay 70 = .ok (.getfield 62, 3) := by decide +kernel
theorem dX12_lay_73 : decode cX12_lay 73 = .ok (.iload_n 1, 1) := by decide +kernel
theorem dX12_lay_74 : decode cX12_lay 74 = .ok (.iaload, 1) := by decide +kernel
theorem dX12_lay_75 : decode cX12_lay 75 = .ok (.iconst 1, 1) := by decide +kernel
theorem dX12_lay_76 : decode cX12_lay 76 = .ok (.if_icmp .ne 8, 3) := by decide +kernel
theorem dX12_lay_79 : decode cX12_lay 79 = .ok (.iload_n 3, 1) := by decide +kernel
theorem dX12_lay_80 : decode cX12_lay 80 = .ok (.i2s, 1) := by decide +kernel
theorem dX12_lay_81 : decode cX12_lay 81 = .ok (.goto 4, 3) := by decide +kernel
theorem dX12_lay_84 : decode cX12_lay 84 = .ok (.iload_n 3, 1) := by decide +kernel
theorem dX12_lay_85 : decode cX12_lay 85 = .ok (.iastore, 1) := by decide +kernel
theorem dX12_lay_86 : decode cX12_lay 86 = .ok (.iconst 1, 1) := by decide +kernel
theorem dX12_lay_87 : decode cX12_lay 87 = .ok (.ireturn, 1) := by decide +kernel
theorem dX12_read_0 : decode cX12_read 0 = .ok (.iload_n 1, 1) := by decide +kernel
theorem dX12_read_1 : decode cX12_read 1 = .ok (.iload_n 2, 1) := by decide +kernel
theorem dX12_read_2 : decode cX12_read 2 = .ok (.invokestatic 354, 3) := by decide +kernel
theorem dX12_read_5 : decode cX12_read 5 = .ok (.ifCond .eq 16, 3) := by decide +kernel
theorem dX12_read_8 : decode cX12_read 8 = .ok (.iload 4, 2) := by decide +kernel
theorem dX12_read_10 : decode cX12_read 10 = .ok (.i2l, 1) := by decide +kernel
theorem dX12_read_11 : decode cX12_read 11 = .ok (.lconst 0, 1) := by decide +kernel
theorem dX12_read_12 : decode cX12_read 12 = .ok (.ldc2_w 358, 3) := by decide +kernel
theorem dX12_read_15 : decode cX12_read 15 = .ok (.invokestatic 113, 3) := by decide +kernel
theorem dX12_read_18 : decode cX12_read 18 = .ok (.ifCond .ne 5, 3) := by decide +kernel
theorem dX12_read_21 : decode cX12_read 21 = .ok (.iconst (-1), 1) := by decide +kernel
theorem dX12_read_22 : decode cX12_read 22 = .ok (.ireturn, 1) := by decide +kernel
theorem dX12_read_23 : decode cX12_read 23 = .ok (.iconst 0, 1) := by decide +kernel
theorem dX12_read_24 : decode cX12_read 24 = .ok (.istore 5, 2) := by decide +kernel
theorem dX12_read_26 : decode cX12_read 26 = .ok (.iload 5, 2) := by decide +kernel
theorem dX12_read_28 : decode cX12_read 28 = .ok (.bipush 20, 2) := by decide +kernel
theorem dX12_read_30 : decode cX12_read 30 = .ok (.if_icmp .ge 23, 3) := by decide +kernel
theorem dX12_read_33 : decode cX12_read 33 = .ok (.aload_n 0, 1) := by decide +kernel
theorem dX12_read_34 : decode cX12_read 34 = .ok (.getfield 71, 3) := by decide +kernel
theorem dX12_read_37 : decode cX12_read 37 = .ok (.iload 5, 2) := by decide +kernel
theorem dX12_read_39 : decode cX12_read 39 = .ok (.aload_n 0, 1) := by decide +kernel
theorem dX12_read_40 : decode cX12_read 40 = .ok (.getfield 7, 3) := by decide +kernel
theorem dX12_read_43 : decode cX12_read 43 = .ok (.iload 5, 2) := by decide +kernel
theorem dX12_read_45 : decode cX12_read 45 = .ok (.iaload, 1) := by decide +kernel
theorem dX12_read_46 : decode cX12_read 46 = .ok (.iastore, 1) := by decide +kernel
theorem dX12_read_47 : decode cX12_read 47 = .ok (.iinc 5 1, 3) := by decide +kernel
theorem dX12_read_50 : decode cX12_read 50 = .ok (.goto (-24), 3) := by decide +kernel
theorem dX12_read_53 : decode cX12_read 53 = .ok (.iconst 0, 1) := by decide +kernel
theorem dX12_read_54 : decode cX12_read 54 = .ok (.istore 5, 2) := by decide +kernel
theorem dX12_read_56 : decode cX12_read 56 = .ok (.iconst 0, 1) := by decide +kernel
theorem dX12_read_57 : decode cX12_read 57 = .ok (.istore 6, 2) := by decide +kernel
theorem dX12_read_59 : decode cX12_read 59 = .ok (.iconst 0, 1) := by decide +kernel
theorem dX12_read_60 : decode cX12_read 60 = .ok (.istore 7, 2) := by decide +kernel
theorem dX12_read_62 : decode cX12_read 62 = .ok (.iload 7, 2) := by decide +kernel
theorem dX12_read_64 : decode cX12_read 64 = .ok (.iload 4, 2) := by decide +kernel
theorem dX12_read_66 : decode cX12_read 66 = .ok (.if_icmp .ge 203, 3) := by decide +kernel
theorem dX12_read_69 : decode cX12_read 69 = .ok (.iload 5, 2) := by decide +kernel
theorem dX12_read_71 : decode cX12_read 71 = .ok (.ifCond .ne 198, 3) := by decide +kernel
theorem dX12_read_74 : decode cX12_read 74 = .ok (.iconst 0, 1) := by decide +kernel
theorem dX12_read_75 : decode cX12_read 75 = .ok (.istore 8, 2) := by decide +kernel
theorem dX12_read_77 : decode cX12_read 77 = .ok (.iload 8, 2) := by decide +kernel
theorem dX12_read_79 : decode cX12_read 79 = .ok (.iconst 2, 1) := by decide +kernel
theorem dX12_read_80 : decode cX12_read 80 = .ok (.if_icmp .ge 84, 3) := by decide +kernel
theorem dX12_read_83 : decode cX12_read 83 = .ok (.iload 5, 2) := by decide +kernel
theorem dX12_read_85 : decode cX12_read 85 = .ok (.ifCond .ne 79, 3) := by decide +kernel
theorem dX12_read_88 : decode cX12_read 88 = .ok (.iload_n 3, 1) := by decide +kernel
theorem dX12_read_89 : decode cX12_read 89 = .ok (.i2l, 1) := by decide +kernel
theorem dX12_read_90 : decode cX12_read 90 = .ok (.iconst 2, 1) := by decide +kernel
theorem dX12_read_91 : decode cX12_read 91 = .ok (.iload 7, 2) := by decide +kernel
theorem dX12_read_93 : decode cX12_read 93 = .ok (.imul, 1) := by decide +kernel
theorem dX12_read_94 : decode cX12_read 94 = .ok (.i2l, 1) := by decide +kernel
theorem dX12_read_95 : decode cX12_read 95 = .ok (.ladd, 1) := by decide +kernel
theorem dX12_read_96 : decode cX12_read 96 = .ok (.iload 8, 2) := by decide +kernel
theorem dX12_read_98 : decode cX12_read 98 = .ok (.i2l, 1) := by decide +kernel
theorem dX12_read_99 : decode cX12_read 99 = .ok (.ladd, 1) := by decide +kernel
theorem dX12_read_100 : decode cX12_read 100 = .ok (.lstore 9, 2) := by decide +kernel
theorem dX12_read_102 : decode cX12_read 102 = .ok (.aload_n 0, 1) := by decide +kernel
theorem dX12_read_103 : decode cX12_read 103 = .ok (.getfield 62, 3) := by decide +kernel
theorem dX12_read_106 : decode cX12_read 106 = .ok (.iload_n 1, 1) := by decide +kernel
theorem dX12_read_107 : decode cX12_read 107 = .ok (.iaload, 1) := by decide +kernel
theorem dX12_read_108 : decode cX12_read 108 = .ok (.bipush (-4), 2) := by decide +kernel
theorem dX12_read_110 : decode cX12_read 110 = .ok (.if_icmp .ne 7, 3) := by decide +kernel
theorem dX12_read_113 : decode cX12_read 113 = .ok (.iconst 1, 1) := by decide +kernel
theorem dX12_read_114 : decode cX12_read 114 = .ok (.goto 42, 3) := by decide +kernel
theorem dX12_read_117 : decode cX12_read 117 = .ok (.aload_n 0, 1) := by decide +kernel
theorem dX12_read_118 : decode cX12_read 118 = .ok (.getfield 62, 3) := by decide +kernel
theorem dX12_read_121 : decode cX12_read 121 = .ok (.iload_n 1, 1) := by decide +kernel
theorem dX12_read_122 : decode cX12_read 122 = .ok (.iaload, 1) := by decide +kernel
theorem dX12_read_123 : decode cX12_read 123 = .ok (.iload_n 2, 1) := by decide +kernel
theorem dX12_read_124 : decode cX12_read 124 = .ok (.if_icmp .eq 7, 3) := by decide +kernel
theorem dX12_read_127 : decode cX12_read 127 = .ok (.iconst 3, 1) := by decide +kernel
theorem dX12_read_128 : decode cX12_read 128 = .ok (.goto 28, 3) := by decide +kernel
theorem dX12_read_131 : decode cX12_read 131 = .ok (.lload 9, 2) := by decide +kernel
theorem dX12_read_133 : decode cX12_read 133 = .ok (.lconst 0, 1) := by decide +kernel
theorem dX12_read_134 : decode cX12_read 134 = .ok (.lcmp, 1) := by decide +kernel
theorem dX12_read_135 : decode cX12_read 135 = .ok (.ifCond .lt 16, 3) := by decide +kernel
theorem dX12_read_138 : decode cX12_read 138 = .ok (.lload 9, 2) := by decide +kernel
theorem dX12_read_140 : decode cX12_read 140 = .ok (.aload_n 0, 1) := by decide +kernel
theorem dX12_read_141 : decode cX12_read 141 = .ok (.getfield 65, 3) := by decide +kernel
theorem dX12_read_144 : decode cX12_read 144 = .ok (.iload_n 1, 1) := by decide +kernel
theorem dX12_read_145 : decode cX12_read 145 = .ok (.iaload, 1) := by decide +kernel
theorem dX12_read_146 : decode cX12_read 146 = .ok (.i2l, 1) := by decide +kernel
theorem dX12_read_147 : decode cX12_read 147 = .ok (.lcmp, 1) := by decide +kernel
theorem dX12_read_148 : decode cX12_read 148 = .ok (.ifCond .lt 7, 3) := by decide +kernel
theorem dX12_read_151 : decode cX12_read 151 = .ok (.iconst 2, 1) := by decide +kernel
theorem dX12_read_152 : decode cX12_read 152 = .ok (.goto 4, 3) := by decide +kernel
theorem dX12_read_155 : decode cX12_read 155 = .ok (.iconst 0, 1) := by decide +kernel
theorem dX12_read_156 : decode cX12_read 156 = .ok (.istore 5, 2) := by decide +kernel
theorem dX12_read_158 : decode cX12_read 158 = .ok (.iinc 8 1, 3) := by decide +kernel
theorem dX12_read_161 : decode cX12_read 161 = .ok (.goto (-84), 3) := by decide +kernel
theorem dX12_read_164 : decode cX12_read 164 = .ok (.iload 5, 2) := by decide +kernel
theorem dX12_read_166 : decode cX12_read 166 = .ok (.ifCond .ne 97, 3) := by decide +kernel
theorem dX12_read_169 : decode cX12_read 169 = .ok (.bipush 40, 2) := by decide +kernel
theorem dX12_read_171 : decode cX12_read 171 = .ok (.iload_n 1, 1) := by decide +kernel
theorem dX12_read_172 : decode cX12_read 172 = .ok (.imul, 1) := by decide +kernel
theorem dX12_read_173 : decode cX12_read 173 = .ok (.iload_n 3, 1) := by decide +kernel
theorem dX12_read_174 : decode cX12_read 174 = .ok (.iadd, 1) := by decide +kernel
theorem dX12_read_175 : decode cX12_read 175 = .ok (.iconst 2, 1) := by decide +kernel
theorem dX12_read_176 : decode cX12_read 176 = .ok (.iload 7, 2) := by decide +kernel
theorem dX12_read_178 : decode cX12_read 178 = .ok (.imul, 1) := by decide +kernel
theorem dX12_read_179 : decode cX12_read 179 = .ok (.iadd, 1) := by decide +kernel
theorem dX12_read_180 : decode cX12_read 180 = .ok (.istore 8, 2) := by decide +kernel
theorem dX12_read_182 : decode cX12_read 182 = .ok (.aload_n 0, 1) := by decide +kernel
theorem dX12_read_183 : decode cX12_read 183 = .ok (.getfield 7, 3) := by decide +kernel
theorem dX12_read_186 : decode cX12_read 186 = .ok (.bipush 19, 2) := by decide +kernel
theorem dX12_read_188 : decode cX12_read 188 = .ok (.iaload, 1) := by decide +kernel
theorem dX12_read_189 : decode cX12_read 189 = .ok (.istore 9, 2) := by decide +kernel
theorem dX12_read_191 : decode cX12_read 191 = .ok (.aload_n 0, 1) := by decide +kernel
theorem dX12_read_192 : decode cX12_read 192 = .ok (.aload_n 0, 1) := by decide +kernel
theorem dX12_read_193 : decode cX12_read 193 = .ok (.getfield 68, 3) := by decide +kernel
theorem dX12_read_196 : decode cX12_read 196 = .ok (.iload 8, 2) := by decide +kernel
theorem dX12_read_198 : decode cX12_read 198 = .ok (.iaload, 1) := by decide +kernel
theorem dX12_read_199 : decode cX12_read 199 = .ok (.aload_n 0, 1) := by decide +kernel
theorem dX12_read_200 : decode cX12_read 200 = .ok (.getfield 68, 3) := by decide +kernel
theorem dX12_read_203 : decode cX12_read 203 = .ok (.iload 8, 2) := by decide +kernel
theorem dX12_read_205 : decode cX12_read 205 = .ok (.iconst 1, 1) := by decide +kernel
theorem dX12_read_206 : decode cX12_read 206 = .ok (.iadd, 1) := by decide +kernel
theorem dX12_read_207 : decode cX12_read 207 = .ok (.iaload, 1) := by decide +kernel
theorem dX12_read_208 : decode cX12_read 208 = .ok (.invokevirtual 360, 3) := by decide +kernel
theorem dX12_read_211 : decode cX12_read 211 = .ok (.pop, 1) := by decide +kernel
theorem dX12_read_212 : decode cX12_read 212 = .ok (.aload_n 0, 1) := by decide +kernel
theorem dX12_read_213 : decode cX12_read 213 = .ok (.getfield 7, 3) := by decide +kernel
theorem dX12_read_216 : decode cX12_read 216 = .ok (.bipush 19, 2) := by decide +kernel
theorem dX12_read_218 : decode cX12_read 218 = .ok (.iaload, 1) := by decide +kernel
theorem dX12_read_219 : decode cX12_read 219 = .ok (.iload 9, 2) := by decide +kernel
theorem dX12_read_221 : decode cX12_read 221 = .ok (.if_icmp .ne 39, 3) := by decide +kernel
theorem dX12_read_224 : decode cX12_read 224 = .ok (.iconst 0, 1) := by decide +kernel
theorem dX12_read_225 : decode cX12_read 225 = .ok (.istore 10, 2) := by decide +kernel
theorem dX12_read_227 : decode cX12_read 227 = .ok (.iload 10, 2) := by decide +kernel
theorem dX12_read_229 : decode cX12_read 229 = .ok (.bipush 20, 2) := by decide +kernel
theorem dX12_read_231 : decode cX12_read 231 = .ok (.if_icmp .ge 23, 3) := by decide +kernel
theorem dX12_read_234 : decode cX12_read 234 = .ok (.aload_n 0, 1) := by decide +kernel
theorem dX12_read_235 : decode cX12_read 235 = .ok (.getfield 7, 3) := by decide +kernel
theorem dX12_read_238 : decode cX12_read 238 = .ok (.iload 10, 2) := by decide +kernel
theorem dX12_read_240 : decode cX12_read 240 = .ok (.aload_n 0, 1) := by decide +kernel
theorem dX12_read_241 : decode cX12_read 241 = .ok (.getfield 71, 3) := by decide +kernel
theorem dX12_read_244 : decode cX12_read 244 = .ok (.iload 10, 2) := by decide +kernel
theorem dX12_read_246 : decode cX12_read 246 = .ok (.iaload, 1) := by decide +kernel
theorem dX12_read_247 : decode cX12_read 247 = .ok (.iastore, 1) := by decide +kernel
theorem dX12_read_248 : decode cX12_read 248 = .ok (.iinc 10 1, 3) := by decide +kernel
theorem dX12_read_251 : decode cX12_read 251 = .ok (.goto (-24), 3) := by decide +kernel
theorem dX12_read_254 : decode cX12_read 254 = .ok (.bipush (-20), 2) := by decide +kernel
theorem dX12_read_256 : decode cX12_read 256 = .ok (.iload 7, 2) := by decide +kernel
theorem dX12_read_258 : decode cX12_read 258 = .ok (.isub, 1) := by decide +kernel
theorem dX12_read_259 : decode cX12_read 259 = .ok (.ireturn, 1) := by decide +kernel
theorem dX12_read_260 : decode cX12_read 260 = .ok (.iinc 6 1, 3) := by decide +kernel
theorem dX12_read_263 : decode cX12_read 263 = .ok (.iinc 7 1, 3) := by decide +kernel
theorem dX12_read_266 : decode cX12_read 266 = .ok (.goto (-204), 3) := by decide +kernel
theorem dX12_read_269 : decode cX12_read 269 = .ok (.aload_n 0, 1) := by decide +kernel
theorem dX12_read_270 : decode cX12_read 270 = .ok (.iload 5, 2) := by decide +kernel
theorem dX12_read_272 : decode cX12_read 272 = .ok (.putfield 363, 3) := by decide +kernel
theorem dX12_read_275 : decode cX12_read 275 = .ok (.iload 6, 2) := by decide +kernel
theorem dX12_read_277 : decode cX12_read 277 = .ok (.ireturn, 1) := by decide +kernel
theorem dX12_torn_0 : decode cX12_torn 0 = .ok (.aload_n 0, 1) := by decide +kernel
theorem dX12_torn_1 : decode cX12_torn 1 = .ok (.getfield 363, 3) := by decide +kernel
theorem dX12_torn_4 : decode cX12_torn 4 = .ok (.ireturn, 1) := by decide +kernel
theorem dX12_count_0 : decode cX12_count 0 = .ok (.iconst 0, 1) := by decide +kernel
theorem dX12_count_1 : decode cX12_count 1 = .ok (.istore_n 2, 1) := by decide +kernel
theorem dX12_count_2 : decode cX12_count 2 = .ok (.iconst 0, 1) := by decide +kernel
theorem dX12_count_3 : decode cX12_count 3 = .ok (.istore_n 3, 1) := by decide +kernel
theorem dX12_count_4 : decode cX12_count 4 = .ok (.iconst 0, 1) := by decide +kernel
theorem dX12_count_5 : decode cX12_count 5 = .ok (.istore 4, 2) := by decide +kernel
theorem dX12_count_7 : decode cX12_count 7 = .ok (.iload 4, 2) := by decide +kernel
theorem dX12_count_9 : decode cX12_count 9 = .ok (.aload_n 0, 1) := by decide +kernel
theorem dX12_count_10 : decode cX12_count 10 = .ok (.getfield 105, 3) := by decide +kernel
theorem dX12_count_13 : decode cX12_count 13 = .ok (.if_icmp .ge 47, 3) := by decide +kernel
theorem dX12_count_16 : decode cX12_count 16 = .ok (.iload_n 2, 1) := by decide +kernel
theorem dX12_count_17 : decode cX12_count 17 = .ok (.aload_n 0, 1) := by decide +kernel
theorem dX12_count_18 : decode cX12_count 18 = .ok (.getfield 7, 3) := by decide +kernel
theorem dX12_count_21 : decode cX12_count 21 = .ok (.iconst 0, 1) := by decide +kernel
theorem dX12_count_22 : decode cX12_count 22 = .ok (.iload 4, 2) := by decide +kernel
theorem dX12_count_24 : decode cX12_count 24 = .ok (.iadd, 1) := by decide +kernel
theorem dX12_count_25 : decode cX12_count 25 = .ok (.iaload, 1) := by decide +kernel
theorem dX12_count_26 : decode cX12_count 26 = .ok (.bipush (-4), 2) := by decide +kernel
theorem dX12_count_28 : decode cX12_count 28 = .ok (.if_icmp .eq 7, 3) := by decide +kernel
theorem dX12_count_31 : decode cX12_count 31 = .ok (.iconst 1, 1) := by decide +kernel
theorem dX12_count_32 : decode cX12_count 32 = .ok (.goto 4, 3) := by decide +kernel
theorem dX12_count_35 : decode cX12_count 35 = .ok (.iconst 0, 1) := by decide +kernel
theorem dX12_count_36 : decode cX12_count 36 = .ok (.invokestatic 189, 3) := by decide +kernel
theorem dX12_count_39 : decode cX12_count 39 = .ok (.iadd, 1) := by decide +kernel
theorem dX12_count_40 : decode cX12_count 40 = .ok (.istore_n 2, 1) := by decide +kernel
theorem dX12_count_41 : decode cX12_count 41 = .ok (.iload_n 3, 1) := by decide +kernel
theorem dX12_count_42 : decode cX12_count 42 = .ok (.aload_n 0, 1) := by decide +kernel
theorem dX12_count_43 : decode cX12_count 43 = .ok (.getfield 7, 3) := by decide +kernel
theorem dX12_count_46 : decode cX12_count 46 = .ok (.bipush 6, 2) := by decide +kernel
theorem dX12_count_48 : decode cX12_count 48 = .ok (.iload 4, 2) := by decide +kernel
theorem dX12_count_50 : decode cX12_count 50 = .ok (.iadd, 1) := by decide +kernel
theorem dX12_count_51 : decode cX12_count 51 = .ok (.iaload, 1) := by decide +kernel
theorem dX12_count_52 : decode cX12_count 52 = .ok (.iadd, 1) := by decide +kernel
theorem dX12_count_53 : decode cX12_count 53 = .ok (.istore_n 3, 1) := by decide +kernel
theorem dX12_count_54 : decode cX12_count 54 = .ok (.iinc 4 1, 3) := by decide +kernel
theorem dX12_count_57 : decode cX12_count 57 = .ok (.goto (-50), 3) := by decide +kernel
theorem dX12_count_60 : decode cX12_count 60 = .ok (.iload_n 1, 1) := by decide +kernel
theorem dX12_count_61 : decode cX12_count 61 = .ok (.tableswitch 111 0 6 #[43, 45, 53, 61, 81, 86, 109], 43) := by decide +kernel
theorem dX12_count_104 : decode cX12_count 104 = .ok (.iload_n 2, 1) := by decide +kernel
theorem dX12_count_105 : decode cX12_count 105 = .ok (.ireturn, 1) := by decide +kernel
theorem dX12_count_106 : decode cX12_count 106 = .ok (.aload_n 0, 1) := by decide +kernel
theorem dX12_count_107 : decode cX12_count 107 = .ok (.getfield 7, 3) := by decide +kernel
theorem dX12_count_110 : decode cX12_count 110 = .ok (.bipush 20, 2) := by decide +kernel
theorem dX12_count_112 : decode cX12_count 112 = .ok (.iaload, 1) := by decide +kernel
theorem dX12_count_113 : decode cX12_count 113 = .ok (.ireturn, 1) := by decide +kernel
theorem dX12_count_114 : decode cX12_count 114 = .ok (.aload_n 0, 1) := by decide +kernel
theorem dX12_count_115 : decode cX12_count 115 = .ok (.getfield 7, 3) := by decide +kernel
theorem dX12_count_118 : decode cX12_count 118 = .ok (.bipush 37, 2) := by decide +kernel
theorem dX12_count_120 : decode cX12_count 120 = .ok (.iaload, 1) := by decide +kernel
theorem dX12_count_121 : decode cX12_count 121 = .ok (.ireturn, 1) := by decide +kernel
theorem dX12_count_122 : decode cX12_count 122 = .ok (.aload_n 0, 1) := by decide +kernel
theorem dX12_count_123 : decode cX12_count 123 = .ok (.getfield 13, 3) := by decide +kernel
theorem dX12_count_126 : decode cX12_count 126 = .ok (.iconst 0, 1) := by decide +kernel
theorem dX12_count_127 : decode cX12_count 127 = .ok (.baload, 1) := by decide +kernel
theorem dX12_count_128 : decode cX12_count 128 = .ok (.invokestatic 189, 3) := by decide +kernel
theorem dX12_count_131 : decode cX12_count 131 = .ok (.aload_n 0, 1) := by decide +kernel
theorem dX12_count_132 : decode cX12_count 132 = .ok (.getfield 13, 3) := by decide +kernel
theorem dX12_count_135 : decode cX12_count 135 = .ok (.iconst 1, 1) := by decide +kernel
theorem dX12_count_136 : decode cX12_count 136 = .ok (.baload, 1) := by decide +kernel
theorem dX12_count_137 : decode cX12_count 137 = .ok (.invokestatic 189, 3) := by decide +kernel
theorem dX12_count_140 : decode cX12_count 140 = .ok (.iadd, 1) := by decide +kernel
theorem dX12_count_141 : decode cX12_count 141 = .ok (.ireturn, 1) := by decide +kernel
theorem dX12_count_142 : decode cX12_count 142 = .ok (.aload_n 0, 1) := by decide +kernel
theorem dX12_count_143 : decode cX12_count 143 = .ok (.getfield 108, 3) := by decide +kernel
theorem dX12_count_146 : decode cX12_count 146 = .ok (.ireturn, 1) := by decide +kernel
theorem dX12_count_147 : decode cX12_count 147 = .ok (.aload_n 0, 1) := by decide +kernel
theorem dX12_count_148 : decode cX12_count 148 = .ok (.getfield 62, 3) := by decide +kernel
theorem dX12_count_151 : decode cX12_count 151 = .ok (.iconst 0, 1) := by decide +kernel
theorem dX12_count_152 : decode cX12_count 152 = .ok (.iaload, 1) := by decide +kernel
theorem dX12_count_153 : decode cX12_count 153 = .ok (.bipush (-4), 2) := by decide +kernel
theorem dX12_count_155 : decode cX12_count 155 = .ok (.if_icmp .ne 8, 3) := by decide +kernel
theorem dX12_count_158 : decode cX12_count 158 = .ok (.bipush (-4), 2) := by decide +kernel
theorem dX12_count_160 : decode cX12_count 160 = .ok (.goto 9, 3) := by decide +kernel
theorem dX12_count_163 : decode cX12_count 163 = .ok (.aload_n 0, 1) := by decide +kernel
theorem dX12_count_164 : decode cX12_count 164 = .ok (.getfield 65, 3) := by decide +kernel
theorem dX12_count_167 : decode cX12_count 167 = .ok (.iconst 0, 1) := by decide +kernel
theorem dX12_count_168 : decode cX12_count 168 = .ok (.iaload, 1) := by decide +kernel
theorem dX12_count_169 : decode cX12_count 169 = .ok (.ireturn, 1) := by decide +kernel
theorem dX12_count_170 : decode cX12_count 170 = .ok (.iload_n 3, 1) := by decide +kernel
theorem dX12_count_171 : decode cX12_count 171 = .ok (.ireturn, 1) := by decide +kernel
theorem dX12_count_172 : decode cX12_count 172 = .ok (.iconst (-1), 1) := by decide +kernel
theorem dX12_count_173 : decode cX12_count 173 = .ok (.ireturn, 1) := by decide +kernel
theorem dL_law_0 : decode cL_law 0 = .ok (.new 7, 3) := by decide +kernel
theorem dL_law_3 : decode cL_law 3 = .ok (.dup, 1) := by decide +kernel
theorem dL_law_4 : decode cL_law 4 = .ok (.invokespecial 9, 3) := by decide +kernel
theorem dL_law_7 : decode cL_law 7 = .ok (.astore_n 1, 1) := by decide +kernel
theorem dL_law_8 : decode cL_law 8 = .ok (.new 10, 3) := by decide +kernel
theorem dL_law_11 : decode cL_law 11 = .ok (.dup, 1) := by decide +kernel
theorem dL_law_12 : decode cL_law 12 = .ok (.invokespecial 12, 3) := by decide +kernel
theorem dL_law_15 : decode cL_law 15 = .ok (.astore_n 2, 1) := by decide +kernel
theorem dL_law_16 : decode cL_law 16 = .ok (.iconst 0, 1) := by decide +kernel
theorem dL_law_17 : decode cL_law 17 = .ok (.istore_n 3, 1) := by decide +kernel
theorem dL_law_18 : decode cL_law 18 = .ok (.iload_n 3, 1) := by decide +kernel
theorem dL_law_19 : decode cL_law 19 = .ok (.aload_n 0, 1) := by decide +kernel
theorem dL_law_20 : decode cL_law 20 = .ok (.arraylength, 1) := by decide +kernel
theorem dL_law_21 : decode cL_law 21 = .ok (.iconst 5, 1) := by decide +kernel
theorem dL_law_22 : decode cL_law 22 = .ok (.isub, 1) := by decide +kernel
theorem dL_law_23 : decode cL_law 23 = .ok (.if_icmp .gt 1271, 3) := by decide +kernel
theorem dL_law_26 : decode cL_law 26 = .ok (.aload_n 0, 1) := by decide +kernel
theorem dL_law_27 : decode cL_law 27 = .ok (.iload_n 3, 1) := by decide +kernel
theorem dL_law_28 : decode cL_law 28 = .ok (.iaload, 1) := by decide +kernel
theorem dL_law_29 : decode cL_law 29 = .ok (.bipush 63, 2) := by decide +kernel
theorem dL_law_31 : decode cL_law 31 = .ok (.iand, 1) := by decide +kernel
theorem dL_law_32 : decode cL_law 32 = .ok (.tableswitch 1256 0 35 #[160, 213, 236, 249, 262, 285, 308, 341, 364, 397, 430, 479, 512, 535, 558, 591, 624, 668, 712, 745, 768, 811, 844, 867, 890, 923, 946, 969, 992, 1035, 1058, 1081, 1124, 1167, 1220, 1233], 160) := by decide +kernel
theorem dL_law_192 : decode cL_law 192 = .ok (.aload_n 1, 1) := by decide +kernel
theorem dL_law_193 : decode cL_law 193 = .ok (.aload_n 0, 1) := by decide +kernel
theorem dL_law_194 : decode cL_law 194 = .ok (.iload_n 3, 1) := by decide +kernel
theorem dL_law_195 : decode cL_law 195 = .ok (.iconst 1, 1) := by decide +kernel
theorem dL_law_196 : decode cL_law 196 = .ok (.iadd, 1) := by decide +kernel
theorem dL_law_197 : decode cL_law 197 = .ok (.iaload, 1) := by decide +kernel
theorem dL_law_198 : decode cL_law 198 = .ok (.i2l, 1) := by decide +kernel
theorem dL_law_199 : decode cL_law 199 = .ok (.bipush 32, 2) := by decide +kernel
theorem dL_law_201 : decode cL_law 201 = .ok (.lshl, 1) := by decide +kernel
theorem dL_law_202 : decode cL_law 202 = .ok (.aload_n 0, 1) := by decide +kernel
theorem dL_law_203 : decode cL_law 203 = .ok (.iload_n 3, 1) := by decide +kernel
theorem dL_law_204 : decode cL_law 204 = .ok (.iconst 2, 1) := by decide +kernel
theorem dL_law_205 : decode cL_law 205 = .ok (.iadd, 1) := by decide +kernel
theorem dL_law_206 : decode cL_law 206 = .ok (.iaload, 1) := by decide +kernel
theorem dL_law_207 : decode cL_law 207 = .ok (.i2l, 1) := by decide +kernel
theorem dL_law_208 : decode cL_law 208 = .ok (.ldc2_w 13, 3) := by decide +kernel
theorem dL_law_211 : decode cL_law 211 = .ok (.land, 1) := by decide +kernel
theorem dL_law_212 : decode cL_law 212 = .ok (.lor, 1) := by decide +kernel
theorem dL_law_213 : decode cL_law 213 = .ok (.invokevirtual 15, 3) := by decide +kernel
theorem dL_law_216 : decode cL_law 216 = .ok (.aload_n 2, 1) := by decide +kernel
theorem dL_law_217 : decode cL_law 217 = .ok (.aload_n 0, 1) := by decide +kernel
theorem dL_law_218 : decode cL_law 218 = .ok (.iload_n 3, 1) := by decide +kernel
theorem dL_law_219 : decode cL_law 219 = .ok (.iconst 1, 1) := by decide +kernel
theorem dL_law_220 : decode cL_law 220 = .ok (.iadd, 1) := by decide +kernel
theorem dL_law_221 : decode cL_law 221 = .ok (.iaload, 1) := by decide +kernel
theorem dL_law_222 : decode cL_law 222 = .ok (.i2l, 1) := by decide +kernel
theorem dL_law_223 : decode cL_law 223 = .ok (.bipush 32, 2) := by decide +kernel
theorem dL_law_225 : decode cL_law 225 = .ok (.lshl, 1) := by decide +kernel
theorem dL_law_226 : decode cL_law 226 = .ok (.aload_n 0, 1) := by decide +kernel
theorem dL_law_227 : decode cL_law 227 = .ok (.iload_n 3, 1) := by decide +kernel
theorem dL_law_228 : decode cL_law 228 = .ok (.iconst 2, 1) := by decide +kernel
theorem dL_law_229 : decode cL_law 229 = .ok (.iadd, 1) := by decide +kernel
theorem dL_law_230 : decode cL_law 230 = .ok (.iaload, 1) := by decide +kernel
theorem dL_law_231 : decode cL_law 231 = .ok (.i2l, 1) := by decide +kernel
theorem dL_law_232 : decode cL_law 232 = .ok (.ldc2_w 13, 3) := by decide +kernel
theorem dL_law_235 : decode cL_law 235 = .ok (.land, 1) := by decide +kernel
theorem dL_law_236 : decode cL_law 236 = .ok (.lor, 1) := by decide +kernel
theorem dL_law_237 : decode cL_law 237 = .ok (.invokevirtual 19, 3) := by decide +kernel
theorem dL_law_240 : decode cL_law 240 = .ok (.if_icmp .eq 1048, 3) := by decide +kernel
theorem dL_law_243 : decode cL_law 243 = .ok (.iconst 0, 1) := by decide +kernel
theorem dL_law_244 : decode cL_law 244 = .ok (.ireturn, 1) := by decide +kernel
theorem dL_law_245 : decode cL_law 245 = .ok (.aload_n 1, 1) := by decide +kernel
theorem dL_law_246 : decode cL_law 246 = .ok (.aload_n 0, 1) := by decide +kernel
theorem dL_law_247 : decode cL_law 247 = .ok (.iload_n 3, 1) := by decide +kernel
theorem dL_law_248 : decode cL_law 248 = .ok (.iconst 1, 1) := by decide +kernel
theorem dL_law_249 : decode cL_law 249 = .ok (.iadd, 1) := by decide +kernel
theorem dL_law_250 : decode cL_law 250 = .ok (.iaload, 1) := by decide +kernel
theorem dL_law_251 : decode cL_law 251 = .ok (.invokevirtual 20, 3) := by decide +kernel
theorem dL_law_254 : decode cL_law 254 = .ok (.aload_n 2, 1) := by decide +kernel
theorem dL_law_255 : decode cL_law 255 = .ok (.aload_n 0, 1) := by decide +kernel
theorem dL_law_256 : decode cL_law 256 = .ok (.iload_n 3, 1) := by decide +kernel
theorem dL_law_257 : decode cL_law 257 = .ok (.iconst 1, 1) := by decide +kernel
theorem dL_law_258 : decode cL_law 258 = .ok (.iadd, 1) := by decide +kernel
theorem dL_law_259 : decode cL_law 259 = .ok (.iaload, 1) := by decide +kernel
theorem dL_law_260 : decode cL_law 260 = .ok (.invokevirtual 24, 3) := by decide +kernel
theorem dL_law_263 : decode cL_law 263 = .ok (.if_icmp .eq 1025, 3) := by decide +kernel
theorem dL_law_266 : decode cL_law 266 = .ok (.iconst 0, 1) := by decide +kernel
theorem dL_law_267 : decode cL_law 267 = .ok (.ireturn, 1) := by decide +kernel
theorem dL_law_268 : decode cL_law 268 = .ok (.aload_n 1, 1) := by decide +kernel
theorem dL_law_269 : decode cL_law 269 = .ok (.invokevirtual 25, 3) := by decide +kernel
theorem dL_law_272 : decode cL_law 272 = .ok (.aload_n 2, 1) := by decide +kernel
theorem dL_law_273 : decode cL_law 273 = .ok (.invokevirtual 29, 3) := by decide +kernel
theorem dL_law_276 : decode cL_law 276 = .ok (.if_icmp .eq 1012, 3) := by decide +kernel
theorem dL_law_279 : decode cL_law 279 = .ok (.iconst 0, 1) := by decide +kernel
theorem dL_law_280 : decode cL_law 280 = .ok (.ireturn, 1) := by decide +kernel
theorem dL_law_281 : decode cL_law 281 = .ok (.aload_n 1, 1) := by decide +kernel
theorem dL_law_282 : decode cL_law 282 = .ok (.invokevirtual 30, 3) := by decide +kernel
theorem dL_law_285 : decode cL_law 285 = .ok (.aload_n 2, 1) := by decide +kernel
theorem dL_law_286 : decode cL_law 286 = .ok (.invokevirtual 33, 3) := by decide +kernel
theorem dL_law_289 : decode cL_law 289 = .ok (.if_icmp .eq 999, 3) := by decide +kernel
theorem dL_law_292 : decode cL_law 292 = .ok (.iconst 0, 1) := by decide +kernel
theorem dL_law_293 : decode cL_law 293 = .ok (.ireturn, 1) := by decide +kernel
theorem dL_law_294 : decode cL_law 294 = .ok (.aload_n 1, 1) := by decide +kernel
theorem dL_law_295 : decode cL_law 295 = .ok (.aload_n 0, 1) := by decide +kernel
theorem dL_law_296 : decode cL_law 296 = .ok (.iload_n 3, 1) := by decide +kernel
theorem dL_law_297 : decode cL_law 297 = .ok (.iconst 1, 1) := by decide +kernel
theorem dL_law_298 : decode cL_law 298 = .ok (.iadd, 1) := by decide +kernel
theorem dL_law_299 : decode cL_law 299 = .ok (.iaload, 1) := by decide +kernel
theorem dL_law_300 : decode cL_law 300 = .ok (.invokevirtual 34, 3) := by decide +kernel
theorem dL_law_303 : decode cL_law 303 = .ok (.aload_n 2, 1) := by decide +kernel
theorem dL_law_304 : decode cL_law 304 = .ok (.aload_n 0, 1) := by decide +kernel
theorem dL_law_305 : decode cL_law 305 = .ok (.iload_n 3, 1) := by decide +kernel
theorem dL_law_306 : decode cL_law 306 = .ok (.iconst 1, 1) := by decide +kernel
theorem dL_law_307 : decode cL_law 307 = .ok (.iadd, 1) := by decide +kernel
theorem dL_law_308 : decode cL_law 308 = .ok (.iaload, 1) := by decide +kernel
theorem dL_law_309 : decode cL_law 309 = .ok (.invokevirtual 37, 3) := by decide +kernel
theorem dL_law_312 : decode cL_law 312 = .ok (.if_icmp .eq 976, 3) := by decide +kernel
theorem dL_law_315 : decode cL_law 315 = .ok (.iconst 0, 1) := by decide +kernel
theorem dL_law_316 : decode cL_law 316 = .ok (.ireturn, 1) := by decide +kernel
theorem dL_law_317 : decode cL_law 317 = .ok (.aload_n 1, 1) := by decide +kernel
theorem dL_law_318 : decode cL_law 318 = .ok (.aload_n 0, 1) := by decide +kernel
theorem dL_law_319 : decode cL_law 319 = .ok (.iload_n 3, 1) := by decide +kernel
theorem dL_law_320 : decode cL_law 320 = .ok (.iconst 1, 1) := by decide +kernel
theorem dL_law_321 : decode cL_law 321 = .ok (.iadd, 1) := by decide +kernel
theorem dL_law_322 : decode cL_law 322 = .ok (.iaload, 1) := by decide +kernel
theorem dL_law_323 : decode cL_law 323 = .ok (.invokevirtual 38, 3) := by decide +kernel
theorem dL_law_326 : decode cL_law 326 = .ok (.aload_n 2, 1) := by decide +kernel
theorem dL_law_327 : decode cL_law 327 = .ok (.aload_n 0, 1) := by decide +kernel
theorem dL_law_328 : decode cL_law 328 = .ok (.iload_n 3, 1) := by decide +kernel
theorem dL_law_329 : decode cL_law 329 = .ok (.iconst 1, 1) := by decide +kernel
theorem dL_law_330 : decode cL_law 330 = .ok (.iadd, 1) := by decide +kernel
theorem dL_law_331 : decode cL_law 331 = .ok (.iaload, 1) := by decide +kernel
theorem dL_law_332 : decode cL_law 332 = .ok (.invokevirtual 41, 3) := by decide +kernel
theorem dL_law_335 : decode cL_law 335 = .ok (.if_icmp .eq 953, 3) := by decide +kernel
theorem dL_law_338 : decode cL_law 338 = .ok (.iconst 0, 1) := by decide +kernel
theorem dL_law_339 : decode cL_law 339 = .ok (.ireturn, 1) := by decide +kernel
theorem dL_law_340 : decode cL_law 340 = .ok (.aload_n 1, 1) := by decide +kernel
theorem dL_law_341 : decode cL_law 341 = .ok (.aload_n 0, 1) := by decide +kernel
theorem dL_law_342 : decode cL_law 342 = .ok (.iload_n 3, 1) := by decide +kernel
theorem dL_law_343 : decode cL_law 343 = .ok (.iconst 1, 1) := by decide +kernel
theorem dL_law_344 : decode cL_law 344 = .ok (.iadd, 1) := by decide +kernel
theorem dL_law_345 : decode cL_law 345 = .ok (.iaload, 1) := by decide +kernel
theorem dL_law_346 : decode cL_law 346 = .ok (.aload_n 0, 1) := by decide +kernel
theorem dL_law_347 : decode cL_law 347 = .ok (.iload_n 3, 1) := by decide +kernel
theorem dL_law_348 : decode cL_law 348 = .ok (.iconst 2, 1) := by decide +kernel
theorem dL_law_349 : decode cL_law 349 = .ok (.iadd, 1) := by decide +kernel
theorem dL_law_350 : decode cL_law 350 = .ok (.iaload, 1) := by decide +kernel
theorem dL_law_351 : decode cL_law 351 = .ok (.invokevirtual 42, 3) := by decide +kernel
theorem dL_law_354 : decode cL_law 354 = .ok (.aload_n 2, 1) := by decide +kernel
theorem dL_law_355 : decode cL_law 355 = .ok (.aload_n 0, 1) := by decide +kernel
theorem dL_law_356 : decode cL_law 356 = .ok (.iload_n 3, 1) := by decide +kernel
theorem dL_law_357 : decode cL_law 357 = .ok (.iconst 1, 1) := by decide +kernel
theorem dL_law_358 : decode cL_law 358 = .ok (.iadd, 1) := by decide +kernel
theorem dL_law_359 : decode cL_law 359 = .ok (.iaload, 1) := by decide +kernel
theorem dL_law_360 : decode cL_law 360 = .ok (.aload_n 0, 1) := by decide +kernel
theorem dL_law_361 : decode cL_law 361 = .ok (.iload_n 3, 1) := by decide +kernel
theorem dL_law_362 : decode cL_law 362 = .ok (.iconst 2, 1) := by decide +kernel
theorem dL_law_363 : decode cL_law 363 = .ok (.iadd, 1) := by decide +kernel
theorem dL_law_364 : decode cL_law 364 = .ok (.iaload, 1) := by decide +kernel
theorem dL_law_365 : decode cL_law 365 = .ok (.invokevirtual 46, 3) := by decide +kernel
theorem dL_law_368 : decode cL_law 368 = .ok (.if_icmp .eq 920, 3) := by decide +kernel
theorem dL_law_371 : decode cL_law 371 = .ok (.iconst 0, 1) := by decide +kernel
theorem dL_law_372 : decode cL_law 372 = .ok (.ireturn, 1) := by decide +kernel
theorem dL_law_373 : decode cL_law 373 = .ok (.aload_n 1, 1) := by decide +kernel
theorem dL_law_374 : decode cL_law 374 = .ok (.aload_n 0, 1) := by decide +kernel
theorem dL_law_375 : decode cL_law 375 = .ok (.iload_n 3, 1) := by decide +kernel
theorem dL_law_376 : decode cL_law 376 = .ok (.iconst 1, 1) := by decide +kernel
theorem dL_law_377 : decode cL_law 377 = .ok (.iadd, 1) := by decide +kernel
theorem dL_law_378 : decode cL_law 378 = .ok (.iaload, 1) := by decide +kernel
theorem dL_law_379 : decode cL_law 379 = .ok (.invokevirtual 47, 3) := by decide +kernel
theorem dL_law_382 : decode cL_law 382 = .ok (.aload_n 2, 1) := by decide +kernel
theorem dL_law_383 : decode cL_law 383 = .ok (.aload_n 0, 1) := by decide +kernel
theorem dL_law_384 : decode cL_law 384 = .ok (.iload_n 3, 1) := by decide +kernel
theorem dL_law_385 : decode cL_law 385 = .ok (.iconst 1, 1) := by decide +kernel
theorem dL_law_386 : decode cL_law 386 = .ok (.iadd, 1) := by decide +kernel
theorem dL_law_387 : decode cL_law 387 = .ok (.iaload, 1) := by decide +kernel
theorem dL_law_388 : decode cL_law 388 = .ok (.invokevirtual 50, 3) := by decide +kernel
theorem dL_law_391 : decode cL_law 391 = .ok (.if_icmp .eq 897, 3) := by decide +kernel
theorem dL_law_394 : decode cL_law 394 = .ok (.iconst 0, 1) := by decide +kernel
theorem dL_law_395 : decode cL_law 395 = .ok (.ireturn, 1) := by decide +kernel
theorem dL_law_396 : decode cL_law 396 = .ok (.aload_n 1, 1) := by decide +kernel
theorem dL_law_397 : decode cL_law 397 = .ok (.aload_n 0, 1) := by decide +kernel
theorem dL_law_398 : decode cL_law 398 = .ok (.iload_n 3, 1) := by decide +kernel
theorem dL_law_399 : decode cL_law 399 = .ok (.iconst 1, 1) := by decide +kernel
theorem dL_law_400 : decode cL_law 400 = .ok (.iadd, 1) := by decide +kernel
theorem dL_law_401 : decode cL_law 401 = .ok (.iaload, 1) := by decide +kernel
theorem dL_law_402 : decode cL_law 402 = .ok (.aload_n 0, 1) := by decide +kernel
theorem dL_law_403 : decode cL_law 403 = .ok (.iload_n 3, 1) := by decide +kernel
theorem dL_law_404 : decode cL_law 404 = .ok (.iconst 2, 1) := by decide +kernel
theorem dL_law_405 : decode cL_law 405 = .ok (.iadd, 1) := by decide +kernel
theorem dL_law_406 : decode cL_law 406 = .ok (.iaload, 1) := by decide +kernel
theorem dL_law_407 : decode cL_law 407 = .ok (.invokevirtual 51, 3) := by decide +kernel
theorem dL_law_410 : decode cL_law 410 = .ok (.aload_n 2, 1) := by decide +kernel
theorem dL_law_411 : decode cL_law 411 = .ok (.aload_n 0, 1) := by decide +kernel
theorem dL_law_412 : decode cL_law 412 = .ok (.iload_n 3, 1) := by decide +kernel
theorem dL_law_413 : decode cL_law 413 = .ok (.iconst 1, 1) := by decide +kernel
theorem dL_law_414 : decode cL_law 414 = .ok (.iadd, 1) := by decide +kernel
theorem dL_law_415 : decode cL_law 415 = .ok (.iaload, 1) := by decide +kernel
theorem dL_law_416 : decode cL_law 416 = .ok (.aload_n 0, 1) := by decide +kernel
theorem dL_law_417 : decode cL_law 417 = .ok (.iload_n 3, 1) := by decide +kernel
theorem dL_law_418 : decode cL_law 418 = .ok (.iconst 2, 1) := by decide +kernel
theorem dL_law_419 : decode cL_law 419 = .ok (.iadd, 1) := by decide +kernel
theorem dL_law_420 : decode cL_law 420 = .ok (.iaload, 1) := by decide +kernel
theorem dL_law_421 : decode cL_law 421 = .ok (.invokevirtual 54, 3) := by decide +kernel
theorem dL_law_424 : decode cL_law 424 = .ok (.if_icmp .eq 864, 3) := by decide +kernel
theorem dL_law_427 : decode cL_law 427 = .ok (.iconst 0, 1) := by decide +kernel
theorem dL_law_428 : decode cL_law 428 = .ok (.ireturn, 1) := by decide +kernel
theorem dL_law_429 : decode cL_law 429 = .ok (.aload_n 1, 1) := by decide +kernel
theorem dL_law_430 : decode cL_law 430 = .ok (.aload_n 0, 1) := by decide +kernel
theorem dL_law_431 : decode cL_law 431 = .ok (.iload_n 3, 1) := by decide +kernel
theorem dL_law_432 : decode cL_law 432 = .ok (.iconst 1, 1) := by decide +kernel
theorem dL_law_433 : decode cL_law 433 = .ok (.iadd, 1) := by decide +kernel
theorem dL_law_434 : decode cL_law 434 = .ok (.iaload, 1) := by decide +kernel
theorem dL_law_435 : decode cL_law 435 = .ok (.aload_n 0, 1) := by decide +kernel
theorem dL_law_436 : decode cL_law 436 = .ok (.iload_n 3, 1) := by decide +kernel
theorem dL_law_437 : decode cL_law 437 = .ok (.iconst 2, 1) := by decide +kernel
theorem dL_law_438 : decode cL_law 438 = .ok (.iadd, 1) := by decide +kernel
theorem dL_law_439 : decode cL_law 439 = .ok (.iaload, 1) := by decide +kernel
theorem dL_law_440 : decode cL_law 440 = .ok (.invokevirtual 55, 3) := by decide +kernel
theorem dL_law_443 : decode cL_law 443 = .ok (.aload_n 2, 1) := by decide +kernel
theorem dL_law_444 : decode cL_law 444 = .ok (.aload_n 0, 1) := by decide +kernel
theorem dL_law_445 : decode cL_law 445 = .ok (.iload_n 3, 1) := by decide +kernel
theorem dL_law_446 : decode cL_law 446 = .ok (.iconst 1, 1) := by decide +kernel
theorem dL_law_447 : decode cL_law 447 = .ok (.iadd, 1) := by decide +kernel
theorem dL_law_448 : decode cL_law 448 = .ok (.iaload, 1) := by decide +kernel
theorem dL_law_449 : decode cL_law 449 = .ok (.aload_n 0, 1) := by decide +kernel
theorem dL_law_450 : decode cL_law 450 = .ok (.iload_n 3, 1) := by decide +kernel
theorem dL_law_451 : decode cL_law 451 = .ok (.iconst 2, 1) := by decide +kernel
theorem dL_law_452 : decode cL_law 452 = .ok (.iadd, 1) := by decide +kernel
theorem dL_law_453 : decode cL_law 453 = .ok (.iaload, 1) := by decide +kernel
theorem dL_law_454 : decode cL_law 454 = .ok (.invokevirtual 58, 3) := by decide +kernel
theorem dL_law_457 : decode cL_law 457 = .ok (.if_icmp .eq 831, 3) := by decide +kernel
theorem dL_law_460 : decode cL_law 460 = .ok (.iconst 0, 1) := by decide +kernel
theorem dL_law_461 : decode cL_law 461 = .ok (.ireturn, 1) := by decide +kernel
theorem dL_law_462 : decode cL_law 462 = .ok (.aload_n 1, 1) := by decide +kernel
theorem dL_law_463 : decode cL_law 463 = .ok (.aload_n 0, 1) := by decide +kernel
theorem dL_law_464 : decode cL_law 464 = .ok (.iload_n 3, 1) := by decide +kernel
theorem dL_law_465 : decode cL_law 465 = .ok (.iconst 1, 1) := by decide +kernel
theorem dL_law_466 : decode cL_law 466 = .ok (.iadd, 1) := by decide +kernel
theorem dL_law_467 : decode cL_law 467 = .ok (.iaload, 1) := by decide +kernel
theorem dL_law_468 : decode cL_law 468 = .ok (.aload_n 0, 1) := by decide +kernel
theorem dL_law_469 : decode cL_law 469 = .ok (.iload_n 3, 1) := by decide +kernel
theorem dL_law_470 : decode cL_law 470 = .ok (.iconst 2, 1) := by decide +kernel
theorem dL_law_471 : decode cL_law 471 = .ok (.iadd, 1) := by decide +kernel
theorem dL_law_472 : decode cL_law 472 = .ok (.iaload, 1) := by decide +kernel
theorem dL_law_473 : decode cL_law 473 = .ok (.ifCond .eq 7, 3) := by decide +kernel
theorem dL_law_476 : decode cL_law 476 = .ok (.iconst 1, 1) := by decide +kernel
theorem dL_law_477 : decode cL_law 477 = .ok (.goto 4, 3) := by decide +kernel
theorem dL_law_480 : decode cL_law 480 = .ok (.iconst 0, 1) := by decide +kernel
theorem dL_law_481 : decode cL_law 481 = .ok (.invokevirtual 59, 3) := by decide +kernel
theorem dL_law_484 : decode cL_law 484 = .ok (.aload_n 2, 1) := by decide +kernel
theorem dL_law_485 : decode cL_law 485 = .ok (.aload_n 0, 1) := by decide +kernel
theorem dL_law_486 : decode cL_law 486 = .ok (.iload_n 3, 1) := by decide +kernel
theorem dL_law_487 : decode cL_law 487 = .ok (.iconst 1, 1) := by decide +kernel
theorem dL_law_488 : decode cL_law 488 = .ok (.iadd, 1) := by decide +kernel
theorem dL_law_489 : decode cL_law 489 = .ok (.iaload, 1) := by decide +kernel
theorem dL_law_490 : decode cL_law 490 = .ok (.aload_n 0, 1) := by decide +kernel
theorem dL_law_491 : decode cL_law 491 = .ok (.iload_n 3, 1) := by decide +kernel
theorem dL_law_492 : decode cL_law 492 = .ok (.iconst 2, 1) := by decide +kernel
theorem dL_law_493 : decode cL_law 493 = .ok (.iadd, 1) := by decide +kernel
theorem dL_law_494 : decode cL_law 494 = .ok (.iaload, 1) := by decide +kernel
theorem dL_law_495 : decode cL_law 495 = .ok (.ifCond .eq 7, 3) := by decide +kernel
theorem dL_law_498 : decode cL_law 498 = .ok (.iconst 1, 1) := by decide +kernel
theorem dL_law_499 : decode cL_law 499 = .ok (.goto 4, 3) := by decide +kernel
theorem dL_law_502 : decode cL_law 502 = .ok (.iconst 0, 1) := by decide +kernel
theorem dL_law_503 : decode cL_law 503 = .ok (.invokevirtual 63, 3) := by decide +kernel
theorem dL_law_506 : decode cL_law 506 = .ok (.if_icmp .eq 782, 3) := by decide +kernel
theorem dL_law_509 : decode cL_law 509 = .ok (.iconst 0, 1) := by decide +kernel
theorem dL_law_510 : decode cL_law 510 = .ok (.ireturn, 1) := by decide +kernel
theorem dL_law_511 : decode cL_law 511 = .ok (.aload_n 1, 1) := by decide +kernel
theorem dL_law_512 : decode cL_law 512 = .ok (.aload_n 0, 1) := by decide +kernel
theorem dL_law_513 : decode cL_law 513 = .ok (.iload_n 3, 1) := by decide +kernel
theorem dL_law_514 : decode cL_law 514 = .ok (.iconst 1, 1) := by decide +kernel
theorem dL_law_515 : decode cL_law 515 = .ok (.iadd, 1) := by decide +kernel
theorem dL_law_516 : decode cL_law 516 = .ok (.iaload, 1) := by decide +kernel
theorem dL_law_517 : decode cL_law 517 = .ok (.aload_n 0, 1) := by decide +kernel
theorem dL_law_518 : decode cL_law 518 = .ok (.iload_n 3, 1) := by decide +kernel
theorem dL_law_519 : decode cL_law 519 = .ok (.iconst 2, 1) := by decide +kernel
theorem dL_law_520 : decode cL_law 520 = .ok (.iadd, 1) := by decide +kernel
theorem dL_law_521 : decode cL_law 521 = .ok (.iaload, 1) := by decide +kernel
theorem dL_law_522 : decode cL_law 522 = .ok (.invokevirtual 64, 3) := by decide +kernel
theorem dL_law_525 : decode cL_law 525 = .ok (.aload_n 2, 1) := by decide +kernel
theorem dL_law_526 : decode cL_law 526 = .ok (.aload_n 0, 1) := by decide +kernel
theorem dL_law_527 : decode cL_law 527 = .ok (.iload_n 3, 1) := by decide +kernel
theorem dL_law_528 : decode cL_law 528 = .ok (.iconst 1, 1) := by decide +kernel
theorem dL_law_529 : decode cL_law 529 = .ok (.iadd, 1) := by decide +kernel
theorem dL_law_530 : decode cL_law 530 = .ok (.iaload, 1) := by decide +kernel
theorem dL_law_531 : decode cL_law 531 = .ok (.aload_n 0, 1) := by decide +kernel
theorem dL_law_532 : decode cL_law 532 = .ok (.iload_n 3, 1) := by decide +kernel
theorem dL_law_533 : decode cL_law 533 = .ok (.iconst 2, 1) := by decide +kernel
theorem dL_law_534 : decode cL_law 534 = .ok (.iadd, 1) := by decide +kernel
theorem dL_law_535 : decode cL_law 535 = .ok (.iaload, 1) := by decide +kernel
theorem dL_law_536 : decode cL_law 536 = .ok (.invokevirtual 67, 3) := by decide +kernel
theorem dL_law_539 : decode cL_law 539 = .ok (.if_icmp .eq 749, 3) := by decide +kernel
theorem dL_law_542 : decode cL_law 542 = .ok (.iconst 0, 1) := by decide +kernel
theorem dL_law_543 : decode cL_law 543 = .ok (.ireturn, 1) := by decide +kernel
theorem dL_law_544 : decode cL_law 544 = .ok (.aload_n 1, 1) := by decide +kernel
theorem dL_law_545 : decode cL_law 545 = .ok (.aload_n 0, 1) := by decide +kernel
theorem dL_law_546 : decode cL_law 546 = .ok (.iload_n 3, 1) := by decide +kernel
theorem dL_law_547 : decode cL_law 547 = .ok (.iconst 1, 1) := by decide +kernel
theorem dL_law_548 : decode cL_law 548 = .ok (.iadd, 1) := by decide +kernel
theorem dL_law_549 : decode cL_law 549 = .ok (.iaload, 1) := by decide +kernel
theorem dL_law_550 : decode cL_law 550 = .ok (.invokevirtual 68, 3) := by decide +kernel
theorem dL_law_553 : decode cL_law 553 = .ok (.aload_n 2, 1) := by decide +kernel
theorem dL_law_554 : decode cL_law 554 = .ok (.aload_n 0, 1) := by decide +kernel
theorem dL_law_555 : decode cL_law 555 = .ok (.iload_n 3, 1) := by decide +kernel
theorem dL_law_556 : decode cL_law 556 = .ok (.iconst 1, 1) := by decide +kernel
theorem dL_law_557 : decode cL_law 557 = .ok (.iadd, 1) := by decide +kernel
theorem dL_law_558 : decode cL_law 558 = .ok (.iaload, 1) := by decide +kernel
theorem dL_law_559 : decode cL_law 559 = .ok (.invokevirtual 71, 3) := by decide +kernel
theorem dL_law_562 : decode cL_law 562 = .ok (.if_icmp .eq 726, 3) := by decide +kernel
theorem dL_law_565 : decode cL_law 565 = .ok (.iconst 0, 1) := by decide +kernel
theorem dL_law_566 : decode cL_law 566 = .ok (.ireturn, 1) := by decide +kernel
theorem dL_law_567 : decode cL_law 567 = .ok (.aload_n 1, 1) := by decide +kernel
theorem dL_law_568 : decode cL_law 568 = .ok (.aload_n 0, 1) := by decide +kernel
theorem dL_law_569 : decode cL_law 569 = .ok (.iload_n 3, 1) := by decide +kernel
theorem dL_law_570 : decode cL_law 570 = .ok (.iconst 1, 1) := by decide +kernel
theorem dL_law_571 : decode cL_law 571 = .ok (.iadd, 1) := by decide +kernel
theorem dL_law_572 : decode cL_law 572 = .ok (.iaload, 1) := by decide +kernel
theorem dL_law_573 : decode cL_law 573 = .ok (.invokevirtual 72, 3) := by decide +kernel
theorem dL_law_576 : decode cL_law 576 = .ok (.aload_n 2, 1) := by decide +kernel
theorem dL_law_577 : decode cL_law 577 = .ok (.aload_n 0, 1) := by decide +kernel
theorem dL_law_578 : decode cL_law 578 = .ok (.iload_n 3, 1) := by decide +kernel
theorem dL_law_579 : decode cL_law 579 = .ok (.iconst 1, 1) := by decide +kernel
theorem dL_law_580 : decode cL_law 580 = .ok (.iadd, 1) := by decide +kernel
theorem dL_law_581 : decode cL_law 581 = .ok (.iaload, 1) := by decide +kernel
theorem dL_law_582 : decode cL_law 582 = .ok (.invokevirtual 75, 3) := by decide +kernel
theorem dL_law_585 : decode cL_law 585 = .ok (.if_icmp .eq 703, 3) := by decide +kernel
theorem dL_law_588 : decode cL_law 588 = .ok (.iconst 0, 1) := by decide +kernel
theorem dL_law_589 : decode cL_law 589 = .ok (.ireturn, 1) := by decide +kernel
theorem dL_law_590 : decode cL_law 590 = .ok (.aload_n 1, 1) := by decide +kernel
theorem dL_law_591 : decode cL_law 591 = .ok (.aload_n 0, 1) := by decide +kernel
theorem dL_law_592 : decode cL_law 592 = .ok (.iload_n 3, 1) := by decide +kernel
theorem dL_law_593 : decode cL_law 593 = .ok (.iconst 1, 1) := by decide +kernel
theorem dL_law_594 : decode cL_law 594 = .ok (.iadd, 1) := by decide +kernel
theorem dL_law_595 : decode cL_law 595 = .ok (.iaload, 1) := by decide +kernel
theorem dL_law_596 : decode cL_law 596 = .ok (.aload_n 0, 1) := by decide +kernel
theorem dL_law_597 : decode cL_law 597 = .ok (.iload_n 3, 1) := by decide +kernel
theorem dL_law_598 : decode cL_law 598 = .ok (.iconst 2, 1) := by decide +kernel
theorem dL_law_599 : decode cL_law 599 = .ok (.iadd, 1) := by decide +kernel
theorem dL_law_600 : decode cL_law 600 = .ok (.iaload, 1) := by decide +kernel
theorem dL_law_601 : decode cL_law 601 = .ok (.invokevirtual 76, 3) := by decide +kernel
theorem dL_law_604 : decode cL_law 604 = .ok (.aload_n 2, 1) := by decide +kernel
theorem dL_law_605 : decode cL_law 605 = .ok (.aload_n 0, 1) := by decide +kernel
theorem dL_law_606 : decode cL_law 606 = .ok (.iload_n 3, 1) := by decide +kernel
theorem dL_law_607 : decode cL_law 607 = .ok (.iconst 1, 1) := by decide +kernel
theorem dL_law_608 : decode cL_law 608 = .ok (.iadd, 1) := by decide +kernel
theorem dL_law_609 : decode cL_law 609 = .ok (.iaload, 1) := by decide +kernel
theorem dL_law_610 : decode cL_law 610 = .ok (.aload_n 0, 1) := by decide +kernel
theorem dL_law_611 : decode cL_law 611 = .ok (.iload_n 3, 1) := by decide +kernel
theorem dL_law_612 : decode cL_law 612 = .ok (.iconst 2, 1) := by decide +kernel
theorem dL_law_613 : decode cL_law 613 = .ok (.iadd, 1) := by decide +kernel
theorem dL_law_614 : decode cL_law 614 = .ok (.iaload, 1) := by decide +kernel
theorem dL_law_615 : decode cL_law 615 = .ok (.invokevirtual 79, 3) := by decide +kernel
theorem dL_law_618 : decode cL_law 618 = .ok (.if_icmp .eq 670, 3) := by decide +kernel
theorem dL_law_621 : decode cL_law 621 = .ok (.iconst 0, 1) := by decide +kernel
theorem dL_law_622 : decode cL_law 622 = .ok (.ireturn, 1) := by decide +kernel
theorem dL_law_623 : decode cL_law 623 = .ok (.aload_n 1, 1) := by decide +kernel
theorem dL_law_624 : decode cL_law 624 = .ok (.aload_n 0, 1) := by decide +kernel
theorem dL_law_625 : decode cL_law 625 = .ok (.iload_n 3, 1) := by decide +kernel
theorem dL_law_626 : decode cL_law 626 = .ok (.iconst 1, 1) := by decide +kernel
theorem dL_law_627 : decode cL_law 627 = .ok (.iadd, 1) := by decide +kernel
theorem dL_law_628 : decode cL_law 628 = .ok (.iaload, 1) := by decide +kernel
theorem dL_law_629 : decode cL_law 629 = .ok (.aload_n 0, 1) := by decide +kernel
theorem dL_law_630 : decode cL_law 630 = .ok (.iload_n 3, 1) := by decide +kernel
theorem dL_law_631 : decode cL_law 631 = .ok (.iconst 2, 1) := by decide +kernel
theorem dL_law_632 : decode cL_law 632 = .ok (.iadd, 1) := by decide +kernel
theorem dL_law_633 : decode cL_law 633 = .ok (.iaload, 1) := by decide +kernel
theorem dL_law_634 : decode cL_law 634 = .ok (.invokevirtual 80, 3) := by decide +kernel
theorem dL_law_637 : decode cL_law 637 = .ok (.aload_n 2, 1) := by decide +kernel
theorem dL_law_638 : decode cL_law 638 = .ok (.aload_n 0, 1) := by decide +kernel
theorem dL_law_639 : decode cL_law 639 = .ok (.iload_n 3, 1) := by decide +kernel
theorem dL_law_640 : decode cL_law 640 = .ok (.iconst 1, 1) := by decide +kernel
theorem dL_law_641 : decode cL_law 641 = .ok (.iadd, 1) := by decide +kernel
theorem dL_law_642 : decode cL_law 642 = .ok (.iaload, 1) := by decide +kernel
theorem dL_law_643 : decode cL_law 643 = .ok (.aload_n 0, 1) := by decide +kernel
theorem dL_law_644 : decode cL_law 644 = .ok (.iload_n 3, 1) := by decide +kernel
theorem dL_law_645 : decode cL_law 645 = .ok (.iconst 2, 1) := by decide +kernel
theorem dL_law_646 : decode cL_law 646 = .ok (.iadd, 1) := by decide +kernel
theorem dL_law_647 : decode cL_law 647 = .ok (.iaload, 1) := by decide +kernel
theorem dL_law_648 : decode cL_law 648 = .ok (.invokevirtual 83, 3) := by decide +kernel
theorem dL_law_651 : decode cL_law 651 = .ok (.if_icmp .eq 637, 3) := by decide +kernel
theorem dL_law_654 : decode cL_law 654 = .ok (.iconst 0, 1) := by decide +kernel
theorem dL_law_655 : decode cL_law 655 = .ok (.ireturn, 1) := by decide +kernel
theorem dL_law_656 : decode cL_law 656 = .ok (.aload_n 1, 1) := by decide +kernel
theorem dL_law_657 : decode cL_law 657 = .ok (.aload_n 0, 1) := by decide +kernel
theorem dL_law_658 : decode cL_law 658 = .ok (.iload_n 3, 1) := by decide +kernel
theorem dL_law_659 : decode cL_law 659 = .ok (.iconst 1, 1) := by decide +kernel
theorem dL_law_660 : decode cL_law 660 = .ok (.iadd, 1) := by decide +kernel
theorem dL_law_661 : decode cL_law 661 = .ok (.iaload, 1) := by decide +kernel
theorem dL_law_662 : decode cL_law 662 = .ok (.aload_n 0, 1) := by decide +kernel
theorem dL_law_663 : decode cL_law 663 = .ok (.iload_n 3, 1) := by decide +kernel
theorem dL_law_664 : decode cL_law 664 = .ok (.iconst 2, 1) := by decide +kernel
theorem dL_law_665 : decode cL_law 665 = .ok (.iadd, 1) := by decide +kernel
theorem dL_law_666 : decode cL_law 666 = .ok (.iaload, 1) := by decide +kernel
theorem dL_law_667 : decode cL_law 667 = .ok (.aload_n 0, 1) := by decide +kernel
theorem dL_law_668 : decode cL_law 668 = .ok (.iload_n 3, 1) := by decide +kernel
theorem dL_law_669 : decode cL_law 669 = .ok (.iconst 3, 1) := by decide +kernel
theorem dL_law_670 : decode cL_law 670 = .ok (.iadd, 1) := by decide +kernel
theorem dL_law_671 : decode cL_law 671 = .ok (.iaload, 1) := by decide +kernel
theorem dL_law_672 : decode cL_law 672 = .ok (.invokevirtual 84, 3) := by decide +kernel
theorem dL_law_675 : decode cL_law 675 = .ok (.aload_n 2, 1) := by decide +kernel
theorem dL_law_676 : decode cL_law 676 = .ok (.aload_n 0, 1) := by decide +kernel
theorem dL_law_677 : decode cL_law 677 = .ok (.iload_n 3, 1) := by decide +kernel
theorem dL_law_678 : decode cL_law 678 = .ok (.iconst 1, 1) := by decide +kernel
theorem dL_law_679 : decode cL_law 679 = .ok (.iadd, 1) := by decide +kernel
theorem dL_law_680 : decode cL_law 680 = .ok (.iaload, 1) := by decide +kernel
theorem dL_law_681 : decode cL_law 681 = .ok (.aload_n 0, 1) := by decide +kernel
theorem dL_law_682 : decode cL_law 682 = .ok (.iload_n 3, 1) := by decide +kernel
theorem dL_law_683 : decode cL_law 683 = .ok (.iconst 2, 1) := by decide +kernel
theorem dL_law_684 : decode cL_law 684 = .ok (.iadd, 1) := by decide +kernel
theorem dL_law_685 : decode cL_law 685 = .ok (.iaload, 1) := by decide +kernel
theorem dL_law_686 : decode cL_law 686 = .ok (.aload_n 0, 1) := by decide +kernel
theorem dL_law_687 : decode cL_law 687 = .ok (.iload_n 3, 1) := by decide +kernel
theorem dL_law_688 : decode cL_law 688 = .ok (.iconst 3, 1) := by decide +kernel
theorem dL_law_689 : decode cL_law 689 = .ok (.iadd, 1) := by decide +kernel
theorem dL_law_690 : decode cL_law 690 = .ok (.iaload, 1) := by decide +kernel
theorem dL_law_691 : decode cL_law 691 = .ok (.invokevirtual 88, 3) := by decide +kernel
theorem dL_law_694 : decode cL_law 694 = .ok (.lcmp, 1) := by decide +kernel
theorem dL_law_695 : decode cL_law 695 = .ok (.ifCond .eq 593, 3) := by decide +kernel
theorem dL_law_698 : decode cL_law 698 = .ok (.iconst 0, 1) := by decide +kernel
theorem dL_law_699 : decode cL_law 699 = .ok (.ireturn, 1) := by decide +kernel
theorem dL_law_700 : decode cL_law 700 = .ok (.aload_n 1, 1) := by decide +kernel
theorem dL_law_701 : decode cL_law 701 = .ok (.aload_n 0, 1) := by decide +kernel
theorem dL_law_702 : decode cL_law 702 = .ok (.iload_n 3, 1) := by decide +kernel
theorem dL_law_703 : decode cL_law 703 = .ok (.iconst 1, 1) := by decide +kernel
theorem dL_law_704 : decode cL_law 704 = .ok (.iadd, 1) := by decide +kernel
theorem dL_law_705 : decode cL_law 705 = .ok (.iaload, 1) := by decide +kernel
theorem dL_law_706 : decode cL_law 706 = .ok (.aload_n 0, 1) := by decide +kernel
theorem dL_law_707 : decode cL_law 707 = .ok (.iload_n 3, 1) := by decide +kernel
theorem dL_law_708 : decode cL_law 708 = .ok (.iconst 2, 1) := by decide +kernel
theorem dL_law_709 : decode cL_law 709 = .ok (.iadd, 1) := by decide +kernel
theorem dL_law_710 : decode cL_law 710 = .ok (.iaload, 1) := by decide +kernel
theorem dL_law_711 : decode cL_law 711 = .ok (.aload_n 0, 1) := by decide +kernel
theorem dL_law_712 : decode cL_law 712 = .ok (.iload_n 3, 1) := by decide +kernel
theorem dL_law_713 : decode cL_law 713 = .ok (.iconst 3, 1) := by decide +kernel
theorem dL_law_714 : decode cL_law 714 = .ok (.iadd, 1) := by decide +kernel
theorem dL_law_715 : decode cL_law 715 = .ok (.iaload, 1) := by decide +kernel
theorem dL_law_716 : decode cL_law 716 = .ok (.invokevirtual 89, 3) := by decide +kernel
theorem dL_law_719 : decode cL_law 719 = .ok (.aload_n 2, 1) := by decide +kernel
theorem dL_law_720 : decode cL_law 720 = .ok (.aload_n 0, 1) := by decide +kernel
theorem dL_law_721 : decode cL_law 721 = .ok (.iload_n 3, 1) := by decide +kernel
theorem dL_law_722 : decode cL_law 722 = .ok (.iconst 1, 1) := by decide +kernel
theorem dL_law_723 : decode cL_law 723 = .ok (.iadd, 1) := by decide +kernel
theorem dL_law_724 : decode cL_law 724 = .ok (.iaload, 1) := by decide +kernel
theorem dL_law_725 : decode cL_law 725 = .ok (.aload_n 0, 1) := by decide +kernel
theorem dL_law_726 : decode cL_law 726 = .ok (.iload_n 3, 1) := by decide +kernel
theorem dL_law_727 : decode cL_law 727 = .ok (.iconst 2, 1) := by decide +kernel
theorem dL_law_728 : decode cL_law 728 = .ok (.iadd, 1) := by decide +kernel
theorem dL_law_729 : decode cL_law 729 = .ok (.iaload, 1) := by decide +kernel
theorem dL_law_730 : decode cL_law 730 = .ok (.aload_n 0, 1) := by decide +kernel
theorem dL_law_731 : decode cL_law 731 = .ok (.iload_n 3, 1) := by decide +kernel
theorem dL_law_732 : decode cL_law 732 = .ok (.iconst 3, 1) := by decide +kernel
theorem dL_law_733 : decode cL_law 733 = .ok (.iadd, 1) := by decide +kernel
theorem dL_law_734 : decode cL_law 734 = .ok (.iaload, 1) := by decide +kernel
theorem dL_law_735 : decode cL_law 735 = .ok (.invokevirtual 92, 3) := by decide +kernel
theorem dL_law_738 : decode cL_law 738 = .ok (.lcmp, 1) := by decide +kernel
theorem dL_law_739 : decode cL_law 739 = .ok (.ifCond .eq 549, 3) := by decide +kernel
theorem dL_law_742 : decode cL_law 742 = .ok (.iconst 0, 1) := by decide +kernel
theorem dL_law_743 : decode cL_law 743 = .ok (.ireturn, 1) := by decide +kernel
theorem dL_law_744 : decode cL_law 744 = .ok (.aload_n 1, 1) := by decide +kernel
theorem dL_law_745 : decode cL_law 745 = .ok (.aload_n 0, 1) := by decide +kernel
theorem dL_law_746 : decode cL_law 746 = .ok (.iload_n 3, 1) := by decide +kernel
theorem dL_law_747 : decode cL_law 747 = .ok (.iconst 1, 1) := by decide +kernel
theorem dL_law_748 : decode cL_law 748 = .ok (.iadd, 1) := by decide +kernel
theorem dL_law_749 : decode cL_law 749 = .ok (.iaload, 1) := by decide +kernel
theorem dL_law_750 : decode cL_law 750 = .ok (.aload_n 0, 1) := by decide +kernel
theorem dL_law_751 : decode cL_law 751 = .ok (.iload_n 3, 1) := by decide +kernel
theorem dL_law_752 : decode cL_law 752 = .ok (.iconst 2, 1) := by decide +kernel
theorem dL_law_753 : decode cL_law 753 = .ok (.iadd, 1) := by decide +kernel
theorem dL_law_754 : decode cL_law 754 = .ok (.iaload, 1) := by decide +kernel
theorem dL_law_755 : decode cL_law 755 = .ok (.invokevirtual 93, 3) := by decide +kernel
theorem dL_law_758 : decode cL_law 758 = .ok (.aload_n 2, 1) := by decide +kernel
theorem dL_law_759 : decode cL_law 759 = .ok (.aload_n 0, 1) := by decide +kernel
theorem dL_law_760 : decode cL_law 760 = .ok (.iload_n 3, 1) := by decide +kernel
theorem dL_law_761 : decode cL_law 761 = .ok (.iconst 1, 1) := by decide +kernel
theorem dL_law_762 : decode cL_law 762 = .ok (.iadd, 1) := by decide +kernel
theorem dL_law_763 : decode cL_law 763 = .ok (.iaload, 1) := by decide +kernel
theorem dL_law_764 : decode cL_law 764 = .ok (.aload_n 0, 1) := by decide +kernel
theorem dL_law_765 : decode cL_law 765 = .ok (.iload_n 3, 1) := by decide +kernel
theorem dL_law_766 : decode cL_law 766 = .ok (.iconst 2, 1) := by decide +kernel
theorem dL_law_767 : decode cL_law 767 = .ok (.iadd, 1) := by decide +kernel
theorem dL_law_768 : decode cL_law 768 = .ok (.iaload, 1) := by decide +kernel
theorem dL_law_769 : decode cL_law 769 = .ok (.invokevirtual 96, 3) := by decide +kernel
theorem dL_law_772 : decode cL_law 772 = .ok (.if_icmp .eq 516, 3) := by decide +kernel
theorem dL_law_775 : decode cL_law 775 = .ok (.iconst 0, 1) := by decide +kernel
theorem dL_law_776 : decode cL_law 776 = .ok (.ireturn, 1) := by decide +kernel
theorem dL_law_777 : decode cL_law 777 = .ok (.aload_n 1, 1) := by decide +kernel
theorem dL_law_778 : decode cL_law 778 = .ok (.aload_n 0, 1) := by decide +kernel
theorem dL_law_779 : decode cL_law 779 = .ok (.iload_n 3, 1) := by decide +kernel
theorem dL_law_780 : decode cL_law 780 = .ok (.iconst 1, 1) := by decide +kernel
theorem dL_law_781 : decode cL_law 781 = .ok (.iadd, 1) := by decide +kernel
theorem dL_law_782 : decode cL_law 782 = .ok (.iaload, 1) := by decide +kernel
theorem dL_law_783 : decode cL_law 783 = .ok (.invokevirtual 97, 3) := by decide +kernel
theorem dL_law_786 : decode cL_law 786 = .ok (.aload_n 2, 1) := by decide +kernel
theorem dL_law_787 : decode cL_law 787 = .ok (.aload_n 0, 1) := by decide +kernel
theorem dL_law_788 : decode cL_law 788 = .ok (.iload_n 3, 1) := by decide +kernel
theorem dL_law_789 : decode cL_law 789 = .ok (.iconst 1, 1) := by decide +kernel
theorem dL_law_790 : decode cL_law 790 = .ok (.iadd, 1) := by decide +kernel
theorem dL_law_791 : decode cL_law 791 = .ok (.iaload, 1) := by decide +kernel
theorem dL_law_792 : decode cL_law 792 = .ok (.invokevirtual 100, 3) := by decide +kernel
theorem dL_law_795 : decode cL_law 795 = .ok (.if_icmp .eq 493, 3) := by decide +kernel
theorem dL_law_798 : decode cL_law 798 = .ok (.iconst 0, 1) := by decide +kernel
theorem dL_law_799 : decode cL_law 799 = .ok (.ireturn, 1) := by decide +kernel
theorem dL_law_800 : decode cL_law 800 = .ok (.aload_n 1, 1) := by decide +kernel
theorem dL_law_801 : decode cL_law 801 = .ok (.aload_n 0, 1) := by decide +kernel
theorem dL_law_802 : decode cL_law 802 = .ok (.iload_n 3, 1) := by decide +kernel
theorem dL_law_803 : decode cL_law 803 = .ok (.iconst 1, 1) := by decide +kernel
theorem dL_law_804 : decode cL_law 804 = .ok (.iadd, 1) := by decide +kernel
theorem dL_law_805 : decode cL_law 805 = .ok (.iaload, 1) := by decide +kernel
theorem dL_law_806 : decode cL_law 806 = .ok (.aload_n 0, 1) := by decide +kernel
theorem dL_law_807 : decode cL_law 807 = .ok (.iload_n 3, 1) := by decide +kernel
theorem dL_law_808 : decode cL_law 808 = .ok (.iconst 2, 1) := by decide +kernel
theorem dL_law_809 : decode cL_law 809 = .ok (.iadd, 1) := by decide +kernel
theorem dL_law_810 : decode cL_law 810 = .ok (.iaload, 1) := by decide +kernel
theorem dL_law_811 : decode cL_law 811 = .ok (.aload_n 0, 1) := by decide +kernel
theorem dL_law_812 : decode cL_law 812 = .ok (.iload_n 3, 1) := by decide +kernel
theorem dL_law_813 : decode cL_law 813 = .ok (.iconst 3, 1) := by decide +kernel
theorem dL_law_814 : decode cL_law 814 = .ok (.iadd, 1) := by decide +kernel
theorem dL_law_815 : decode cL_law 815 = .ok (.iaload, 1) := by decide +kernel
theorem dL_law_816 : decode cL_law 816 = .ok (.invokevirtual 101, 3) := by decide +kernel
theorem dL_law_819 : decode cL_law 819 = .ok (.aload_n 2, 1) := by decide +kernel
theorem dL_law_820 : decode cL_law 820 = .ok (.aload_n 0, 1) := by decide +kernel
theorem dL_law_821 : decode cL_law 821 = .ok (.iload_n 3, 1) := by decide +kernel
theorem dL_law_822 : decode cL_law 822 = .ok (.iconst 1, 1) := by decide +kernel
theorem dL_law_823 : decode cL_law 823 = .ok (.iadd, 1) := by decide +kernel
theorem dL_law_824 : decode cL_law 824 = .ok (.iaload, 1) := by decide +kernel
theorem dL_law_825 : decode cL_law 825 = .ok (.aload_n 0, 1) := by decide +kernel
theorem dL_law_826 : decode cL_law 826 = .ok (.iload_n 3, 1) := by decide +kernel
theorem dL_law_827 : decode cL_law 827 = .ok (.iconst 2, 1) := by decide +kernel
theorem dL_law_828 : decode cL_law 828 = .ok (.iadd, 1) := by decide +kernel
theorem dL_law_829 : decode cL_law 829 = .ok (.iaload, 1) := by decide +kernel
theorem dL_law_830 : decode cL_law 830 = .ok (.aload_n 0, 1) := by decide +kernel
theorem dL_law_831 : decode cL_law 831 = .ok (.iload_n 3, 1) := by decide +kernel
theorem dL_law_832 : decode cL_law 832 = .ok (.iconst 3, 1) := by decide +kernel
theorem dL_law_833 : decode cL_law 833 = .ok (.iadd, 1) := by decide +kernel
theorem dL_law_834 : decode cL_law 834 = .ok (.iaload, 1) := by decide +kernel
theorem dL_law_835 : decode cL_law 835 = .ok (.invokevirtual 105, 3) := by decide +kernel
theorem dL_law_838 : decode cL_law 838 = .ok (.if_icmp .eq 450, 3) := by decide +kernel
theorem dL_law_841 : decode cL_law 841 = .ok (.iconst 0, 1) := by decide +kernel
theorem dL_law_842 : decode cL_law 842 = .ok (.ireturn, 1) := by decide +kernel
theorem dL_law_843 : decode cL_law 843 = .ok (.aload_n 1, 1) := by decide +kernel
theorem dL_law_844 : decode cL_law 844 = .ok (.aload_n 0, 1) := by decide +kernel
theorem dL_law_845 : decode cL_law 845 = .ok (.iload_n 3, 1) := by decide +kernel
theorem dL_law_846 : decode cL_law 846 = .ok (.iconst 1, 1) := by decide +kernel
theorem dL_law_847 : decode cL_law 847 = .ok (.iadd, 1) := by decide +kernel
theorem dL_law_848 : decode cL_law 848 = .ok (.iaload, 1) := by decide +kernel
theorem dL_law_849 : decode cL_law 849 = .ok (.aload_n 0, 1) := by decide +kernel
theorem dL_law_850 : decode cL_law 850 = .ok (.iload_n 3, 1) := by decide +kernel
theorem dL_law_851 : decode cL_law 851 = .ok (.iconst 2, 1) := by decide +kernel
theorem dL_law_852 : decode cL_law 852 = .ok (.iadd, 1) := by decide +kernel
theorem dL_law_853 : decode cL_law 853 = .ok (.iaload, 1) := by decide +kernel
theorem dL_law_854 : decode cL_law 854 = .ok (.invokevirtual 106, 3) := by decide +kernel
theorem dL_law_857 : decode cL_law 857 = .ok (.aload_n 2, 1) := by decide +kernel
theorem dL_law_858 : decode cL_law 858 = .ok (.aload_n 0, 1) := by decide +kernel
theorem dL_law_859 : decode cL_law 859 = .ok (.iload_n 3, 1) := by decide +kernel
theorem dL_law_860 : decode cL_law 860 = .ok (.iconst 1, 1) := by decide +kernel
theorem dL_law_861 : decode cL_law 861 = .ok (.iadd, 1) := by decide +kernel
theorem dL_law_862 : decode cL_law 862 = .ok (.iaload, 1) := by decide +kernel
theorem dL_law_863 : decode cL_law 863 = .ok (.aload_n 0, 1) := by decide +kernel
theorem dL_law_864 : decode cL_law 864 = .ok (.iload_n 3, 1) := by decide +kernel
theorem dL_law_865 : decode cL_law 865 = .ok (.iconst 2, 1) := by decide +kernel
theorem dL_law_866 : decode cL_law 866 = .ok (.iadd, 1) := by decide +kernel
theorem dL_law_867 : decode cL_law 867 = .ok (.iaload, 1) := by decide +kernel
theorem dL_law_868 : decode cL_law 868 = .ok (.invokevirtual 109, 3) := by decide +kernel
theorem dL_law_871 : decode cL_law 871 = .ok (.if_icmp .eq 417, 3) := by decide +kernel
theorem dL_law_874 : decode cL_law 874 = .ok (.iconst 0, 1) := by decide +kernel
theorem dL_law_875 : decode cL_law 875 = .ok (.ireturn, 1) := by decide +kernel
theorem dL_law_876 : decode cL_law 876 = .ok (.aload_n 1, 1) := by decide +kernel
theorem dL_law_877 : decode cL_law 877 = .ok (.aload_n 0, 1) := by decide +kernel
theorem dL_law_878 : decode cL_law 878 = .ok (.iload_n 3, 1) := by decide +kernel
theorem dL_law_879 : decode cL_law 879 = .ok (.iconst 1, 1) := by decide +kernel
theorem dL_law_880 : decode cL_law 880 = .ok (.iadd, 1) := by decide +kernel
theorem dL_law_881 : decode cL_law 881 = .ok (.iaload, 1) := by decide +kernel
theorem dL_law_882 : decode cL_law 882 = .ok (.invokevirtual 110, 3) := by decide +kernel
theorem dL_law_885 : decode cL_law 885 = .ok (.aload_n 2, 1) := by decide +kernel
theorem dL_law_886 : decode cL_law 886 = .ok (.aload_n 0, 1) := by decide +kernel
theorem dL_law_887 : decode cL_law 887 = .ok (.iload_n 3, 1) := by decide +kernel
theorem dL_law_888 : decode cL_law 888 = .ok (.iconst 1, 1) := by decide +kernel
theorem dL_law_889 : decode cL_law 889 = .ok (.iadd, 1) := by decide +kernel
theorem dL_law_890 : decode cL_law 890 = .ok (.iaload, 1) := by decide +kernel
theorem dL_law_891 : decode cL_law 891 = .ok (.invokevirtual 113, 3) := by decide +kernel
theorem dL_law_894 : decode cL_law 894 = .ok (.if_icmp .eq 394, 3) := by decide +kernel
theorem dL_law_897 : decode cL_law 897 = .ok (.iconst 0, 1) := by decide +kernel
theorem dL_law_898 : decode cL_law 898 = .ok (.ireturn, 1) := by decide +kernel
theorem dL_law_899 : decode cL_law 899 = .ok (.aload_n 1, 1) := by decide +kernel
theorem dL_law_900 : decode cL_law 900 = .ok (.aload_n 0, 1) := by decide +kernel
theorem dL_law_901 : decode cL_law 901 = .ok (.iload_n 3, 1) := by decide +kernel
theorem dL_law_902 : decode cL_law 902 = .ok (.iconst 1, 1) := by decide +kernel
theorem dL_law_903 : decode cL_law 903 = .ok (.iadd, 1) := by decide +kernel
theorem dL_law_904 : decode cL_law 904 = .ok (.iaload, 1) := by decide +kernel
theorem dL_law_905 : decode cL_law 905 = .ok (.invokevirtual 114, 3) := by decide +kernel
theorem dL_law_908 : decode cL_law 908 = .ok (.aload_n 2, 1) := by decide +kernel
theorem dL_law_909 : decode cL_law 909 = .ok (.aload_n 0, 1) := by decide +kernel
theorem dL_law_910 : decode cL_law 910 = .ok (.iload_n 3, 1) := by decide +kernel
theorem dL_law_911 : decode cL_law 911 = .ok (.iconst 1, 1) := by decide +kernel
theorem dL_law_912 : decode cL_law 912 = .ok (.iadd, 1) := by decide +kernel
theorem dL_law_913 : decode cL_law 913 = .ok (.iaload, 1) := by decide +kernel
theorem dL_law_914 : decode cL_law 914 = .ok (.invokevirtual 117, 3) := by decide +kernel
theorem dL_law_917 : decode cL_law 917 = .ok (.if_icmp .eq 371, 3) := by decide +kernel
theorem dL_law_920 : decode cL_law 920 = .ok (.iconst 0, 1) := by decide +kernel
theorem dL_law_921 : decode cL_law 921 = .ok (.ireturn, 1) := by decide +kernel
theorem dL_law_922 : decode cL_law 922 = .ok (.aload_n 1, 1) := by decide +kernel
theorem dL_law_923 : decode cL_law 923 = .ok (.aload_n 0, 1) := by decide +kernel
theorem dL_law_924 : decode cL_law 924 = .ok (.iload_n 3, 1) := by decide +kernel
theorem dL_law_925 : decode cL_law 925 = .ok (.iconst 1, 1) := by decide +kernel
theorem dL_law_926 : decode cL_law 926 = .ok (.iadd, 1) := by decide +kernel
theorem dL_law_927 : decode cL_law 927 = .ok (.iaload, 1) := by decide +kernel
theorem dL_law_928 : decode cL_law 928 = .ok (.aload_n 0, 1) := by decide +kernel
theorem dL_law_929 : decode cL_law 929 = .ok (.iload_n 3, 1) := by decide +kernel
theorem dL_law_930 : decode cL_law 930 = .ok (.iconst 2, 1) := by decide +kernel
theorem dL_law_931 : decode cL_law 931 = .ok (.iadd, 1) := by decide +kernel
theorem dL_law_932 : decode cL_law 932 = .ok (.iaload, 1) := by decide +kernel
theorem dL_law_933 : decode cL_law 933 = .ok (.invokevirtual 118, 3) := by decide +kernel
theorem dL_law_936 : decode cL_law 936 = .ok (.aload_n 2, 1) := by decide +kernel
theorem dL_law_937 : decode cL_law 937 = .ok (.aload_n 0, 1) := by decide +kernel
theorem dL_law_938 : decode cL_law 938 = .ok (.iload_n 3, 1) := by decide +kernel
theorem dL_law_939 : decode cL_law 939 = .ok (.iconst 1, 1) := by decide +kernel
theorem dL_law_940 : decode cL_law 940 = .ok (.iadd, 1) := by decide +kernel
theorem dL_law_941 : decode cL_law 941 = .ok (.iaload, 1) := by decide +kernel
theorem dL_law_942 : decode cL_law 942 = .ok (.aload_n 0, 1) := by decide +kernel
theorem dL_law_943 : decode cL_law 943 = .ok (.iload_n 3, 1) := by decide +kernel
theorem dL_law_944 : decode cL_law 944 = .ok (.iconst 2, 1) := by decide +kernel
theorem dL_law_945 : decode cL_law 945 = .ok (.iadd, 1) := by decide +kernel
theorem dL_law_946 : decode cL_law 946 = .ok (.iaload, 1) := by decide +kernel
theorem dL_law_947 : decode cL_law 947 = .ok (.invokevirtual 121, 3) := by decide +kernel
theorem dL_law_950 : decode cL_law 950 = .ok (.if_icmp .eq 338, 3) := by decide +kernel
theorem dL_law_953 : decode cL_law 953 = .ok (.iconst 0, 1) := by decide +kernel
theorem dL_law_954 : decode cL_law 954 = .ok (.ireturn, 1) := by decide +kernel
theorem dL_law_955 : decode cL_law 955 = .ok (.aload_n 1, 1) := by decide +kernel
theorem dL_law_956 : decode cL_law 956 = .ok (.aload_n 0, 1) := by decide +kernel
theorem dL_law_957 : decode cL_law 957 = .ok (.iload_n 3, 1) := by decide +kernel
theorem dL_law_958 : decode cL_law 958 = .ok (.iconst 1, 1) := by decide +kernel
theorem dL_law_959 : decode cL_law 959 = .ok (.iadd, 1) := by decide +kernel
theorem dL_law_960 : decode cL_law 960 = .ok (.iaload, 1) := by decide +kernel
theorem dL_law_961 : decode cL_law 961 = .ok (.invokevirtual 122, 3) := by decide +kernel
theorem dL_law_964 : decode cL_law 964 = .ok (.aload_n 2, 1) := by decide +kernel
theorem dL_law_965 : decode cL_law 965 = .ok (.aload_n 0, 1) := by decide +kernel
theorem dL_law_966 : decode cL_law 966 = .ok (.iload_n 3, 1) := by decide +kernel
theorem dL_law_967 : decode cL_law 967 = .ok (.iconst 1, 1) := by decide +kernel
theorem dL_law_968 : decode cL_law 968 = .ok (.iadd, 1) := by decide +kernel
theorem dL_law_969 : decode cL_law 969 = .ok (.iaload, 1) := by decide +kernel
theorem dL_law_970 : decode cL_law 970 = .ok (.invokevirtual 125, 3) := by decide +kernel
theorem dL_law_973 : decode cL_law 973 = .ok (.if_icmp .eq 315, 3) := by decide +kernel
theorem dL_law_976 : decode cL_law 976 = .ok (.iconst 0, 1) := by decide +kernel
theorem dL_law_977 : decode cL_law 977 = .ok (.ireturn, 1) := by decide +kernel
theorem dL_law_978 : decode cL_law 978 = .ok (.aload_n 1, 1) := by decide +kernel
theorem dL_law_979 : decode cL_law 979 = .ok (.aload_n 0, 1) := by decide +kernel
theorem dL_law_980 : decode cL_law 980 = .ok (.iload_n 3, 1) := by decide +kernel
theorem dL_law_981 : decode cL_law 981 = .ok (.iconst 1, 1) := by decide +kernel
theorem dL_law_982 : decode cL_law 982 = .ok (.iadd, 1) := by decide +kernel
theorem dL_law_983 : decode cL_law 983 = .ok (.iaload, 1) := by decide +kernel
theorem dL_law_984 : decode cL_law 984 = .ok (.invokevirtual 126, 3) := by decide +kernel
theorem dL_law_987 : decode cL_law 987 = .ok (.aload_n 2, 1) := by decide +kernel
theorem dL_law_988 : decode cL_law 988 = .ok (.aload_n 0, 1) := by decide +kernel
theorem dL_law_989 : decode cL_law 989 = .ok (.iload_n 3, 1) := by decide +kernel
theorem dL_law_990 : decode cL_law 990 = .ok (.iconst 1, 1) := by decide +kernel
theorem dL_law_991 : decode cL_law 991 = .ok (.iadd, 1) := by decide +kernel
theorem dL_law_992 : decode cL_law 992 = .ok (.iaload, 1) := by decide +kernel
theorem dL_law_993 : decode cL_law 993 = .ok (.invokevirtual 129, 3) := by decide +kernel
theorem dL_law_996 : decode cL_law 996 = .ok (.if_icmp .eq 292, 3) := by decide +kernel
theorem dL_law_999 : decode cL_law 999 = .ok (.iconst 0, 1) := by decide +kernel
theorem dL_law_1000 : decode cL_law 1000 = .ok (.ireturn, 1) := by decide +kernel
theorem dL_law_1001 : decode cL_law 1001 = .ok (.aload_n 1, 1) := by decide +kernel
theorem dL_law_1002 : decode cL_law 1002 = .ok (.aload_n 0, 1) := by decide +kernel
theorem dL_law_1003 : decode cL_law 1003 = .ok (.iload_n 3, 1) := by decide +kernel
theorem dL_law_1004 : decode cL_law 1004 = .ok (.iconst 1, 1) := by decide +kernel
theorem dL_law_1005 : decode cL_law 1005 = .ok (.iadd, 1) := by decide +kernel
theorem dL_law_1006 : decode cL_law 1006 = .ok (.iaload, 1) := by decide +kernel
theorem dL_law_1007 : decode cL_law 1007 = .ok (.invokevirtual 130, 3) := by decide +kernel
theorem dL_law_1010 : decode cL_law 1010 = .ok (.aload_n 2, 1) := by decide +kernel
theorem dL_law_1011 : decode cL_law 1011 = .ok (.aload_n 0, 1) := by decide +kernel
theorem dL_law_1012 : decode cL_law 1012 = .ok (.iload_n 3, 1) := by decide +kernel
theorem dL_law_1013 : decode cL_law 1013 = .ok (.iconst 1, 1) := by decide +kernel
theorem dL_law_1014 : decode cL_law 1014 = .ok (.iadd, 1) := by decide +kernel
theorem dL_law_1015 : decode cL_law 1015 = .ok (.iaload, 1) := by decide +kernel
theorem dL_law_1016 : decode cL_law 1016 = .ok (.invokevirtual 133, 3) := by decide +kernel
theorem dL_law_1019 : decode cL_law 1019 = .ok (.if_icmp .eq 269, 3) := by decide +kernel
theorem dL_law_1022 : decode cL_law 1022 = .ok (.iconst 0, 1) := by decide +kernel
theorem dL_law_1023 : decode cL_law 1023 = .ok (.ireturn, 1) := by decide +kernel
theorem dL_law_1024 : decode cL_law 1024 = .ok (.aload_n 1, 1) := by decide +kernel
theorem dL_law_1025 : decode cL_law 1025 = .ok (.aload_n 0, 1) := by decide +kernel
theorem dL_law_1026 : decode cL_law 1026 = .ok (.iload_n 3, 1) := by decide +kernel
theorem dL_law_1027 : decode cL_law 1027 = .ok (.iconst 1, 1) := by decide +kernel
theorem dL_law_1028 : decode cL_law 1028 = .ok (.iadd, 1) := by decide +kernel
theorem dL_law_1029 : decode cL_law 1029 = .ok (.iaload, 1) := by decide +kernel
theorem dL_law_1030 : decode cL_law 1030 = .ok (.aload_n 0, 1) := by decide +kernel
theorem dL_law_1031 : decode cL_law 1031 = .ok (.iload_n 3, 1) := by decide +kernel
theorem dL_law_1032 : decode cL_law 1032 = .ok (.iconst 2, 1) := by decide +kernel
theorem dL_law_1033 : decode cL_law 1033 = .ok (.iadd, 1) := by decide +kernel
theorem dL_law_1034 : decode cL_law 1034 = .ok (.iaload, 1) := by decide +kernel
theorem dL_law_1035 : decode cL_law 1035 = .ok (.aload_n 0, 1) := by decide +kernel
theorem dL_law_1036 : decode cL_law 1036 = .ok (.iload_n 3, 1) := by decide +kernel
theorem dL_law_1037 : decode cL_law 1037 = .ok (.iconst 3, 1) := by decide +kernel
theorem dL_law_1038 : decode cL_law 1038 = .ok (.iadd, 1) := by decide +kernel
theorem dL_law_1039 : decode cL_law 1039 = .ok (.iaload, 1) := by decide +kernel
theorem dL_law_1040 : decode cL_law 1040 = .ok (.invokevirtual 134, 3) := by decide +kernel
theorem dL_law_1043 : decode cL_law 1043 = .ok (.aload_n 2, 1) := by decide +kernel
theorem dL_law_1044 : decode cL_law 1044 = .ok (.aload_n 0, 1) := by decide +kernel
theorem dL_law_1045 : decode cL_law 1045 = .ok (.iload_n 3, 1) := by decide +kernel
theorem dL_law_1046 : decode cL_law 1046 = .ok (.iconst 1, 1) := by decide +kernel
theorem dL_law_1047 : decode cL_law 1047 = .ok (.iadd, 1) := by decide +kernel
theorem dL_law_1048 : decode cL_law 1048 = .ok (.iaload, 1) := by decide +kernel
theorem dL_law_1049 : decode cL_law 1049 = .ok (.aload_n 0, 1) := by decide +kernel
theorem dL_law_1050 : decode cL_law 1050 = .ok (.iload_n 3, 1) := by decide +kernel
theorem dL_law_1051 : decode cL_law 1051 = .ok (.iconst 2, 1) := by decide +kernel
theorem dL_law_1052 : decode cL_law 1052 = .ok (.iadd, 1) := by decide +kernel
theorem dL_law_1053 : decode cL_law 1053 = .ok (.iaload, 1) := by decide +kernel
theorem dL_law_1054 : decode cL_law 1054 = .ok (.aload_n 0, 1) := by decide +kernel
theorem dL_law_1055 : decode cL_law 1055 = .ok (.iload_n 3, 1) := by decide +kernel
theorem dL_law_1056 : decode cL_law 1056 = .ok (.iconst 3, 1) := by decide +kernel
theorem dL_law_1057 : decode cL_law 1057 = .ok (.iadd, 1) := by decide +kernel
theorem dL_law_1058 : decode cL_law 1058 = .ok (.iaload, 1) := by decide +kernel
theorem dL_law_1059 : decode cL_law 1059 = .ok (.invokevirtual 137, 3) := by decide +kernel
theorem dL_law_1062 : decode cL_law 1062 = .ok (.if_icmp .eq 226, 3) := by decide +kernel
theorem dL_law_1065 : decode cL_law 1065 = .ok (.iconst 0, 1) := by decide +kernel
theorem dL_law_1066 : decode cL_law 1066 = .ok (.ireturn, 1) := by decide +kernel
theorem dL_law_1067 : decode cL_law 1067 = .ok (.aload_n 1, 1) := by decide +kernel
theorem dL_law_1068 : decode cL_law 1068 = .ok (.aload_n 0, 1) := by decide +kernel
theorem dL_law_1069 : decode cL_law 1069 = .ok (.iload_n 3, 1) := by decide +kernel
theorem dL_law_1070 : decode cL_law 1070 = .ok (.iconst 1, 1) := by decide +kernel
theorem dL_law_1071 : decode cL_law 1071 = .ok (.iadd, 1) := by decide +kernel
theorem dL_law_1072 : decode cL_law 1072 = .ok (.iaload, 1) := by decide +kernel
theorem dL_law_1073 : decode cL_law 1073 = .ok (.invokevirtual 138, 3) := by decide +kernel
theorem dL_law_1076 : decode cL_law 1076 = .ok (.aload_n 2, 1) := by decide +kernel
theorem dL_law_1077 : decode cL_law 1077 = .ok (.aload_n 0, 1) := by decide +kernel
theorem dL_law_1078 : decode cL_law 1078 = .ok (.iload_n 3, 1) := by decide +kernel
theorem dL_law_1079 : decode cL_law 1079 = .ok (.iconst 1, 1) := by decide +kernel
theorem dL_law_1080 : decode cL_law 1080 = .ok (.iadd, 1) := by decide +kernel
theorem dL_law_1081 : decode cL_law 1081 = .ok (.iaload, 1) := by decide +kernel
theorem dL_law_1082 : decode cL_law 1082 = .ok (.invokevirtual 141, 3) := by decide +kernel
theorem dL_law_1085 : decode cL_law 1085 = .ok (.if_icmp .eq 203, 3) := by decide +kernel
theorem dL_law_1088 : decode cL_law 1088 = .ok (.iconst 0, 1) := by decide +kernel
theorem dL_law_1089 : decode cL_law 1089 = .ok (.ireturn, 1) := by decide +kernel
theorem dL_law_1090 : decode cL_law 1090 = .ok (.aload_n 1, 1) := by decide +kernel
theorem dL_law_1091 : decode cL_law 1091 = .ok (.aload_n 0, 1) := by decide +kernel
theorem dL_law_1092 : decode cL_law 1092 = .ok (.iload_n 3, 1) := by decide +kernel
theorem dL_law_1093 : decode cL_law 1093 = .ok (.iconst 1, 1) := by decide +kernel
theorem dL_law_1094 : decode cL_law 1094 = .ok (.iadd, 1) := by decide +kernel
theorem dL_law_1095 : decode cL_law 1095 = .ok (.iaload, 1) := by decide +kernel
theorem dL_law_1096 : decode cL_law 1096 = .ok (.invokevirtual 142, 3) := by decide +kernel
theorem dL_law_1099 : decode cL_law 1099 = .ok (.aload_n 2, 1) := by decide +kernel
theorem dL_law_1100 : decode cL_law 1100 = .ok (.aload_n 0, 1) := by decide +kernel
theorem dL_law_1101 : decode cL_law 1101 = .ok (.iload_n 3, 1) := by decide +kernel
theorem dL_law_1102 : decode cL_law 1102 = .ok (.iconst 1, 1) := by decide +kernel
theorem dL_law_1103 : decode cL_law 1103 = .ok (.iadd, 1) := by decide +kernel
theorem dL_law_1104 : decode cL_law 1104 = .ok (.iaload, 1) := by decide +kernel
theorem dL_law_1105 : decode cL_law 1105 = .ok (.invokevirtual 145, 3) := by decide +kernel
theorem dL_law_1108 : decode cL_law 1108 = .ok (.if_icmp .eq 180, 3) := by decide +kernel
theorem dL_law_1111 : decode cL_law 1111 = .ok (.iconst 0, 1) := by decide +kernel
theorem dL_law_1112 : decode cL_law 1112 = .ok (.ireturn, 1) := by decide +kernel
theorem dL_law_1113 : decode cL_law 1113 = .ok (.aload_n 1, 1) := by decide +kernel
theorem dL_law_1114 : decode cL_law 1114 = .ok (.aload_n 0, 1) := by decide +kernel
theorem dL_law_1115 : decode cL_law 1115 = .ok (.iload_n 3, 1) := by decide +kernel
theorem dL_law_1116 : decode cL_law 1116 = .ok (.iconst 1, 1) := by decide +kernel
theorem dL_law_1117 : decode cL_law 1117 = .ok (.iadd, 1) := by decide +kernel
theorem dL_law_1118 : decode cL_law 1118 = .ok (.iaload, 1) := by decide +kernel
theorem dL_law_1119 : decode cL_law 1119 = .ok (.aload_n 0, 1) := by decide +kernel
theorem dL_law_1120 : decode cL_law 1120 = .ok (.iload_n 3, 1) := by decide +kernel
theorem dL_law_1121 : decode cL_law 1121 = .ok (.iconst 2, 1) := by decide +kernel
theorem dL_law_1122 : decode cL_law 1122 = .ok (.iadd, 1) := by decide +kernel
theorem dL_law_1123 : decode cL_law 1123 = .ok (.iaload, 1) := by decide +kernel
theorem dL_law_1124 : decode cL_law 1124 = .ok (.aload_n 0, 1) := by decide +kernel
theorem dL_law_1125 : decode cL_law 1125 = .ok (.iload_n 3, 1) := by decide +kernel
theorem dL_law_1126 : decode cL_law 1126 = .ok (.iconst 3, 1) := by decide +kernel
theorem dL_law_1127 : decode cL_law 1127 = .ok (.iadd, 1) := by decide +kernel
theorem dL_law_1128 : decode cL_law 1128 = .ok (.iaload, 1) := by decide +kernel
theorem dL_law_1129 : decode cL_law 1129 = .ok (.invokevirtual 146, 3) := by decide +kernel
theorem dL_law_1132 : decode cL_law 1132 = .ok (.aload_n 2, 1) := by decide +kernel
theorem dL_law_1133 : decode cL_law 1133 = .ok (.aload_n 0, 1) := by decide +kernel
theorem dL_law_1134 : decode cL_law 1134 = .ok (.iload_n 3, 1) := by decide +kernel
theorem dL_law_1135 : decode cL_law 1135 = .ok (.iconst 1, 1) := by decide +kernel
theorem dL_law_1136 : decode cL_law 1136 = .ok (.iadd, 1) := by decide +kernel
theorem dL_law_1137 : decode cL_law 1137 = .ok (.iaload, 1) := by decide +kernel
theorem dL_law_1138 : decode cL_law 1138 = .ok (.aload_n 0, 1) := by decide +kernel
theorem dL_law_1139 : decode cL_law 1139 = .ok (.iload_n 3, 1) := by decide +kernel
theorem dL_law_1140 : decode cL_law 1140 = .ok (.iconst 2, 1) := by decide +kernel
theorem dL_law_1141 : decode cL_law 1141 = .ok (.iadd, 1) := by decide +kernel
theorem dL_law_1142 : decode cL_law 1142 = .ok (.iaload, 1) := by decide +kernel
theorem dL_law_1143 : decode cL_law 1143 = .ok (.aload_n 0, 1) := by decide +kernel
theorem dL_law_1144 : decode cL_law 1144 = .ok (.iload_n 3, 1) := by decide +kernel
theorem dL_law_1145 : decode cL_law 1145 = .ok (.iconst 3, 1) := by decide +kernel
theorem dL_law_1146 : decode cL_law 1146 = .ok (.iadd, 1) := by decide +kernel
theorem dL_law_1147 : decode cL_law 1147 = .ok (.iaload, 1) := by decide +kernel
theorem dL_law_1148 : decode cL_law 1148 = .ok (.invokevirtual 149, 3) := by decide +kernel
theorem dL_law_1151 : decode cL_law 1151 = .ok (.if_icmp .eq 137, 3) := by decide +kernel
theorem dL_law_1154 : decode cL_law 1154 = .ok (.iconst 0, 1) := by decide +kernel
theorem dL_law_1155 : decode cL_law 1155 = .ok (.ireturn, 1) := by decide +kernel
theorem dL_law_1156 : decode cL_law 1156 = .ok (.aload_n 1, 1) := by decide +kernel
theorem dL_law_1157 : decode cL_law 1157 = .ok (.aload_n 0, 1) := by decide +kernel
theorem dL_law_1158 : decode cL_law 1158 = .ok (.iload_n 3, 1) := by decide +kernel
theorem dL_law_1159 : decode cL_law 1159 = .ok (.iconst 1, 1) := by decide +kernel
theorem dL_law_1160 : decode cL_law 1160 = .ok (.iadd, 1) := by decide +kernel
theorem dL_law_1161 : decode cL_law 1161 = .ok (.iaload, 1) := by decide +kernel
theorem dL_law_1162 : decode cL_law 1162 = .ok (.aload_n 0, 1) := by decide +kernel
theorem dL_law_1163 : decode cL_law 1163 = .ok (.iload_n 3, 1) := by decide +kernel
theorem dL_law_1164 : decode cL_law 1164 = .ok (.iconst 2, 1) := by decide +kernel
theorem dL_law_1165 : decode cL_law 1165 = .ok (.iadd, 1) := by decide +kernel
theorem dL_law_1166 : decode cL_law 1166 = .ok (.iaload, 1) := by decide +kernel
theorem dL_law_1167 : decode cL_law 1167 = .ok (.aload_n 0, 1) := by decide +kernel
theorem dL_law_1168 : decode cL_law 1168 = .ok (.iload_n 3, 1) := by decide +kernel
theorem dL_law_1169 : decode cL_law 1169 = .ok (.iconst 3, 1) := by decide +kernel
theorem dL_law_1170 : decode cL_law 1170 = .ok (.iadd, 1) := by decide +kernel
theorem dL_law_1171 : decode cL_law 1171 = .ok (.iaload, 1) := by decide +kernel
theorem dL_law_1172 : decode cL_law 1172 = .ok (.invokevirtual 150, 3) := by decide +kernel
theorem dL_law_1175 : decode cL_law 1175 = .ok (.aload_n 2, 1) := by decide +kernel
theorem dL_law_1176 : decode cL_law 1176 = .ok (.aload_n 0, 1) := by decide +kernel
theorem dL_law_1177 : decode cL_law 1177 = .ok (.iload_n 3, 1) := by decide +kernel
theorem dL_law_1178 : decode cL_law 1178 = .ok (.iconst 1, 1) := by decide +kernel
theorem dL_law_1179 : decode cL_law 1179 = .ok (.iadd, 1) := by decide +kernel
theorem dL_law_1180 : decode cL_law 1180 = .ok (.iaload, 1) := by decide +kernel
theorem dL_law_1181 : decode cL_law 1181 = .ok (.aload_n 0, 1) := by decide +kernel
theorem dL_law_1182 : decode cL_law 1182 = .ok (.iload_n 3, 1) := by decide +kernel
theorem dL_law_1183 : decode cL_law 1183 = .ok (.iconst 2, 1) := by decide +kernel
theorem dL_law_1184 : decode cL_law 1184 = .ok (.iadd, 1) := by decide +kernel
theorem dL_law_1185 : decode cL_law 1185 = .ok (.iaload, 1) := by decide +kernel
theorem dL_law_1186 : decode cL_law 1186 = .ok (.aload_n 0, 1) := by decide +kernel
theorem dL_law_1187 : decode cL_law 1187 = .ok (.iload_n 3, 1) := by decide +kernel
theorem dL_law_1188 : decode cL_law 1188 = .ok (.iconst 3, 1) := by decide +kernel
theorem dL_law_1189 : decode cL_law 1189 = .ok (.iadd, 1) := by decide +kernel
theorem dL_law_1190 : decode cL_law 1190 = .ok (.iaload, 1) := by decide +kernel
theorem dL_law_1191 : decode cL_law 1191 = .ok (.invokevirtual 153, 3) := by decide +kernel
theorem dL_law_1194 : decode cL_law 1194 = .ok (.if_icmp .eq 94, 3) := by decide +kernel
theorem dL_law_1197 : decode cL_law 1197 = .ok (.iconst 0, 1) := by decide +kernel
theorem dL_law_1198 : decode cL_law 1198 = .ok (.ireturn, 1) := by decide +kernel
theorem dL_law_1199 : decode cL_law 1199 = .ok (.aload_n 1, 1) := by decide +kernel
theorem dL_law_1200 : decode cL_law 1200 = .ok (.aload_n 0, 1) := by decide +kernel
theorem dL_law_1201 : decode cL_law 1201 = .ok (.iload_n 3, 1) := by decide +kernel
theorem dL_law_1202 : decode cL_law 1202 = .ok (.iconst 1, 1) := by decide +kernel
theorem dL_law_1203 : decode cL_law 1203 = .ok (.iadd, 1) := by decide +kernel
theorem dL_law_1204 : decode cL_law 1204 = .ok (.iaload, 1) := by decide +kernel
theorem dL_law_1205 : decode cL_law 1205 = .ok (.aload_n 0, 1) := by decide +kernel
theorem dL_law_1206 : decode cL_law 1206 = .ok (.iload_n 3, 1) := by decide +kernel
theorem dL_law_1207 : decode cL_law 1207 = .ok (.iconst 2, 1) := by decide +kernel
theorem dL_law_1208 : decode cL_law 1208 = .ok (.iadd, 1) := by decide +kernel
theorem dL_law_1209 : decode cL_law 1209 = .ok (.iaload, 1) := by decide +kernel
theorem dL_law_1210 : decode cL_law 1210 = .ok (.aload_n 0, 1) := by decide +kernel
theorem dL_law_1211 : decode cL_law 1211 = .ok (.iload_n 3, 1) := by decide +kernel
theorem dL_law_1212 : decode cL_law 1212 = .ok (.iconst 3, 1) := by decide +kernel
theorem dL_law_1213 : decode cL_law 1213 = .ok (.iadd, 1) := by decide +kernel
theorem dL_law_1214 : decode cL_law 1214 = .ok (.iaload, 1) := by decide +kernel
theorem dL_law_1215 : decode cL_law 1215 = .ok (.aload_n 0, 1) := by decide +kernel
theorem dL_law_1216 : decode cL_law 1216 = .ok (.iload_n 3, 1) := by decide +kernel
theorem dL_law_1217 : decode cL_law 1217 = .ok (.iconst 4, 1) := by decide +kernel
theorem dL_law_1218 : decode cL_law 1218 = .ok (.iadd, 1) := by decide +kernel
theorem dL_law_1219 : decode cL_law 1219 = .ok (.iaload, 1) := by decide +kernel
theorem dL_law_1220 : decode cL_law 1220 = .ok (.invokevirtual 154, 3) := by decide +kernel
theorem dL_law_1223 : decode cL_law 1223 = .ok (.aload_n 2, 1) := by decide +kernel
theorem dL_law_1224 : decode cL_law 1224 = .ok (.aload_n 0, 1) := by decide +kernel
theorem dL_law_1225 : decode cL_law 1225 = .ok (.iload_n 3, 1) := by decide +kernel
theorem dL_law_1226 : decode cL_law 1226 = .ok (.iconst 1, 1) := by decide +kernel
theorem dL_law_1227 : decode cL_law 1227 = .ok (.iadd, 1) := by decide +kernel
theorem dL_law_1228 : decode cL_law 1228 = .ok (.iaload, 1) := by decide +kernel
theorem dL_law_1229 : decode cL_law 1229 = .ok (.aload_n 0, 1) := by decide +kernel
theorem dL_law_1230 : decode cL_law 1230 = .ok (.iload_n 3, 1) := by decide +kernel
theorem dL_law_1231 : decode cL_law 1231 = .ok (.iconst 2, 1) := by decide +kernel
theorem dL_law_1232 : decode cL_law 1232 = .ok (.iadd, 1) := by decide +kernel
theorem dL_law_1233 : decode cL_law 1233 = .ok (.iaload, 1) := by decide +kernel
theorem dL_law_1234 : decode cL_law 1234 = .ok (.aload_n 0, 1) := by decide +kernel
theorem dL_law_1235 : decode cL_law 1235 = .ok (.iload_n 3, 1) := by decide +kernel
theorem dL_law_1236 : decode cL_law 1236 = .ok (.iconst 3, 1) := by decide +kernel
theorem dL_law_1237 : decode cL_law 1237 = .ok (.iadd, 1) := by decide +kernel
theorem dL_law_1238 : decode cL_law 1238 = .ok (.iaload, 1) := by decide +kernel
theorem dL_law_1239 : decode cL_law 1239 = .ok (.aload_n 0, 1) := by decide +kernel
theorem dL_law_1240 : decode cL_law 1240 = .ok (.iload_n 3, 1) := by decide +kernel
theorem dL_law_1241 : decode cL_law 1241 = .ok (.iconst 4, 1) := by decide +kernel
theorem dL_law_1242 : decode cL_law 1242 = .ok (.iadd, 1) := by decide +kernel
theorem dL_law_1243 : decode cL_law 1243 = .ok (.iaload, 1) := by decide +kernel
theorem dL_law_1244 : decode cL_law 1244 = .ok (.invokevirtual 158, 3) := by decide +kernel
theorem dL_law_1247 : decode cL_law 1247 = .ok (.if_icmp .eq 41, 3) := by decide +kernel
theorem dL_law_1250 : decode cL_law 1250 = .ok (.iconst 0, 1) := by decide +kernel
theorem dL_law_1251 : decode cL_law 1251 = .ok (.ireturn, 1) := by decide +kernel
theorem dL_law_1252 : decode cL_law 1252 = .ok (.aload_n 1, 1) := by decide +kernel
theorem dL_law_1253 : decode cL_law 1253 = .ok (.invokevirtual 159, 3) := by decide +kernel
theorem dL_law_1256 : decode cL_law 1256 = .ok (.aload_n 2, 1) := by decide +kernel
theorem dL_law_1257 : decode cL_law 1257 = .ok (.invokevirtual 162, 3) := by decide +kernel
theorem dL_law_1260 : decode cL_law 1260 = .ok (.if_icmp .eq 28, 3) := by decide +kernel
theorem dL_law_1263 : decode cL_law 1263 = .ok (.iconst 0, 1) := by decide +kernel
theorem dL_law_1264 : decode cL_law 1264 = .ok (.ireturn, 1) := by decide +kernel
theorem dL_law_1265 : decode cL_law 1265 = .ok (.aload_n 1, 1) := by decide +kernel
theorem dL_law_1266 : decode cL_law 1266 = .ok (.aload_n 0, 1) := by decide +kernel
theorem dL_law_1267 : decode cL_law 1267 = .ok (.iload_n 3, 1) := by decide +kernel
theorem dL_law_1268 : decode cL_law 1268 = .ok (.iconst 1, 1) := by decide +kernel
theorem dL_law_1269 : decode cL_law 1269 = .ok (.iadd, 1) := by decide +kernel
theorem dL_law_1270 : decode cL_law 1270 = .ok (.iaload, 1) := by decide +kernel
theorem dL_law_1271 : decode cL_law 1271 = .ok (.invokevirtual 163, 3) := by decide +kernel
theorem dL_law_1274 : decode cL_law 1274 = .ok (.aload_n 2, 1) := by decide +kernel
theorem dL_law_1275 : decode cL_law 1275 = .ok (.aload_n 0, 1) := by decide +kernel
theorem dL_law_1276 : decode cL_law 1276 = .ok (.iload_n 3, 1) := by decide +kernel
theorem dL_law_1277 : decode cL_law 1277 = .ok (.iconst 1, 1) := by decide +kernel
theorem dL_law_1278 : decode cL_law 1278 = .ok (.iadd, 1) := by decide +kernel
theorem dL_law_1279 : decode cL_law 1279 = .ok (.iaload, 1) := by decide +kernel
theorem dL_law_1280 : decode cL_law 1280 = .ok (.invokevirtual 166, 3) := by decide +kernel
theorem dL_law_1283 : decode cL_law 1283 = .ok (.if_icmp .eq 5, 3) := by decide +kernel
theorem dL_law_1286 : decode cL_law 1286 = .ok (.iconst 0, 1) := by decide +kernel
theorem dL_law_1287 : decode cL_law 1287 = .ok (.ireturn, 1) := by decide +kernel
theorem dL_law_1288 : decode cL_law 1288 = .ok (.iinc 3 5, 3) := by decide +kernel
theorem dL_law_1291 : decode cL_law 1291 = .ok (.goto (-1273), 3) := by decide +kernel
theorem dL_law_1294 : decode cL_law 1294 = .ok (.iconst 1, 1) := by decide +kernel
theorem dL_law_1295 : decode cL_law 1295 = .ok (.ireturn, 1) := by decide +kernel
