set_option maxHeartbeats 1600000 in
theorem c_X12_init  (ρ : Rho) (I : Mem) (hI : I 97 = fun _ => 0) : MG yX12_init cX12_init 2 none 1 21 [.ref 97] 98 ρ I (fun r ρ9 I9 => r = none ∧ MS 119 ρ9 ∧ (QN I9 (twoK (dF dr0) (dB dr0)).1 (twoK (dF dr0) (dB dr0)).2 ∧ RW (twoK (dF dr0) (dB dr0)).1 ∧ BW (twoK (dF dr0) (dB dr0)).1 (twoK (dF dr0) (dB dr0)).2) ∧ (I9 98 19 = 0 ∧ I9 98 20 = 0 ∧ I9 98 37 = 0) ∧ (∀ k, k < 2 → I9 99 k = 0) ∧ (∀ z, 14 < z → I9 97 z = 0) ∧ (∀ k, k < 4 → I9 115 k = -4) ∧ (∀ a, 105 ≤ a → a < 119 → a ≠ 115 → I9 a = fun _ => 0) ∧ (∀ a, a < 97 → ρ9 a = ρ a) ∧ ∀ a, a < 97 → I9 a = I a) := by
  refine MG.of (by decide +kernel) (Nat.le_of_ble_eq_true rfl) (by omega) ?_
  intro κ C hR
  show G κ 98 ρ 0 [(0, .ref 97)] [] I
  have hl9 := SH_len
  have w0 : shp 97 = (21, 43) := by decide +kernel
  refine g_aload_n C (pc := 0) dX12_init_0 0 rfl ?_
  refine g_objInit C (pc := 1) gO_RX12 gO_inst gO_code (Nat.le_of_ble_eq_true rfl) dX12_init_1 ?_
  refine g_aload_n C (pc := 4) dX12_init_4 0 rfl ?_
  refine g_bipush C (pc := 5) 123 dX12_init_5 (by decide) ?_
  refine g_newa C (pc := 7) (at0 := .int) (n := 98) (kd := 0) (N := 123) rfl (Or.inl ⟨rfl, rfl⟩) gAC_int (by decide) (by decide) (by decide) (show shp 98 = (0, 123) by decide +kernel) (by omega) (by omega) (by omega) dX12_init_7 ?_
  refine g_putRA C (pc := 9) fl_RX12_7 (by decide) fp_11_0 (Or.inr ⟨rfl, fun C9 T9 N9 h9 => by (cases h9; rfl)⟩) w0 (by omega) (by omega) dX12_init_9 ?_
  refine ab_arr (n := 98) (i := 97) (k := 0) (by omega) fun ρ1 I1 p1 q1 r1 u1 z1 => ?_
  show G κ 99 ρ1 12 [(0, .ref 97)] [] I1
  refine g_aload_n C (pc := 12) dX12_init_12 0 rfl ?_
  refine g_iconst C (pc := 13) 2 dX12_init_13 (by decide) ?_
  refine g_newa C (pc := 14) (at0 := .boolean) (n := 99) (kd := 1) (N := 2) rfl (Or.inr (Or.inl ⟨rfl, rfl⟩)) gAC_boolean (by decide) (by decide) (by decide) (show shp 99 = (1, 2) by decide +kernel) (by omega) (by omega) (by omega) dX12_init_14 ?_
  refine g_putRA C (pc := 16) fl_RX12_13 (by decide) fp_11_1 (Or.inr ⟨rfl, fun C9 T9 N9 h9 => by (cases h9; rfl)⟩) w0 (by omega) (by omega) dX12_init_16 ?_
  refine ab_arr (n := 99) (i := 97) (k := 1) (by omega) fun ρ2 I2 p2 q2 r2 u2 z2 => ?_
  show G κ 100 ρ2 19 [(0, .ref 97)] [] I2
  refine g_aload_n C (pc := 19) dX12_init_19 0 rfl ?_
  refine g_bipush C (pc := 20) 6 dX12_init_20 (by decide) ?_
  refine g_newa C (pc := 22) (at0 := .int) (n := 100) (kd := 0) (N := 6) rfl (Or.inl ⟨rfl, rfl⟩) gAC_int (by decide) (by decide) (by decide) (show shp 100 = (0, 6) by decide +kernel) (by omega) (by omega) (by omega) dX12_init_22 ?_
  refine g_putRA C (pc := 24) fl_RX12_17 (by decide) fp_11_5 (Or.inr ⟨rfl, fun C9 T9 N9 h9 => by (cases h9; rfl)⟩) w0 (by omega) (by omega) dX12_init_24 ?_
  refine ab_arr (n := 100) (i := 97) (k := 5) (by omega) fun ρ3 I3 p3 q3 r3 u3 z3 => ?_
  show G κ 101 ρ3 27 [(0, .ref 97)] [] I3
  refine g_aload_n C (pc := 27) dX12_init_27 0 rfl ?_
  refine g_bipush C (pc := 28) 6 dX12_init_28 (by decide) ?_
  refine g_newa C (pc := 30) (at0 := .int) (n := 101) (kd := 0) (N := 6) rfl (Or.inl ⟨rfl, rfl⟩) gAC_int (by decide) (by decide) (by decide) (show shp 101 = (0, 6) by decide +kernel) (by omega) (by omega) (by omega) dX12_init_30 ?_
  refine g_putRA C (pc := 32) fl_RX12_20 (by decide) fp_11_6 (Or.inr ⟨rfl, fun C9 T9 N9 h9 => by (cases h9; rfl)⟩) w0 (by omega) (by omega) dX12_init_32 ?_
  refine ab_arr (n := 101) (i := 97) (k := 6) (by omega) fun ρ4 I4 p4 q4 r4 u4 z4 => ?_
  show G κ 102 ρ4 35 [(0, .ref 97)] [] I4
  refine g_aload_n C (pc := 35) dX12_init_35 0 rfl ?_
  refine g_bipush C (pc := 36) 41 dX12_init_36 (by decide) ?_
  refine g_newa C (pc := 38) (at0 := .int) (n := 102) (kd := 0) (N := 41) rfl (Or.inl ⟨rfl, rfl⟩) gAC_int (by decide) (by decide) (by decide) (show shp 102 = (0, 41) by decide +kernel) (by omega) (by omega) (by omega) dX12_init_38 ?_
  refine g_putRA C (pc := 40) fl_RX12_23 (by decide) fp_11_7 (Or.inr ⟨rfl, fun C9 T9 N9 h9 => by (cases h9; rfl)⟩) w0 (by omega) (by omega) dX12_init_40 ?_
  refine ab_arr (n := 102) (i := 97) (k := 7) (by omega) fun ρ5 I5 p5 q5 r5 u5 z5 => ?_
  show G κ 103 ρ5 43 [(0, .ref 97)] [] I5
  refine g_aload_n C (pc := 43) dX12_init_43 0 rfl ?_
  refine g_bipush C (pc := 44) 6 dX12_init_44 (by decide) ?_
  refine g_newa C (pc := 46) (at0 := .int) (n := 103) (kd := 0) (N := 6) rfl (Or.inl ⟨rfl, rfl⟩) gAC_int (by decide) (by decide) (by decide) (show shp 103 = (0, 6) by decide +kernel) (by omega) (by omega) (by omega) dX12_init_46 ?_
  refine g_putRA C (pc := 48) fl_RX12_26 (by decide) fp_11_11 (Or.inr ⟨rfl, fun C9 T9 N9 h9 => by (cases h9; rfl)⟩) w0 (by omega) (by omega) dX12_init_48 ?_
  refine ab_arr (n := 103) (i := 97) (k := 11) (by omega) fun ρ6 I6 p6 q6 r6 u6 z6 => ?_
  show G κ 104 ρ6 51 [(0, .ref 97)] [] I6
  refine g_aload_n C (pc := 51) dX12_init_51 0 rfl ?_
  refine g_bipush C (pc := 52) 6 dX12_init_52 (by decide) ?_
  refine g_newa C (pc := 54) (at0 := .int) (n := 104) (kd := 0) (N := 6) rfl (Or.inl ⟨rfl, rfl⟩) gAC_int (by decide) (by decide) (by decide) (show shp 104 = (0, 6) by decide +kernel) (by omega) (by omega) (by omega) dX12_init_54 ?_
  refine g_putRA C (pc := 56) fl_RX12_29 (by decide) fp_11_12 (Or.inr ⟨rfl, fun C9 T9 N9 h9 => by (cases h9; rfl)⟩) w0 (by omega) (by omega) dX12_init_56 ?_
  refine ab_arr (n := 104) (i := 97) (k := 12) (by omega) fun ρ7 I7 p7 q7 r7 u7 z7 => ?_
  show G κ 105 ρ7 59 [(0, .ref 97)] [] I7
  refine g_aload_n C (pc := 59) dX12_init_59 0 rfl ?_
  refine g_sipush C (pc := 60) 320 dX12_init_60 (by decide) ?_
  refine g_newa C (pc := 63) (at0 := .int) (n := 105) (kd := 0) (N := 320) rfl (Or.inl ⟨rfl, rfl⟩) gAC_int (by decide) (by decide) (by decide) (show shp 105 = (0, 320) by decide +kernel) (by omega) (by omega) (by omega) dX12_init_63 ?_
  refine g_putRA C (pc := 65) fl_RX12_32 (by decide) fp_11_15 (Or.inr ⟨rfl, fun C9 T9 N9 h9 => by (cases h9; rfl)⟩) w0 (by omega) (by omega) dX12_init_65 ?_
  refine ab_arr (n := 105) (i := 97) (k := 15) (by omega) fun ρ8 I8 p8 q8 r8 u8 z8 => ?_
  show G κ 106 ρ8 68 [(0, .ref 97)] [] I8
  refine g_aload_n C (pc := 68) dX12_init_68 0 rfl ?_
  refine g_bipush C (pc := 69) 6 dX12_init_69 (by decide) ?_
  refine g_newa C (pc := 71) (at0 := .int) (n := 106) (kd := 0) (N := 6) rfl (Or.inl ⟨rfl, rfl⟩) gAC_int (by decide) (by decide) (by decide) (show shp 106 = (0, 6) by decide +kernel) (by omega) (by omega) (by omega) dX12_init_71 ?_
  refine g_putRA C (pc := 73) fl_RX12_35 (by decide) fp_11_23 (Or.inr ⟨rfl, fun C9 T9 N9 h9 => by (cases h9; rfl)⟩) w0 (by omega) (by omega) dX12_init_73 ?_
  refine ab_arr (n := 106) (i := 97) (k := 23) (by omega) fun ρ9 I9 p9 q9 r9 u9 z9 => ?_
  show G κ 107 ρ9 76 [(0, .ref 97)] [] I9
  refine g_aload_n C (pc := 76) dX12_init_76 0 rfl ?_
  refine g_bipush C (pc := 77) 6 dX12_init_77 (by decide) ?_
  refine g_newa C (pc := 79) (at0 := .int) (n := 107) (kd := 0) (N := 6) rfl (Or.inl ⟨rfl, rfl⟩) gAC_int (by decide) (by decide) (by decide) (show shp 107 = (0, 6) by decide +kernel) (by omega) (by omega) (by omega) dX12_init_79 ?_
  refine g_putRA C (pc := 81) fl_RX12_38 (by decide) fp_11_24 (Or.inr ⟨rfl, fun C9 T9 N9 h9 => by (cases h9; rfl)⟩) w0 (by omega) (by omega) dX12_init_81 ?_
  refine ab_arr (n := 107) (i := 97) (k := 24) (by omega) fun ρ10 I10 p10 q10 r10 u10 z10 => ?_
  show G κ 108 ρ10 84 [(0, .ref 97)] [] I10
  refine g_aload_n C (pc := 84) dX12_init_84 0 rfl ?_
  refine g_sipush C (pc := 85) 256 dX12_init_85 (by decide) ?_
  refine g_newa C (pc := 88) (at0 := .int) (n := 108) (kd := 0) (N := 256) rfl (Or.inl ⟨rfl, rfl⟩) gAC_int (by decide) (by decide) (by decide) (show shp 108 = (0, 256) by decide +kernel) (by omega) (by omega) (by omega) dX12_init_88 ?_
  refine g_putRA C (pc := 90) fl_RX12_41 (by decide) fp_11_26 (Or.inr ⟨rfl, fun C9 T9 N9 h9 => by (cases h9; rfl)⟩) w0 (by omega) (by omega) dX12_init_90 ?_
  refine ab_arr (n := 108) (i := 97) (k := 26) (by omega) fun ρ11 I11 p11 q11 r11 u11 z11 => ?_
  show G κ 109 ρ11 93 [(0, .ref 97)] [] I11
  refine g_aload_n C (pc := 93) dX12_init_93 0 rfl ?_
  refine g_iconst C (pc := 94) 4 dX12_init_94 (by decide) ?_
  refine g_newa C (pc := 95) (at0 := .int) (n := 109) (kd := 0) (N := 4) rfl (Or.inl ⟨rfl, rfl⟩) gAC_int (by decide) (by decide) (by decide) (show shp 109 = (0, 4) by decide +kernel) (by omega) (by omega) (by omega) dX12_init_95 ?_
  refine g_putRA C (pc := 97) fl_RX12_44 (by decide) fp_11_27 (Or.inr ⟨rfl, fun C9 T9 N9 h9 => by (cases h9; rfl)⟩) w0 (by omega) (by omega) dX12_init_97 ?_
  refine ab_arr (n := 109) (i := 97) (k := 27) (by omega) fun ρ12 I12 p12 q12 r12 u12 z12 => ?_
  show G κ 110 ρ12 100 [(0, .ref 97)] [] I12
  refine g_aload_n C (pc := 100) dX12_init_100 0 rfl ?_
  refine g_bipush C (pc := 101) 52 dX12_init_101 (by decide) ?_
  refine g_newa C (pc := 103) (at0 := .int) (n := 110) (kd := 0) (N := 52) rfl (Or.inl ⟨rfl, rfl⟩) gAC_int (by decide) (by decide) (by decide) (show shp 110 = (0, 52) by decide +kernel) (by omega) (by omega) (by omega) dX12_init_103 ?_
  refine g_putRA C (pc := 105) fl_RX12_47 (by decide) fp_11_28 (Or.inr ⟨rfl, fun C9 T9 N9 h9 => by (cases h9; rfl)⟩) w0 (by omega) (by omega) dX12_init_105 ?_
  refine ab_arr (n := 110) (i := 97) (k := 28) (by omega) fun ρ13 I13 p13 q13 r13 u13 z13 => ?_
  show G κ 111 ρ13 108 [(0, .ref 97)] [] I13
  refine g_aload_n C (pc := 108) dX12_init_108 0 rfl ?_
  refine g_iconst C (pc := 109) 3 dX12_init_109 (by decide) ?_
  refine g_newa C (pc := 110) (at0 := .int) (n := 111) (kd := 0) (N := 3) rfl (Or.inl ⟨rfl, rfl⟩) gAC_int (by decide) (by decide) (by decide) (show shp 111 = (0, 3) by decide +kernel) (by omega) (by omega) (by omega) dX12_init_110 ?_
  refine g_putRA C (pc := 112) fl_RX12_50 (by decide) fp_11_30 (Or.inr ⟨rfl, fun C9 T9 N9 h9 => by (cases h9; rfl)⟩) w0 (by omega) (by omega) dX12_init_112 ?_
  refine ab_arr (n := 111) (i := 97) (k := 30) (by omega) fun ρ14 I14 p14 q14 r14 u14 z14 => ?_
  show G κ 112 ρ14 115 [(0, .ref 97)] [] I14
  refine g_aload_n C (pc := 115) dX12_init_115 0 rfl ?_
  refine g_iconst C (pc := 116) 3 dX12_init_116 (by decide) ?_
  refine g_newa C (pc := 117) (at0 := .int) (n := 112) (kd := 0) (N := 3) rfl (Or.inl ⟨rfl, rfl⟩) gAC_int (by decide) (by decide) (by decide) (show shp 112 = (0, 3) by decide +kernel) (by omega) (by omega) (by omega) dX12_init_117 ?_
  refine g_putRA C (pc := 119) fl_RX12_53 (by decide) fp_11_31 (Or.inr ⟨rfl, fun C9 T9 N9 h9 => by (cases h9; rfl)⟩) w0 (by omega) (by omega) dX12_init_119 ?_
  refine ab_arr (n := 112) (i := 97) (k := 31) (by omega) fun ρ15 I15 p15 q15 r15 u15 z15 => ?_
  show G κ 113 ρ15 122 [(0, .ref 97)] [] I15
  refine g_aload_n C (pc := 122) dX12_init_122 0 rfl ?_
  refine g_iconst C (pc := 123) 3 dX12_init_123 (by decide) ?_
  refine g_newa C (pc := 124) (at0 := .int) (n := 113) (kd := 0) (N := 3) rfl (Or.inl ⟨rfl, rfl⟩) gAC_int (by decide) (by decide) (by decide) (show shp 113 = (0, 3) by decide +kernel) (by omega) (by omega) (by omega) dX12_init_124 ?_
  refine g_putRA C (pc := 126) fl_RX12_56 (by decide) fp_11_32 (Or.inr ⟨rfl, fun C9 T9 N9 h9 => by (cases h9; rfl)⟩) w0 (by omega) (by omega) dX12_init_126 ?_
  refine ab_arr (n := 113) (i := 97) (k := 32) (by omega) fun ρ16 I16 p16 q16 r16 u16 z16 => ?_
  show G κ 114 ρ16 129 [(0, .ref 97)] [] I16
  refine g_aload_n C (pc := 129) dX12_init_129 0 rfl ?_
  refine g_iconst C (pc := 130) 3 dX12_init_130 (by decide) ?_
  refine g_newa C (pc := 131) (at0 := .int) (n := 114) (kd := 0) (N := 3) rfl (Or.inl ⟨rfl, rfl⟩) gAC_int (by decide) (by decide) (by decide) (show shp 114 = (0, 3) by decide +kernel) (by omega) (by omega) (by omega) dX12_init_131 ?_
  refine g_putRA C (pc := 133) fl_RX12_59 (by decide) fp_11_33 (Or.inr ⟨rfl, fun C9 T9 N9 h9 => by (cases h9; rfl)⟩) w0 (by omega) (by omega) dX12_init_133 ?_
  refine ab_arr (n := 114) (i := 97) (k := 33) (by omega) fun ρ17 I17 p17 q17 r17 u17 z17 => ?_
  show G κ 115 ρ17 136 [(0, .ref 97)] [] I17
  refine g_aload_n C (pc := 136) dX12_init_136 0 rfl ?_
  refine g_iconst C (pc := 137) 4 dX12_init_137 (by decide) ?_
  refine g_newa C (pc := 138) (at0 := .int) (n := 115) (kd := 0) (N := 4) rfl (Or.inl ⟨rfl, rfl⟩) gAC_int (by decide) (by decide) (by decide) (show shp 115 = (0, 4) by decide +kernel) (by omega) (by omega) (by omega) dX12_init_138 ?_
  refine g_putRA C (pc := 140) fl_RX12_62 (by decide) fp_11_38 (Or.inr ⟨rfl, fun C9 T9 N9 h9 => by (cases h9; rfl)⟩) w0 (by omega) (by omega) dX12_init_140 ?_
  refine ab_arr (n := 115) (i := 97) (k := 38) (by omega) fun ρ18 I18 p18 q18 r18 u18 z18 => ?_
  show G κ 116 ρ18 143 [(0, .ref 97)] [] I18
  refine g_aload_n C (pc := 143) dX12_init_143 0 rfl ?_
  refine g_iconst C (pc := 144) 4 dX12_init_144 (by decide) ?_
  refine g_newa C (pc := 145) (at0 := .int) (n := 116) (kd := 0) (N := 4) rfl (Or.inl ⟨rfl, rfl⟩) gAC_int (by decide) (by decide) (by decide) (show shp 116 = (0, 4) by decide +kernel) (by omega) (by omega) (by omega) dX12_init_145 ?_
  refine g_putRA C (pc := 147) fl_RX12_65 (by decide) fp_11_39 (Or.inr ⟨rfl, fun C9 T9 N9 h9 => by (cases h9; rfl)⟩) w0 (by omega) (by omega) dX12_init_147 ?_
  refine ab_arr (n := 116) (i := 97) (k := 39) (by omega) fun ρ19 I19 p19 q19 r19 u19 z19 => ?_
  show G κ 117 ρ19 150 [(0, .ref 97)] [] I19
  refine g_aload_n C (pc := 150) dX12_init_150 0 rfl ?_
  refine g_sipush C (pc := 151) 160 dX12_init_151 (by decide) ?_
  refine g_newa C (pc := 154) (at0 := .int) (n := 117) (kd := 0) (N := 160) rfl (Or.inl ⟨rfl, rfl⟩) gAC_int (by decide) (by decide) (by decide) (show shp 117 = (0, 160) by decide +kernel) (by omega) (by omega) (by omega) dX12_init_154 ?_
  refine g_putRA C (pc := 156) fl_RX12_68 (by decide) fp_11_40 (Or.inr ⟨rfl, fun C9 T9 N9 h9 => by (cases h9; rfl)⟩) w0 (by omega) (by omega) dX12_init_156 ?_
  refine ab_arr (n := 117) (i := 97) (k := 40) (by omega) fun ρ20 I20 p20 q20 r20 u20 z20 => ?_
  show G κ 118 ρ20 159 [(0, .ref 97)] [] I20
  refine g_aload_n C (pc := 159) dX12_init_159 0 rfl ?_
  refine g_bipush C (pc := 160) 20 dX12_init_160 (by decide) ?_
  refine g_newa C (pc := 162) (at0 := .int) (n := 118) (kd := 0) (N := 20) rfl (Or.inl ⟨rfl, rfl⟩) gAC_int (by decide) (by decide) (by decide) (show shp 118 = (0, 20) by decide +kernel) (by omega) (by omega) (by omega) dX12_init_162 ?_
  refine g_putRA C (pc := 164) fl_RX12_71 (by decide) fp_11_42 (Or.inr ⟨rfl, fun C9 T9 N9 h9 => by (cases h9; rfl)⟩) w0 (by omega) (by omega) dX12_init_164 ?_
  refine ab_arr (n := 118) (i := 97) (k := 42) (by omega) fun ρ21 I21 p21 q21 r21 u21 z21 => ?_
  show G κ 119 ρ21 167 [(0, .ref 97)] [] I21
  have MM : MS 119 ρ21 := by
    refine ⟨by decide, ⟨?_, ?_, ?_, ?_, ?_, ?_, ?_, ?_⟩, ⟨?_, ?_, ?_, ?_, ?_, ?_, ?_, ?_, ?_⟩, ⟨?_, ?_, ?_, ?_⟩⟩
    · exact ((q21 0 (by decide)).trans ((q20 0 (by decide)).trans ((q19 0 (by decide)).trans ((q18 0 (by decide)).trans ((q17 0 (by decide)).trans ((q16 0 (by decide)).trans ((q15 0 (by decide)).trans ((q14 0 (by decide)).trans ((q13 0 (by decide)).trans ((q12 0 (by decide)).trans ((q11 0 (by decide)).trans ((q10 0 (by decide)).trans ((q9 0 (by decide)).trans ((q8 0 (by decide)).trans ((q7 0 (by decide)).trans ((q6 0 (by decide)).trans ((q5 0 (by decide)).trans ((q4 0 (by decide)).trans ((q3 0 (by decide)).trans ((q2 0 (by decide)).trans r1))))))))))))))))))))
    · exact ((q21 1 (by decide)).trans ((q20 1 (by decide)).trans ((q19 1 (by decide)).trans ((q18 1 (by decide)).trans ((q17 1 (by decide)).trans ((q16 1 (by decide)).trans ((q15 1 (by decide)).trans ((q14 1 (by decide)).trans ((q13 1 (by decide)).trans ((q12 1 (by decide)).trans ((q11 1 (by decide)).trans ((q10 1 (by decide)).trans ((q9 1 (by decide)).trans ((q8 1 (by decide)).trans ((q7 1 (by decide)).trans ((q6 1 (by decide)).trans ((q5 1 (by decide)).trans ((q4 1 (by decide)).trans ((q3 1 (by decide)).trans r2)))))))))))))))))))
    · exact ((q21 5 (by decide)).trans ((q20 5 (by decide)).trans ((q19 5 (by decide)).trans ((q18 5 (by decide)).trans ((q17 5 (by decide)).trans ((q16 5 (by decide)).trans ((q15 5 (by decide)).trans ((q14 5 (by decide)).trans ((q13 5 (by decide)).trans ((q12 5 (by decide)).trans ((q11 5 (by decide)).trans ((q10 5 (by decide)).trans ((q9 5 (by decide)).trans ((q8 5 (by decide)).trans ((q7 5 (by decide)).trans ((q6 5 (by decide)).trans ((q5 5 (by decide)).trans ((q4 5 (by decide)).trans r3))))))))))))))))))
    · exact ((q21 6 (by decide)).trans ((q20 6 (by decide)).trans ((q19 6 (by decide)).trans ((q18 6 (by decide)).trans ((q17 6 (by decide)).trans ((q16 6 (by decide)).trans ((q15 6 (by decide)).trans ((q14 6 (by decide)).trans ((q13 6 (by decide)).trans ((q12 6 (by decide)).trans ((q11 6 (by decide)).trans ((q10 6 (by decide)).trans ((q9 6 (by decide)).trans ((q8 6 (by decide)).trans ((q7 6 (by decide)).trans ((q6 6 (by decide)).trans ((q5 6 (by decide)).trans r4)))))))))))))))))
    · exact ((q21 7 (by decide)).trans ((q20 7 (by decide)).trans ((q19 7 (by decide)).trans ((q18 7 (by decide)).trans ((q17 7 (by decide)).trans ((q16 7 (by decide)).trans ((q15 7 (by decide)).trans ((q14 7 (by decide)).trans ((q13 7 (by decide)).trans ((q12 7 (by decide)).trans ((q11 7 (by decide)).trans ((q10 7 (by decide)).trans ((q9 7 (by decide)).trans ((q8 7 (by decide)).trans ((q7 7 (by decide)).trans ((q6 7 (by decide)).trans r5))))))))))))))))
    · exact ((q21 11 (by decide)).trans ((q20 11 (by decide)).trans ((q19 11 (by decide)).trans ((q18 11 (by decide)).trans ((q17 11 (by decide)).trans ((q16 11 (by decide)).trans ((q15 11 (by decide)).trans ((q14 11 (by decide)).trans ((q13 11 (by decide)).trans ((q12 11 (by decide)).trans ((q11 11 (by decide)).trans ((q10 11 (by decide)).trans ((q9 11 (by decide)).trans ((q8 11 (by decide)).trans ((q7 11 (by decide)).trans r6)))))))))))))))
    · exact ((q21 12 (by decide)).trans ((q20 12 (by decide)).trans ((q19 12 (by decide)).trans ((q18 12 (by decide)).trans ((q17 12 (by decide)).trans ((q16 12 (by decide)).trans ((q15 12 (by decide)).trans ((q14 12 (by decide)).trans ((q13 12 (by decide)).trans ((q12 12 (by decide)).trans ((q11 12 (by decide)).trans ((q10 12 (by decide)).trans ((q9 12 (by decide)).trans ((q8 12 (by decide)).trans r7))))))))))))))
    · exact ((q21 15 (by decide)).trans ((q20 15 (by decide)).trans ((q19 15 (by decide)).trans ((q18 15 (by decide)).trans ((q17 15 (by decide)).trans ((q16 15 (by decide)).trans ((q15 15 (by decide)).trans ((q14 15 (by decide)).trans ((q13 15 (by decide)).trans ((q12 15 (by decide)).trans ((q11 15 (by decide)).trans ((q10 15 (by decide)).trans ((q9 15 (by decide)).trans r8)))))))))))))
    · exact ((q21 23 (by decide)).trans ((q20 23 (by decide)).trans ((q19 23 (by decide)).trans ((q18 23 (by decide)).trans ((q17 23 (by decide)).trans ((q16 23 (by decide)).trans ((q15 23 (by decide)).trans ((q14 23 (by decide)).trans ((q13 23 (by decide)).trans ((q12 23 (by decide)).trans ((q11 23 (by decide)).trans ((q10 23 (by decide)).trans r9))))))))))))
    · exact ((q21 24 (by decide)).trans ((q20 24 (by decide)).trans ((q19 24 (by decide)).trans ((q18 24 (by decide)).trans ((q17 24 (by decide)).trans ((q16 24 (by decide)).trans ((q15 24 (by decide)).trans ((q14 24 (by decide)).trans ((q13 24 (by decide)).trans ((q12 24 (by decide)).trans ((q11 24 (by decide)).trans r10)))))))))))
    · exact ((q21 26 (by decide)).trans ((q20 26 (by decide)).trans ((q19 26 (by decide)).trans ((q18 26 (by decide)).trans ((q17 26 (by decide)).trans ((q16 26 (by decide)).trans ((q15 26 (by decide)).trans ((q14 26 (by decide)).trans ((q13 26 (by decide)).trans ((q12 26 (by decide)).trans r11))))))))))
    · exact ((q21 27 (by decide)).trans ((q20 27 (by decide)).trans ((q19 27 (by decide)).trans ((q18 27 (by decide)).trans ((q17 27 (by decide)).trans ((q16 27 (by decide)).trans ((q15 27 (by decide)).trans ((q14 27 (by decide)).trans ((q13 27 (by decide)).trans r12)))))))))
    · exact ((q21 28 (by decide)).trans ((q20 28 (by decide)).trans ((q19 28 (by decide)).trans ((q18 28 (by decide)).trans ((q17 28 (by decide)).trans ((q16 28 (by decide)).trans ((q15 28 (by decide)).trans ((q14 28 (by decide)).trans r13))))))))
    · exact ((q21 30 (by decide)).trans ((q20 30 (by decide)).trans ((q19 30 (by decide)).trans ((q18 30 (by decide)).trans ((q17 30 (by decide)).trans ((q16 30 (by decide)).trans ((q15 30 (by decide)).trans r14)))))))
    · exact ((q21 31 (by decide)).trans ((q20 31 (by decide)).trans ((q19 31 (by decide)).trans ((q18 31 (by decide)).trans ((q17 31 (by decide)).trans ((q16 31 (by decide)).trans r15))))))
    · exact ((q21 32 (by decide)).trans ((q20 32 (by decide)).trans ((q19 32 (by decide)).trans ((q18 32 (by decide)).trans ((q17 32 (by decide)).trans r16)))))
    · exact ((q21 33 (by decide)).trans ((q20 33 (by decide)).trans ((q19 33 (by decide)).trans ((q18 33 (by decide)).trans r17))))
    · exact ((q21 38 (by decide)).trans ((q20 38 (by decide)).trans ((q19 38 (by decide)).trans r18)))
    · exact ((q21 39 (by decide)).trans ((q20 39 (by decide)).trans r19))
    · exact ((q21 40 (by decide)).trans r20)
    · exact r21
  have pp : ∀ a, a < 97 → ρ21 a = ρ a := fun a ha => by rw [p21 a (by omega) (by omega), p20 a (by omega) (by omega), p19 a (by omega) (by omega), p18 a (by omega) (by omega), p17 a (by omega) (by omega), p16 a (by omega) (by omega), p15 a (by omega) (by omega), p14 a (by omega) (by omega), p13 a (by omega) (by omega), p12 a (by omega) (by omega), p11 a (by omega) (by omega), p10 a (by omega) (by omega), p9 a (by omega) (by omega), p8 a (by omega) (by omega), p7 a (by omega) (by omega), p6 a (by omega) (by omega), p5 a (by omega) (by omega), p4 a (by omega) (by omega), p3 a (by omega) (by omega), p2 a (by omega) (by omega), p1 a (by omega) (by omega)]
  have uu : ∀ a, a < 98 → I21 a = I a := fun a ha => by rw [u21 a (by omega), u20 a (by omega), u19 a (by omega), u18 a (by omega), u17 a (by omega), u16 a (by omega), u15 a (by omega), u14 a (by omega), u13 a (by omega), u12 a (by omega), u11 a (by omega), u10 a (by omega), u9 a (by omega), u8 a (by omega), u7 a (by omega), u6 a (by omega), u5 a (by omega), u4 a (by omega), u3 a (by omega), u2 a (by omega), u1 a (by omega)]
  have zz : ∀ a, 98 ≤ a → a < 119 → I21 a = fun _ => 0 := by
    intro a h1 h2
    by_cases e1 : a < 99
    · rw [u21 a (by omega), u20 a (by omega), u19 a (by omega), u18 a (by omega), u17 a (by omega), u16 a (by omega), u15 a (by omega), u14 a (by omega), u13 a (by omega), u12 a (by omega), u11 a (by omega), u10 a (by omega), u9 a (by omega), u8 a (by omega), u7 a (by omega), u6 a (by omega), u5 a (by omega), u4 a (by omega), u3 a (by omega), u2 a (by omega)]; exact z1 a (by omega) (by omega)
    by_cases e2 : a < 100
    · rw [u21 a (by omega), u20 a (by omega), u19 a (by omega), u18 a (by omega), u17 a (by omega), u16 a (by omega), u15 a (by omega), u14 a (by omega), u13 a (by omega), u12 a (by omega), u11 a (by omega), u10 a (by omega), u9 a (by omega), u8 a (by omega), u7 a (by omega), u6 a (by omega), u5 a (by omega), u4 a (by omega), u3 a (by omega)]; exact z2 a (by omega) (by omega)
    by_cases e3 : a < 101
    · rw [u21 a (by omega), u20 a (by omega), u19 a (by omega), u18 a (by omega), u17 a (by omega), u16 a (by omega), u15 a (by omega), u14 a (by omega), u13 a (by omega), u12 a (by omega), u11 a (by omega), u10 a (by omega), u9 a (by omega), u8 a (by omega), u7 a (by omega), u6 a (by omega), u5 a (by omega), u4 a (by omega)]; exact z3 a (by omega) (by omega)
    by_cases e4 : a < 102
    · rw [u21 a (by omega), u20 a (by omega), u19 a (by omega), u18 a (by omega), u17 a (by omega), u16 a (by omega), u15 a (by omega), u14 a (by omega), u13 a (by omega), u12 a (by omega), u11 a (by omega), u10 a (by omega), u9 a (by omega), u8 a (by omega), u7 a (by omega), u6 a (by omega), u5 a (by omega)]; exact z4 a (by omega) (by omega)
    by_cases e5 : a < 103
    · rw [u21 a (by omega), u20 a (by omega), u19 a (by omega), u18 a (by omega), u17 a (by omega), u16 a (by omega), u15 a (by omega), u14 a (by omega), u13 a (by omega), u12 a (by omega), u11 a (by omega), u10 a (by omega), u9 a (by omega), u8 a (by omega), u7 a (by omega), u6 a (by omega)]; exact z5 a (by omega) (by omega)
    by_cases e6 : a < 104
    · rw [u21 a (by omega), u20 a (by omega), u19 a (by omega), u18 a (by omega), u17 a (by omega), u16 a (by omega), u15 a (by omega), u14 a (by omega), u13 a (by omega), u12 a (by omega), u11 a (by omega), u10 a (by omega), u9 a (by omega), u8 a (by omega), u7 a (by omega)]; exact z6 a (by omega) (by omega)
    by_cases e7 : a < 105
    · rw [u21 a (by omega), u20 a (by omega), u19 a (by omega), u18 a (by omega), u17 a (by omega), u16 a (by omega), u15 a (by omega), u14 a (by omega), u13 a (by omega), u12 a (by omega), u11 a (by omega), u10 a (by omega), u9 a (by omega), u8 a (by omega)]; exact z7 a (by omega) (by omega)
    by_cases e8 : a < 106
    · rw [u21 a (by omega), u20 a (by omega), u19 a (by omega), u18 a (by omega), u17 a (by omega), u16 a (by omega), u15 a (by omega), u14 a (by omega), u13 a (by omega), u12 a (by omega), u11 a (by omega), u10 a (by omega), u9 a (by omega)]; exact z8 a (by omega) (by omega)
    by_cases e9 : a < 107
    · rw [u21 a (by omega), u20 a (by omega), u19 a (by omega), u18 a (by omega), u17 a (by omega), u16 a (by omega), u15 a (by omega), u14 a (by omega), u13 a (by omega), u12 a (by omega), u11 a (by omega), u10 a (by omega)]; exact z9 a (by omega) (by omega)
    by_cases e10 : a < 108
    · rw [u21 a (by omega), u20 a (by omega), u19 a (by omega), u18 a (by omega), u17 a (by omega), u16 a (by omega), u15 a (by omega), u14 a (by omega), u13 a (by omega), u12 a (by omega), u11 a (by omega)]; exact z10 a (by omega) (by omega)
    by_cases e11 : a < 109
    · rw [u21 a (by omega), u20 a (by omega), u19 a (by omega), u18 a (by omega), u17 a (by omega), u16 a (by omega), u15 a (by omega), u14 a (by omega), u13 a (by omega), u12 a (by omega)]; exact z11 a (by omega) (by omega)
    by_cases e12 : a < 110
    · rw [u21 a (by omega), u20 a (by omega), u19 a (by omega), u18 a (by omega), u17 a (by omega), u16 a (by omega), u15 a (by omega), u14 a (by omega), u13 a (by omega)]; exact z12 a (by omega) (by omega)
    by_cases e13 : a < 111
    · rw [u21 a (by omega), u20 a (by omega), u19 a (by omega), u18 a (by omega), u17 a (by omega), u16 a (by omega), u15 a (by omega), u14 a (by omega)]; exact z13 a (by omega) (by omega)
    by_cases e14 : a < 112
    · rw [u21 a (by omega), u20 a (by omega), u19 a (by omega), u18 a (by omega), u17 a (by omega), u16 a (by omega), u15 a (by omega)]; exact z14 a (by omega) (by omega)
    by_cases e15 : a < 113
    · rw [u21 a (by omega), u20 a (by omega), u19 a (by omega), u18 a (by omega), u17 a (by omega), u16 a (by omega)]; exact z15 a (by omega) (by omega)
    by_cases e16 : a < 114
    · rw [u21 a (by omega), u20 a (by omega), u19 a (by omega), u18 a (by omega), u17 a (by omega)]; exact z16 a (by omega) (by omega)
    by_cases e17 : a < 115
    · rw [u21 a (by omega), u20 a (by omega), u19 a (by omega), u18 a (by omega)]; exact z17 a (by omega) (by omega)
    by_cases e18 : a < 116
    · rw [u21 a (by omega), u20 a (by omega), u19 a (by omega)]; exact z18 a (by omega) (by omega)
    by_cases e19 : a < 117
    · rw [u21 a (by omega), u20 a (by omega)]; exact z19 a (by omega) (by omega)
    by_cases e20 : a < 118
    · rw [u21 a (by omega)]; exact z20 a (by omega) (by omega)
    exact z21 a (by omega) (by omega)
  have R38 := MM.2.2.2.1
  clear p1 q1 r1 u1 z1 p2 q2 r2 u2 z2 p3 q3 r3 u3 z3 p4 q4 r4 u4 z4 p5 q5 r5 u5 z5 p6 q6 r6 u6 z6 p7 q7 r7 u7 z7 p8 q8 r8 u8 z8 p9 q9 r9 u9 z9 p10 q10 r10 u10 z10 p11 q11 r11 u11 z11 p12 q12 r12 u12 z12 p13 q13 r13 u13 z13 p14 q14 r14 u14 z14 p15 q15 r15 u15 z15 p16 q16 r16 u16 z16 p17 q17 r17 u17 z17 p18 q18 r18 u18 z18 p19 q19 r19 u19 z19 p20 q20 r20 u20 z20 p21 q21 r21 u21 z21
  refine g_iconst C (pc := 167) 0 dX12_init_167 (by decide) ?_
  refine g_istore_n C (pc := 168) dX12_init_168 (by decide) (fun v9 => [(1, .int v9), (0, .ref 97)]) (fun _ => rfl) (fun v9 ev9 => ?_)
  subst ev9
  show G κ 119 ρ21 169 [(1, .int (0)), (0, .ref 97)] [] I21
  refine g_iload_n C (pc := 169) dX12_init_169 0 rfl ?_
  refine g_iconst C (pc := 170) 4 dX12_init_170 (by decide) ?_
  refine g_icmp_ge C (pc := 171) 188 dX12_init_171 (by decide) (fun c9 => absurd c9 (by decide)) (fun c9 => ?_)
  refine g_aload_n C (pc := 174) dX12_init_174 1 rfl ?_
  refine g_getR C (pc := 175) fl_RX12_62 (by decide) w0 (by omega) R38 dX12_init_175 ?_
  refine g_iload_n C (pc := 178) dX12_init_178 0 rfl ?_
  refine g_bipush C (pc := 179) (-4) dX12_init_179 (by decide) ?_
  refine g_iast C (pc := 181) (N := 4) (show shp 115 = (0, 4) by decide +kernel) (by omega) (by omega) (show vp_in _ 4 from by unfold vp_in; decide) dX12_init_181 ?_
  refine g_iinc C (pc := 182) (1) dX12_init_182 0 rfl (by decide) (by decide) (fun v9 => [(1, .int v9), (0, .ref 97)]) (fun _ => rfl) (fun v9 ev9 => ?_)
  subst ev9
  refine g_goto C (pc := 185) 169 dX12_init_185 (by decide) ?_
  show G κ 119 ρ21 169 [(1, .int (0 + 1)), (0, .ref 97)] [] (wr I21 115 (0 : Int32).toNatClampNeg (-4))
  refine g_iload_n C (pc := 169) dX12_init_169 0 rfl ?_
  refine g_iconst C (pc := 170) 4 dX12_init_170 (by decide) ?_
  refine g_icmp_ge C (pc := 171) 188 dX12_init_171 (by decide) (fun c9 => absurd c9 (by decide)) (fun c9 => ?_)
  refine g_aload_n C (pc := 174) dX12_init_174 1 rfl ?_
  refine g_getR C (pc := 175) fl_RX12_62 (by decide) w0 (by omega) R38 dX12_init_175 ?_
  refine g_iload_n C (pc := 178) dX12_init_178 0 rfl ?_
  refine g_bipush C (pc := 179) (-4) dX12_init_179 (by decide) ?_
  refine g_iast C (pc := 181) (N := 4) (show shp 115 = (0, 4) by decide +kernel) (by omega) (by omega) (show vp_in _ 4 from by unfold vp_in; decide) dX12_init_181 ?_
  refine g_iinc C (pc := 182) (1) dX12_init_182 0 rfl (by decide) (by decide) (fun v9 => [(1, .int v9), (0, .ref 97)]) (fun _ => rfl) (fun v9 ev9 => ?_)
  subst ev9
  refine g_goto C (pc := 185) 169 dX12_init_185 (by decide) ?_
  show G κ 119 ρ21 169 [(1, .int (0 + 1 + 1)), (0, .ref 97)] [] (wr (wr I21 115 (0 : Int32).toNatClampNeg (-4)) 115 (0 + 1 : Int32).toNatClampNeg (-4))
  refine g_iload_n C (pc := 169) dX12_init_169 0 rfl ?_
  refine g_iconst C (pc := 170) 4 dX12_init_170 (by decide) ?_
  refine g_icmp_ge C (pc := 171) 188 dX12_init_171 (by decide) (fun c9 => absurd c9 (by decide)) (fun c9 => ?_)
  refine g_aload_n C (pc := 174) dX12_init_174 1 rfl ?_
  refine g_getR C (pc := 175) fl_RX12_62 (by decide) w0 (by omega) R38 dX12_init_175 ?_
  refine g_iload_n C (pc := 178) dX12_init_178 0 rfl ?_
  refine g_bipush C (pc := 179) (-4) dX12_init_179 (by decide) ?_
  refine g_iast C (pc := 181) (N := 4) (show shp 115 = (0, 4) by decide +kernel) (by omega) (by omega) (show vp_in _ 4 from by unfold vp_in; decide) dX12_init_181 ?_
  refine g_iinc C (pc := 182) (1) dX12_init_182 0 rfl (by decide) (by decide) (fun v9 => [(1, .int v9), (0, .ref 97)]) (fun _ => rfl) (fun v9 ev9 => ?_)
  subst ev9
  refine g_goto C (pc := 185) 169 dX12_init_185 (by decide) ?_
  show G κ 119 ρ21 169 [(1, .int (0 + 1 + 1 + 1)), (0, .ref 97)] [] (wr (wr (wr I21 115 (0 : Int32).toNatClampNeg (-4)) 115 (0 + 1 : Int32).toNatClampNeg (-4)) 115 (0 + 1 + 1 : Int32).toNatClampNeg (-4))
  refine g_iload_n C (pc := 169) dX12_init_169 0 rfl ?_
  refine g_iconst C (pc := 170) 4 dX12_init_170 (by decide) ?_
  refine g_icmp_ge C (pc := 171) 188 dX12_init_171 (by decide) (fun c9 => absurd c9 (by decide)) (fun c9 => ?_)
  refine g_aload_n C (pc := 174) dX12_init_174 1 rfl ?_
  refine g_getR C (pc := 175) fl_RX12_62 (by decide) w0 (by omega) R38 dX12_init_175 ?_
  refine g_iload_n C (pc := 178) dX12_init_178 0 rfl ?_
  refine g_bipush C (pc := 179) (-4) dX12_init_179 (by decide) ?_
  refine g_iast C (pc := 181) (N := 4) (show shp 115 = (0, 4) by decide +kernel) (by omega) (by omega) (show vp_in _ 4 from by unfold vp_in; decide) dX12_init_181 ?_
  refine g_iinc C (pc := 182) (1) dX12_init_182 0 rfl (by decide) (by decide) (fun v9 => [(1, .int v9), (0, .ref 97)]) (fun _ => rfl) (fun v9 ev9 => ?_)
  subst ev9
  refine g_goto C (pc := 185) 169 dX12_init_185 (by decide) ?_
  show G κ 119 ρ21 169 [(1, .int (0 + 1 + 1 + 1 + 1)), (0, .ref 97)] [] (wr (wr (wr (wr I21 115 (0 : Int32).toNatClampNeg (-4)) 115 (0 + 1 : Int32).toNatClampNeg (-4)) 115 (0 + 1 + 1 : Int32).toNatClampNeg (-4)) 115 (0 + 1 + 1 + 1 : Int32).toNatClampNeg (-4))
  refine g_iload_n C (pc := 169) dX12_init_169 0 rfl ?_
  refine g_iconst C (pc := 170) 4 dX12_init_170 (by decide) ?_
  refine g_icmp_ge C (pc := 171) 188 dX12_init_171 (by decide) (fun c9 => ?_) (fun c9 => absurd c9 (by decide))
  refine ab_wr4 (fun J hK1 hK2 => ?_)
  refine g_aload_n C (pc := 188) dX12_init_188 1 rfl ?_
  refine g_callVV C (pc := 189) mf_X12_firstDraft lk_RX12_74 (c_X12_firstDraft 119 ρ21 J (by omega) MM) (by decide) (by omega) rfl w0 rfl (by omega) (Nat.le_of_ble_eq_true rfl) dX12_init_189 (fun J1 hJ1 => ?_)
  obtain ⟨D1, f1, g1⟩ := hJ1
  refine g_aload_n C (pc := 192) dX12_init_192 1 rfl ?_
  refine g_callVV C (pc := 193) mf_X12_twoKings lk_RX12_77 (c_X12_twoKings 119 ρ21 J1 (dF dr0) (dB dr0) (by omega) MM D1.n rfl) (by decide) (by omega) rfl w0 rfl (by omega) (Nat.le_of_ble_eq_true rfl) dX12_init_193 (fun J2 hJ2 => ?_)
  obtain ⟨D2, f2, g2⟩ := hJ2
  refine g_aload_n C (pc := 196) dX12_init_196 1 rfl ?_
  refine g_callVV C (pc := 197) mf_X12_keepDraft lk_RX12_80 (c_X12_keepDraft 119 ρ21 J2 _ _ (by omega) MM D2) (by decide) (by omega) rfl w0 rfl (by omega) (Nat.le_of_ble_eq_true rfl) dX12_init_197 (fun J3 hJ3 => ?_)
  obtain ⟨D3, b19, b20, b37, k99, f3, g3⟩ := hJ3
  refine g_vret C hR (pc := 200) (by omega) dX12_init_200 ?_
  have hJa : ∀ a, 104 < a → J3 a = J a := fun a ha => (g3 a (by omega)).trans ((g2 a (by omega) (by omega) (by omega) (by omega)).trans (g1 a (by omega) (by omega)))
  have hJb : ∀ a, a < 97 → J3 a = J a := fun a ha => (g3 a (by omega)).trans ((g2 a (by omega) (by omega) (by omega) (by omega)).trans (g1 a (by omega) (by omega)))
  refine ⟨rfl, MM, ⟨D3, twoK_W dr0_rw dr0_bw rfl⟩, ⟨b19, b20, b37⟩, k99, fun z hz => ?_, fun k hk => ?_, fun a h1 h2 h3 => ?_, pp, fun a ha => ?_⟩
  · rw [f3 z (by omega) (by omega) (by omega), f2 z (by omega), f1 z (by omega) (by omega) (by omega) (by omega) (by omega), hK2 97 (by omega), uu 97 (by omega), hI]
  · rw [hJa 115 (by omega)]; exact hK1 k hk
  · rw [hJa a (by omega), hK2 a h3]; exact zz a (by omega) (by omega)
  · rw [hJb a ha, hK2 a (by omega)]; exact uu a (by omega)
