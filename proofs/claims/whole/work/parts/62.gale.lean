theorem gal_s (s : Int32) : s >>> ((16 : Int32) &&& 31) &&& 32767 = nI (galN s) := by
  rw [← gal_n s]
  refine b_ext fun i hi => ?_
  have hb : ∀ i, i < 32 → bt 32767 i = decide (i < 15) := by decide
  have h1 := b_sshr 16 (by decide) s hi
  have h2 := b_ushr 16 (by decide) s i
  have e : (16 : Int32) = nI 16 := rfl
  rw [b_and, b_and, hb i hi, e, h1, h2]
  by_cases h : i < 15
  · rw [if_pos (by omega)]
  · simp [h]
set_option maxHeartbeats 1600000 in
theorem c_X12_gale (n : Nat) (ρ : Rho) (I : Mem) (F : RT) (b : BT) (x z u : Int32) (hn9 : n ≤ 999) (hms : MS n ρ) (hqn : QN I F b) (hrw : RW F) (hbw : BW F b) (hl1 : L1 F b) (hpw : PW F b) (hao : 0 < allO F) : MI yX12_gale cX12_gale 8 (some .int) 4 [.ref 97, .int x, .int z, .int u] n ρ I (fun v I1 => ((∃ m, (1 ≤ m ∧ m ≤ 60 ∧ z = nI m ∧ (u = 0 ∨ u = 1)) ∧ v = (if u = 0 then nI (galS F m x b).1 else oI (lostB F (galS F m x b).2))) ∨ (¬ (∃ m, (1 ≤ m ∧ m ≤ 60 ∧ z = nI m ∧ (u = 0 ∨ u = 1))) ∧ v = -1)) ∧ Kp I I1) := by
  refine MG.of (by decide +kernel) (Nat.le_of_ble_eq_true rfl) hn9 ?_
  intro κ C hR
  show G κ n ρ 0 [(0, .ref 97), (1, .int x), (2, .int z), (3, .int u)] [] I
  obtain ⟨mn, ⟨m0, m1, m5, m6, m7, m11, m12, m15⟩, ⟨m23, m24, m26, m27, m28, m30, m31, m32, m33⟩, ⟨m38, m39, m40, m42⟩⟩ := id hms
  obtain ⟨hqf, hqe, hqs, hqt⟩ := id hqn
  obtain ⟨qw, qh, qn, qk⟩ := id hqf
  have hn6 : rN F ≤ 6 := hrw.2.2.2.2.1
  have hm25 := Nat.mul_le_mul hrw.2.1 hrw.2.2.2.1
  have hm4 := Nat.mul_le_mul hrw.1 hrw.2.2.1
  have hAO := allO_le hrw
  refine g_iload_n C (pc := 0) dX12_gale_0 2 rfl ?_
  refine g_i2l C (pc := 1) dX12_gale_1 ?_
  refine g_lconst C (pc := 2) 1 dX12_gale_2 (by decide) ?_
  refine g_ldc2 C (pc := 3) _ gk_RX12_346 dX12_gale_3 ?_
  refine g_callSI C (pc := 6) mf_X12_in lk_RX12_113 (c_X12_in n ρ I _ _ _ hn9) (by decide) (Nat.le_refl _) rfl (Nat.le_of_ble_eq_true rfl) dX12_gale_6 (fun v6 I6 h6 => ?_)
  obtain ⟨e6, rfl⟩ := h6
  refine g_if_eq C (pc := 9) 22 dX12_gale_9 (by decide) (fun c9 => ?_) (fun c9 => ?_)
  · have hz := fun h => bI_0.mp (e6.symm.trans c9) ((inL (x := z) (lo := 1) (hi := 60) (by decide) (by decide)).mpr h)
    refine g_iconst C (pc := 22) (-1) dX12_gale_22 (by decide) ?_
    refine g_iret C hR (pc := 23) rfl dX12_gale_23 ?_
    refine ⟨rfl, _, rfl, ?_⟩
    refine ⟨Or.inr ⟨?_, rfl⟩, Kp.rfl'⟩
    rintro ⟨m9, h1, h2, h3, h4⟩
    first | exact hz ⟨m9, h1, h2, h3⟩ | exact hu h4
  · obtain ⟨m, hml, hmh, hzm⟩ := (inL (x := z) (lo := 1) (hi := 60) (by decide) (by decide)).mp (bI_1.mp (fun h => c9 (e6.trans h)))
    refine g_iload_n C (pc := 12) dX12_gale_12 3 rfl ?_
    refine g_i2l C (pc := 13) dX12_gale_13 ?_
    refine g_lconst C (pc := 14) 0 dX12_gale_14 (by decide) ?_
    refine g_lconst C (pc := 15) 1 dX12_gale_15 (by decide) ?_
    refine g_callSI C (pc := 16) mf_X12_in lk_RX12_113 (c_X12_in n ρ I _ _ _ hn9) (by decide) (Nat.le_refl _) rfl (Nat.le_of_ble_eq_true rfl) dX12_gale_16 (fun v16 I16 h16 => ?_)
    obtain ⟨e16, rfl⟩ := h16
    refine g_if_ne C (pc := 19) 24 dX12_gale_19 (by decide) (fun c19 => ?_) (fun c19 => ?_)
    · have hu := inU.mp (bI_1.mp (fun h => c19 (e16.trans h)))
      refine g_aload_n C (pc := 24) dX12_gale_24 0 rfl ?_
      refine g_callVV C (pc := 25) mf_X12_starts lk_RX12_227 (c_X12_startsB n ρ I F b hn9 hms hqn hrw hbw) (by decide) (Nat.le_refl _) rfl (by first | assumption | rfl | omega) rfl (by first | assumption | rfl | omega) (Nat.le_of_ble_eq_true rfl) dX12_gale_25 (fun I25 h25 => ?_)
      obtain ⟨f25, k25⟩ := h25
      refine g_iload_n C (pc := 28) dX12_gale_28 1 rfl ?_
      refine g_istore C (pc := 29) dX12_gale_29 (by decide) (fun v29 => [(4, .int v29), (0, .ref 97), (1, .int x), (2, .int z), (3, .int u)]) (fun _ => rfl) (fun v29 ev29 => ?_)
      refine g_iconst C (pc := 31) 0 dX12_gale_31 (by decide) ?_
      refine g_istore C (pc := 32) dX12_gale_32 (by decide) (fun v32 => [(5, .int v32), (4, .int v29), (0, .ref 97), (1, .int x), (2, .int z), (3, .int u)]) (fun _ => rfl) (fun v32 ev32 => ?_)
      have L34 : ∀ (k9 : Nat) (j : Nat) (bj : BT) (wz5 : Int32) (wz4 : Int32) (J : Mem) (hw5 : wz5 = nI j) (hj : j ≤ m) (hG : galS F m x b = (j + (galS F (m - j) wz4 bj).1, (galS F (m - j) wz4 bj).2)) (hB : QB J F bj) (hW : BW F bj) (hL : L1 F bj) (hP : PW F bj) (hkJ : Kp I J), m - j < k9 → G κ n ρ 34 [(5, .int wz5), (4, .int wz4), (0, .ref 97), (1, .int x), (2, .int z), (3, .int u)] [] J := by
        intro k9
        induction k9 with
        | zero => intro j bj wz5 wz4 J hw5 hj hG hB hW hL hP hkJ hm34; exact absurd hm34 (Nat.not_lt_zero _)
        | succ k9 ih34 =>
          intro j bj wz5 wz4 J hw5 hj hG hB hW hL hP hkJ hm34
          subst hw5
          refine g_iload C (pc := 34) dX12_gale_34 0 rfl ?_
          refine g_iload_n C (pc := 36) dX12_gale_36 4 rfl ?_
          refine g_icmp_ge C (pc := 37) 156 dX12_gale_37 (by decide) (fun c37 => ?_) (fun c37 => ?_)
          · have hend : galS F m x b = (j, bj) := by
              rw [hzm, nI_leI (by omega) (by omega)] at c37
              rw [hG, show m - j = 0 by omega]; rfl
            refine g_iload_n C (pc := 156) dX12_gale_156 5 rfl ?_
            refine g_if_ne C (pc := 157) 165 dX12_gale_157 (by decide) (fun c157 => ?_) (fun c157 => ?_)
            · refine g_aload_n C (pc := 165) dX12_gale_165 2 rfl ?_
              refine g_callVI C (pc := 166) mf_X12_lost lk_RX12_221 (c_X12_lost n ρ J F bj hn9 hms (hqf.kp hkJ) hrw hB hW hL) (by decide) (Nat.le_refl _) rfl (by first | assumption | rfl | omega) rfl (by first | assumption | rfl | omega) (Nat.le_of_ble_eq_true rfl) dX12_gale_166 (fun v166 I166 h166 => ?_)
              obtain ⟨e166, rfl⟩ := h166
              refine g_iret C hR (pc := 169) rfl dX12_gale_169 ?_
              refine ⟨rfl, _, rfl, ?_⟩
              refine ⟨Or.inl ⟨m, ⟨hml, hmh, hzm, hu⟩, ?_⟩, hkJ⟩
              first
              | (rw [if_pos c157, hend]; done)
              | (rw [if_neg c157, hend]; exact e166)
            · refine g_iload C (pc := 160) dX12_gale_160 0 rfl ?_
              refine g_goto C (pc := 162) 169 dX12_gale_162 (by decide) ?_
              refine g_iret C hR (pc := 169) rfl dX12_gale_169 ?_
              refine ⟨rfl, _, rfl, ?_⟩
              refine ⟨Or.inl ⟨m, ⟨hml, hmh, hzm, hu⟩, ?_⟩, hkJ⟩
              first
              | (rw [if_pos c157, hend]; done)
              | (rw [if_neg c157, hend]; exact e166)
          · have hjm : j < m := by
              rw [hzm, nI_ltI (by omega) (by omega)] at c37
              exact c37
            refine g_aload_n C (pc := 40) dX12_gale_40 2 rfl ?_
            refine g_callVI C (pc := 41) mf_X12_lost lk_RX12_221 (c_X12_lost n ρ J F bj hn9 hms (hqf.kp hkJ) hrw hB hW hL) (by decide) (Nat.le_refl _) rfl (by first | assumption | rfl | omega) rfl (by first | assumption | rfl | omega) (Nat.le_of_ble_eq_true rfl) dX12_gale_41 (fun v41 I41 h41 => ?_)
            obtain ⟨e41, rfl⟩ := h41
            refine g_bipush C (pc := 44) (-4) dX12_gale_44 (by decide) ?_
            refine g_icmp_ne C (pc := 46) 156 dX12_gale_46 (by decide) (fun c46 => ?_) (fun c46 => ?_)
            · have hlo : lostP F bj ≠ none := fun h9 => c46 (by rw [e41, lostB_none.mpr h9]; rfl)
              have hend : galS F m x b = (j, bj) := by rw [hG, galS_over hlo]; rfl
              refine g_iload_n C (pc := 156) dX12_gale_156 5 rfl ?_
              refine g_if_ne C (pc := 157) 165 dX12_gale_157 (by decide) (fun c157 => ?_) (fun c157 => ?_)
              · refine g_aload_n C (pc := 165) dX12_gale_165 2 rfl ?_
                refine g_callVI C (pc := 166) mf_X12_lost lk_RX12_221 (c_X12_lost n ρ J F bj hn9 hms (hqf.kp hkJ) hrw hB hW hL) (by decide) (Nat.le_refl _) rfl (by first | assumption | rfl | omega) rfl (by first | assumption | rfl | omega) (Nat.le_of_ble_eq_true rfl) dX12_gale_166 (fun v166 I166 h166 => ?_)
                obtain ⟨e166, rfl⟩ := h166
                refine g_iret C hR (pc := 169) rfl dX12_gale_169 ?_
                refine ⟨rfl, _, rfl, ?_⟩
                refine ⟨Or.inl ⟨m, ⟨hml, hmh, hzm, hu⟩, ?_⟩, hkJ⟩
                first
                | (rw [if_pos c157, hend]; done)
                | (rw [if_neg c157, hend]; exact e166)
              · refine g_iload C (pc := 160) dX12_gale_160 0 rfl ?_
                refine g_goto C (pc := 162) 169 dX12_gale_162 (by decide) ?_
                refine g_iret C hR (pc := 169) rfl dX12_gale_169 ?_
                refine ⟨rfl, _, rfl, ?_⟩
                refine ⟨Or.inl ⟨m, ⟨hml, hmh, hzm, hu⟩, ?_⟩, hkJ⟩
                first
                | (rw [if_pos c157, hend]; done)
                | (rw [if_neg c157, hend]; exact e166)
            · have hno : lostP F bj = none := lostB_none.mp ((oI_none (lostB_lt2 hrw)).mp (e41.symm.trans c46))
              refine g_iload C (pc := 49) dX12_gale_49 1 rfl ?_
              refine g_ldc_w C (pc := 51) _ gk_RX12_348 dX12_gale_51 ?_
              refine g_imul C (pc := 54) dX12_gale_54 ?_
              refine g_sipush C (pc := 55) 12345 dX12_gale_55 (by decide) ?_
              refine g_iadd C (pc := 58) dX12_gale_58 ?_
              refine g_istore C (pc := 59) dX12_gale_59 (by decide) (fun v59 => [(4, .int v59), (5, .int (nI j)), (0, .ref 97), (1, .int x), (2, .int z), (3, .int u)]) (fun _ => rfl) (fun v59 ev59 => ?_)
              refine g_iload C (pc := 61) dX12_gale_61 0 rfl ?_
              refine g_bipush C (pc := 63) 16 dX12_gale_63 (by decide) ?_
              refine g_ishr C (pc := 65) dX12_gale_65 ?_
              refine g_sipush C (pc := 66) 32767 dX12_gale_66 (by decide) ?_
              refine g_iand C (pc := 69) dX12_gale_69 ?_
              refine g_aload_n C (pc := 70) dX12_gale_70 2 rfl ?_
              refine g_callVI C (pc := 71) mf_X12_allOdds lk_RX12_244 (c_X12_allOdds n ρ J F hn9 hms (hqe.kp hkJ)) (by decide) (Nat.le_refl _) rfl (by first | assumption | rfl | omega) rfl (by first | assumption | rfl | omega) (Nat.le_of_ble_eq_true rfl) dX12_gale_71 (fun v71 I71 h71 => ?_)
              obtain ⟨e71, rfl⟩ := h71
              refine g_irem C (pc := 74) dX12_gale_74 (by rw [e71]; exact nI_ne0 hao (by omega)) ?_
              refine g_istore C (pc := 75) dX12_gale_75 (by decide) (fun v75 => [(6, .int v75), (4, .int v59), (5, .int (nI j)), (0, .ref 97), (1, .int x), (2, .int z), (3, .int u)]) (fun _ => rfl) (fun v75 ev75 => ?_)
              have h75 : v75 = nI (galN v59 % allO F) := by
                have hg9 := galN_lt v59
                rw [ev75, gal_s, e71, pk_rem (by omega) hao (by omega)]
              refine g_iconst C (pc := 77) 0 dX12_gale_77 (by decide) ?_
              refine g_istore C (pc := 78) dX12_gale_78 (by decide) (fun v78 => [(7, .int v78), (6, .int v75), (4, .int v59), (5, .int (nI j)), (0, .ref 97), (1, .int x), (2, .int z), (3, .int u)]) (fun _ => rfl) (fun v78 ev78 => ?_)
              have L80 : ∀ (k9 : Nat) (i y : Nat) (wz7 : Int32) (wz6 : Int32) (hw7 : wz7 = nI i) (hw6 : wz6 = nI y) (hi : i ≤ 5) (hy : y < 45) (hWi : windN (rOd F) 5 0 (galN v59 % allO F) = windN (rOd F) (5 - i) i y), 5 - i < k9 → G κ n ρ 80 [(7, .int wz7), (6, .int wz6), (4, .int v59), (5, .int (nI j)), (0, .ref 97), (1, .int x), (2, .int z), (3, .int u)] [] J := by
                intro k9
                induction k9 with
                | zero => intro i y wz7 wz6 hw7 hw6 hi hy hWi hm80; exact absurd hm80 (Nat.not_lt_zero _)
                | succ k9 ih80 =>
                  intro i y wz7 wz6 hw7 hw6 hi hy hWi hm80
                  subst hw7 hw6
                  have hi5 : i < 5 := by
                    rcases Nat.lt_or_ge i 5 with h9 | h9
                    · exact h9
                    · exfalso
                      refine windN_no hrw (z := galN v59) hao ?_
                      rw [hWi, show 5 - i = 0 by omega, windN]; omega
                  have hod : J 98 (13 + nI i).toNatClampNeg = nI (rOd F i) := by rw [show (13 : Int32) = nI 13 from rfl, nI_add, nI_clamp (by omega)]; exact (hqe.kp hkJ).2 i hi5
                  have ho9 := hrw.2.2.2.2.2.2.1 i hi5
                  refine g_iload C (pc := 80) dX12_gale_80 1 rfl ?_
                  refine g_aload_n C (pc := 82) dX12_gale_82 4 rfl ?_
                  refine g_getR C (pc := 83) fl_RX12_7 (by decide) (by first | assumption | rfl | omega) (by first | assumption | rfl | omega) (by first | assumption | rfl | omega) dX12_gale_83 ?_
                  refine g_bipush C (pc := 86) 13 dX12_gale_86 (by decide) ?_
                  refine g_iload C (pc := 88) dX12_gale_88 0 rfl ?_
                  refine g_iadd C (pc := 90) dX12_gale_90 ?_
                  refine g_iald C (pc := 91) (by first | assumption | rfl | omega) (by first | assumption | rfl | omega) (by rw [show (13 : Int32) = nI 13 from rfl, nI_add]; exact vp_in_nI (by omega) (by decide)) dX12_gale_91 ?_
                  refine g_icmp_lt C (pc := 92) 116 dX12_gale_92 (by decide) (fun c92 => ?_) (fun c92 => ?_)
                  · have hwE : windN (rOd F) 5 0 (galN v59 % allO F) = i := by
                      rw [hod, nI_ltI (by omega) (by omega)] at c92
                      rw [hWi, show 5 - i = (5 - (i + 1)) + 1 by omega, windN, if_pos c92]
                    refine g_aload_n C (pc := 116) dX12_gale_116 4 rfl ?_
                    refine g_iload C (pc := 117) dX12_gale_117 0 rfl ?_
                    refine g_iconst C (pc := 119) 0 dX12_gale_119 (by decide) ?_
                    refine g_callVV C (pc := 120) mf_X12_findMoves lk_RX12_247 (c_X12_findMoves n ρ J F bj i 0 hn9 hms (hqf.kp hkJ) hrw (hqe.kp hkJ) hB hW hL hP hi5 (by decide)) (by decide) (Nat.le_refl _) rfl (by first | assumption | rfl | omega) rfl (by first | assumption | rfl | omega) (Nat.le_of_ble_eq_true rfl) dX12_gale_120 (fun I120 h120 => ?_)
                    obtain ⟨f120, a120, b120, g120⟩ := h120
                    have hml := mvs_len (F := F) (b := bj) (w := i) hn6
                    have k120 : Kp I I120 := hkJ.trans (Kp.fm g120)
                    have fB : QB I120 F bj := hB.cong (fun k _ => by rw [g120 106 (by decide) (by decide)]) (fun k _ => by rw [g120 107 (by decide) (by decide)]) (by rw [g120 97 (by decide) (by decide)]) hn6
                    refine g_aload_n C (pc := 123) dX12_gale_123 4 rfl ?_
                    refine g_iload C (pc := 124) dX12_gale_124 0 rfl ?_
                    refine g_aload_n C (pc := 126) dX12_gale_126 4 rfl ?_
                    refine g_getR C (pc := 127) fl_RX12_44 (by decide) (by first | assumption | rfl | omega) (by first | assumption | rfl | omega) (by first | assumption | rfl | omega) dX12_gale_127 ?_
                    refine g_iconst C (pc := 130) 0 dX12_gale_130 (by decide) ?_
                    refine g_iald C (pc := 131) (by first | assumption | rfl | omega) (by first | assumption | rfl | omega) (vp_in_nI (n := 0) (by decide) (by decide)) dX12_gale_131 ?_
                    refine g_if_ne C (pc := 132) 140 dX12_gale_132 (by decide) (fun c132 => ?_) (fun c132 => ?_)
                    · have hmx9 : I120 108 (0 : Int32).toNatClampNeg = oI ((mvs F bj i)[0]?) := by
                        have h9 : ¬ I120 109 0 = 0 := c132
                        rw [f120.1] at h9
                        have h8 : 0 < (mvs F bj i).length := Nat.pos_of_ne_zero (fun h => h9 (by rw [h]; rfl))
                        have hk9 := List.getElem?_eq_getElem h8
                        rw [hk9]; exact f120.2 0 _ hk9
                      refine g_aload_n C (pc := 140) dX12_gale_140 4 rfl ?_
                      refine g_getR C (pc := 141) fl_RX12_41 (by decide) (by first | assumption | rfl | omega) (by first | assumption | rfl | omega) (by first | assumption | rfl | omega) dX12_gale_141 ?_
                      refine g_iconst C (pc := 144) 0 dX12_gale_144 (by decide) ?_
                      refine g_iald C (pc := 145) (by first | assumption | rfl | omega) (by first | assumption | rfl | omega) (vp_in_nI (n := 0) (by decide) (by decide)) dX12_gale_145 ?_
                      refine g_callVI C (pc := 146) mf_X12_goes lk_RX12_251 (c_X12_goes n ρ I120 F bj i ((mvs F bj i)[0]?) _ hn9 hms (hqf.kp k120) hrw fB hW hi5 (mvs_K hrw) hmx9) (by decide) (Nat.le_refl _) rfl (by first | assumption | rfl | omega) rfl (by first | assumption | rfl | omega) (Nat.le_of_ble_eq_true rfl) dX12_gale_146 (fun v146 I146 h146 => ?_)
                      obtain ⟨e146, f146, a146, g146⟩ := h146
                      refine g_pop C (pc := 149) dX12_gale_149 rfl ?_
                      refine g_iinc C (pc := 150) (1) dX12_gale_150 3 rfl (by decide) (by decide) (fun v150 => [(5, .int v150), (7, .int (nI i)), (6, .int (nI y)), (4, .int v59), (0, .ref 97), (1, .int x), (2, .int z), (3, .int u)]) (fun _ => rfl) (fun v150 ev150 => ?_)
                      refine g_goto C (pc := 153) 34 dX12_gale_153 (by decide) ?_
                      refine g_lv C [0, 3, 4, 5, 6, 7] rfl (ih34 (j + 1) (playB F bj i ((mvs F bj i)[0]?)) _ _ _ ?_ ?_ ?_ ?_ ?_ ?_ ?_ ?_ (by omega))
                      · subst ev150; exact nI_1 _
                      · omega
                      · rw [hG, show m - j = (m - (j + 1)) + 1 by omega, galS, if_pos hno, ← ev59]; show (j + (_ + 1), _) = (j + 1 + _, _); rw [hwE, Nat.add_right_comm, Nat.add_assoc]
                      · exact f146
                      · exact (mvs_K hrw).bw hrw hW
                      · exact L1_play hL
                      · exact PW_play (mvs_K hrw) hrw hP
                      · exact k120.trans (Kp.qb a146 g146)
                    · have hmx9 : (-4 : Int32) = oI ((mvs F bj i)[0]?) := by
                        have h9 : I120 109 0 = 0 := c132
                        rw [f120.1] at h9
                        have := (nI_eq (b := 0) (by omega) (by decide)).mp h9
                        rw [List.getElem?_eq_none (by omega)]; rfl
                      refine g_bipush C (pc := 135) (-4) dX12_gale_135 (by decide) ?_
                      refine g_goto C (pc := 137) 146 dX12_gale_137 (by decide) ?_
                      refine g_callVI C (pc := 146) mf_X12_goes lk_RX12_251 (c_X12_goes n ρ I120 F bj i ((mvs F bj i)[0]?) _ hn9 hms (hqf.kp k120) hrw fB hW hi5 (mvs_K hrw) hmx9) (by decide) (Nat.le_refl _) rfl (by first | assumption | rfl | omega) rfl (by first | assumption | rfl | omega) (Nat.le_of_ble_eq_true rfl) dX12_gale_146 (fun v146 I146 h146 => ?_)
                      obtain ⟨e146, f146, a146, g146⟩ := h146
                      refine g_pop C (pc := 149) dX12_gale_149 rfl ?_
                      refine g_iinc C (pc := 150) (1) dX12_gale_150 3 rfl (by decide) (by decide) (fun v150 => [(5, .int v150), (7, .int (nI i)), (6, .int (nI y)), (4, .int v59), (0, .ref 97), (1, .int x), (2, .int z), (3, .int u)]) (fun _ => rfl) (fun v150 ev150 => ?_)
                      refine g_goto C (pc := 153) 34 dX12_gale_153 (by decide) ?_
                      refine g_lv C [0, 3, 4, 5, 6, 7] rfl (ih34 (j + 1) (playB F bj i ((mvs F bj i)[0]?)) _ _ _ ?_ ?_ ?_ ?_ ?_ ?_ ?_ ?_ (by omega))
                      · subst ev150; exact nI_1 _
                      · omega
                      · rw [hG, show m - j = (m - (j + 1)) + 1 by omega, galS, if_pos hno, ← ev59]; show (j + (_ + 1), _) = (j + 1 + _, _); rw [hwE, Nat.add_right_comm, Nat.add_assoc]
                      · exact f146
                      · exact (mvs_K hrw).bw hrw hW
                      · exact L1_play hL
                      · exact PW_play (mvs_K hrw) hrw hP
                      · exact k120.trans (Kp.qb a146 g146)
                  · rw [hod, nI_leI (by omega) (by omega)] at c92
                    refine g_iload C (pc := 95) dX12_gale_95 1 rfl ?_
                    refine g_aload_n C (pc := 97) dX12_gale_97 4 rfl ?_
                    refine g_getR C (pc := 98) fl_RX12_7 (by decide) (by first | assumption | rfl | omega) (by first | assumption | rfl | omega) (by first | assumption | rfl | omega) dX12_gale_98 ?_
                    refine g_bipush C (pc := 101) 13 dX12_gale_101 (by decide) ?_
                    refine g_iload C (pc := 103) dX12_gale_103 0 rfl ?_
                    refine g_iadd C (pc := 105) dX12_gale_105 ?_
                    refine g_iald C (pc := 106) (by first | assumption | rfl | omega) (by first | assumption | rfl | omega) (by rw [show (13 : Int32) = nI 13 from rfl, nI_add]; exact vp_in_nI (by omega) (by decide)) dX12_gale_106 ?_
                    refine g_isub C (pc := 107) dX12_gale_107 ?_
                    refine g_istore C (pc := 108) dX12_gale_108 (by decide) (fun v108 => [(6, .int v108), (7, .int (nI i)), (4, .int v59), (5, .int (nI j)), (0, .ref 97), (1, .int x), (2, .int z), (3, .int u)]) (fun _ => rfl) (fun v108 ev108 => ?_)
                    refine g_iinc C (pc := 110) (1) dX12_gale_110 1 rfl (by decide) (by decide) (fun v110 => [(7, .int v110), (6, .int v108), (4, .int v59), (5, .int (nI j)), (0, .ref 97), (1, .int x), (2, .int z), (3, .int u)]) (fun _ => rfl) (fun v110 ev110 => ?_)
                    refine g_goto C (pc := 113) 80 dX12_gale_113 (by decide) ?_
                    refine g_lv C [0, 1, 2, 3, 4, 5, 6, 7] rfl (ih80 (i + 1) (y - rOd F i) _ _ ?_ ?_ ?_ ?_ ?_ (by omega))
                    · subst ev110; exact nI_1 _
                    · rw [ev108, hod]; exact pk_sub c92
                    · omega
                    · omega
                    · rw [hWi, show 5 - i = (5 - (i + 1)) + 1 by omega, windN, if_neg (by omega)]
              refine g_lv C [0, 1, 2, 3, 4, 5, 6, 7] rfl (L80 (_ + 1) 0 (galN v59 % allO F) _ _ ?_ ?_ ?_ ?_ ?_ (by first | omega | exact Nat.lt_succ_self _))
              · subst ev78; rfl
              · exact h75
              · omega
              · have := Nat.mod_lt (galN v59) hao; omega
              · rfl
      refine g_lv C [0, 1, 2, 3, 4, 5] rfl (L34 (_ + 1) 0 b _ _ _ ?_ ?_ ?_ ?_ ?_ ?_ ?_ ?_ (by first | omega | exact Nat.lt_succ_self _))
      · subst ev32; rfl
      · omega
      · subst ev29; rw [Nat.zero_add, Nat.sub_zero]
      · exact f25
      · exact hbw
      · exact hl1
      · exact hpw
      · exact k25
    · have hu := fun h => bI_0.mp (e16.symm.trans c19) (inU.mpr h)
      refine g_iconst C (pc := 22) (-1) dX12_gale_22 (by decide) ?_
      refine g_iret C hR (pc := 23) rfl dX12_gale_23 ?_
      refine ⟨rfl, _, rfl, ?_⟩
      refine ⟨Or.inr ⟨?_, rfl⟩, Kp.rfl'⟩
      rintro ⟨m9, h1, h2, h3, h4⟩
      first | exact hz ⟨m9, h1, h2, h3⟩ | exact hu h4
