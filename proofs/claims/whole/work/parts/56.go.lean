theorem c_X12_findMovesE (n : Nat) (ρ : Rho) (I : Mem) (F : RT) (b : BT) (w d : Nat) (u9 : Int32) (hn9 : n ≤ 999) (hms : MS n ρ) (hqf : QF I F) (hrw : RW F) (hqe : QE I F) (hqb : QB I F b) (hbw : BW F b) (hl1 : L1 F b) (hpw : PW F b) (hw : w < 5) (hd : d < 3) (hxb : u9 = nI w) : MV yX12_findMoves cX12_findMoves 9 none 3 [.ref 97, .int u9, .int (nI d)] n ρ I (fun I1 => FMv I1 F b w d ∧ (∀ z, z < 64 * d ∨ 64 * d + 24 ≤ z → I1 108 z = I 108 z) ∧ (∀ z, z ≠ d → I1 109 z = I 109 z) ∧ ∀ i, i ≠ 108 → i ≠ 109 → I1 i = I i) := by
  subst hxb
  exact c_X12_findMoves n ρ I F b w d hn9 hms hqf hrw hqe hqb hbw hl1 hpw hw hd
theorem c_X12_goesE (n : Nat) (ρ : Rho) (I : Mem) (F : RT) (b : BT) (w : Nat) (mv : Option Nat) (x : Int32) (u9 : Int32) (hn9 : n ≤ 999) (hms : MS n ρ) (hqf : QF I F) (hrw : RW F) (hqb : QB I F b) (hbw : BW F b) (hw : w < 5) (hmk : MvK F mv) (hx : x = oI mv) (hxb : u9 = nI w) : MI yX12_goes cX12_goes 7 (some .int) 1 [.ref 97, .int u9, .int x] n ρ I (fun v I1 => v = oI (mv.bind (fun m => pon F b (m % 100))) ∧ QB I1 F (playB F b w mv) ∧ (∀ z, z ≠ 25 → I1 97 z = I 97 z) ∧ ∀ i, i ≠ 97 → i ≠ 106 → i ≠ 107 → I1 i = I i) := by
  subst hxb
  exact c_X12_goes n ρ I F b w mv x hn9 hms hqf hrw hqb hbw hw hmk hx
set_option maxHeartbeats 1600000 in
theorem c_X12_go (n : Nat) (ρ : Rho) (I : Mem) (F : RT) (b : BT) (t : Nat) (x z : Int32) (hn9 : n ≤ 999) (hms : MS n ρ) (hqn : QN I F b) (hrw : RW F) (hbw : BW F b) (hl1 : L1 F b) (hpw : PW F b) (htu : I 98 19 = nI t) (ht9 : t ≤ 999) : MI yX12_go cX12_go 5 (some .int) 4 [.ref 97, .int x, .int z] n ρ I (fun v I1 => (¬ (∃ w mv, (w < 5 ∧ x = nI w ∧ MvS F b w z mv)) ∧ v = -1 ∧ Kp I I1) ∨ (∃ w mv, (w < 5 ∧ x = nI w ∧ MvS F b w z mv) ∧ ((¬ lostB F b = none ∧ v = -2 ∧ Kp I I1) ∨ (lostB F b = none ∧ 999 ≤ t ∧ v = -3 ∧ Kp I I1) ∨ (lostB F b = none ∧ t < 999 ∧ v = oI (mv.bind (fun m => pon F b (m % 100))) ∧ QN I1 F (playB F b w mv) ∧ I1 98 19 = nI (t + 1) ∧ KpS I I1)))) := by
  refine MG.of (by decide +kernel) (Nat.le_of_ble_eq_true rfl) hn9 ?_
  intro κ C hR
  show G κ n ρ 0 [(0, .ref 97), (1, .int x), (2, .int z)] [] I
  obtain ⟨mn, ⟨m0, m1, m5, m6, m7, m11, m12, m15⟩, ⟨m23, m24, m26, m27, m28, m30, m31, m32, m33⟩, ⟨m38, m39, m40, m42⟩⟩ := id hms
  obtain ⟨hqf, hqe, hqs, hqt⟩ := id hqn
  obtain ⟨qw, qh, qn, qk⟩ := id hqf
  have hn6 : rN F ≤ 6 := hrw.2.2.2.2.1
  have hm25 := Nat.mul_le_mul hrw.2.1 hrw.2.2.2.1
  have hm4 := Nat.mul_le_mul hrw.1 hrw.2.2.1
  refine g_iload_n C (pc := 0) dX12_go_0 1 rfl ?_
  refine g_callSI C (pc := 1) mf_X12_isWind lk_RX12_236 (c_X12_isWind n ρ I x hn9) (by decide) (Nat.le_refl _) rfl (Nat.le_of_ble_eq_true rfl) dX12_go_1 (fun v1 I1 h1 => ?_)
  obtain ⟨e1, rfl⟩ := h1
  refine g_if_ne C (pc := 4) 9 dX12_go_4 (by decide) (fun c4 => ?_) (fun c4 => ?_)
  · have hx := bI_1.mp (fun h => c4 (e1.trans h))
    obtain ⟨w, hw, hxw⟩ := ix_of (n := 5) (by decide) hx
    refine g_aload_n C (pc := 9) dX12_go_9 0 rfl ?_
    refine g_callVV C (pc := 10) mf_X12_starts lk_RX12_227 (c_X12_startsB n ρ I F b hn9 hms hqn hrw hbw) (by decide) (Nat.le_refl _) rfl (by first | assumption | rfl | omega) rfl (by first | assumption | rfl | omega) (Nat.le_of_ble_eq_true rfl) dX12_go_10 (fun I10 h10 => ?_)
    obtain ⟨f10, k10⟩ := h10
    refine g_aload_n C (pc := 13) dX12_go_13 0 rfl ?_
    refine g_iload_n C (pc := 14) dX12_go_14 1 rfl ?_
    refine g_iconst C (pc := 15) 0 dX12_go_15 (by decide) ?_
    refine g_callVV C (pc := 16) mf_X12_findMoves lk_RX12_247 (c_X12_findMovesE n ρ I10 F b w 0 x hn9 hms (hqf.kp k10) hrw (hqe.kp k10) f10 hbw hl1 hpw hw (by decide) hxw) (by decide) (Nat.le_refl _) rfl (by first | assumption | rfl | omega) rfl (by first | assumption | rfl | omega) (Nat.le_of_ble_eq_true rfl) dX12_go_16 (fun I16 h16 => ?_)
    obtain ⟨f16, a16, b16, g16⟩ := h16
    have hml := mvs_len (F := F) (b := b) (w := w) hn6
    have hi9 : (0 ≤ z.toInt64 ∧ z.toInt64 ≤ (I16 109 0 - 1).toInt64) ↔ ∃ k, k < (mvs F b w).length ∧ z = nI k := by
      rw [f16.1]
      constructor
      · intro h9
        rcases Nat.eq_zero_or_pos (mvs F b w).length with h0 | h0
        · exfalso
          rw [h0] at h9
          have h8 : z.toInt64 ≤ -1 := h9.2
          have := Int64.le_iff_toInt_le.mp h9.1
          have := Int64.le_iff_toInt_le.mp h8
          have e1 : (-1 : Int64).toInt = -1 := by decide
          have e0 : (0 : Int64).toInt = 0 := by decide
          omega
        · have h8 := (inr_iff h0 (by omega)).mp h9
          exact ⟨z.toInt.toNat, by omega, i32_nat (by omega) (by omega)⟩
      · rintro ⟨k, hk, hzk⟩
        refine (inr_iff (by omega) (by omega)).mpr ?_
        rw [hzk, nI_toInt (by omega)]; omega
    have fB : QB I16 F b := f10.cong (fun k _ => by rw [g16 106 (by decide) (by decide)]) (fun k _ => by rw [g16 107 (by decide) (by decide)]) (by rw [g16 97 (by decide) (by decide)]) hn6
    have k16 := k10.trans (Kp.fm g16)
    refine g_iload_n C (pc := 19) dX12_go_19 2 rfl ?_
    refine g_bipush C (pc := 20) (-4) dX12_go_20 (by decide) ?_
    refine g_icmp_ne C (pc := 22) 37 dX12_go_22 (by decide) (fun c22 => ?_) (fun c22 => ?_)
    · refine g_iload_n C (pc := 37) dX12_go_37 2 rfl ?_
      refine g_i2l C (pc := 38) dX12_go_38 ?_
      refine g_lconst C (pc := 39) 0 dX12_go_39 (by decide) ?_
      refine g_aload_n C (pc := 40) dX12_go_40 0 rfl ?_
      refine g_getR C (pc := 41) fl_RX12_44 (by decide) (by first | assumption | rfl | omega) (by first | assumption | rfl | omega) (by first | assumption | rfl | omega) dX12_go_41 ?_
      refine g_iconst C (pc := 44) 0 dX12_go_44 (by decide) ?_
      refine g_iald C (pc := 45) (by first | assumption | rfl | omega) (by first | assumption | rfl | omega) (vp_in_nI (n := 0) (by decide) (by decide)) dX12_go_45 ?_
      refine g_iconst C (pc := 46) 1 dX12_go_46 (by decide) ?_
      refine g_isub C (pc := 47) dX12_go_47 ?_
      refine g_i2l C (pc := 48) dX12_go_48 ?_
      refine g_callSI C (pc := 49) mf_X12_in lk_RX12_113 (c_X12_in n ρ I16 _ _ _ hn9) (by decide) (Nat.le_refl _) rfl (Nat.le_of_ble_eq_true rfl) dX12_go_49 (fun v49 I49 h49 => ?_)
      obtain ⟨e49, rfl⟩ := h49
      refine g_if_ne C (pc := 52) 57 dX12_go_52 (by decide) (fun c52 => ?_) (fun c52 => ?_)
      · obtain ⟨k, hk, hzk⟩ := hi9.mp (bI_1.mp (fun h => c52 (e49.trans h)))
        have hk9 := List.getElem?_eq_getElem hk
        obtain ⟨mv, hmvd⟩ : ∃ mv, mv = (mvs F b w)[k]? := ⟨_, rfl⟩
        have hMS : MvS F b w z mv := Or.inl ⟨k, _, hzk, hk9, hmvd.trans hk9⟩
        have hmk : MvK F mv := by rw [hmvd]; exact mvs_K hrw
        refine g_aload_n C (pc := 57) dX12_go_57 0 rfl ?_
        refine g_callVI C (pc := 58) mf_X12_lost lk_RX12_221 (c_X12_lost n ρ I16 F b hn9 hms (hqf.kp k16) hrw fB hbw hl1) (by decide) (Nat.le_refl _) rfl (by first | assumption | rfl | omega) rfl (by first | assumption | rfl | omega) (Nat.le_of_ble_eq_true rfl) dX12_go_58 (fun v58 I58 h58 => ?_)
        obtain ⟨e58, rfl⟩ := h58
        refine g_bipush C (pc := 61) (-4) dX12_go_61 (by decide) ?_
        refine g_icmp_eq C (pc := 63) 69 dX12_go_63 (by decide) (fun c63 => ?_) (fun c63 => ?_)
        · have hl0 : lostB F b = none := (oI_none (lostB_lt2 hrw)).mp (e58.symm.trans c63)
          refine g_aload_n C (pc := 69) dX12_go_69 0 rfl ?_
          refine g_getR C (pc := 70) fl_RX12_7 (by decide) (by first | assumption | rfl | omega) (by first | assumption | rfl | omega) (by first | assumption | rfl | omega) dX12_go_70 ?_
          refine g_bipush C (pc := 73) 19 dX12_go_73 (by decide) ?_
          refine g_iald C (pc := 75) (by first | assumption | rfl | omega) (by first | assumption | rfl | omega) (vp_in_nI (n := 19) (by decide) (by decide)) dX12_go_75 ?_
          refine g_sipush C (pc := 76) 999 dX12_go_76 (by decide) ?_
          rw [show I16 98 (19 : Int32).toNatClampNeg = nI t from (by rw [k16.2 98 (by decide)]; exact htu)]
          refine g_icmp_ne C (pc := 79) 85 dX12_go_79 (by decide) (fun c79 => ?_) (fun c79 => ?_)
          · have ht8 : t < 999 := by
              have : t ≠ 999 := fun h9 => c79 (by rw [h9]; rfl)
              omega
            refine g_aload_n C (pc := 85) dX12_go_85 0 rfl ?_
            refine g_iload_n C (pc := 86) dX12_go_86 1 rfl ?_
            refine g_iload_n C (pc := 87) dX12_go_87 2 rfl ?_
            refine g_bipush C (pc := 88) (-4) dX12_go_88 (by decide) ?_
            refine g_icmp_ne C (pc := 90) 98 dX12_go_90 (by decide) (fun c90 => ?_) (fun c90 => ?_)
            · refine g_aload_n C (pc := 98) dX12_go_98 0 rfl ?_
              refine g_getR C (pc := 99) fl_RX12_41 (by decide) (by first | assumption | rfl | omega) (by first | assumption | rfl | omega) (by first | assumption | rfl | omega) dX12_go_99 ?_
              refine g_iload_n C (pc := 102) dX12_go_102 2 rfl ?_
              refine g_iald C (pc := 103) (by first | assumption | rfl | omega) (by first | assumption | rfl | omega) (by rw [hzk]; exact vp_in_nI (by omega) (by decide)) dX12_go_103 ?_
              refine g_callVI C (pc := 104) mf_X12_goes lk_RX12_251 (c_X12_goesE n ρ I16 F b w mv _ x hn9 hms (hqf.kp k16) hrw fB hbw hw hmk (by first | (rw [hmvd]; rfl) | (rw [hmvd, hk9, hzk, nI_clamp (by omega)]; have := f16.2 k _ hk9; rw [Nat.mul_zero, Nat.zero_add] at this; exact this)) hxw) (by decide) (Nat.le_refl _) rfl (by first | assumption | rfl | omega) rfl (by first | assumption | rfl | omega) (Nat.le_of_ble_eq_true rfl) dX12_go_104 (fun v104 I104 h104 => ?_)
              obtain ⟨e104, f104, a104, g104⟩ := h104
              refine g_istore_n C (pc := 107) dX12_go_107 (by decide) (fun v107 => [(3, .int v107), (0, .ref 97), (1, .int x), (2, .int z)]) (fun _ => rfl) (fun v107 ev107 => ?_)
              refine g_iconst C (pc := 108) 0 dX12_go_108 (by decide) ?_
              refine g_istore C (pc := 109) dX12_go_109 (by decide) (fun v109 => [(4, .int v109), (3, .int v107), (0, .ref 97), (1, .int x), (2, .int z)]) (fun _ => rfl) (fun v109 ev109 => ?_)
              have L111 : ∀ (k9 : Nat) (j : Nat) (wz4 : Int32) (J : Mem) (hw4 : wz4 = nI j) (hj : j ≤ 6) (hA : ∀ k, k < j → J 98 k = I104 106 k ∧ J 98 (6 + k) = I104 107 k) (hS : ∀ z, 12 ≤ z → J 98 z = I104 98 z) (hF : ∀ i, i ≠ 98 → J i = I104 i), 6 - j < k9 → G κ n ρ 111 [(4, .int wz4), (3, .int v107), (0, .ref 97), (1, .int x), (2, .int z)] [] J := by
                intro k9
                induction k9 with
                | zero => intro j wz4 J hw4 hj hA hS hF hm111; exact absurd hm111 (Nat.not_lt_zero _)
                | succ k9 ih111 =>
                  intro j wz4 J hw4 hj hA hS hF hm111
                  subst hw4
                  refine g_iload C (pc := 111) dX12_go_111 0 rfl ?_
                  refine g_bipush C (pc := 113) 6 dX12_go_113 (by decide) ?_
                  refine g_icmp_ge C (pc := 115) 157 dX12_go_115 (by decide) (fun c115 => ?_) (fun c115 => ?_)
                  · replace c115 := (nI_leI (a := 6) (b := j) (by decide) (by omega)).mp c115
                    refine g_aload_n C (pc := 157) dX12_go_157 2 rfl ?_
                    refine g_getR C (pc := 158) fl_RX12_7 (by decide) (by first | assumption | rfl | omega) (by first | assumption | rfl | omega) (by first | assumption | rfl | omega) dX12_go_158 ?_
                    refine g_bipush C (pc := 161) 18 dX12_go_161 (by decide) ?_
                    refine g_aload_n C (pc := 163) dX12_go_163 2 rfl ?_
                    refine g_getI C (pc := 164) fl_RX12_204 (by decide) (by first | assumption | rfl | omega) (by first | assumption | rfl | omega) dX12_go_164 ?_
                    refine g_iast C (pc := 167) (by first | assumption | rfl | omega) (by first | assumption | rfl | omega) hn9 (vp_in_nI (n := 18) (by decide) (by decide)) dX12_go_167 ?_
                    refine g_aload_n C (pc := 168) dX12_go_168 2 rfl ?_
                    refine g_getR C (pc := 169) fl_RX12_7 (by decide) (by first | assumption | rfl | omega) (by first | assumption | rfl | omega) (by first | assumption | rfl | omega) dX12_go_169 ?_
                    refine g_bipush C (pc := 172) 19 dX12_go_172 (by decide) ?_
                    refine g_dup2 C (pc := 174) dX12_go_174 rfl rfl ?_
                    refine g_iald C (pc := 175) (by first | assumption | rfl | omega) (by first | assumption | rfl | omega) (vp_in_nI (n := 19) (by decide) (by decide)) dX12_go_175 ?_
                    refine g_iconst C (pc := 176) 1 dX12_go_176 (by decide) ?_
                    refine g_iadd C (pc := 177) dX12_go_177 ?_
                    refine g_iast C (pc := 178) (by first | assumption | rfl | omega) (by first | assumption | rfl | omega) hn9 (vp_in_nI (n := 19) (by decide) (by decide)) dX12_go_178 ?_
                    rw [show (18 : Int32).toNatClampNeg = 18 from rfl, show (19 : Int32).toNatClampNeg = 19 from rfl]
                    refine g_iload_n C (pc := 179) dX12_go_179 1 rfl ?_
                    refine g_iret C hR (pc := 180) rfl dX12_go_180 ?_
                    refine ⟨rfl, _, rfl, ?_⟩
                    have k104 := k16.trans (Kp.qb a104 g104)
                    refine Or.inr ⟨w, mv, ⟨hw, hxw, hMS⟩, Or.inr (Or.inr ⟨hl0, ht8, ev107.trans e104, ⟨?_, ?_, fun p hp => ?_, ?_⟩, ?_, ⟨fun z hz => ?_, fun i hi => ?_, fun z h1 h2 h3 => ?_⟩⟩)⟩
                    · refine (hqf.kp k104).cong ?_ ?_ ?_ ?_ ?_ <;> rw [wr_n (by decide), wr_n (by decide), hF _ (by decide)]
                    · refine ⟨fun i hi => ?_, fun w9 hw9 => ?_⟩
                      · rw [wr_sn (by decide), wr_sn (by decide), hS 12 (by decide)]; exact (hqe.kp k104).1 i hi
                      · rw [wr_sn (show 13 + w9 ≠ 19 by omega), wr_sn (show 13 + w9 ≠ 18 by omega), hS _ (by omega)]; exact (hqe.kp k104).2 w9 hw9
                    · rw [wr_sn (show p ≠ 19 by omega), wr_sn (show p ≠ 18 by omega), wr_sn (show 6 + p ≠ 19 by omega), wr_sn (show 6 + p ≠ 18 by omega), (hA p (by omega)).1, (hA p (by omega)).2]; exact f104.1 p hp
                    · show wr (wr J 98 18 (J 97 25)) 98 19 _ 98 18 = _
                      rw [wr_sn (by decide), wr_ss, hF 97 (by decide)]; exact f104.2
                    · show wr (wr J 98 18 (J 97 25)) 98 19 (wr J 98 18 (J 97 25) 98 19 + 1) 98 19 = _
                      rw [wr_ss, wr_sn (by decide), hS 19 (by decide), k104.2 98 (by decide), htu]; exact nI_1 _
                    · rw [wr_n (by decide), wr_n (by decide), hF 97 (by decide)]; exact k104.1 z hz
                    · rw [wr_n (by omega), wr_n (by omega), hF i (by omega)]; exact k104.2 i (by omega)
                    · rw [wr_sn (show z ≠ 19 from h3), wr_sn (show z ≠ 18 from h2), hS z h1, k104.2 98 (by decide)]
                  · replace c115 := (nI_ltI (a := j) (b := 6) (by omega) (by decide)).mp c115
                    have ix1 : (0 + nI j).toNatClampNeg = j := by rw [Int32.zero_add]; exact nI_clamp (by omega)
                    have ix2 : (6 + nI j).toNatClampNeg = 6 + j := by rw [show (6 : Int32) = nI 6 from rfl, nI_add]; exact nI_clamp (by omega)
                    have ix3 : (nI j).toNatClampNeg = j := nI_clamp (by omega)
                    refine g_aload_n C (pc := 118) dX12_go_118 2 rfl ?_
                    refine g_getR C (pc := 119) fl_RX12_7 (by decide) (by first | assumption | rfl | omega) (by first | assumption | rfl | omega) (by first | assumption | rfl | omega) dX12_go_119 ?_
                    refine g_iconst C (pc := 122) 0 dX12_go_122 (by decide) ?_
                    refine g_iload C (pc := 123) dX12_go_123 0 rfl ?_
                    refine g_iadd C (pc := 125) dX12_go_125 ?_
                    refine g_aload_n C (pc := 126) dX12_go_126 2 rfl ?_
                    refine g_getR C (pc := 127) fl_RX12_35 (by decide) (by first | assumption | rfl | omega) (by first | assumption | rfl | omega) (by first | assumption | rfl | omega) dX12_go_127 ?_
                    refine g_iload C (pc := 130) dX12_go_130 0 rfl ?_
                    refine g_iald C (pc := 132) (by first | assumption | rfl | omega) (by first | assumption | rfl | omega) (vp_in_nI (by omega) (by decide)) dX12_go_132 ?_
                    refine g_iast C (pc := 133) (by first | assumption | rfl | omega) (by first | assumption | rfl | omega) hn9 (by rw [Int32.zero_add]; exact vp_in_nI (by omega) (by decide)) dX12_go_133 ?_
                    refine g_aload_n C (pc := 134) dX12_go_134 2 rfl ?_
                    refine g_getR C (pc := 135) fl_RX12_7 (by decide) (by first | assumption | rfl | omega) (by first | assumption | rfl | omega) (by first | assumption | rfl | omega) dX12_go_135 ?_
                    refine g_bipush C (pc := 138) 6 dX12_go_138 (by decide) ?_
                    refine g_iload C (pc := 140) dX12_go_140 0 rfl ?_
                    refine g_iadd C (pc := 142) dX12_go_142 ?_
                    refine g_aload_n C (pc := 143) dX12_go_143 2 rfl ?_
                    refine g_getR C (pc := 144) fl_RX12_38 (by decide) (by first | assumption | rfl | omega) (by first | assumption | rfl | omega) (by first | assumption | rfl | omega) dX12_go_144 ?_
                    refine g_iload C (pc := 147) dX12_go_147 0 rfl ?_
                    refine g_iald C (pc := 149) (by first | assumption | rfl | omega) (by first | assumption | rfl | omega) (vp_in_nI (by omega) (by decide)) dX12_go_149 ?_
                    refine g_iast C (pc := 150) (by first | assumption | rfl | omega) (by first | assumption | rfl | omega) hn9 (by rw [show (6 : Int32) = nI 6 from rfl, nI_add]; exact vp_in_nI (by omega) (by decide)) dX12_go_150 ?_
                    refine g_iinc C (pc := 151) (1) dX12_go_151 0 rfl (by decide) (by decide) (fun v151 => [(4, .int v151), (3, .int v107), (0, .ref 97), (1, .int x), (2, .int z)]) (fun _ => rfl) (fun v151 ev151 => ?_)
                    refine g_goto C (pc := 154) 111 dX12_go_154 (by decide) ?_
                    refine g_lv C [0, 1, 2, 3, 4] rfl (ih111 (j + 1) _ _ ?_ ?_ ?_ ?_ ?_ (by omega))
                    · subst ev151; exact nI_1 _
                    · omega
                    · intro k hk
                      rw [ix1, ix2, ix3]
                      rw [wr_n (a := 107) (by decide), hF 106 (by decide), hF 107 (by decide)]
                      rcases Nat.lt_or_ge k j with h1 | h1
                      · rw [wr_sn (by omega), wr_sn (by omega), wr_sn (by omega), wr_sn (by omega)]; exact hA k h1
                      · have : k = j := by omega
                        subst this
                        rw [wr_sn (by omega), wr_ss, wr_ss]; exact ⟨rfl, rfl⟩
                    · intro z hz; rw [ix1, ix2, wr_sn (by omega), wr_sn (by omega)]; exact hS z hz
                    · intro i h1; rw [wr_n h1, wr_n h1]; exact hF i h1
              refine g_lv C [0, 1, 2, 3, 4] rfl (L111 (_ + 1) 0 _ _ ?_ ?_ ?_ ?_ ?_ (by first | omega | exact Nat.lt_succ_self _))
              · subst ev109; rfl
              · omega
              · intro k hk; omega
              · intro z _; rfl
              · intro i _; rfl
            · exact absurd c90 c22
          · have ht8 : 999 ≤ t := by
              have := (nI_eq (b := 999) (by omega) (by decide)).mp c79
              omega
            refine g_bipush C (pc := 82) (-3) dX12_go_82 (by decide) ?_
            refine g_iret C hR (pc := 84) rfl dX12_go_84 ?_
            refine ⟨rfl, _, rfl, ?_⟩
            exact Or.inr ⟨w, mv, ⟨hw, hxw, hMS⟩, Or.inr (Or.inl ⟨hl0, ht8, rfl, k16⟩)⟩
        · have hl0 : ¬ lostB F b = none := fun h9 => c63 (by rw [e58, h9]; rfl)
          refine g_bipush C (pc := 66) (-2) dX12_go_66 (by decide) ?_
          refine g_iret C hR (pc := 68) rfl dX12_go_68 ?_
          refine ⟨rfl, _, rfl, ?_⟩
          exact Or.inr ⟨w, mv, ⟨hw, hxw, hMS⟩, Or.inl ⟨hl0, rfl, k16⟩⟩
      · have hno : ∀ mv, ¬ MvS F b w z mv := by
          rintro mv (⟨k9, m9, h1, h2, h3⟩ | ⟨h1, h2, h3⟩)
          · exact bI_0.mp (e49.symm.trans c52) (hi9.mpr ⟨k9, (List.getElem?_eq_some_iff.mp h2).1, h1⟩)
          · exact c22 h1
        refine g_iconst C (pc := 55) (-1) dX12_go_55 (by decide) ?_
        refine g_iret C hR (pc := 56) rfl dX12_go_56 ?_
        refine ⟨rfl, _, rfl, ?_⟩
        refine Or.inl ⟨fun ⟨w9, mv9, h1, h2, h3⟩ => ?_, rfl, k16⟩
        have e1 : w = w9 := (nI_eq (by omega) (by omega)).mp (hxw.symm.trans h2)
        subst e1
        exact hno mv9 h3
    · refine g_aload_n C (pc := 25) dX12_go_25 0 rfl ?_
      refine g_getR C (pc := 26) fl_RX12_44 (by decide) (by first | assumption | rfl | omega) (by first | assumption | rfl | omega) (by first | assumption | rfl | omega) dX12_go_26 ?_
      refine g_iconst C (pc := 29) 0 dX12_go_29 (by decide) ?_
      refine g_iald C (pc := 30) (by first | assumption | rfl | omega) (by first | assumption | rfl | omega) (vp_in_nI (n := 0) (by decide) (by decide)) dX12_go_30 ?_
      refine g_if_le C (pc := 31) 57 dX12_go_31 (by decide) (fun c31 => ?_) (fun c31 => ?_)
      · have h0 : (mvs F b w).length = 0 := by
          have h9 : I16 109 0 ≤ 0 := c31
          rw [f16.1, show (0 : Int32) = nI 0 from rfl, nI_leI (by omega) (by decide)] at h9
          omega
        obtain ⟨mv, hmvd⟩ : ∃ mv, mv = (none : Option Nat) := ⟨_, rfl⟩
        have hMS : MvS F b w z mv := Or.inr ⟨c22, h0, hmvd⟩
        have hmk : MvK F mv := by rw [hmvd]; intro m h; cases h
        refine g_aload_n C (pc := 57) dX12_go_57 0 rfl ?_
        refine g_callVI C (pc := 58) mf_X12_lost lk_RX12_221 (c_X12_lost n ρ I16 F b hn9 hms (hqf.kp k16) hrw fB hbw hl1) (by decide) (Nat.le_refl _) rfl (by first | assumption | rfl | omega) rfl (by first | assumption | rfl | omega) (Nat.le_of_ble_eq_true rfl) dX12_go_58 (fun v58 I58 h58 => ?_)
        obtain ⟨e58, rfl⟩ := h58
        refine g_bipush C (pc := 61) (-4) dX12_go_61 (by decide) ?_
        refine g_icmp_eq C (pc := 63) 69 dX12_go_63 (by decide) (fun c63 => ?_) (fun c63 => ?_)
        · have hl0 : lostB F b = none := (oI_none (lostB_lt2 hrw)).mp (e58.symm.trans c63)
          refine g_aload_n C (pc := 69) dX12_go_69 0 rfl ?_
          refine g_getR C (pc := 70) fl_RX12_7 (by decide) (by first | assumption | rfl | omega) (by first | assumption | rfl | omega) (by first | assumption | rfl | omega) dX12_go_70 ?_
          refine g_bipush C (pc := 73) 19 dX12_go_73 (by decide) ?_
          refine g_iald C (pc := 75) (by first | assumption | rfl | omega) (by first | assumption | rfl | omega) (vp_in_nI (n := 19) (by decide) (by decide)) dX12_go_75 ?_
          refine g_sipush C (pc := 76) 999 dX12_go_76 (by decide) ?_
          rw [show I16 98 (19 : Int32).toNatClampNeg = nI t from (by rw [k16.2 98 (by decide)]; exact htu)]
          refine g_icmp_ne C (pc := 79) 85 dX12_go_79 (by decide) (fun c79 => ?_) (fun c79 => ?_)
          · have ht8 : t < 999 := by
              have : t ≠ 999 := fun h9 => c79 (by rw [h9]; rfl)
              omega
            refine g_aload_n C (pc := 85) dX12_go_85 0 rfl ?_
            refine g_iload_n C (pc := 86) dX12_go_86 1 rfl ?_
            refine g_iload_n C (pc := 87) dX12_go_87 2 rfl ?_
            refine g_bipush C (pc := 88) (-4) dX12_go_88 (by decide) ?_
            refine g_icmp_ne C (pc := 90) 98 dX12_go_90 (by decide) (fun c90 => ?_) (fun c90 => ?_)
            · exact absurd c22 c90
            · refine g_bipush C (pc := 93) (-4) dX12_go_93 (by decide) ?_
              refine g_goto C (pc := 95) 104 dX12_go_95 (by decide) ?_
              refine g_callVI C (pc := 104) mf_X12_goes lk_RX12_251 (c_X12_goesE n ρ I16 F b w mv _ x hn9 hms (hqf.kp k16) hrw fB hbw hw hmk (by first | (rw [hmvd]; rfl) | (rw [hmvd, hk9, hzk, nI_clamp (by omega)]; have := f16.2 k _ hk9; rw [Nat.mul_zero, Nat.zero_add] at this; exact this)) hxw) (by decide) (Nat.le_refl _) rfl (by first | assumption | rfl | omega) rfl (by first | assumption | rfl | omega) (Nat.le_of_ble_eq_true rfl) dX12_go_104 (fun v104 I104 h104 => ?_)
              obtain ⟨e104, f104, a104, g104⟩ := h104
              refine g_istore_n C (pc := 107) dX12_go_107 (by decide) (fun v107 => [(3, .int v107), (0, .ref 97), (1, .int x), (2, .int z)]) (fun _ => rfl) (fun v107 ev107 => ?_)
              refine g_iconst C (pc := 108) 0 dX12_go_108 (by decide) ?_
              refine g_istore C (pc := 109) dX12_go_109 (by decide) (fun v109 => [(4, .int v109), (3, .int v107), (0, .ref 97), (1, .int x), (2, .int z)]) (fun _ => rfl) (fun v109 ev109 => ?_)
              have L111 : ∀ (k9 : Nat) (j : Nat) (wz4 : Int32) (J : Mem) (hw4 : wz4 = nI j) (hj : j ≤ 6) (hA : ∀ k, k < j → J 98 k = I104 106 k ∧ J 98 (6 + k) = I104 107 k) (hS : ∀ z, 12 ≤ z → J 98 z = I104 98 z) (hF : ∀ i, i ≠ 98 → J i = I104 i), 6 - j < k9 → G κ n ρ 111 [(4, .int wz4), (3, .int v107), (0, .ref 97), (1, .int x), (2, .int z)] [] J := by
                intro k9
                induction k9 with
                | zero => intro j wz4 J hw4 hj hA hS hF hm111; exact absurd hm111 (Nat.not_lt_zero _)
                | succ k9 ih111 =>
                  intro j wz4 J hw4 hj hA hS hF hm111
                  subst hw4
                  refine g_iload C (pc := 111) dX12_go_111 0 rfl ?_
                  refine g_bipush C (pc := 113) 6 dX12_go_113 (by decide) ?_
                  refine g_icmp_ge C (pc := 115) 157 dX12_go_115 (by decide) (fun c115 => ?_) (fun c115 => ?_)
                  · replace c115 := (nI_leI (a := 6) (b := j) (by decide) (by omega)).mp c115
                    refine g_aload_n C (pc := 157) dX12_go_157 2 rfl ?_
                    refine g_getR C (pc := 158) fl_RX12_7 (by decide) (by first | assumption | rfl | omega) (by first | assumption | rfl | omega) (by first | assumption | rfl | omega) dX12_go_158 ?_
                    refine g_bipush C (pc := 161) 18 dX12_go_161 (by decide) ?_
                    refine g_aload_n C (pc := 163) dX12_go_163 2 rfl ?_
                    refine g_getI C (pc := 164) fl_RX12_204 (by decide) (by first | assumption | rfl | omega) (by first | assumption | rfl | omega) dX12_go_164 ?_
                    refine g_iast C (pc := 167) (by first | assumption | rfl | omega) (by first | assumption | rfl | omega) hn9 (vp_in_nI (n := 18) (by decide) (by decide)) dX12_go_167 ?_
                    refine g_aload_n C (pc := 168) dX12_go_168 2 rfl ?_
                    refine g_getR C (pc := 169) fl_RX12_7 (by decide) (by first | assumption | rfl | omega) (by first | assumption | rfl | omega) (by first | assumption | rfl | omega) dX12_go_169 ?_
                    refine g_bipush C (pc := 172) 19 dX12_go_172 (by decide) ?_
                    refine g_dup2 C (pc := 174) dX12_go_174 rfl rfl ?_
                    refine g_iald C (pc := 175) (by first | assumption | rfl | omega) (by first | assumption | rfl | omega) (vp_in_nI (n := 19) (by decide) (by decide)) dX12_go_175 ?_
                    refine g_iconst C (pc := 176) 1 dX12_go_176 (by decide) ?_
                    refine g_iadd C (pc := 177) dX12_go_177 ?_
                    refine g_iast C (pc := 178) (by first | assumption | rfl | omega) (by first | assumption | rfl | omega) hn9 (vp_in_nI (n := 19) (by decide) (by decide)) dX12_go_178 ?_
                    rw [show (18 : Int32).toNatClampNeg = 18 from rfl, show (19 : Int32).toNatClampNeg = 19 from rfl]
                    refine g_iload_n C (pc := 179) dX12_go_179 1 rfl ?_
                    refine g_iret C hR (pc := 180) rfl dX12_go_180 ?_
                    refine ⟨rfl, _, rfl, ?_⟩
                    have k104 := k16.trans (Kp.qb a104 g104)
                    refine Or.inr ⟨w, mv, ⟨hw, hxw, hMS⟩, Or.inr (Or.inr ⟨hl0, ht8, ev107.trans e104, ⟨?_, ?_, fun p hp => ?_, ?_⟩, ?_, ⟨fun z hz => ?_, fun i hi => ?_, fun z h1 h2 h3 => ?_⟩⟩)⟩
                    · refine (hqf.kp k104).cong ?_ ?_ ?_ ?_ ?_ <;> rw [wr_n (by decide), wr_n (by decide), hF _ (by decide)]
                    · refine ⟨fun i hi => ?_, fun w9 hw9 => ?_⟩
                      · rw [wr_sn (by decide), wr_sn (by decide), hS 12 (by decide)]; exact (hqe.kp k104).1 i hi
                      · rw [wr_sn (show 13 + w9 ≠ 19 by omega), wr_sn (show 13 + w9 ≠ 18 by omega), hS _ (by omega)]; exact (hqe.kp k104).2 w9 hw9
                    · rw [wr_sn (show p ≠ 19 by omega), wr_sn (show p ≠ 18 by omega), wr_sn (show 6 + p ≠ 19 by omega), wr_sn (show 6 + p ≠ 18 by omega), (hA p (by omega)).1, (hA p (by omega)).2]; exact f104.1 p hp
                    · show wr (wr J 98 18 (J 97 25)) 98 19 _ 98 18 = _
                      rw [wr_sn (by decide), wr_ss, hF 97 (by decide)]; exact f104.2
                    · show wr (wr J 98 18 (J 97 25)) 98 19 (wr J 98 18 (J 97 25) 98 19 + 1) 98 19 = _
                      rw [wr_ss, wr_sn (by decide), hS 19 (by decide), k104.2 98 (by decide), htu]; exact nI_1 _
                    · rw [wr_n (by decide), wr_n (by decide), hF 97 (by decide)]; exact k104.1 z hz
                    · rw [wr_n (by omega), wr_n (by omega), hF i (by omega)]; exact k104.2 i (by omega)
                    · rw [wr_sn (show z ≠ 19 from h3), wr_sn (show z ≠ 18 from h2), hS z h1, k104.2 98 (by decide)]
                  · replace c115 := (nI_ltI (a := j) (b := 6) (by omega) (by decide)).mp c115
                    have ix1 : (0 + nI j).toNatClampNeg = j := by rw [Int32.zero_add]; exact nI_clamp (by omega)
                    have ix2 : (6 + nI j).toNatClampNeg = 6 + j := by rw [show (6 : Int32) = nI 6 from rfl, nI_add]; exact nI_clamp (by omega)
                    have ix3 : (nI j).toNatClampNeg = j := nI_clamp (by omega)
                    refine g_aload_n C (pc := 118) dX12_go_118 2 rfl ?_
                    refine g_getR C (pc := 119) fl_RX12_7 (by decide) (by first | assumption | rfl | omega) (by first | assumption | rfl | omega) (by first | assumption | rfl | omega) dX12_go_119 ?_
                    refine g_iconst C (pc := 122) 0 dX12_go_122 (by decide) ?_
                    refine g_iload C (pc := 123) dX12_go_123 0 rfl ?_
                    refine g_iadd C (pc := 125) dX12_go_125 ?_
                    refine g_aload_n C (pc := 126) dX12_go_126 2 rfl ?_
                    refine g_getR C (pc := 127) fl_RX12_35 (by decide) (by first | assumption | rfl | omega) (by first | assumption | rfl | omega) (by first | assumption | rfl | omega) dX12_go_127 ?_
                    refine g_iload C (pc := 130) dX12_go_130 0 rfl ?_
                    refine g_iald C (pc := 132) (by first | assumption | rfl | omega) (by first | assumption | rfl | omega) (vp_in_nI (by omega) (by decide)) dX12_go_132 ?_
                    refine g_iast C (pc := 133) (by first | assumption | rfl | omega) (by first | assumption | rfl | omega) hn9 (by rw [Int32.zero_add]; exact vp_in_nI (by omega) (by decide)) dX12_go_133 ?_
                    refine g_aload_n C (pc := 134) dX12_go_134 2 rfl ?_
                    refine g_getR C (pc := 135) fl_RX12_7 (by decide) (by first | assumption | rfl | omega) (by first | assumption | rfl | omega) (by first | assumption | rfl | omega) dX12_go_135 ?_
                    refine g_bipush C (pc := 138) 6 dX12_go_138 (by decide) ?_
                    refine g_iload C (pc := 140) dX12_go_140 0 rfl ?_
                    refine g_iadd C (pc := 142) dX12_go_142 ?_
                    refine g_aload_n C (pc := 143) dX12_go_143 2 rfl ?_
                    refine g_getR C (pc := 144) fl_RX12_38 (by decide) (by first | assumption | rfl | omega) (by first | assumption | rfl | omega) (by first | assumption | rfl | omega) dX12_go_144 ?_
                    refine g_iload C (pc := 147) dX12_go_147 0 rfl ?_
                    refine g_iald C (pc := 149) (by first | assumption | rfl | omega) (by first | assumption | rfl | omega) (vp_in_nI (by omega) (by decide)) dX12_go_149 ?_
                    refine g_iast C (pc := 150) (by first | assumption | rfl | omega) (by first | assumption | rfl | omega) hn9 (by rw [show (6 : Int32) = nI 6 from rfl, nI_add]; exact vp_in_nI (by omega) (by decide)) dX12_go_150 ?_
                    refine g_iinc C (pc := 151) (1) dX12_go_151 0 rfl (by decide) (by decide) (fun v151 => [(4, .int v151), (3, .int v107), (0, .ref 97), (1, .int x), (2, .int z)]) (fun _ => rfl) (fun v151 ev151 => ?_)
                    refine g_goto C (pc := 154) 111 dX12_go_154 (by decide) ?_
                    refine g_lv C [0, 1, 2, 3, 4] rfl (ih111 (j + 1) _ _ ?_ ?_ ?_ ?_ ?_ (by omega))
                    · subst ev151; exact nI_1 _
                    · omega
                    · intro k hk
                      rw [ix1, ix2, ix3]
                      rw [wr_n (a := 107) (by decide), hF 106 (by decide), hF 107 (by decide)]
                      rcases Nat.lt_or_ge k j with h1 | h1
                      · rw [wr_sn (by omega), wr_sn (by omega), wr_sn (by omega), wr_sn (by omega)]; exact hA k h1
                      · have : k = j := by omega
                        subst this
                        rw [wr_sn (by omega), wr_ss, wr_ss]; exact ⟨rfl, rfl⟩
                    · intro z hz; rw [ix1, ix2, wr_sn (by omega), wr_sn (by omega)]; exact hS z hz
                    · intro i h1; rw [wr_n h1, wr_n h1]; exact hF i h1
              refine g_lv C [0, 1, 2, 3, 4] rfl (L111 (_ + 1) 0 _ _ ?_ ?_ ?_ ?_ ?_ (by first | omega | exact Nat.lt_succ_self _))
              · subst ev109; rfl
              · omega
              · intro k hk; omega
              · intro z _; rfl
              · intro i _; rfl
          · have ht8 : 999 ≤ t := by
              have := (nI_eq (b := 999) (by omega) (by decide)).mp c79
              omega
            refine g_bipush C (pc := 82) (-3) dX12_go_82 (by decide) ?_
            refine g_iret C hR (pc := 84) rfl dX12_go_84 ?_
            refine ⟨rfl, _, rfl, ?_⟩
            exact Or.inr ⟨w, mv, ⟨hw, hxw, hMS⟩, Or.inr (Or.inl ⟨hl0, ht8, rfl, k16⟩)⟩
        · have hl0 : ¬ lostB F b = none := fun h9 => c63 (by rw [e58, h9]; rfl)
          refine g_bipush C (pc := 66) (-2) dX12_go_66 (by decide) ?_
          refine g_iret C hR (pc := 68) rfl dX12_go_68 ?_
          refine ⟨rfl, _, rfl, ?_⟩
          exact Or.inr ⟨w, mv, ⟨hw, hxw, hMS⟩, Or.inl ⟨hl0, rfl, k16⟩⟩
      · have h0 : (mvs F b w).length ≠ 0 := by
          have h9 : 0 < I16 109 0 := c31
          rw [f16.1, show (0 : Int32) = nI 0 from rfl, nI_ltI (by decide) (by omega)] at h9
          omega
        have hno : ∀ mv, ¬ MvS F b w z mv := by
          rintro mv (⟨k9, m9, h1, h2, h3⟩ | ⟨h1, h2, h3⟩)
          · have h4 := (List.getElem?_eq_some_iff.mp h2).1
            rw [h1] at c22; exact absurd c22 (nI_ne4 (by omega))
          · exact h0 h2
        refine g_goto C (pc := 34) 55 dX12_go_34 (by decide) ?_
        refine g_iconst C (pc := 55) (-1) dX12_go_55 (by decide) ?_
        refine g_iret C hR (pc := 56) rfl dX12_go_56 ?_
        refine ⟨rfl, _, rfl, ?_⟩
        refine Or.inl ⟨fun ⟨w9, mv9, h1, h2, h3⟩ => ?_, rfl, k16⟩
        have e1 : w = w9 := (nI_eq (by omega) (by omega)).mp (hxw.symm.trans h2)
        subst e1
        exact hno mv9 h3
  · have hx := bI_0.mp (e1.symm.trans c4)
    refine g_iconst C (pc := 7) (-1) dX12_go_7 (by decide) ?_
    refine g_iret C hR (pc := 8) rfl dX12_go_8 ?_
    refine ⟨rfl, _, rfl, ?_⟩
    exact Or.inl ⟨fun ⟨w9, mv9, h1, h2, h3⟩ => hx (by rw [h2]; exact ⟨nI_pos' (by omega), nI_lt (b := 5) h1 (by decide)⟩), rfl, Kp.rfl'⟩
