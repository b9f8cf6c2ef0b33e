theorem byt_s {x : Int64} {i : Nat} (hi : i < 8) : (x >>> ((56 - 8 * nI i).toInt64 &&& 63) &&& 255).toInt32 = nI (byt x i) := by
  have hs : ∀ i, i < 8 → ((56 - 8 * nI i).toInt64 &&& 63).toBitVec.smod 64 = BitVec.ofNat 64 (56 - 8 * i) := by decide +kernel
  have h1 : (x >>> ((56 - 8 * nI i).toInt64 &&& 63) &&& 255).toBitVec = x.toBitVec >>> (56 - 8 * i) &&& 255#64 := by
    rw [Int64.toBitVec_and, Int64.toBitVec_shiftRight, hs i hi]
    apply BitVec.eq_of_getLsbD_eq
    intro q hq
    have e : (56 - 8 * i) % 2 ^ 64 = 56 - 8 * i := Nat.mod_eq_of_lt (by omega)
    rw [BitVec.getLsbD_and, BitVec.getLsbD_and]
    show ((BitVec.sshiftRight x.toBitVec (BitVec.ofNat 64 (56 - 8 * i)).toNat).getLsbD q && _) = _
    rw [BitVec.toNat_ofNat, e, BitVec.getLsbD_sshiftRight, BitVec.getLsbD_ushiftRight]
    by_cases h8 : q < 8
    · rw [if_pos (by omega), decide_eq_false (by omega)]; simp
    · have : (255#64).getLsbD q = false := by
        have hall : ∀ q, q < 64 → ¬ q < 8 → (255#64).getLsbD q = false := by decide
        exact hall q hq h8
      rw [show (255 : Int64).toBitVec = 255#64 from rfl, this, Bool.and_false, Bool.and_false]
  have h2 : (x >>> ((56 - 8 * nI i).toInt64 &&& 63) &&& 255).toBitVec.toNat = byt x i := by
    rw [h1, BitVec.toNat_and, BitVec.toNat_ushiftRight, Nat.shiftRight_eq_div_pow]
    show x.toBitVec.toNat / 2 ^ (56 - 8 * i) &&& (2 ^ 8 - 1) = _
    rw [Nat.and_two_pow_sub_one_eq_mod]; rfl
  have h3 := byt_lt x i
  apply Int32.toInt_inj.mp
  rw [Int64.toInt_toInt32, nI_toInt (by omega)]
  have h4 : (x >>> ((56 - 8 * nI i).toInt64 &&& 63) &&& 255).toInt = (byt x i : Int) := by
    rw [← h2]
    show BitVec.toInt _ = _
    rw [BitVec.toInt_eq_toNat_of_lt (by omega)]
  rw [h4]
  exact Int.bmod_eq_of_le (by omega) (by omega)
theorem step8 : ∀ j, j < 8 → (56 - 8 * nI j) + -8 = 56 - 8 * nI (j + 1) := by decide
theorem ctP_s {P : Nat → Bool} {j : Nat} : ctP P (j + 1) = ctP P j + (if P j = true then 1 else 0) := by
  first | rfl | (rw [ctP]; done) | (rw [ctP]; split <;> simp_all)
set_option maxHeartbeats 400000 in
theorem c_X12_count (n : Nat) (ρ : Rho) (I : Mem) (F : RT) (b : BT) (ln : Nat → Option Nat) (sz : Nat → Nat) (cl : Nat → Nat → Int32) (kp : Nat → Bool) (x : Int32) (hn9 : n ≤ 999) (hms : MS n ρ) (hqn : QN I F b) (hrw : RW F) (hbw : BW F b) (hsh : ShM I ln sz cl) (hkp : ∀ k, k < 2 → I 99 k = bI (kp k = true)) : MI yX12_count cX12_count 5 (some .int) 1 [.ref 97, .int x] n ρ I (fun v I1 => v = (if x = 0 then nI (ctP (fun p => decide (bP b p ≠ none)) (rN F)) else if x = 1 then I 98 20 else if x = 2 then I 98 37 else if x = 3 then bI (kp 0 = true) + bI (kp 1 = true) else if x = 4 then I 97 16 else if x = 5 then oI ((ln 0).map (fun _ => sz 0)) else if x = 6 then nI (smP (bO b) (rN F)) else -1) ∧ I = I1) := by
  refine MG.of (by decide +kernel) (Nat.le_of_ble_eq_true rfl) hn9 ?_
  intro κ C hR
  show G κ n ρ 0 [(0, .ref 97), (1, .int x)] [] I
  obtain ⟨mn, ⟨m0, m1, m5, m6, m7, m11, m12, m15⟩, ⟨m23, m24, m26, m27, m28, m30, m31, m32, m33⟩, ⟨m38, m39, m40, m42⟩⟩ := id hms
  obtain ⟨hqf, hqe, hqs, hqt⟩ := id hqn
  obtain ⟨qw, qh, qn, qk⟩ := id hqf
  have hn6 : rN F ≤ 6 := hrw.2.2.2.2.1
  have hm25 := Nat.mul_le_mul hrw.2.1 hrw.2.2.2.1
  have hm4 := Nat.mul_le_mul hrw.1 hrw.2.2.1
  refine g_iconst C (pc := 0) 0 dX12_count_0 (by decide) ?_
  refine g_istore_n C (pc := 1) dX12_count_1 (by decide) (fun v1 => [(2, .int v1), (0, .ref 97), (1, .int x)]) (fun _ => rfl) (fun v1 ev1 => ?_)
  refine g_iconst C (pc := 2) 0 dX12_count_2 (by decide) ?_
  refine g_istore_n C (pc := 3) dX12_count_3 (by decide) (fun v3 => [(3, .int v3), (2, .int v1), (0, .ref 97), (1, .int x)]) (fun _ => rfl) (fun v3 ev3 => ?_)
  refine g_iconst C (pc := 4) 0 dX12_count_4 (by decide) ?_
  refine g_istore C (pc := 5) dX12_count_5 (by decide) (fun v5 => [(4, .int v5), (3, .int v3), (2, .int v1), (0, .ref 97), (1, .int x)]) (fun _ => rfl) (fun v5 ev5 => ?_)
  have L7 : ∀ (k9 : Nat) (j : Nat)  (wz4 : Int32) (wz2 : Int32) (wz3 : Int32) (hw4 : wz4 = nI j) (hj : j ≤ rN F) (hc : wz2 = nI (ctP (fun p => decide (bP b p ≠ none)) j)) (ho : wz3 = nI (smP (bO b) j)), rN F - j < k9 → G κ n ρ 7 [(4, .int wz4), (2, .int wz2), (3, .int wz3), (0, .ref 97), (1, .int x)] [] I := by
    intro k9
    induction k9 with
    | zero => intro j wz4 wz2 wz3 hw4 hj hc ho hm7; exact absurd hm7 (Nat.not_lt_zero _)
    | succ k9 ih7 =>
      intro j wz4 wz2 wz3 hw4 hj hc ho hm7
      subst hw4
      refine g_iload C (pc := 7) dX12_count_7 0 rfl ?_
      refine g_aload_n C (pc := 9) dX12_count_9 3 rfl ?_
      refine g_getI C (pc := 10) fl_RX12_105 (by decide) (by first | assumption | rfl | omega) (by first | assumption | rfl | omega) dX12_count_10 ?_
      refine g_icmp_ge C (pc := 13) 60 dX12_count_13 (by decide) (fun c13 => ?_) (fun c13 => ?_)
      · rw [qn, nI_leI (by omega) (by omega)] at c13
        refine g_iload_n C (pc := 60) dX12_count_60 4 rfl ?_
        refine g_tsw C (pc := 61) dX12_count_61 (by decide) (by decide) (by decide) (by decide) (swK_cons (fun c61_0 => ?_) (swK_cons (fun c61_1 => ?_) (swK_cons (fun c61_2 => ?_) (swK_cons (fun c61_3 => ?_) (swK_cons (fun c61_4 => ?_) (swK_cons (fun c61_5 => ?_) (swK_cons (fun c61_6 => ?_) swK_nil))))))) (fun c61_d => ?_)
        · show G κ n ρ 104 _ _ _
          replace c61_0 : x = 0 := c61_0
          refine g_iload_n C (pc := 104) dX12_count_104 1 rfl ?_
          refine g_iret C hR (pc := 105) rfl dX12_count_105 ?_
          refine ⟨rfl, _, rfl, ?_⟩
          have hj9 : j = rN F := by omega
          subst hj9
          refine ⟨?_, rfl⟩
          first
          | (subst c61_0; exact hc)
          | (subst c61_1; rfl)
          | (subst c61_2; rfl)
          | (subst c61_3; rw [e128, e137]; show bI (¬ I 99 0 = 0) + bI (¬ I 99 1 = 0) = _; rw [hkp 0 (by decide), hkp 1 (by decide)]; cases kp 0 <;> cases kp 1 <;> rfl)
          | (subst c61_4; rfl)
          | (subst c61_5; rw [hln]; rfl)
          | (subst c61_5; rw [hln]; exact (hsh 0 (by decide)).2.1)
          | (subst c61_6; exact ho)
          | (rw [if_neg (show ¬ x = 0 from hnd 0 (by decide)), if_neg (show ¬ x = 1 from hnd 1 (by decide)), if_neg (show ¬ x = 2 from hnd 2 (by decide)), if_neg (show ¬ x = 3 from hnd 3 (by decide)), if_neg (show ¬ x = 4 from hnd 4 (by decide)), if_neg (show ¬ x = 5 from hnd 5 (by decide)), if_neg (show ¬ x = 6 from hnd 6 (by decide))])
        · show G κ n ρ 106 _ _ _
          replace c61_1 : x = 1 := c61_1
          refine g_aload_n C (pc := 106) dX12_count_106 3 rfl ?_
          refine g_getR C (pc := 107) fl_RX12_7 (by decide) (by first | assumption | rfl | omega) (by first | assumption | rfl | omega) (by first | assumption | rfl | omega) dX12_count_107 ?_
          refine g_bipush C (pc := 110) 20 dX12_count_110 (by decide) ?_
          refine g_iald C (pc := 112) (by first | assumption | rfl | omega) (by first | assumption | rfl | omega) (vp_in_nI (n := 20) (by decide) (by decide)) dX12_count_112 ?_
          refine g_iret C hR (pc := 113) rfl dX12_count_113 ?_
          refine ⟨rfl, _, rfl, ?_⟩
          have hj9 : j = rN F := by omega
          subst hj9
          refine ⟨?_, rfl⟩
          first
          | (subst c61_0; exact hc)
          | (subst c61_1; rfl)
          | (subst c61_2; rfl)
          | (subst c61_3; rw [e128, e137]; show bI (¬ I 99 0 = 0) + bI (¬ I 99 1 = 0) = _; rw [hkp 0 (by decide), hkp 1 (by decide)]; cases kp 0 <;> cases kp 1 <;> rfl)
          | (subst c61_4; rfl)
          | (subst c61_5; rw [hln]; rfl)
          | (subst c61_5; rw [hln]; exact (hsh 0 (by decide)).2.1)
          | (subst c61_6; exact ho)
          | (rw [if_neg (show ¬ x = 0 from hnd 0 (by decide)), if_neg (show ¬ x = 1 from hnd 1 (by decide)), if_neg (show ¬ x = 2 from hnd 2 (by decide)), if_neg (show ¬ x = 3 from hnd 3 (by decide)), if_neg (show ¬ x = 4 from hnd 4 (by decide)), if_neg (show ¬ x = 5 from hnd 5 (by decide)), if_neg (show ¬ x = 6 from hnd 6 (by decide))])
        · show G κ n ρ 114 _ _ _
          replace c61_2 : x = 2 := c61_2
          refine g_aload_n C (pc := 114) dX12_count_114 3 rfl ?_
          refine g_getR C (pc := 115) fl_RX12_7 (by decide) (by first | assumption | rfl | omega) (by first | assumption | rfl | omega) (by first | assumption | rfl | omega) dX12_count_115 ?_
          refine g_bipush C (pc := 118) 37 dX12_count_118 (by decide) ?_
          refine g_iald C (pc := 120) (by first | assumption | rfl | omega) (by first | assumption | rfl | omega) (vp_in_nI (n := 37) (by decide) (by decide)) dX12_count_120 ?_
          refine g_iret C hR (pc := 121) rfl dX12_count_121 ?_
          refine ⟨rfl, _, rfl, ?_⟩
          have hj9 : j = rN F := by omega
          subst hj9
          refine ⟨?_, rfl⟩
          first
          | (subst c61_0; exact hc)
          | (subst c61_1; rfl)
          | (subst c61_2; rfl)
          | (subst c61_3; rw [e128, e137]; show bI (¬ I 99 0 = 0) + bI (¬ I 99 1 = 0) = _; rw [hkp 0 (by decide), hkp 1 (by decide)]; cases kp 0 <;> cases kp 1 <;> rfl)
          | (subst c61_4; rfl)
          | (subst c61_5; rw [hln]; rfl)
          | (subst c61_5; rw [hln]; exact (hsh 0 (by decide)).2.1)
          | (subst c61_6; exact ho)
          | (rw [if_neg (show ¬ x = 0 from hnd 0 (by decide)), if_neg (show ¬ x = 1 from hnd 1 (by decide)), if_neg (show ¬ x = 2 from hnd 2 (by decide)), if_neg (show ¬ x = 3 from hnd 3 (by decide)), if_neg (show ¬ x = 4 from hnd 4 (by decide)), if_neg (show ¬ x = 5 from hnd 5 (by decide)), if_neg (show ¬ x = 6 from hnd 6 (by decide))])
        · show G κ n ρ 122 _ _ _
          replace c61_3 : x = 3 := c61_3
          refine g_aload_n C (pc := 122) dX12_count_122 3 rfl ?_
          refine g_getR C (pc := 123) fl_RX12_13 (by decide) (by first | assumption | rfl | omega) (by first | assumption | rfl | omega) (by first | assumption | rfl | omega) dX12_count_123 ?_
          refine g_iconst C (pc := 126) 0 dX12_count_126 (by decide) ?_
          refine g_zald C (pc := 127) (by first | assumption | rfl | omega) (by first | assumption | rfl | omega) (vp_in_nI (n := 0) (by decide) (by decide)) dX12_count_127 ?_
          refine g_callSI C (pc := 128) mf_X12_flag lk_RX12_189 (c_X12_flag n ρ I _ hn9) (by decide) (Nat.le_refl _) rfl (Nat.le_of_ble_eq_true rfl) dX12_count_128 (fun v128 I128 h128 => ?_)
          obtain ⟨e128, rfl⟩ := h128
          refine g_aload_n C (pc := 131) dX12_count_131 3 rfl ?_
          refine g_getR C (pc := 132) fl_RX12_13 (by decide) (by first | assumption | rfl | omega) (by first | assumption | rfl | omega) (by first | assumption | rfl | omega) dX12_count_132 ?_
          refine g_iconst C (pc := 135) 1 dX12_count_135 (by decide) ?_
          refine g_zald C (pc := 136) (by first | assumption | rfl | omega) (by first | assumption | rfl | omega) (vp_in_nI (n := 1) (by decide) (by decide)) dX12_count_136 ?_
          refine g_callSI C (pc := 137) mf_X12_flag lk_RX12_189 (c_X12_flag n ρ I _ hn9) (by decide) (Nat.le_refl _) rfl (Nat.le_of_ble_eq_true rfl) dX12_count_137 (fun v137 I137 h137 => ?_)
          obtain ⟨e137, rfl⟩ := h137
          refine g_iadd C (pc := 140) dX12_count_140 ?_
          refine g_iret C hR (pc := 141) rfl dX12_count_141 ?_
          refine ⟨rfl, _, rfl, ?_⟩
          have hj9 : j = rN F := by omega
          subst hj9
          refine ⟨?_, rfl⟩
          first
          | (subst c61_0; exact hc)
          | (subst c61_1; rfl)
          | (subst c61_2; rfl)
          | (subst c61_3; rw [e128, e137]; show bI (¬ I 99 0 = 0) + bI (¬ I 99 1 = 0) = _; rw [hkp 0 (by decide), hkp 1 (by decide)]; cases kp 0 <;> cases kp 1 <;> rfl)
          | (subst c61_4; rfl)
          | (subst c61_5; rw [hln]; rfl)
          | (subst c61_5; rw [hln]; exact (hsh 0 (by decide)).2.1)
          | (subst c61_6; exact ho)
          | (rw [if_neg (show ¬ x = 0 from hnd 0 (by decide)), if_neg (show ¬ x = 1 from hnd 1 (by decide)), if_neg (show ¬ x = 2 from hnd 2 (by decide)), if_neg (show ¬ x = 3 from hnd 3 (by decide)), if_neg (show ¬ x = 4 from hnd 4 (by decide)), if_neg (show ¬ x = 5 from hnd 5 (by decide)), if_neg (show ¬ x = 6 from hnd 6 (by decide))])
        · show G κ n ρ 142 _ _ _
          replace c61_4 : x = 4 := c61_4
          refine g_aload_n C (pc := 142) dX12_count_142 3 rfl ?_
          refine g_getI C (pc := 143) fl_RX12_108 (by decide) (by first | assumption | rfl | omega) (by first | assumption | rfl | omega) dX12_count_143 ?_
          refine g_iret C hR (pc := 146) rfl dX12_count_146 ?_
          refine ⟨rfl, _, rfl, ?_⟩
          have hj9 : j = rN F := by omega
          subst hj9
          refine ⟨?_, rfl⟩
          first
          | (subst c61_0; exact hc)
          | (subst c61_1; rfl)
          | (subst c61_2; rfl)
          | (subst c61_3; rw [e128, e137]; show bI (¬ I 99 0 = 0) + bI (¬ I 99 1 = 0) = _; rw [hkp 0 (by decide), hkp 1 (by decide)]; cases kp 0 <;> cases kp 1 <;> rfl)
          | (subst c61_4; rfl)
          | (subst c61_5; rw [hln]; rfl)
          | (subst c61_5; rw [hln]; exact (hsh 0 (by decide)).2.1)
          | (subst c61_6; exact ho)
          | (rw [if_neg (show ¬ x = 0 from hnd 0 (by decide)), if_neg (show ¬ x = 1 from hnd 1 (by decide)), if_neg (show ¬ x = 2 from hnd 2 (by decide)), if_neg (show ¬ x = 3 from hnd 3 (by decide)), if_neg (show ¬ x = 4 from hnd 4 (by decide)), if_neg (show ¬ x = 5 from hnd 5 (by decide)), if_neg (show ¬ x = 6 from hnd 6 (by decide))])
        · show G κ n ρ 147 _ _ _
          replace c61_5 : x = 5 := c61_5
          refine g_aload_n C (pc := 147) dX12_count_147 3 rfl ?_
          refine g_getR C (pc := 148) fl_RX12_62 (by decide) (by first | assumption | rfl | omega) (by first | assumption | rfl | omega) (by first | assumption | rfl | omega) dX12_count_148 ?_
          refine g_iconst C (pc := 151) 0 dX12_count_151 (by decide) ?_
          refine g_iald C (pc := 152) (by first | assumption | rfl | omega) (by first | assumption | rfl | omega) (vp_in_nI (n := 0) (by decide) (by decide)) dX12_count_152 ?_
          refine g_bipush C (pc := 153) (-4) dX12_count_153 (by decide) ?_
          refine g_icmp_ne C (pc := 155) 163 dX12_count_155 (by decide) (fun c155 => ?_) (fun c155 => ?_)
          · obtain ⟨l, hln⟩ : ∃ l, ln 0 = some l := by
              cases h9 : ln 0 with
              | none => exact absurd ((hsh 0 (by decide)).1.trans (by rw [h9]; rfl)) c155
              | some l => exact ⟨l, rfl⟩
            refine g_aload_n C (pc := 163) dX12_count_163 3 rfl ?_
            refine g_getR C (pc := 164) fl_RX12_65 (by decide) (by first | assumption | rfl | omega) (by first | assumption | rfl | omega) (by first | assumption | rfl | omega) dX12_count_164 ?_
            refine g_iconst C (pc := 167) 0 dX12_count_167 (by decide) ?_
            refine g_iald C (pc := 168) (by first | assumption | rfl | omega) (by first | assumption | rfl | omega) (vp_in_nI (n := 0) (by decide) (by decide)) dX12_count_168 ?_
            refine g_iret C hR (pc := 169) rfl dX12_count_169 ?_
            refine ⟨rfl, _, rfl, ?_⟩
            have hj9 : j = rN F := by omega
            subst hj9
            refine ⟨?_, rfl⟩
            first
            | (subst c61_0; exact hc)
            | (subst c61_1; rfl)
            | (subst c61_2; rfl)
            | (subst c61_3; rw [e128, e137]; show bI (¬ I 99 0 = 0) + bI (¬ I 99 1 = 0) = _; rw [hkp 0 (by decide), hkp 1 (by decide)]; cases kp 0 <;> cases kp 1 <;> rfl)
            | (subst c61_4; rfl)
            | (subst c61_5; rw [hln]; rfl)
            | (subst c61_5; rw [hln]; exact (hsh 0 (by decide)).2.1)
            | (subst c61_6; exact ho)
            | (rw [if_neg (show ¬ x = 0 from hnd 0 (by decide)), if_neg (show ¬ x = 1 from hnd 1 (by decide)), if_neg (show ¬ x = 2 from hnd 2 (by decide)), if_neg (show ¬ x = 3 from hnd 3 (by decide)), if_neg (show ¬ x = 4 from hnd 4 (by decide)), if_neg (show ¬ x = 5 from hnd 5 (by decide)), if_neg (show ¬ x = 6 from hnd 6 (by decide))])
          · have hln : ln 0 = none := by
              have h9 : I 115 0 = -4 := c155
              rw [(hsh 0 (by decide)).1] at h9
              exact (oI_none (fun q hq => by have := (hsh 0 (by decide)).2.2.2.1 q hq; omega)).mp h9
            refine g_bipush C (pc := 158) (-4) dX12_count_158 (by decide) ?_
            refine g_goto C (pc := 160) 169 dX12_count_160 (by decide) ?_
            refine g_iret C hR (pc := 169) rfl dX12_count_169 ?_
            refine ⟨rfl, _, rfl, ?_⟩
            have hj9 : j = rN F := by omega
            subst hj9
            refine ⟨?_, rfl⟩
            first
            | (subst c61_0; exact hc)
            | (subst c61_1; rfl)
            | (subst c61_2; rfl)
            | (subst c61_3; rw [e128, e137]; show bI (¬ I 99 0 = 0) + bI (¬ I 99 1 = 0) = _; rw [hkp 0 (by decide), hkp 1 (by decide)]; cases kp 0 <;> cases kp 1 <;> rfl)
            | (subst c61_4; rfl)
            | (subst c61_5; rw [hln]; rfl)
            | (subst c61_5; rw [hln]; exact (hsh 0 (by decide)).2.1)
            | (subst c61_6; exact ho)
            | (rw [if_neg (show ¬ x = 0 from hnd 0 (by decide)), if_neg (show ¬ x = 1 from hnd 1 (by decide)), if_neg (show ¬ x = 2 from hnd 2 (by decide)), if_neg (show ¬ x = 3 from hnd 3 (by decide)), if_neg (show ¬ x = 4 from hnd 4 (by decide)), if_neg (show ¬ x = 5 from hnd 5 (by decide)), if_neg (show ¬ x = 6 from hnd 6 (by decide))])
        · show G κ n ρ 170 _ _ _
          replace c61_6 : x = 6 := c61_6
          refine g_iload_n C (pc := 170) dX12_count_170 2 rfl ?_
          refine g_iret C hR (pc := 171) rfl dX12_count_171 ?_
          refine ⟨rfl, _, rfl, ?_⟩
          have hj9 : j = rN F := by omega
          subst hj9
          refine ⟨?_, rfl⟩
          first
          | (subst c61_0; exact hc)
          | (subst c61_1; rfl)
          | (subst c61_2; rfl)
          | (subst c61_3; rw [e128, e137]; show bI (¬ I 99 0 = 0) + bI (¬ I 99 1 = 0) = _; rw [hkp 0 (by decide), hkp 1 (by decide)]; cases kp 0 <;> cases kp 1 <;> rfl)
          | (subst c61_4; rfl)
          | (subst c61_5; rw [hln]; rfl)
          | (subst c61_5; rw [hln]; exact (hsh 0 (by decide)).2.1)
          | (subst c61_6; exact ho)
          | (rw [if_neg (show ¬ x = 0 from hnd 0 (by decide)), if_neg (show ¬ x = 1 from hnd 1 (by decide)), if_neg (show ¬ x = 2 from hnd 2 (by decide)), if_neg (show ¬ x = 3 from hnd 3 (by decide)), if_neg (show ¬ x = 4 from hnd 4 (by decide)), if_neg (show ¬ x = 5 from hnd 5 (by decide)), if_neg (show ¬ x = 6 from hnd 6 (by decide))])
        · show G κ n ρ 172 _ _ _
          have hnd : ∀ q, q < 7 → x ≠ nI q := by
            intro q hq h9
            subst h9
            rcases c61_d with h8 | h8
            · exact absurd h8 (nI_pos (by omega))
            · have : ¬ nI 7 ≤ nI q := by rw [nI_leI (by decide) (by omega)]; omega
              exact this h8
          refine g_iconst C (pc := 172) (-1) dX12_count_172 (by decide) ?_
          refine g_iret C hR (pc := 173) rfl dX12_count_173 ?_
          refine ⟨rfl, _, rfl, ?_⟩
          have hj9 : j = rN F := by omega
          subst hj9
          refine ⟨?_, rfl⟩
          first
          | (subst c61_0; exact hc)
          | (subst c61_1; rfl)
          | (subst c61_2; rfl)
          | (subst c61_3; rw [e128, e137]; show bI (¬ I 99 0 = 0) + bI (¬ I 99 1 = 0) = _; rw [hkp 0 (by decide), hkp 1 (by decide)]; cases kp 0 <;> cases kp 1 <;> rfl)
          | (subst c61_4; rfl)
          | (subst c61_5; rw [hln]; rfl)
          | (subst c61_5; rw [hln]; exact (hsh 0 (by decide)).2.1)
          | (subst c61_6; exact ho)
          | (rw [if_neg (show ¬ x = 0 from hnd 0 (by decide)), if_neg (show ¬ x = 1 from hnd 1 (by decide)), if_neg (show ¬ x = 2 from hnd 2 (by decide)), if_neg (show ¬ x = 3 from hnd 3 (by decide)), if_neg (show ¬ x = 4 from hnd 4 (by decide)), if_neg (show ¬ x = 5 from hnd 5 (by decide)), if_neg (show ¬ x = 6 from hnd 6 (by decide))])
      · rw [qn, nI_ltI (by omega) (by omega)] at c13
        refine g_iload_n C (pc := 16) dX12_count_16 1 rfl ?_
        refine g_aload_n C (pc := 17) dX12_count_17 3 rfl ?_
        refine g_getR C (pc := 18) fl_RX12_7 (by decide) (by first | assumption | rfl | omega) (by first | assumption | rfl | omega) (by first | assumption | rfl | omega) dX12_count_18 ?_
        refine g_iconst C (pc := 21) 0 dX12_count_21 (by decide) ?_
        refine g_iload C (pc := 22) dX12_count_22 0 rfl ?_
        refine g_iadd C (pc := 24) dX12_count_24 ?_
        refine g_iald C (pc := 25) (by first | assumption | rfl | omega) (by first | assumption | rfl | omega) (by rw [Int32.zero_add]; exact vp_in_nI (by omega) (by decide)) dX12_count_25 ?_
        refine g_bipush C (pc := 26) (-4) dX12_count_26 (by decide) ?_
        refine g_icmp_eq C (pc := 28) 35 dX12_count_28 (by decide) (fun c28 => ?_) (fun c28 => ?_)
        · have hpn : bP b j = none := by
            rw [Int32.zero_add, nI_clamp (by omega), (hqs j (by omega)).1] at c28
            exact (oI_none (pl_lt hbw (by omega))).mp c28
          have hst9 : ctP (fun p => decide (bP b p ≠ none)) (j + 1) = ctP (fun p => decide (bP b p ≠ none)) j := by
            rw [ctP_s, hpn]; rfl
          refine g_iconst C (pc := 35) 0 dX12_count_35 (by decide) ?_
          refine g_callSI C (pc := 36) mf_X12_flag lk_RX12_189 (c_X12_flag n ρ I _ hn9) (by decide) (Nat.le_refl _) rfl (Nat.le_of_ble_eq_true rfl) dX12_count_36 (fun v36 I36 h36 => ?_)
          obtain ⟨e36, rfl⟩ := h36
          refine g_iadd C (pc := 39) dX12_count_39 ?_
          refine g_istore_n C (pc := 40) dX12_count_40 (by decide) (fun v40 => [(2, .int v40), (4, .int (nI j)), (3, .int wz3), (0, .ref 97), (1, .int x)]) (fun _ => rfl) (fun v40 ev40 => ?_)
          refine g_iload_n C (pc := 41) dX12_count_41 2 rfl ?_
          refine g_aload_n C (pc := 42) dX12_count_42 3 rfl ?_
          refine g_getR C (pc := 43) fl_RX12_7 (by decide) (by first | assumption | rfl | omega) (by first | assumption | rfl | omega) (by first | assumption | rfl | omega) dX12_count_43 ?_
          refine g_bipush C (pc := 46) 6 dX12_count_46 (by decide) ?_
          refine g_iload C (pc := 48) dX12_count_48 1 rfl ?_
          refine g_iadd C (pc := 50) dX12_count_50 ?_
          refine g_iald C (pc := 51) (by first | assumption | rfl | omega) (by first | assumption | rfl | omega) (by rw [show (6 : Int32) = nI 6 from rfl, nI_add]; exact vp_in_nI (by omega) (by decide)) dX12_count_51 ?_
          refine g_iadd C (pc := 52) dX12_count_52 ?_
          refine g_istore_n C (pc := 53) dX12_count_53 (by decide) (fun v53 => [(3, .int v53), (2, .int v40), (4, .int (nI j)), (0, .ref 97), (1, .int x)]) (fun _ => rfl) (fun v53 ev53 => ?_)
          refine g_iinc C (pc := 54) (1) dX12_count_54 2 rfl (by decide) (by decide) (fun v54 => [(4, .int v54), (3, .int v53), (2, .int v40), (0, .ref 97), (1, .int x)]) (fun _ => rfl) (fun v54 ev54 => ?_)
          refine g_goto C (pc := 57) 7 dX12_count_57 (by decide) ?_
          refine g_lv C [0, 2, 1, 3, 4] rfl (ih7 (j + 1)  _ _ _ ?_ ?_ ?_ ?_ (by omega))
          · subst_vars; exact nI_1 _
          · omega
          · rw [ev40, hc, e36, hst9]
            first
            | (rw [bI_f (by decide)]; exact Int32.add_zero _)
            | (rw [bI_t (by decide)]; exact nI_1 _)
          · rw [ev53, ho, show (6 : Int32) = nI 6 from rfl, nI_add, nI_clamp (by omega), (hqs j (by omega)).2, nI_add]; rfl
        · have hpn : bP b j ≠ none := fun h9 => c28 (by rw [Int32.zero_add, nI_clamp (by omega), (hqs j (by omega)).1, h9]; rfl)
          have hst9 : ctP (fun p => decide (bP b p ≠ none)) (j + 1) = ctP (fun p => decide (bP b p ≠ none)) j + 1 := by
            rw [ctP_s, decide_eq_true hpn]; rfl
          refine g_iconst C (pc := 31) 1 dX12_count_31 (by decide) ?_
          refine g_goto C (pc := 32) 36 dX12_count_32 (by decide) ?_
          refine g_callSI C (pc := 36) mf_X12_flag lk_RX12_189 (c_X12_flag n ρ I _ hn9) (by decide) (Nat.le_refl _) rfl (Nat.le_of_ble_eq_true rfl) dX12_count_36 (fun v36 I36 h36 => ?_)
          obtain ⟨e36, rfl⟩ := h36
          refine g_iadd C (pc := 39) dX12_count_39 ?_
          refine g_istore_n C (pc := 40) dX12_count_40 (by decide) (fun v40 => [(2, .int v40), (4, .int (nI j)), (3, .int wz3), (0, .ref 97), (1, .int x)]) (fun _ => rfl) (fun v40 ev40 => ?_)
          refine g_iload_n C (pc := 41) dX12_count_41 2 rfl ?_
          refine g_aload_n C (pc := 42) dX12_count_42 3 rfl ?_
          refine g_getR C (pc := 43) fl_RX12_7 (by decide) (by first | assumption | rfl | omega) (by first | assumption | rfl | omega) (by first | assumption | rfl | omega) dX12_count_43 ?_
          refine g_bipush C (pc := 46) 6 dX12_count_46 (by decide) ?_
          refine g_iload C (pc := 48) dX12_count_48 1 rfl ?_
          refine g_iadd C (pc := 50) dX12_count_50 ?_
          refine g_iald C (pc := 51) (by first | assumption | rfl | omega) (by first | assumption | rfl | omega) (by rw [show (6 : Int32) = nI 6 from rfl, nI_add]; exact vp_in_nI (by omega) (by decide)) dX12_count_51 ?_
          refine g_iadd C (pc := 52) dX12_count_52 ?_
          refine g_istore_n C (pc := 53) dX12_count_53 (by decide) (fun v53 => [(3, .int v53), (2, .int v40), (4, .int (nI j)), (0, .ref 97), (1, .int x)]) (fun _ => rfl) (fun v53 ev53 => ?_)
          refine g_iinc C (pc := 54) (1) dX12_count_54 2 rfl (by decide) (by decide) (fun v54 => [(4, .int v54), (3, .int v53), (2, .int v40), (0, .ref 97), (1, .int x)]) (fun _ => rfl) (fun v54 ev54 => ?_)
          refine g_goto C (pc := 57) 7 dX12_count_57 (by decide) ?_
          refine g_lv C [0, 2, 1, 3, 4] rfl (ih7 (j + 1)  _ _ _ ?_ ?_ ?_ ?_ (by omega))
          · subst_vars; exact nI_1 _
          · omega
          · rw [ev40, hc, e36, hst9]
            first
            | (rw [bI_f (by decide)]; exact Int32.add_zero _)
            | (rw [bI_t (by decide)]; exact nI_1 _)
          · rw [ev53, ho, show (6 : Int32) = nI 6 from rfl, nI_add, nI_clamp (by omega), (hqs j (by omega)).2, nI_add]; rfl
  refine g_lv C [0, 2, 1, 3, 4] rfl (L7 (_ + 1) 0  _ _ _ ?_ ?_ ?_ ?_ (by first | omega | exact Nat.lt_succ_self _))
  · assumption
  · omega
  · subst ev1; rfl
  · subst ev3; rfl
set_option maxHeartbeats 400000 in
theorem c_X12_feed (n : Nat) (ρ : Rho) (I : Mem) (L : Nat) (x : Int64) (hn9 : n ≤ 999) (hms : MS n ρ) (hL : I 97 16 = nI L) (hL3 : L ≤ 320) : MI yX12_feed cX12_feed 4 (some .int) 0 [.ref 97, .long x] n ρ I (fun v I1 => (L + 8 ≤ 320 ∧ v = nI (L + 8) ∧ I1 97 16 = nI (L + 8) ∧ (∀ i, i < 8 → I1 105 (L + i) = nI (byt x i)) ∧ (∀ i, i < L → I1 105 i = I 105 i) ∧ (∀ z, z ≠ 16 → I1 97 z = I 97 z) ∧ ∀ i, i ≠ 97 → i ≠ 105 → I1 i = I i) ∨ (320 < L + 8 ∧ v = -3 ∧ I = I1)) := by
  refine MG.of (by decide +kernel) (Nat.le_of_ble_eq_true rfl) hn9 ?_
  intro κ C hR
  show G κ n ρ 0 [(0, .ref 97), (1, .long x)] [] I
  obtain ⟨mn, ⟨m0, m1, m5, m6, m7, m11, m12, m15⟩, ⟨m23, m24, m26, m27, m28, m30, m31, m32, m33⟩, ⟨m38, m39, m40, m42⟩⟩ := id hms
  refine g_aload_n C (pc := 0) dX12_feed_0 0 rfl ?_
  refine g_getI C (pc := 1) fl_RX12_108 (by decide) (by first | assumption | rfl | omega) (by first | assumption | rfl | omega) dX12_feed_1 ?_
  refine g_bipush C (pc := 4) 8 dX12_feed_4 (by decide) ?_
  refine g_iadd C (pc := 6) dX12_feed_6 ?_
  refine g_sipush C (pc := 7) 320 dX12_feed_7 (by decide) ?_
  refine g_icmp_le C (pc := 10) 16 dX12_feed_10 (by decide) (fun c10 => ?_) (fun c10 => ?_)
  · have hlt : L + 8 ≤ 320 := by
      rw [hL, show (8 : Int32) = nI 8 from rfl, nI_add, show (320 : Int32) = nI 320 from rfl, nI_leI (by omega) (by decide)] at c10
      exact c10
    refine g_bipush C (pc := 16) 56 dX12_feed_16 (by decide) ?_
    refine g_istore_n C (pc := 18) dX12_feed_18 (by decide) (fun v18 => [(3, .int v18), (0, .ref 97), (1, .long x)]) (fun _ => rfl) (fun v18 ev18 => ?_)
    have L19 : ∀ (k9 : Nat) (j : Nat) (wz3 : Int32) (J : Mem) (hw3 : wz3 = 56 - 8 * nI j) (hj : j ≤ 8) (hT : J 97 16 = nI (L + j)) (hB : ∀ i, i < j → J 105 (L + i) = nI (byt x i)) (hK : ∀ i, i < L → J 105 i = I 105 i) (hZ : ∀ z, z ≠ 16 → J 97 z = I 97 z) (hF : ∀ i, i ≠ 97 → i ≠ 105 → J i = I i), 8 - j < k9 → G κ n ρ 19 [(3, .int wz3), (0, .ref 97), (1, .long x)] [] J := by
      intro k9
      induction k9 with
      | zero => intro j wz3 J hw3 hj hT hB hK hZ hF hm19; exact absurd hm19 (Nat.not_lt_zero _)
      | succ k9 ih19 =>
        intro j wz3 J hw3 hj hT hB hK hZ hF hm19
        refine g_iload_n C (pc := 19) dX12_feed_19 0 rfl ?_
        refine g_if_lt C (pc := 20) 56 dX12_feed_20 (by decide) (fun c20 => ?_) (fun c20 => ?_)
        · have hj8 : j = 8 := by
            rcases Nat.lt_or_ge j 8 with h9 | h9
            · rw [hw3] at c20
              have hall : ∀ j, j < 8 → ¬ (56 - 8 * nI j < 0) := by decide
              exact absurd c20 (hall j h9)
            · omega
          refine g_aload_n C (pc := 56) dX12_feed_56 1 rfl ?_
          refine g_getI C (pc := 57) fl_RX12_108 (by decide) (by first | assumption | rfl | omega) (by first | assumption | rfl | omega) dX12_feed_57 ?_
          refine g_iret C hR (pc := 60) rfl dX12_feed_60 ?_
          refine ⟨rfl, _, rfl, ?_⟩
          subst hj8
          exact Or.inl ⟨hlt, hT, hT, hB, hK, hZ, hF⟩
        · have hj8 : j < 8 := by
            rcases Nat.lt_or_ge j 8 with h9 | h9
            · exact h9
            · have : j = 8 := by omega
              rw [hw3, this] at c20; exact absurd c20 (by decide)
          have hix : (J 97 16).toNatClampNeg = L + j := by rw [hT]; exact nI_clamp (by omega)
          refine g_aload_n C (pc := 23) dX12_feed_23 1 rfl ?_
          refine g_getR C (pc := 24) fl_RX12_32 (by decide) (by first | assumption | rfl | omega) (by first | assumption | rfl | omega) (by first | assumption | rfl | omega) dX12_feed_24 ?_
          refine g_aload_n C (pc := 27) dX12_feed_27 1 rfl ?_
          refine g_getI C (pc := 28) fl_RX12_108 (by decide) (by first | assumption | rfl | omega) (by first | assumption | rfl | omega) dX12_feed_28 ?_
          refine g_lload_n C (pc := 31) dX12_feed_31 2 rfl ?_
          refine g_iload_n C (pc := 32) dX12_feed_32 0 rfl ?_
          refine g_lshr C (pc := 33) dX12_feed_33 ?_
          refine g_ldc2 C (pc := 34) _ gk_RX12_111 dX12_feed_34 ?_
          refine g_land C (pc := 37) dX12_feed_37 ?_
          refine g_l2i C (pc := 38) dX12_feed_38 ?_
          refine g_iast C (pc := 39) (by first | assumption | rfl | omega) (by first | assumption | rfl | omega) hn9 (by rw [hT]; exact vp_in_nI (by omega) (by decide)) dX12_feed_39 ?_
          refine g_aload_n C (pc := 40) dX12_feed_40 1 rfl ?_
          refine g_dup C (pc := 41) dX12_feed_41 rfl ?_
          refine g_getI C (pc := 42) fl_RX12_108 (by decide) (by first | assumption | rfl | omega) (by first | assumption | rfl | omega) dX12_feed_42 ?_
          refine g_iconst C (pc := 45) 1 dX12_feed_45 (by decide) ?_
          refine g_iadd C (pc := 46) dX12_feed_46 ?_
          refine g_putI C (pc := 47) fl_RX12_108 (by decide) fp_11_16 (Or.inl rfl) ⟨rfl, rfl⟩ (by first | assumption | rfl | omega) (by first | assumption | rfl | omega) hn9 dX12_feed_47 ?_
          refine g_iinc C (pc := 50) (-8) dX12_feed_50 0 rfl (by decide) (by decide) (fun v50 => [(3, .int v50), (0, .ref 97), (1, .long x)]) (fun _ => rfl) (fun v50 ev50 => ?_)
          refine g_goto C (pc := 53) 19 dX12_feed_53 (by decide) ?_
          refine g_lv C [0, 1, 2] rfl (ih19 (j + 1) _ _ ?_ ?_ ?_ ?_ ?_ ?_ ?_ (by omega))
          · rw [ev50, hw3]; exact step8 j hj8
          · omega
          · rw [wr_ss, wr_n (by decide), hT]; exact nI_1 _
          · intro i hi
            rw [wr_n (by decide), hix]
            rcases Nat.lt_or_ge i j with h1 | h1
            · rw [wr_sn (by omega)]; exact hB i h1
            · have : i = j := by omega
              subst this
              rw [wr_ss, hw3]; exact byt_s hj8
          · intro i hi; rw [wr_n (by decide), hix, wr_sn (by omega)]; exact hK i hi
          · intro z hz; rw [wr_sn hz, wr_n (by decide)]; exact hZ z hz
          · intro i h1 h2; rw [wr_n h1, wr_n h2]; exact hF i h1 h2
    refine g_lv C [0, 1, 2] rfl (L19 (_ + 1) 0 _ _ ?_ ?_ ?_ ?_ ?_ ?_ ?_ (by first | omega | exact Nat.lt_succ_self _))
    · subst ev18; rfl
    · omega
    · exact hL
    · intro i hi; omega
    · intro i _; rfl
    · intro z _; rfl
    · intro i _ _; rfl
  · have hge : 320 < L + 8 := by
      rw [hL, show (8 : Int32) = nI 8 from rfl, nI_add, show (320 : Int32) = nI 320 from rfl, nI_ltI (by decide) (by omega)] at c10
      exact c10
    refine g_bipush C (pc := 13) (-3) dX12_feed_13 (by decide) ?_
    refine g_iret C hR (pc := 15) rfl dX12_feed_15 ?_
    refine ⟨rfl, _, rfl, ?_⟩
    exact Or.inr ⟨hge, rfl, rfl⟩
