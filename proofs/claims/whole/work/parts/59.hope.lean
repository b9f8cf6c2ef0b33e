set_option maxHeartbeats 400000 in
theorem c_X12_hope (n : Nat) (ρ : Rho) (I : Mem) (F : RT) (b : BT) (z : Int32) (hn9 : n ≤ 999) (hms : MS n ρ) (hqn : QN I F b) (hrw : RW F) (hbw : BW F b) (hl1 : L1 F b) (hpw : PW F b) : MI yX12_hope cX12_hope 8 (some .int) 10 [.ref 97, .int z] n ρ I (fun v I1 => ((∃ k, (1 ≤ k ∧ k ≤ 3 ∧ z = nI k) ∧ ((lostB F b = none ∧ v = (match bstK true (fun w => valW F (bM b) (k - 1) b w) 5 with | none => 0 | some q => nI q.2)) ∨ (¬ lostB F b = none ∧ v = -2))) ∨ (¬ (∃ k, (1 ≤ k ∧ k ≤ 3 ∧ z = nI k)) ∧ v = -1)) ∧ Kp I I1) := by
  refine MG.of (by decide +kernel) (Nat.le_of_ble_eq_true rfl) hn9 ?_
  intro κ C hR
  show G κ n ρ 0 [(0, .ref 97), (1, .int z)] [] I
  obtain ⟨mn, ⟨m0, m1, m5, m6, m7, m11, m12, m15⟩, ⟨m23, m24, m26, m27, m28, m30, m31, m32, m33⟩, ⟨m38, m39, m40, m42⟩⟩ := id hms
  obtain ⟨hqf, hqe, hqs, hqt⟩ := id hqn
  obtain ⟨qw, qh, qn, qk⟩ := id hqf
  have hn6 : rN F ≤ 6 := hrw.2.2.2.2.1
  have hm25 := Nat.mul_le_mul hrw.2.1 hrw.2.2.2.1
  have hm4 := Nat.mul_le_mul hrw.1 hrw.2.2.1
  have hAO := allO_le hrw
  refine g_iload_n C (pc := 0) dX12_hope_0 1 rfl ?_
  refine g_i2l C (pc := 1) dX12_hope_1 ?_
  refine g_lconst C (pc := 2) 1 dX12_hope_2 (by decide) ?_
  refine g_ldc2 C (pc := 3) _ gk_RX12_291 dX12_hope_3 ?_
  refine g_callSI C (pc := 6) mf_X12_in lk_RX12_113 (c_X12_in n ρ I _ _ _ hn9) (by decide) (Nat.le_refl _) rfl (Nat.le_of_ble_eq_true rfl) dX12_hope_6 (fun v6 I6 h6 => ?_)
  obtain ⟨e6, rfl⟩ := h6
  refine g_if_ne C (pc := 9) 14 dX12_hope_9 (by decide) (fun c9 => ?_) (fun c9 => ?_)
  · obtain ⟨k, hkl, hkh, hzk⟩ := (inL (x := z) (lo := 1) (hi := 3) (by decide) (by decide)).mp (bI_1.mp (fun h => c9 (e6.trans h)))
    refine g_aload_n C (pc := 14) dX12_hope_14 0 rfl ?_
    refine g_callVV C (pc := 15) mf_X12_starts lk_RX12_227 (c_X12_startsB n ρ I F b hn9 hms hqn hrw hbw) (by decide) (Nat.le_refl _) rfl (by first | assumption | rfl | omega) rfl (by first | assumption | rfl | omega) (Nat.le_of_ble_eq_true rfl) dX12_hope_15 (fun I15 h15 => ?_)
    obtain ⟨f15, k15⟩ := h15
    refine g_aload_n C (pc := 18) dX12_hope_18 0 rfl ?_
    refine g_callVI C (pc := 19) mf_X12_lost lk_RX12_221 (c_X12_lost n ρ I15 F b hn9 hms (hqf.kp k15) hrw f15 hbw hl1) (by decide) (Nat.le_refl _) rfl (by first | assumption | rfl | omega) rfl (by first | assumption | rfl | omega) (Nat.le_of_ble_eq_true rfl) dX12_hope_19 (fun v19 I19 h19 => ?_)
    obtain ⟨e19, rfl⟩ := h19
    refine g_bipush C (pc := 22) (-4) dX12_hope_22 (by decide) ?_
    refine g_icmp_eq C (pc := 24) 30 dX12_hope_24 (by decide) (fun c24 => ?_) (fun c24 => ?_)
    · have hov : lostB F b = none := (oI_none (lostB_lt2 hrw)).mp (e19.symm.trans c24)
      refine g_iconst C (pc := 30) 0 dX12_hope_30 (by decide) ?_
      refine g_istore_n C (pc := 31) dX12_hope_31 (by decide) (fun v31 => [(2, .int v31), (0, .ref 97), (1, .int z)]) (fun _ => rfl) (fun v31 ev31 => ?_)
      refine g_ldc2 C (pc := 32) _ gk_RX12_293 dX12_hope_32 ?_
      refine g_lstore_n C (pc := 35) dX12_hope_35 (by decide) (fun v35 => [(3, .long v35), (2, .int v31), (0, .ref 97), (1, .int z)]) (fun _ => rfl) (fun v35 ev35 => ?_)
      refine g_iconst C (pc := 36) 0 dX12_hope_36 (by decide) ?_
      refine g_istore C (pc := 37) dX12_hope_37 (by decide) (fun v37 => [(5, .int v37), (3, .long v35), (2, .int v31), (0, .ref 97), (1, .int z)]) (fun _ => rfl) (fun v37 ev37 => ?_)
      have L39 : ∀ (k9 : Nat) (j : Nat) (wz5 : Int32) (wz3 : Int64) (wz2 : Int32) (J : Mem) (hw5 : wz5 = nI j) (hj : j ≤ 5) (hB : wz3 = lO ((bstK true (fun w => valW F (bM b) (k - 1) b w) j).map (fun q => q.1))) (hX : wz2 = (match bstK true (fun w => valW F (bM b) (k - 1) b w) j with | none => 0 | some q => nI q.2)) (hqJ : QB J F b) (hkJ : Kp I J), 5 - j < k9 → G κ n ρ 39 [(5, .int wz5), (3, .long wz3), (2, .int wz2), (0, .ref 97), (1, .int z)] [] J := by
        intro k9
        induction k9 with
        | zero => intro j wz5 wz3 wz2 J hw5 hj hB hX hqJ hkJ hm39; exact absurd hm39 (Nat.not_lt_zero _)
        | succ k9 ih39 =>
          intro j wz5 wz3 wz2 J hw5 hj hB hX hqJ hkJ hm39
          subst hw5
          have hbk : ∀ a, (bstK true (fun w => valW F (bM b) (k - 1) b w) j).map (fun q => q.1) = some a → a < 2 ^ 31 := by
            intro a ha
            obtain ⟨⟨a2, ix⟩, h1, h2⟩ := Option.map_eq_some_iff.mp ha
            have h2 : a2 = a := h2
            subst h2
            cases j with
            | zero => rw [bstK] at h1; cases h1
            | succ j =>
              obtain ⟨a3, i3, e1, -, e3⟩ := bstK_some (wants := true) (f := (fun w => valW F (bM b) (k - 1) b w)) (Nat.succ_pos j)
              rw [h1] at e1; cases e1
              have h7 : a2 ≤ pw (allO F) (k - 1) := by rw [← e3]; exact valW_le
              have := pw3 hAO (show k - 1 ≤ 3 by omega); omega
          have hv31 : ∀ w, valW F (bM b) (k - 1) b w < 2 ^ 31 := fun w => Nat.lt_of_le_of_lt valW_le (by have := pw3 hAO (show k - 1 ≤ 3 by omega); omega)
          refine g_iload C (pc := 39) dX12_hope_39 0 rfl ?_
          refine g_iconst C (pc := 41) 5 dX12_hope_41 (by decide) ?_
          refine g_icmp_ge C (pc := 42) 92 dX12_hope_42 (by decide) (fun c42 => ?_) (fun c42 => ?_)
          · replace c42 := (nI_leI (a := 5) (b := j) (by decide) (by omega)).mp c42
            refine g_iload_n C (pc := 92) dX12_hope_92 2 rfl ?_
            refine g_iret C hR (pc := 93) rfl dX12_hope_93 ?_
            refine ⟨rfl, _, rfl, ?_⟩
            have hj5 : j = 5 := by omega
            subst hj5
            exact ⟨Or.inl ⟨k, ⟨hkl, hkh, hzk⟩, Or.inl ⟨hov, hX⟩⟩, hkJ⟩
          · replace c42 := (nI_ltI (a := j) (b := 5) (by omega) (by decide)).mp c42
            refine g_aload_n C (pc := 45) dX12_hope_45 3 rfl ?_
            refine g_aload_n C (pc := 46) dX12_hope_46 3 rfl ?_
            refine g_getI C (pc := 47) fl_RX12_204 (by decide) (by first | assumption | rfl | omega) (by first | assumption | rfl | omega) dX12_hope_47 ?_
            refine g_iload_n C (pc := 50) dX12_hope_50 4 rfl ?_
            refine g_iload C (pc := 51) dX12_hope_51 0 rfl ?_
            refine g_callVL C (pc := 53) mf_X12_windOf lk_RX12_304 (c_X12_windOf n ρ J F b (bM b) j k _ z _ hn9 hms (hqf.kp hkJ) hrw (hqe.kp hkJ) hqJ hbw hl1 hpw hbw.1 hqJ.2 (by omega) rfl hkl hkh hzk) (by decide) (Nat.le_refl _) rfl (by first | assumption | rfl | omega) rfl (by first | assumption | rfl | omega) (Nat.le_of_ble_eq_true rfl) dX12_hope_53 (fun v53 I53 h53 => ?_)
            obtain ⟨e53, m53, q53, k53⟩ := h53
            refine g_lstore C (pc := 56) dX12_hope_56 (by decide) (fun v56 => [(6, .long v56), (5, .int (nI j)), (3, .long wz3), (2, .int wz2), (0, .ref 97), (1, .int z)]) (fun _ => rfl) (fun v56 ev56 => ?_)
            refine g_lload C (pc := 58) dX12_hope_58 0 rfl ?_
            refine g_lload_n C (pc := 60) dX12_hope_60 2 rfl ?_
            refine g_lcmp C (pc := 61) dX12_hope_61 ?_
            refine g_if_le C (pc := 62) 70 dX12_hope_62 (by decide) (fun c62 => ?_) (fun c62 => ?_)
            · have hstep : bstK true (fun w => valW F (bM b) (k - 1) b w) (j + 1) = bstK true (fun w => valW F (bM b) (k - 1) b w) j := by
                rw [bstK]
                cases h9 : bstK true (fun w => valW F (bM b) (k - 1) b w) j with
                | none =>
                  exfalso
                  rw [ev56, e53, hB, h9] at c62
                  have h5 : (0 : Int32) < lg_cmp (lN (valW F (bM b) (k - 1) b j)) (lO none) := cmp_m1 (hv31 j)
                  exact absurd h5 (Int32.not_lt.mpr c62)
                | some q =>
                  obtain ⟨a, i⟩ := q
                  have ha := hbk a (by rw [h9]; rfl)
                  rw [ev56, e53, hB, h9] at c62
                  have hgt : ¬ a < valW F (bM b) (k - 1) b j := fun h8 => absurd ((cmp_gt (hv31 j) ha).mpr h8) (Int32.not_lt.mpr c62)
                  show (if (if true = true then a < valW F (bM b) (k - 1) b j else valW F (bM b) (k - 1) b j < a) then _ else _) = _
                  rw [if_neg (by rw [if_pos rfl]; exact hgt)]
              refine g_iload_n C (pc := 70) dX12_hope_70 3 rfl ?_
              refine g_istore_n C (pc := 71) dX12_hope_71 (by decide) (fun v71 => [(2, .int v71), (6, .long v56), (5, .int (nI j)), (3, .long wz3), (0, .ref 97), (1, .int z)]) (fun _ => rfl) (fun v71 ev71 => ?_)
              refine g_lload C (pc := 72) dX12_hope_72 1 rfl ?_
              refine g_lload_n C (pc := 74) dX12_hope_74 3 rfl ?_
              refine g_lcmp C (pc := 75) dX12_hope_75 ?_
              refine g_if_le C (pc := 76) 84 dX12_hope_76 (by decide) (fun c76 => ?_) (fun c76 => ?_)
              · refine g_lload_n C (pc := 84) dX12_hope_84 3 rfl ?_
                refine g_lstore_n C (pc := 85) dX12_hope_85 (by decide) (fun v85 => [(3, .long v85), (2, .int v71), (6, .long v56), (5, .int (nI j)), (0, .ref 97), (1, .int z)]) (fun _ => rfl) (fun v85 ev85 => ?_)
                refine g_iinc C (pc := 86) (1) dX12_hope_86 3 rfl (by decide) (by decide) (fun v86 => [(5, .int v86), (3, .long v85), (2, .int v71), (6, .long v56), (0, .ref 97), (1, .int z)]) (fun _ => rfl) (fun v86 ev86 => ?_)
                refine g_goto C (pc := 89) 39 dX12_hope_89 (by decide) ?_
                refine g_lv C [0, 1, 2, 4, 5] rfl (ih39 (j + 1) _ _ _ _ ?_ ?_ ?_ ?_ ?_ ?_ (by omega))
                · subst ev86; exact nI_1 _
                · omega
                · first | (rw [ev85, ev56, e53, hstep]; rfl) | (rw [ev85, hB, hstep])
                · first | (rw [ev71, hstep]; done) | (rw [ev71, hX, hstep])
                · exact q53
                · exact hkJ.trans k53.1
              · exact absurd c76 (Int32.not_lt.mpr c62)
            · have hstep : bstK true (fun w => valW F (bM b) (k - 1) b w) (j + 1) = some (valW F (bM b) (k - 1) b j, j) := by
                rw [bstK]
                cases h9 : bstK true (fun w => valW F (bM b) (k - 1) b w) j with
                | none => rfl
                | some q =>
                  obtain ⟨a, i⟩ := q
                  have ha := hbk a (by rw [h9]; rfl)
                  rw [ev56, e53, hB, h9] at c62
                  have hgt : a < valW F (bM b) (k - 1) b j := (cmp_gt (hv31 j) ha).mp c62
                  show (if (if true = true then a < valW F (bM b) (k - 1) b j else valW F (bM b) (k - 1) b j < a) then _ else _) = _
                  rw [if_pos (by rw [if_pos rfl]; exact hgt)]
              refine g_iload C (pc := 65) dX12_hope_65 1 rfl ?_
              refine g_goto C (pc := 67) 71 dX12_hope_67 (by decide) ?_
              refine g_istore_n C (pc := 71) dX12_hope_71 (by decide) (fun v71 => [(2, .int v71), (6, .long v56), (5, .int (nI j)), (3, .long wz3), (0, .ref 97), (1, .int z)]) (fun _ => rfl) (fun v71 ev71 => ?_)
              refine g_lload C (pc := 72) dX12_hope_72 1 rfl ?_
              refine g_lload_n C (pc := 74) dX12_hope_74 3 rfl ?_
              refine g_lcmp C (pc := 75) dX12_hope_75 ?_
              refine g_if_le C (pc := 76) 84 dX12_hope_76 (by decide) (fun c76 => ?_) (fun c76 => ?_)
              · exact absurd c62 (Int32.not_lt.mpr c76)
              · refine g_lload C (pc := 79) dX12_hope_79 1 rfl ?_
                refine g_goto C (pc := 81) 85 dX12_hope_81 (by decide) ?_
                refine g_lstore_n C (pc := 85) dX12_hope_85 (by decide) (fun v85 => [(3, .long v85), (2, .int v71), (6, .long v56), (5, .int (nI j)), (0, .ref 97), (1, .int z)]) (fun _ => rfl) (fun v85 ev85 => ?_)
                refine g_iinc C (pc := 86) (1) dX12_hope_86 3 rfl (by decide) (by decide) (fun v86 => [(5, .int v86), (3, .long v85), (2, .int v71), (6, .long v56), (0, .ref 97), (1, .int z)]) (fun _ => rfl) (fun v86 ev86 => ?_)
                refine g_goto C (pc := 89) 39 dX12_hope_89 (by decide) ?_
                refine g_lv C [0, 1, 2, 4, 5] rfl (ih39 (j + 1) _ _ _ _ ?_ ?_ ?_ ?_ ?_ ?_ (by omega))
                · subst ev86; exact nI_1 _
                · omega
                · first | (rw [ev85, ev56, e53, hstep]; rfl) | (rw [ev85, hB, hstep])
                · first | (rw [ev71, hstep]; done) | (rw [ev71, hX, hstep])
                · exact q53
                · exact hkJ.trans k53.1
      refine g_lv C [0, 1, 2, 3, 4] rfl (L39 (_ + 1) 0 _ _ _ _ ?_ ?_ ?_ ?_ ?_ ?_ (by first | omega | exact Nat.lt_succ_self _))
      · subst_vars; rfl
      · omega
      · subst_vars; rfl
      · subst_vars; rfl
      · exact f15
      · exact k15
    · have hov : ¬ lostB F b = none := fun h9 => c24 (by rw [e19, h9]; rfl)
      refine g_bipush C (pc := 27) (-2) dX12_hope_27 (by decide) ?_
      refine g_iret C hR (pc := 29) rfl dX12_hope_29 ?_
      refine ⟨rfl, _, rfl, ?_⟩
      exact ⟨Or.inl ⟨k, ⟨hkl, hkh, hzk⟩, Or.inr ⟨hov, rfl⟩⟩, k15⟩
  · have hz := fun h => bI_0.mp (e6.symm.trans c9) ((inL (x := z) (lo := 1) (hi := 3) (by decide) (by decide)).mpr h)
    refine g_iconst C (pc := 12) (-1) dX12_hope_12 (by decide) ?_
    refine g_iret C hR (pc := 13) rfl dX12_hope_13 ?_
    refine ⟨rfl, _, rfl, ?_⟩
    refine ⟨Or.inr ⟨?_, rfl⟩, Kp.rfl'⟩
    rintro ⟨k9, h2, h3, h5⟩
    exact hz ⟨k9, h2, h3, h5⟩
set_option maxHeartbeats 400000 in
theorem c_X12_see (n : Nat) (ρ : Rho) (I : Mem) (F : RT) (b : BT) (sn : Nat) (x z : Int32) (hn9 : n ≤ 999) (hms : MS n ρ) (hqn : QN I F b) (hrw : RW F) (hbw : BW F b) (hsn : I 98 20 = nI sn) (hsn8 : sn ≤ 8) : MI yX12_see cX12_see 3 (some .int) 2 [.ref 97, .int x, .int z] n ρ I (fun v I1 => (∃ q s9, (q < rW F * rH F ∧ x = nI q ∧ z = oI s9 ∧ ∀ s, s9 = some s → s < 2) ∧ ((sn < 8 ∧ v = nI (sn + 1) ∧ wr (wr (wr I 98 (21 + 2 * sn) x) 98 (22 + 2 * sn) z) 98 20 (nI (sn + 1)) = I1) ∨ (8 ≤ sn ∧ v = -3 ∧ I = I1))) ∨ (¬ (∃ q s9, (q < rW F * rH F ∧ x = nI q ∧ z = oI s9 ∧ ∀ s, s9 = some s → s < 2)) ∧ v = -1 ∧ I = I1)) := by
  refine MG.of (by decide +kernel) (Nat.le_of_ble_eq_true rfl) hn9 ?_
  intro κ C hR
  show G κ n ρ 0 [(0, .ref 97), (1, .int x), (2, .int z)] [] I
  obtain ⟨mn, ⟨m0, m1, m5, m6, m7, m11, m12, m15⟩, ⟨m23, m24, m26, m27, m28, m30, m31, m32, m33⟩, ⟨m38, m39, m40, m42⟩⟩ := id hms
  obtain ⟨hqf, hqe, hqs, hqt⟩ := id hqn
  obtain ⟨qw, qh, qn, qk⟩ := id hqf
  have hn6 : rN F ≤ 6 := hrw.2.2.2.2.1
  have hm25 := Nat.mul_le_mul hrw.2.1 hrw.2.2.2.1
  have hm4 := Nat.mul_le_mul hrw.1 hrw.2.2.1
  refine g_aload_n C (pc := 0) dX12_see_0 0 rfl ?_
  refine g_iload_n C (pc := 1) dX12_see_1 1 rfl ?_
  refine g_callVI C (pc := 2) mf_X12_isSquare lk_RX12_230 (c_X12_isSquare n ρ I F x hn9 hms hqf hrw) (by decide) (Nat.le_refl _) rfl (by first | assumption | rfl | omega) rfl (by first | assumption | rfl | omega) (Nat.le_of_ble_eq_true rfl) dX12_see_2 (fun v2 I2 h2 => ?_)
  obtain ⟨e2, rfl⟩ := h2
  refine g_if_eq C (pc := 5) 24 dX12_see_5 (by decide) (fun c5 => ?_) (fun c5 => ?_)
  · have hx := bI_0.mp (e2.symm.trans c5)
    refine g_iconst C (pc := 24) (-1) dX12_see_24 (by decide) ?_
    refine g_iret C hR (pc := 25) rfl dX12_see_25 ?_
    refine ⟨rfl, _, rfl, ?_⟩
    refine Or.inr ⟨?_, rfl, rfl⟩
    rintro ⟨q9, t9, h1, h2, h3, h4⟩
    first
    | exact hx (by rw [h2]; exact ⟨nI_pos' (by omega), nI_lt h1 (by omega)⟩)
    | (cases t9 with
       | none => exact c11 h3
       | some s => exact hz ⟨s, by omega, by have := h4 s rfl; omega, h3⟩)
  · have hx := bI_1.mp (fun h => c5 (e2.trans h))
    obtain ⟨q, hq, hq25, hxq⟩ := sq_of hrw hx
    refine g_iload_n C (pc := 8) dX12_see_8 2 rfl ?_
    refine g_bipush C (pc := 9) (-4) dX12_see_9 (by decide) ?_
    refine g_icmp_eq C (pc := 11) 26 dX12_see_11 (by decide) (fun c11 => ?_) (fun c11 => ?_)
    · obtain ⟨s9, hs9, hzs⟩ : ∃ s9 : Option Nat, (∀ s, s9 = some s → s < 2) ∧ z = oI s9 := ⟨none, fun s h => by (cases h), c11⟩
      refine g_aload_n C (pc := 26) dX12_see_26 0 rfl ?_
      refine g_getR C (pc := 27) fl_RX12_7 (by decide) (by first | assumption | rfl | omega) (by first | assumption | rfl | omega) (by first | assumption | rfl | omega) dX12_see_27 ?_
      refine g_bipush C (pc := 30) 20 dX12_see_30 (by decide) ?_
      refine g_iald C (pc := 32) (by first | assumption | rfl | omega) (by first | assumption | rfl | omega) (vp_in_nI (n := 20) (by decide) (by decide)) dX12_see_32 ?_
      refine g_bipush C (pc := 33) 8 dX12_see_33 (by decide) ?_
      refine g_icmp_ne C (pc := 35) 41 dX12_see_35 (by decide) (fun c35 => ?_) (fun c35 => ?_)
      · have h8 : sn < 8 := by
          have : sn ≠ 8 := fun h9 => c35 (by show I 98 20 = 8; rw [hsn, h9]; rfl)
          omega
        refine g_aload_n C (pc := 41) dX12_see_41 0 rfl ?_
        refine g_getR C (pc := 42) fl_RX12_7 (by decide) (by first | assumption | rfl | omega) (by first | assumption | rfl | omega) (by first | assumption | rfl | omega) dX12_see_42 ?_
        refine g_bipush C (pc := 45) 21 dX12_see_45 (by decide) ?_
        refine g_iconst C (pc := 47) 2 dX12_see_47 (by decide) ?_
        refine g_aload_n C (pc := 48) dX12_see_48 0 rfl ?_
        refine g_getR C (pc := 49) fl_RX12_7 (by decide) (by first | assumption | rfl | omega) (by first | assumption | rfl | omega) (by first | assumption | rfl | omega) dX12_see_49 ?_
        refine g_bipush C (pc := 52) 20 dX12_see_52 (by decide) ?_
        refine g_iald C (pc := 54) (by first | assumption | rfl | omega) (by first | assumption | rfl | omega) (vp_in_nI (n := 20) (by decide) (by decide)) dX12_see_54 ?_
        refine g_imul C (pc := 55) dX12_see_55 ?_
        refine g_iadd C (pc := 56) dX12_see_56 ?_
        refine g_iload_n C (pc := 57) dX12_see_57 1 rfl ?_
        refine g_iast C (pc := 58) (by first | assumption | rfl | omega) (by first | assumption | rfl | omega) hn9 (by rw [show I 98 (20 : Int32).toNatClampNeg = nI sn from hsn, show (2 : Int32) = nI 2 from rfl, show (21 : Int32) = nI 21 from rfl, pk_mul, nI_add]; exact vp_in_nI (by omega) (by decide)) dX12_see_58 ?_
        have hi1 : (21 + 2 * I 98 (20 : Int32).toNatClampNeg).toNatClampNeg = 21 + 2 * sn := by
          rw [show I 98 (20 : Int32).toNatClampNeg = nI sn from hsn, show (2 : Int32) = nI 2 from rfl, show (21 : Int32) = nI 21 from rfl, pk_mul, nI_add]; exact nI_clamp (by omega)
        rw [hi1]
        have h20a : wr I 98 (21 + 2 * sn) x 98 (20 : Int32).toNatClampNeg = nI sn := (wr_sn (show (20 : Nat) ≠ 21 + 2 * sn by omega)).trans hsn
        have hi2 : (21 + 2 * wr I 98 (21 + 2 * sn) x 98 (20 : Int32).toNatClampNeg + 1).toNatClampNeg = 22 + 2 * sn := by
          rw [h20a, show (2 : Int32) = nI 2 from rfl, show (21 : Int32) = nI 21 from rfl, pk_mul, nI_add, nI_1]; rw [nI_clamp (by omega)]; omega
        refine g_aload_n C (pc := 59) dX12_see_59 0 rfl ?_
        refine g_getR C (pc := 60) fl_RX12_7 (by decide) (by first | assumption | rfl | omega) (by first | assumption | rfl | omega) (by first | assumption | rfl | omega) dX12_see_60 ?_
        refine g_bipush C (pc := 63) 21 dX12_see_63 (by decide) ?_
        refine g_iconst C (pc := 65) 2 dX12_see_65 (by decide) ?_
        refine g_aload_n C (pc := 66) dX12_see_66 0 rfl ?_
        refine g_getR C (pc := 67) fl_RX12_7 (by decide) (by first | assumption | rfl | omega) (by first | assumption | rfl | omega) (by first | assumption | rfl | omega) dX12_see_67 ?_
        refine g_bipush C (pc := 70) 20 dX12_see_70 (by decide) ?_
        refine g_iald C (pc := 72) (by first | assumption | rfl | omega) (by first | assumption | rfl | omega) (vp_in_nI (n := 20) (by decide) (by decide)) dX12_see_72 ?_
        refine g_imul C (pc := 73) dX12_see_73 ?_
        refine g_iadd C (pc := 74) dX12_see_74 ?_
        refine g_iconst C (pc := 75) 1 dX12_see_75 (by decide) ?_
        refine g_iadd C (pc := 76) dX12_see_76 ?_
        refine g_iload_n C (pc := 77) dX12_see_77 2 rfl ?_
        refine g_iast C (pc := 78) (by first | assumption | rfl | omega) (by first | assumption | rfl | omega) hn9 (by rw [h20a, show (2 : Int32) = nI 2 from rfl, show (21 : Int32) = nI 21 from rfl, pk_mul, nI_add, nI_1]; exact vp_in_nI (by omega) (by decide)) dX12_see_78 ?_
        rw [hi2]
        have h20b : wr (wr I 98 (21 + 2 * sn) x) 98 (22 + 2 * sn) z 98 (20 : Int32).toNatClampNeg = nI sn := (wr_sn (show (20 : Nat) ≠ 22 + 2 * sn by omega)).trans h20a
        refine g_aload_n C (pc := 79) dX12_see_79 0 rfl ?_
        refine g_getR C (pc := 80) fl_RX12_7 (by decide) (by first | assumption | rfl | omega) (by first | assumption | rfl | omega) (by first | assumption | rfl | omega) dX12_see_80 ?_
        refine g_bipush C (pc := 83) 20 dX12_see_83 (by decide) ?_
        refine g_dup2 C (pc := 85) dX12_see_85 rfl rfl ?_
        refine g_iald C (pc := 86) (by first | assumption | rfl | omega) (by first | assumption | rfl | omega) (vp_in_nI (n := 20) (by decide) (by decide)) dX12_see_86 ?_
        refine g_iconst C (pc := 87) 1 dX12_see_87 (by decide) ?_
        refine g_iadd C (pc := 88) dX12_see_88 ?_
        refine g_iast C (pc := 89) (by first | assumption | rfl | omega) (by first | assumption | rfl | omega) hn9 (vp_in_nI (n := 20) (by decide) (by decide)) dX12_see_89 ?_
        refine g_aload_n C (pc := 90) dX12_see_90 0 rfl ?_
        refine g_getR C (pc := 91) fl_RX12_7 (by decide) (by first | assumption | rfl | omega) (by first | assumption | rfl | omega) (by first | assumption | rfl | omega) dX12_see_91 ?_
        refine g_bipush C (pc := 94) 20 dX12_see_94 (by decide) ?_
        refine g_iald C (pc := 96) (by first | assumption | rfl | omega) (by first | assumption | rfl | omega) (vp_in_nI (n := 20) (by decide) (by decide)) dX12_see_96 ?_
        refine g_iret C hR (pc := 97) rfl dX12_see_97 ?_
        refine ⟨rfl, _, rfl, ?_⟩
        refine Or.inl ⟨q, s9, ⟨hq, hxq, hzs, hs9⟩, Or.inl ⟨h8, ?_, ?_⟩⟩
        · rw [h20b]; exact wr_ss.trans (nI_1 _)
        · rw [h20b, show nI sn + 1 = nI (sn + 1) from nI_1 _]; rfl
      · have h8 : 8 ≤ sn := by
          have h9 : I 98 20 = 8 := c35
          rw [hsn] at h9
          have := (nI_eq (b := 8) (by omega) (by decide)).mp h9
          omega
        refine g_bipush C (pc := 38) (-3) dX12_see_38 (by decide) ?_
        refine g_iret C hR (pc := 40) rfl dX12_see_40 ?_
        refine ⟨rfl, _, rfl, ?_⟩
        exact Or.inl ⟨q, s9, ⟨hq, hxq, hzs, hs9⟩, Or.inr ⟨h8, rfl, rfl⟩⟩
    · refine g_iload_n C (pc := 14) dX12_see_14 2 rfl ?_
      refine g_i2l C (pc := 15) dX12_see_15 ?_
      refine g_lconst C (pc := 16) 0 dX12_see_16 (by decide) ?_
      refine g_lconst C (pc := 17) 1 dX12_see_17 (by decide) ?_
      refine g_callSI C (pc := 18) mf_X12_in lk_RX12_113 (c_X12_in n ρ I _ _ _ hn9) (by decide) (Nat.le_refl _) rfl (Nat.le_of_ble_eq_true rfl) dX12_see_18 (fun v18 I18 h18 => ?_)
      obtain ⟨e18, rfl⟩ := h18
      refine g_if_ne C (pc := 21) 26 dX12_see_21 (by decide) (fun c21 => ?_) (fun c21 => ?_)
      · obtain ⟨s9, hs9, hzs⟩ : ∃ s9 : Option Nat, (∀ s, s9 = some s → s < 2) ∧ z = oI s9 := by
          obtain ⟨s, -, h1, h2⟩ := (inL (x := z) (lo := 0) (hi := 1) (by decide) (by decide)).mp (bI_1.mp (fun h => c21 (e18.trans h)))
          exact ⟨some s, fun t h => by (cases h; omega), h2⟩
        refine g_aload_n C (pc := 26) dX12_see_26 0 rfl ?_
        refine g_getR C (pc := 27) fl_RX12_7 (by decide) (by first | assumption | rfl | omega) (by first | assumption | rfl | omega) (by first | assumption | rfl | omega) dX12_see_27 ?_
        refine g_bipush C (pc := 30) 20 dX12_see_30 (by decide) ?_
        refine g_iald C (pc := 32) (by first | assumption | rfl | omega) (by first | assumption | rfl | omega) (vp_in_nI (n := 20) (by decide) (by decide)) dX12_see_32 ?_
        refine g_bipush C (pc := 33) 8 dX12_see_33 (by decide) ?_
        refine g_icmp_ne C (pc := 35) 41 dX12_see_35 (by decide) (fun c35 => ?_) (fun c35 => ?_)
        · have h8 : sn < 8 := by
            have : sn ≠ 8 := fun h9 => c35 (by show I 98 20 = 8; rw [hsn, h9]; rfl)
            omega
          refine g_aload_n C (pc := 41) dX12_see_41 0 rfl ?_
          refine g_getR C (pc := 42) fl_RX12_7 (by decide) (by first | assumption | rfl | omega) (by first | assumption | rfl | omega) (by first | assumption | rfl | omega) dX12_see_42 ?_
          refine g_bipush C (pc := 45) 21 dX12_see_45 (by decide) ?_
          refine g_iconst C (pc := 47) 2 dX12_see_47 (by decide) ?_
          refine g_aload_n C (pc := 48) dX12_see_48 0 rfl ?_
          refine g_getR C (pc := 49) fl_RX12_7 (by decide) (by first | assumption | rfl | omega) (by first | assumption | rfl | omega) (by first | assumption | rfl | omega) dX12_see_49 ?_
          refine g_bipush C (pc := 52) 20 dX12_see_52 (by decide) ?_
          refine g_iald C (pc := 54) (by first | assumption | rfl | omega) (by first | assumption | rfl | omega) (vp_in_nI (n := 20) (by decide) (by decide)) dX12_see_54 ?_
          refine g_imul C (pc := 55) dX12_see_55 ?_
          refine g_iadd C (pc := 56) dX12_see_56 ?_
          refine g_iload_n C (pc := 57) dX12_see_57 1 rfl ?_
          refine g_iast C (pc := 58) (by first | assumption | rfl | omega) (by first | assumption | rfl | omega) hn9 (by rw [show I 98 (20 : Int32).toNatClampNeg = nI sn from hsn, show (2 : Int32) = nI 2 from rfl, show (21 : Int32) = nI 21 from rfl, pk_mul, nI_add]; exact vp_in_nI (by omega) (by decide)) dX12_see_58 ?_
          have hi1 : (21 + 2 * I 98 (20 : Int32).toNatClampNeg).toNatClampNeg = 21 + 2 * sn := by
            rw [show I 98 (20 : Int32).toNatClampNeg = nI sn from hsn, show (2 : Int32) = nI 2 from rfl, show (21 : Int32) = nI 21 from rfl, pk_mul, nI_add]; exact nI_clamp (by omega)
          rw [hi1]
          have h20a : wr I 98 (21 + 2 * sn) x 98 (20 : Int32).toNatClampNeg = nI sn := (wr_sn (show (20 : Nat) ≠ 21 + 2 * sn by omega)).trans hsn
          have hi2 : (21 + 2 * wr I 98 (21 + 2 * sn) x 98 (20 : Int32).toNatClampNeg + 1).toNatClampNeg = 22 + 2 * sn := by
            rw [h20a, show (2 : Int32) = nI 2 from rfl, show (21 : Int32) = nI 21 from rfl, pk_mul, nI_add, nI_1]; rw [nI_clamp (by omega)]; omega
          refine g_aload_n C (pc := 59) dX12_see_59 0 rfl ?_
          refine g_getR C (pc := 60) fl_RX12_7 (by decide) (by first | assumption | rfl | omega) (by first | assumption | rfl | omega) (by first | assumption | rfl | omega) dX12_see_60 ?_
          refine g_bipush C (pc := 63) 21 dX12_see_63 (by decide) ?_
          refine g_iconst C (pc := 65) 2 dX12_see_65 (by decide) ?_
          refine g_aload_n C (pc := 66) dX12_see_66 0 rfl ?_
          refine g_getR C (pc := 67) fl_RX12_7 (by decide) (by first | assumption | rfl | omega) (by first | assumption | rfl | omega) (by first | assumption | rfl | omega) dX12_see_67 ?_
          refine g_bipush C (pc := 70) 20 dX12_see_70 (by decide) ?_
          refine g_iald C (pc := 72) (by first | assumption | rfl | omega) (by first | assumption | rfl | omega) (vp_in_nI (n := 20) (by decide) (by decide)) dX12_see_72 ?_
          refine g_imul C (pc := 73) dX12_see_73 ?_
          refine g_iadd C (pc := 74) dX12_see_74 ?_
          refine g_iconst C (pc := 75) 1 dX12_see_75 (by decide) ?_
          refine g_iadd C (pc := 76) dX12_see_76 ?_
          refine g_iload_n C (pc := 77) dX12_see_77 2 rfl ?_
          refine g_iast C (pc := 78) (by first | assumption | rfl | omega) (by first | assumption | rfl | omega) hn9 (by rw [h20a, show (2 : Int32) = nI 2 from rfl, show (21 : Int32) = nI 21 from rfl, pk_mul, nI_add, nI_1]; exact vp_in_nI (by omega) (by decide)) dX12_see_78 ?_
          rw [hi2]
          have h20b : wr (wr I 98 (21 + 2 * sn) x) 98 (22 + 2 * sn) z 98 (20 : Int32).toNatClampNeg = nI sn := (wr_sn (show (20 : Nat) ≠ 22 + 2 * sn by omega)).trans h20a
          refine g_aload_n C (pc := 79) dX12_see_79 0 rfl ?_
          refine g_getR C (pc := 80) fl_RX12_7 (by decide) (by first | assumption | rfl | omega) (by first | assumption | rfl | omega) (by first | assumption | rfl | omega) dX12_see_80 ?_
          refine g_bipush C (pc := 83) 20 dX12_see_83 (by decide) ?_
          refine g_dup2 C (pc := 85) dX12_see_85 rfl rfl ?_
          refine g_iald C (pc := 86) (by first | assumption | rfl | omega) (by first | assumption | rfl | omega) (vp_in_nI (n := 20) (by decide) (by decide)) dX12_see_86 ?_
          refine g_iconst C (pc := 87) 1 dX12_see_87 (by decide) ?_
          refine g_iadd C (pc := 88) dX12_see_88 ?_
          refine g_iast C (pc := 89) (by first | assumption | rfl | omega) (by first | assumption | rfl | omega) hn9 (vp_in_nI (n := 20) (by decide) (by decide)) dX12_see_89 ?_
          refine g_aload_n C (pc := 90) dX12_see_90 0 rfl ?_
          refine g_getR C (pc := 91) fl_RX12_7 (by decide) (by first | assumption | rfl | omega) (by first | assumption | rfl | omega) (by first | assumption | rfl | omega) dX12_see_91 ?_
          refine g_bipush C (pc := 94) 20 dX12_see_94 (by decide) ?_
          refine g_iald C (pc := 96) (by first | assumption | rfl | omega) (by first | assumption | rfl | omega) (vp_in_nI (n := 20) (by decide) (by decide)) dX12_see_96 ?_
          refine g_iret C hR (pc := 97) rfl dX12_see_97 ?_
          refine ⟨rfl, _, rfl, ?_⟩
          refine Or.inl ⟨q, s9, ⟨hq, hxq, hzs, hs9⟩, Or.inl ⟨h8, ?_, ?_⟩⟩
          · rw [h20b]; exact wr_ss.trans (nI_1 _)
          · rw [h20b, show nI sn + 1 = nI (sn + 1) from nI_1 _]; rfl
        · have h8 : 8 ≤ sn := by
            have h9 : I 98 20 = 8 := c35
            rw [hsn] at h9
            have := (nI_eq (b := 8) (by omega) (by decide)).mp h9
            omega
          refine g_bipush C (pc := 38) (-3) dX12_see_38 (by decide) ?_
          refine g_iret C hR (pc := 40) rfl dX12_see_40 ?_
          refine ⟨rfl, _, rfl, ?_⟩
          exact Or.inl ⟨q, s9, ⟨hq, hxq, hzs, hs9⟩, Or.inr ⟨h8, rfl, rfl⟩⟩
      · have hz := fun h => bI_0.mp (e18.symm.trans c21) ((inL (x := z) (lo := 0) (hi := 1) (by decide) (by decide)).mpr h)
        refine g_iconst C (pc := 24) (-1) dX12_see_24 (by decide) ?_
        refine g_iret C hR (pc := 25) rfl dX12_see_25 ?_
        refine ⟨rfl, _, rfl, ?_⟩
        refine Or.inr ⟨?_, rfl, rfl⟩
        rintro ⟨q9, t9, h1, h2, h3, h4⟩
        first
        | exact hx (by rw [h2]; exact ⟨nI_pos' (by omega), nI_lt h1 (by omega)⟩)
        | (cases t9 with
           | none => exact c11 h3
           | some s => exact hz ⟨s, by omega, by have := h4 s rfl; omega, h3⟩)
set_option maxHeartbeats 400000 in
theorem c_X12_forget (n : Nat) (ρ : Rho) (I : Mem) (m : Nat) (x : Int32) (hn9 : n ≤ 999) (hms : MS n ρ) (hm : I 98 20 = nI m) (hm8 : m ≤ 8) : MI yX12_forget cX12_forget 3 (some .int) 1 [.ref 97, .int x] n ρ I (fun v I1 => (∃ q, (q ≤ m ∧ x = nI q) ∧ v = nI m ∧ wr I 98 20 x = I1) ∨ (¬ (∃ q, (q ≤ m ∧ x = nI q)) ∧ v = -1 ∧ I = I1)) := by
  refine MG.of (by decide +kernel) (Nat.le_of_ble_eq_true rfl) hn9 ?_
  intro κ C hR
  show G κ n ρ 0 [(0, .ref 97), (1, .int x)] [] I
  obtain ⟨mn, ⟨m0, m1, m5, m6, m7, m11, m12, m15⟩, ⟨m23, m24, m26, m27, m28, m30, m31, m32, m33⟩, ⟨m38, m39, m40, m42⟩⟩ := id hms
  have hml : (I 98 20).toInt64 = lN m := by rw [hm, nI_l (by omega)]
  refine g_iload_n C (pc := 0) dX12_forget_0 1 rfl ?_
  refine g_i2l C (pc := 1) dX12_forget_1 ?_
  refine g_lconst C (pc := 2) 0 dX12_forget_2 (by decide) ?_
  refine g_aload_n C (pc := 3) dX12_forget_3 0 rfl ?_
  refine g_getR C (pc := 4) fl_RX12_7 (by decide) (by first | assumption | rfl | omega) (by first | assumption | rfl | omega) (by first | assumption | rfl | omega) dX12_forget_4 ?_
  refine g_bipush C (pc := 7) 20 dX12_forget_7 (by decide) ?_
  refine g_iald C (pc := 9) (by first | assumption | rfl | omega) (by first | assumption | rfl | omega) (vp_in_nI (n := 20) (by decide) (by decide)) dX12_forget_9 ?_
  refine g_i2l C (pc := 10) dX12_forget_10 ?_
  rw [show (I 98 (20 : Int32).toNatClampNeg).toInt64 = lN m from hml]
  refine g_callSI C (pc := 11) mf_X12_in lk_RX12_113 (c_X12_in n ρ I x.toInt64 0 (lN m) hn9) (by decide) (Nat.le_refl _) rfl (Nat.le_of_ble_eq_true rfl) dX12_forget_11 (fun v11 I11 h11 => ?_)
  obtain ⟨e11, rfl⟩ := h11
  refine g_if_ne C (pc := 14) 19 dX12_forget_14 (by decide) (fun c14 => ?_) (fun c14 => ?_)
  · obtain ⟨q, -, hq, hxq⟩ := (inL (x := x) (lo := 0) (hi := m) (by decide) (by omega)).mp (bI_1.mp (fun h => c14 (e11.trans h)))
    refine g_aload_n C (pc := 19) dX12_forget_19 0 rfl ?_
    refine g_getR C (pc := 20) fl_RX12_7 (by decide) (by first | assumption | rfl | omega) (by first | assumption | rfl | omega) (by first | assumption | rfl | omega) dX12_forget_20 ?_
    refine g_bipush C (pc := 23) 20 dX12_forget_23 (by decide) ?_
    refine g_iald C (pc := 25) (by first | assumption | rfl | omega) (by first | assumption | rfl | omega) (vp_in_nI (n := 20) (by decide) (by decide)) dX12_forget_25 ?_
    refine g_istore_n C (pc := 26) dX12_forget_26 (by decide) (fun v26 => [(2, .int v26), (0, .ref 97), (1, .int x)]) (fun _ => rfl) (fun v26 ev26 => ?_)
    refine g_aload_n C (pc := 27) dX12_forget_27 1 rfl ?_
    refine g_getR C (pc := 28) fl_RX12_7 (by decide) (by first | assumption | rfl | omega) (by first | assumption | rfl | omega) (by first | assumption | rfl | omega) dX12_forget_28 ?_
    refine g_bipush C (pc := 31) 20 dX12_forget_31 (by decide) ?_
    refine g_iload_n C (pc := 33) dX12_forget_33 2 rfl ?_
    refine g_iast C (pc := 34) (by first | assumption | rfl | omega) (by first | assumption | rfl | omega) hn9 (vp_in_nI (n := 20) (by decide) (by decide)) dX12_forget_34 ?_
    refine g_iload_n C (pc := 35) dX12_forget_35 0 rfl ?_
    refine g_iret C hR (pc := 36) rfl dX12_forget_36 ?_
    refine ⟨rfl, _, rfl, ?_⟩
    exact Or.inl ⟨q, ⟨hq, hxq⟩, ev26.trans hm, rfl⟩
  · have hno := fun h => bI_0.mp (e11.symm.trans c14) ((inL (x := x) (lo := 0) (hi := m) (by decide) (by omega)).mpr h)
    refine g_iconst C (pc := 17) (-1) dX12_forget_17 (by decide) ?_
    refine g_iret C hR (pc := 18) rfl dX12_forget_18 ?_
    refine ⟨rfl, _, rfl, ?_⟩
    exact Or.inr ⟨fun ⟨q, h1, h2⟩ => hno ⟨q, by omega, h1, h2⟩, rfl, rfl⟩
set_option maxHeartbeats 400000 in
theorem c_X12_drop (n : Nat) (ρ : Rho) (I : Mem) (m : Nat) (x : Int32) (hn9 : n ≤ 999) (hms : MS n ρ) (hm : I 98 37 = nI m) (hm8 : m ≤ 3) : MI yX12_drop cX12_drop 3 (some .int) 1 [.ref 97, .int x] n ρ I (fun v I1 => (∃ q, (q ≤ m ∧ x = nI q) ∧ v = nI m ∧ wr I 98 37 x = I1) ∨ (¬ (∃ q, (q ≤ m ∧ x = nI q)) ∧ v = -1 ∧ I = I1)) := by
  refine MG.of (by decide +kernel) (Nat.le_of_ble_eq_true rfl) hn9 ?_
  intro κ C hR
  show G κ n ρ 0 [(0, .ref 97), (1, .int x)] [] I
  obtain ⟨mn, ⟨m0, m1, m5, m6, m7, m11, m12, m15⟩, ⟨m23, m24, m26, m27, m28, m30, m31, m32, m33⟩, ⟨m38, m39, m40, m42⟩⟩ := id hms
  have hml : (I 98 37).toInt64 = lN m := by rw [hm, nI_l (by omega)]
  refine g_iload_n C (pc := 0) dX12_drop_0 1 rfl ?_
  refine g_i2l C (pc := 1) dX12_drop_1 ?_
  refine g_lconst C (pc := 2) 0 dX12_drop_2 (by decide) ?_
  refine g_aload_n C (pc := 3) dX12_drop_3 0 rfl ?_
  refine g_getR C (pc := 4) fl_RX12_7 (by decide) (by first | assumption | rfl | omega) (by first | assumption | rfl | omega) (by first | assumption | rfl | omega) dX12_drop_4 ?_
  refine g_bipush C (pc := 7) 37 dX12_drop_7 (by decide) ?_
  refine g_iald C (pc := 9) (by first | assumption | rfl | omega) (by first | assumption | rfl | omega) (vp_in_nI (n := 37) (by decide) (by decide)) dX12_drop_9 ?_
  refine g_i2l C (pc := 10) dX12_drop_10 ?_
  rw [show (I 98 (37 : Int32).toNatClampNeg).toInt64 = lN m from hml]
  refine g_callSI C (pc := 11) mf_X12_in lk_RX12_113 (c_X12_in n ρ I x.toInt64 0 (lN m) hn9) (by decide) (Nat.le_refl _) rfl (Nat.le_of_ble_eq_true rfl) dX12_drop_11 (fun v11 I11 h11 => ?_)
  obtain ⟨e11, rfl⟩ := h11
  refine g_if_ne C (pc := 14) 19 dX12_drop_14 (by decide) (fun c14 => ?_) (fun c14 => ?_)
  · obtain ⟨q, -, hq, hxq⟩ := (inL (x := x) (lo := 0) (hi := m) (by decide) (by omega)).mp (bI_1.mp (fun h => c14 (e11.trans h)))
    refine g_aload_n C (pc := 19) dX12_drop_19 0 rfl ?_
    refine g_getR C (pc := 20) fl_RX12_7 (by decide) (by first | assumption | rfl | omega) (by first | assumption | rfl | omega) (by first | assumption | rfl | omega) dX12_drop_20 ?_
    refine g_bipush C (pc := 23) 37 dX12_drop_23 (by decide) ?_
    refine g_iald C (pc := 25) (by first | assumption | rfl | omega) (by first | assumption | rfl | omega) (vp_in_nI (n := 37) (by decide) (by decide)) dX12_drop_25 ?_
    refine g_istore_n C (pc := 26) dX12_drop_26 (by decide) (fun v26 => [(2, .int v26), (0, .ref 97), (1, .int x)]) (fun _ => rfl) (fun v26 ev26 => ?_)
    refine g_aload_n C (pc := 27) dX12_drop_27 1 rfl ?_
    refine g_getR C (pc := 28) fl_RX12_7 (by decide) (by first | assumption | rfl | omega) (by first | assumption | rfl | omega) (by first | assumption | rfl | omega) dX12_drop_28 ?_
    refine g_bipush C (pc := 31) 37 dX12_drop_31 (by decide) ?_
    refine g_iload_n C (pc := 33) dX12_drop_33 2 rfl ?_
    refine g_iast C (pc := 34) (by first | assumption | rfl | omega) (by first | assumption | rfl | omega) hn9 (vp_in_nI (n := 37) (by decide) (by decide)) dX12_drop_34 ?_
    refine g_iload_n C (pc := 35) dX12_drop_35 0 rfl ?_
    refine g_iret C hR (pc := 36) rfl dX12_drop_36 ?_
    refine ⟨rfl, _, rfl, ?_⟩
    exact Or.inl ⟨q, ⟨hq, hxq⟩, ev26.trans hm, rfl⟩
  · have hno := fun h => bI_0.mp (e11.symm.trans c14) ((inL (x := x) (lo := 0) (hi := m) (by decide) (by omega)).mpr h)
    refine g_iconst C (pc := 17) (-1) dX12_drop_17 (by decide) ?_
    refine g_iret C hR (pc := 18) rfl dX12_drop_18 ?_
    refine ⟨rfl, _, rfl, ?_⟩
    exact Or.inr ⟨fun ⟨q, h1, h2⟩ => hno ⟨q, by omega, h1, h2⟩, rfl, rfl⟩
set_option maxHeartbeats 400000 in
theorem c_X12_end (n : Nat) (ρ : Rho) (I : Mem) (m : Nat) (x : Int32) (hn9 : n ≤ 999) (hms : MS n ρ) (hm : I 97 16 = nI m) (hm8 : m ≤ 320) : MI yX12_end cX12_end 3 (some .int) 1 [.ref 97, .int x] n ρ I (fun v I1 => (∃ q, (q ≤ m ∧ x = nI q) ∧ v = nI m ∧ wr I 97 16 x = I1) ∨ (¬ (∃ q, (q ≤ m ∧ x = nI q)) ∧ v = -1 ∧ I = I1)) := by
  refine MG.of (by decide +kernel) (Nat.le_of_ble_eq_true rfl) hn9 ?_
  intro κ C hR
  show G κ n ρ 0 [(0, .ref 97), (1, .int x)] [] I
  obtain ⟨mn, ⟨m0, m1, m5, m6, m7, m11, m12, m15⟩, ⟨m23, m24, m26, m27, m28, m30, m31, m32, m33⟩, ⟨m38, m39, m40, m42⟩⟩ := id hms
  have hml : (I 97 16).toInt64 = lN m := by rw [hm, nI_l (by omega)]
  refine g_iload_n C (pc := 0) dX12_end_0 1 rfl ?_
  refine g_i2l C (pc := 1) dX12_end_1 ?_
  refine g_lconst C (pc := 2) 0 dX12_end_2 (by decide) ?_
  refine g_aload_n C (pc := 3) dX12_end_3 0 rfl ?_
  refine g_getI C (pc := 4) fl_RX12_108 (by decide) (by first | assumption | rfl | omega) (by first | assumption | rfl | omega) dX12_end_4 ?_
  refine g_i2l C (pc := 7) dX12_end_7 ?_
  rw [hml]
  refine g_callSI C (pc := 8) mf_X12_in lk_RX12_113 (c_X12_in n ρ I x.toInt64 0 (lN m) hn9) (by decide) (Nat.le_refl _) rfl (Nat.le_of_ble_eq_true rfl) dX12_end_8 (fun v8 I8 h8 => ?_)
  obtain ⟨e8, rfl⟩ := h8
  refine g_if_ne C (pc := 11) 16 dX12_end_11 (by decide) (fun c11 => ?_) (fun c11 => ?_)
  · obtain ⟨q, -, hq, hxq⟩ := (inL (x := x) (lo := 0) (hi := m) (by decide) (by omega)).mp (bI_1.mp (fun h => c11 (e8.trans h)))
    refine g_aload_n C (pc := 16) dX12_end_16 0 rfl ?_
    refine g_getI C (pc := 17) fl_RX12_108 (by decide) (by first | assumption | rfl | omega) (by first | assumption | rfl | omega) dX12_end_17 ?_
    refine g_istore_n C (pc := 20) dX12_end_20 (by decide) (fun v20 => [(2, .int v20), (0, .ref 97), (1, .int x)]) (fun _ => rfl) (fun v20 ev20 => ?_)
    refine g_aload_n C (pc := 21) dX12_end_21 1 rfl ?_
    refine g_iload_n C (pc := 22) dX12_end_22 2 rfl ?_
    refine g_putI C (pc := 23) fl_RX12_108 (by decide) fp_11_16 (Or.inl rfl) ⟨rfl, rfl⟩ (by first | assumption | rfl | omega) (by first | assumption | rfl | omega) hn9 dX12_end_23 ?_
    refine g_iload_n C (pc := 26) dX12_end_26 0 rfl ?_
    refine g_iret C hR (pc := 27) rfl dX12_end_27 ?_
    refine ⟨rfl, _, rfl, ?_⟩
    exact Or.inl ⟨q, ⟨hq, hxq⟩, ev20.trans hm, rfl⟩
  · have hno := fun h => bI_0.mp (e8.symm.trans c11) ((inL (x := x) (lo := 0) (hi := m) (by decide) (by omega)).mpr h)
    refine g_iconst C (pc := 14) (-1) dX12_end_14 (by decide) ?_
    refine g_iret C hR (pc := 15) rfl dX12_end_15 ?_
    refine ⟨rfl, _, rfl, ?_⟩
    exact Or.inr ⟨fun ⟨q, h1, h2⟩ => hno ⟨q, by omega, h1, h2⟩, rfl, rfl⟩
set_option maxHeartbeats 400000 in
theorem c_X12_torn (n : Nat) (ρ : Rho) (I : Mem)  (hn9 : n ≤ 999) (hms : MS n ρ) : MI yX12_torn cX12_torn 1 (some .int) 0 [.ref 97] n ρ I (fun v I1 => v = I 97 41 ∧ I = I1) := by
  refine MG.of (by decide +kernel) (Nat.le_of_ble_eq_true rfl) hn9 ?_
  intro κ C hR
  show G κ n ρ 0 [(0, .ref 97)] [] I
  obtain ⟨mn, ⟨m0, m1, m5, m6, m7, m11, m12, m15⟩, ⟨m23, m24, m26, m27, m28, m30, m31, m32, m33⟩, ⟨m38, m39, m40, m42⟩⟩ := id hms
  refine g_aload_n C (pc := 0) dX12_torn_0 0 rfl ?_
  refine g_getI C (pc := 1) fl_RX12_363 (by decide) (by first | assumption | rfl | omega) (by first | assumption | rfl | omega) dX12_torn_1 ?_
  refine g_iret C hR (pc := 4) rfl dX12_torn_4 ?_
  refine ⟨rfl, _, rfl, ?_⟩
  exact ⟨rfl, rfl⟩
set_option maxHeartbeats 400000 in
theorem c_X12_fault (n : Nat) (ρ : Rho) (I : Mem)  (hn9 : n ≤ 999) (hms : MS n ρ) : MI yX12_fault cX12_fault 1 (some .int) 0 [.ref 97] n ρ I (fun v I1 => v = I 97 21 ∧ I = I1) := by
  refine MG.of (by decide +kernel) (Nat.le_of_ble_eq_true rfl) hn9 ?_
  intro κ C hR
  show G κ n ρ 0 [(0, .ref 97)] [] I
  obtain ⟨mn, ⟨m0, m1, m5, m6, m7, m11, m12, m15⟩, ⟨m23, m24, m26, m27, m28, m30, m31, m32, m33⟩, ⟨m38, m39, m40, m42⟩⟩ := id hms
  refine g_aload_n C (pc := 0) dX12_fault_0 0 rfl ?_
  refine g_getI C (pc := 1) fl_RX12_117 (by decide) (by first | assumption | rfl | omega) (by first | assumption | rfl | omega) dX12_fault_1 ?_
  refine g_iret C hR (pc := 4) rfl dX12_fault_4 ?_
  refine ⟨rfl, _, rfl, ?_⟩
  exact ⟨rfl, rfl⟩
set_option maxHeartbeats 400000 in
theorem c_X12_tell (n : Nat) (ρ : Rho) (I : Mem) (m : Nat) (x : Int32) (hn9 : n ≤ 999) (hms : MS n ρ) (hm : I 98 37 = nI m) (hm8 : m ≤ 3) : MI yX12_tell cX12_tell 2 (some .int) 2 [.ref 97, .int x] n ρ I (fun v I1 => (∃ w, (w < 5 ∧ x = nI w) ∧ ((m < 3 ∧ v = nI (m + 1) ∧ wr (wr I 98 (38 + m) x) 98 37 (nI (m + 1)) = I1) ∨ (3 ≤ m ∧ v = -3 ∧ I = I1))) ∨ (¬ (∃ w, (w < 5 ∧ x = nI w)) ∧ v = -1 ∧ I = I1)) := by
  refine MG.of (by decide +kernel) (Nat.le_of_ble_eq_true rfl) hn9 ?_
  intro κ C hR
  show G κ n ρ 0 [(0, .ref 97), (1, .int x)] [] I
  obtain ⟨mn, ⟨m0, m1, m5, m6, m7, m11, m12, m15⟩, ⟨m23, m24, m26, m27, m28, m30, m31, m32, m33⟩, ⟨m38, m39, m40, m42⟩⟩ := id hms
  refine g_iload_n C (pc := 0) dX12_tell_0 1 rfl ?_
  refine g_callSI C (pc := 1) mf_X12_isWind lk_RX12_236 (c_X12_isWind n ρ I x hn9) (by decide) (Nat.le_refl _) rfl (Nat.le_of_ble_eq_true rfl) dX12_tell_1 (fun v1 I1 h1 => ?_)
  obtain ⟨e1, rfl⟩ := h1
  refine g_if_ne C (pc := 4) 9 dX12_tell_4 (by decide) (fun c4 => ?_) (fun c4 => ?_)
  · have hx := bI_1.mp (fun h => c4 (e1.trans h))
    obtain ⟨w, hw, hxw⟩ := ix_of (n := 5) (by decide) hx
    refine g_aload_n C (pc := 9) dX12_tell_9 0 rfl ?_
    refine g_getR C (pc := 10) fl_RX12_7 (by decide) (by first | assumption | rfl | omega) (by first | assumption | rfl | omega) (by first | assumption | rfl | omega) dX12_tell_10 ?_
    refine g_bipush C (pc := 13) 37 dX12_tell_13 (by decide) ?_
    refine g_iald C (pc := 15) (by first | assumption | rfl | omega) (by first | assumption | rfl | omega) (vp_in_nI (n := 37) (by decide) (by decide)) dX12_tell_15 ?_
    refine g_iconst C (pc := 16) 3 dX12_tell_16 (by decide) ?_
    refine g_icmp_ne C (pc := 17) 23 dX12_tell_17 (by decide) (fun c17 => ?_) (fun c17 => ?_)
    · have h8 : m < 3 := by
        have : m ≠ 3 := fun h9 => c17 (by show I 98 37 = 3; rw [hm, h9]; rfl)
        omega
      refine g_aload_n C (pc := 23) dX12_tell_23 0 rfl ?_
      refine g_getR C (pc := 24) fl_RX12_7 (by decide) (by first | assumption | rfl | omega) (by first | assumption | rfl | omega) (by first | assumption | rfl | omega) dX12_tell_24 ?_
      refine g_bipush C (pc := 27) 38 dX12_tell_27 (by decide) ?_
      refine g_aload_n C (pc := 29) dX12_tell_29 0 rfl ?_
      refine g_getR C (pc := 30) fl_RX12_7 (by decide) (by first | assumption | rfl | omega) (by first | assumption | rfl | omega) (by first | assumption | rfl | omega) dX12_tell_30 ?_
      refine g_bipush C (pc := 33) 37 dX12_tell_33 (by decide) ?_
      refine g_iald C (pc := 35) (by first | assumption | rfl | omega) (by first | assumption | rfl | omega) (vp_in_nI (n := 37) (by decide) (by decide)) dX12_tell_35 ?_
      refine g_iadd C (pc := 36) dX12_tell_36 ?_
      refine g_iload_n C (pc := 37) dX12_tell_37 1 rfl ?_
      refine g_iast C (pc := 38) (by first | assumption | rfl | omega) (by first | assumption | rfl | omega) hn9 (by rw [show I 98 (37 : Int32).toNatClampNeg = nI m from hm, show (38 : Int32) = nI 38 from rfl, nI_add]; exact vp_in_nI (by omega) (by decide)) dX12_tell_38 ?_
      have hi1 : (38 + I 98 (37 : Int32).toNatClampNeg).toNatClampNeg = 38 + m := by
        rw [show I 98 (37 : Int32).toNatClampNeg = nI m from hm, show (38 : Int32) = nI 38 from rfl, nI_add]; exact nI_clamp (by omega)
      rw [hi1]
      have h20b : wr I 98 (38 + m) x 98 (37 : Int32).toNatClampNeg = nI m := (wr_sn (show (37 : Nat) ≠ 38 + m by omega)).trans hm
      refine g_aload_n C (pc := 39) dX12_tell_39 0 rfl ?_
      refine g_getR C (pc := 40) fl_RX12_7 (by decide) (by first | assumption | rfl | omega) (by first | assumption | rfl | omega) (by first | assumption | rfl | omega) dX12_tell_40 ?_
      refine g_bipush C (pc := 43) 37 dX12_tell_43 (by decide) ?_
      refine g_dup2 C (pc := 45) dX12_tell_45 rfl rfl ?_
      refine g_iald C (pc := 46) (by first | assumption | rfl | omega) (by first | assumption | rfl | omega) (vp_in_nI (n := 37) (by decide) (by decide)) dX12_tell_46 ?_
      refine g_iconst C (pc := 47) 1 dX12_tell_47 (by decide) ?_
      refine g_iadd C (pc := 48) dX12_tell_48 ?_
      refine g_iast C (pc := 49) (by first | assumption | rfl | omega) (by first | assumption | rfl | omega) hn9 (vp_in_nI (n := 37) (by decide) (by decide)) dX12_tell_49 ?_
      refine g_aload_n C (pc := 50) dX12_tell_50 0 rfl ?_
      refine g_getR C (pc := 51) fl_RX12_7 (by decide) (by first | assumption | rfl | omega) (by first | assumption | rfl | omega) (by first | assumption | rfl | omega) dX12_tell_51 ?_
      refine g_bipush C (pc := 54) 37 dX12_tell_54 (by decide) ?_
      refine g_iald C (pc := 56) (by first | assumption | rfl | omega) (by first | assumption | rfl | omega) (vp_in_nI (n := 37) (by decide) (by decide)) dX12_tell_56 ?_
      refine g_iret C hR (pc := 57) rfl dX12_tell_57 ?_
      refine ⟨rfl, _, rfl, ?_⟩
      refine Or.inl ⟨w, ⟨hw, hxw⟩, Or.inl ⟨h8, ?_, ?_⟩⟩
      · rw [h20b]; exact wr_ss.trans (nI_1 _)
      · rw [h20b, show nI m + 1 = nI (m + 1) from nI_1 _]; rfl
    · have h8 : 3 ≤ m := by
        have h9 : I 98 37 = 3 := c17
        rw [hm] at h9
        have := (nI_eq (b := 3) (by omega) (by decide)).mp h9
        omega
      refine g_bipush C (pc := 20) (-3) dX12_tell_20 (by decide) ?_
      refine g_iret C hR (pc := 22) rfl dX12_tell_22 ?_
      refine ⟨rfl, _, rfl, ?_⟩
      exact Or.inl ⟨w, ⟨hw, hxw⟩, Or.inr ⟨h8, rfl, rfl⟩⟩
  · have hx := bI_0.mp (e1.symm.trans c4)
    refine g_iconst C (pc := 7) (-1) dX12_tell_7 (by decide) ?_
    refine g_iret C hR (pc := 8) rfl dX12_tell_8 ?_
    refine ⟨rfl, _, rfl, ?_⟩
    exact Or.inr ⟨fun ⟨w9, h1, h2⟩ => hx (by rw [h2]; exact ⟨nI_pos' (by omega), nI_lt (b := 5) h1 (by decide)⟩), rfl, rfl⟩
