set_option maxHeartbeats 400000 in
theorem c_X8_pieceOn (n : Nat) (ρ : Rho) (I : Mem) (s r np : Nat) (x : Int32) (hn9 : n ≤ 999) (hst : St n ρ s) (hrf : Rf n ρ r) (hN : I r 6 = nI np) (hnp : np ≤ 6) : MI yX8_pieceOn cX8_pieceOn 4 (some .int) 1 [.ref s, .ref r, .int x] n ρ I (fun v I1 => v = oI (findP (fun p => decide (I (s + 1) p = x)) np) ∧ I = I1) := by
  refine MG.of (by decide +kernel) (Nat.le_of_ble_eq_true rfl) hn9 ?_
  intro κ C hR
  show G κ n ρ 0 [(0, .ref s), (1, .ref r), (2, .int x)] [] I
  obtain ⟨hs0, hs1, hs2, hs3, hsn, hr0, hr1, hr2⟩ := id hst
  obtain ⟨hq0, hq1, hq2, hq3, hqn, ht0, ht1, ht2⟩ := id hrf
  refine g_iconst C (pc := 0) 0 dX8_pieceOn_0 (by decide) ?_
  refine g_istore_n C (pc := 1) dX8_pieceOn_1 (by decide) (fun v1 => [(3, .int v1), (0, .ref s), (1, .ref r), (2, .int x)]) (fun _ => rfl) (fun v1 ev1 => ?_)
  have L2 : ∀ (k9 : Nat) (j : Nat)  (wz3 : Int32) (hw3 : wz3 = nI j) (hj : j ≤ np) (hk : ∀ q, q < j → I (s + 1) q ≠ x), np - j < k9 → G κ n ρ 2 [(3, .int wz3), (0, .ref s), (1, .ref r), (2, .int x)] [] I := by
    intro k9
    induction k9 with
    | zero => intro j wz3 hw3 hj hk hm9; exact absurd hm9 (Nat.not_lt_zero _)
    | succ k9 ih9 =>
      intro j wz3 hw3 hj hk hm9
      subst hw3
      refine g_iload_n C (pc := 2) dX8_pieceOn_2 0 rfl ?_
      refine g_aload_n C (pc := 3) dX8_pieceOn_3 2 rfl ?_
      refine g_getI C (pc := 4) fl_RX8_44 (by decide) (by first | assumption | rfl | omega) (by first | assumption | rfl | omega) dX8_pieceOn_4 ?_
      refine g_icmp_ge C (pc := 7) 27 dX8_pieceOn_7 (by decide) (fun c7 => ?_) (fun c7 => ?_)
      · rw [hN, nI_leI (by omega) (by omega)] at c7
        refine g_bipush C (pc := 27) (-4) dX8_pieceOn_27 (by decide) ?_
        refine g_iret C hR (pc := 29) rfl dX8_pieceOn_29 ?_
        refine ⟨rfl, _, rfl, ?_⟩
        rw [findP_none (fun q hq => by simpa using hk q (by omega))]; exact ⟨rfl, rfl⟩
      · rw [hN, nI_ltI (by omega) (by omega)] at c7
        refine g_aload_n C (pc := 10) dX8_pieceOn_10 1 rfl ?_
        refine g_iload_n C (pc := 11) dX8_pieceOn_11 0 rfl ?_
        refine g_callVI C (pc := 12) mf_X8_placeOf lk_RX8_47 (c_X8_placeOf n ρ _ _ _ hn9 (by first | assumption | rfl)) (by decide) (Nat.le_refl _) rfl (by first | assumption | rfl | omega) rfl (by first | assumption | rfl | omega) (Nat.le_of_ble_eq_true rfl) dX8_pieceOn_12 (fun v12 I12 h12 => ?_)
        obtain ⟨e12, rfl⟩ := h12
        refine g_iload_n C (pc := 15) dX8_pieceOn_15 3 rfl ?_
        refine g_icmp_ne C (pc := 16) 21 dX8_pieceOn_16 (by decide) (fun c16 => ?_) (fun c16 => ?_)
        · rw [e12, at6 (N := 6) 6 rfl (by decide) (by omega)] at c16
          refine g_iinc C (pc := 21) (1) dX8_pieceOn_21 0 rfl (by decide) (by decide) (fun v21 => [(3, .int v21), (0, .ref s), (1, .ref r), (2, .int x)]) (fun _ => rfl) (fun v21 ev21 => ?_)
          refine g_goto C (pc := 24) 2 dX8_pieceOn_24 (by decide) ?_
          refine g_lv C [0, 1, 2, 3] rfl (ih9 (j + 1)  _ ?_ ?_ ?_ (by omega))
          · subst_vars; exact nI_1 _
          · omega
          · intro q hq; rcases Nat.lt_or_ge q j with h | h
            · exact hk q h
            · have : q = j := by omega
              subst this; assumption
        · rw [e12, at6 (N := 6) 6 rfl (by decide) (by omega)] at c16
          refine g_iload_n C (pc := 19) dX8_pieceOn_19 0 rfl ?_
          refine g_iret C hR (pc := 20) rfl dX8_pieceOn_20 ?_
          refine ⟨rfl, _, rfl, ?_⟩
          rw [findP_some (by omega : j < np) (by simpa using c16) (fun q hq => by simpa using hk q hq)]; exact ⟨rfl, rfl⟩
  refine g_lv C [0, 1, 2, 3] rfl (L2 (_ + 1) 0  _ ?_ ?_ ?_ (by first | omega | exact Nat.lt_succ_self _))
  · assumption
  · omega
  · intro q hq; omega
set_option maxHeartbeats 400000 in
theorem c_X8_lostSide (n : Nat) (ρ : Rho) (I : Mem) (s r np : Nat) (hn9 : n ≤ 999) (hst : St n ρ s) (hrf : Rf n ρ r) (hN : I r 6 = nI np) (hnp : np ≤ 6) : MI yX8_lostSide cX8_lostSide 3 (some .int) 1 [.ref s, .ref r] n ρ I (fun v I1 => v = (match findP (fun p => decide (I (s + 1) p = -4) && decide (I (r + 2) p = 0)) np with | some p => I (r + 1) p | none => -4) ∧ I = I1) := by
  refine MG.of (by decide +kernel) (Nat.le_of_ble_eq_true rfl) hn9 ?_
  intro κ C hR
  show G κ n ρ 0 [(0, .ref s), (1, .ref r)] [] I
  obtain ⟨hs0, hs1, hs2, hs3, hsn, hr0, hr1, hr2⟩ := id hst
  obtain ⟨hq0, hq1, hq2, hq3, hqn, ht0, ht1, ht2⟩ := id hrf
  refine g_iconst C (pc := 0) 0 dX8_lostSide_0 (by decide) ?_
  refine g_istore_n C (pc := 1) dX8_lostSide_1 (by decide) (fun v1 => [(2, .int v1), (0, .ref s), (1, .ref r)]) (fun _ => rfl) (fun v1 ev1 => ?_)
  have L2 : ∀ (k9 : Nat) (j : Nat)  (wz2 : Int32) (hw2 : wz2 = nI j) (hj : j ≤ np) (hk : ∀ q, q < j → ¬ (I (s + 1) q = -4 ∧ I (r + 2) q = 0)), np - j < k9 → G κ n ρ 2 [(2, .int wz2), (0, .ref s), (1, .ref r)] [] I := by
    intro k9
    induction k9 with
    | zero => intro j wz2 hw2 hj hk hm9; exact absurd hm9 (Nat.not_lt_zero _)
    | succ k9 ih9 =>
      intro j wz2 hw2 hj hk hm9
      subst hw2
      refine g_iload_n C (pc := 2) dX8_lostSide_2 0 rfl ?_
      refine g_aload_n C (pc := 3) dX8_lostSide_3 2 rfl ?_
      refine g_getI C (pc := 4) fl_RX8_44 (by decide) (by first | assumption | rfl | omega) (by first | assumption | rfl | omega) dX8_lostSide_4 ?_
      refine g_icmp_ge C (pc := 7) 40 dX8_lostSide_7 (by decide) (fun c7 => ?_) (fun c7 => ?_)
      · rw [hN, nI_leI (by omega) (by omega)] at c7
        refine g_bipush C (pc := 40) (-4) dX8_lostSide_40 (by decide) ?_
        refine g_iret C hR (pc := 42) rfl dX8_lostSide_42 ?_
        refine ⟨rfl, _, rfl, ?_⟩
        rw [findP_none (fun q hq => by have := hk q (by omega); simpa using this)]; exact ⟨rfl, rfl⟩
      · rw [hN, nI_ltI (by omega) (by omega)] at c7
        refine g_aload_n C (pc := 10) dX8_lostSide_10 1 rfl ?_
        refine g_iload_n C (pc := 11) dX8_lostSide_11 0 rfl ?_
        refine g_callVI C (pc := 12) mf_X8_placeOf lk_RX8_47 (c_X8_placeOf n ρ _ _ _ hn9 (by first | assumption | rfl)) (by decide) (Nat.le_refl _) rfl (by first | assumption | rfl | omega) rfl (by first | assumption | rfl | omega) (Nat.le_of_ble_eq_true rfl) dX8_lostSide_12 (fun v12 I12 h12 => ?_)
        obtain ⟨e12, rfl⟩ := h12
        refine g_bipush C (pc := 15) (-4) dX8_lostSide_15 (by decide) ?_
        refine g_icmp_ne C (pc := 17) 34 dX8_lostSide_17 (by decide) (fun c17 => ?_) (fun c17 => ?_)
        · rw [e12, at6 (N := 6) 6 rfl (by decide) (by omega)] at c17
          refine g_iinc C (pc := 34) (1) dX8_lostSide_34 0 rfl (by decide) (by decide) (fun v34 => [(2, .int v34), (0, .ref s), (1, .ref r)]) (fun _ => rfl) (fun v34 ev34 => ?_)
          refine g_goto C (pc := 37) 2 dX8_lostSide_37 (by decide) ?_
          refine g_lv C [0, 1, 2] rfl (ih9 (j + 1)  _ ?_ ?_ ?_ (by omega))
          · subst_vars; exact nI_1 _
          · omega
          · intro q hq; rcases Nat.lt_or_ge q j with h | h
            · exact hk q h
            · have : q = j := by omega
              subst this; simp_all
        · rw [e12, at6 (N := 6) 6 rfl (by decide) (by omega)] at c17
          refine g_aload_n C (pc := 20) dX8_lostSide_20 2 rfl ?_
          refine g_iload_n C (pc := 21) dX8_lostSide_21 0 rfl ?_
          refine g_callVI C (pc := 22) mf_X5_kindOf lk_RX8_50 (c_X5_kindOf n ρ _ _ _ hn9 (by first | assumption | rfl)) (by decide) (Nat.le_refl _) rfl (by first | assumption | rfl | omega) rfl (by first | assumption | rfl | omega) (Nat.le_of_ble_eq_true rfl) dX8_lostSide_22 (fun v22 I22 h22 => ?_)
          obtain ⟨e22, rfl⟩ := h22
          refine g_if_ne C (pc := 25) 34 dX8_lostSide_25 (by decide) (fun c25 => ?_) (fun c25 => ?_)
          · rw [e22, hN, at66 hnp (by omega)] at c25
            refine g_iinc C (pc := 34) (1) dX8_lostSide_34 0 rfl (by decide) (by decide) (fun v34 => [(2, .int v34), (0, .ref s), (1, .ref r)]) (fun _ => rfl) (fun v34 ev34 => ?_)
            refine g_goto C (pc := 37) 2 dX8_lostSide_37 (by decide) ?_
            refine g_lv C [0, 1, 2] rfl (ih9 (j + 1)  _ ?_ ?_ ?_ (by omega))
            · subst_vars; exact nI_1 _
            · omega
            · intro q hq; rcases Nat.lt_or_ge q j with h | h
              · exact hk q h
              · have : q = j := by omega
                subst this; simp_all
          · rw [e22, hN, at66 hnp (by omega)] at c25
            refine g_aload_n C (pc := 28) dX8_lostSide_28 2 rfl ?_
            refine g_iload_n C (pc := 29) dX8_lostSide_29 0 rfl ?_
            refine g_callVI C (pc := 30) mf_X5_sideOf lk_RX8_31 (c_X5_sideOf n ρ _ _ _ hn9 (by first | assumption | rfl)) (by decide) (Nat.le_refl _) rfl (by first | assumption | rfl | omega) rfl (by first | assumption | rfl | omega) (Nat.le_of_ble_eq_true rfl) dX8_lostSide_30 (fun v30 I30 h30 => ?_)
            obtain ⟨e30, rfl⟩ := h30
            refine g_iret C hR (pc := 33) rfl dX8_lostSide_33 ?_
            refine ⟨rfl, _, rfl, ?_⟩
            rw [findP_some (by omega : j < np) (by simp_all) (fun q hq => by have := hk q hq; simpa using this)]
            rw [e30, hN, at66 hnp (by omega)]; exact ⟨rfl, rfl⟩
  refine g_lv C [0, 1, 2] rfl (L2 (_ + 1) 0  _ ?_ ?_ ?_ (by first | omega | exact Nat.lt_succ_self _))
  · assumption
  · omega
  · intro q hq; omega
set_option maxHeartbeats 400000 in
theorem c_X8_kingOf (n : Nat) (ρ : Rho) (I : Mem) (s r np : Nat) (x : Int32) (hn9 : n ≤ 999) (hst : St n ρ s) (hrf : Rf n ρ r) (hN : I r 6 = nI np) (hnp : np ≤ 6) : MI yX8_kingOf cX8_kingOf 4 (some .int) 1 [.ref s, .ref r, .int x] n ρ I (fun v I1 => v = oI (findP (fun p => decide (I (r + 2) p = 0) && decide (I (r + 1) p = x)) np) ∧ I = I1) := by
  refine MG.of (by decide +kernel) (Nat.le_of_ble_eq_true rfl) hn9 ?_
  intro κ C hR
  show G κ n ρ 0 [(0, .ref s), (1, .ref r), (2, .int x)] [] I
  obtain ⟨hs0, hs1, hs2, hs3, hsn, hr0, hr1, hr2⟩ := id hst
  obtain ⟨hq0, hq1, hq2, hq3, hqn, ht0, ht1, ht2⟩ := id hrf
  refine g_iconst C (pc := 0) 0 dX8_kingOf_0 (by decide) ?_
  refine g_istore_n C (pc := 1) dX8_kingOf_1 (by decide) (fun v1 => [(3, .int v1), (0, .ref s), (1, .ref r), (2, .int x)]) (fun _ => rfl) (fun v1 ev1 => ?_)
  have L2 : ∀ (k9 : Nat) (j : Nat)  (wz3 : Int32) (hw3 : wz3 = nI j) (hj : j ≤ np) (hk : ∀ q, q < j → ¬ (I (r + 2) q = 0 ∧ I (r + 1) q = x)), np - j < k9 → G κ n ρ 2 [(3, .int wz3), (0, .ref s), (1, .ref r), (2, .int x)] [] I := by
    intro k9
    induction k9 with
    | zero => intro j wz3 hw3 hj hk hm9; exact absurd hm9 (Nat.not_lt_zero _)
    | succ k9 ih9 =>
      intro j wz3 hw3 hj hk hm9
      subst hw3
      refine g_iload_n C (pc := 2) dX8_kingOf_2 0 rfl ?_
      refine g_aload_n C (pc := 3) dX8_kingOf_3 2 rfl ?_
      refine g_getI C (pc := 4) fl_RX8_44 (by decide) (by first | assumption | rfl | omega) (by first | assumption | rfl | omega) dX8_kingOf_4 ?_
      refine g_icmp_ge C (pc := 7) 35 dX8_kingOf_7 (by decide) (fun c7 => ?_) (fun c7 => ?_)
      · rw [hN, nI_leI (by omega) (by omega)] at c7
        refine g_bipush C (pc := 35) (-4) dX8_kingOf_35 (by decide) ?_
        refine g_iret C hR (pc := 37) rfl dX8_kingOf_37 ?_
        refine ⟨rfl, _, rfl, ?_⟩
        rw [findP_none (fun q hq => by have := hk q (by omega); simpa using this)]; exact ⟨rfl, rfl⟩
      · rw [hN, nI_ltI (by omega) (by omega)] at c7
        refine g_aload_n C (pc := 10) dX8_kingOf_10 2 rfl ?_
        refine g_iload_n C (pc := 11) dX8_kingOf_11 0 rfl ?_
        refine g_callVI C (pc := 12) mf_X5_kindOf lk_RX8_50 (c_X5_kindOf n ρ _ _ _ hn9 (by first | assumption | rfl)) (by decide) (Nat.le_refl _) rfl (by first | assumption | rfl | omega) rfl (by first | assumption | rfl | omega) (Nat.le_of_ble_eq_true rfl) dX8_kingOf_12 (fun v12 I12 h12 => ?_)
        obtain ⟨e12, rfl⟩ := h12
        refine g_if_ne C (pc := 15) 29 dX8_kingOf_15 (by decide) (fun c15 => ?_) (fun c15 => ?_)
        · rw [e12, hN, at66 hnp (by omega)] at c15
          refine g_iinc C (pc := 29) (1) dX8_kingOf_29 0 rfl (by decide) (by decide) (fun v29 => [(3, .int v29), (0, .ref s), (1, .ref r), (2, .int x)]) (fun _ => rfl) (fun v29 ev29 => ?_)
          refine g_goto C (pc := 32) 2 dX8_kingOf_32 (by decide) ?_
          refine g_lv C [0, 1, 2, 3] rfl (ih9 (j + 1)  _ ?_ ?_ ?_ (by omega))
          · subst_vars; exact nI_1 _
          · omega
          · intro q hq; rcases Nat.lt_or_ge q j with h | h
            · exact hk q h
            · have : q = j := by omega
              subst this; simp_all
        · rw [e12, hN, at66 hnp (by omega)] at c15
          refine g_aload_n C (pc := 18) dX8_kingOf_18 2 rfl ?_
          refine g_iload_n C (pc := 19) dX8_kingOf_19 0 rfl ?_
          refine g_callVI C (pc := 20) mf_X5_sideOf lk_RX8_31 (c_X5_sideOf n ρ _ _ _ hn9 (by first | assumption | rfl)) (by decide) (Nat.le_refl _) rfl (by first | assumption | rfl | omega) rfl (by first | assumption | rfl | omega) (Nat.le_of_ble_eq_true rfl) dX8_kingOf_20 (fun v20 I20 h20 => ?_)
          obtain ⟨e20, rfl⟩ := h20
          refine g_iload_n C (pc := 23) dX8_kingOf_23 3 rfl ?_
          refine g_icmp_ne C (pc := 24) 29 dX8_kingOf_24 (by decide) (fun c24 => ?_) (fun c24 => ?_)
          · rw [e20, hN, at66 hnp (by omega)] at c24
            refine g_iinc C (pc := 29) (1) dX8_kingOf_29 0 rfl (by decide) (by decide) (fun v29 => [(3, .int v29), (0, .ref s), (1, .ref r), (2, .int x)]) (fun _ => rfl) (fun v29 ev29 => ?_)
            refine g_goto C (pc := 32) 2 dX8_kingOf_32 (by decide) ?_
            refine g_lv C [0, 1, 2, 3] rfl (ih9 (j + 1)  _ ?_ ?_ ?_ (by omega))
            · subst_vars; exact nI_1 _
            · omega
            · intro q hq; rcases Nat.lt_or_ge q j with h | h
              · exact hk q h
              · have : q = j := by omega
                subst this; simp_all
          · rw [e20, hN, at66 hnp (by omega)] at c24
            refine g_iload_n C (pc := 27) dX8_kingOf_27 0 rfl ?_
            refine g_iret C hR (pc := 28) rfl dX8_kingOf_28 ?_
            refine ⟨rfl, _, rfl, ?_⟩
            rw [findP_some (by omega : j < np) (by simp_all) (fun q hq => by have := hk q hq; simpa using this)]; exact ⟨rfl, rfl⟩
  refine g_lv C [0, 1, 2, 3] rfl (L2 (_ + 1) 0  _ ?_ ?_ ?_ (by first | omega | exact Nat.lt_succ_self _))
  · assumption
  · omega
  · intro q hq; omega
set_option maxHeartbeats 400000 in
theorem c_X8_standing (n : Nat) (ρ : Rho) (I : Mem) (s r np : Nat) (hn9 : n ≤ 999) (hst : St n ρ s) (hrf : Rf n ρ r) (hN : I r 6 = nI np) (hnp : np ≤ 6) : MI yX8_standing cX8_standing 4 (some .int) 1 [.ref s, .ref r] n ρ I (fun v I1 => v = nI (ctP (fun p => decide (I (s + 1) p ≠ -4)) np) ∧ I = I1) := by
  refine MG.of (by decide +kernel) (Nat.le_of_ble_eq_true rfl) hn9 ?_
  intro κ C hR
  show G κ n ρ 0 [(0, .ref s), (1, .ref r)] [] I
  obtain ⟨hs0, hs1, hs2, hs3, hsn, hr0, hr1, hr2⟩ := id hst
  obtain ⟨hq0, hq1, hq2, hq3, hqn, ht0, ht1, ht2⟩ := id hrf
  refine g_iconst C (pc := 0) 0 dX8_standing_0 (by decide) ?_
  refine g_istore_n C (pc := 1) dX8_standing_1 (by decide) (fun v1 => [(2, .int v1), (0, .ref s), (1, .ref r)]) (fun _ => rfl) (fun v1 ev1 => ?_)
  refine g_iconst C (pc := 2) 0 dX8_standing_2 (by decide) ?_
  refine g_istore_n C (pc := 3) dX8_standing_3 (by decide) (fun v3 => [(3, .int v3), (2, .int v1), (0, .ref s), (1, .ref r)]) (fun _ => rfl) (fun v3 ev3 => ?_)
  have L4 : ∀ (k9 : Nat) (j : Nat)  (wz3 : Int32) (wz2 : Int32) (hw3 : wz3 = nI j) (hj : j ≤ np) (hc : wz2 = nI (ctP (fun p => decide (I (s + 1) p ≠ -4)) j)), np - j < k9 → G κ n ρ 4 [(3, .int wz3), (2, .int wz2), (0, .ref s), (1, .ref r)] [] I := by
    intro k9
    induction k9 with
    | zero => intro j wz3 wz2 hw3 hj hc hm9; exact absurd hm9 (Nat.not_lt_zero _)
    | succ k9 ih9 =>
      intro j wz3 wz2 hw3 hj hc hm9
      subst hw3
      refine g_iload_n C (pc := 4) dX8_standing_4 0 rfl ?_
      refine g_aload_n C (pc := 5) dX8_standing_5 3 rfl ?_
      refine g_getI C (pc := 6) fl_RX8_44 (by decide) (by first | assumption | rfl | omega) (by first | assumption | rfl | omega) dX8_standing_6 ?_
      refine g_icmp_ge C (pc := 9) 31 dX8_standing_9 (by decide) (fun c9 => ?_) (fun c9 => ?_)
      · rw [hN, nI_leI (by omega) (by omega)] at c9
        refine g_iload_n C (pc := 31) dX8_standing_31 1 rfl ?_
        refine g_iret C hR (pc := 32) rfl dX8_standing_32 ?_
        refine ⟨rfl, _, rfl, ?_⟩
        have : j = np := by omega
        subst this; exact ⟨hc, rfl⟩
      · rw [hN, nI_ltI (by omega) (by omega)] at c9
        refine g_aload_n C (pc := 12) dX8_standing_12 2 rfl ?_
        refine g_iload_n C (pc := 13) dX8_standing_13 0 rfl ?_
        refine g_callVI C (pc := 14) mf_X8_placeOf lk_RX8_47 (c_X8_placeOf n ρ _ _ _ hn9 (by first | assumption | rfl)) (by decide) (Nat.le_refl _) rfl (by first | assumption | rfl | omega) rfl (by first | assumption | rfl | omega) (Nat.le_of_ble_eq_true rfl) dX8_standing_14 (fun v14 I14 h14 => ?_)
        obtain ⟨e14, rfl⟩ := h14
        refine g_bipush C (pc := 17) (-4) dX8_standing_17 (by decide) ?_
        refine g_icmp_eq C (pc := 19) 25 dX8_standing_19 (by decide) (fun c19 => ?_) (fun c19 => ?_)
        · rw [e14, at6 (N := 6) 6 rfl (by decide) (by omega)] at c19
          refine g_iinc C (pc := 25) (1) dX8_standing_25 0 rfl (by decide) (by decide) (fun v25 => [(3, .int v25), (2, .int wz2), (0, .ref s), (1, .ref r)]) (fun _ => rfl) (fun v25 ev25 => ?_)
          refine g_goto C (pc := 28) 4 dX8_standing_28 (by decide) ?_
          refine g_lv C [0, 1, 2, 3] rfl (ih9 (j + 1)  _ _ ?_ ?_ ?_ (by omega))
          · subst_vars; exact nI_1 _
          · omega
          · subst_vars; simp only [ctP]; simp_all [nI_1]
        · rw [e14, at6 (N := 6) 6 rfl (by decide) (by omega)] at c19
          refine g_iinc C (pc := 22) (1) dX8_standing_22 1 rfl (by decide) (by decide) (fun v22 => [(2, .int v22), (3, .int (nI j)), (0, .ref s), (1, .ref r)]) (fun _ => rfl) (fun v22 ev22 => ?_)
          refine g_iinc C (pc := 25) (1) dX8_standing_25 1 rfl (by decide) (by decide) (fun v25 => [(3, .int v25), (2, .int v22), (0, .ref s), (1, .ref r)]) (fun _ => rfl) (fun v25 ev25 => ?_)
          refine g_goto C (pc := 28) 4 dX8_standing_28 (by decide) ?_
          refine g_lv C [0, 1, 2, 3] rfl (ih9 (j + 1)  _ _ ?_ ?_ ?_ (by omega))
          · subst_vars; exact nI_1 _
          · omega
          · subst_vars; simp only [ctP]; simp_all [nI_1]
  refine g_lv C [0, 1, 2, 3] rfl (L4 (_ + 1) 0  _ _ ?_ ?_ ?_ (by first | omega | exact Nat.lt_succ_self _))
  · assumption
  · omega
  · subst ev1; rfl
set_option maxHeartbeats 400000 in
theorem c_X8_allOil (n : Nat) (ρ : Rho) (I : Mem) (s r np : Nat) (hn9 : n ≤ 999) (hst : St n ρ s) (hrf : Rf n ρ r) (hN : I r 6 = nI np) (hnp : np ≤ 6) : MI yX8_allOil cX8_allOil 4 (some .int) 1 [.ref s, .ref r] n ρ I (fun v I1 => v = smI (fun p => I (s + 2) p) np ∧ I = I1) := by
  refine MG.of (by decide +kernel) (Nat.le_of_ble_eq_true rfl) hn9 ?_
  intro κ C hR
  show G κ n ρ 0 [(0, .ref s), (1, .ref r)] [] I
  obtain ⟨hs0, hs1, hs2, hs3, hsn, hr0, hr1, hr2⟩ := id hst
  obtain ⟨hq0, hq1, hq2, hq3, hqn, ht0, ht1, ht2⟩ := id hrf
  refine g_iconst C (pc := 0) 0 dX8_allOil_0 (by decide) ?_
  refine g_istore_n C (pc := 1) dX8_allOil_1 (by decide) (fun v1 => [(2, .int v1), (0, .ref s), (1, .ref r)]) (fun _ => rfl) (fun v1 ev1 => ?_)
  refine g_iconst C (pc := 2) 0 dX8_allOil_2 (by decide) ?_
  refine g_istore_n C (pc := 3) dX8_allOil_3 (by decide) (fun v3 => [(3, .int v3), (2, .int v1), (0, .ref s), (1, .ref r)]) (fun _ => rfl) (fun v3 ev3 => ?_)
  have L4 : ∀ (k9 : Nat) (j : Nat)  (wz3 : Int32) (wz2 : Int32) (hw3 : wz3 = nI j) (hj : j ≤ np) (hc : wz2 = smI (fun p => I (s + 2) p) j), np - j < k9 → G κ n ρ 4 [(3, .int wz3), (2, .int wz2), (0, .ref s), (1, .ref r)] [] I := by
    intro k9
    induction k9 with
    | zero => intro j wz3 wz2 hw3 hj hc hm9; exact absurd hm9 (Nat.not_lt_zero _)
    | succ k9 ih9 =>
      intro j wz3 wz2 hw3 hj hc hm9
      subst hw3
      refine g_iload_n C (pc := 4) dX8_allOil_4 0 rfl ?_
      refine g_aload_n C (pc := 5) dX8_allOil_5 3 rfl ?_
      refine g_getI C (pc := 6) fl_RX8_44 (by decide) (by first | assumption | rfl | omega) (by first | assumption | rfl | omega) dX8_allOil_6 ?_
      refine g_icmp_ge C (pc := 9) 26 dX8_allOil_9 (by decide) (fun c9 => ?_) (fun c9 => ?_)
      · rw [hN, nI_leI (by omega) (by omega)] at c9
        refine g_iload_n C (pc := 26) dX8_allOil_26 1 rfl ?_
        refine g_iret C hR (pc := 27) rfl dX8_allOil_27 ?_
        refine ⟨rfl, _, rfl, ?_⟩
        have : j = np := by omega
        subst this; exact ⟨hc, rfl⟩
      · rw [hN, nI_ltI (by omega) (by omega)] at c9
        refine g_iload_n C (pc := 12) dX8_allOil_12 1 rfl ?_
        refine g_aload_n C (pc := 13) dX8_allOil_13 2 rfl ?_
        refine g_iload_n C (pc := 14) dX8_allOil_14 0 rfl ?_
        refine g_callVI C (pc := 15) mf_X8_oilOf lk_RX8_53 (c_X8_oilOf n ρ _ _ _ hn9 (by first | assumption | rfl)) (by decide) (Nat.le_refl _) rfl (by first | assumption | rfl | omega) rfl (by first | assumption | rfl | omega) (Nat.le_of_ble_eq_true rfl) dX8_allOil_15 (fun v15 I15 h15 => ?_)
        obtain ⟨e15, rfl⟩ := h15
        refine g_iadd C (pc := 18) dX8_allOil_18 ?_
        refine g_istore_n C (pc := 19) dX8_allOil_19 (by decide) (fun v19 => [(2, .int v19), (3, .int (nI j)), (0, .ref s), (1, .ref r)]) (fun _ => rfl) (fun v19 ev19 => ?_)
        refine g_iinc C (pc := 20) (1) dX8_allOil_20 1 rfl (by decide) (by decide) (fun v20 => [(3, .int v20), (2, .int v19), (0, .ref s), (1, .ref r)]) (fun _ => rfl) (fun v20 ev20 => ?_)
        refine g_goto C (pc := 23) 4 dX8_allOil_23 (by decide) ?_
        refine g_lv C [0, 1, 2, 3] rfl (ih9 (j + 1)  _ _ ?_ ?_ ?_ (by omega))
        · subst_vars; exact nI_1 _
        · omega
        · subst_vars; simp only [smI]; rw [at6 (N := 6) 6 rfl (by decide) (by omega)]
  refine g_lv C [0, 1, 2, 3] rfl (L4 (_ + 1) 0  _ _ ?_ ?_ ?_ (by first | omega | exact Nat.lt_succ_self _))
  · assumption
  · omega
  · subst ev1; rfl
set_option maxHeartbeats 400000 in
theorem c_X8_settle (n : Nat) (ρ : Rho) (I : Mem) (s r np a sd : Nat) (x : Int32) (hn9 : n ≤ 999) (hst : St n ρ s) (hrf : Rf n ρ r) (hN : I r 6 = nI np) (hnp : np ≤ 6) (ha : a < np) (hsd : I (r + 1) a = nI sd) (hsd2 : sd < 2) : MV yX8_settle cX8_settle 5 none 1 [.ref s, .ref r, .int (nI a), .int x] n ρ I (fun I1 => wr (wr I (s + 3) sd ((I (s + 3) sd &&& (bitO (I (s + 1) a) ^^^ (-1))) ||| bitO x)) (s + 1) a x = I1) := by
  refine MG.of (by decide +kernel) (Nat.le_of_ble_eq_true rfl) hn9 ?_
  intro κ C hR
  show G κ n ρ 0 [(0, .ref s), (1, .ref r), (2, .int (nI a)), (3, .int x)] [] I
  obtain ⟨hs0, hs1, hs2, hs3, hsn, hr0, hr1, hr2⟩ := id hst
  obtain ⟨hq0, hq1, hq2, hq3, hqn, ht0, ht1, ht2⟩ := id hrf
  refine g_aload_n C (pc := 0) dX8_settle_0 1 rfl ?_
  refine g_iload_n C (pc := 1) dX8_settle_1 2 rfl ?_
  refine g_callVI C (pc := 2) mf_X5_sideOf lk_RX8_31 (c_X5_sideOf n ρ _ _ _ hn9 (by first | assumption | rfl)) (by decide) (Nat.le_refl _) rfl (by first | assumption | rfl | omega) rfl (by first | assumption | rfl | omega) (Nat.le_of_ble_eq_true rfl) dX8_settle_2 (fun v2 I2 h2 => ?_)
  obtain ⟨e2, rfl⟩ := h2
  rw [e2, hN, at66 hnp (by omega), hsd]
  refine g_istore C (pc := 5) dX8_settle_5 (by decide) (fun v5 => [(4, .int v5), (0, .ref s), (1, .ref r), (2, .int (nI a)), (3, .int x)]) (fun _ => rfl) (fun v5 ev5 => ?_)
  subst ev5
  refine g_iload C (pc := 7) dX8_settle_7 0 rfl ?_
  refine g_callSI C (pc := 9) mf_X11_isSide lk_RX8_37 (c_X11_isSide n ρ _ _ hn9) (by decide) (Nat.le_refl _) rfl (Nat.le_of_ble_eq_true rfl) dX8_settle_9 (fun v9 I9 h9 => ?_)
  obtain ⟨e9, rfl⟩ := h9
  refine g_if_eq C (pc := 12) 24 dX8_settle_12 (by decide) (fun c12 => ?_) (fun c12 => ?_)
  · rw [e9, bI_0] at c12; exact absurd ⟨nI_pos' (by omega), nI_lt (b := 2) hsd2 (by decide)⟩ c12
  · refine g_iload_n C (pc := 15) dX8_settle_15 3 rfl ?_
    refine g_aload_n C (pc := 16) dX8_settle_16 1 rfl ?_
    refine g_getR C (pc := 17) fl_RX8_9 (by decide) (by first | assumption | rfl | omega) (by first | assumption | rfl | omega) (by first | assumption | rfl | omega) dX8_settle_17 ?_
    refine g_alen C (pc := 20) 6 (by first | assumption | rfl | omega) (by decide) (by first | assumption | rfl | omega) rfl dX8_settle_20 ?_
    refine g_icmp_lt C (pc := 21) 25 dX8_settle_21 (by decide) (fun c21 => ?_) (fun c21 => ?_)
    · refine g_aload_n C (pc := 25) dX8_settle_25 1 rfl ?_
      refine g_getR C (pc := 26) fl_RX8_18 (by decide) (by first | assumption | rfl | omega) (by first | assumption | rfl | omega) (by first | assumption | rfl | omega) dX8_settle_26 ?_
      refine g_iload C (pc := 29) dX8_settle_29 0 rfl ?_
      refine g_aload_n C (pc := 31) dX8_settle_31 1 rfl ?_
      refine g_getR C (pc := 32) fl_RX8_18 (by decide) (by first | assumption | rfl | omega) (by first | assumption | rfl | omega) (by first | assumption | rfl | omega) dX8_settle_32 ?_
      refine g_iload C (pc := 35) dX8_settle_35 0 rfl ?_
      refine g_iald C (pc := 37) (by first | assumption | rfl | omega) (by first | assumption | rfl | omega) (vp_in_nI (by omega) (by decide)) dX8_settle_37 ?_
      refine g_aload_n C (pc := 38) dX8_settle_38 1 rfl ?_
      refine g_getR C (pc := 39) fl_RX8_9 (by decide) (by first | assumption | rfl | omega) (by first | assumption | rfl | omega) (by first | assumption | rfl | omega) dX8_settle_39 ?_
      refine g_iload_n C (pc := 42) dX8_settle_42 3 rfl ?_
      refine g_iald C (pc := 43) (by first | assumption | rfl | omega) (by first | assumption | rfl | omega) (vp_in_nI (by omega) (by decide)) dX8_settle_43 ?_
      refine g_callSI C (pc := 44) mf_X5_bitOf lk_RX8_41 (c_X5_bitOf n ρ _ _ hn9) (by decide) (Nat.le_refl _) rfl (Nat.le_of_ble_eq_true rfl) dX8_settle_44 (fun v44 I44 h44 => ?_)
      obtain ⟨e44, rfl⟩ := h44
      refine g_iconst C (pc := 47) (-1) dX8_settle_47 (by decide) ?_
      refine g_ixor C (pc := 48) dX8_settle_48 ?_
      refine g_iand C (pc := 49) dX8_settle_49 ?_
      refine g_iload_n C (pc := 50) dX8_settle_50 4 rfl ?_
      refine g_callSI C (pc := 51) mf_X5_bitOf lk_RX8_41 (c_X5_bitOf n ρ _ _ hn9) (by decide) (Nat.le_refl _) rfl (Nat.le_of_ble_eq_true rfl) dX8_settle_51 (fun v51 I51 h51 => ?_)
      obtain ⟨e51, rfl⟩ := h51
      refine g_ior C (pc := 54) dX8_settle_54 ?_
      refine g_iast C (pc := 55) (by first | assumption | rfl | omega) (by first | assumption | rfl | omega) hn9 (vp_in_nI (by omega) (by decide)) dX8_settle_55 ?_
      refine g_aload_n C (pc := 56) dX8_settle_56 1 rfl ?_
      refine g_getR C (pc := 57) fl_RX8_9 (by decide) (by first | assumption | rfl | omega) (by first | assumption | rfl | omega) (by first | assumption | rfl | omega) dX8_settle_57 ?_
      refine g_iload_n C (pc := 60) dX8_settle_60 3 rfl ?_
      refine g_iload_n C (pc := 61) dX8_settle_61 4 rfl ?_
      refine g_iast C (pc := 62) (by first | assumption | rfl | omega) (by first | assumption | rfl | omega) hn9 (vp_in_nI (by omega) (by decide)) dX8_settle_62 ?_
      refine g_vret C hR (pc := 63) rfl dX8_settle_63 ?_
      refine ⟨rfl, rfl, ?_⟩
      rw [nI_clamp (by omega), nI_clamp (by omega)] at *
      subst_vars
      rfl
    · exact absurd c21 (Int32.not_le.mpr (nI_lt (b := 6) (by omega) (by decide)))
set_option maxHeartbeats 400000 in
theorem c_X5_nextSquare (n : Nat) (ρ : Rho) (I : Mem) (r wd : Nat) (F : RT) (a : Option Nat) (hn9 : n ≤ 999) (hrf : Rf n ρ r) (hrr : RR I r F) (hrw : RW F) (ha : ∀ q, a = some q → q < 25) (hwd : wd < 5) : MI yX5_nextSquare cX5_nextSquare 4 (some .int) 0 [.ref r, .int (oI a), .int (nI wd)] n ρ I (fun v I1 => v = oI (nxtO F a wd) ∧ I = I1) := by
  refine MG.of (by decide +kernel) (Nat.le_of_ble_eq_true rfl) hn9 ?_
  intro κ C hR
  show G κ n ρ 0 [(0, .ref r), (1, .int (oI a)), (2, .int (nI wd))] [] I
  obtain ⟨hq0, hq1, hq2, hq3, hqn, ht0, ht1, ht2⟩ := id hrf
  have hW := hrr.1
  have hH := hrr.2.1
  have hw5 := hrw.2.1
  have hw2 := hrw.1
  have hh5 := hrw.2.2.2.1
  have hm25 : rW F * rH F ≤ 5 * 5 := Nat.mul_le_mul hw5 hh5
  refine g_aload_n C (pc := 0) dX5_nextSquare_0 0 rfl ?_
  refine g_getI C (pc := 1) fl_RX5_21 (by decide) (by first | assumption | rfl | omega) (by first | assumption | rfl | omega) dX5_nextSquare_1 ?_
  refine g_aload_n C (pc := 4) dX5_nextSquare_4 0 rfl ?_
  refine g_getI C (pc := 5) fl_RX5_25 (by decide) (by first | assumption | rfl | omega) (by first | assumption | rfl | omega) dX5_nextSquare_5 ?_
  refine g_imul C (pc := 8) dX5_nextSquare_8 ?_
  rw [hW, hH, pk_mul]
  refine g_istore_n C (pc := 9) dX5_nextSquare_9 (by decide) (fun v9 => [(3, .int v9), (0, .ref r), (1, .int (oI a)), (2, .int (nI wd))]) (fun _ => rfl) (fun v9 ev9 => ?_)
  subst ev9
  refine g_iload_n C (pc := 10) dX5_nextSquare_10 2 rfl ?_
  refine g_if_lt C (pc := 11) 27 dX5_nextSquare_11 (by decide) (fun c11 => ?_) (fun c11 => ?_)
  · have := (oI_neg ha).mp c11
    subst this
    refine g_bipush C (pc := 27) (-4) dX5_nextSquare_27 (by decide) ?_
    refine g_iret C hR (pc := 29) rfl dX5_nextSquare_29 ?_
    refine ⟨rfl, _, rfl, ?_⟩
    refine ⟨?_, rfl⟩
    first | rfl | (simp only [nxtO, Option.bind, nxt]; rw [if_pos (by omega)]; rfl)
  · obtain ⟨q, rfl, hq⟩ : ∃ q, a = some q ∧ q < 25 := by
      cases a with
      | none => exact absurd c11 (by decide)
      | some q => exact ⟨q, rfl, ha q rfl⟩
    refine g_iload_n C (pc := 14) dX5_nextSquare_14 2 rfl ?_
    refine g_iload_n C (pc := 15) dX5_nextSquare_15 0 rfl ?_
    refine g_icmp_ge C (pc := 16) 27 dX5_nextSquare_16 (by decide) (fun c16 => ?_) (fun c16 => ?_)
    · rw [oI, nI_leI (by omega) (by omega)] at c16
      refine g_bipush C (pc := 27) (-4) dX5_nextSquare_27 (by decide) ?_
      refine g_iret C hR (pc := 29) rfl dX5_nextSquare_29 ?_
      refine ⟨rfl, _, rfl, ?_⟩
      refine ⟨?_, rfl⟩
      first | rfl | (simp only [nxtO, Option.bind, nxt]; rw [if_pos (by omega)]; rfl)
    · rw [oI, nI_ltI (by omega) (by omega)] at c16
      refine g_aload_n C (pc := 19) dX5_nextSquare_19 1 rfl ?_
      refine g_getI C (pc := 20) fl_RX5_21 (by decide) (by first | assumption | rfl | omega) (by first | assumption | rfl | omega) dX5_nextSquare_20 ?_
      refine g_iconst C (pc := 23) 1 dX5_nextSquare_23 (by decide) ?_
      refine g_icmp_ge C (pc := 24) 30 dX5_nextSquare_24 (by decide) (fun c24 => ?_) (fun c24 => ?_)
      · rw [hW, show (1 : Int32) = nI 1 from rfl, nI_leI (by decide) (by omega)] at c24
        refine g_iload_n C (pc := 30) dX5_nextSquare_30 3 rfl ?_
        refine g_tsw C (pc := 31) dX5_nextSquare_31 (by decide) (by decide) (by decide) (by decide) (swK_cons (fun c31_0 => ?_) (swK_cons (fun c31_1 => ?_) (swK_cons (fun c31_2 => ?_) (swK_cons (fun c31_3 => ?_) swK_nil)))) (fun c31_d => ?_)
        · show G κ n ρ 60 _ _ _
          rw [nI_eq (by omega) (by decide)] at c31_0
          subst c31_0
          refine g_iload_n C (pc := 60) dX5_nextSquare_60 2 rfl ?_
          refine g_aload_n C (pc := 61) dX5_nextSquare_61 1 rfl ?_
          refine g_getI C (pc := 62) fl_RX5_21 (by decide) (by first | assumption | rfl | omega) (by first | assumption | rfl | omega) dX5_nextSquare_62 ?_
          refine g_icmp_lt C (pc := 65) 77 dX5_nextSquare_65 (by decide) (fun c65 => ?_) (fun c65 => ?_)
          · rw [hW, oI, nI_ltI (by omega) (by omega)] at c65
            refine g_bipush C (pc := 77) (-4) dX5_nextSquare_77 (by decide) ?_
            refine g_iret C hR (pc := 79) rfl dX5_nextSquare_79 ?_
            refine ⟨rfl, _, rfl, ?_⟩
            refine ⟨?_, rfl⟩
            simp only [nxtO, Option.bind, nxt]
            repeat (first | rw [if_pos (by first | exact trivial | omega)] | rw [if_neg (by first | exact not_false | omega)])
            all_goals (try simp only [oI])
            all_goals (try rw [hW])
            all_goals first | rfl | exact nI_1 _ | exact nI_add _ _ | exact pk_sub (by omega) | exact pk_sub (b := 1) (by have := Nat.mod_le q (rW F); omega)
          · rw [hW, oI, nI_leI (by omega) (by omega)] at c65
            refine g_iload_n C (pc := 68) dX5_nextSquare_68 2 rfl ?_
            refine g_aload_n C (pc := 69) dX5_nextSquare_69 1 rfl ?_
            refine g_getI C (pc := 70) fl_RX5_21 (by decide) (by first | assumption | rfl | omega) (by first | assumption | rfl | omega) dX5_nextSquare_70 ?_
            refine g_isub C (pc := 73) dX5_nextSquare_73 ?_
            refine g_goto C (pc := 74) 79 dX5_nextSquare_74 (by decide) ?_
            refine g_iret C hR (pc := 79) rfl dX5_nextSquare_79 ?_
            refine ⟨rfl, _, rfl, ?_⟩
            refine ⟨?_, rfl⟩
            simp only [nxtO, Option.bind, nxt]
            repeat (first | rw [if_pos (by first | exact trivial | omega)] | rw [if_neg (by first | exact not_false | omega)])
            all_goals (try simp only [oI])
            all_goals (try rw [hW])
            all_goals first | rfl | exact nI_1 _ | exact nI_add _ _ | exact pk_sub (by omega) | exact pk_sub (b := 1) (by have := Nat.mod_le q (rW F); omega)
        · show G κ n ρ 80 _ _ _
          rw [nI_eq (by omega) (by decide)] at c31_1
          subst c31_1
          refine g_iload_n C (pc := 80) dX5_nextSquare_80 2 rfl ?_
          refine g_aload_n C (pc := 81) dX5_nextSquare_81 1 rfl ?_
          refine g_getI C (pc := 82) fl_RX5_21 (by decide) (by first | assumption | rfl | omega) (by first | assumption | rfl | omega) dX5_nextSquare_82 ?_
          refine g_irem C (pc := 85) dX5_nextSquare_85 (by rw [hW]; exact nI_ne0 (by omega) (by omega)) ?_
          refine g_aload_n C (pc := 86) dX5_nextSquare_86 1 rfl ?_
          refine g_getI C (pc := 87) fl_RX5_21 (by decide) (by first | assumption | rfl | omega) (by first | assumption | rfl | omega) dX5_nextSquare_87 ?_
          refine g_iconst C (pc := 90) 1 dX5_nextSquare_90 (by decide) ?_
          refine g_isub C (pc := 91) dX5_nextSquare_91 ?_
          refine g_icmp_ge C (pc := 92) 101 dX5_nextSquare_92 (by decide) (fun c92 => ?_) (fun c92 => ?_)
          · rw [hW, oI, pk_rem (by omega) (by omega) (by omega), show nI (rW F) - 1 = nI (rW F - 1) from pk_sub (b := 1) (by omega), nI_leI (by omega) (by have := Nat.mod_lt q (show 0 < rW F by omega); omega)] at c92
            refine g_bipush C (pc := 101) (-4) dX5_nextSquare_101 (by decide) ?_
            refine g_iret C hR (pc := 103) rfl dX5_nextSquare_103 ?_
            refine ⟨rfl, _, rfl, ?_⟩
            refine ⟨?_, rfl⟩
            simp only [nxtO, Option.bind, nxt]
            repeat (first | rw [if_pos (by first | exact trivial | omega)] | rw [if_neg (by first | exact not_false | omega)])
            all_goals (try simp only [oI])
            all_goals (try rw [hW])
            all_goals first | rfl | exact nI_1 _ | exact nI_add _ _ | exact pk_sub (by omega) | exact pk_sub (b := 1) (by have := Nat.mod_le q (rW F); omega)
          · rw [hW, oI, pk_rem (by omega) (by omega) (by omega), show nI (rW F) - 1 = nI (rW F - 1) from pk_sub (b := 1) (by omega), nI_ltI (by have := Nat.mod_lt q (show 0 < rW F by omega); omega) (by omega)] at c92
            refine g_iload_n C (pc := 95) dX5_nextSquare_95 2 rfl ?_
            refine g_iconst C (pc := 96) 1 dX5_nextSquare_96 (by decide) ?_
            refine g_iadd C (pc := 97) dX5_nextSquare_97 ?_
            refine g_goto C (pc := 98) 103 dX5_nextSquare_98 (by decide) ?_
            refine g_iret C hR (pc := 103) rfl dX5_nextSquare_103 ?_
            refine ⟨rfl, _, rfl, ?_⟩
            refine ⟨?_, rfl⟩
            simp only [nxtO, Option.bind, nxt]
            repeat (first | rw [if_pos (by first | exact trivial | omega)] | rw [if_neg (by first | exact not_false | omega)])
            all_goals (try simp only [oI])
            all_goals (try rw [hW])
            all_goals first | rfl | exact nI_1 _ | exact nI_add _ _ | exact pk_sub (by omega) | exact pk_sub (b := 1) (by have := Nat.mod_le q (rW F); omega)
        · show G κ n ρ 104 _ _ _
          rw [nI_eq (by omega) (by decide)] at c31_2
          subst c31_2
          refine g_iload_n C (pc := 104) dX5_nextSquare_104 2 rfl ?_
          refine g_aload_n C (pc := 105) dX5_nextSquare_105 1 rfl ?_
          refine g_getI C (pc := 106) fl_RX5_21 (by decide) (by first | assumption | rfl | omega) (by first | assumption | rfl | omega) dX5_nextSquare_106 ?_
          refine g_iadd C (pc := 109) dX5_nextSquare_109 ?_
          refine g_iload_n C (pc := 110) dX5_nextSquare_110 0 rfl ?_
          refine g_icmp_ge C (pc := 111) 123 dX5_nextSquare_111 (by decide) (fun c111 => ?_) (fun c111 => ?_)
          · rw [hW, oI, nI_add, nI_leI (by omega) (by omega)] at c111
            refine g_bipush C (pc := 123) (-4) dX5_nextSquare_123 (by decide) ?_
            refine g_iret C hR (pc := 125) rfl dX5_nextSquare_125 ?_
            refine ⟨rfl, _, rfl, ?_⟩
            refine ⟨?_, rfl⟩
            simp only [nxtO, Option.bind, nxt]
            repeat (first | rw [if_pos (by first | exact trivial | omega)] | rw [if_neg (by first | exact not_false | omega)])
            all_goals (try simp only [oI])
            all_goals (try rw [hW])
            all_goals first | rfl | exact nI_1 _ | exact nI_add _ _ | exact pk_sub (by omega) | exact pk_sub (b := 1) (by have := Nat.mod_le q (rW F); omega)
          · rw [hW, oI, nI_add, nI_ltI (by omega) (by omega)] at c111
            refine g_iload_n C (pc := 114) dX5_nextSquare_114 2 rfl ?_
            refine g_aload_n C (pc := 115) dX5_nextSquare_115 1 rfl ?_
            refine g_getI C (pc := 116) fl_RX5_21 (by decide) (by first | assumption | rfl | omega) (by first | assumption | rfl | omega) dX5_nextSquare_116 ?_
            refine g_iadd C (pc := 119) dX5_nextSquare_119 ?_
            refine g_goto C (pc := 120) 125 dX5_nextSquare_120 (by decide) ?_
            refine g_iret C hR (pc := 125) rfl dX5_nextSquare_125 ?_
            refine ⟨rfl, _, rfl, ?_⟩
            refine ⟨?_, rfl⟩
            simp only [nxtO, Option.bind, nxt]
            repeat (first | rw [if_pos (by first | exact trivial | omega)] | rw [if_neg (by first | exact not_false | omega)])
            all_goals (try simp only [oI])
            all_goals (try rw [hW])
            all_goals first | rfl | exact nI_1 _ | exact nI_add _ _ | exact pk_sub (by omega) | exact pk_sub (b := 1) (by have := Nat.mod_le q (rW F); omega)
        · show G κ n ρ 126 _ _ _
          rw [nI_eq (by omega) (by decide)] at c31_3
          subst c31_3
          refine g_iload_n C (pc := 126) dX5_nextSquare_126 2 rfl ?_
          refine g_aload_n C (pc := 127) dX5_nextSquare_127 1 rfl ?_
          refine g_getI C (pc := 128) fl_RX5_21 (by decide) (by first | assumption | rfl | omega) (by first | assumption | rfl | omega) dX5_nextSquare_128 ?_
          refine g_irem C (pc := 131) dX5_nextSquare_131 (by rw [hW]; exact nI_ne0 (by omega) (by omega)) ?_
          refine g_if_le C (pc := 132) 141 dX5_nextSquare_132 (by decide) (fun c132 => ?_) (fun c132 => ?_)
          · rw [hW, oI, pk_rem (by omega) (by omega) (by omega), show (0 : Int32) = nI 0 from rfl, nI_leI (by have := Nat.mod_lt q (show 0 < rW F by omega); omega) (by decide)] at c132
            refine g_bipush C (pc := 141) (-4) dX5_nextSquare_141 (by decide) ?_
            refine g_iret C hR (pc := 143) rfl dX5_nextSquare_143 ?_
            refine ⟨rfl, _, rfl, ?_⟩
            refine ⟨?_, rfl⟩
            simp only [nxtO, Option.bind, nxt]
            repeat (first | rw [if_pos (by first | exact trivial | omega)] | rw [if_neg (by first | exact not_false | omega)])
            all_goals (try simp only [oI])
            all_goals (try rw [hW])
            all_goals first | rfl | exact nI_1 _ | exact nI_add _ _ | exact pk_sub (by omega) | exact pk_sub (b := 1) (by have := Nat.mod_le q (rW F); omega)
          · rw [hW, oI, pk_rem (by omega) (by omega) (by omega), show (0 : Int32) = nI 0 from rfl, nI_ltI (by decide) (by have := Nat.mod_lt q (show 0 < rW F by omega); omega)] at c132
            refine g_iload_n C (pc := 135) dX5_nextSquare_135 2 rfl ?_
            refine g_iconst C (pc := 136) 1 dX5_nextSquare_136 (by decide) ?_
            refine g_isub C (pc := 137) dX5_nextSquare_137 ?_
            refine g_goto C (pc := 138) 143 dX5_nextSquare_138 (by decide) ?_
            refine g_iret C hR (pc := 143) rfl dX5_nextSquare_143 ?_
            refine ⟨rfl, _, rfl, ?_⟩
            refine ⟨?_, rfl⟩
            simp only [nxtO, Option.bind, nxt]
            repeat (first | rw [if_pos (by first | exact trivial | omega)] | rw [if_neg (by first | exact not_false | omega)])
            all_goals (try simp only [oI])
            all_goals (try rw [hW])
            all_goals first | rfl | exact nI_1 _ | exact nI_add _ _ | exact pk_sub (by omega) | exact pk_sub (b := 1) (by have := Nat.mod_le q (rW F); omega)
        · show G κ n ρ 144 _ _ _
          refine g_bipush C (pc := 144) (-4) dX5_nextSquare_144 (by decide) ?_
          refine g_iret C hR (pc := 146) rfl dX5_nextSquare_146 ?_
          refine ⟨rfl, _, rfl, ?_⟩
          refine ⟨?_, rfl⟩
          have : wd = 4 := by
            rcases c31_d with h | h
            · exact absurd h (nI_pos (by omega))
            · replace h : nI 4 ≤ nI wd := h; rw [nI_leI (by decide) (by omega)] at h; omega
          subst this
          simp only [nxtO, Option.bind, nxt]
          rw [if_neg (by omega), if_neg (by decide), if_neg (by decide), if_neg (by decide), if_neg (by decide)]; rfl
      · rw [hW, show (1 : Int32) = nI 1 from rfl, nI_ltI (by omega) (by decide)] at c24; omega
