set_option maxHeartbeats 400000 in
theorem c_X8_kingOf (n : Nat) (ρ : Rho) (I : Mem) (s r np : Nat) (x : Int32) (hn9 : n ≤ 999) (hst : St n ρ s) (hrf : Rf n ρ r) (hN : I r 6 = nI np) (hnp : np ≤ 6) : MI yX8_kingOf cX8_kingOf 4 (some .int) 1 [.ref s, .ref r, .int x] n ρ I (fun v I1 => v = oI (findP (fun p => decide (I (r + 2) p = 0) && decide (I (r + 1) p = x)) np) ∧ I = I1) := by
  refine MG.of (by decide +kernel) (Nat.le_of_ble_eq_true rfl) hn9 ?_
  intro κ C hR
  show G κ n ρ 0 [(0, .ref s), (1, .ref r), (2, .int x)] [] I
  obtain ⟨hs0, hs1, hs2, hs3, hsn, hr0, hr1, hr2⟩ := id hst
  obtain ⟨hq0, hq1, hq2, hq3, hqn, ht0, ht1, ht2⟩ := id hrf
  refine g_iconst C (pc := 0) 0 dX8_kingOf_0 (by decide) ?_
  refine g_istore_n C (pc := 1) dX8_kingOf_1 (by decide) (fun v1 => [(3, .int v1), (0, .ref s), (1, .ref r), (2, .int x)]) (fun _ => rfl) (fun v1 ev1 => ?_)
  have L2 : ∀ (k9 : Nat) (j : Nat)  (wz3 : Int32) (hw3 : wz3 = nI j) (hj : j ≤ np) (hk : ∀ q, q < j → ¬ (I (r + 2) q = 0 ∧ I (r + 1) q = x)), np - j < k9 → G κ n ρ 2 [(3, .int wz3), (0, .ref s), (1, .ref r), (2, .int x)] [] I := by
    intro k9
    induction k9 with
    | zero => intro j wz3 hw3 hj hk hm9; exact absurd hm9 (Nat.not_lt_zero _)
    | succ k9 ih9 =>
      intro j wz3 hw3 hj hk hm9
      subst hw3
      refine g_iload_n C (pc := 2) dX8_kingOf_2 0 rfl ?_
      refine g_aload_n C (pc := 3) dX8_kingOf_3 2 rfl ?_
      refine g_getI C (pc := 4) fl_RX8_44 (by decide) (by first | assumption | rfl | omega) (by first | assumption | rfl | omega) dX8_kingOf_4 ?_
      refine g_icmp_ge C (pc := 7) 35 dX8_kingOf_7 (by decide) (fun c7 => ?_) (fun c7 => ?_)
      · rw [hN, nI_leI (by omega) (by omega)] at c7
        refine g_bipush C (pc := 35) (-4) dX8_kingOf_35 (by decide) ?_
        refine g_iret C hR (pc := 37) rfl dX8_kingOf_37 ?_
        refine ⟨rfl, _, rfl, ?_⟩
        rw [findP_none (fun q hq => by have := hk q (by omega); simpa using this)]; exact ⟨rfl, rfl⟩
      · rw [hN, nI_ltI (by omega) (by omega)] at c7
        refine g_aload_n C (pc := 10) dX8_kingOf_10 2 rfl ?_
        refine g_iload_n C (pc := 11) dX8_kingOf_11 0 rfl ?_
        refine g_callVI C (pc := 12) mf_X5_kindOf lk_RX8_50 (c_X5_kindOf n ρ _ _ _ hn9 (by first | assumption | rfl)) (by decide) (Nat.le_refl _) rfl (by first | assumption | rfl | omega) rfl (by first | assumption | rfl | omega) (Nat.le_of_ble_eq_true rfl) dX8_kingOf_12 (fun v12 I12 h12 => ?_)
        obtain ⟨e12, rfl⟩ := h12
        refine g_if_ne C (pc := 15) 29 dX8_kingOf_15 (by decide) (fun c15 => ?_) (fun c15 => ?_)
        · rw [e12, hN, at66 hnp (by omega)] at c15
          refine g_iinc C (pc := 29) (1) dX8_kingOf_29 0 rfl (by decide) (by decide) (fun v29 => [(3, .int v29), (0, .ref s), (1, .ref r), (2, .int x)]) (fun _ => rfl) (fun v29 ev29 => ?_)
          refine g_goto C (pc := 32) 2 dX8_kingOf_32 (by decide) ?_
          refine g_lv C [0, 1, 2, 3] rfl (ih9 (j + 1)  _ ?_ ?_ ?_ (by omega))
          · subst_vars; exact nI_1 _
          · omega
          · intro q hq; rcases Nat.lt_or_ge q j with h | h
            · exact hk q h
            · have : q = j := by omega
              subst this; simp_all
        · rw [e12, hN, at66 hnp (by omega)] at c15
          refine g_aload_n C (pc := 18) dX8_kingOf_18 2 rfl ?_
          refine g_iload_n C (pc := 19) dX8_kingOf_19 0 rfl ?_
          refine g_callVI C (pc := 20) mf_X5_sideOf lk_RX8_31 (c_X5_sideOf n ρ _ _ _ hn9 (by first | assumption | rfl)) (by decide) (Nat.le_refl _) rfl (by first | assumption | rfl | omega) rfl (by first | assumption | rfl | omega) (Nat.le_of_ble_eq_true rfl) dX8_kingOf_20 (fun v20 I20 h20 => ?_)
          obtain ⟨e20, rfl⟩ := h20
          refine g_iload_n C (pc := 23) dX8_kingOf_23 3 rfl ?_
          refine g_icmp_ne C (pc := 24) 29 dX8_kingOf_24 (by decide) (fun c24 => ?_) (fun c24 => ?_)
          · rw [e20, hN, at66 hnp (by omega)] at c24
            refine g_iinc C (pc := 29) (1) dX8_kingOf_29 0 rfl (by decide) (by decide) (fun v29 => [(3, .int v29), (0, .ref s), (1, .ref r), (2, .int x)]) (fun _ => rfl) (fun v29 ev29 => ?_)
            refine g_goto C (pc := 32) 2 dX8_kingOf_32 (by decide) ?_
            refine g_lv C [0, 1, 2, 3] rfl (ih9 (j + 1)  _ ?_ ?_ ?_ (by omega))
            · subst_vars; exact nI_1 _
            · omega
            · intro q hq; rcases Nat.lt_or_ge q j with h | h
              · exact hk q h
              · have : q = j := by omega
                subst this; simp_all
          · rw [e20, hN, at66 hnp (by omega)] at c24
            refine g_iload_n C (pc := 27) dX8_kingOf_27 0 rfl ?_
            refine g_iret C hR (pc := 28) rfl dX8_kingOf_28 ?_
            refine ⟨rfl, _, rfl, ?_⟩
            rw [findP_some (by omega : j < np) (by simp_all) (fun q hq => by have := hk q hq; simpa using this)]; exact ⟨rfl, rfl⟩
  refine g_lv C [0, 1, 2, 3] rfl (L2 (_ + 1) 0  _ ?_ ?_ ?_ (by first | omega | exact Nat.lt_succ_self _))
  · assumption
  · omega
  · intro q hq; omega
