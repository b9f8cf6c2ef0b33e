theorem c_X8_pieceOn (n : Nat) (ρ : Rho) (I : Mem) (s r np : Nat) (x : Int32) (hn9 : n ≤ 999) (hst : St n ρ s) (hrf : Rf n ρ r) (hN : I r 6 = nI np) (hnp : np ≤ 6) : MI yX8_pieceOn cX8_pieceOn 4 (some .int) 1 [.ref s, .ref r, .int x] n ρ I (fun v I1 => v = oI (findP (fun p => decide (I (s + 1) p = x)) np) ∧ I = I1) := by
  refine MG.of (by decide +kernel) (Nat.le_of_ble_eq_true rfl) hn9 ?_
  intro κ C hR
  show G κ n ρ 0 [(0, .ref s), (1, .ref r), (2, .int x)] [] I
  obtain ⟨hs0, hs1, hs2, hs3, hsn, hr0, hr1, hr2⟩ := id hst
  obtain ⟨hq0, hq1, hq2, hq3, hqn, ht0, ht1, ht2⟩ := id hrf
  refine g_iconst C (pc := 0) 0 dX8_pieceOn_0 (by decide) ?_
  refine g_istore_n C (pc := 1) dX8_pieceOn_1 (by decide) (fun v1 => [(3, .int v1), (0, .ref s), (1, .ref r), (2, .int x)]) (fun _ => rfl) (fun v1 ev1 => ?_)
  have L2 : ∀ (k9 : Nat) (j : Nat)  (w3 : Int32) (hw3 : w3 = nI j) (hj : j ≤ np) (hk : ∀ q, q < j → I (s + 1) q ≠ x), np - j < k9 → G κ n ρ 2 [(3, .int w3), (0, .ref s), (1, .ref r), (2, .int x)] [] I := by
    intro k9
    induction k9 with
    | zero => intro j w3 hw3 hj hk hm9; exact absurd hm9 (Nat.not_lt_zero _)
    | succ k9 ih9 =>
      intro j w3 hw3 hj hk hm9
      subst hw3
      refine g_iload_n C (pc := 2) dX8_pieceOn_2 0 rfl ?_
      refine g_aload_n C (pc := 3) dX8_pieceOn_3 2 rfl ?_
      refine g_getI C (pc := 4) fl_RX8_44 (by decide) (by first | assumption | rfl | omega) (by first | assumption | rfl | omega) dX8_pieceOn_4 ?_
      refine g_icmp_ge C (pc := 7) 27 dX8_pieceOn_7 (by decide) (fun c7 => ?_) (fun c7 => ?_)
      · rw [hN, nI_leI (by omega) (by omega)] at c7
        refine g_bipush C (pc := 27) (-4) dX8_pieceOn_27 (by decide) ?_
        refine g_iret C hR (pc := 29) rfl dX8_pieceOn_29 ?_
        refine ⟨rfl, _, rfl, ?_⟩
        rw [findP_none (fun q hq => by simpa using hk q (by omega))]; exact ⟨rfl, rfl⟩
      · rw [hN, nI_ltI (by omega) (by omega)] at c7
        refine g_aload_n C (pc := 10) dX8_pieceOn_10 1 rfl ?_
        refine g_iload_n C (pc := 11) dX8_pieceOn_11 0 rfl ?_
        refine g_callVI C (pc := 12) mf_X8_placeOf lk_RX8_47 (c_X8_placeOf n ρ _ _ _ hn9 (by first | assumption | rfl)) (by decide) (Nat.le_refl _) rfl (by first | assumption | rfl | omega) rfl (by first | assumption | rfl | omega) (Nat.le_of_ble_eq_true rfl) dX8_pieceOn_12 (fun v12 I12 h12 => ?_)
        obtain ⟨e12, rfl⟩ := h12
        refine g_iload_n C (pc := 15) dX8_pieceOn_15 3 rfl ?_
        refine g_icmp_ne C (pc := 16) 21 dX8_pieceOn_16 (by decide) (fun c16 => ?_) (fun c16 => ?_)
        · rw [e12, at6 (N := 6) 6 rfl (by decide) (by omega)] at c16
          refine g_iinc C (pc := 21) (1) dX8_pieceOn_21 0 rfl (by decide) (by decide) (fun v21 => [(3, .int v21), (0, .ref s), (1, .ref r), (2, .int x)]) (fun _ => rfl) (fun v21 ev21 => ?_)
          refine g_goto C (pc := 24) 2 dX8_pieceOn_24 (by decide) ?_
          refine g_lv C [0, 1, 2, 3] rfl (ih9 (j + 1)  _ ?_ ?_ ?_ (by omega))
          · subst_vars; exact nI_1 _
          · omega
          · intro q hq; rcases Nat.lt_or_ge q j with h | h
            · exact hk q h
            · have : q = j := by omega
              subst this; assumption
        · rw [e12, at6 (N := 6) 6 rfl (by decide) (by omega)] at c16
          refine g_iload_n C (pc := 19) dX8_pieceOn_19 0 rfl ?_
          refine g_iret C hR (pc := 20) rfl dX8_pieceOn_20 ?_
          refine ⟨rfl, _, rfl, ?_⟩
          rw [findP_some (by omega : j < np) (by simpa using c16) (fun q hq => by simpa using hk q hq)]; exact ⟨rfl, rfl⟩
  refine g_lv C [0, 1, 2, 3] rfl (L2 (_ + 1) 0  _ ?_ ?_ ?_ (by first | omega | exact Nat.lt_succ_self _))
  · assumption
  · omega
  · intro q hq; omega
