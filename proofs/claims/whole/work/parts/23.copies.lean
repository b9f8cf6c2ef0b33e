set_option maxHeartbeats 400000 in
theorem c_X5_copyFrom (n : Nat) (ρ : Rho) (I : Mem) (r o : Nat) (hn9 : n ≤ 999) (hrf : Rf n ρ r) (hro : Rf n ρ o) (hdis : Dis o r) : MV yX5_copyFrom cX5_copyFrom 2 none 1 [.ref r, .ref o] n ρ I (fun I1 => (∀ k, k < 6 → I1 (r + 1) k = I (o + 1) k) ∧ (∀ k, k < 6 → I1 (r + 2) k = I (o + 2) k) ∧ (∀ k, k < 5 → I1 (r + 3) k = I (o + 3) k) ∧ (∀ k, 3 ≤ k → k < 7 → I1 r k = I o k) ∧ ∀ i, i ≠ r → i ≠ r + 1 → i ≠ r + 2 → i ≠ r + 3 → I1 i = I i) := by
  refine MG.of (by decide +kernel) (Nat.le_of_ble_eq_true rfl) hn9 ?_
  intro κ C hR
  show G κ n ρ 0 [(0, .ref r), (1, .ref o)] [] I
  obtain ⟨hq0, hq1, hq2, hq3, hqn, ht0, ht1, ht2⟩ := id hrf
  obtain ⟨os0, os1, os2, os3, osn, or0, or1, or2⟩ := id hro
  refine g_aload_n C (pc := 0) dX5_copyFrom_0 0 rfl ?_
  refine g_aload_n C (pc := 1) dX5_copyFrom_1 1 rfl ?_
  refine g_getI C (pc := 2) fl_RX5_21 (by decide) (by first | assumption | rfl | omega) (by first | assumption | rfl | omega) dX5_copyFrom_2 ?_
  refine g_putI C (pc := 5) fl_RX5_21 (by decide) fp_4_3 (Or.inl rfl) ⟨rfl, rfl⟩ (by first | assumption | rfl | omega) (by first | assumption | rfl | omega) hn9 dX5_copyFrom_5 ?_
  refine g_aload_n C (pc := 8) dX5_copyFrom_8 0 rfl ?_
  refine g_aload_n C (pc := 9) dX5_copyFrom_9 1 rfl ?_
  refine g_getI C (pc := 10) fl_RX5_25 (by decide) (by first | assumption | rfl | omega) (by first | assumption | rfl | omega) dX5_copyFrom_10 ?_
  refine g_putI C (pc := 13) fl_RX5_25 (by decide) fp_4_4 (Or.inl rfl) ⟨rfl, rfl⟩ (by first | assumption | rfl | omega) (by first | assumption | rfl | omega) hn9 dX5_copyFrom_13 ?_
  refine g_aload_n C (pc := 16) dX5_copyFrom_16 0 rfl ?_
  refine g_aload_n C (pc := 17) dX5_copyFrom_17 1 rfl ?_
  refine g_getI C (pc := 18) fl_RX5_28 (by decide) (by first | assumption | rfl | omega) (by first | assumption | rfl | omega) dX5_copyFrom_18 ?_
  refine g_putI C (pc := 21) fl_RX5_28 (by decide) fp_4_5 (Or.inl rfl) ⟨rfl, rfl⟩ (by first | assumption | rfl | omega) (by first | assumption | rfl | omega) hn9 dX5_copyFrom_21 ?_
  refine g_aload_n C (pc := 24) dX5_copyFrom_24 0 rfl ?_
  refine g_aload_n C (pc := 25) dX5_copyFrom_25 1 rfl ?_
  refine g_getI C (pc := 26) fl_RX5_31 (by decide) (by first | assumption | rfl | omega) (by first | assumption | rfl | omega) dX5_copyFrom_26 ?_
  refine g_putI C (pc := 29) fl_RX5_31 (by decide) fp_4_6 (Or.inl rfl) ⟨rfl, rfl⟩ (by first | assumption | rfl | omega) (by first | assumption | rfl | omega) hn9 dX5_copyFrom_29 ?_
  refine g_aload_n C (pc := 32) dX5_copyFrom_32 1 rfl ?_
  refine g_getR C (pc := 33) fl_RX5_9 (by decide) (by first | assumption | rfl | omega) (by first | assumption | rfl | omega) (by first | assumption | rfl | omega) dX5_copyFrom_33 ?_
  refine g_iconst C (pc := 36) 0 dX5_copyFrom_36 (by decide) ?_
  refine g_aload_n C (pc := 37) dX5_copyFrom_37 0 rfl ?_
  refine g_getR C (pc := 38) fl_RX5_9 (by decide) (by first | assumption | rfl | omega) (by first | assumption | rfl | omega) (by first | assumption | rfl | omega) dX5_copyFrom_38 ?_
  refine g_iconst C (pc := 41) 0 dX5_copyFrom_41 (by decide) ?_
  refine g_bipush C (pc := 42) 6 dX5_copyFrom_42 (by decide) ?_
  refine g_copy C (pc := 44) gl_RX5_34 gw_acn gw_acs gw_aci (by first | assumption | rfl | omega) (by first | assumption | rfl | omega) (by first | assumption | rfl | omega) (by first | assumption | rfl | omega) hn9 0 0 6 rfl rfl rfl (by decide) (by decide) (by decide) (by decide) (Nat.le_of_ble_eq_true rfl) (by decide) dX5_copyFrom_44 ?_
  refine g_aload_n C (pc := 47) dX5_copyFrom_47 1 rfl ?_
  refine g_getR C (pc := 48) fl_RX5_15 (by decide) (by first | assumption | rfl | omega) (by first | assumption | rfl | omega) (by first | assumption | rfl | omega) dX5_copyFrom_48 ?_
  refine g_iconst C (pc := 51) 0 dX5_copyFrom_51 (by decide) ?_
  refine g_aload_n C (pc := 52) dX5_copyFrom_52 0 rfl ?_
  refine g_getR C (pc := 53) fl_RX5_15 (by decide) (by first | assumption | rfl | omega) (by first | assumption | rfl | omega) (by first | assumption | rfl | omega) dX5_copyFrom_53 ?_
  refine g_iconst C (pc := 56) 0 dX5_copyFrom_56 (by decide) ?_
  refine g_bipush C (pc := 57) 6 dX5_copyFrom_57 (by decide) ?_
  refine g_copy C (pc := 59) gl_RX5_34 gw_acn gw_acs gw_aci (by first | assumption | rfl | omega) (by first | assumption | rfl | omega) (by first | assumption | rfl | omega) (by first | assumption | rfl | omega) hn9 0 0 6 rfl rfl rfl (by decide) (by decide) (by decide) (by decide) (Nat.le_of_ble_eq_true rfl) (by decide) dX5_copyFrom_59 ?_
  refine g_aload_n C (pc := 62) dX5_copyFrom_62 1 rfl ?_
  refine g_getR C (pc := 63) fl_RX5_18 (by decide) (by first | assumption | rfl | omega) (by first | assumption | rfl | omega) (by first | assumption | rfl | omega) dX5_copyFrom_63 ?_
  refine g_iconst C (pc := 66) 0 dX5_copyFrom_66 (by decide) ?_
  refine g_aload_n C (pc := 67) dX5_copyFrom_67 0 rfl ?_
  refine g_getR C (pc := 68) fl_RX5_18 (by decide) (by first | assumption | rfl | omega) (by first | assumption | rfl | omega) (by first | assumption | rfl | omega) dX5_copyFrom_68 ?_
  refine g_iconst C (pc := 71) 0 dX5_copyFrom_71 (by decide) ?_
  refine g_iconst C (pc := 72) 5 dX5_copyFrom_72 (by decide) ?_
  refine g_copy C (pc := 73) gl_RX5_34 gw_acn gw_acs gw_aci (by first | assumption | rfl | omega) (by first | assumption | rfl | omega) (by first | assumption | rfl | omega) (by first | assumption | rfl | omega) hn9 0 0 5 rfl rfl rfl (by decide) (by decide) (by decide) (by decide) (Nat.le_of_ble_eq_true rfl) (by decide) dX5_copyFrom_73 ?_
  refine g_vret C hR (pc := 76) rfl dX5_copyFrom_76 ?_
  refine ⟨rfl, rfl, ?_⟩
  have q : ∀ i k, i ≤ 3 → k ≤ 3 → o + i ≠ r + k := hdis
  have q00 : o ≠ r := q 0 0 (by decide) (by decide)
  have q0 : ∀ i, i ≤ 3 → o + i ≠ r := fun i hi => q i 0 hi (by decide)
  have q1 := q 1 1 (by decide) (by decide)
  have q2 := q 2 1 (by decide) (by decide)
  have q3 := q 2 2 (by decide) (by decide)
  have q4 := q 3 1 (by decide) (by decide)
  have q5 := q 3 2 (by decide) (by decide)
  refine ⟨fun k hk => ?_, fun k hk => ?_, fun k hk => ?_, fun k h3 hk => ?_, fun i h0 h1 h2 h3 => ?_⟩
  · rw [wrA_n (by omega), wrA_n (by omega), wrA_s, cpy0 hk]
    repeat rw [wr_n (q0 1 (by decide))]
  · rw [wrA_n (by omega), wrA_s, cpy0 hk, wrA_n q2]
    repeat rw [wr_n (q0 2 (by decide))]
  · rw [wrA_s, cpy0 hk, wrA_n q5, wrA_n q4]
    repeat rw [wr_n (q0 3 (by decide))]
  · rw [wrA_n (by omega), wrA_n (by omega), wrA_n (by omega)]
    have : k = 3 ∨ k = 4 ∨ k = 5 ∨ k = 6 := by omega
    rcases this with rfl | rfl | rfl | rfl
    · rw [wr_sn (by decide), wr_sn (by decide), wr_sn (by decide), wr_ss]
    · rw [wr_sn (by decide), wr_sn (by decide), wr_ss, wr_n q00]
    · rw [wr_sn (by decide), wr_ss, wr_n q00, wr_n q00]
    · rw [wr_ss, wr_n q00, wr_n q00, wr_n q00]
  · rw [wrA_n h3, wrA_n h2, wrA_n h1, wr_n h0, wr_n h0, wr_n h0, wr_n h0]
