def GaS (n : Nat) (ρ : Rho) (g : Nat) : Prop := shp g = (12, 8) ∧ ρ g 0 = some (g + 1) ∧ ρ g 1 = some (g + 5) ∧ ρ g 2 = some (g + 9) ∧ ρ g 3 = some (g + 10) ∧ ρ g 4 = some (g + 11) ∧ shp (g + 9) = (0, 8) ∧ shp (g + 10) = (0, 8) ∧ shp (g + 11) = (0, 3) ∧ g + 11 < n ∧ Rf n ρ (g + 1) ∧ St n ρ (g + 5)
set_option maxHeartbeats 400000 in
theorem c_X5_copyFrom (n : Nat) (ρ : Rho) (I : Mem) (r o : Nat) (hn9 : n ≤ 999) (hrf : Rf n ρ r) (hro : Rf n ρ o) (hdis : Dis o r) : MV yX5_copyFrom cX5_copyFrom 2 none 1 [.ref r, .ref o] n ρ I (fun I1 => (∀ k, k < 6 → I1 (r + 1) k = I (o + 1) k) ∧ (∀ k, k < 6 → I1 (r + 2) k = I (o + 2) k) ∧ (∀ k, k < 5 → I1 (r + 3) k = I (o + 3) k) ∧ (∀ k, 3 ≤ k → k < 7 → I1 r k = I o k) ∧ ∀ i, i ≠ r → i ≠ r + 1 → i ≠ r + 2 → i ≠ r + 3 → I1 i = I i) := by
  refine MG.of (by decide +kernel) (Nat.le_of_ble_eq_true rfl) hn9 ?_
  intro κ C hR
  show G κ n ρ 0 [(0, .ref r), (1, .ref o)] [] I
  obtain ⟨hq0, hq1, hq2, hq3, hqn, ht0, ht1, ht2⟩ := id hrf
  obtain ⟨os0, os1, os2, os3, osn, or0, or1, or2⟩ := id hro
  refine g_aload_n C (pc := 0) dX5_copyFrom_0 0 rfl ?_
  refine g_aload_n C (pc := 1) dX5_copyFrom_1 1 rfl ?_
  refine g_getI C (pc := 2) fl_RX5_21 (by decide) (by first | assumption | rfl | omega) (by first | assumption | rfl | omega) dX5_copyFrom_2 ?_
  refine g_putI C (pc := 5) fl_RX5_21 (by decide) fp_4_3 (Or.inl rfl) ⟨rfl, rfl⟩ (by first | assumption | rfl | omega) (by first | assumption | rfl | omega) hn9 dX5_copyFrom_5 ?_
  refine g_aload_n C (pc := 8) dX5_copyFrom_8 0 rfl ?_
  refine g_aload_n C (pc := 9) dX5_copyFrom_9 1 rfl ?_
  refine g_getI C (pc := 10) fl_RX5_25 (by decide) (by first | assumption | rfl | omega) (by first | assumption | rfl | omega) dX5_copyFrom_10 ?_
  refine g_putI C (pc := 13) fl_RX5_25 (by decide) fp_4_4 (Or.inl rfl) ⟨rfl, rfl⟩ (by first | assumption | rfl | omega) (by first | assumption | rfl | omega) hn9 dX5_copyFrom_13 ?_
  refine g_aload_n C (pc := 16) dX5_copyFrom_16 0 rfl ?_
  refine g_aload_n C (pc := 17) dX5_copyFrom_17 1 rfl ?_
  refine g_getI C (pc := 18) fl_RX5_28 (by decide) (by first | assumption | rfl | omega) (by first | assumption | rfl | omega) dX5_copyFrom_18 ?_
  refine g_putI C (pc := 21) fl_RX5_28 (by decide) fp_4_5 (Or.inl rfl) ⟨rfl, rfl⟩ (by first | assumption | rfl | omega) (by first | assumption | rfl | omega) hn9 dX5_copyFrom_21 ?_
  refine g_aload_n C (pc := 24) dX5_copyFrom_24 0 rfl ?_
  refine g_aload_n C (pc := 25) dX5_copyFrom_25 1 rfl ?_
  refine g_getI C (pc := 26) fl_RX5_31 (by decide) (by first | assumption | rfl | omega) (by first | assumption | rfl | omega) dX5_copyFrom_26 ?_
  refine g_putI C (pc := 29) fl_RX5_31 (by decide) fp_4_6 (Or.inl rfl) ⟨rfl, rfl⟩ (by first | assumption | rfl | omega) (by first | assumption | rfl | omega) hn9 dX5_copyFrom_29 ?_
  refine g_aload_n C (pc := 32) dX5_copyFrom_32 1 rfl ?_
  refine g_getR C (pc := 33) fl_RX5_9 (by decide) (by first | assumption | rfl | omega) (by first | assumption | rfl | omega) (by first | assumption | rfl | omega) dX5_copyFrom_33 ?_
  refine g_iconst C (pc := 36) 0 dX5_copyFrom_36 (by decide) ?_
  refine g_aload_n C (pc := 37) dX5_copyFrom_37 0 rfl ?_
  refine g_getR C (pc := 38) fl_RX5_9 (by decide) (by first | assumption | rfl | omega) (by first | assumption | rfl | omega) (by first | assumption | rfl | omega) dX5_copyFrom_38 ?_
  refine g_iconst C (pc := 41) 0 dX5_copyFrom_41 (by decide) ?_
  refine g_bipush C (pc := 42) 6 dX5_copyFrom_42 (by decide) ?_
  refine g_copy C (pc := 44) gl_RX5_34 gw_acn gw_acs gw_aci (by first | assumption | rfl | omega) (by first | assumption | rfl | omega) (by first | assumption | rfl | omega) (by first | assumption | rfl | omega) hn9 0 0 6 rfl rfl rfl (by decide) (by decide) (by decide) (by decide) (Nat.le_of_ble_eq_true rfl) (by decide) dX5_copyFrom_44 ?_
  refine g_aload_n C (pc := 47) dX5_copyFrom_47 1 rfl ?_
  refine g_getR C (pc := 48) fl_RX5_15 (by decide) (by first | assumption | rfl | omega) (by first | assumption | rfl | omega) (by first | assumption | rfl | omega) dX5_copyFrom_48 ?_
  refine g_iconst C (pc := 51) 0 dX5_copyFrom_51 (by decide) ?_
  refine g_aload_n C (pc := 52) dX5_copyFrom_52 0 rfl ?_
  refine g_getR C (pc := 53) fl_RX5_15 (by decide) (by first | assumption | rfl | omega) (by first | assumption | rfl | omega) (by first | assumption | rfl | omega) dX5_copyFrom_53 ?_
  refine g_iconst C (pc := 56) 0 dX5_copyFrom_56 (by decide) ?_
  refine g_bipush C (pc := 57) 6 dX5_copyFrom_57 (by decide) ?_
  refine g_copy C (pc := 59) gl_RX5_34 gw_acn gw_acs gw_aci (by first | assumption | rfl | omega) (by first | assumption | rfl | omega) (by first | assumption | rfl | omega) (by first | assumption | rfl | omega) hn9 0 0 6 rfl rfl rfl (by decide) (by decide) (by decide) (by decide) (Nat.le_of_ble_eq_true rfl) (by decide) dX5_copyFrom_59 ?_
  refine g_aload_n C (pc := 62) dX5_copyFrom_62 1 rfl ?_
  refine g_getR C (pc := 63) fl_RX5_18 (by decide) (by first | assumption | rfl | omega) (by first | assumption | rfl | omega) (by first | assumption | rfl | omega) dX5_copyFrom_63 ?_
  refine g_iconst C (pc := 66) 0 dX5_copyFrom_66 (by decide) ?_
  refine g_aload_n C (pc := 67) dX5_copyFrom_67 0 rfl ?_
  refine g_getR C (pc := 68) fl_RX5_18 (by decide) (by first | assumption | rfl | omega) (by first | assumption | rfl | omega) (by first | assumption | rfl | omega) dX5_copyFrom_68 ?_
  refine g_iconst C (pc := 71) 0 dX5_copyFrom_71 (by decide) ?_
  refine g_iconst C (pc := 72) 5 dX5_copyFrom_72 (by decide) ?_
  refine g_copy C (pc := 73) gl_RX5_34 gw_acn gw_acs gw_aci (by first | assumption | rfl | omega) (by first | assumption | rfl | omega) (by first | assumption | rfl | omega) (by first | assumption | rfl | omega) hn9 0 0 5 rfl rfl rfl (by decide) (by decide) (by decide) (by decide) (Nat.le_of_ble_eq_true rfl) (by decide) dX5_copyFrom_73 ?_
  refine g_vret C hR (pc := 76) rfl dX5_copyFrom_76 ?_
  refine ⟨rfl, rfl, ?_⟩
  have q : ∀ i k, i ≤ 3 → k ≤ 3 → o + i ≠ r + k := hdis
  have q00 : o ≠ r := q 0 0 (by decide) (by decide)
  have q0 : ∀ i, i ≤ 3 → o + i ≠ r := fun i hi => q i 0 hi (by decide)
  have q1 := q 1 1 (by decide) (by decide)
  have q2 := q 2 1 (by decide) (by decide)
  have q3 := q 2 2 (by decide) (by decide)
  have q4 := q 3 1 (by decide) (by decide)
  have q5 := q 3 2 (by decide) (by decide)
  refine ⟨fun k hk => ?_, fun k hk => ?_, fun k hk => ?_, fun k h3 hk => ?_, fun i h0 h1 h2 h3 => ?_⟩
  · rw [wrA_n (by omega), wrA_n (by omega), wrA_s, cpy0 hk]
    repeat rw [wr_n (q0 1 (by decide))]
  · rw [wrA_n (by omega), wrA_s, cpy0 hk, wrA_n q2]
    repeat rw [wr_n (q0 2 (by decide))]
  · rw [wrA_s, cpy0 hk, wrA_n q5, wrA_n q4]
    repeat rw [wr_n (q0 3 (by decide))]
  · rw [wrA_n (by omega), wrA_n (by omega), wrA_n (by omega)]
    have : k = 3 ∨ k = 4 ∨ k = 5 ∨ k = 6 := by omega
    rcases this with rfl | rfl | rfl | rfl
    · rw [wr_sn (by decide), wr_sn (by decide), wr_sn (by decide), wr_ss]
    · rw [wr_sn (by decide), wr_sn (by decide), wr_ss, wr_n q00]
    · rw [wr_sn (by decide), wr_ss, wr_n q00, wr_n q00]
    · rw [wr_ss, wr_n q00, wr_n q00, wr_n q00]
  · rw [wrA_n h3, wrA_n h2, wrA_n h1, wr_n h0, wr_n h0, wr_n h0, wr_n h0]
set_option maxHeartbeats 400000 in
theorem c_X8_clear (n : Nat) (ρ : Rho) (I : Mem) (s : Nat) (hn9 : n ≤ 999) (hst : St n ρ s) : MV yX8_clear cX8_clear 2 none 0 [.ref s] n ρ I (fun I1 => (∀ k, k < 6 → I1 (s + 1) k = -4 ∧ I1 (s + 2) k = 0) ∧ (∀ k, k < 2 → I1 (s + 3) k = 0) ∧ I1 s 3 = 0 ∧ ∀ i, i ≠ s → i ≠ s + 1 → i ≠ s + 2 → i ≠ s + 3 → I1 i = I i) := by
  refine MG.of (by decide +kernel) (Nat.le_of_ble_eq_true rfl) hn9 ?_
  intro κ C hR
  show G κ n ρ 0 [(0, .ref s)] [] I
  obtain ⟨hs0, hs1, hs2, hs3, hsn, hr0, hr1, hr2⟩ := id hst
  refine g_iconst C (pc := 0) 0 dX8_clear_0 (by decide) ?_
  refine g_istore_n C (pc := 1) dX8_clear_1 (by decide) (fun v1 => [(1, .int v1), (0, .ref s)]) (fun _ => rfl) (fun v1 ev1 => ?_)
  have L2 : ∀ (k9 : Nat) (j : Nat) (wz1 : Int32) (J : Mem) (hw1 : wz1 = nI j) (hj : j ≤ 6) (hA : ∀ k, k < j → J (s + 1) k = -4 ∧ J (s + 2) k = 0) (hF : ∀ i, i ≠ s + 1 → i ≠ s + 2 → J i = I i), 6 - j < k9 → G κ n ρ 2 [(1, .int wz1), (0, .ref s)] [] J := by
    intro k9
    induction k9 with
    | zero => intro j wz1 J hw1 hj hA hF hm2; exact absurd hm2 (Nat.not_lt_zero _)
    | succ k9 ih2 =>
      intro j wz1 J hw1 hj hA hF hm2
      subst hw1
      refine g_iload_n C (pc := 2) dX8_clear_2 0 rfl ?_
      refine g_bipush C (pc := 3) 6 dX8_clear_3 (by decide) ?_
      refine g_icmp_ge C (pc := 5) 29 dX8_clear_5 (by decide) (fun c5 => ?_) (fun c5 => ?_)
      · replace c5 := (nI_leI (a := 6) (b := j) (by decide) (by omega)).mp c5
        refine g_iconst C (pc := 29) 0 dX8_clear_29 (by decide) ?_
        refine g_istore_n C (pc := 30) dX8_clear_30 (by decide) (fun v30 => [(1, .int v30), (0, .ref s)]) (fun _ => rfl) (fun v30 ev30 => ?_)
        have L31 : ∀ (k9 : Nat) (u : Nat) (wz1 : Int32) (J2 : Mem) (hw1 : wz1 = nI u) (hu : u ≤ 2) (hB : ∀ k, k < u → J2 (s + 3) k = 0) (hG : ∀ i, i ≠ s + 3 → J2 i = J i), 2 - u < k9 → G κ n ρ 31 [(1, .int wz1), (0, .ref s)] [] J2 := by
          intro k9
          induction k9 with
          | zero => intro u wz1 J2 hw1 hu hB hG hm31; exact absurd hm31 (Nat.not_lt_zero _)
          | succ k9 ih31 =>
            intro u wz1 J2 hw1 hu hB hG hm31
            subst hw1
            refine g_iload_n C (pc := 31) dX8_clear_31 0 rfl ?_
            refine g_iconst C (pc := 32) 2 dX8_clear_32 (by decide) ?_
            refine g_icmp_ge C (pc := 33) 49 dX8_clear_33 (by decide) (fun c33 => ?_) (fun c33 => ?_)
            · replace c33 := (nI_leI (a := 2) (b := u) (by decide) (by omega)).mp c33
              refine g_aload_n C (pc := 49) dX8_clear_49 1 rfl ?_
              refine g_iconst C (pc := 50) 0 dX8_clear_50 (by decide) ?_
              refine g_putI C (pc := 51) fl_RX8_21 (by decide) fp_7_3 (Or.inl rfl) ⟨rfl, rfl⟩ (by first | assumption | rfl | omega) (by first | assumption | rfl | omega) hn9 dX8_clear_51 ?_
              refine g_vret C hR (pc := 54) rfl dX8_clear_54 ?_
              refine ⟨rfl, rfl, ?_⟩
              refine ⟨fun k hk => ?_, fun k hk => ?_, wr_ss, fun i h0 h1 h2 h3 => ?_⟩
              · rw [wr_n (by omega), wr_n (by omega), hG _ (by omega), hG _ (by omega)]; exact hA k (by omega)
              · rw [wr_n (by omega)]; exact hB k (by omega)
              · rw [wr_n h0, hG i h3]; exact hF i h1 h2
            · replace c33 := (nI_ltI (a := u) (b := 2) (by omega) (by decide)).mp c33
              refine g_aload_n C (pc := 36) dX8_clear_36 1 rfl ?_
              refine g_getR C (pc := 37) fl_RX8_18 (by decide) (by first | assumption | rfl | omega) (by first | assumption | rfl | omega) (by first | assumption | rfl | omega) dX8_clear_37 ?_
              refine g_iload_n C (pc := 40) dX8_clear_40 0 rfl ?_
              refine g_iconst C (pc := 41) 0 dX8_clear_41 (by decide) ?_
              refine g_iast C (pc := 42) (by first | assumption | rfl | omega) (by first | assumption | rfl | omega) hn9 (vp_in_nI (by omega) (by decide)) dX8_clear_42 ?_
              refine g_iinc C (pc := 43) (1) dX8_clear_43 0 rfl (by decide) (by decide) (fun v43 => [(1, .int v43), (0, .ref s)]) (fun _ => rfl) (fun v43 ev43 => ?_)
              refine g_goto C (pc := 46) 31 dX8_clear_46 (by decide) ?_
              refine g_lv C [0, 1] rfl (ih31 (u + 1) _ _ ?_ ?_ ?_ ?_ (by omega))
              · subst_vars; exact nI_1 _
              · omega
              · intro k hk
                rw [nI_clamp (by omega)]
                rcases Nat.lt_or_ge k u with h1 | h1
                · rw [wr_sn (by omega)]; exact hB k h1
                · have : k = u := by omega
                  subst this
                  rw [wr_ss]
              · intro i h1; rw [wr_n h1]; exact hG i h1
        refine g_lv C [0, 1] rfl (L31 (_ + 1) 0 _ _ ?_ ?_ ?_ ?_ (by first | omega | exact Nat.lt_succ_self _))
        · subst_vars; rfl
        · exact Nat.zero_le _
        · intro k hk; omega
        · intro i _; rfl
      · replace c5 := (nI_ltI (a := j) (b := 6) (by omega) (by decide)).mp c5
        refine g_aload_n C (pc := 8) dX8_clear_8 1 rfl ?_
        refine g_getR C (pc := 9) fl_RX8_9 (by decide) (by first | assumption | rfl | omega) (by first | assumption | rfl | omega) (by first | assumption | rfl | omega) dX8_clear_9 ?_
        refine g_iload_n C (pc := 12) dX8_clear_12 0 rfl ?_
        refine g_bipush C (pc := 13) (-4) dX8_clear_13 (by decide) ?_
        refine g_iast C (pc := 15) (by first | assumption | rfl | omega) (by first | assumption | rfl | omega) hn9 (vp_in_nI (by omega) (by decide)) dX8_clear_15 ?_
        refine g_aload_n C (pc := 16) dX8_clear_16 1 rfl ?_
        refine g_getR C (pc := 17) fl_RX8_15 (by decide) (by first | assumption | rfl | omega) (by first | assumption | rfl | omega) (by first | assumption | rfl | omega) dX8_clear_17 ?_
        refine g_iload_n C (pc := 20) dX8_clear_20 0 rfl ?_
        refine g_iconst C (pc := 21) 0 dX8_clear_21 (by decide) ?_
        refine g_iast C (pc := 22) (by first | assumption | rfl | omega) (by first | assumption | rfl | omega) hn9 (vp_in_nI (by omega) (by decide)) dX8_clear_22 ?_
        refine g_iinc C (pc := 23) (1) dX8_clear_23 0 rfl (by decide) (by decide) (fun v23 => [(1, .int v23), (0, .ref s)]) (fun _ => rfl) (fun v23 ev23 => ?_)
        refine g_goto C (pc := 26) 2 dX8_clear_26 (by decide) ?_
        refine g_lv C [0, 1] rfl (ih2 (j + 1) _ _ ?_ ?_ ?_ ?_ (by omega))
        · subst_vars; exact nI_1 _
        · omega
        · intro k hk
          rw [nI_clamp (by omega), wr_n (a := s + 1) (by omega)]
          rcases Nat.lt_or_ge k j with h1 | h1
          · rw [wr_sn (by omega), wr_sn (by omega), wr_n (by omega)]; exact hA k h1
          · have : k = j := by omega
            subst this
            rw [wr_ss, wr_ss]; exact ⟨rfl, rfl⟩
        · intro i h1 h2; rw [wr_n h2, wr_n h1]; exact hF i h1 h2
  refine g_lv C [0, 1] rfl (L2 (_ + 1) 0 _ _ ?_ ?_ ?_ ?_ (by first | omega | exact Nat.lt_succ_self _))
  · subst_vars; rfl
  · exact Nat.zero_le _
  · intro k hk; omega
  · intro i _ _; rfl
set_option maxHeartbeats 400000 in
theorem c_X5_clear (n : Nat) (ρ : Rho) (I : Mem) (r : Nat) (hn9 : n ≤ 999) (hrf : Rf n ρ r) : MV yX5_clear cX5_clear 2 none 0 [.ref r] n ρ I (fun I1 => (∀ k, k < 5 → I1 (r + 3) k = 1) ∧ I1 r 3 = 3 ∧ I1 r 4 = 3 ∧ I1 r 5 = 0 ∧ I1 r 6 = 0 ∧ ∀ i, i ≠ r → i ≠ r + 3 → I1 i = I i) := by
  refine MG.of (by decide +kernel) (Nat.le_of_ble_eq_true rfl) hn9 ?_
  intro κ C hR
  show G κ n ρ 0 [(0, .ref r)] [] I
  obtain ⟨hq0, hq1, hq2, hq3, hqn, ht0, ht1, ht2⟩ := id hrf
  refine g_aload_n C (pc := 0) dX5_clear_0 0 rfl ?_
  refine g_iconst C (pc := 1) 3 dX5_clear_1 (by decide) ?_
  refine g_putI C (pc := 2) fl_RX5_21 (by decide) fp_4_3 (Or.inl rfl) ⟨rfl, rfl⟩ (by first | assumption | rfl | omega) (by first | assumption | rfl | omega) hn9 dX5_clear_2 ?_
  refine g_aload_n C (pc := 5) dX5_clear_5 0 rfl ?_
  refine g_iconst C (pc := 6) 3 dX5_clear_6 (by decide) ?_
  refine g_putI C (pc := 7) fl_RX5_25 (by decide) fp_4_4 (Or.inl rfl) ⟨rfl, rfl⟩ (by first | assumption | rfl | omega) (by first | assumption | rfl | omega) hn9 dX5_clear_7 ?_
  refine g_aload_n C (pc := 10) dX5_clear_10 0 rfl ?_
  refine g_iconst C (pc := 11) 0 dX5_clear_11 (by decide) ?_
  refine g_putI C (pc := 12) fl_RX5_28 (by decide) fp_4_5 (Or.inl rfl) ⟨rfl, rfl⟩ (by first | assumption | rfl | omega) (by first | assumption | rfl | omega) hn9 dX5_clear_12 ?_
  refine g_aload_n C (pc := 15) dX5_clear_15 0 rfl ?_
  refine g_iconst C (pc := 16) 0 dX5_clear_16 (by decide) ?_
  refine g_putI C (pc := 17) fl_RX5_31 (by decide) fp_4_6 (Or.inl rfl) ⟨rfl, rfl⟩ (by first | assumption | rfl | omega) (by first | assumption | rfl | omega) hn9 dX5_clear_17 ?_
  refine g_iconst C (pc := 20) 0 dX5_clear_20 (by decide) ?_
  refine g_istore_n C (pc := 21) dX5_clear_21 (by decide) (fun v21 => [(1, .int v21), (0, .ref r)]) (fun _ => rfl) (fun v21 ev21 => ?_)
  have L22 : ∀ (k9 : Nat) (j : Nat) (wz1 : Int32) (J : Mem) (hw1 : wz1 = nI j) (hj : j ≤ 5) (hA : ∀ k, k < j → J (r + 3) k = 1) (h3 : J r 3 = 3) (h4 : J r 4 = 3) (h5 : J r 5 = 0) (h6 : J r 6 = 0) (hF : ∀ i, i ≠ r → i ≠ r + 3 → J i = I i), 5 - j < k9 → G κ n ρ 22 [(1, .int wz1), (0, .ref r)] [] J := by
    intro k9
    induction k9 with
    | zero => intro j wz1 J hw1 hj hA h3 h4 h5 h6 hF hm22; exact absurd hm22 (Nat.not_lt_zero _)
    | succ k9 ih22 =>
      intro j wz1 J hw1 hj hA h3 h4 h5 h6 hF hm22
      subst hw1
      refine g_iload_n C (pc := 22) dX5_clear_22 0 rfl ?_
      refine g_aload_n C (pc := 23) dX5_clear_23 1 rfl ?_
      refine g_getR C (pc := 24) fl_RX5_18 (by decide) (by first | assumption | rfl | omega) (by first | assumption | rfl | omega) (by first | assumption | rfl | omega) dX5_clear_24 ?_
      refine g_alen C (pc := 27) 5 (by first | assumption | rfl | omega) (by decide) (by first | assumption | rfl | omega) rfl dX5_clear_27 ?_
      refine g_icmp_ge C (pc := 28) 44 dX5_clear_28 (by decide) (fun c28 => ?_) (fun c28 => ?_)
      · replace c28 := (nI_leI (a := 5) (b := j) (by decide) (by omega)).mp c28
        refine g_vret C hR (pc := 44) rfl dX5_clear_44 ?_
        refine ⟨rfl, rfl, ?_⟩
        exact ⟨fun k hk => hA k (by omega), h3, h4, h5, h6, hF⟩
      · replace c28 := (nI_ltI (a := j) (b := 5) (by omega) (by decide)).mp c28
        refine g_aload_n C (pc := 31) dX5_clear_31 1 rfl ?_
        refine g_getR C (pc := 32) fl_RX5_18 (by decide) (by first | assumption | rfl | omega) (by first | assumption | rfl | omega) (by first | assumption | rfl | omega) dX5_clear_32 ?_
        refine g_iload_n C (pc := 35) dX5_clear_35 0 rfl ?_
        refine g_iconst C (pc := 36) 1 dX5_clear_36 (by decide) ?_
        refine g_iast C (pc := 37) (by first | assumption | rfl | omega) (by first | assumption | rfl | omega) hn9 (vp_in_nI (by omega) (by decide)) dX5_clear_37 ?_
        refine g_iinc C (pc := 38) (1) dX5_clear_38 0 rfl (by decide) (by decide) (fun v38 => [(1, .int v38), (0, .ref r)]) (fun _ => rfl) (fun v38 ev38 => ?_)
        refine g_goto C (pc := 41) 22 dX5_clear_41 (by decide) ?_
        refine g_lv C [0, 1] rfl (ih22 (j + 1) _ _ ?_ ?_ ?_ ?_ ?_ ?_ ?_ ?_ (by omega))
        · subst_vars; exact nI_1 _
        · omega
        · intro k hk
          rw [nI_clamp (by omega)]
          rcases Nat.lt_or_ge k j with h1 | h1
          · rw [wr_sn (by omega)]; exact hA k h1
          · have : k = j := by omega
            subst this
            rw [wr_ss]
        · rw [wr_n (by omega)]; exact h3
        · rw [wr_n (by omega)]; exact h4
        · rw [wr_n (by omega)]; exact h5
        · rw [wr_n (by omega)]; exact h6
        · intro i h1 h2; rw [wr_n h2]; exact hF i h1 h2
  refine g_lv C [0, 1] rfl (L22 (_ + 1) 0 _ _ ?_ ?_ ?_ ?_ ?_ ?_ ?_ ?_ (by first | omega | exact Nat.lt_succ_self _))
  · subst_vars; rfl
  · exact Nat.zero_le _
  · intro k hk; omega
  · rw [wr_sn (by decide), wr_sn (by decide), wr_sn (by decide), wr_ss]
  · rw [wr_sn (by decide), wr_sn (by decide), wr_ss]
  · rw [wr_sn (by decide), wr_ss]
  · exact wr_ss
  · intro i h1 _; rw [wr_n h1, wr_n h1, wr_n h1, wr_n h1]
set_option maxHeartbeats 400000 in
theorem c_X3_clear (n : Nat) (ρ : Rho) (I : Mem) (g : Nat) (hn9 : n ≤ 999) (hga : GaS n ρ g) : MV yX3_clear cX3_clear 1 none 1 [.ref g] n ρ I (fun I1 => (∀ k, k < 5 → I1 (g + 4) k = 1) ∧ I1 (g + 1) 3 = 3 ∧ I1 (g + 1) 4 = 3 ∧ I1 (g + 1) 5 = 0 ∧ I1 (g + 1) 6 = 0 ∧ (∀ k, k < 6 → I1 (g + 6) k = -4 ∧ I1 (g + 7) k = 0) ∧ (∀ k, k < 2 → I1 (g + 8) k = 0) ∧ I1 (g + 5) 3 = 0 ∧ I1 g 5 = 0 ∧ I1 g 6 = 0 ∧ I1 g 7 = 0 ∧ ∀ i, ¬ (g ≤ i ∧ i ≤ g + 8) → I1 i = I i) := by
  refine MG.of (by decide +kernel) (Nat.le_of_ble_eq_true rfl) hn9 ?_
  intro κ C hR
  show G κ n ρ 0 [(0, .ref g)] [] I
  obtain ⟨ga0, ga1, ga2, ga3, ga4, ga5, ga6, ga7, ga8, gan, hrf, hst⟩ := id hga
  have hrf0 := hrf.1
  have hst0 := hst.1
  refine g_aload_n C (pc := 0) dX3_clear_0 0 rfl ?_
  refine g_getR C (pc := 1) fl_RX3_12 (by decide) (by first | assumption | rfl | omega) (by first | assumption | rfl | omega) (by first | assumption | rfl | omega) dX3_clear_1 ?_
  refine g_callVV C (pc := 4) mf_X5_clear lk_RX3_35 (c_X5_clear n ρ I (g + 1) hn9 hrf) (by decide) (Nat.le_refl _) rfl (by first | assumption | rfl | omega) rfl (by first | assumption | rfl | omega) (Nat.le_of_ble_eq_true rfl) dX3_clear_4 (fun I4 h4 => ?_)
  obtain ⟨a4, b4, d4, e4, f4, g4⟩ := h4
  refine g_aload_n C (pc := 7) dX3_clear_7 0 rfl ?_
  refine g_getR C (pc := 8) fl_RX3_21 (by decide) (by first | assumption | rfl | omega) (by first | assumption | rfl | omega) (by first | assumption | rfl | omega) dX3_clear_8 ?_
  refine g_callVV C (pc := 11) mf_X8_clear lk_RX3_38 (c_X8_clear n ρ I4 (g + 5) hn9 hst) (by decide) (Nat.le_refl _) rfl (by first | assumption | rfl | omega) rfl (by first | assumption | rfl | omega) (Nat.le_of_ble_eq_true rfl) dX3_clear_11 (fun I11 h11 => ?_)
  obtain ⟨a11, b11, d11, g11⟩ := h11
  refine g_aload_n C (pc := 14) dX3_clear_14 0 rfl ?_
  refine g_iconst C (pc := 15) 0 dX3_clear_15 (by decide) ?_
  refine g_putI C (pc := 16) fl_RX3_39 (by decide) fp_2_5 (Or.inl rfl) ⟨rfl, rfl⟩ (by first | assumption | rfl | omega) (by first | assumption | rfl | omega) hn9 dX3_clear_16 ?_
  refine g_aload_n C (pc := 19) dX3_clear_19 0 rfl ?_
  refine g_iconst C (pc := 20) 0 dX3_clear_20 (by decide) ?_
  refine g_putI C (pc := 21) fl_RX3_43 (by decide) fp_2_6 (Or.inl rfl) ⟨rfl, rfl⟩ (by first | assumption | rfl | omega) (by first | assumption | rfl | omega) hn9 dX3_clear_21 ?_
  refine g_aload_n C (pc := 24) dX3_clear_24 0 rfl ?_
  refine g_iconst C (pc := 25) 0 dX3_clear_25 (by decide) ?_
  refine g_putI C (pc := 26) fl_RX3_46 (by decide) fp_2_7 (Or.inl rfl) ⟨rfl, rfl⟩ (by first | assumption | rfl | omega) (by first | assumption | rfl | omega) hn9 dX3_clear_26 ?_
  refine g_vret C hR (pc := 29) rfl dX3_clear_29 ?_
  refine ⟨rfl, rfl, ?_⟩
  refine ⟨fun k hk => ?_, ?_, ?_, ?_, ?_, fun k hk => ?_, fun k hk => ?_, ?_, ?_, ?_, ?_, fun i h1 => ?_⟩
  · rw [wr_n (by omega), wr_n (by omega), wr_n (by omega), g11 _ (by omega) (by omega) (by omega) (by omega)]; exact a4 k hk
  · rw [wr_n (by omega), wr_n (by omega), wr_n (by omega), g11 _ (by omega) (by omega) (by omega) (by omega)]; exact b4
  · rw [wr_n (by omega), wr_n (by omega), wr_n (by omega), g11 _ (by omega) (by omega) (by omega) (by omega)]; exact d4
  · rw [wr_n (by omega), wr_n (by omega), wr_n (by omega), g11 _ (by omega) (by omega) (by omega) (by omega)]; exact e4
  · rw [wr_n (by omega), wr_n (by omega), wr_n (by omega), g11 _ (by omega) (by omega) (by omega) (by omega)]; exact f4
  · rw [wr_n (by omega), wr_n (by omega), wr_n (by omega), wr_n (by omega), wr_n (by omega), wr_n (by omega)]; exact a11 k hk
  · rw [wr_n (by omega), wr_n (by omega), wr_n (by omega)]; exact b11 k hk
  · rw [wr_n (by omega), wr_n (by omega), wr_n (by omega)]; exact d11
  · rw [wr_sn (by decide), wr_sn (by decide), wr_ss]
  · rw [wr_sn (by decide), wr_ss]
  · exact wr_ss
  · rw [wr_n (by omega), wr_n (by omega), wr_n (by omega), g11 i (by omega) (by omega) (by omega) (by omega), g4 i (by omega) (by omega)]
