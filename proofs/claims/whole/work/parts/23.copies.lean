def GaS (n : Nat) (ρ : Rho) (g : Nat) : Prop := shp g = (12, 8) ∧ ρ g 0 = some (g + 1) ∧ ρ g 1 = some (g + 5) ∧ ρ g 2 = some (g + 9) ∧ ρ g 3 = some (g + 10) ∧ ρ g 4 = some (g + 11) ∧ shp (g + 9) = (0, 8) ∧ shp (g + 10) = (0, 8) ∧ shp (g + 11) = (0, 3) ∧ g + 11 < n ∧ Rf n ρ (g + 1) ∧ St n ρ (g + 5)
/-- the world after one more piece *)-/
def addK (I : Mem) (g k sd : Nat) (x w v : Int32) : Mem := (fun H : Mem => wr (wr (wr H (g + 8) sd ((H (g + 8) sd &&& (bitO (H (g + 6) k) ^^^ (-1))) ||| bitO w)) (g + 6) k w) (g + 7) k v) (wr (wr (wr I (g + 1) 6 (nI (k + 1))) (g + 3) k x) (g + 2) k (nI sd))
theorem addK_6 {I : Mem} {g k sd : Nat} {x w v : Int32} : addK I g k sd x w v (g + 1) 6 = nI (k + 1) := by
  unfold addK
  dsimp only
  rw [wr_n (by omega), wr_n (by omega), wr_n (by omega), wr_n (by omega), wr_n (by omega), wr_ss]
theorem addK_o {I : Mem} {g k sd i : Nat} {x w v : Int32} (h : i ≠ 6) : addK I g k sd x w v (g + 1) i = I (g + 1) i := by
  unfold addK
  dsimp only
  rw [wr_n (by omega), wr_n (by omega), wr_n (by omega), wr_n (by omega), wr_n (by omega), wr_sn h]
theorem addK_n {I : Mem} {g k sd i : Nat} {x w v : Int32} (h : ¬ (g + 1 ≤ i ∧ i ≤ g + 8)) : addK I g k sd x w v i = I i := by
  unfold addK
  dsimp only
  rw [wr_n (by omega), wr_n (by omega), wr_n (by omega), wr_n (by omega), wr_n (by omega), wr_n (by omega)]
set_option maxHeartbeats 400000 in
theorem c_X5_copyFrom (n : Nat) (ρ : Rho) (I : Mem) (r o : Nat) (hn9 : n ≤ 999) (hrf : Rf n ρ r) (hro : Rf n ρ o) (hdis : Dis o r) : MV yX5_copyFrom cX5_copyFrom 2 none 1 [.ref r, .ref o] n ρ I (fun I1 => (∀ k, k < 6 → I1 (r + 1) k = I (o + 1) k) ∧ (∀ k, k < 6 → I1 (r + 2) k = I (o + 2) k) ∧ (∀ k, k < 5 → I1 (r + 3) k = I (o + 3) k) ∧ (∀ k, 3 ≤ k → k < 7 → I1 r k = I o k) ∧ ∀ i, i ≠ r → i ≠ r + 1 → i ≠ r + 2 → i ≠ r + 3 → I1 i = I i) := by
  refine MG.of (by decide +kernel) (Nat.le_of_ble_eq_true rfl) hn9 ?_
  intro κ C hR
  show G κ n ρ 0 [(0, .ref r), (1, .ref o)] [] I
  obtain ⟨hq0, hq1, hq2, hq3, hqn, ht0, ht1, ht2⟩ := id hrf
  obtain ⟨os0, os1, os2, os3, osn, or0, or1, or2⟩ := id hro
  refine g_aload_n C (pc := 0) dX5_copyFrom_0 0 rfl ?_
  refine g_aload_n C (pc := 1) dX5_copyFrom_1 1 rfl ?_
  refine g_getI C (pc := 2) fl_RX5_21 (by decide) (by first | assumption | rfl | omega) (by first | assumption | rfl | omega) dX5_copyFrom_2 ?_
  refine g_putI C (pc := 5) fl_RX5_21 (by decide) fp_4_3 (Or.inl rfl) ⟨rfl, rfl⟩ (by first | assumption | rfl | omega) (by first | assumption | rfl | omega) hn9 dX5_copyFrom_5 ?_
  refine g_aload_n C (pc := 8) dX5_copyFrom_8 0 rfl ?_
  refine g_aload_n C (pc := 9) dX5_copyFrom_9 1 rfl ?_
  refine g_getI C (pc := 10) fl_RX5_25 (by decide) (by first | assumption | rfl | omega) (by first | assumption | rfl | omega) dX5_copyFrom_10 ?_
  refine g_putI C (pc := 13) fl_RX5_25 (by decide) fp_4_4 (Or.inl rfl) ⟨rfl, rfl⟩ (by first | assumption | rfl | omega) (by first | assumption | rfl | omega) hn9 dX5_copyFrom_13 ?_
  refine g_aload_n C (pc := 16) dX5_copyFrom_16 0 rfl ?_
  refine g_aload_n C (pc := 17) dX5_copyFrom_17 1 rfl ?_
  refine g_getI C (pc := 18) fl_RX5_28 (by decide) (by first | assumption | rfl | omega) (by first | assumption | rfl | omega) dX5_copyFrom_18 ?_
  refine g_putI C (pc := 21) fl_RX5_28 (by decide) fp_4_5 (Or.inl rfl) ⟨rfl, rfl⟩ (by first | assumption | rfl | omega) (by first | assumption | rfl | omega) hn9 dX5_copyFrom_21 ?_
  refine g_aload_n C (pc := 24) dX5_copyFrom_24 0 rfl ?_
  refine g_aload_n C (pc := 25) dX5_copyFrom_25 1 rfl ?_
  refine g_getI C (pc := 26) fl_RX5_31 (by decide) (by first | assumption | rfl | omega) (by first | assumption | rfl | omega) dX5_copyFrom_26 ?_
  refine g_putI C (pc := 29) fl_RX5_31 (by decide) fp_4_6 (Or.inl rfl) ⟨rfl, rfl⟩ (by first | assumption | rfl | omega) (by first | assumption | rfl | omega) hn9 dX5_copyFrom_29 ?_
  refine g_aload_n C (pc := 32) dX5_copyFrom_32 1 rfl ?_
  refine g_getR C (pc := 33) fl_RX5_9 (by decide) (by first | assumption | rfl | omega) (by first | assumption | rfl | omega) (by first | assumption | rfl | omega) dX5_copyFrom_33 ?_
  refine g_iconst C (pc := 36) 0 dX5_copyFrom_36 (by decide) ?_
  refine g_aload_n C (pc := 37) dX5_copyFrom_37 0 rfl ?_
  refine g_getR C (pc := 38) fl_RX5_9 (by decide) (by first | assumption | rfl | omega) (by first | assumption | rfl | omega) (by first | assumption | rfl | omega) dX5_copyFrom_38 ?_
  refine g_iconst C (pc := 41) 0 dX5_copyFrom_41 (by decide) ?_
  refine g_bipush C (pc := 42) 6 dX5_copyFrom_42 (by decide) ?_
  refine g_copy C (pc := 44) gl_RX5_34 gw_acn gw_acs gw_aci (by first | assumption | rfl | omega) (by first | assumption | rfl | omega) (by first | assumption | rfl | omega) (by first | assumption | rfl | omega) hn9 0 0 6 rfl rfl rfl (by decide) (by decide) (by decide) (by decide) (Nat.le_of_ble_eq_true rfl) (by decide) dX5_copyFrom_44 ?_
  refine g_aload_n C (pc := 47) dX5_copyFrom_47 1 rfl ?_
  refine g_getR C (pc := 48) fl_RX5_15 (by decide) (by first | assumption | rfl | omega) (by first | assumption | rfl | omega) (by first | assumption | rfl | omega) dX5_copyFrom_48 ?_
  refine g_iconst C (pc := 51) 0 dX5_copyFrom_51 (by decide) ?_
  refine g_aload_n C (pc := 52) dX5_copyFrom_52 0 rfl ?_
  refine g_getR C (pc := 53) fl_RX5_15 (by decide) (by first | assumption | rfl | omega) (by first | assumption | rfl | omega) (by first | assumption | rfl | omega) dX5_copyFrom_53 ?_
  refine g_iconst C (pc := 56) 0 dX5_copyFrom_56 (by decide) ?_
  refine g_bipush C (pc := 57) 6 dX5_copyFrom_57 (by decide) ?_
  refine g_copy C (pc := 59) gl_RX5_34 gw_acn gw_acs gw_aci (by first | assumption | rfl | omega) (by first | assumption | rfl | omega) (by first | assumption | rfl | omega) (by first | assumption | rfl | omega) hn9 0 0 6 rfl rfl rfl (by decide) (by decide) (by decide) (by decide) (Nat.le_of_ble_eq_true rfl) (by decide) dX5_copyFrom_59 ?_
  refine g_aload_n C (pc := 62) dX5_copyFrom_62 1 rfl ?_
  refine g_getR C (pc := 63) fl_RX5_18 (by decide) (by first | assumption | rfl | omega) (by first | assumption | rfl | omega) (by first | assumption | rfl | omega) dX5_copyFrom_63 ?_
  refine g_iconst C (pc := 66) 0 dX5_copyFrom_66 (by decide) ?_
  refine g_aload_n C (pc := 67) dX5_copyFrom_67 0 rfl ?_
  refine g_getR C (pc := 68) fl_RX5_18 (by decide) (by first | assumption | rfl | omega) (by first | assumption | rfl | omega) (by first | assumption | rfl | omega) dX5_copyFrom_68 ?_
  refine g_iconst C (pc := 71) 0 dX5_copyFrom_71 (by decide) ?_
  refine g_iconst C (pc := 72) 5 dX5_copyFrom_72 (by decide) ?_
  refine g_copy C (pc := 73) gl_RX5_34 gw_acn gw_acs gw_aci (by first | assumption | rfl | omega) (by first | assumption | rfl | omega) (by first | assumption | rfl | omega) (by first | assumption | rfl | omega) hn9 0 0 5 rfl rfl rfl (by decide) (by decide) (by decide) (by decide) (Nat.le_of_ble_eq_true rfl) (by decide) dX5_copyFrom_73 ?_
  refine g_vret C hR (pc := 76) rfl dX5_copyFrom_76 ?_
  refine ⟨rfl, rfl, ?_⟩
  have q : ∀ i k, i ≤ 3 → k ≤ 3 → o + i ≠ r + k := hdis
  have q00 : o ≠ r := q 0 0 (by decide) (by decide)
  have q0 : ∀ i, i ≤ 3 → o + i ≠ r := fun i hi => q i 0 hi (by decide)
  have q1 := q 1 1 (by decide) (by decide)
  have q2 := q 2 1 (by decide) (by decide)
  have q3 := q 2 2 (by decide) (by decide)
  have q4 := q 3 1 (by decide) (by decide)
  have q5 := q 3 2 (by decide) (by decide)
  refine ⟨fun k hk => ?_, fun k hk => ?_, fun k hk => ?_, fun k h3 hk => ?_, fun i h0 h1 h2 h3 => ?_⟩
  · rw [wrA_n (by omega), wrA_n (by omega), wrA_s, cpy0 hk]
    repeat rw [wr_n (q0 1 (by decide))]
  · rw [wrA_n (by omega), wrA_s, cpy0 hk, wrA_n q2]
    repeat rw [wr_n (q0 2 (by decide))]
  · rw [wrA_s, cpy0 hk, wrA_n q5, wrA_n q4]
    repeat rw [wr_n (q0 3 (by decide))]
  · rw [wrA_n (by omega), wrA_n (by omega), wrA_n (by omega)]
    have : k = 3 ∨ k = 4 ∨ k = 5 ∨ k = 6 := by omega
    rcases this with rfl | rfl | rfl | rfl
    · rw [wr_sn (by decide), wr_sn (by decide), wr_sn (by decide), wr_ss]
    · rw [wr_sn (by decide), wr_sn (by decide), wr_ss, wr_n q00]
    · rw [wr_sn (by decide), wr_ss, wr_n q00, wr_n q00]
    · rw [wr_ss, wr_n q00, wr_n q00, wr_n q00]
  · rw [wrA_n h3, wrA_n h2, wrA_n h1, wr_n h0, wr_n h0, wr_n h0, wr_n h0]
set_option maxHeartbeats 400000 in
theorem c_X8_clear (n : Nat) (ρ : Rho) (I : Mem) (s : Nat) (hn9 : n ≤ 999) (hst : St n ρ s) : MV yX8_clear cX8_clear 2 none 0 [.ref s] n ρ I (fun I1 => (∀ k, k < 6 → I1 (s + 1) k = -4 ∧ I1 (s + 2) k = 0) ∧ (∀ k, k < 2 → I1 (s + 3) k = 0) ∧ I1 s 3 = 0 ∧ ∀ i, i ≠ s → i ≠ s + 1 → i ≠ s + 2 → i ≠ s + 3 → I1 i = I i) := by
  refine MG.of (by decide +kernel) (Nat.le_of_ble_eq_true rfl) hn9 ?_
  intro κ C hR
  show G κ n ρ 0 [(0, .ref s)] [] I
  obtain ⟨hs0, hs1, hs2, hs3, hsn, hr0, hr1, hr2⟩ := id hst
  refine g_iconst C (pc := 0) 0 dX8_clear_0 (by decide) ?_
  refine g_istore_n C (pc := 1) dX8_clear_1 (by decide) (fun v1 => [(1, .int v1), (0, .ref s)]) (fun _ => rfl) (fun v1 ev1 => ?_)
  have L2 : ∀ (k9 : Nat) (j : Nat) (wz1 : Int32) (J : Mem) (hw1 : wz1 = nI j) (hj : j ≤ 6) (hA : ∀ k, k < j → J (s + 1) k = -4 ∧ J (s + 2) k = 0) (hF : ∀ i, i ≠ s + 1 → i ≠ s + 2 → J i = I i), 6 - j < k9 → G κ n ρ 2 [(1, .int wz1), (0, .ref s)] [] J := by
    intro k9
    induction k9 with
    | zero => intro j wz1 J hw1 hj hA hF hm2; exact absurd hm2 (Nat.not_lt_zero _)
    | succ k9 ih2 =>
      intro j wz1 J hw1 hj hA hF hm2
      subst hw1
      refine g_iload_n C (pc := 2) dX8_clear_2 0 rfl ?_
      refine g_bipush C (pc := 3) 6 dX8_clear_3 (by decide) ?_
      refine g_icmp_ge C (pc := 5) 29 dX8_clear_5 (by decide) (fun c5 => ?_) (fun c5 => ?_)
      · replace c5 := (nI_leI (a := 6) (b := j) (by decide) (by omega)).mp c5
        refine g_iconst C (pc := 29) 0 dX8_clear_29 (by decide) ?_
        refine g_istore_n C (pc := 30) dX8_clear_30 (by decide) (fun v30 => [(1, .int v30), (0, .ref s)]) (fun _ => rfl) (fun v30 ev30 => ?_)
        have L31 : ∀ (k9 : Nat) (u : Nat) (wz1 : Int32) (J2 : Mem) (hw1 : wz1 = nI u) (hu : u ≤ 2) (hB : ∀ k, k < u → J2 (s + 3) k = 0) (hG : ∀ i, i ≠ s + 3 → J2 i = J i), 2 - u < k9 → G κ n ρ 31 [(1, .int wz1), (0, .ref s)] [] J2 := by
          intro k9
          induction k9 with
          | zero => intro u wz1 J2 hw1 hu hB hG hm31; exact absurd hm31 (Nat.not_lt_zero _)
          | succ k9 ih31 =>
            intro u wz1 J2 hw1 hu hB hG hm31
            subst hw1
            refine g_iload_n C (pc := 31) dX8_clear_31 0 rfl ?_
            refine g_iconst C (pc := 32) 2 dX8_clear_32 (by decide) ?_
            refine g_icmp_ge C (pc := 33) 49 dX8_clear_33 (by decide) (fun c33 => ?_) (fun c33 => ?_)
            · replace c33 := (nI_leI (a := 2) (b := u) (by decide) (by omega)).mp c33
              refine g_aload_n C (pc := 49) dX8_clear_49 1 rfl ?_
              refine g_iconst C (pc := 50) 0 dX8_clear_50 (by decide) ?_
              refine g_putI C (pc := 51) fl_RX8_21 (by decide) fp_7_3 (Or.inl rfl) ⟨rfl, rfl⟩ (by first | assumption | rfl | omega) (by first | assumption | rfl | omega) hn9 dX8_clear_51 ?_
              refine g_vret C hR (pc := 54) rfl dX8_clear_54 ?_
              refine ⟨rfl, rfl, ?_⟩
              refine ⟨fun k hk => ?_, fun k hk => ?_, wr_ss, fun i h0 h1 h2 h3 => ?_⟩
              · rw [wr_n (by omega), wr_n (by omega), hG _ (by omega), hG _ (by omega)]; exact hA k (by omega)
              · rw [wr_n (by omega)]; exact hB k (by omega)
              · rw [wr_n h0, hG i h3]; exact hF i h1 h2
            · replace c33 := (nI_ltI (a := u) (b := 2) (by omega) (by decide)).mp c33
              refine g_aload_n C (pc := 36) dX8_clear_36 1 rfl ?_
              refine g_getR C (pc := 37) fl_RX8_18 (by decide) (by first | assumption | rfl | omega) (by first | assumption | rfl | omega) (by first | assumption | rfl | omega) dX8_clear_37 ?_
              refine g_iload_n C (pc := 40) dX8_clear_40 0 rfl ?_
              refine g_iconst C (pc := 41) 0 dX8_clear_41 (by decide) ?_
              refine g_iast C (pc := 42) (by first | assumption | rfl | omega) (by first | assumption | rfl | omega) hn9 (vp_in_nI (by omega) (by decide)) dX8_clear_42 ?_
              refine g_iinc C (pc := 43) (1) dX8_clear_43 0 rfl (by decide) (by decide) (fun v43 => [(1, .int v43), (0, .ref s)]) (fun _ => rfl) (fun v43 ev43 => ?_)
              refine g_goto C (pc := 46) 31 dX8_clear_46 (by decide) ?_
              refine g_lv C [0, 1] rfl (ih31 (u + 1) _ _ ?_ ?_ ?_ ?_ (by omega))
              · subst_vars; exact nI_1 _
              · omega
              · intro k hk
                rw [nI_clamp (by omega)]
                rcases Nat.lt_or_ge k u with h1 | h1
                · rw [wr_sn (by omega)]; exact hB k h1
                · have : k = u := by omega
                  subst this
                  rw [wr_ss]
              · intro i h1; rw [wr_n h1]; exact hG i h1
        refine g_lv C [0, 1] rfl (L31 (_ + 1) 0 _ _ ?_ ?_ ?_ ?_ (by first | omega | exact Nat.lt_succ_self _))
        · subst_vars; rfl
        · exact Nat.zero_le _
        · intro k hk; omega
        · intro i _; rfl
      · replace c5 := (nI_ltI (a := j) (b := 6) (by omega) (by decide)).mp c5
        refine g_aload_n C (pc := 8) dX8_clear_8 1 rfl ?_
        refine g_getR C (pc := 9) fl_RX8_9 (by decide) (by first | assumption | rfl | omega) (by first | assumption | rfl | omega) (by first | assumption | rfl | omega) dX8_clear_9 ?_
        refine g_iload_n C (pc := 12) dX8_clear_12 0 rfl ?_
        refine g_bipush C (pc := 13) (-4) dX8_clear_13 (by decide) ?_
        refine g_iast C (pc := 15) (by first | assumption | rfl | omega) (by first | assumption | rfl | omega) hn9 (vp_in_nI (by omega) (by decide)) dX8_clear_15 ?_
        refine g_aload_n C (pc := 16) dX8_clear_16 1 rfl ?_
        refine g_getR C (pc := 17) fl_RX8_15 (by decide) (by first | assumption | rfl | omega) (by first | assumption | rfl | omega) (by first | assumption | rfl | omega) dX8_clear_17 ?_
        refine g_iload_n C (pc := 20) dX8_clear_20 0 rfl ?_
        refine g_iconst C (pc := 21) 0 dX8_clear_21 (by decide) ?_
        refine g_iast C (pc := 22) (by first | assumption | rfl | omega) (by first | assumption | rfl | omega) hn9 (vp_in_nI (by omega) (by decide)) dX8_clear_22 ?_
        refine g_iinc C (pc := 23) (1) dX8_clear_23 0 rfl (by decide) (by decide) (fun v23 => [(1, .int v23), (0, .ref s)]) (fun _ => rfl) (fun v23 ev23 => ?_)
        refine g_goto C (pc := 26) 2 dX8_clear_26 (by decide) ?_
        refine g_lv C [0, 1] rfl (ih2 (j + 1) _ _ ?_ ?_ ?_ ?_ (by omega))
        · subst_vars; exact nI_1 _
        · omega
        · intro k hk
          rw [nI_clamp (by omega), wr_n (a := s + 1) (by omega)]
          rcases Nat.lt_or_ge k j with h1 | h1
          · rw [wr_sn (by omega), wr_sn (by omega), wr_n (by omega)]; exact hA k h1
          · have : k = j := by omega
            subst this
            rw [wr_ss, wr_ss]; exact ⟨rfl, rfl⟩
        · intro i h1 h2; rw [wr_n h2, wr_n h1]; exact hF i h1 h2
  refine g_lv C [0, 1] rfl (L2 (_ + 1) 0 _ _ ?_ ?_ ?_ ?_ (by first | omega | exact Nat.lt_succ_self _))
  · subst_vars; rfl
  · exact Nat.zero_le _
  · intro k hk; omega
  · intro i _ _; rfl
set_option maxHeartbeats 400000 in
theorem c_X5_clear (n : Nat) (ρ : Rho) (I : Mem) (r : Nat) (hn9 : n ≤ 999) (hrf : Rf n ρ r) : MV yX5_clear cX5_clear 2 none 0 [.ref r] n ρ I (fun I1 => (∀ k, k < 5 → I1 (r + 3) k = 1) ∧ I1 r 3 = 3 ∧ I1 r 4 = 3 ∧ I1 r 5 = 0 ∧ I1 r 6 = 0 ∧ ∀ i, i ≠ r → i ≠ r + 3 → I1 i = I i) := by
  refine MG.of (by decide +kernel) (Nat.le_of_ble_eq_true rfl) hn9 ?_
  intro κ C hR
  show G κ n ρ 0 [(0, .ref r)] [] I
  obtain ⟨hq0, hq1, hq2, hq3, hqn, ht0, ht1, ht2⟩ := id hrf
  refine g_aload_n C (pc := 0) dX5_clear_0 0 rfl ?_
  refine g_iconst C (pc := 1) 3 dX5_clear_1 (by decide) ?_
  refine g_putI C (pc := 2) fl_RX5_21 (by decide) fp_4_3 (Or.inl rfl) ⟨rfl, rfl⟩ (by first | assumption | rfl | omega) (by first | assumption | rfl | omega) hn9 dX5_clear_2 ?_
  refine g_aload_n C (pc := 5) dX5_clear_5 0 rfl ?_
  refine g_iconst C (pc := 6) 3 dX5_clear_6 (by decide) ?_
  refine g_putI C (pc := 7) fl_RX5_25 (by decide) fp_4_4 (Or.inl rfl) ⟨rfl, rfl⟩ (by first | assumption | rfl | omega) (by first | assumption | rfl | omega) hn9 dX5_clear_7 ?_
  refine g_aload_n C (pc := 10) dX5_clear_10 0 rfl ?_
  refine g_iconst C (pc := 11) 0 dX5_clear_11 (by decide) ?_
  refine g_putI C (pc := 12) fl_RX5_28 (by decide) fp_4_5 (Or.inl rfl) ⟨rfl, rfl⟩ (by first | assumption | rfl | omega) (by first | assumption | rfl | omega) hn9 dX5_clear_12 ?_
  refine g_aload_n C (pc := 15) dX5_clear_15 0 rfl ?_
  refine g_iconst C (pc := 16) 0 dX5_clear_16 (by decide) ?_
  refine g_putI C (pc := 17) fl_RX5_31 (by decide) fp_4_6 (Or.inl rfl) ⟨rfl, rfl⟩ (by first | assumption | rfl | omega) (by first | assumption | rfl | omega) hn9 dX5_clear_17 ?_
  refine g_iconst C (pc := 20) 0 dX5_clear_20 (by decide) ?_
  refine g_istore_n C (pc := 21) dX5_clear_21 (by decide) (fun v21 => [(1, .int v21), (0, .ref r)]) (fun _ => rfl) (fun v21 ev21 => ?_)
  have L22 : ∀ (k9 : Nat) (j : Nat) (wz1 : Int32) (J : Mem) (hw1 : wz1 = nI j) (hj : j ≤ 5) (hA : ∀ k, k < j → J (r + 3) k = 1) (h3 : J r 3 = 3) (h4 : J r 4 = 3) (h5 : J r 5 = 0) (h6 : J r 6 = 0) (hF : ∀ i, i ≠ r → i ≠ r + 3 → J i = I i), 5 - j < k9 → G κ n ρ 22 [(1, .int wz1), (0, .ref r)] [] J := by
    intro k9
    induction k9 with
    | zero => intro j wz1 J hw1 hj hA h3 h4 h5 h6 hF hm22; exact absurd hm22 (Nat.not_lt_zero _)
    | succ k9 ih22 =>
      intro j wz1 J hw1 hj hA h3 h4 h5 h6 hF hm22
      subst hw1
      refine g_iload_n C (pc := 22) dX5_clear_22 0 rfl ?_
      refine g_aload_n C (pc := 23) dX5_clear_23 1 rfl ?_
      refine g_getR C (pc := 24) fl_RX5_18 (by decide) (by first | assumption | rfl | omega) (by first | assumption | rfl | omega) (by first | assumption | rfl | omega) dX5_clear_24 ?_
      refine g_alen C (pc := 27) 5 (by first | assumption | rfl | omega) (by decide) (by first | assumption | rfl | omega) rfl dX5_clear_27 ?_
      refine g_icmp_ge C (pc := 28) 44 dX5_clear_28 (by decide) (fun c28 => ?_) (fun c28 => ?_)
      · replace c28 := (nI_leI (a := 5) (b := j) (by decide) (by omega)).mp c28
        refine g_vret C hR (pc := 44) rfl dX5_clear_44 ?_
        refine ⟨rfl, rfl, ?_⟩
        exact ⟨fun k hk => hA k (by omega), h3, h4, h5, h6, hF⟩
      · replace c28 := (nI_ltI (a := j) (b := 5) (by omega) (by decide)).mp c28
        refine g_aload_n C (pc := 31) dX5_clear_31 1 rfl ?_
        refine g_getR C (pc := 32) fl_RX5_18 (by decide) (by first | assumption | rfl | omega) (by first | assumption | rfl | omega) (by first | assumption | rfl | omega) dX5_clear_32 ?_
        refine g_iload_n C (pc := 35) dX5_clear_35 0 rfl ?_
        refine g_iconst C (pc := 36) 1 dX5_clear_36 (by decide) ?_
        refine g_iast C (pc := 37) (by first | assumption | rfl | omega) (by first | assumption | rfl | omega) hn9 (vp_in_nI (by omega) (by decide)) dX5_clear_37 ?_
        refine g_iinc C (pc := 38) (1) dX5_clear_38 0 rfl (by decide) (by decide) (fun v38 => [(1, .int v38), (0, .ref r)]) (fun _ => rfl) (fun v38 ev38 => ?_)
        refine g_goto C (pc := 41) 22 dX5_clear_41 (by decide) ?_
        refine g_lv C [0, 1] rfl (ih22 (j + 1) _ _ ?_ ?_ ?_ ?_ ?_ ?_ ?_ ?_ (by omega))
        · subst_vars; exact nI_1 _
        · omega
        · intro k hk
          rw [nI_clamp (by omega)]
          rcases Nat.lt_or_ge k j with h1 | h1
          · rw [wr_sn (by omega)]; exact hA k h1
          · have : k = j := by omega
            subst this
            rw [wr_ss]
        · rw [wr_n (by omega)]; exact h3
        · rw [wr_n (by omega)]; exact h4
        · rw [wr_n (by omega)]; exact h5
        · rw [wr_n (by omega)]; exact h6
        · intro i h1 h2; rw [wr_n h2]; exact hF i h1 h2
  refine g_lv C [0, 1] rfl (L22 (_ + 1) 0 _ _ ?_ ?_ ?_ ?_ ?_ ?_ ?_ ?_ (by first | omega | exact Nat.lt_succ_self _))
  · subst_vars; rfl
  · exact Nat.zero_le _
  · intro k hk; omega
  · rw [wr_sn (by decide), wr_sn (by decide), wr_sn (by decide), wr_ss]
  · rw [wr_sn (by decide), wr_sn (by decide), wr_ss]
  · rw [wr_sn (by decide), wr_ss]
  · exact wr_ss
  · intro i h1 _; rw [wr_n h1, wr_n h1, wr_n h1, wr_n h1]
set_option maxHeartbeats 400000 in
theorem c_X3_clear (n : Nat) (ρ : Rho) (I : Mem) (g : Nat) (hn9 : n ≤ 999) (hga : GaS n ρ g) : MV yX3_clear cX3_clear 1 none 1 [.ref g] n ρ I (fun I1 => (∀ k, k < 5 → I1 (g + 4) k = 1) ∧ I1 (g + 1) 3 = 3 ∧ I1 (g + 1) 4 = 3 ∧ I1 (g + 1) 5 = 0 ∧ I1 (g + 1) 6 = 0 ∧ (∀ k, k < 6 → I1 (g + 6) k = -4 ∧ I1 (g + 7) k = 0) ∧ (∀ k, k < 2 → I1 (g + 8) k = 0) ∧ I1 (g + 5) 3 = 0 ∧ I1 g 5 = 0 ∧ I1 g 6 = 0 ∧ I1 g 7 = 0 ∧ ∀ i, ¬ (g ≤ i ∧ i ≤ g + 8) → I1 i = I i) := by
  refine MG.of (by decide +kernel) (Nat.le_of_ble_eq_true rfl) hn9 ?_
  intro κ C hR
  show G κ n ρ 0 [(0, .ref g)] [] I
  obtain ⟨ga0, ga1, ga2, ga3, ga4, ga5, ga6, ga7, ga8, gan, hrf, hst⟩ := id hga
  have hrf0 := hrf.1
  have hst0 := hst.1
  refine g_aload_n C (pc := 0) dX3_clear_0 0 rfl ?_
  refine g_getR C (pc := 1) fl_RX3_12 (by decide) (by first | assumption | rfl | omega) (by first | assumption | rfl | omega) (by first | assumption | rfl | omega) dX3_clear_1 ?_
  refine g_callVV C (pc := 4) mf_X5_clear lk_RX3_35 (c_X5_clear n ρ I (g + 1) hn9 hrf) (by decide) (Nat.le_refl _) rfl (by first | assumption | rfl | omega) rfl (by first | assumption | rfl | omega) (Nat.le_of_ble_eq_true rfl) dX3_clear_4 (fun I4 h4 => ?_)
  obtain ⟨a4, b4, d4, e4, f4, g4⟩ := h4
  refine g_aload_n C (pc := 7) dX3_clear_7 0 rfl ?_
  refine g_getR C (pc := 8) fl_RX3_21 (by decide) (by first | assumption | rfl | omega) (by first | assumption | rfl | omega) (by first | assumption | rfl | omega) dX3_clear_8 ?_
  refine g_callVV C (pc := 11) mf_X8_clear lk_RX3_38 (c_X8_clear n ρ I4 (g + 5) hn9 hst) (by decide) (Nat.le_refl _) rfl (by first | assumption | rfl | omega) rfl (by first | assumption | rfl | omega) (Nat.le_of_ble_eq_true rfl) dX3_clear_11 (fun I11 h11 => ?_)
  obtain ⟨a11, b11, d11, g11⟩ := h11
  refine g_aload_n C (pc := 14) dX3_clear_14 0 rfl ?_
  refine g_iconst C (pc := 15) 0 dX3_clear_15 (by decide) ?_
  refine g_putI C (pc := 16) fl_RX3_39 (by decide) fp_2_5 (Or.inl rfl) ⟨rfl, rfl⟩ (by first | assumption | rfl | omega) (by first | assumption | rfl | omega) hn9 dX3_clear_16 ?_
  refine g_aload_n C (pc := 19) dX3_clear_19 0 rfl ?_
  refine g_iconst C (pc := 20) 0 dX3_clear_20 (by decide) ?_
  refine g_putI C (pc := 21) fl_RX3_43 (by decide) fp_2_6 (Or.inl rfl) ⟨rfl, rfl⟩ (by first | assumption | rfl | omega) (by first | assumption | rfl | omega) hn9 dX3_clear_21 ?_
  refine g_aload_n C (pc := 24) dX3_clear_24 0 rfl ?_
  refine g_iconst C (pc := 25) 0 dX3_clear_25 (by decide) ?_
  refine g_putI C (pc := 26) fl_RX3_46 (by decide) fp_2_7 (Or.inl rfl) ⟨rfl, rfl⟩ (by first | assumption | rfl | omega) (by first | assumption | rfl | omega) hn9 dX3_clear_26 ?_
  refine g_vret C hR (pc := 29) rfl dX3_clear_29 ?_
  refine ⟨rfl, rfl, ?_⟩
  refine ⟨fun k hk => ?_, ?_, ?_, ?_, ?_, fun k hk => ?_, fun k hk => ?_, ?_, ?_, ?_, ?_, fun i h1 => ?_⟩
  · rw [wr_n (by omega), wr_n (by omega), wr_n (by omega), g11 _ (by omega) (by omega) (by omega) (by omega)]; exact a4 k hk
  · rw [wr_n (by omega), wr_n (by omega), wr_n (by omega), g11 _ (by omega) (by omega) (by omega) (by omega)]; exact b4
  · rw [wr_n (by omega), wr_n (by omega), wr_n (by omega), g11 _ (by omega) (by omega) (by omega) (by omega)]; exact d4
  · rw [wr_n (by omega), wr_n (by omega), wr_n (by omega), g11 _ (by omega) (by omega) (by omega) (by omega)]; exact e4
  · rw [wr_n (by omega), wr_n (by omega), wr_n (by omega), g11 _ (by omega) (by omega) (by omega) (by omega)]; exact f4
  · rw [wr_n (by omega), wr_n (by omega), wr_n (by omega), wr_n (by omega), wr_n (by omega), wr_n (by omega)]; exact a11 k hk
  · rw [wr_n (by omega), wr_n (by omega), wr_n (by omega)]; exact b11 k hk
  · rw [wr_n (by omega), wr_n (by omega), wr_n (by omega)]; exact d11
  · rw [wr_sn (by decide), wr_sn (by decide), wr_ss]
  · rw [wr_sn (by decide), wr_ss]
  · exact wr_ss
  · rw [wr_n (by omega), wr_n (by omega), wr_n (by omega), g11 i (by omega) (by omega) (by omega) (by omega), g4 i (by omega) (by omega)]
set_option maxHeartbeats 400000 in
theorem c_X3_addSeen (n : Nat) (ρ : Rho) (I : Mem) (g k : Nat) (x z : Int32) (hn9 : n ≤ 999) (hga : GaS n ρ g) (hgk : I g 6 = nI k) (hk : k ≤ 8) : MI yX3_addSeen cX3_addSeen 3 (some .boolean) 0 [.ref g, .int x, .int z] n ρ I (fun v I1 => (k < 8 ∧ v = 1 ∧ wr (wr (wr I (g + 9) k x) (g + 10) k z) g 6 (nI (k + 1)) = I1) ∨ (8 ≤ k ∧ v = 0 ∧ I = I1)) := by
  refine MG.of (by decide +kernel) (Nat.le_of_ble_eq_true rfl) hn9 ?_
  intro κ C hR
  show G κ n ρ 0 [(0, .ref g), (1, .int x), (2, .int z)] [] I
  obtain ⟨ga0, ga1, ga2, ga3, ga4, ga5, ga6, ga7, ga8, gan, hrf, hst⟩ := id hga
  have hrf0 := hrf.1
  have hst0 := hst.1
  refine g_aload_n C (pc := 0) dX3_addSeen_0 0 rfl ?_
  refine g_getI C (pc := 1) fl_RX3_43 (by decide) (by first | assumption | rfl | omega) (by first | assumption | rfl | omega) dX3_addSeen_1 ?_
  refine g_if_lt C (pc := 4) 16 dX3_addSeen_4 (by decide) (fun c4 => ?_) (fun c4 => ?_)
  · rw [hgk] at c4; exact absurd c4 (nI_pos (by omega))
  · refine g_aload_n C (pc := 7) dX3_addSeen_7 0 rfl ?_
    refine g_getI C (pc := 8) fl_RX3_43 (by decide) (by first | assumption | rfl | omega) (by first | assumption | rfl | omega) dX3_addSeen_8 ?_
    refine g_bipush C (pc := 11) 8 dX3_addSeen_11 (by decide) ?_
    refine g_icmp_lt C (pc := 13) 18 dX3_addSeen_13 (by decide) (fun c13 => ?_) (fun c13 => ?_)
    · rw [hgk] at c13
      have hlt : k < 8 := (nI_ltI (a := k) (b := 8) (by omega) (by decide)).mp c13
      refine g_aload_n C (pc := 18) dX3_addSeen_18 0 rfl ?_
      refine g_getR C (pc := 19) fl_RX3_25 (by decide) (by first | assumption | rfl | omega) (by first | assumption | rfl | omega) (by first | assumption | rfl | omega) dX3_addSeen_19 ?_
      refine g_aload_n C (pc := 22) dX3_addSeen_22 0 rfl ?_
      refine g_getI C (pc := 23) fl_RX3_43 (by decide) (by first | assumption | rfl | omega) (by first | assumption | rfl | omega) dX3_addSeen_23 ?_
      rw [hgk]
      refine g_iload_n C (pc := 26) dX3_addSeen_26 1 rfl ?_
      refine g_iast C (pc := 27) (by first | assumption | rfl | omega) (by first | assumption | rfl | omega) hn9 (vp_in_nI (by omega) (by decide)) dX3_addSeen_27 ?_
      refine g_aload_n C (pc := 28) dX3_addSeen_28 0 rfl ?_
      refine g_getR C (pc := 29) fl_RX3_29 (by decide) (by first | assumption | rfl | omega) (by first | assumption | rfl | omega) (by first | assumption | rfl | omega) dX3_addSeen_29 ?_
      refine g_aload_n C (pc := 32) dX3_addSeen_32 0 rfl ?_
      refine g_getI C (pc := 33) fl_RX3_43 (by decide) (by first | assumption | rfl | omega) (by first | assumption | rfl | omega) dX3_addSeen_33 ?_
      rw [wr_n (by omega), hgk]
      refine g_iload_n C (pc := 36) dX3_addSeen_36 2 rfl ?_
      refine g_iast C (pc := 37) (by first | assumption | rfl | omega) (by first | assumption | rfl | omega) hn9 (vp_in_nI (by omega) (by decide)) dX3_addSeen_37 ?_
      refine g_aload_n C (pc := 38) dX3_addSeen_38 0 rfl ?_
      refine g_dup C (pc := 39) dX3_addSeen_39 rfl ?_
      refine g_getI C (pc := 40) fl_RX3_43 (by decide) (by first | assumption | rfl | omega) (by first | assumption | rfl | omega) dX3_addSeen_40 ?_
      rw [wr_n (by omega), wr_n (by omega), hgk]
      refine g_iconst C (pc := 43) 1 dX3_addSeen_43 (by decide) ?_
      refine g_iadd C (pc := 44) dX3_addSeen_44 ?_
      refine g_putI C (pc := 45) fl_RX3_43 (by decide) fp_2_6 (Or.inl rfl) ⟨rfl, rfl⟩ (by first | assumption | rfl | omega) (by first | assumption | rfl | omega) hn9 dX3_addSeen_45 ?_
      refine g_iconst C (pc := 48) 1 dX3_addSeen_48 (by decide) ?_
      refine g_zret C hR (pc := 49) rfl rfl dX3_addSeen_49 ?_
      refine ⟨rfl, _, rfl, ?_⟩
      refine Or.inl ⟨hlt, rfl, ?_⟩
      rw [nI_clamp (by omega), nI_1]
    · rw [hgk] at c13
      have hge : 8 ≤ k := (nI_leI (a := 8) (b := k) (by decide) (by omega)).mp c13
      refine g_iconst C (pc := 16) 0 dX3_addSeen_16 (by decide) ?_
      refine g_zret C hR (pc := 17) rfl rfl dX3_addSeen_17 ?_
      refine ⟨rfl, _, rfl, ?_⟩
      exact Or.inr ⟨hge, rfl, rfl⟩
set_option maxHeartbeats 400000 in
theorem c_X3_addTold (n : Nat) (ρ : Rho) (I : Mem) (g k : Nat) (x : Int32) (hn9 : n ≤ 999) (hga : GaS n ρ g) (hgk : I g 7 = nI k) (hk : k ≤ 3) : MI yX3_addTold cX3_addTold 2 (some .boolean) 0 [.ref g, .int x] n ρ I (fun v I1 => (k < 3 ∧ v = 1 ∧ wr (wr I (g + 11) k x) g 7 (nI (k + 1)) = I1) ∨ (3 ≤ k ∧ v = 0 ∧ I = I1)) := by
  refine MG.of (by decide +kernel) (Nat.le_of_ble_eq_true rfl) hn9 ?_
  intro κ C hR
  show G κ n ρ 0 [(0, .ref g), (1, .int x)] [] I
  obtain ⟨ga0, ga1, ga2, ga3, ga4, ga5, ga6, ga7, ga8, gan, hrf, hst⟩ := id hga
  have hrf0 := hrf.1
  have hst0 := hst.1
  refine g_aload_n C (pc := 0) dX3_addTold_0 0 rfl ?_
  refine g_getI C (pc := 1) fl_RX3_46 (by decide) (by first | assumption | rfl | omega) (by first | assumption | rfl | omega) dX3_addTold_1 ?_
  refine g_if_lt C (pc := 4) 15 dX3_addTold_4 (by decide) (fun c4 => ?_) (fun c4 => ?_)
  · rw [hgk] at c4; exact absurd c4 (nI_pos (by omega))
  · refine g_aload_n C (pc := 7) dX3_addTold_7 0 rfl ?_
    refine g_getI C (pc := 8) fl_RX3_46 (by decide) (by first | assumption | rfl | omega) (by first | assumption | rfl | omega) dX3_addTold_8 ?_
    refine g_iconst C (pc := 11) 3 dX3_addTold_11 (by decide) ?_
    refine g_icmp_lt C (pc := 12) 17 dX3_addTold_12 (by decide) (fun c12 => ?_) (fun c12 => ?_)
    · rw [hgk] at c12
      have hlt : k < 3 := (nI_ltI (a := k) (b := 3) (by omega) (by decide)).mp c12
      refine g_aload_n C (pc := 17) dX3_addTold_17 0 rfl ?_
      refine g_getR C (pc := 18) fl_RX3_32 (by decide) (by first | assumption | rfl | omega) (by first | assumption | rfl | omega) (by first | assumption | rfl | omega) dX3_addTold_18 ?_
      refine g_aload_n C (pc := 21) dX3_addTold_21 0 rfl ?_
      refine g_getI C (pc := 22) fl_RX3_46 (by decide) (by first | assumption | rfl | omega) (by first | assumption | rfl | omega) dX3_addTold_22 ?_
      rw [hgk]
      refine g_iload_n C (pc := 25) dX3_addTold_25 1 rfl ?_
      refine g_iast C (pc := 26) (by first | assumption | rfl | omega) (by first | assumption | rfl | omega) hn9 (vp_in_nI (by omega) (by decide)) dX3_addTold_26 ?_
      refine g_aload_n C (pc := 27) dX3_addTold_27 0 rfl ?_
      refine g_dup C (pc := 28) dX3_addTold_28 rfl ?_
      refine g_getI C (pc := 29) fl_RX3_46 (by decide) (by first | assumption | rfl | omega) (by first | assumption | rfl | omega) dX3_addTold_29 ?_
      rw [wr_n (by omega), hgk]
      refine g_iconst C (pc := 32) 1 dX3_addTold_32 (by decide) ?_
      refine g_iadd C (pc := 33) dX3_addTold_33 ?_
      refine g_putI C (pc := 34) fl_RX3_46 (by decide) fp_2_7 (Or.inl rfl) ⟨rfl, rfl⟩ (by first | assumption | rfl | omega) (by first | assumption | rfl | omega) hn9 dX3_addTold_34 ?_
      refine g_iconst C (pc := 37) 1 dX3_addTold_37 (by decide) ?_
      refine g_zret C hR (pc := 38) rfl rfl dX3_addTold_38 ?_
      refine ⟨rfl, _, rfl, ?_⟩
      refine Or.inl ⟨hlt, rfl, ?_⟩
      rw [nI_clamp (by omega), nI_1]
    · rw [hgk] at c12
      have hge : 3 ≤ k := (nI_leI (a := 3) (b := k) (by decide) (by omega)).mp c12
      refine g_iconst C (pc := 15) 0 dX3_addTold_15 (by decide) ?_
      refine g_zret C hR (pc := 16) rfl rfl dX3_addTold_16 ?_
      refine ⟨rfl, _, rfl, ?_⟩
      exact Or.inr ⟨hge, rfl, rfl⟩
set_option maxHeartbeats 400000 in
theorem c_X3_copyFrom (n : Nat) (ρ : Rho) (I : Mem) (g o : Nat) (hn9 : n ≤ 999) (hga : GaS n ρ g) (hgo : GaS n ρ o) (hdis : ∀ i k, i ≤ 11 → k ≤ 11 → o + i ≠ g + k) : MV yX3_copyFrom cX3_copyFrom 2 none 2 [.ref g, .ref o] n ρ I (fun I1 => ((∀ k, k < 6 → I1 (g + 2) k = I (o + 2) k) ∧ (∀ k, k < 6 → I1 (g + 3) k = I (o + 3) k) ∧ (∀ k, k < 5 → I1 (g + 4) k = I (o + 4) k) ∧ (∀ k, 3 ≤ k → k < 7 → I1 (g + 1) k = I (o + 1) k)) ∧ ((∀ k, k < 6 → I1 (g + 6) k = I (o + 6) k) ∧ (∀ k, k < 6 → I1 (g + 7) k = I (o + 7) k) ∧ (∀ k, k < 2 → I1 (g + 8) k = I (o + 8) k) ∧ I1 (g + 5) 3 = I (o + 5) 3) ∧ ((∀ k, k < 8 → I1 (g + 9) k = I (o + 9) k) ∧ (∀ k, k < 8 → I1 (g + 10) k = I (o + 10) k) ∧ (∀ k, k < 3 → I1 (g + 11) k = I (o + 11) k) ∧ I1 g 5 = I o 5 ∧ I1 g 6 = I o 6 ∧ I1 g 7 = I o 7) ∧ ∀ i, ¬ (g ≤ i ∧ i ≤ g + 11) → I1 i = I i) := by
  refine MG.of (by decide +kernel) (Nat.le_of_ble_eq_true rfl) hn9 ?_
  intro κ C hR
  show G κ n ρ 0 [(0, .ref g), (1, .ref o)] [] I
  obtain ⟨ga0, ga1, ga2, ga3, ga4, ga5, ga6, ga7, ga8, gan, hrf, hst⟩ := id hga
  have hrf0 := hrf.1
  have hst0 := hst.1
  obtain ⟨go0, go1, go2, go3, go4, go5, go6, go7, go8, gon, hro, hso⟩ := id hgo
  have hro0 := hro.1
  have hso0 := hso.1
  have q : ∀ i k, i ≤ 11 → k ≤ 11 → o + i ≠ g + k := hdis
  refine g_aload_n C (pc := 0) dX3_copyFrom_0 0 rfl ?_
  refine g_getR C (pc := 1) fl_RX3_12 (by decide) (by first | assumption | rfl | omega) (by first | assumption | rfl | omega) (by first | assumption | rfl | omega) dX3_copyFrom_1 ?_
  refine g_aload_n C (pc := 4) dX3_copyFrom_4 1 rfl ?_
  refine g_getR C (pc := 5) fl_RX3_12 (by decide) (by first | assumption | rfl | omega) (by first | assumption | rfl | omega) (by first | assumption | rfl | omega) dX3_copyFrom_5 ?_
  refine g_callVV C (pc := 8) mf_X5_copyFrom lk_RX3_49 (c_X5_copyFrom n ρ I (g + 1) (o + 1) hn9 hrf hro (fun i k h1 h2 => by have := q (i + 1) (k + 1) (by omega) (by omega); omega)) (by decide) (Nat.le_refl _) rfl (by first | assumption | rfl | omega) rfl (by first | assumption | rfl | omega) (Nat.le_of_ble_eq_true rfl) dX3_copyFrom_8 (fun I8 h8 => ?_)
  obtain ⟨a8, b8, d8, f8, g8⟩ := h8
  refine g_aload_n C (pc := 11) dX3_copyFrom_11 0 rfl ?_
  refine g_getR C (pc := 12) fl_RX3_21 (by decide) (by first | assumption | rfl | omega) (by first | assumption | rfl | omega) (by first | assumption | rfl | omega) dX3_copyFrom_12 ?_
  refine g_aload_n C (pc := 15) dX3_copyFrom_15 1 rfl ?_
  refine g_getR C (pc := 16) fl_RX3_21 (by decide) (by first | assumption | rfl | omega) (by first | assumption | rfl | omega) (by first | assumption | rfl | omega) dX3_copyFrom_16 ?_
  refine g_callVV C (pc := 19) mf_X8_copyFrom lk_RX3_53 (c_X8_copyFrom n ρ I8 (g + 5) (o + 5) hn9 hst hso (fun i k h1 h2 => by have := q (i + 5) (k + 5) (by omega) (by omega); omega)) (by decide) (Nat.le_refl _) rfl (by first | assumption | rfl | omega) rfl (by first | assumption | rfl | omega) (Nat.le_of_ble_eq_true rfl) dX3_copyFrom_19 (fun I19 h19 => ?_)
  obtain ⟨a19, b19, d19, f19, g19⟩ := h19
  refine g_aload_n C (pc := 22) dX3_copyFrom_22 1 rfl ?_
  refine g_getR C (pc := 23) fl_RX3_25 (by decide) (by first | assumption | rfl | omega) (by first | assumption | rfl | omega) (by first | assumption | rfl | omega) dX3_copyFrom_23 ?_
  refine g_iconst C (pc := 26) 0 dX3_copyFrom_26 (by decide) ?_
  refine g_aload_n C (pc := 27) dX3_copyFrom_27 0 rfl ?_
  refine g_getR C (pc := 28) fl_RX3_25 (by decide) (by first | assumption | rfl | omega) (by first | assumption | rfl | omega) (by first | assumption | rfl | omega) dX3_copyFrom_28 ?_
  refine g_iconst C (pc := 31) 0 dX3_copyFrom_31 (by decide) ?_
  refine g_bipush C (pc := 32) 8 dX3_copyFrom_32 (by decide) ?_
  refine g_copy C (pc := 34) gl_RX3_56 gw_acn gw_acs gw_aci (by first | assumption | rfl | omega) (by first | assumption | rfl | omega) (by first | assumption | rfl | omega) (by first | assumption | rfl | omega) hn9 0 0 8 rfl rfl rfl (by decide) (by decide) (by decide) (by decide) (Nat.le_of_ble_eq_true rfl) (by decide) dX3_copyFrom_34 ?_
  refine g_aload_n C (pc := 37) dX3_copyFrom_37 1 rfl ?_
  refine g_getR C (pc := 38) fl_RX3_29 (by decide) (by first | assumption | rfl | omega) (by first | assumption | rfl | omega) (by first | assumption | rfl | omega) dX3_copyFrom_38 ?_
  refine g_iconst C (pc := 41) 0 dX3_copyFrom_41 (by decide) ?_
  refine g_aload_n C (pc := 42) dX3_copyFrom_42 0 rfl ?_
  refine g_getR C (pc := 43) fl_RX3_29 (by decide) (by first | assumption | rfl | omega) (by first | assumption | rfl | omega) (by first | assumption | rfl | omega) dX3_copyFrom_43 ?_
  refine g_iconst C (pc := 46) 0 dX3_copyFrom_46 (by decide) ?_
  refine g_bipush C (pc := 47) 8 dX3_copyFrom_47 (by decide) ?_
  refine g_copy C (pc := 49) gl_RX3_56 gw_acn gw_acs gw_aci (by first | assumption | rfl | omega) (by first | assumption | rfl | omega) (by first | assumption | rfl | omega) (by first | assumption | rfl | omega) hn9 0 0 8 rfl rfl rfl (by decide) (by decide) (by decide) (by decide) (Nat.le_of_ble_eq_true rfl) (by decide) dX3_copyFrom_49 ?_
  refine g_aload_n C (pc := 52) dX3_copyFrom_52 1 rfl ?_
  refine g_getR C (pc := 53) fl_RX3_32 (by decide) (by first | assumption | rfl | omega) (by first | assumption | rfl | omega) (by first | assumption | rfl | omega) dX3_copyFrom_53 ?_
  refine g_iconst C (pc := 56) 0 dX3_copyFrom_56 (by decide) ?_
  refine g_aload_n C (pc := 57) dX3_copyFrom_57 0 rfl ?_
  refine g_getR C (pc := 58) fl_RX3_32 (by decide) (by first | assumption | rfl | omega) (by first | assumption | rfl | omega) (by first | assumption | rfl | omega) dX3_copyFrom_58 ?_
  refine g_iconst C (pc := 61) 0 dX3_copyFrom_61 (by decide) ?_
  refine g_iconst C (pc := 62) 3 dX3_copyFrom_62 (by decide) ?_
  refine g_copy C (pc := 63) gl_RX3_56 gw_acn gw_acs gw_aci (by first | assumption | rfl | omega) (by first | assumption | rfl | omega) (by first | assumption | rfl | omega) (by first | assumption | rfl | omega) hn9 0 0 3 rfl rfl rfl (by decide) (by decide) (by decide) (by decide) (Nat.le_of_ble_eq_true rfl) (by decide) dX3_copyFrom_63 ?_
  refine g_aload_n C (pc := 66) dX3_copyFrom_66 0 rfl ?_
  refine g_aload_n C (pc := 67) dX3_copyFrom_67 1 rfl ?_
  refine g_getI C (pc := 68) fl_RX3_39 (by decide) (by first | assumption | rfl | omega) (by first | assumption | rfl | omega) dX3_copyFrom_68 ?_
  refine g_putI C (pc := 71) fl_RX3_39 (by decide) fp_2_5 (Or.inl rfl) ⟨rfl, rfl⟩ (by first | assumption | rfl | omega) (by first | assumption | rfl | omega) hn9 dX3_copyFrom_71 ?_
  refine g_aload_n C (pc := 74) dX3_copyFrom_74 0 rfl ?_
  refine g_aload_n C (pc := 75) dX3_copyFrom_75 1 rfl ?_
  refine g_getI C (pc := 76) fl_RX3_43 (by decide) (by first | assumption | rfl | omega) (by first | assumption | rfl | omega) dX3_copyFrom_76 ?_
  refine g_putI C (pc := 79) fl_RX3_43 (by decide) fp_2_6 (Or.inl rfl) ⟨rfl, rfl⟩ (by first | assumption | rfl | omega) (by first | assumption | rfl | omega) hn9 dX3_copyFrom_79 ?_
  refine g_aload_n C (pc := 82) dX3_copyFrom_82 0 rfl ?_
  refine g_aload_n C (pc := 83) dX3_copyFrom_83 1 rfl ?_
  refine g_getI C (pc := 84) fl_RX3_46 (by decide) (by first | assumption | rfl | omega) (by first | assumption | rfl | omega) dX3_copyFrom_84 ?_
  refine g_putI C (pc := 87) fl_RX3_46 (by decide) fp_2_7 (Or.inl rfl) ⟨rfl, rfl⟩ (by first | assumption | rfl | omega) (by first | assumption | rfl | omega) hn9 dX3_copyFrom_87 ?_
  refine g_vret C hR (pc := 90) rfl dX3_copyFrom_90 ?_
  refine ⟨rfl, rfl, ?_⟩
  have k19 : ∀ i, ¬ (g + 1 ≤ i ∧ i ≤ g + 8) → I19 i = I i := fun i hi => (g19 i (by omega) (by omega) (by omega) (by omega)).trans (g8 i (by omega) (by omega) (by omega) (by omega))
  have k8o : ∀ i, i ≤ 11 → I8 (o + i) = I (o + i) := fun i hi => g8 _ (q i 1 hi (by decide)) (q i 2 hi (by decide)) (q i 3 hi (by decide)) (q i 4 hi (by decide))
  have k19o : ∀ i, i ≤ 11 → I19 (o + i) = I (o + i) := fun i hi => (g19 _ (q i 5 hi (by decide)) (q i 6 hi (by decide)) (q i 7 hi (by decide)) (q i 8 hi (by decide))).trans (k8o i hi)
  have k19z : I19 o = I o := k19o 0 (by decide)
  have qz : o ≠ g := q 0 0 (by decide) (by decide)
  refine ⟨⟨fun k hk => ?_, fun k hk => ?_, fun k hk => ?_, fun k h3 hk => ?_⟩, ⟨fun k hk => ?_, fun k hk => ?_, fun k hk => ?_, ?_⟩, ⟨fun k hk => ?_, fun k hk => ?_, fun k hk => ?_, ?_, ?_, ?_⟩, fun i h1 => ?_⟩
  · rw [wr_n (by omega), wr_n (by omega), wr_n (by omega), wrA_n (by omega), wrA_n (by omega), wrA_n (by omega), g19 _ (by omega) (by omega) (by omega) (by omega)]; exact a8 k hk
  · rw [wr_n (by omega), wr_n (by omega), wr_n (by omega), wrA_n (by omega), wrA_n (by omega), wrA_n (by omega), g19 _ (by omega) (by omega) (by omega) (by omega)]; exact b8 k hk
  · rw [wr_n (by omega), wr_n (by omega), wr_n (by omega), wrA_n (by omega), wrA_n (by omega), wrA_n (by omega), g19 _ (by omega) (by omega) (by omega) (by omega)]; exact d8 k hk
  · rw [wr_n (by omega), wr_n (by omega), wr_n (by omega), wrA_n (by omega), wrA_n (by omega), wrA_n (by omega), g19 _ (by omega) (by omega) (by omega) (by omega)]; exact f8 k h3 hk
  · rw [wr_n (by omega), wr_n (by omega), wr_n (by omega), wrA_n (by omega), wrA_n (by omega), wrA_n (by omega)]; exact (a19 k hk).trans (congrFun (k8o 6 (by decide)) k)
  · rw [wr_n (by omega), wr_n (by omega), wr_n (by omega), wrA_n (by omega), wrA_n (by omega), wrA_n (by omega)]; exact (b19 k hk).trans (congrFun (k8o 7 (by decide)) k)
  · rw [wr_n (by omega), wr_n (by omega), wr_n (by omega), wrA_n (by omega), wrA_n (by omega), wrA_n (by omega)]; exact (d19 k hk).trans (congrFun (k8o 8 (by decide)) k)
  · rw [wr_n (by omega), wr_n (by omega), wr_n (by omega), wrA_n (by omega), wrA_n (by omega), wrA_n (by omega)]; exact f19.trans (congrFun (k8o 5 (by decide)) 3)
  · rw [wr_n (by omega), wr_n (by omega), wr_n (by omega), wrA_n (by omega), wrA_n (by omega), wrA_s, cpy0 hk, k19o 9 (by decide)]
  · rw [wr_n (by omega), wr_n (by omega), wr_n (by omega), wrA_n (by omega), wrA_s, cpy0 hk, wrA_n (q 10 9 (by decide) (by decide)), k19o 10 (by decide)]
  · rw [wr_n (by omega), wr_n (by omega), wr_n (by omega), wrA_s, cpy0 hk, wrA_n (q 11 10 (by decide) (by decide)), wrA_n (q 11 9 (by decide) (by decide)), k19o 11 (by decide)]
  · rw [wr_sn (by decide), wr_sn (by decide), wr_ss, wrA_n (show o ≠ g + 11 from q 0 11 (by decide) (by decide)), wrA_n (show o ≠ g + 10 from q 0 10 (by decide) (by decide)), wrA_n (show o ≠ g + 9 from q 0 9 (by decide) (by decide)), k19z]
  · rw [wr_sn (by decide), wr_ss, wr_n qz, wrA_n (show o ≠ g + 11 from q 0 11 (by decide) (by decide)), wrA_n (show o ≠ g + 10 from q 0 10 (by decide) (by decide)), wrA_n (show o ≠ g + 9 from q 0 9 (by decide) (by decide)), k19z]
  · rw [wr_ss, wr_n qz, wr_n qz, wrA_n (show o ≠ g + 11 from q 0 11 (by decide) (by decide)), wrA_n (show o ≠ g + 10 from q 0 10 (by decide) (by decide)), wrA_n (show o ≠ g + 9 from q 0 9 (by decide) (by decide)), k19z]
  · rw [wr_n (by omega), wr_n (by omega), wr_n (by omega), wrA_n (by omega), wrA_n (by omega), wrA_n (by omega), k19 i (by omega)]
set_option maxHeartbeats 400000 in
theorem c_X3_addPiece (n : Nat) (ρ : Rho) (I : Mem) (g k sd : Nat) (x z w v : Int32) (hn9 : n ≤ 999) (hga : GaS n ρ g) (hgk : I (g + 1) 6 = nI k) (hk : k ≤ 6) (hz : z = nI sd) (hsd : sd < 2) : MV yX3_addPiece cX3_addPiece 6 none 2 [.ref g, .int x, .int z, .int w, .int v] n ρ I (fun I1 => (k < 6 ∧ addK I g k sd x w v = I1) ∨ (6 ≤ k ∧ I = I1)) := by
  refine MG.of (by decide +kernel) (Nat.le_of_ble_eq_true rfl) hn9 ?_
  intro κ C hR
  show G κ n ρ 0 [(0, .ref g), (1, .int x), (2, .int z), (3, .int w), (4, .int v)] [] I
  subst hz
  obtain ⟨ga0, ga1, ga2, ga3, ga4, ga5, ga6, ga7, ga8, gan, hrf, hst⟩ := id hga
  have hrf0 := hrf.1
  have hst0 := hst.1
  obtain ⟨hq0, hq1, hq2, hq3, hqn, ht0, ht1, ht2⟩ := id hrf
  refine g_aload_n C (pc := 0) dX3_addPiece_0 0 rfl ?_
  refine g_getR C (pc := 1) fl_RX3_12 (by decide) (by first | assumption | rfl | omega) (by first | assumption | rfl | omega) (by first | assumption | rfl | omega) dX3_addPiece_1 ?_
  refine g_getI C (pc := 4) fl_RX3_62 (by decide) (by first | assumption | rfl | omega) (by first | assumption | rfl | omega) dX3_addPiece_4 ?_
  rw [hgk]
  refine g_istore C (pc := 7) dX3_addPiece_7 (by decide) (fun v7 => [(5, .int v7), (0, .ref g), (1, .int x), (2, .int (nI sd)), (3, .int w), (4, .int v)]) (fun _ => rfl) (fun v7 ev7 => ?_)
  subst ev7
  refine g_iload C (pc := 9) dX3_addPiece_9 0 rfl ?_
  refine g_if_lt C (pc := 11) 21 dX3_addPiece_11 (by decide) (fun c11 => ?_) (fun c11 => ?_)
  · exact absurd c11 (nI_pos (by omega))
  · refine g_iload C (pc := 14) dX3_addPiece_14 0 rfl ?_
    refine g_bipush C (pc := 16) 6 dX3_addPiece_16 (by decide) ?_
    refine g_icmp_lt C (pc := 18) 22 dX3_addPiece_18 (by decide) (fun c18 => ?_) (fun c18 => ?_)
    · have hlt : k < 6 := (nI_ltI (a := k) (b := 6) (by omega) (by decide)).mp c18
      refine g_aload_n C (pc := 22) dX3_addPiece_22 1 rfl ?_
      refine g_getR C (pc := 23) fl_RX3_12 (by decide) (by first | assumption | rfl | omega) (by first | assumption | rfl | omega) (by first | assumption | rfl | omega) dX3_addPiece_23 ?_
      refine g_iload C (pc := 26) dX3_addPiece_26 0 rfl ?_
      refine g_iconst C (pc := 28) 1 dX3_addPiece_28 (by decide) ?_
      refine g_iadd C (pc := 29) dX3_addPiece_29 ?_
      rw [nI_1]
      refine g_putI C (pc := 30) fl_RX3_62 (by decide) fp_4_6 (Or.inl rfl) ⟨rfl, rfl⟩ (by first | assumption | rfl | omega) (by first | assumption | rfl | omega) hn9 dX3_addPiece_30 ?_
      refine g_aload_n C (pc := 33) dX3_addPiece_33 1 rfl ?_
      refine g_getR C (pc := 34) fl_RX3_12 (by decide) (by first | assumption | rfl | omega) (by first | assumption | rfl | omega) (by first | assumption | rfl | omega) dX3_addPiece_34 ?_
      refine g_getR C (pc := 37) fl_RX3_65 (by decide) (by first | assumption | rfl | omega) (by first | assumption | rfl | omega) (by first | assumption | rfl | omega) dX3_addPiece_37 ?_
      refine g_iload C (pc := 40) dX3_addPiece_40 0 rfl ?_
      refine g_iload_n C (pc := 42) dX3_addPiece_42 2 rfl ?_
      refine g_iast C (pc := 43) (by first | assumption | rfl | omega) (by first | assumption | rfl | omega) hn9 (vp_in_nI (by omega) (by decide)) dX3_addPiece_43 ?_
      rw [nI_clamp (by omega)]
      refine g_aload_n C (pc := 44) dX3_addPiece_44 1 rfl ?_
      refine g_getR C (pc := 45) fl_RX3_12 (by decide) (by first | assumption | rfl | omega) (by first | assumption | rfl | omega) (by first | assumption | rfl | omega) dX3_addPiece_45 ?_
      refine g_getR C (pc := 48) fl_RX3_68 (by decide) (by first | assumption | rfl | omega) (by first | assumption | rfl | omega) (by first | assumption | rfl | omega) dX3_addPiece_48 ?_
      refine g_iload C (pc := 51) dX3_addPiece_51 0 rfl ?_
      refine g_iload_n C (pc := 53) dX3_addPiece_53 3 rfl ?_
      refine g_iast C (pc := 54) (by first | assumption | rfl | omega) (by first | assumption | rfl | omega) hn9 (vp_in_nI (by omega) (by decide)) dX3_addPiece_54 ?_
      rw [nI_clamp (by omega)]
      refine g_aload_n C (pc := 55) dX3_addPiece_55 1 rfl ?_
      refine g_getR C (pc := 56) fl_RX3_21 (by decide) (by first | assumption | rfl | omega) (by first | assumption | rfl | omega) (by first | assumption | rfl | omega) dX3_addPiece_56 ?_
      refine g_aload_n C (pc := 59) dX3_addPiece_59 1 rfl ?_
      refine g_getR C (pc := 60) fl_RX3_12 (by decide) (by first | assumption | rfl | omega) (by first | assumption | rfl | omega) (by first | assumption | rfl | omega) dX3_addPiece_60 ?_
      refine g_iload C (pc := 63) dX3_addPiece_63 0 rfl ?_
      refine g_iload_n C (pc := 65) dX3_addPiece_65 4 rfl ?_
      refine g_callVV C (pc := 66) mf_X8_settle lk_RX3_71 (c_X8_settle n ρ (wr (wr (wr I (g + 1) 6 (nI (k + 1))) (g + 3) k x) (g + 2) k (nI sd)) (g + 5) (g + 1) (k + 1) k sd w hn9 hst hrf (by rw [wr_n (by omega), wr_n (by omega), wr_ss]) (by omega) (by omega) (by rw [wr_ss]) hsd) (by decide) (Nat.le_refl _) rfl (by first | assumption | rfl | omega) rfl (by first | assumption | rfl | omega) (Nat.le_of_ble_eq_true rfl) dX3_addPiece_66 (fun I66 h66 => ?_)
      obtain h66 := h66
      refine g_aload_n C (pc := 69) dX3_addPiece_69 1 rfl ?_
      refine g_getR C (pc := 70) fl_RX3_21 (by decide) (by first | assumption | rfl | omega) (by first | assumption | rfl | omega) (by first | assumption | rfl | omega) dX3_addPiece_70 ?_
      refine g_iload C (pc := 73) dX3_addPiece_73 0 rfl ?_
      refine g_iload C (pc := 75) dX3_addPiece_75 5 rfl ?_
      refine g_callVV C (pc := 77) mf_X8_fill lk_RX3_75 (c_X8_fill n ρ I66 (g + 5) (nI k) v hn9 hst) (by decide) (Nat.le_refl _) rfl (by first | assumption | rfl | omega) rfl (by first | assumption | rfl | omega) (Nat.le_of_ble_eq_true rfl) dX3_addPiece_77 (fun I77 h77 => ?_)
      obtain h77 := h77
      refine g_vret C hR (pc := 80) rfl dX3_addPiece_80 ?_
      refine ⟨rfl, rfl, ?_⟩
      refine Or.inl ⟨hlt, ?_⟩
      rw [if_pos ⟨nI_pos' (by omega), nI_lt (b := 6) hlt (by decide)⟩, nI_clamp (by omega)] at h77
      rw [← h77, ← h66]
      rfl
    · have hge : 6 ≤ k := (nI_leI (a := 6) (b := k) (by decide) (by omega)).mp c18
      refine g_vret C hR (pc := 21) rfl dX3_addPiece_21 ?_
      refine ⟨rfl, rfl, ?_⟩
      exact Or.inr ⟨hge, rfl⟩
set_option maxHeartbeats 400000 in
theorem c_X3_addTwoKings (n : Nat) (ρ : Rho) (I : Mem) (g : Nat) (hn9 : n ≤ 999) (hga : GaS n ρ g) (hgk : I (g + 1) 6 = nI 0) (h3 : I (g + 1) 3 = 3) (h4 : I (g + 1) 4 = 3) : MV yX3_addTwoKings cX3_addTwoKings 1 none 3 [.ref g] n ρ I (fun I1 => addK (addK I g 0 0 0 0 9) g 1 1 0 8 9 = I1) := by
  refine MG.of (by decide +kernel) (Nat.le_of_ble_eq_true rfl) hn9 ?_
  intro κ C hR
  show G κ n ρ 0 [(0, .ref g)] [] I
  obtain ⟨ga0, ga1, ga2, ga3, ga4, ga5, ga6, ga7, ga8, gan, hrf, hst⟩ := id hga
  have hrf0 := hrf.1
  have hst0 := hst.1
  refine g_aload_n C (pc := 0) dX3_addTwoKings_0 0 rfl ?_
  refine g_iconst C (pc := 1) 0 dX3_addTwoKings_1 (by decide) ?_
  refine g_iconst C (pc := 2) 0 dX3_addTwoKings_2 (by decide) ?_
  refine g_iconst C (pc := 3) 0 dX3_addTwoKings_3 (by decide) ?_
  refine g_bipush C (pc := 4) 9 dX3_addTwoKings_4 (by decide) ?_
  refine g_callVV C (pc := 6) mf_X3_addPiece lk_RX3_79 (c_X3_addPiece n ρ I g 0 0 0 0 0 9 hn9 hga hgk (by decide) rfl (by decide)) (by decide) (Nat.le_refl _) rfl (by first | assumption | rfl | omega) rfl (by first | assumption | rfl | omega) (Nat.le_of_ble_eq_true rfl) dX3_addTwoKings_6 (fun I6 h6 => ?_)
  obtain h6 := h6
  have h6b : addK I g 0 0 0 0 9 = I6 := by
    rcases h6 with h | h
    · exact h.2
    · exact absurd h.1 (by decide)
  have hk6 : I6 (g + 1) 6 = nI 1 := by rw [← h6b]; exact addK_6
  refine g_aload_n C (pc := 9) dX3_addTwoKings_9 0 rfl ?_
  refine g_iconst C (pc := 10) 0 dX3_addTwoKings_10 (by decide) ?_
  refine g_iconst C (pc := 11) 1 dX3_addTwoKings_11 (by decide) ?_
  refine g_aload_n C (pc := 12) dX3_addTwoKings_12 0 rfl ?_
  refine g_getR C (pc := 13) fl_RX3_12 (by decide) (by first | assumption | rfl | omega) (by first | assumption | rfl | omega) (by first | assumption | rfl | omega) dX3_addTwoKings_13 ?_
  refine g_callVI C (pc := 16) mf_X5_squares lk_RX3_83 (c_X5_squares n ρ I6 (g + 1) hn9 hrf) (by decide) (Nat.le_refl _) rfl (by first | assumption | rfl | omega) rfl (by first | assumption | rfl | omega) (Nat.le_of_ble_eq_true rfl) dX3_addTwoKings_16 (fun v16 I16 h16 => ?_)
  obtain ⟨e16, rfl⟩ := h16
  have h8 : v16 - 1 = 8 := by rw [e16, ← h6b, addK_o (by decide), addK_o (by decide), h3, h4]; decide
  refine g_iconst C (pc := 19) 1 dX3_addTwoKings_19 (by decide) ?_
  refine g_isub C (pc := 20) dX3_addTwoKings_20 ?_
  rw [h8]
  refine g_bipush C (pc := 21) 9 dX3_addTwoKings_21 (by decide) ?_
  refine g_callVV C (pc := 23) mf_X3_addPiece lk_RX3_79 (c_X3_addPiece n ρ I6 g 1 1 0 1 8 9 hn9 hga hk6 (by decide) rfl (by decide)) (by decide) (Nat.le_refl _) rfl (by first | assumption | rfl | omega) rfl (by first | assumption | rfl | omega) (Nat.le_of_ble_eq_true rfl) dX3_addTwoKings_23 (fun I23 h23 => ?_)
  obtain h23 := h23
  refine g_vret C hR (pc := 26) rfl dX3_addTwoKings_26 ?_
  refine ⟨rfl, rfl, ?_⟩
  rcases h23 with h | h
  · rw [← h.2, ← h6b]
  · exact absurd h.1 (by decide)
