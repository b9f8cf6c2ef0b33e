/-- the draft, as the reference keeps it -/
def DrM (I : Mem) (D : DT) : Prop := RW (dF D) ∧ BW (dF D) (dB D) ∧ (I 97 8 = nI (rW (dF D)) ∧ I 97 9 = nI (rH (dF D)) ∧ I 97 10 = nI (rN (dF D))) ∧ (∀ p, p < rN (dF D) → (I 103 p = nI (rSd (dF D) p) ∧ I 104 p = nI (rKd (dF D) p)) ∧ I 102 p = oI (bP (dB D) p) ∧ I 102 (6 + p) = nI (bO (dB D) p)) ∧ (∀ i, i < 32 → bt (I 102 12) i = rS (dF D) i) ∧ (∀ w, w < 5 → I 102 (13 + w) = nI (rOd (dF D) w)) ∧ (I 102 18 = nI (bM (dB D)) ∧ I 102 19 = 0 ∧ I 102 20 = 0 ∧ I 102 37 = 0) ∧ (bt (I 97 13) 0 = dBd D ∧ bt (I 97 13) 1 = dOd D ∧ bt (I 97 13) 2 = dTn D) ∧ ((∀ i, i < 25 → useB (dF D) (dB D) i = true → ∃ q, q < 25 ∧ I 97 14 = nI q ∧ i ≤ q) ∧ (I 97 14 = -4 ∨ ∃ q, q < 25 ∧ I 97 14 = nI q ∧ useB (dF D) (dB D) q = true))
theorem dr0_rw : RW (dF dr0) := ⟨by decide, by decide, by decide, by decide, by decide, fun p hp => absurd hp (Nat.not_lt_zero p), fun w _ => by show 1 ≤ 9; decide, fun i h => by cases (show (false : Bool) = true from h)⟩
theorem dr0_bw : BW (dF dr0) (dB dr0) := ⟨by decide, fun p hp => absurd hp (Nat.not_lt_zero p), fun p q i hp => absurd hp (Nat.not_lt_zero p)⟩
theorem dr0_use (i : Nat) : useB (dF dr0) (dB dr0) i = false := rfl
set_option maxHeartbeats 400000 in
theorem c_X12_firstDraft (n : Nat) (ρ : Rho) (I : Mem)  (hn9 : n ≤ 999) (hms : MS n ρ) : MV yX12_firstDraft cX12_firstDraft 2 none 0 [.ref 97] n ρ I (fun I1 => DrM I1 dr0 ∧ (∀ z, z ≠ 8 → z ≠ 9 → z ≠ 10 → z ≠ 13 → z ≠ 14 → I1 97 z = I 97 z) ∧ ∀ i, i ≠ 97 → i ≠ 102 → I1 i = I i) := by
  refine MG.of (by decide +kernel) (Nat.le_of_ble_eq_true rfl) hn9 ?_
  intro κ C hR
  show G κ n ρ 0 [(0, .ref 97)] [] I
  obtain ⟨mn, ⟨m0, m1, m5, m6, m7, m11, m12, m15⟩, ⟨m23, m24, m26, m27, m28, m30, m31, m32, m33⟩, ⟨m38, m39, m40, m42⟩⟩ := id hms
  refine g_iconst C (pc := 0) 0 dX12_firstDraft_0 (by decide) ?_
  refine g_istore_n C (pc := 1) dX12_firstDraft_1 (by decide) (fun v1 => [(1, .int v1), (0, .ref 97)]) (fun _ => rfl) (fun v1 ev1 => ?_)
  have L2 : ∀ (k9 : Nat) (j : Nat) (wz1 : Int32) (J : Mem) (hw1 : wz1 = nI j) (hj : j ≤ 41) (hA : ∀ k, k < j → J 102 k = if k < 6 then -4 else 0) (hF : ∀ i, i ≠ 102 → J i = I i), 41 - j < k9 → G κ n ρ 2 [(1, .int wz1), (0, .ref 97)] [] J := by
    intro k9
    induction k9 with
    | zero => intro j wz1 J hw1 hj hA hF hm2; exact absurd hm2 (Nat.not_lt_zero _)
    | succ k9 ih2 =>
      intro j wz1 J hw1 hj hA hF hm2
      subst hw1
      refine g_iload_n C (pc := 2) dX12_firstDraft_2 0 rfl ?_
      refine g_bipush C (pc := 3) 41 dX12_firstDraft_3 (by decide) ?_
      refine g_icmp_ge C (pc := 5) 32 dX12_firstDraft_5 (by decide) (fun c5 => ?_) (fun c5 => ?_)
      · replace c5 := (nI_leI (a := 41) (b := j) (by decide) (by omega)).mp c5
        refine g_iconst C (pc := 32) 0 dX12_firstDraft_32 (by decide) ?_
        refine g_istore_n C (pc := 33) dX12_firstDraft_33 (by decide) (fun v33 => [(1, .int v33), (0, .ref 97)]) (fun _ => rfl) (fun v33 ev33 => ?_)
        have L34 : ∀ (k9 : Nat) (j : Nat) (wz1 : Int32) (J2 : Mem) (hw1 : wz1 = nI j) (hj : j ≤ 5) (hA2 : ∀ k, k < 41 → J2 102 k = if 13 ≤ k ∧ k < 13 + j then 1 else if k < 6 then -4 else 0) (hF2 : ∀ i, i ≠ 102 → J2 i = I i), 5 - j < k9 → G κ n ρ 34 [(1, .int wz1), (0, .ref 97)] [] J2 := by
          intro k9
          induction k9 with
          | zero => intro j wz1 J2 hw1 hj hA2 hF2 hm34; exact absurd hm34 (Nat.not_lt_zero _)
          | succ k9 ih34 =>
            intro j wz1 J2 hw1 hj hA2 hF2 hm34
            subst hw1
            refine g_iload_n C (pc := 34) dX12_firstDraft_34 0 rfl ?_
            refine g_iconst C (pc := 35) 5 dX12_firstDraft_35 (by decide) ?_
            refine g_icmp_ge C (pc := 36) 55 dX12_firstDraft_36 (by decide) (fun c36 => ?_) (fun c36 => ?_)
            · replace c36 := (nI_leI (a := 5) (b := j) (by decide) (by omega)).mp c36
              refine g_aload_n C (pc := 55) dX12_firstDraft_55 1 rfl ?_
              refine g_iconst C (pc := 56) 3 dX12_firstDraft_56 (by decide) ?_
              refine g_putI C (pc := 57) fl_RX12_83 (by decide) fp_11_8 (Or.inl rfl) ⟨rfl, rfl⟩ (by first | assumption | rfl | omega) (by first | assumption | rfl | omega) hn9 dX12_firstDraft_57 ?_
              refine g_aload_n C (pc := 60) dX12_firstDraft_60 1 rfl ?_
              refine g_iconst C (pc := 61) 3 dX12_firstDraft_61 (by decide) ?_
              refine g_putI C (pc := 62) fl_RX12_87 (by decide) fp_11_9 (Or.inl rfl) ⟨rfl, rfl⟩ (by first | assumption | rfl | omega) (by first | assumption | rfl | omega) hn9 dX12_firstDraft_62 ?_
              refine g_aload_n C (pc := 65) dX12_firstDraft_65 1 rfl ?_
              refine g_iconst C (pc := 66) 0 dX12_firstDraft_66 (by decide) ?_
              refine g_putI C (pc := 67) fl_RX12_90 (by decide) fp_11_10 (Or.inl rfl) ⟨rfl, rfl⟩ (by first | assumption | rfl | omega) (by first | assumption | rfl | omega) hn9 dX12_firstDraft_67 ?_
              refine g_aload_n C (pc := 70) dX12_firstDraft_70 1 rfl ?_
              refine g_iconst C (pc := 71) 0 dX12_firstDraft_71 (by decide) ?_
              refine g_putI C (pc := 72) fl_RX12_93 (by decide) fp_11_13 (Or.inl rfl) ⟨rfl, rfl⟩ (by first | assumption | rfl | omega) (by first | assumption | rfl | omega) hn9 dX12_firstDraft_72 ?_
              refine g_aload_n C (pc := 75) dX12_firstDraft_75 1 rfl ?_
              refine g_bipush C (pc := 76) (-4) dX12_firstDraft_76 (by decide) ?_
              refine g_putI C (pc := 78) fl_RX12_96 (by decide) fp_11_14 (Or.inl rfl) ⟨rfl, rfl⟩ (by first | assumption | rfl | omega) (by first | assumption | rfl | omega) hn9 dX12_firstDraft_78 ?_
              refine g_vret C hR (pc := 81) rfl dX12_firstDraft_81 ?_
              refine ⟨rfl, rfl, ?_⟩
              have hj5 : j = 5 := by omega
              subst hj5
              have h102 : ∀ k, k < 41 → (wr (wr (wr (wr (wr J2 97 8 3) 97 9 3) 97 10 0) 97 13 0) 97 14 (-4)) 102 k = if 13 ≤ k ∧ k < 13 + 5 then 1 else if k < 6 then -4 else 0 := fun k hk => by
                rw [wr_n (by decide), wr_n (by decide), wr_n (by decide), wr_n (by decide), wr_n (by decide)]; exact hA2 k hk
              refine ⟨⟨dr0_rw, dr0_bw, ⟨rfl, rfl, rfl⟩, fun p hp => absurd hp (Nat.not_lt_zero p), fun i hi => ?_, fun w hw => ?_, ⟨?_, ?_, ?_, ?_⟩, ⟨by show bt 0 0 = _; rw [b_0]; rfl, by show bt 0 1 = _; rw [b_0]; rfl, by show bt 0 2 = _; rw [b_0]; rfl⟩, ⟨fun i _ h => ?_, Or.inl rfl⟩⟩, fun z h1 h2 h3 h4 h5 => ?_, fun i h1 h2 => ?_⟩
              · rw [h102 12 (by decide)]; exact b_0 i
              · rw [h102 _ (by omega), if_pos (by omega)]; rfl
              · rw [h102 18 (by decide)]; rfl
              · rw [h102 19 (by decide)]; rfl
              · rw [h102 20 (by decide)]; rfl
              · rw [h102 37 (by decide)]; rfl
              · rw [dr0_use] at h; cases h
              · rw [wr_sn h5, wr_sn h4, wr_sn h3, wr_sn h2, wr_sn h1, hF2 97 (by decide)]
              · rw [wr_n h1, wr_n h1, wr_n h1, wr_n h1, wr_n h1]; exact hF2 i h2
            · replace c36 := (nI_ltI (a := j) (b := 5) (by omega) (by decide)).mp c36
              have hx2 : (13 + nI j).toNatClampNeg = 13 + j := by rw [show (13 : Int32) = nI 13 from rfl, nI_add]; exact nI_clamp (by omega)
              refine g_aload_n C (pc := 39) dX12_firstDraft_39 1 rfl ?_
              refine g_getR C (pc := 40) fl_RX12_23 (by decide) (by first | assumption | rfl | omega) (by first | assumption | rfl | omega) (by first | assumption | rfl | omega) dX12_firstDraft_40 ?_
              refine g_bipush C (pc := 43) 13 dX12_firstDraft_43 (by decide) ?_
              refine g_iload_n C (pc := 45) dX12_firstDraft_45 0 rfl ?_
              refine g_iadd C (pc := 46) dX12_firstDraft_46 ?_
              refine g_iconst C (pc := 47) 1 dX12_firstDraft_47 (by decide) ?_
              refine g_iast C (pc := 48) (by first | assumption | rfl | omega) (by first | assumption | rfl | omega) hn9 (by rw [show (13 : Int32) = nI 13 from rfl, nI_add]; exact vp_in_nI (by omega) (by decide)) dX12_firstDraft_48 ?_
              refine g_iinc C (pc := 49) (1) dX12_firstDraft_49 0 rfl (by decide) (by decide) (fun v49 => [(1, .int v49), (0, .ref 97)]) (fun _ => rfl) (fun v49 ev49 => ?_)
              refine g_goto C (pc := 52) 34 dX12_firstDraft_52 (by decide) ?_
              refine g_lv C [0, 1] rfl (ih34 (j + 1) _ _ ?_ ?_ ?_ ?_ (by omega))
              · subst_vars; exact nI_1 _
              · omega
              · intro k hk
                rw [hx2]
                by_cases h1 : k = 13 + j
                · subst h1; rw [wr_ss, if_pos (by omega)]
                · rw [wr_sn h1, hA2 k hk]
                  by_cases h2 : 13 ≤ k ∧ k < 13 + j
                  · rw [if_pos h2, if_pos (show 13 ≤ k ∧ k < 13 + (j + 1) by omega)]
                  · rw [if_neg h2, if_neg (show ¬ (13 ≤ k ∧ k < 13 + (j + 1)) by omega)]
              · intro i h1; rw [wr_n h1]; exact hF2 i h1
        refine g_lv C [0, 1] rfl (L34 (_ + 1) 0 _ _ ?_ ?_ ?_ ?_ (by first | omega | exact Nat.lt_succ_self _))
        · subst_vars; rfl
        · exact Nat.zero_le _
        · intro k hk; rw [if_neg (by omega)]; exact hA k (by omega)
        · exact hF
      · replace c5 := (nI_ltI (a := j) (b := 41) (by omega) (by decide)).mp c5
        have hx1 : (nI j).toNatClampNeg = j := nI_clamp (by omega)
        refine g_aload_n C (pc := 8) dX12_firstDraft_8 1 rfl ?_
        refine g_getR C (pc := 9) fl_RX12_23 (by decide) (by first | assumption | rfl | omega) (by first | assumption | rfl | omega) (by first | assumption | rfl | omega) dX12_firstDraft_9 ?_
        refine g_iload_n C (pc := 12) dX12_firstDraft_12 0 rfl ?_
        refine g_iload_n C (pc := 13) dX12_firstDraft_13 0 rfl ?_
        refine g_bipush C (pc := 14) 6 dX12_firstDraft_14 (by decide) ?_
        refine g_icmp_ge C (pc := 16) 24 dX12_firstDraft_16 (by decide) (fun c16 => ?_) (fun c16 => ?_)
        · replace c16 := (nI_leI (a := 6) (b := j) (by decide) (by omega)).mp c16
          refine g_iconst C (pc := 24) 0 dX12_firstDraft_24 (by decide) ?_
          refine g_iast C (pc := 25) (by first | assumption | rfl | omega) (by first | assumption | rfl | omega) hn9 (vp_in_nI (by omega) (by decide)) dX12_firstDraft_25 ?_
          refine g_iinc C (pc := 26) (1) dX12_firstDraft_26 0 rfl (by decide) (by decide) (fun v26 => [(1, .int v26), (0, .ref 97)]) (fun _ => rfl) (fun v26 ev26 => ?_)
          refine g_goto C (pc := 29) 2 dX12_firstDraft_29 (by decide) ?_
          refine g_lv C [0, 1] rfl (ih2 (j + 1) _ _ ?_ ?_ ?_ ?_ (by omega))
          · subst_vars; exact nI_1 _
          · omega
          · intro k hk
            rw [hx1]
            rcases Nat.lt_or_ge k j with h1 | h1
            · rw [wr_sn (by omega)]; exact hA k h1
            · have : k = j := by omega
              subst this
              rw [wr_ss]
              first
              | (rw [if_pos hj6]; done)
              | (rw [if_neg (by omega)]; done)
          · intro i h1; rw [wr_n h1]; exact hF i h1
        · have hj6 := (nI_ltI (a := j) (b := 6) (by omega) (by decide)).mp c16
          refine g_bipush C (pc := 19) (-4) dX12_firstDraft_19 (by decide) ?_
          refine g_goto C (pc := 21) 25 dX12_firstDraft_21 (by decide) ?_
          refine g_iast C (pc := 25) (by first | assumption | rfl | omega) (by first | assumption | rfl | omega) hn9 (vp_in_nI (by omega) (by decide)) dX12_firstDraft_25 ?_
          refine g_iinc C (pc := 26) (1) dX12_firstDraft_26 0 rfl (by decide) (by decide) (fun v26 => [(1, .int v26), (0, .ref 97)]) (fun _ => rfl) (fun v26 ev26 => ?_)
          refine g_goto C (pc := 29) 2 dX12_firstDraft_29 (by decide) ?_
          refine g_lv C [0, 1] rfl (ih2 (j + 1) _ _ ?_ ?_ ?_ ?_ (by omega))
          · subst_vars; exact nI_1 _
          · omega
          · intro k hk
            rw [hx1]
            rcases Nat.lt_or_ge k j with h1 | h1
            · rw [wr_sn (by omega)]; exact hA k h1
            · have : k = j := by omega
              subst this
              rw [wr_ss]
              first
              | (rw [if_pos hj6]; done)
              | (rw [if_neg (by omega)]; done)
          · intro i h1; rw [wr_n h1]; exact hF i h1
  refine g_lv C [0, 1] rfl (L2 (_ + 1) 0 _ _ ?_ ?_ ?_ ?_ (by first | omega | exact Nat.lt_succ_self _))
  · subst_vars; rfl
  · exact Nat.zero_le _
  · intro k hk; omega
  · intro i _; rfl
set_option maxHeartbeats 400000 in
theorem c_X12_kingsOf (n : Nat) (ρ : Rho) (I : Mem) (D : DT) (sd : Nat) (x : Int32) (hn9 : n ≤ 999) (hms : MS n ρ) (hdr : DrM I D) (hsd : sd < 2) (hx : x = nI sd) : MI yX12_kingsOf cX12_kingsOf 4 (some .int) 1 [.ref 97, .int x] n ρ I (fun v I1 => v = nI (kgN (dF D) sd) ∧ I = I1) := by
  refine MG.of (by decide +kernel) (Nat.le_of_ble_eq_true rfl) hn9 ?_
  intro κ C hR
  show G κ n ρ 0 [(0, .ref 97), (1, .int x)] [] I
  obtain ⟨mn, ⟨m0, m1, m5, m6, m7, m11, m12, m15⟩, ⟨m23, m24, m26, m27, m28, m30, m31, m32, m33⟩, ⟨m38, m39, m40, m42⟩⟩ := id hms
  obtain ⟨F, hFe⟩ : ∃ F, F = dF D := ⟨_, rfl⟩
  obtain ⟨hrw, -, ⟨-, -, hN⟩, hpc, -⟩ := id hdr
  rw [← hFe] at hrw hN hpc
  have hn6 : rN F ≤ 6 := hrw.2.2.2.2.1
  refine g_iconst C (pc := 0) 0 dX12_kingsOf_0 (by decide) ?_
  refine g_istore_n C (pc := 1) dX12_kingsOf_1 (by decide) (fun v1 => [(2, .int v1), (0, .ref 97), (1, .int x)]) (fun _ => rfl) (fun v1 ev1 => ?_)
  refine g_iconst C (pc := 2) 0 dX12_kingsOf_2 (by decide) ?_
  refine g_istore_n C (pc := 3) dX12_kingsOf_3 (by decide) (fun v3 => [(3, .int v3), (2, .int v1), (0, .ref 97), (1, .int x)]) (fun _ => rfl) (fun v3 ev3 => ?_)
  have L4 : ∀ (k9 : Nat) (j : Nat)  (wz3 : Int32) (wz2 : Int32) (hw3 : wz3 = nI j) (hj : j ≤ rN F) (hc : wz2 = nI (ctP (fun p => decide (rKd F p = 0) && decide (rSd F p = sd)) j)), rN F - j < k9 → G κ n ρ 4 [(3, .int wz3), (2, .int wz2), (0, .ref 97), (1, .int x)] [] I := by
    intro k9
    induction k9 with
    | zero => intro j wz3 wz2 hw3 hj hc hm4; exact absurd hm4 (Nat.not_lt_zero _)
    | succ k9 ih4 =>
      intro j wz3 wz2 hw3 hj hc hm4
      subst hw3
      refine g_iload_n C (pc := 4) dX12_kingsOf_4 0 rfl ?_
      refine g_aload_n C (pc := 5) dX12_kingsOf_5 2 rfl ?_
      refine g_getI C (pc := 6) fl_RX12_90 (by decide) (by first | assumption | rfl | omega) (by first | assumption | rfl | omega) dX12_kingsOf_6 ?_
      refine g_icmp_ge C (pc := 9) 48 dX12_kingsOf_9 (by decide) (fun c9 => ?_) (fun c9 => ?_)
      · rw [hN, nI_leI (by omega) (by omega)] at c9
        refine g_iload_n C (pc := 48) dX12_kingsOf_48 1 rfl ?_
        refine g_iret C hR (pc := 49) rfl dX12_kingsOf_49 ?_
        refine ⟨rfl, _, rfl, ?_⟩
        have : j = rN F := by omega
        subst this
        exact ⟨by rw [← hFe]; exact hc, rfl⟩
      · rw [hN, nI_ltI (by omega) (by omega)] at c9
        refine g_iload_n C (pc := 12) dX12_kingsOf_12 1 rfl ?_
        refine g_aload_n C (pc := 13) dX12_kingsOf_13 2 rfl ?_
        refine g_getR C (pc := 14) fl_RX12_29 (by decide) (by first | assumption | rfl | omega) (by first | assumption | rfl | omega) (by first | assumption | rfl | omega) dX12_kingsOf_14 ?_
        refine g_iload_n C (pc := 17) dX12_kingsOf_17 0 rfl ?_
        refine g_iald C (pc := 18) (by first | assumption | rfl | omega) (by first | assumption | rfl | omega) (vp_in_nI (by omega) (by decide)) dX12_kingsOf_18 ?_
        refine g_if_ne C (pc := 19) 36 dX12_kingsOf_19 (by decide) (fun c19 => ?_) (fun c19 => ?_)
        · have hbad : (decide (rKd F j = 0) && decide (rSd F j = sd)) = false := by
            rw [decide_eq_false (fun h => c19 (by rw [nI_clamp (by omega), (hpc j (by omega)).1.2, h]; rfl))]; rfl
          refine g_iconst C (pc := 36) 0 dX12_kingsOf_36 (by decide) ?_
          refine g_callSI C (pc := 37) mf_X12_flag lk_RX12_189 (c_X12_flag n ρ I _ hn9) (by decide) (Nat.le_refl _) rfl (Nat.le_of_ble_eq_true rfl) dX12_kingsOf_37 (fun v37 I37 h37 => ?_)
          obtain ⟨e37, rfl⟩ := h37
          refine g_iadd C (pc := 40) dX12_kingsOf_40 ?_
          refine g_istore_n C (pc := 41) dX12_kingsOf_41 (by decide) (fun v41 => [(2, .int v41), (3, .int (nI j)), (0, .ref 97), (1, .int x)]) (fun _ => rfl) (fun v41 ev41 => ?_)
          refine g_iinc C (pc := 42) (1) dX12_kingsOf_42 1 rfl (by decide) (by decide) (fun v42 => [(3, .int v42), (2, .int v41), (0, .ref 97), (1, .int x)]) (fun _ => rfl) (fun v42 ev42 => ?_)
          refine g_goto C (pc := 45) 4 dX12_kingsOf_45 (by decide) ?_
          refine g_lv C [0, 1, 2, 3] rfl (ih4 (j + 1)  _ _ ?_ ?_ ?_ (by omega))
          · subst_vars; exact nI_1 _
          · omega
          · rw [ev41, e37, ctP_s, hc]
            first
            | (rw [bI_t (by decide), if_pos hgood]; exact nI_1 _)
            | (rw [bI_f (by decide), if_neg (by rw [hbad]; decide)]; exact Int32.add_zero _)
        · have hk0 : rKd F j = 0 := by
            rw [nI_clamp (by omega), (hpc j (by omega)).1.2] at c19
            exact (nI_eq (b := 0) (by have := (hrw.2.2.2.2.2.1 j (by omega)).2; omega) (by decide)).mp c19
          refine g_aload_n C (pc := 22) dX12_kingsOf_22 2 rfl ?_
          refine g_getR C (pc := 23) fl_RX12_26 (by decide) (by first | assumption | rfl | omega) (by first | assumption | rfl | omega) (by first | assumption | rfl | omega) dX12_kingsOf_23 ?_
          refine g_iload_n C (pc := 26) dX12_kingsOf_26 0 rfl ?_
          refine g_iald C (pc := 27) (by first | assumption | rfl | omega) (by first | assumption | rfl | omega) (vp_in_nI (by omega) (by decide)) dX12_kingsOf_27 ?_
          refine g_iload_n C (pc := 28) dX12_kingsOf_28 3 rfl ?_
          refine g_icmp_ne C (pc := 29) 36 dX12_kingsOf_29 (by decide) (fun c29 => ?_) (fun c29 => ?_)
          · have hbad : (decide (rKd F j = 0) && decide (rSd F j = sd)) = false := by
              rw [decide_eq_false (p := rSd F j = sd) (fun h => c29 (by rw [nI_clamp (by omega), (hpc j (by omega)).1.1, h, hx])), Bool.and_false]
            refine g_iconst C (pc := 36) 0 dX12_kingsOf_36 (by decide) ?_
            refine g_callSI C (pc := 37) mf_X12_flag lk_RX12_189 (c_X12_flag n ρ I _ hn9) (by decide) (Nat.le_refl _) rfl (Nat.le_of_ble_eq_true rfl) dX12_kingsOf_37 (fun v37 I37 h37 => ?_)
            obtain ⟨e37, rfl⟩ := h37
            refine g_iadd C (pc := 40) dX12_kingsOf_40 ?_
            refine g_istore_n C (pc := 41) dX12_kingsOf_41 (by decide) (fun v41 => [(2, .int v41), (3, .int (nI j)), (0, .ref 97), (1, .int x)]) (fun _ => rfl) (fun v41 ev41 => ?_)
            refine g_iinc C (pc := 42) (1) dX12_kingsOf_42 1 rfl (by decide) (by decide) (fun v42 => [(3, .int v42), (2, .int v41), (0, .ref 97), (1, .int x)]) (fun _ => rfl) (fun v42 ev42 => ?_)
            refine g_goto C (pc := 45) 4 dX12_kingsOf_45 (by decide) ?_
            refine g_lv C [0, 1, 2, 3] rfl (ih4 (j + 1)  _ _ ?_ ?_ ?_ (by omega))
            · subst_vars; exact nI_1 _
            · omega
            · rw [ev41, e37, ctP_s, hc]
              first
              | (rw [bI_t (by decide), if_pos hgood]; exact nI_1 _)
              | (rw [bI_f (by decide), if_neg (by rw [hbad]; decide)]; exact Int32.add_zero _)
          · have hgood : (decide (rKd F j = 0) && decide (rSd F j = sd)) = true := by
              rw [nI_clamp (by omega), (hpc j (by omega)).1.1, hx] at c29
              rw [decide_eq_true hk0, decide_eq_true ((nI_eq (by have := (hrw.2.2.2.2.2.1 j (by omega)).1; omega) (by omega)).mp c29)]; rfl
            refine g_iconst C (pc := 32) 1 dX12_kingsOf_32 (by decide) ?_
            refine g_goto C (pc := 33) 37 dX12_kingsOf_33 (by decide) ?_
            refine g_callSI C (pc := 37) mf_X12_flag lk_RX12_189 (c_X12_flag n ρ I _ hn9) (by decide) (Nat.le_refl _) rfl (Nat.le_of_ble_eq_true rfl) dX12_kingsOf_37 (fun v37 I37 h37 => ?_)
            obtain ⟨e37, rfl⟩ := h37
            refine g_iadd C (pc := 40) dX12_kingsOf_40 ?_
            refine g_istore_n C (pc := 41) dX12_kingsOf_41 (by decide) (fun v41 => [(2, .int v41), (3, .int (nI j)), (0, .ref 97), (1, .int x)]) (fun _ => rfl) (fun v41 ev41 => ?_)
            refine g_iinc C (pc := 42) (1) dX12_kingsOf_42 1 rfl (by decide) (by decide) (fun v42 => [(3, .int v42), (2, .int v41), (0, .ref 97), (1, .int x)]) (fun _ => rfl) (fun v42 ev42 => ?_)
            refine g_goto C (pc := 45) 4 dX12_kingsOf_45 (by decide) ?_
            refine g_lv C [0, 1, 2, 3] rfl (ih4 (j + 1)  _ _ ?_ ?_ ?_ (by omega))
            · subst_vars; exact nI_1 _
            · omega
            · rw [ev41, e37, ctP_s, hc]
              first
              | (rw [bI_t (by decide), if_pos hgood]; exact nI_1 _)
              | (rw [bI_f (by decide), if_neg (by rw [hbad]; decide)]; exact Int32.add_zero _)
  refine g_lv C [0, 1, 2, 3] rfl (L4 (_ + 1) 0  _ _ ?_ ?_ ?_ (by first | omega | exact Nat.lt_succ_self _))
  · assumption
  · omega
  · subst ev1; rfl
