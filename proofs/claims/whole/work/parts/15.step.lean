set_option maxRecDepth 50000 in
theorem gl_RX5_34 : Cond.methodLink RX5 34 arraycopyName ∈ GW := GW_in 680 rfl rfl
set_option maxRecDepth 50000 in
theorem gl_RX8_25 : Cond.methodLink RX8 25 arraycopyName ∈ GW := GW_in 687 rfl rfl
set_option maxRecDepth 50000 in
theorem gl_RX3_56 : Cond.methodLink RX3 56 arraycopyName ∈ GW := GW_in 688 rfl rfl
set_option maxRecDepth 50000 in
theorem gl_RX1_59 : Cond.methodLink RX1 59 arraycopyName ∈ GW := GW_in 1008 rfl rfl
theorem cpy0 {f g : Nat → Int32} {n j : Nat} (h : j < n) : va_cpy f g 0 0 n j = f j := by
  unfold va_cpy
  rw [if_pos ⟨Nat.zero_le _, by omega⟩]
  simp
theorem BR.copy {I I1 : Mem} {s o : Nat} {F : RT} {b : BT} (h : BR I o F b) (hf : RW F) (e1 : ∀ k, k < 6 → I1 (s + 1) k = I (o + 1) k) (e2 : ∀ k, k < 6 → I1 (s + 2) k = I (o + 2) k) (e3 : ∀ k, k < 2 → I1 (s + 3) k = I (o + 3) k) (e0 : I1 s 3 = I o 3) : BR I1 s F b := by
  obtain ⟨h1, h2, h3⟩ := h
  have hn := hf.2.2.2.2.1
  exact ⟨e0.trans h1, fun p hp => ⟨(e1 p (by omega)).trans (h2 p hp).1, (e2 p (by omega)).trans (h2 p hp).2⟩, fun sd hsd i hi => by rw [e3 sd hsd]; exact h3 sd hsd i hi⟩
/-- a Step: its Stand, its row of moves *)-/
def Sp (n : Nat) (ρ : Rho) (h : Nat) : Prop := shp h = (18, 5) ∧ h + 5 < n ∧ ρ h 0 = some (h + 1) ∧ ρ h 1 = some (h + 5) ∧ shp (h + 5) = (0, 24) ∧ St n ρ (h + 1)
theorem lost_none {F : RT} {b : BT} (h : lostP F b = none) : ∀ p, p < rN F → rKd F p = 0 → ∃ q, bP b p = some q := by
  intro p hp hk
  have := findP_none' h p hp
  cases e : bP b p with
  | none => rw [e, hk] at this; simp at this
  | some q => exact ⟨q, rfl⟩
set_option maxHeartbeats 400000 in
theorem c_X8_copyFrom (n : Nat) (ρ : Rho) (I : Mem) (s o : Nat) (hn9 : n ≤ 999) (hst : St n ρ s) (hso : St n ρ o) (hdis : Dis o s) : MV yX8_copyFrom cX8_copyFrom 2 none 1 [.ref s, .ref o] n ρ I (fun I1 => (∀ k, k < 6 → I1 (s + 1) k = I (o + 1) k) ∧ (∀ k, k < 6 → I1 (s + 2) k = I (o + 2) k) ∧ (∀ k, k < 2 → I1 (s + 3) k = I (o + 3) k) ∧ I1 s 3 = I o 3 ∧ ∀ i, i ≠ s → i ≠ s + 1 → i ≠ s + 2 → i ≠ s + 3 → I1 i = I i) := by
  refine MG.of (by decide +kernel) (Nat.le_of_ble_eq_true rfl) hn9 ?_
  intro κ C hR
  show G κ n ρ 0 [(0, .ref s), (1, .ref o)] [] I
  obtain ⟨hs0, hs1, hs2, hs3, hsn, hr0, hr1, hr2⟩ := id hst
  obtain ⟨os0, os1, os2, os3, osn, or0, or1, or2⟩ := id hso
  refine g_aload_n C (pc := 0) dX8_copyFrom_0 1 rfl ?_
  refine g_getR C (pc := 1) fl_RX8_9 (by decide) (by first | assumption | rfl | omega) (by first | assumption | rfl | omega) (by first | assumption | rfl | omega) dX8_copyFrom_1 ?_
  refine g_iconst C (pc := 4) 0 dX8_copyFrom_4 (by decide) ?_
  refine g_aload_n C (pc := 5) dX8_copyFrom_5 0 rfl ?_
  refine g_getR C (pc := 6) fl_RX8_9 (by decide) (by first | assumption | rfl | omega) (by first | assumption | rfl | omega) (by first | assumption | rfl | omega) dX8_copyFrom_6 ?_
  refine g_iconst C (pc := 9) 0 dX8_copyFrom_9 (by decide) ?_
  refine g_bipush C (pc := 10) 6 dX8_copyFrom_10 (by decide) ?_
  refine g_copy C (pc := 12) gl_RX8_25 gw_acn gw_acs gw_aci (by first | assumption | rfl | omega) (by first | assumption | rfl | omega) (by first | assumption | rfl | omega) (by first | assumption | rfl | omega) hn9 0 0 6 rfl rfl rfl (by decide) (by decide) (by decide) (by decide) (Nat.le_of_ble_eq_true rfl) (by decide) dX8_copyFrom_12 ?_
  refine g_aload_n C (pc := 15) dX8_copyFrom_15 1 rfl ?_
  refine g_getR C (pc := 16) fl_RX8_15 (by decide) (by first | assumption | rfl | omega) (by first | assumption | rfl | omega) (by first | assumption | rfl | omega) dX8_copyFrom_16 ?_
  refine g_iconst C (pc := 19) 0 dX8_copyFrom_19 (by decide) ?_
  refine g_aload_n C (pc := 20) dX8_copyFrom_20 0 rfl ?_
  refine g_getR C (pc := 21) fl_RX8_15 (by decide) (by first | assumption | rfl | omega) (by first | assumption | rfl | omega) (by first | assumption | rfl | omega) dX8_copyFrom_21 ?_
  refine g_iconst C (pc := 24) 0 dX8_copyFrom_24 (by decide) ?_
  refine g_bipush C (pc := 25) 6 dX8_copyFrom_25 (by decide) ?_
  refine g_copy C (pc := 27) gl_RX8_25 gw_acn gw_acs gw_aci (by first | assumption | rfl | omega) (by first | assumption | rfl | omega) (by first | assumption | rfl | omega) (by first | assumption | rfl | omega) hn9 0 0 6 rfl rfl rfl (by decide) (by decide) (by decide) (by decide) (Nat.le_of_ble_eq_true rfl) (by decide) dX8_copyFrom_27 ?_
  refine g_aload_n C (pc := 30) dX8_copyFrom_30 1 rfl ?_
  refine g_getR C (pc := 31) fl_RX8_18 (by decide) (by first | assumption | rfl | omega) (by first | assumption | rfl | omega) (by first | assumption | rfl | omega) dX8_copyFrom_31 ?_
  refine g_iconst C (pc := 34) 0 dX8_copyFrom_34 (by decide) ?_
  refine g_aload_n C (pc := 35) dX8_copyFrom_35 0 rfl ?_
  refine g_getR C (pc := 36) fl_RX8_18 (by decide) (by first | assumption | rfl | omega) (by first | assumption | rfl | omega) (by first | assumption | rfl | omega) dX8_copyFrom_36 ?_
  refine g_iconst C (pc := 39) 0 dX8_copyFrom_39 (by decide) ?_
  refine g_iconst C (pc := 40) 2 dX8_copyFrom_40 (by decide) ?_
  refine g_copy C (pc := 41) gl_RX8_25 gw_acn gw_acs gw_aci (by first | assumption | rfl | omega) (by first | assumption | rfl | omega) (by first | assumption | rfl | omega) (by first | assumption | rfl | omega) hn9 0 0 2 rfl rfl rfl (by decide) (by decide) (by decide) (by decide) (Nat.le_of_ble_eq_true rfl) (by decide) dX8_copyFrom_41 ?_
  refine g_aload_n C (pc := 44) dX8_copyFrom_44 0 rfl ?_
  refine g_aload_n C (pc := 45) dX8_copyFrom_45 1 rfl ?_
  refine g_getI C (pc := 46) fl_RX8_21 (by decide) (by first | assumption | rfl | omega) (by first | assumption | rfl | omega) dX8_copyFrom_46 ?_
  refine g_putI C (pc := 49) fl_RX8_21 (by decide) fp_7_3 (Or.inl rfl) ⟨rfl, rfl⟩ (by first | assumption | rfl | omega) (by first | assumption | rfl | omega) hn9 dX8_copyFrom_49 ?_
  refine g_vret C hR (pc := 52) rfl dX8_copyFrom_52 ?_
  refine ⟨rfl, rfl, ?_⟩
  have q : ∀ i k, i ≤ 3 → k ≤ 3 → o + i ≠ s + k := hdis
  refine ⟨fun k hk => ?_, fun k hk => ?_, fun k hk => ?_, ?_, fun i h0 h1 h2 h3 => ?_⟩
  · rw [wr_n (by omega), wrA_n (by omega), wrA_n (by omega), wrA_s, cpy0 hk]
  · rw [wr_n (by omega), wrA_n (by omega), wrA_s, cpy0 hk, wrA_n (q 2 1 (by decide) (by decide))]
  · rw [wr_n (by omega), wrA_s, cpy0 hk, wrA_n (q 3 2 (by decide) (by decide)), wrA_n (q 3 1 (by decide) (by decide))]
  · rw [wr_ss, wrA_n (show o ≠ s + 3 from q 0 3 (by decide) (by decide)), wrA_n (show o ≠ s + 2 from q 0 2 (by decide) (by decide)), wrA_n (show o ≠ s + 1 from q 0 1 (by decide) (by decide))]
  · rw [wr_n h0, wrA_n h3, wrA_n h2, wrA_n h1]
set_option maxHeartbeats 400000 in
theorem c_X9_moveAt (n : Nat) (ρ : Rho) (I : Mem) (h k : Nat) (x : Int32) (hn9 : n ≤ 999) (hsp : Sp n ρ h) (hk : k < 24) (hx : x = nI k) : MI yX9_moveAt cX9_moveAt 2 (some .int) 0 [.ref h, .int x] n ρ I (fun v I1 => v = I (h + 5) k ∧ I = I1) := by
  refine MG.of (by decide +kernel) (Nat.le_of_ble_eq_true rfl) hn9 ?_
  intro κ C hR
  show G κ n ρ 0 [(0, .ref h), (1, .int x)] [] I
  subst hx
  obtain ⟨hp0, hpn, hp1, hp2, hp3, hp4⟩ := id hsp
  obtain ⟨hs0, hs1, hs2, hs3, hsn, hr0, hr1, hr2⟩ := id hp4
  refine g_iload_n C (pc := 0) dX9_moveAt_0 1 rfl ?_
  refine g_if_lt C (pc := 1) 22 dX9_moveAt_1 (by decide) (fun c1 => ?_) (fun c1 => ?_)
  · exact absurd c1 (nI_pos (by omega))
  · refine g_iload_n C (pc := 4) dX9_moveAt_4 1 rfl ?_
    refine g_aload_n C (pc := 5) dX9_moveAt_5 0 rfl ?_
    refine g_getR C (pc := 6) fl_RX9_18 (by decide) (by first | assumption | rfl | omega) (by first | assumption | rfl | omega) (by first | assumption | rfl | omega) dX9_moveAt_6 ?_
    refine g_alen C (pc := 9) 24 (by first | assumption | rfl | omega) (by decide) (by first | assumption | rfl | omega) rfl dX9_moveAt_9 ?_
    refine g_icmp_ge C (pc := 10) 22 dX9_moveAt_10 (by decide) (fun c10 => ?_) (fun c10 => ?_)
    · exact absurd (nI_lt (b := 24) hk (by decide)) (Int32.not_lt.mpr c10)
    · refine g_aload_n C (pc := 13) dX9_moveAt_13 0 rfl ?_
      refine g_getR C (pc := 14) fl_RX9_18 (by decide) (by first | assumption | rfl | omega) (by first | assumption | rfl | omega) (by first | assumption | rfl | omega) dX9_moveAt_14 ?_
      refine g_iload_n C (pc := 17) dX9_moveAt_17 1 rfl ?_
      refine g_iald C (pc := 18) (by first | assumption | rfl | omega) (by first | assumption | rfl | omega) (vp_in_nI (by omega) (by decide)) dX9_moveAt_18 ?_
      refine g_goto C (pc := 19) 24 dX9_moveAt_19 (by decide) ?_
      refine g_iret C hR (pc := 24) rfl dX9_moveAt_24 ?_
      refine ⟨rfl, _, rfl, ?_⟩
      rw [nI_clamp (by omega)]; exact ⟨rfl, rfl⟩
set_option maxHeartbeats 400000 in
theorem c_X9_chooseKing (n : Nat) (ρ : Rho) (I : Mem) (h r kp kq : Nat) (F : RT) (b : BT) (L : List Nat) (hn9 : n ≤ 999) (hsp : Sp n ρ h) (hrf : Rf n ρ r) (hrr : RR I r F) (hrw : RW F) (hbr : BR I (h + 1) F b) (hbw : BW F b) (hL : L.length ≤ 24) (hLm : ∀ (k m : Nat), L[k]? = some m → I (h + 5) k = nI m) (hL1 : ∀ (k m : Nat), L[k]? = some m → m < 1000) (hkp : kingB F (1 - bM b) = some kp) (hkq : bP b kp = some kq) : MI yX9_chooseKing cX9_chooseKing 5 (some .boolean) 2 [.ref h, .ref r, .int (nI L.length)] n ρ I (fun v I1 => (∃ k, k < L.length ∧ v = 1 ∧ (∃ m, L[k]? = some m ∧ m % 100 = kq) ∧ (∀ q, q < k → ∀ (m : Nat), L[q]? = some m → m % 100 ≠ kq) ∧ wr I h 4 (nI k) = I1) ∨ (v = 0 ∧ (∀ (q m : Nat), L[q]? = some m → m % 100 ≠ kq) ∧ I = I1)) := by
  refine MG.of (by decide +kernel) (Nat.le_of_ble_eq_true rfl) hn9 ?_
  intro κ C hR
  show G κ n ρ 0 [(0, .ref h), (1, .ref r), (2, .int (nI L.length))] [] I
  obtain ⟨hp0, hpn, hp1, hp2, hp3, hp4⟩ := id hsp
  obtain ⟨hs0, hs1, hs2, hs3, hsn, hr0, hr1, hr2⟩ := id hp4
  obtain ⟨hq0, hq1, hq2, hq3, hqn, ht0, ht1, ht2⟩ := id hrf
  have hnp : rN F ≤ 6 := hrw.2.2.2.2.1
  have hN := hrr.2.2.1
  have hkl := (findP_spec hkp).1
  have hq25 := (hbw.2.1 kp hkl).1 kq hkq
  have hmv := hbr.1
  have hM2 := hbw.1
  have h1m : 1 - nI (bM b) = nI (1 - bM b) := pk_sub (a := 1) (by omega)
  have hkr := king_raw hrr hrw (sd := 1 - bM b) (by omega)
  refine g_aload_n C (pc := 0) dX9_chooseKing_0 0 rfl ?_
  refine g_getR C (pc := 1) fl_RX9_12 (by decide) (by first | assumption | rfl | omega) (by first | assumption | rfl | omega) (by first | assumption | rfl | omega) dX9_chooseKing_1 ?_
  refine g_aload_n C (pc := 4) dX9_chooseKing_4 0 rfl ?_
  refine g_getR C (pc := 5) fl_RX9_12 (by decide) (by first | assumption | rfl | omega) (by first | assumption | rfl | omega) (by first | assumption | rfl | omega) dX9_chooseKing_5 ?_
  refine g_aload_n C (pc := 8) dX9_chooseKing_8 1 rfl ?_
  refine g_iconst C (pc := 9) 1 dX9_chooseKing_9 (by decide) ?_
  refine g_aload_n C (pc := 10) dX9_chooseKing_10 0 rfl ?_
  refine g_getR C (pc := 11) fl_RX9_12 (by decide) (by first | assumption | rfl | omega) (by first | assumption | rfl | omega) (by first | assumption | rfl | omega) dX9_chooseKing_11 ?_
  refine g_getI C (pc := 14) fl_RX9_26 (by decide) (by first | assumption | rfl | omega) (by first | assumption | rfl | omega) dX9_chooseKing_14 ?_
  refine g_isub C (pc := 17) dX9_chooseKing_17 ?_
  rw [hmv, h1m]
  refine g_callVI C (pc := 18) mf_X8_kingOf lk_RX9_30 (c_X8_kingOf n ρ I (h + 1) r (rN F) _ hn9 hp4 hrf hN hnp) (by decide) (Nat.le_refl _) rfl (by first | assumption | rfl | omega) rfl (by first | assumption | rfl | omega) (Nat.le_of_ble_eq_true rfl) dX9_chooseKing_18 (fun v18 I18 h18 => ?_)
  obtain ⟨rfl, rfl⟩ := h18
  refine g_callVI C (pc := 21) mf_X8_placeOf lk_RX9_34 (c_X8_placeOf n ρ I (h + 1) _ hn9 hp4) (by decide) (Nat.le_refl _) rfl (by first | assumption | rfl | omega) rfl (by first | assumption | rfl | omega) (Nat.le_of_ble_eq_true rfl) dX9_chooseKing_21 (fun v21 I21 h21 => ?_)
  obtain ⟨e21, rfl⟩ := h21
  rw [e21, hkr, hkp, oI, at6 (N := 6) 6 rfl (by decide) (by omega), (hbr.2.1 kp hkl).1, hkq, oI]
  refine g_istore_n C (pc := 24) dX9_chooseKing_24 (by decide) (fun v24 => [(3, .int v24), (0, .ref h), (1, .ref r), (2, .int (nI L.length))]) (fun _ => rfl) (fun v24 ev24 => ?_)
  
  refine g_iconst C (pc := 25) 0 dX9_chooseKing_25 (by decide) ?_
  refine g_istore C (pc := 26) dX9_chooseKing_26 (by decide) (fun v26 => [(4, .int v26), (3, .int v24), (0, .ref h), (1, .ref r), (2, .int (nI L.length))]) (fun _ => rfl) (fun v26 ev26 => ?_)
  have L28 : ∀ (k9 : Nat) (j : Nat)  (wz4 : Int32) (hw4 : wz4 = nI j) (hj : j ≤ L.length) (hk : ∀ q, q < j → ∀ (m : Nat), L[q]? = some m → m % 100 ≠ kq), L.length - j < k9 → G κ n ρ 28 [(4, .int wz4), (0, .ref h), (2, .int (nI L.length)), (3, .int v24)] [] I := by
    intro k9
    induction k9 with
    | zero => intro j wz4 hw4 hj hk hm28; exact absurd hm28 (Nat.not_lt_zero _)
    | succ k9 ih28 =>
      intro j wz4 hw4 hj hk hm28
      subst hw4
      refine g_iload C (pc := 28) dX9_chooseKing_28 0 rfl ?_
      refine g_iload_n C (pc := 30) dX9_chooseKing_30 2 rfl ?_
      refine g_icmp_ge C (pc := 31) 75 dX9_chooseKing_31 (by decide) (fun c31 => ?_) (fun c31 => ?_)
      · rw [nI_leI (by omega) (by omega)] at c31
        refine g_iconst C (pc := 75) 0 dX9_chooseKing_75 (by decide) ?_
        refine g_zret C hR (pc := 76) rfl rfl dX9_chooseKing_76 ?_
        refine ⟨rfl, _, rfl, ?_⟩
        refine Or.inr ⟨rfl, fun q m hm => hk q ?_ m hm, rfl⟩
        have := (List.getElem?_eq_some_iff.mp hm).1
        omega
      · rw [nI_ltI (by omega) (by omega)] at c31
        refine g_iload C (pc := 34) dX9_chooseKing_34 0 rfl ?_
        refine g_aload_n C (pc := 36) dX9_chooseKing_36 1 rfl ?_
        refine g_getR C (pc := 37) fl_RX9_18 (by decide) (by first | assumption | rfl | omega) (by first | assumption | rfl | omega) (by first | assumption | rfl | omega) dX9_chooseKing_37 ?_
        refine g_alen C (pc := 40) 24 (by first | assumption | rfl | omega) (by decide) (by first | assumption | rfl | omega) rfl dX9_chooseKing_40 ?_
        refine g_icmp_ge C (pc := 41) 75 dX9_chooseKing_41 (by decide) (fun c41 => ?_) (fun c41 => ?_)
        · exact absurd (nI_lt (b := 24) (show j < 24 by omega) (by decide)) (Int32.not_lt.mpr c41)
        · refine g_aload_n C (pc := 44) dX9_chooseKing_44 1 rfl ?_
          refine g_getR C (pc := 45) fl_RX9_18 (by decide) (by first | assumption | rfl | omega) (by first | assumption | rfl | omega) (by first | assumption | rfl | omega) dX9_chooseKing_45 ?_
          refine g_iload C (pc := 48) dX9_chooseKing_48 0 rfl ?_
          refine g_iald C (pc := 50) (by first | assumption | rfl | omega) (by first | assumption | rfl | omega) (vp_in_nI (by omega) (by decide)) dX9_chooseKing_50 ?_
          rw [nI_clamp (by omega), hLm j _ (List.getElem?_eq_getElem (by omega))]
          have hm9 := hL1 j _ (List.getElem?_eq_getElem (l := L) (i := j) (by omega))
          refine g_bipush C (pc := 51) 100 dX9_chooseKing_51 (by decide) ?_
          refine g_irem C (pc := 53) dX9_chooseKing_53 (by first | assumption | decide) ?_
          rw [show nI L[j] - nI L[j] / 100 * 100 = nI (L[j] % 100) from pk_rem (d := 100) (by omega) (by decide) (by decide)]
          refine g_iload_n C (pc := 54) dX9_chooseKing_54 3 rfl ?_
          refine g_icmp_eq C (pc := 55) 61 dX9_chooseKing_55 (by decide) (fun c55 => ?_) (fun c55 => ?_)
          · have heq : L[j] % 100 = kq := by
              rw [ev24] at c55
              exact (nI_eq (by omega) (by omega)).mp c55
            refine g_aload_n C (pc := 61) dX9_chooseKing_61 1 rfl ?_
            refine g_iload C (pc := 62) dX9_chooseKing_62 0 rfl ?_
            refine g_putI C (pc := 64) fl_RX9_38 (by decide) fp_8_4 (Or.inl rfl) ⟨rfl, rfl⟩ (by first | assumption | rfl | omega) (by first | assumption | rfl | omega) hn9 dX9_chooseKing_64 ?_
            refine g_iconst C (pc := 67) 1 dX9_chooseKing_67 (by decide) ?_
            refine g_zret C hR (pc := 68) rfl rfl dX9_chooseKing_68 ?_
            refine ⟨rfl, _, rfl, ?_⟩
            exact Or.inl ⟨j, by omega, rfl, ⟨L[j], List.getElem?_eq_getElem (by omega), heq⟩, hk, rfl⟩
          · have hne : L[j] % 100 ≠ kq := fun hh => c55 (by rw [ev24, hh])
            refine g_goto C (pc := 58) 69 dX9_chooseKing_58 (by decide) ?_
            refine g_iinc C (pc := 69) (1) dX9_chooseKing_69 0 rfl (by decide) (by decide) (fun v69 => [(4, .int v69), (0, .ref h), (2, .int (nI L.length)), (3, .int v24)]) (fun _ => rfl) (fun v69 ev69 => ?_)
            refine g_goto C (pc := 72) 28 dX9_chooseKing_72 (by decide) ?_
            refine g_lv C [0, 1, 2, 3] rfl (ih28 (j + 1)  _ ?_ ?_ ?_ (by omega))
            · subst_vars; exact nI_1 _
            · omega
            · intro q hq m hm
              rcases Nat.lt_or_ge q j with h1 | h1
              · exact hk q h1 m hm
              · have : q = j := by omega
                subst this
                have e2 : m = L[q]'(by omega) := by
                  have := List.getElem?_eq_getElem (l := L) (i := q) (by omega)
                  rw [hm] at this; exact Option.some.inj this
                subst e2; exact hne
  refine g_lv C [0, 2, 4, 1] rfl (L28 (_ + 1) 0  _ ?_ ?_ ?_ (by first | omega | exact Nat.lt_succ_self _))
  · assumption
  · omega
  · intro q hq; omega
