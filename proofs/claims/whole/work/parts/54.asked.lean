/-- the reference's game at hand: as it is told in the first 41 numbers -/
def QN (I : Mem) (F : RT) (b : BT) : Prop := QF I F ∧ QE I F ∧ (∀ p, p < rN F → I 98 p = oI (bP b p) ∧ I 98 (6 + p) = nI (bO b p)) ∧ I 98 18 = nI (bM b)
/-- what a question leaves as it was -/
def Kp (I I1 : Mem) : Prop := (∀ z, z < 25 ∨ 37 < z → I1 97 z = I 97 z) ∧ ∀ i, i < 97 ∨ (97 < i ∧ i < 106) ∨ 114 < i → I1 i = I i
theorem Kp.rfl' {I : Mem} : Kp I I := ⟨fun _ _ => rfl, fun _ _ => rfl⟩
theorem Kp.trans {I I1 I2 : Mem} (h : Kp I I1) (k : Kp I1 I2) : Kp I I2 := ⟨fun z hz => (k.1 z hz).trans (h.1 z hz), fun i hi => (k.2 i hi).trans (h.2 i hi)⟩
theorem Kp.fm {I I1 : Mem} (g : ∀ i, i ≠ 108 → i ≠ 109 → I1 i = I i) : Kp I I1 := ⟨fun z _ => by rw [g 97 (by decide) (by decide)], fun i hi => g i (by omega) (by omega)⟩
theorem Kp.sv {I I1 : Mem} (g : ∀ i, i ≠ 110 → I1 i = I i) : Kp I I1 := ⟨fun z _ => by rw [g 97 (by decide)], fun i hi => g i (by omega)⟩
theorem Kp.qb {I I1 : Mem} (a : ∀ z, z ≠ 25 → I1 97 z = I 97 z) (g : ∀ i, i ≠ 97 → i ≠ 106 → i ≠ 107 → I1 i = I i) : Kp I I1 := ⟨fun z hz => a z (by omega), fun i hi => g i (by omega) (by omega) (by omega)⟩
theorem Kp.sc {I : Mem} {k : Nat} {x : Int32} (h : 25 ≤ k) (h2 : k ≤ 37) : Kp I (wr I 97 k x) := ⟨fun z hz => wr_sn (by omega), fun i hi => wr_n (by omega)⟩
theorem Kp.ar {I : Mem} {i k : Nat} {x : Int32} (h : 106 ≤ i) (h2 : i ≤ 114) : Kp I (wr I i k x) := ⟨fun z hz => by rw [wr_n (by omega)], fun i hi => wr_n (by omega)⟩
theorem QF.kp {I I1 : Mem} {F : RT} (h : QF I F) (k : Kp I I1) : QF I1 F := h.cong (k.1 2 (by decide)) (k.1 3 (by decide)) (k.1 4 (by decide)) (k.2 100 (by decide)) (k.2 101 (by decide))
theorem QE.kp {I I1 : Mem} {F : RT} (h : QE I F) (k : Kp I I1) : QE I1 F := h.cong fun z _ => by rw [k.2 98 (by decide)]
theorem QN.kp {I I1 : Mem} {F : RT} {b : BT} (h : QN I F b) (k : Kp I I1) : QN I1 F b := ⟨h.1.kp k, h.2.1.kp k, by rw [k.2 98 (by decide)]; exact h.2.2⟩
theorem val_won {F : RT} {b : BT} {sd : Nat} {x : Int32} (hf : RW F) (hsd : sd < 2) (hx : x = nI sd) {v : Int64} (h : (oI (lostB F b) = 1 - x ∧ v = 1) ∨ (¬ oI (lostB F b) = 1 - x ∧ v = 0)) : v = lN (val F sd 0 b) := by
  have e1 : (1 : Int32) - x = nI (1 - sd) := by rw [hx]; exact pk_sub (a := 1) (by omega)
  rw [e1] at h
  have hl := fun z hz => lostB_lt hf (b := b) z hz
  rw [val]
  rcases h with ⟨h1, h2⟩ | ⟨h1, h2⟩
  · have := (oI_nI (lostB_lt2 hf) (by omega)).mp h1
    rw [this, h2]
    show 1 = lN (if 1 - sd = sd then 0 else 1)
    rw [if_neg (by omega)]; rfl
  · rw [h2]
    cases e : lostB F b with
    | none => rfl
    | some l =>
      have h3 := hl l e
      have h4 : l ≠ 1 - sd := fun h9 => h1 (by rw [e, h9]; rfl)
      show 0 = lN (if l = sd then 0 else 1)
      rw [if_pos (by omega)]; rfl
set_option maxHeartbeats 400000 in
theorem c_X12_startsB (n : Nat) (ρ : Rho) (I : Mem) (F : RT) (b : BT) (hn9 : n ≤ 999) (hms : MS n ρ) (hqn : QN I F b) (hrw : RW F) (hbw : BW F b) : MV yX12_starts cX12_starts 2 none 0 [.ref 97] n ρ I (fun I1 => QB I1 F b ∧ Kp I I1) := by
  refine MG.of (by decide +kernel) (Nat.le_of_ble_eq_true rfl) hn9 ?_
  intro κ C hR
  show G κ n ρ 0 [(0, .ref 97)] [] I
  obtain ⟨mn, ⟨m0, m1, m5, m6, m7, m11, m12, m15⟩, ⟨m23, m24, m26, m27, m28, m30, m31, m32, m33⟩, ⟨m38, m39, m40, m42⟩⟩ := id hms
  obtain ⟨hqf, hqe, hqs, hqt⟩ := id hqn
  obtain ⟨qw, qh, qn, qk⟩ := id hqf
  have hn6 : rN F ≤ 6 := hrw.2.2.2.2.1
  have hm25 := Nat.mul_le_mul hrw.2.1 hrw.2.2.2.1
  have hm4 := Nat.mul_le_mul hrw.1 hrw.2.2.1
  refine g_iconst C (pc := 0) 0 dX12_starts_0 (by decide) ?_
  refine g_istore_n C (pc := 1) dX12_starts_1 (by decide) (fun v1 => [(1, .int v1), (0, .ref 97)]) (fun _ => rfl) (fun v1 ev1 => ?_)
  have L2 : ∀ (k9 : Nat) (j : Nat) (wz1 : Int32) (J : Mem) (hw1 : wz1 = nI j) (hj : j ≤ 6) (hA : ∀ k, k < j → J 106 k = I 98 k ∧ J 107 k = I 98 (6 + k)) (hF : ∀ i, i ≠ 106 → i ≠ 107 → J i = I i), 6 - j < k9 → G κ n ρ 2 [(1, .int wz1), (0, .ref 97)] [] J := by
    intro k9
    induction k9 with
    | zero => intro j wz1 J hw1 hj hA hF hm2; exact absurd hm2 (Nat.not_lt_zero _)
    | succ k9 ih2 =>
      intro j wz1 J hw1 hj hA hF hm2
      subst hw1
      refine g_iload_n C (pc := 2) dX12_starts_2 0 rfl ?_
      refine g_bipush C (pc := 3) 6 dX12_starts_3 (by decide) ?_
      refine g_icmp_ge C (pc := 5) 43 dX12_starts_5 (by decide) (fun c5 => ?_) (fun c5 => ?_)
      · replace c5 := (nI_leI (a := 6) (b := j) (by decide) (by omega)).mp c5
        refine g_aload_n C (pc := 43) dX12_starts_43 1 rfl ?_
        refine g_aload_n C (pc := 44) dX12_starts_44 1 rfl ?_
        refine g_getR C (pc := 45) fl_RX12_7 (by decide) (by first | assumption | rfl | omega) (by first | assumption | rfl | omega) (by first | assumption | rfl | omega) dX12_starts_45 ?_
        refine g_bipush C (pc := 48) 18 dX12_starts_48 (by decide) ?_
        refine g_iald C (pc := 50) (by first | assumption | rfl | omega) (by first | assumption | rfl | omega) (vp_in_nI (n := 18) (by decide) (by decide)) dX12_starts_50 ?_
        refine g_putI C (pc := 51) fl_RX12_204 (by decide) fp_11_25 (Or.inl rfl) ⟨rfl, rfl⟩ (by first | assumption | rfl | omega) (by first | assumption | rfl | omega) hn9 dX12_starts_51 ?_
        refine g_vret C hR (pc := 54) rfl dX12_starts_54 ?_
        refine ⟨rfl, rfl, ?_⟩
        refine ⟨⟨fun p hp => ?_, ?_⟩, ⟨fun z hz => ?_, fun i hi => ?_⟩⟩
        · rw [wr_n (by decide), wr_n (by decide), (hA p (by omega)).1, (hA p (by omega)).2]; exact hqs p hp
        · rw [wr_ss, hF 98 (by decide) (by decide)]; exact hqt
        · rw [wr_sn (by omega), hF 97 (by decide) (by decide)]
        · rw [wr_n (by omega)]; exact hF i (by omega) (by omega)
      · replace c5 := (nI_ltI (a := j) (b := 6) (by omega) (by decide)).mp c5
        have ix1 : (0 + nI j).toNatClampNeg = j := by rw [Int32.zero_add]; exact nI_clamp (by omega)
        have ix2 : (6 + nI j).toNatClampNeg = 6 + j := by rw [show (6 : Int32) = nI 6 from rfl, nI_add]; exact nI_clamp (by omega)
        have ix3 : (nI j).toNatClampNeg = j := nI_clamp (by omega)
        refine g_aload_n C (pc := 8) dX12_starts_8 1 rfl ?_
        refine g_getR C (pc := 9) fl_RX12_35 (by decide) (by first | assumption | rfl | omega) (by first | assumption | rfl | omega) (by first | assumption | rfl | omega) dX12_starts_9 ?_
        refine g_iload_n C (pc := 12) dX12_starts_12 0 rfl ?_
        refine g_aload_n C (pc := 13) dX12_starts_13 1 rfl ?_
        refine g_getR C (pc := 14) fl_RX12_7 (by decide) (by first | assumption | rfl | omega) (by first | assumption | rfl | omega) (by first | assumption | rfl | omega) dX12_starts_14 ?_
        refine g_iconst C (pc := 17) 0 dX12_starts_17 (by decide) ?_
        refine g_iload_n C (pc := 18) dX12_starts_18 0 rfl ?_
        refine g_iadd C (pc := 19) dX12_starts_19 ?_
        refine g_iald C (pc := 20) (by first | assumption | rfl | omega) (by first | assumption | rfl | omega) (by rw [Int32.zero_add]; exact vp_in_nI (by omega) (by decide)) dX12_starts_20 ?_
        refine g_iast C (pc := 21) (by first | assumption | rfl | omega) (by first | assumption | rfl | omega) hn9 (vp_in_nI (by omega) (by decide)) dX12_starts_21 ?_
        refine g_aload_n C (pc := 22) dX12_starts_22 1 rfl ?_
        refine g_getR C (pc := 23) fl_RX12_38 (by decide) (by first | assumption | rfl | omega) (by first | assumption | rfl | omega) (by first | assumption | rfl | omega) dX12_starts_23 ?_
        refine g_iload_n C (pc := 26) dX12_starts_26 0 rfl ?_
        refine g_aload_n C (pc := 27) dX12_starts_27 1 rfl ?_
        refine g_getR C (pc := 28) fl_RX12_7 (by decide) (by first | assumption | rfl | omega) (by first | assumption | rfl | omega) (by first | assumption | rfl | omega) dX12_starts_28 ?_
        refine g_bipush C (pc := 31) 6 dX12_starts_31 (by decide) ?_
        refine g_iload_n C (pc := 33) dX12_starts_33 0 rfl ?_
        refine g_iadd C (pc := 34) dX12_starts_34 ?_
        refine g_iald C (pc := 35) (by first | assumption | rfl | omega) (by first | assumption | rfl | omega) (by rw [show (6 : Int32) = nI 6 from rfl, nI_add]; exact vp_in_nI (by omega) (by decide)) dX12_starts_35 ?_
        refine g_iast C (pc := 36) (by first | assumption | rfl | omega) (by first | assumption | rfl | omega) hn9 (vp_in_nI (by omega) (by decide)) dX12_starts_36 ?_
        refine g_iinc C (pc := 37) (1) dX12_starts_37 0 rfl (by decide) (by decide) (fun v37 => [(1, .int v37), (0, .ref 97)]) (fun _ => rfl) (fun v37 ev37 => ?_)
        refine g_goto C (pc := 40) 2 dX12_starts_40 (by decide) ?_
        refine g_lv C [0, 1] rfl (ih2 (j + 1) _ _ ?_ ?_ ?_ ?_ (by omega))
        · subst_vars; exact nI_1 _
        · omega
        · intro k hk
          rw [ix1, ix2, ix3]
          rw [wr_n (a := 106) (by decide), wr_s, wr_s]
          rcases Nat.lt_or_ge k j with h1 | h1
          · rw [upd_n (by omega), upd_n (by omega), wr_n (a := 107) (by decide)]; exact hA k h1
          · have : k = j := by omega
            subst this
            rw [upd_s, upd_s, wr_n (by decide), hF 98 (by decide) (by decide)]; exact ⟨rfl, rfl⟩
        · intro i h1 h2; rw [wr_n h2, wr_n h1]; exact hF i h1 h2
  refine g_lv C [0, 1] rfl (L2 (_ + 1) 0 _ _ ?_ ?_ ?_ ?_ (by first | omega | exact Nat.lt_succ_self _))
  · subst_vars; rfl
  · exact Nat.zero_le _
  · intro k hk; omega
  · intro i _ _; rfl
set_option maxHeartbeats 400000 in
theorem c_X12_allOdds (n : Nat) (ρ : Rho) (I : Mem) (F : RT) (hn9 : n ≤ 999) (hms : MS n ρ) (hqe : QE I F) : MI yX12_allOdds cX12_allOdds 3 (some .int) 0 [.ref 97] n ρ I (fun v I1 => v = nI (allO F) ∧ I = I1) := by
  refine MG.of (by decide +kernel) (Nat.le_of_ble_eq_true rfl) hn9 ?_
  intro κ C hR
  show G κ n ρ 0 [(0, .ref 97)] [] I
  obtain ⟨mn, ⟨m0, m1, m5, m6, m7, m11, m12, m15⟩, ⟨m23, m24, m26, m27, m28, m30, m31, m32, m33⟩, ⟨m38, m39, m40, m42⟩⟩ := id hms
  refine g_iconst C (pc := 0) 0 dX12_allOdds_0 (by decide) ?_
  refine g_istore_n C (pc := 1) dX12_allOdds_1 (by decide) (fun v1 => [(1, .int v1), (0, .ref 97)]) (fun _ => rfl) (fun v1 ev1 => ?_)
  refine g_iconst C (pc := 2) 0 dX12_allOdds_2 (by decide) ?_
  refine g_istore_n C (pc := 3) dX12_allOdds_3 (by decide) (fun v3 => [(2, .int v3), (1, .int v1), (0, .ref 97)]) (fun _ => rfl) (fun v3 ev3 => ?_)
  have L4 : ∀ (k9 : Nat) (j : Nat)  (wz2 : Int32) (wz1 : Int32) (hw2 : wz2 = nI j) (hj : j ≤ 5) (hc : wz1 = nI (smP (rOd F) j)), 5 - j < k9 → G κ n ρ 4 [(2, .int wz2), (1, .int wz1), (0, .ref 97)] [] I := by
    intro k9
    induction k9 with
    | zero => intro j wz2 wz1 hw2 hj hc hm4; exact absurd hm4 (Nat.not_lt_zero _)
    | succ k9 ih4 =>
      intro j wz2 wz1 hw2 hj hc hm4
      subst hw2
      refine g_iload_n C (pc := 4) dX12_allOdds_4 0 rfl ?_
      refine g_iconst C (pc := 5) 5 dX12_allOdds_5 (by decide) ?_
      refine g_icmp_ge C (pc := 6) 27 dX12_allOdds_6 (by decide) (fun c6 => ?_) (fun c6 => ?_)
      · replace c6 := (nI_leI (a := 5) (b := j) (by decide) (by omega)).mp c6
        refine g_iload_n C (pc := 27) dX12_allOdds_27 1 rfl ?_
        refine g_iret C hR (pc := 28) rfl dX12_allOdds_28 ?_
        refine ⟨rfl, _, rfl, ?_⟩
        have : j = 5 := by omega
        subst this; exact ⟨hc, rfl⟩
      · replace c6 := (nI_ltI (a := j) (b := 5) (by omega) (by decide)).mp c6
        refine g_iload_n C (pc := 9) dX12_allOdds_9 1 rfl ?_
        refine g_aload_n C (pc := 10) dX12_allOdds_10 2 rfl ?_
        refine g_getR C (pc := 11) fl_RX12_7 (by decide) (by first | assumption | rfl | omega) (by first | assumption | rfl | omega) (by first | assumption | rfl | omega) dX12_allOdds_11 ?_
        refine g_bipush C (pc := 14) 13 dX12_allOdds_14 (by decide) ?_
        refine g_iload_n C (pc := 16) dX12_allOdds_16 0 rfl ?_
        refine g_iadd C (pc := 17) dX12_allOdds_17 ?_
        refine g_iald C (pc := 18) (by first | assumption | rfl | omega) (by first | assumption | rfl | omega) (by rw [show (13 : Int32) = nI 13 from rfl, nI_add]; exact vp_in_nI (by omega) (by decide)) dX12_allOdds_18 ?_
        refine g_iadd C (pc := 19) dX12_allOdds_19 ?_
        refine g_istore_n C (pc := 20) dX12_allOdds_20 (by decide) (fun v20 => [(1, .int v20), (2, .int (nI j)), (0, .ref 97)]) (fun _ => rfl) (fun v20 ev20 => ?_)
        refine g_iinc C (pc := 21) (1) dX12_allOdds_21 1 rfl (by decide) (by decide) (fun v21 => [(2, .int v21), (1, .int v20), (0, .ref 97)]) (fun _ => rfl) (fun v21 ev21 => ?_)
        refine g_goto C (pc := 24) 4 dX12_allOdds_24 (by decide) ?_
        refine g_lv C [0, 1, 2] rfl (ih4 (j + 1)  _ _ ?_ ?_ ?_ (by omega))
        · subst_vars; exact nI_1 _
        · omega
        · rw [ev20, hc, show (13 : Int32) = nI 13 from rfl, nI_add, nI_clamp (by omega), hqe.2 j (by omega), nI_add]; rfl
  refine g_lv C [0, 1, 2] rfl (L4 (_ + 1) 0  _ _ ?_ ?_ ?_ (by first | omega | exact Nat.lt_succ_self _))
  · assumption
  · omega
  · subst ev1; rfl
set_option maxHeartbeats 400000 in
theorem c_X12_becomes (n : Nat) (ρ : Rho) (I : Mem) (k : Nat) (x z : Int32) (hn9 : n ≤ 999) (hms : MS n ρ) (hk : k < 123) (hx : x = nI k) : MI yX12_becomes cX12_becomes 4 (some .int) 0 [.ref 97, .int x, .int z] n ρ I (fun v I1 => v = I 98 k ∧ wr I 98 k z = I1) := by
  refine MG.of (by decide +kernel) (Nat.le_of_ble_eq_true rfl) hn9 ?_
  intro κ C hR
  show G κ n ρ 0 [(0, .ref 97), (1, .int x), (2, .int z)] [] I
  obtain ⟨mn, ⟨m0, m1, m5, m6, m7, m11, m12, m15⟩, ⟨m23, m24, m26, m27, m28, m30, m31, m32, m33⟩, ⟨m38, m39, m40, m42⟩⟩ := id hms
  have hcx : x.toNatClampNeg = k := by rw [hx]; exact nI_clamp (by omega)
  refine g_aload_n C (pc := 0) dX12_becomes_0 0 rfl ?_
  refine g_getR C (pc := 1) fl_RX12_7 (by decide) (by first | assumption | rfl | omega) (by first | assumption | rfl | omega) (by first | assumption | rfl | omega) dX12_becomes_1 ?_
  refine g_iload_n C (pc := 4) dX12_becomes_4 1 rfl ?_
  refine g_iald C (pc := 5) (by first | assumption | rfl | omega) (by first | assumption | rfl | omega) (by rw [hx]; exact vp_in_nI (by omega) (by decide)) dX12_becomes_5 ?_
  refine g_istore_n C (pc := 6) dX12_becomes_6 (by decide) (fun v6 => [(3, .int v6), (0, .ref 97), (1, .int x), (2, .int z)]) (fun _ => rfl) (fun v6 ev6 => ?_)
  refine g_aload_n C (pc := 7) dX12_becomes_7 1 rfl ?_
  refine g_getR C (pc := 8) fl_RX12_7 (by decide) (by first | assumption | rfl | omega) (by first | assumption | rfl | omega) (by first | assumption | rfl | omega) dX12_becomes_8 ?_
  refine g_iload_n C (pc := 11) dX12_becomes_11 2 rfl ?_
  refine g_iload_n C (pc := 12) dX12_becomes_12 3 rfl ?_
  refine g_iast C (pc := 13) (by first | assumption | rfl | omega) (by first | assumption | rfl | omega) hn9 (by rw [hx]; exact vp_in_nI (by omega) (by decide)) dX12_becomes_13 ?_
  refine g_iload_n C (pc := 14) dX12_becomes_14 0 rfl ?_
  refine g_iret C hR (pc := 15) rfl dX12_becomes_15 ?_
  refine ⟨rfl, _, rfl, ?_⟩
  rw [ev6, hcx]; exact ⟨rfl, rfl⟩
set_option maxHeartbeats 400000 in
theorem c_X12_wonNow (n : Nat) (ρ : Rho) (I : Mem) (F : RT) (b : BT) (sd : Nat) (x : Int32) (hn9 : n ≤ 999) (hms : MS n ρ) (hqf : QF I F) (hrw : RW F) (hqb : QB I F b) (hbw : BW F b) (hl1 : L1 F b) (hsd : sd < 2) (hx : x = nI sd) : ML yX12_wonNow cX12_wonNow 2 (some .long) 1 [.ref 97, .int x] n ρ I (fun v I1 => v = lN (val F sd 0 b) ∧ I = I1) := by
  refine MG.of (by decide +kernel) (Nat.le_of_ble_eq_true rfl) hn9 ?_
  intro κ C hR
  show G κ n ρ 0 [(0, .ref 97), (1, .int x)] [] I
  obtain ⟨mn, ⟨m0, m1, m5, m6, m7, m11, m12, m15⟩, ⟨m23, m24, m26, m27, m28, m30, m31, m32, m33⟩, ⟨m38, m39, m40, m42⟩⟩ := id hms
  refine g_aload_n C (pc := 0) dX12_wonNow_0 0 rfl ?_
  refine g_callVI C (pc := 1) mf_X12_lost lk_RX12_221 (c_X12_lost n ρ I F b hn9 hms hqf hrw hqb hbw hl1) (by decide) (Nat.le_refl _) rfl (by first | assumption | rfl | omega) rfl (by first | assumption | rfl | omega) (Nat.le_of_ble_eq_true rfl) dX12_wonNow_1 (fun v1 I1 h1 => ?_)
  obtain ⟨e1, rfl⟩ := h1
  refine g_iconst C (pc := 4) 1 dX12_wonNow_4 (by decide) ?_
  refine g_iload_n C (pc := 5) dX12_wonNow_5 1 rfl ?_
  refine g_isub C (pc := 6) dX12_wonNow_6 ?_
  refine g_icmp_ne C (pc := 7) 14 dX12_wonNow_7 (by decide) (fun c7 => ?_) (fun c7 => ?_)
  · refine g_lconst C (pc := 14) 0 dX12_wonNow_14 (by decide) ?_
    refine g_lret C hR (pc := 15) rfl dX12_wonNow_15 ?_
    refine ⟨rfl, _, rfl, ?_⟩
    refine ⟨val_won (b := b) hrw hsd hx ?_, rfl⟩
    rw [← e1]
    first | exact Or.inl ⟨c7, rfl⟩ | exact Or.inr ⟨c7, rfl⟩
  · refine g_lconst C (pc := 10) 1 dX12_wonNow_10 (by decide) ?_
    refine g_goto C (pc := 11) 15 dX12_wonNow_11 (by decide) ?_
    refine g_lret C hR (pc := 15) rfl dX12_wonNow_15 ?_
    refine ⟨rfl, _, rfl, ?_⟩
    refine ⟨val_won (b := b) hrw hsd hx ?_, rfl⟩
    rw [← e1]
    first | exact Or.inl ⟨c7, rfl⟩ | exact Or.inr ⟨c7, rfl⟩
set_option maxHeartbeats 400000 in
theorem c_X12_isBetter (n : Nat) (ρ : Rho) (I : Mem) (x y9 : Int32) (z w : Int64) (hn9 : n ≤ 999)  : MI yX12_isBetter cX12_isBetter 6 (some .boolean) 0 [.int x, .int y9, .long z, .long w] n ρ I (fun v I1 => v = bI (¬ x = 0 ∨ (if y9 = 0 then z < w else w < z)) ∧ I = I1) := by
  refine MG.of (by decide +kernel) (Nat.le_of_ble_eq_true rfl) hn9 ?_
  intro κ C hR
  show G κ n ρ 0 [(0, .int x), (1, .int y9), (2, .long z), (4, .long w)] [] I
  refine g_iload_n C (pc := 0) dX12_isBetter_0 0 rfl ?_
  refine g_if_ne C (pc := 1) 25 dX12_isBetter_1 (by decide) (fun c1 => ?_) (fun c1 => ?_)
  · refine g_iconst C (pc := 25) 1 dX12_isBetter_25 (by decide) ?_
    refine g_goto C (pc := 26) 30 dX12_isBetter_26 (by decide) ?_
    refine g_zret C hR (pc := 30) rfl (by first | rfl | skip) dX12_isBetter_30 ?_
    refine ⟨rfl, _, rfl, ?_⟩
    refine ⟨?_, rfl⟩
    first
    | (symm; apply bI_t; exact Or.inl c1)
    | (symm; apply bI_t; right; rw [if_pos c5]; exact lcmp_lt.mp c22)
    | (symm; apply bI_t; right; rw [if_neg c5]; exact lcmp_gt.mp c12)
    | (symm; apply bI_f; rintro (h | h); exact h c1; rw [if_pos c5] at h; exact absurd (lcmp_lt.mpr h) (Int32.not_lt.mpr c22))
    | (symm; apply bI_f; rintro (h | h); exact h c1; rw [if_neg c5] at h; exact absurd (lcmp_gt.mpr h) (Int32.not_lt.mpr c12))
  · refine g_iload_n C (pc := 4) dX12_isBetter_4 1 rfl ?_
    refine g_if_eq C (pc := 5) 18 dX12_isBetter_5 (by decide) (fun c5 => ?_) (fun c5 => ?_)
    · refine g_lload_n C (pc := 18) dX12_isBetter_18 2 rfl ?_
      refine g_lload C (pc := 19) dX12_isBetter_19 3 rfl ?_
      refine g_lcmp C (pc := 21) dX12_isBetter_21 ?_
      refine g_if_ge C (pc := 22) 29 dX12_isBetter_22 (by decide) (fun c22 => ?_) (fun c22 => ?_)
      · refine g_iconst C (pc := 29) 0 dX12_isBetter_29 (by decide) ?_
        refine g_zret C hR (pc := 30) rfl (by first | rfl | skip) dX12_isBetter_30 ?_
        refine ⟨rfl, _, rfl, ?_⟩
        refine ⟨?_, rfl⟩
        first
        | (symm; apply bI_t; exact Or.inl c1)
        | (symm; apply bI_t; right; rw [if_pos c5]; exact lcmp_lt.mp c22)
        | (symm; apply bI_t; right; rw [if_neg c5]; exact lcmp_gt.mp c12)
        | (symm; apply bI_f; rintro (h | h); exact h c1; rw [if_pos c5] at h; exact absurd (lcmp_lt.mpr h) (Int32.not_lt.mpr c22))
        | (symm; apply bI_f; rintro (h | h); exact h c1; rw [if_neg c5] at h; exact absurd (lcmp_gt.mpr h) (Int32.not_lt.mpr c12))
      · refine g_iconst C (pc := 25) 1 dX12_isBetter_25 (by decide) ?_
        refine g_goto C (pc := 26) 30 dX12_isBetter_26 (by decide) ?_
        refine g_zret C hR (pc := 30) rfl (by first | rfl | skip) dX12_isBetter_30 ?_
        refine ⟨rfl, _, rfl, ?_⟩
        refine ⟨?_, rfl⟩
        first
        | (symm; apply bI_t; exact Or.inl c1)
        | (symm; apply bI_t; right; rw [if_pos c5]; exact lcmp_lt.mp c22)
        | (symm; apply bI_t; right; rw [if_neg c5]; exact lcmp_gt.mp c12)
        | (symm; apply bI_f; rintro (h | h); exact h c1; rw [if_pos c5] at h; exact absurd (lcmp_lt.mpr h) (Int32.not_lt.mpr c22))
        | (symm; apply bI_f; rintro (h | h); exact h c1; rw [if_neg c5] at h; exact absurd (lcmp_gt.mpr h) (Int32.not_lt.mpr c12))
    · refine g_lload_n C (pc := 8) dX12_isBetter_8 2 rfl ?_
      refine g_lload C (pc := 9) dX12_isBetter_9 3 rfl ?_
      refine g_lcmp C (pc := 11) dX12_isBetter_11 ?_
      refine g_if_le C (pc := 12) 29 dX12_isBetter_12 (by decide) (fun c12 => ?_) (fun c12 => ?_)
      · refine g_iconst C (pc := 29) 0 dX12_isBetter_29 (by decide) ?_
        refine g_zret C hR (pc := 30) rfl (by first | rfl | skip) dX12_isBetter_30 ?_
        refine ⟨rfl, _, rfl, ?_⟩
        refine ⟨?_, rfl⟩
        first
        | (symm; apply bI_t; exact Or.inl c1)
        | (symm; apply bI_t; right; rw [if_pos c5]; exact lcmp_lt.mp c22)
        | (symm; apply bI_t; right; rw [if_neg c5]; exact lcmp_gt.mp c12)
        | (symm; apply bI_f; rintro (h | h); exact h c1; rw [if_pos c5] at h; exact absurd (lcmp_lt.mpr h) (Int32.not_lt.mpr c22))
        | (symm; apply bI_f; rintro (h | h); exact h c1; rw [if_neg c5] at h; exact absurd (lcmp_gt.mpr h) (Int32.not_lt.mpr c12))
      · refine g_goto C (pc := 15) 25 dX12_isBetter_15 (by decide) ?_
        refine g_iconst C (pc := 25) 1 dX12_isBetter_25 (by decide) ?_
        refine g_goto C (pc := 26) 30 dX12_isBetter_26 (by decide) ?_
        refine g_zret C hR (pc := 30) rfl (by first | rfl | skip) dX12_isBetter_30 ?_
        refine ⟨rfl, _, rfl, ?_⟩
        refine ⟨?_, rfl⟩
        first
        | (symm; apply bI_t; exact Or.inl c1)
        | (symm; apply bI_t; right; rw [if_pos c5]; exact lcmp_lt.mp c22)
        | (symm; apply bI_t; right; rw [if_neg c5]; exact lcmp_gt.mp c12)
        | (symm; apply bI_f; rintro (h | h); exact h c1; rw [if_pos c5] at h; exact absurd (lcmp_lt.mpr h) (Int32.not_lt.mpr c22))
        | (symm; apply bI_f; rintro (h | h); exact h c1; rw [if_neg c5] at h; exact absurd (lcmp_gt.mpr h) (Int32.not_lt.mpr c12))
set_option maxHeartbeats 400000 in
theorem c_X12_rule (n : Nat) (ρ : Rho) (I : Mem) (F : RT) (b : BT) (x : Int32) (hn9 : n ≤ 999) (hms : MS n ρ) (hqn : QN I F b) (hrw : RW F) (hbw : BW F b) (hl1 : L1 F b) (hpw : PW F b) : MI yX12_rule cX12_rule 2 (some .int) 1 [.ref 97, .int x] n ρ I (fun v I1 => v = (if x = 0 then nI (rW F) else if x = 1 then nI (rH F) else if x = 2 then nI (rN F) else if x = 3 then I 98 12 else if x = 4 then nI (bM b) else if x = 5 then I 98 19 else if x = 6 then oI (lostB F b) else -1) ∧ Kp I I1) := by
  refine MG.of (by decide +kernel) (Nat.le_of_ble_eq_true rfl) hn9 ?_
  intro κ C hR
  show G κ n ρ 0 [(0, .ref 97), (1, .int x)] [] I
  obtain ⟨mn, ⟨m0, m1, m5, m6, m7, m11, m12, m15⟩, ⟨m23, m24, m26, m27, m28, m30, m31, m32, m33⟩, ⟨m38, m39, m40, m42⟩⟩ := id hms
  obtain ⟨hqf, hqe, hqs, hqt⟩ := id hqn
  obtain ⟨qw, qh, qn, qk⟩ := id hqf
  have hn6 : rN F ≤ 6 := hrw.2.2.2.2.1
  have hm25 := Nat.mul_le_mul hrw.2.1 hrw.2.2.2.1
  have hm4 := Nat.mul_le_mul hrw.1 hrw.2.2.1
  refine g_iload_n C (pc := 0) dX12_rule_0 1 rfl ?_
  refine g_tsw C (pc := 1) dX12_rule_1 (by decide) (by decide) (by decide) (by decide) (swK_cons (fun c1_0 => ?_) (swK_cons (fun c1_1 => ?_) (swK_cons (fun c1_2 => ?_) (swK_cons (fun c1_3 => ?_) (swK_cons (fun c1_4 => ?_) (swK_cons (fun c1_5 => ?_) (swK_cons (fun c1_6 => ?_) swK_nil))))))) (fun c1_d => ?_)
  · show G κ n ρ 44 _ _ _
    replace c1_0 : x = 0 := c1_0
    refine g_aload_n C (pc := 44) dX12_rule_44 0 rfl ?_
    refine g_getI C (pc := 45) fl_RX12_99 (by decide) (by first | assumption | rfl | omega) (by first | assumption | rfl | omega) dX12_rule_45 ?_
    refine g_iret C hR (pc := 48) rfl dX12_rule_48 ?_
    refine ⟨rfl, _, rfl, ?_⟩
    refine ⟨?_, by first | exact Kp.rfl' | exact k84⟩
    first | (subst c1_0; exact qw) | (subst c1_1; exact qh) | (subst c1_2; exact qn) | (subst c1_3; rfl) | (subst c1_4; exact hqt) | (subst c1_5; rfl) | (subst c1_6; exact e88) | (rw [if_neg (show ¬ x = 0 from hnd 0 (by decide)), if_neg (show ¬ x = 1 from hnd 1 (by decide)), if_neg (show ¬ x = 2 from hnd 2 (by decide)), if_neg (show ¬ x = 3 from hnd 3 (by decide)), if_neg (show ¬ x = 4 from hnd 4 (by decide)), if_neg (show ¬ x = 5 from hnd 5 (by decide)), if_neg (show ¬ x = 6 from hnd 6 (by decide))])
  · show G κ n ρ 49 _ _ _
    replace c1_1 : x = 1 := c1_1
    refine g_aload_n C (pc := 49) dX12_rule_49 0 rfl ?_
    refine g_getI C (pc := 50) fl_RX12_102 (by decide) (by first | assumption | rfl | omega) (by first | assumption | rfl | omega) dX12_rule_50 ?_
    refine g_iret C hR (pc := 53) rfl dX12_rule_53 ?_
    refine ⟨rfl, _, rfl, ?_⟩
    refine ⟨?_, by first | exact Kp.rfl' | exact k84⟩
    first | (subst c1_0; exact qw) | (subst c1_1; exact qh) | (subst c1_2; exact qn) | (subst c1_3; rfl) | (subst c1_4; exact hqt) | (subst c1_5; rfl) | (subst c1_6; exact e88) | (rw [if_neg (show ¬ x = 0 from hnd 0 (by decide)), if_neg (show ¬ x = 1 from hnd 1 (by decide)), if_neg (show ¬ x = 2 from hnd 2 (by decide)), if_neg (show ¬ x = 3 from hnd 3 (by decide)), if_neg (show ¬ x = 4 from hnd 4 (by decide)), if_neg (show ¬ x = 5 from hnd 5 (by decide)), if_neg (show ¬ x = 6 from hnd 6 (by decide))])
  · show G κ n ρ 54 _ _ _
    replace c1_2 : x = 2 := c1_2
    refine g_aload_n C (pc := 54) dX12_rule_54 0 rfl ?_
    refine g_getI C (pc := 55) fl_RX12_105 (by decide) (by first | assumption | rfl | omega) (by first | assumption | rfl | omega) dX12_rule_55 ?_
    refine g_iret C hR (pc := 58) rfl dX12_rule_58 ?_
    refine ⟨rfl, _, rfl, ?_⟩
    refine ⟨?_, by first | exact Kp.rfl' | exact k84⟩
    first | (subst c1_0; exact qw) | (subst c1_1; exact qh) | (subst c1_2; exact qn) | (subst c1_3; rfl) | (subst c1_4; exact hqt) | (subst c1_5; rfl) | (subst c1_6; exact e88) | (rw [if_neg (show ¬ x = 0 from hnd 0 (by decide)), if_neg (show ¬ x = 1 from hnd 1 (by decide)), if_neg (show ¬ x = 2 from hnd 2 (by decide)), if_neg (show ¬ x = 3 from hnd 3 (by decide)), if_neg (show ¬ x = 4 from hnd 4 (by decide)), if_neg (show ¬ x = 5 from hnd 5 (by decide)), if_neg (show ¬ x = 6 from hnd 6 (by decide))])
  · show G κ n ρ 59 _ _ _
    replace c1_3 : x = 3 := c1_3
    refine g_aload_n C (pc := 59) dX12_rule_59 0 rfl ?_
    refine g_getR C (pc := 60) fl_RX12_7 (by decide) (by first | assumption | rfl | omega) (by first | assumption | rfl | omega) (by first | assumption | rfl | omega) dX12_rule_60 ?_
    refine g_bipush C (pc := 63) 12 dX12_rule_63 (by decide) ?_
    refine g_iald C (pc := 65) (by first | assumption | rfl | omega) (by first | assumption | rfl | omega) (vp_in_nI (n := 12) (by decide) (by decide)) dX12_rule_65 ?_
    refine g_iret C hR (pc := 66) rfl dX12_rule_66 ?_
    refine ⟨rfl, _, rfl, ?_⟩
    refine ⟨?_, by first | exact Kp.rfl' | exact k84⟩
    first | (subst c1_0; exact qw) | (subst c1_1; exact qh) | (subst c1_2; exact qn) | (subst c1_3; rfl) | (subst c1_4; exact hqt) | (subst c1_5; rfl) | (subst c1_6; exact e88) | (rw [if_neg (show ¬ x = 0 from hnd 0 (by decide)), if_neg (show ¬ x = 1 from hnd 1 (by decide)), if_neg (show ¬ x = 2 from hnd 2 (by decide)), if_neg (show ¬ x = 3 from hnd 3 (by decide)), if_neg (show ¬ x = 4 from hnd 4 (by decide)), if_neg (show ¬ x = 5 from hnd 5 (by decide)), if_neg (show ¬ x = 6 from hnd 6 (by decide))])
  · show G κ n ρ 67 _ _ _
    replace c1_4 : x = 4 := c1_4
    refine g_aload_n C (pc := 67) dX12_rule_67 0 rfl ?_
    refine g_getR C (pc := 68) fl_RX12_7 (by decide) (by first | assumption | rfl | omega) (by first | assumption | rfl | omega) (by first | assumption | rfl | omega) dX12_rule_68 ?_
    refine g_bipush C (pc := 71) 18 dX12_rule_71 (by decide) ?_
    refine g_iald C (pc := 73) (by first | assumption | rfl | omega) (by first | assumption | rfl | omega) (vp_in_nI (n := 18) (by decide) (by decide)) dX12_rule_73 ?_
    refine g_iret C hR (pc := 74) rfl dX12_rule_74 ?_
    refine ⟨rfl, _, rfl, ?_⟩
    refine ⟨?_, by first | exact Kp.rfl' | exact k84⟩
    first | (subst c1_0; exact qw) | (subst c1_1; exact qh) | (subst c1_2; exact qn) | (subst c1_3; rfl) | (subst c1_4; exact hqt) | (subst c1_5; rfl) | (subst c1_6; exact e88) | (rw [if_neg (show ¬ x = 0 from hnd 0 (by decide)), if_neg (show ¬ x = 1 from hnd 1 (by decide)), if_neg (show ¬ x = 2 from hnd 2 (by decide)), if_neg (show ¬ x = 3 from hnd 3 (by decide)), if_neg (show ¬ x = 4 from hnd 4 (by decide)), if_neg (show ¬ x = 5 from hnd 5 (by decide)), if_neg (show ¬ x = 6 from hnd 6 (by decide))])
  · show G κ n ρ 75 _ _ _
    replace c1_5 : x = 5 := c1_5
    refine g_aload_n C (pc := 75) dX12_rule_75 0 rfl ?_
    refine g_getR C (pc := 76) fl_RX12_7 (by decide) (by first | assumption | rfl | omega) (by first | assumption | rfl | omega) (by first | assumption | rfl | omega) dX12_rule_76 ?_
    refine g_bipush C (pc := 79) 19 dX12_rule_79 (by decide) ?_
    refine g_iald C (pc := 81) (by first | assumption | rfl | omega) (by first | assumption | rfl | omega) (vp_in_nI (n := 19) (by decide) (by decide)) dX12_rule_81 ?_
    refine g_iret C hR (pc := 82) rfl dX12_rule_82 ?_
    refine ⟨rfl, _, rfl, ?_⟩
    refine ⟨?_, by first | exact Kp.rfl' | exact k84⟩
    first | (subst c1_0; exact qw) | (subst c1_1; exact qh) | (subst c1_2; exact qn) | (subst c1_3; rfl) | (subst c1_4; exact hqt) | (subst c1_5; rfl) | (subst c1_6; exact e88) | (rw [if_neg (show ¬ x = 0 from hnd 0 (by decide)), if_neg (show ¬ x = 1 from hnd 1 (by decide)), if_neg (show ¬ x = 2 from hnd 2 (by decide)), if_neg (show ¬ x = 3 from hnd 3 (by decide)), if_neg (show ¬ x = 4 from hnd 4 (by decide)), if_neg (show ¬ x = 5 from hnd 5 (by decide)), if_neg (show ¬ x = 6 from hnd 6 (by decide))])
  · show G κ n ρ 83 _ _ _
    replace c1_6 : x = 6 := c1_6
    refine g_aload_n C (pc := 83) dX12_rule_83 0 rfl ?_
    refine g_callVV C (pc := 84) mf_X12_starts lk_RX12_227 (c_X12_startsB n ρ I F b hn9 hms hqn hrw hbw) (by decide) (Nat.le_refl _) rfl (by first | assumption | rfl | omega) rfl (by first | assumption | rfl | omega) (Nat.le_of_ble_eq_true rfl) dX12_rule_84 (fun I84 h84 => ?_)
    obtain ⟨f84, k84⟩ := h84
    refine g_aload_n C (pc := 87) dX12_rule_87 0 rfl ?_
    refine g_callVI C (pc := 88) mf_X12_lost lk_RX12_221 (c_X12_lost n ρ I84 F b hn9 hms (hqf.kp k84) hrw f84 hbw hl1) (by decide) (Nat.le_refl _) rfl (by first | assumption | rfl | omega) rfl (by first | assumption | rfl | omega) (Nat.le_of_ble_eq_true rfl) dX12_rule_88 (fun v88 I88 h88 => ?_)
    obtain ⟨e88, rfl⟩ := h88
    refine g_iret C hR (pc := 91) rfl dX12_rule_91 ?_
    refine ⟨rfl, _, rfl, ?_⟩
    refine ⟨?_, by first | exact Kp.rfl' | exact k84⟩
    first | (subst c1_0; exact qw) | (subst c1_1; exact qh) | (subst c1_2; exact qn) | (subst c1_3; rfl) | (subst c1_4; exact hqt) | (subst c1_5; rfl) | (subst c1_6; exact e88) | (rw [if_neg (show ¬ x = 0 from hnd 0 (by decide)), if_neg (show ¬ x = 1 from hnd 1 (by decide)), if_neg (show ¬ x = 2 from hnd 2 (by decide)), if_neg (show ¬ x = 3 from hnd 3 (by decide)), if_neg (show ¬ x = 4 from hnd 4 (by decide)), if_neg (show ¬ x = 5 from hnd 5 (by decide)), if_neg (show ¬ x = 6 from hnd 6 (by decide))])
  · show G κ n ρ 92 _ _ _
    have hnd : ∀ q, q < 7 → x ≠ nI q := by
      intro q hq h9
      subst h9
      rcases c1_d with h8 | h8
      · exact absurd h8 (nI_pos (by omega))
      · have : ¬ nI 7 ≤ nI q := by rw [nI_leI (by decide) (by omega)]; omega
        exact this h8
    refine g_iconst C (pc := 92) (-1) dX12_rule_92 (by decide) ?_
    refine g_iret C hR (pc := 93) rfl dX12_rule_93 ?_
    refine ⟨rfl, _, rfl, ?_⟩
    refine ⟨?_, by first | exact Kp.rfl' | exact k84⟩
    first | (subst c1_0; exact qw) | (subst c1_1; exact qh) | (subst c1_2; exact qn) | (subst c1_3; rfl) | (subst c1_4; exact hqt) | (subst c1_5; rfl) | (subst c1_6; exact e88) | (rw [if_neg (show ¬ x = 0 from hnd 0 (by decide)), if_neg (show ¬ x = 1 from hnd 1 (by decide)), if_neg (show ¬ x = 2 from hnd 2 (by decide)), if_neg (show ¬ x = 3 from hnd 3 (by decide)), if_neg (show ¬ x = 4 from hnd 4 (by decide)), if_neg (show ¬ x = 5 from hnd 5 (by decide)), if_neg (show ¬ x = 6 from hnd 6 (by decide))])
set_option maxHeartbeats 400000 in
theorem c_X12_square (n : Nat) (ρ : Rho) (I : Mem) (F : RT) (b : BT) (x : Int32) (hn9 : n ≤ 999) (hms : MS n ρ) (hqn : QN I F b) (hrw : RW F) (hbw : BW F b) (hl1 : L1 F b) (hpw : PW F b) : MI yX12_square cX12_square 2 (some .int) 2 [.ref 97, .int x] n ρ I (fun v I1 => v = (if 0 ≤ x ∧ x < nI (rW F * rH F) then oI (pon F b x.toNatClampNeg) else -1) ∧ Kp I I1) := by
  refine MG.of (by decide +kernel) (Nat.le_of_ble_eq_true rfl) hn9 ?_
  intro κ C hR
  show G κ n ρ 0 [(0, .ref 97), (1, .int x)] [] I
  obtain ⟨mn, ⟨m0, m1, m5, m6, m7, m11, m12, m15⟩, ⟨m23, m24, m26, m27, m28, m30, m31, m32, m33⟩, ⟨m38, m39, m40, m42⟩⟩ := id hms
  obtain ⟨hqf, hqe, hqs, hqt⟩ := id hqn
  obtain ⟨qw, qh, qn, qk⟩ := id hqf
  have hn6 : rN F ≤ 6 := hrw.2.2.2.2.1
  have hm25 := Nat.mul_le_mul hrw.2.1 hrw.2.2.2.1
  have hm4 := Nat.mul_le_mul hrw.1 hrw.2.2.1
  refine g_aload_n C (pc := 0) dX12_square_0 0 rfl ?_
  refine g_iload_n C (pc := 1) dX12_square_1 1 rfl ?_
  refine g_callVI C (pc := 2) mf_X12_isSquare lk_RX12_230 (c_X12_isSquare n ρ I F x hn9 hms hqf hrw) (by decide) (Nat.le_refl _) rfl (by first | assumption | rfl | omega) rfl (by first | assumption | rfl | omega) (Nat.le_of_ble_eq_true rfl) dX12_square_2 (fun v2 I2 h2 => ?_)
  obtain ⟨e2, rfl⟩ := h2
  refine g_if_ne C (pc := 5) 10 dX12_square_5 (by decide) (fun c5 => ?_) (fun c5 => ?_)
  · have hx := bI_1.mp (fun h => c5 (e2.trans h))
    obtain ⟨q, hq, hq25, hxq⟩ := sq_of hrw hx
    refine g_aload_n C (pc := 10) dX12_square_10 0 rfl ?_
    refine g_callVV C (pc := 11) mf_X12_starts lk_RX12_227 (c_X12_startsB n ρ I F b hn9 hms hqn hrw hbw) (by decide) (Nat.le_refl _) rfl (by first | assumption | rfl | omega) rfl (by first | assumption | rfl | omega) (Nat.le_of_ble_eq_true rfl) dX12_square_11 (fun I11 h11 => ?_)
    obtain ⟨f11, k11⟩ := h11
    refine g_aload_n C (pc := 14) dX12_square_14 0 rfl ?_
    refine g_iload_n C (pc := 15) dX12_square_15 1 rfl ?_
    refine g_callVI C (pc := 16) mf_X12_pieceAt lk_RX12_218 (c_X12_pieceAt n ρ I11 F b q x hn9 hms (hqf.kp k11) hrw f11 hbw (by omega) hxq) (by decide) (Nat.le_refl _) rfl (by first | assumption | rfl | omega) rfl (by first | assumption | rfl | omega) (Nat.le_of_ble_eq_true rfl) dX12_square_16 (fun v16 I16 h16 => ?_)
    obtain ⟨e16, rfl⟩ := h16
    refine g_iret C hR (pc := 19) rfl dX12_square_19 ?_
    refine ⟨rfl, _, rfl, ?_⟩
    refine ⟨?_, k11⟩
    rw [if_pos hx, e16, hxq, nI_clamp (by omega)]
  · have hx := bI_0.mp (e2.symm.trans c5)
    refine g_iconst C (pc := 8) (-1) dX12_square_8 (by decide) ?_
    refine g_iret C hR (pc := 9) rfl dX12_square_9 ?_
    refine ⟨rfl, _, rfl, ?_⟩
    exact ⟨(if_neg hx).symm, Kp.rfl'⟩
set_option maxHeartbeats 400000 in
theorem c_X12_piece (n : Nat) (ρ : Rho) (I : Mem) (F : RT) (b : BT) (x z : Int32) (hn9 : n ≤ 999) (hms : MS n ρ) (hqn : QN I F b) (hrw : RW F) (hbw : BW F b) (hN1 : 1 ≤ rN F) : MI yX12_piece cX12_piece 3 (some .int) 2 [.ref 97, .int x, .int z] n ρ I (fun v I1 => v = (if 0 ≤ x ∧ x < nI (rN F) then (if z = 0 then nI (rSd F x.toNatClampNeg) else if z = 1 then nI (rKd F x.toNatClampNeg) else if z = 2 then oI (bP b x.toNatClampNeg) else if z = 3 then nI (bO b x.toNatClampNeg) else -1) else -1) ∧ I = I1) := by
  refine MG.of (by decide +kernel) (Nat.le_of_ble_eq_true rfl) hn9 ?_
  intro κ C hR
  show G κ n ρ 0 [(0, .ref 97), (1, .int x), (2, .int z)] [] I
  obtain ⟨mn, ⟨m0, m1, m5, m6, m7, m11, m12, m15⟩, ⟨m23, m24, m26, m27, m28, m30, m31, m32, m33⟩, ⟨m38, m39, m40, m42⟩⟩ := id hms
  obtain ⟨hqf, hqe, hqs, hqt⟩ := id hqn
  obtain ⟨qw, qh, qn, qk⟩ := id hqf
  have hn6 : rN F ≤ 6 := hrw.2.2.2.2.1
  have hm25 := Nat.mul_le_mul hrw.2.1 hrw.2.2.2.1
  have hm4 := Nat.mul_le_mul hrw.1 hrw.2.2.1
  refine g_aload_n C (pc := 0) dX12_piece_0 0 rfl ?_
  refine g_iload_n C (pc := 1) dX12_piece_1 1 rfl ?_
  refine g_callVI C (pc := 2) mf_X12_isPiece lk_RX12_233 (c_X12_isPiece n ρ I F x hn9 hms hqf hrw hN1) (by decide) (Nat.le_refl _) rfl (by first | assumption | rfl | omega) rfl (by first | assumption | rfl | omega) (Nat.le_of_ble_eq_true rfl) dX12_piece_2 (fun v2 I2 h2 => ?_)
  obtain ⟨e2, rfl⟩ := h2
  refine g_if_ne C (pc := 5) 10 dX12_piece_5 (by decide) (fun c5 => ?_) (fun c5 => ?_)
  · have hx := bI_1.mp (fun h => c5 (e2.trans h))
    obtain ⟨p, hp, hxp⟩ := pc_of hrw hx
    have hcx : x.toNatClampNeg = p := by rw [hxp]; exact nI_clamp (by omega)
    refine g_iload_n C (pc := 10) dX12_piece_10 2 rfl ?_
    refine g_tsw C (pc := 11) dX12_piece_11 (by decide) (by decide) (by decide) (by decide) (swK_cons (fun c11_0 => ?_) (swK_cons (fun c11_1 => ?_) (swK_cons (fun c11_2 => ?_) (swK_cons (fun c11_3 => ?_) swK_nil)))) (fun c11_d => ?_)
    · show G κ n ρ 40 _ _ _
      replace c11_0 : z = 0 := c11_0
      refine g_aload_n C (pc := 40) dX12_piece_40 0 rfl ?_
      refine g_getR C (pc := 41) fl_RX12_17 (by decide) (by first | assumption | rfl | omega) (by first | assumption | rfl | omega) (by first | assumption | rfl | omega) dX12_piece_41 ?_
      refine g_iload_n C (pc := 44) dX12_piece_44 1 rfl ?_
      refine g_iald C (pc := 45) (by first | assumption | rfl | omega) (by first | assumption | rfl | omega) (by rw [hxp]; exact vp_in_nI (by omega) (by decide)) dX12_piece_45 ?_
      refine g_iret C hR (pc := 46) rfl dX12_piece_46 ?_
      refine ⟨rfl, _, rfl, ?_⟩
      refine ⟨?_, rfl⟩
      first
      | (rw [if_neg hx]; done)
      | (rw [if_pos hx, hcx]; subst c11_0; exact (qk p hp).1)
      | (rw [if_pos hx, hcx]; subst c11_1; exact (qk p hp).2)
      | (rw [if_pos hx, hcx]; subst c11_2; rw [hxp, Int32.zero_add, nI_clamp (by omega)]; exact (hqs p hp).1)
      | (rw [if_pos hx, hcx]; subst c11_3; rw [hxp, show (6 : Int32) = nI 6 from rfl, nI_add, nI_clamp (by omega)]; exact (hqs p hp).2)
      | (rw [if_pos hx, if_neg (show ¬ z = 0 from hnd 0 (by decide)), if_neg (show ¬ z = 1 from hnd 1 (by decide)), if_neg (show ¬ z = 2 from hnd 2 (by decide)), if_neg (show ¬ z = 3 from hnd 3 (by decide))])
    · show G κ n ρ 47 _ _ _
      replace c11_1 : z = 1 := c11_1
      refine g_aload_n C (pc := 47) dX12_piece_47 0 rfl ?_
      refine g_getR C (pc := 48) fl_RX12_20 (by decide) (by first | assumption | rfl | omega) (by first | assumption | rfl | omega) (by first | assumption | rfl | omega) dX12_piece_48 ?_
      refine g_iload_n C (pc := 51) dX12_piece_51 1 rfl ?_
      refine g_iald C (pc := 52) (by first | assumption | rfl | omega) (by first | assumption | rfl | omega) (by rw [hxp]; exact vp_in_nI (by omega) (by decide)) dX12_piece_52 ?_
      refine g_iret C hR (pc := 53) rfl dX12_piece_53 ?_
      refine ⟨rfl, _, rfl, ?_⟩
      refine ⟨?_, rfl⟩
      first
      | (rw [if_neg hx]; done)
      | (rw [if_pos hx, hcx]; subst c11_0; exact (qk p hp).1)
      | (rw [if_pos hx, hcx]; subst c11_1; exact (qk p hp).2)
      | (rw [if_pos hx, hcx]; subst c11_2; rw [hxp, Int32.zero_add, nI_clamp (by omega)]; exact (hqs p hp).1)
      | (rw [if_pos hx, hcx]; subst c11_3; rw [hxp, show (6 : Int32) = nI 6 from rfl, nI_add, nI_clamp (by omega)]; exact (hqs p hp).2)
      | (rw [if_pos hx, if_neg (show ¬ z = 0 from hnd 0 (by decide)), if_neg (show ¬ z = 1 from hnd 1 (by decide)), if_neg (show ¬ z = 2 from hnd 2 (by decide)), if_neg (show ¬ z = 3 from hnd 3 (by decide))])
    · show G κ n ρ 54 _ _ _
      replace c11_2 : z = 2 := c11_2
      refine g_aload_n C (pc := 54) dX12_piece_54 0 rfl ?_
      refine g_getR C (pc := 55) fl_RX12_7 (by decide) (by first | assumption | rfl | omega) (by first | assumption | rfl | omega) (by first | assumption | rfl | omega) dX12_piece_55 ?_
      refine g_iconst C (pc := 58) 0 dX12_piece_58 (by decide) ?_
      refine g_iload_n C (pc := 59) dX12_piece_59 1 rfl ?_
      refine g_iadd C (pc := 60) dX12_piece_60 ?_
      refine g_iald C (pc := 61) (by first | assumption | rfl | omega) (by first | assumption | rfl | omega) (by rw [hxp, Int32.zero_add]; exact vp_in_nI (by omega) (by decide)) dX12_piece_61 ?_
      refine g_iret C hR (pc := 62) rfl dX12_piece_62 ?_
      refine ⟨rfl, _, rfl, ?_⟩
      refine ⟨?_, rfl⟩
      first
      | (rw [if_neg hx]; done)
      | (rw [if_pos hx, hcx]; subst c11_0; exact (qk p hp).1)
      | (rw [if_pos hx, hcx]; subst c11_1; exact (qk p hp).2)
      | (rw [if_pos hx, hcx]; subst c11_2; rw [hxp, Int32.zero_add, nI_clamp (by omega)]; exact (hqs p hp).1)
      | (rw [if_pos hx, hcx]; subst c11_3; rw [hxp, show (6 : Int32) = nI 6 from rfl, nI_add, nI_clamp (by omega)]; exact (hqs p hp).2)
      | (rw [if_pos hx, if_neg (show ¬ z = 0 from hnd 0 (by decide)), if_neg (show ¬ z = 1 from hnd 1 (by decide)), if_neg (show ¬ z = 2 from hnd 2 (by decide)), if_neg (show ¬ z = 3 from hnd 3 (by decide))])
    · show G κ n ρ 63 _ _ _
      replace c11_3 : z = 3 := c11_3
      refine g_aload_n C (pc := 63) dX12_piece_63 0 rfl ?_
      refine g_getR C (pc := 64) fl_RX12_7 (by decide) (by first | assumption | rfl | omega) (by first | assumption | rfl | omega) (by first | assumption | rfl | omega) dX12_piece_64 ?_
      refine g_bipush C (pc := 67) 6 dX12_piece_67 (by decide) ?_
      refine g_iload_n C (pc := 69) dX12_piece_69 1 rfl ?_
      refine g_iadd C (pc := 70) dX12_piece_70 ?_
      refine g_iald C (pc := 71) (by first | assumption | rfl | omega) (by first | assumption | rfl | omega) (by rw [hxp, show (6 : Int32) = nI 6 from rfl, nI_add]; exact vp_in_nI (by omega) (by decide)) dX12_piece_71 ?_
      refine g_iret C hR (pc := 72) rfl dX12_piece_72 ?_
      refine ⟨rfl, _, rfl, ?_⟩
      refine ⟨?_, rfl⟩
      first
      | (rw [if_neg hx]; done)
      | (rw [if_pos hx, hcx]; subst c11_0; exact (qk p hp).1)
      | (rw [if_pos hx, hcx]; subst c11_1; exact (qk p hp).2)
      | (rw [if_pos hx, hcx]; subst c11_2; rw [hxp, Int32.zero_add, nI_clamp (by omega)]; exact (hqs p hp).1)
      | (rw [if_pos hx, hcx]; subst c11_3; rw [hxp, show (6 : Int32) = nI 6 from rfl, nI_add, nI_clamp (by omega)]; exact (hqs p hp).2)
      | (rw [if_pos hx, if_neg (show ¬ z = 0 from hnd 0 (by decide)), if_neg (show ¬ z = 1 from hnd 1 (by decide)), if_neg (show ¬ z = 2 from hnd 2 (by decide)), if_neg (show ¬ z = 3 from hnd 3 (by decide))])
    · show G κ n ρ 73 _ _ _
      have hnd : ∀ q, q < 4 → z ≠ nI q := by
        intro q hq h9
        subst h9
        rcases c11_d with h8 | h8
        · exact absurd h8 (nI_pos (by omega))
        · have : ¬ nI 4 ≤ nI q := by rw [nI_leI (by decide) (by omega)]; omega
          exact this h8
      refine g_iconst C (pc := 73) (-1) dX12_piece_73 (by decide) ?_
      refine g_iret C hR (pc := 74) rfl dX12_piece_74 ?_
      refine ⟨rfl, _, rfl, ?_⟩
      refine ⟨?_, rfl⟩
      first
      | (rw [if_neg hx]; done)
      | (rw [if_pos hx, hcx]; subst c11_0; exact (qk p hp).1)
      | (rw [if_pos hx, hcx]; subst c11_1; exact (qk p hp).2)
      | (rw [if_pos hx, hcx]; subst c11_2; rw [hxp, Int32.zero_add, nI_clamp (by omega)]; exact (hqs p hp).1)
      | (rw [if_pos hx, hcx]; subst c11_3; rw [hxp, show (6 : Int32) = nI 6 from rfl, nI_add, nI_clamp (by omega)]; exact (hqs p hp).2)
      | (rw [if_pos hx, if_neg (show ¬ z = 0 from hnd 0 (by decide)), if_neg (show ¬ z = 1 from hnd 1 (by decide)), if_neg (show ¬ z = 2 from hnd 2 (by decide)), if_neg (show ¬ z = 3 from hnd 3 (by decide))])
  · have hx := bI_0.mp (e2.symm.trans c5)
    refine g_iconst C (pc := 8) (-1) dX12_piece_8 (by decide) ?_
    refine g_iret C hR (pc := 9) rfl dX12_piece_9 ?_
    refine ⟨rfl, _, rfl, ?_⟩
    refine ⟨?_, rfl⟩
    first
    | (rw [if_neg hx]; done)
    | (rw [if_pos hx, hcx]; subst c11_0; exact (qk p hp).1)
    | (rw [if_pos hx, hcx]; subst c11_1; exact (qk p hp).2)
    | (rw [if_pos hx, hcx]; subst c11_2; rw [hxp, Int32.zero_add, nI_clamp (by omega)]; exact (hqs p hp).1)
    | (rw [if_pos hx, hcx]; subst c11_3; rw [hxp, show (6 : Int32) = nI 6 from rfl, nI_add, nI_clamp (by omega)]; exact (hqs p hp).2)
    | (rw [if_pos hx, if_neg (show ¬ z = 0 from hnd 0 (by decide)), if_neg (show ¬ z = 1 from hnd 1 (by decide)), if_neg (show ¬ z = 2 from hnd 2 (by decide)), if_neg (show ¬ z = 3 from hnd 3 (by decide))])
set_option maxHeartbeats 400000 in
theorem c_X12_odd (n : Nat) (ρ : Rho) (I : Mem) (F : RT) (x : Int32) (hn9 : n ≤ 999) (hms : MS n ρ) (hqe : QE I F) : MI yX12_odd cX12_odd 2 (some .int) 2 [.ref 97, .int x] n ρ I (fun v I1 => v = (if 0 ≤ x ∧ x < 5 then nI (rOd F x.toNatClampNeg) else -1) ∧ I = I1) := by
  refine MG.of (by decide +kernel) (Nat.le_of_ble_eq_true rfl) hn9 ?_
  intro κ C hR
  show G κ n ρ 0 [(0, .ref 97), (1, .int x)] [] I
  obtain ⟨mn, ⟨m0, m1, m5, m6, m7, m11, m12, m15⟩, ⟨m23, m24, m26, m27, m28, m30, m31, m32, m33⟩, ⟨m38, m39, m40, m42⟩⟩ := id hms
  refine g_iload_n C (pc := 0) dX12_odd_0 1 rfl ?_
  refine g_callSI C (pc := 1) mf_X12_isWind lk_RX12_236 (c_X12_isWind n ρ I x hn9) (by decide) (Nat.le_refl _) rfl (Nat.le_of_ble_eq_true rfl) dX12_odd_1 (fun v1 I1 h1 => ?_)
  obtain ⟨e1, rfl⟩ := h1
  refine g_if_eq C (pc := 4) 19 dX12_odd_4 (by decide) (fun c4 => ?_) (fun c4 => ?_)
  · have hx := bI_0.mp (e1.symm.trans c4)
    refine g_iconst C (pc := 19) (-1) dX12_odd_19 (by decide) ?_
    refine g_iret C hR (pc := 20) rfl dX12_odd_20 ?_
    refine ⟨rfl, _, rfl, ?_⟩
    refine ⟨?_, rfl⟩
    first
    | (rw [if_neg hx]; done)
    | (rw [if_pos hx, hxw, show (13 : Int32) = nI 13 from rfl, nI_add, nI_clamp (by omega), nI_clamp (by omega)]; exact hqe.2 w hw)
  · have hx := bI_1.mp (fun h => c4 (e1.trans h))
    obtain ⟨w, hw, hxw⟩ := ix_of (n := 5) (by decide) hx
    refine g_aload_n C (pc := 7) dX12_odd_7 0 rfl ?_
    refine g_getR C (pc := 8) fl_RX12_7 (by decide) (by first | assumption | rfl | omega) (by first | assumption | rfl | omega) (by first | assumption | rfl | omega) dX12_odd_8 ?_
    refine g_bipush C (pc := 11) 13 dX12_odd_11 (by decide) ?_
    refine g_iload_n C (pc := 13) dX12_odd_13 1 rfl ?_
    refine g_iadd C (pc := 14) dX12_odd_14 ?_
    refine g_iald C (pc := 15) (by first | assumption | rfl | omega) (by first | assumption | rfl | omega) (by rw [hxw, show (13 : Int32) = nI 13 from rfl, nI_add]; exact vp_in_nI (by omega) (by decide)) dX12_odd_15 ?_
    refine g_goto C (pc := 16) 20 dX12_odd_16 (by decide) ?_
    refine g_iret C hR (pc := 20) rfl dX12_odd_20 ?_
    refine ⟨rfl, _, rfl, ?_⟩
    refine ⟨?_, rfl⟩
    first
    | (rw [if_neg hx]; done)
    | (rw [if_pos hx, hxw, show (13 : Int32) = nI 13 from rfl, nI_add, nI_clamp (by omega), nI_clamp (by omega)]; exact hqe.2 w hw)
