theorem c120 {e : Nat} (h : e + 1 ≤ 3) : ([] : List RowT).length + 120 ^ (e + 1) < 2 ^ 30 := by
  have h9 : 120 ^ (e + 1) ≤ 120 ^ 3 := Nat.pow_le_pow_right (by decide) h
  have h8 : (120 : Nat) ^ 3 = 1728000 := by decide
  rw [List.length_nil]
  omega
set_option maxHeartbeats 1600000 in
theorem c_X12_findRowsR (n : Nat) (ρ : Rho) (I : Mem) (F : RT) (b : BT) (g : BT → Bool) (wp N : Nat) (x z : Int32) (hn9 : n ≤ 999) (hms : MS n ρ) (hqf : QF I F) (hrw : RW F) (hqe : QE I F) (hqb : QB I F b) (hbw : BW F b) (hl1 : L1 F b) (hpw : PW F b) (hx : x = nI N) (hN3 : N ≤ 3) (hz : ¬ z = 2) (hwp : I 97 36 = nI wp) (hLf : LfC n ρ I F g wp z) : MV yX12_findRows cX12_findRows 5 none 5 [.ref 97, .int x, .int z] n ρ I (fun I1 => CtR I1 wp N (fnd F g N b) ∧ Kp I I1) := by
  refine MG.of (by decide +kernel) (Nat.le_of_ble_eq_true rfl) hn9 ?_
  intro κ C hR
  show G κ n ρ 0 [(0, .ref 97), (1, .int x), (2, .int z)] [] I
  obtain ⟨mn, ⟨m0, m1, m5, m6, m7, m11, m12, m15⟩, ⟨m23, m24, m26, m27, m28, m30, m31, m32, m33⟩, ⟨m38, m39, m40, m42⟩⟩ := id hms
  obtain ⟨qw, qh, qn, qk⟩ := id hqf
  have hn6 : rN F ≤ 6 := hrw.2.2.2.2.1
  have hm25 := Nat.mul_le_mul hrw.2.1 hrw.2.2.2.1
  have hm4 := Nat.mul_le_mul hrw.1 hrw.2.2.1
  refine g_aload_n C (pc := 0) dX12_findRows_0 0 rfl ?_
  refine g_iconst C (pc := 1) 0 dX12_findRows_1 (by decide) ?_
  refine g_putI C (pc := 2) fl_RX12_315 (by decide) fp_11_34 (Or.inl rfl) ⟨rfl, rfl⟩ (by first | assumption | rfl | omega) (by first | assumption | rfl | omega) hn9 dX12_findRows_2 ?_
  refine g_aload_n C (pc := 5) dX12_findRows_5 0 rfl ?_
  refine g_iconst C (pc := 6) 0 dX12_findRows_6 (by decide) ?_
  refine g_putI C (pc := 7) fl_RX12_318 (by decide) fp_11_35 (Or.inl rfl) ⟨rfl, rfl⟩ (by first | assumption | rfl | omega) (by first | assumption | rfl | omega) hn9 dX12_findRows_7 ?_
  refine g_aload_n C (pc := 10) dX12_findRows_10 0 rfl ?_
  refine g_iconst C (pc := 11) 0 dX12_findRows_11 (by decide) ?_
  refine g_putI C (pc := 12) fl_RX12_325 (by decide) fp_11_37 (Or.inl rfl) ⟨rfl, rfl⟩ (by first | assumption | rfl | omega) (by first | assumption | rfl | omega) hn9 dX12_findRows_12 ?_
  obtain ⟨I9, hI9⟩ : ∃ I9, I9 = wr (wr (wr I 97 34 0) 97 35 0) 97 37 0 := ⟨_, rfl⟩
  rw [← hI9]
  have kI : Kp I I9 := by rw [hI9]; exact (Kp.sc (by decide) (by decide)).trans ((Kp.sc (by decide) (by decide)).trans (Kp.sc (by decide) (by decide)))
  have qbI : QB I9 F b := hqb.cong (fun _ _ => by rw [hI9, wr_n (by decide), wr_n (by decide), wr_n (by decide)]) (fun _ _ => by rw [hI9, wr_n (by decide), wr_n (by decide), wr_n (by decide)]) (by rw [hI9, wr_sn (by decide), wr_sn (by decide), wr_sn (by decide)]) hn6
  have h36 : I9 97 36 = nI wp := by rw [hI9, wr_sn (by decide), wr_sn (by decide), wr_sn (by decide)]; exact hwp
  have ct0 : CtR I9 wp N [] := ⟨by rw [hI9, wr_sn (by decide), wr_sn (by decide), wr_ss]; rfl, fun i _ => by rw [hI9, wr_sn (by decide), wr_ss, b_0]; rfl, fun r L h => by cases h⟩
  refine g_iconst C (pc := 15) 1 dX12_findRows_15 (by decide) ?_
  refine g_aload_n C (pc := 16) dX12_findRows_16 0 rfl ?_
  refine g_getI C (pc := 17) fl_RX12_204 (by decide) (by first | assumption | rfl | omega) (by first | assumption | rfl | omega) dX12_findRows_17 ?_
  refine g_isub C (pc := 20) dX12_findRows_20 ?_
  refine g_istore_n C (pc := 21) dX12_findRows_21 (by decide) (fun v21 => [(3, .int v21), (0, .ref 97), (1, .int x), (2, .int z)]) (fun _ => rfl) (fun v21 ev21 => ?_)
  refine g_iconst C (pc := 22) 0 dX12_findRows_22 (by decide) ?_
  refine g_istore C (pc := 23) dX12_findRows_23 (by decide) (fun v23 => [(4, .int v23), (3, .int v21), (0, .ref 97), (1, .int x), (2, .int z)]) (fun _ => rfl) (fun v23 ev23 => ?_)
  refine g_iload_n C (pc := 25) dX12_findRows_25 3 rfl ?_
  refine g_if_ne C (pc := 26) 36 dX12_findRows_26 (by decide) (fun c26 => ?_) (fun c26 => ?_)
  · have hN0 : N ≠ 0 := fun h9 => c26 (by rw [hx, h9]; rfl)
    obtain ⟨e, rfl⟩ : ∃ e, N = e + 1 := ⟨N - 1, by omega⟩
    subst hx
    refine g_aload_n C (pc := 36) dX12_findRows_36 2 rfl ?_
    refine g_callVI C (pc := 37) mf_X12_lost lk_RX12_221 (c_X12_lost n ρ I9 F b hn9 hms (hqf.kp kI) hrw qbI hbw hl1) (by decide) (Nat.le_refl _) rfl (by first | assumption | rfl | omega) rfl (by first | assumption | rfl | omega) (Nat.le_of_ble_eq_true rfl) dX12_findRows_37 (fun v37 I37 h37 => ?_)
    obtain ⟨e37, rfl⟩ := h37
    refine g_bipush C (pc := 40) (-4) dX12_findRows_40 (by decide) ?_
    refine g_icmp_eq C (pc := 42) 46 dX12_findRows_42 (by decide) (fun c42 => ?_) (fun c42 => ?_)
    · have hno : lostP F b = none := lostB_none.mp ((oI_none (lostB_lt2 hrw)).mp (e37.symm.trans c42))
      refine g_aload_n C (pc := 46) dX12_findRows_46 2 rfl ?_
      refine g_iconst C (pc := 47) 0 dX12_findRows_47 (by decide) ?_
      refine g_iload_n C (pc := 48) dX12_findRows_48 4 rfl ?_
      refine g_callVV C (pc := 49) mf_X12_enters lk_RX12_332 (c_X12_enters n ρ I9 F b 0 0 z hn9 hms (hqf.kp kI) hrw (hqe.kp kI) qbI hbw hl1 hpw (by decide) (by decide) (Or.inr ⟨hz, rfl⟩)) (by decide) (Nat.le_refl _) rfl (by first | assumption | rfl | omega) rfl (by first | assumption | rfl | omega) (Nat.le_of_ble_eq_true rfl) dX12_findRows_49 (fun I49 h49 => ?_)
      obtain ⟨s49, f49, u49, t49, p49, q49, ⟨x49, y49, z49⟩, g49⟩ := h49
      refine g_lv C [0, 1, 2, 3, 4] rfl ?_
      subst ev23
      have kE := Ky.en p49 q49 x49 y49 z49 g49
      refine fr_rows n ρ I F g wp (e + 1) z v21 κ hn9 C hms hqf hqe hrw hN3 hz hLf e 0 b [] [] I49 (by omega) hbw hl1 hpw rfl ⟨s49, f49, u49, t49.trans (by decide)⟩ (fun q l hq => by cases hq) (ct0.cong (by rw [g49 97 (by decide)]) (by rw [g49 97 (by decide)]) (g49 114 (by decide))) (kI.trans kE.1) (kE.2.2.2.2.2.trans h36) (c120 hN3) ?_
      intro J1 hk1 hc1
      have hE : (fndW F b (fnd F g e) 5).map (preR []) = fnd F g (e + 1) b := by
        rw [fnd, if_pos hno]
        exact (List.map_congr_left (fun r _ => (rfl : preR [] r = r))).trans (List.map_id' _)
      rw [List.nil_append, hE] at hc1
      refine g_iload C (pc := 52) dX12_findRows_52 0 rfl ?_
      refine g_if_lt C (pc := 54) 270 dX12_findRows_54 (by decide) (fun c54 => ?_) (fun c54 => ?_)
      · refine g_vret C hR (pc := 270) rfl dX12_findRows_270 ?_
        refine ⟨rfl, rfl, ?_⟩
        exact ⟨hc1, (kI.trans kE.1).trans hk1.1⟩
      · exact absurd c54 (by decide)
    · have hlo : lostP F b ≠ none := fun h9 => c42 (by rw [e37, lostB_none.mpr h9]; rfl)
      refine g_vret C hR (pc := 45) rfl dX12_findRows_45 ?_
      refine ⟨rfl, rfl, ?_⟩
      refine ⟨?_, kI⟩
      rw [fnd, if_neg hlo]; exact ct0
  · have hN0 : N = 0 := (nI_eq (b := 0) (by omega) (by decide)).mp (hx.symm.trans c26)
    subst hN0
    refine g_aload_n C (pc := 29) dX12_findRows_29 2 rfl ?_
    refine g_iconst C (pc := 30) 0 dX12_findRows_30 (by decide) ?_
    refine g_iload_n C (pc := 31) dX12_findRows_31 4 rfl ?_
    refine g_callVV C (pc := 32) mf_X12_leaf lk_RX12_329 (hLf I9 b 0 0 (fun _ => 0) 0 kI qbI hbw rfl (by decide) ct0.1 (by decide) h36 (fun q hq => absurd hq (Nat.not_lt_zero q))) (by decide) (Nat.le_refl _) rfl (by first | assumption | rfl | omega) rfl (by first | assumption | rfl | omega) (Nat.le_of_ble_eq_true rfl) dX12_findRows_32 (fun I32 h32 => ?_)
    obtain h32 := h32
    refine g_vret C hR (pc := 35) rfl dX12_findRows_35 ?_
    refine ⟨rfl, rfl, ?_⟩
    obtain ⟨ct9, ky9⟩ := ct0.leaf (P := []) rfl (fun q l hq => by cases hq) h32
    rw [← fr_leaf (F := F), List.nil_append] at ct9
    have hE : (fnd F g 0 b).map (preR []) = fnd F g 0 b := (List.map_congr_left (fun r _ => (rfl : preR [] r = r))).trans (List.map_id' _)
    rw [hE] at ct9
    exact ⟨ct9, kI.trans (ky9 0).1⟩
set_option maxHeartbeats 1600000 in
theorem c_X12_findRowsB (n : Nat) (ρ : Rho) (I : Mem) (F : RT) (b : BT) (wd : Nat → Nat) (N : Nat) (x z : Int32) (hn9 : n ≤ 999) (hms : MS n ρ) (hqf : QF I F) (hrw : RW F) (hqe : QE I F) (hqb : QB I F b) (hbw : BW F b) (hl1 : L1 F b) (hpw : PW F b) (hx : x = nI N) (hN3 : N ≤ 3) (hz : z = 2) (hwd : ∀ q, q < N → I 113 q = nI (wd q) ∧ wd q < 5) (hlb : lostB F b = none) : MV yX12_findRows cX12_findRows 5 none 5 [.ref 97, .int x, .int z] n ρ I (fun I1 => I1 97 37 = bI (canB F (bM b) (wdL wd 0 N) b = true) ∧ Kp I I1) := by
  refine MG.of (by decide +kernel) (Nat.le_of_ble_eq_true rfl) hn9 ?_
  intro κ C hR
  show G κ n ρ 0 [(0, .ref 97), (1, .int x), (2, .int z)] [] I
  obtain ⟨mn, ⟨m0, m1, m5, m6, m7, m11, m12, m15⟩, ⟨m23, m24, m26, m27, m28, m30, m31, m32, m33⟩, ⟨m38, m39, m40, m42⟩⟩ := id hms
  obtain ⟨qw, qh, qn, qk⟩ := id hqf
  have hn6 : rN F ≤ 6 := hrw.2.2.2.2.1
  have hm25 := Nat.mul_le_mul hrw.2.1 hrw.2.2.2.1
  have hm4 := Nat.mul_le_mul hrw.1 hrw.2.2.1
  refine g_aload_n C (pc := 0) dX12_findRows_0 0 rfl ?_
  refine g_iconst C (pc := 1) 0 dX12_findRows_1 (by decide) ?_
  refine g_putI C (pc := 2) fl_RX12_315 (by decide) fp_11_34 (Or.inl rfl) ⟨rfl, rfl⟩ (by first | assumption | rfl | omega) (by first | assumption | rfl | omega) hn9 dX12_findRows_2 ?_
  refine g_aload_n C (pc := 5) dX12_findRows_5 0 rfl ?_
  refine g_iconst C (pc := 6) 0 dX12_findRows_6 (by decide) ?_
  refine g_putI C (pc := 7) fl_RX12_318 (by decide) fp_11_35 (Or.inl rfl) ⟨rfl, rfl⟩ (by first | assumption | rfl | omega) (by first | assumption | rfl | omega) hn9 dX12_findRows_7 ?_
  refine g_aload_n C (pc := 10) dX12_findRows_10 0 rfl ?_
  refine g_iconst C (pc := 11) 0 dX12_findRows_11 (by decide) ?_
  refine g_putI C (pc := 12) fl_RX12_325 (by decide) fp_11_37 (Or.inl rfl) ⟨rfl, rfl⟩ (by first | assumption | rfl | omega) (by first | assumption | rfl | omega) hn9 dX12_findRows_12 ?_
  obtain ⟨I9, hI9⟩ : ∃ I9, I9 = wr (wr (wr I 97 34 0) 97 35 0) 97 37 0 := ⟨_, rfl⟩
  rw [← hI9]
  have kI : Kp I I9 := by rw [hI9]; exact (Kp.sc (by decide) (by decide)).trans ((Kp.sc (by decide) (by decide)).trans (Kp.sc (by decide) (by decide)))
  have qbI : QB I9 F b := hqb.cong (fun _ _ => by rw [hI9, wr_n (by decide), wr_n (by decide), wr_n (by decide)]) (fun _ _ => by rw [hI9, wr_n (by decide), wr_n (by decide), wr_n (by decide)]) (by rw [hI9, wr_sn (by decide), wr_sn (by decide), wr_sn (by decide)]) hn6
  have ct0 : I9 97 37 = bI ((false : Bool) = true) := by rw [hI9, wr_ss]; rfl
  have h113 : I9 113 = I 113 := by rw [hI9, wr_n (by decide), wr_n (by decide), wr_n (by decide)]
  refine g_iconst C (pc := 15) 1 dX12_findRows_15 (by decide) ?_
  refine g_aload_n C (pc := 16) dX12_findRows_16 0 rfl ?_
  refine g_getI C (pc := 17) fl_RX12_204 (by decide) (by first | assumption | rfl | omega) (by first | assumption | rfl | omega) dX12_findRows_17 ?_
  refine g_isub C (pc := 20) dX12_findRows_20 ?_
  refine g_istore_n C (pc := 21) dX12_findRows_21 (by decide) (fun v21 => [(3, .int v21), (0, .ref 97), (1, .int x), (2, .int z)]) (fun _ => rfl) (fun v21 ev21 => ?_)
  have h21 : v21 = nI (1 - bM b) := by
    have hM2 := hbw.1
    have h9 : I9 97 25 = nI (bM b) := qbI.2
    rw [ev21, h9]; exact pk_sub (a := 1) (by omega)
  refine g_iconst C (pc := 22) 0 dX12_findRows_22 (by decide) ?_
  refine g_istore C (pc := 23) dX12_findRows_23 (by decide) (fun v23 => [(4, .int v23), (3, .int v21), (0, .ref 97), (1, .int x), (2, .int z)]) (fun _ => rfl) (fun v23 ev23 => ?_)
  refine g_iload_n C (pc := 25) dX12_findRows_25 3 rfl ?_
  refine g_if_ne C (pc := 26) 36 dX12_findRows_26 (by decide) (fun c26 => ?_) (fun c26 => ?_)
  · have hN0 : N ≠ 0 := fun h9 => c26 (by rw [hx, h9]; rfl)
    obtain ⟨e, rfl⟩ : ∃ e, N = e + 1 := ⟨N - 1, by omega⟩
    subst hx
    refine g_aload_n C (pc := 36) dX12_findRows_36 2 rfl ?_
    refine g_callVI C (pc := 37) mf_X12_lost lk_RX12_221 (c_X12_lost n ρ I9 F b hn9 hms (hqf.kp kI) hrw qbI hbw hl1) (by decide) (Nat.le_refl _) rfl (by first | assumption | rfl | omega) rfl (by first | assumption | rfl | omega) (Nat.le_of_ble_eq_true rfl) dX12_findRows_37 (fun v37 I37 h37 => ?_)
    obtain ⟨e37, rfl⟩ := h37
    refine g_bipush C (pc := 40) (-4) dX12_findRows_40 (by decide) ?_
    refine g_icmp_eq C (pc := 42) 46 dX12_findRows_42 (by decide) (fun c42 => ?_) (fun c42 => ?_)
    · have hno : lostP F b = none := lostB_none.mp ((oI_none (lostB_lt2 hrw)).mp (e37.symm.trans c42))
      refine g_aload_n C (pc := 46) dX12_findRows_46 2 rfl ?_
      refine g_iconst C (pc := 47) 0 dX12_findRows_47 (by decide) ?_
      refine g_iload_n C (pc := 48) dX12_findRows_48 4 rfl ?_
      refine g_callVV C (pc := 49) mf_X12_enters lk_RX12_332 (c_X12_enters n ρ I9 F b (wd 0) 0 z hn9 hms (hqf.kp kI) hrw (hqe.kp kI) qbI hbw hl1 hpw (hwd 0 (by omega)).2 (by decide) (Or.inl ⟨hz, by rw [h113]; exact (hwd 0 (by omega)).1⟩)) (by decide) (Nat.le_refl _) rfl (by first | assumption | rfl | omega) rfl (by first | assumption | rfl | omega) (Nat.le_of_ble_eq_true rfl) dX12_findRows_49 (fun I49 h49 => ?_)
      obtain ⟨s49, f49, u49, t49, p49, q49, ⟨x49, y49, z49⟩, g49⟩ := h49
      refine g_lv C [0, 1, 2, 3, 4] rfl ?_
      subst ev23
      have kE := Ky.en p49 q49 x49 y49 z49 g49
      refine fr_blow n ρ I F (bM b) wd (e + 1) z v21 κ hn9 C hms hqf hqe hrw hN3 hz hbw.1 h21 hwd e 0 b false I49 (by omega) hbw hl1 hpw hno ⟨s49, f49, u49, t49.trans (by decide)⟩ (by rw [g49 97 (by decide)]; exact ct0) (kI.trans kE.1) (kE.2.2.2.2.1.trans h113) ?_
      intro J1 hk1 hc1
      rw [Bool.false_or] at hc1
      refine g_iload C (pc := 52) dX12_findRows_52 0 rfl ?_
      refine g_if_lt C (pc := 54) 270 dX12_findRows_54 (by decide) (fun c54 => ?_) (fun c54 => ?_)
      · refine g_vret C hR (pc := 270) rfl dX12_findRows_270 ?_
        refine ⟨rfl, rfl, ?_⟩
        exact ⟨hc1, (kI.trans kE.1).trans hk1.1⟩
      · exact absurd c54 (by decide)
    · exact absurd (by rw [e37, hlb]; rfl) c42
  · have hN0 : N = 0 := (nI_eq (b := 0) (by omega) (by decide)).mp (hx.symm.trans c26)
    subst hN0
    refine g_aload_n C (pc := 29) dX12_findRows_29 2 rfl ?_
    refine g_iconst C (pc := 30) 0 dX12_findRows_30 (by decide) ?_
    refine g_iload_n C (pc := 31) dX12_findRows_31 4 rfl ?_
    refine g_callVV C (pc := 32) mf_X12_leaf lk_RX12_329 (c_X12_leaf2 n ρ I9 0 z hn9 hms hz) (by decide) (Nat.le_refl _) rfl (by first | assumption | rfl | omega) rfl (by first | assumption | rfl | omega) (Nat.le_of_ble_eq_true rfl) dX12_findRows_32 (fun I32 h32 => ?_)
    obtain rfl := h32
    refine g_vret C hR (pc := 35) rfl dX12_findRows_35 ?_
    refine ⟨rfl, rfl, ?_⟩
    refine ⟨?_, kI⟩
    rw [wdL, canB_nil hlb]; exact ct0
