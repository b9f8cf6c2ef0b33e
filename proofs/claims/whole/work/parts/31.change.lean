theorem lt10 {x : Int32} (h : x ≤ 9) : x < 10 := by
  have := Int32.le_iff_toInt_le.mp h
  rw [Int32.lt_iff_toInt_lt]
  have h1 : (9 : Int32).toInt = 9 := by decide
  have h2 : (10 : Int32).toInt = 10 := by decide
  omega
theorem smP_at {f : Nat → Nat} {w : Nat} : ∀ {k : Nat}, w < k → f w ≤ smP f k
  | 0, h => absurd h (Nat.not_lt_zero w)
  | k + 1, h => by
    rw [smP]
    by_cases e : w = k
    · subst e; omega
    · have := smP_at (f := f) (w := w) (k := k) (by omega)
      omega
set_option maxHeartbeats 400000 in
theorem c_X11_oil (n : Nat) (ρ : Rho) (I : Mem) (F : RT) (b : BT) (x z : Int32) (hn9 : n ≤ 999) (hxs : XS n ρ) (hrr : RR I (1 + 1) F) (hrw : RW F) (hbr : BR I (1 + 5) F b) (hbw : BW F b) : MI yX11_oil cX11_oil 4 (some .int) 1 [.ref 0, .int x, .int z] n ρ I (fun v I1 => (∃ p q, (p < rN F ∧ q ≤ 9 ∧ x = nI p ∧ z = nI q) ∧ v = nI (bO b p) ∧ wr I 8 p z = I1) ∨ (¬ (∃ p q, (p < rN F ∧ q ≤ 9 ∧ x = nI p ∧ z = nI q)) ∧ v = -1 ∧ I = I1)) := by
  refine MG.of (by decide +kernel) (Nat.le_of_ble_eq_true rfl) hn9 ?_
  intro κ C hR
  show G κ n ρ 0 [(0, .ref 0), (1, .int x), (2, .int z)] [] I
  obtain ⟨hxc, ⟨xb1, xb2, xb3, xb4, xb5, xb6, xb8⟩, ⟨xi0, xi1, xga, xgb⟩, ⟨xt0, xt1, xgd⟩, hch, ⟨xr0, xr1, xr2⟩, xa0, ⟨xw0, xw1⟩, xst⟩ := id hxs
  obtain ⟨xc0, xcn, xc1, hga, xc7, hss⟩ := id hxc
  have xcz : 0 < n := by omega
  obtain ⟨ga0, ga1, ga2, ga3, ga4, ga5, ga6, ga7, ga8, gan, hrf, hst⟩ := id hga
  have hrf0 := hrf.1
  have hst0 := hst.1
  have hsp := hch.sp
  obtain ⟨hp0, hpn, hp1, hp2, hp3, hp4⟩ := id hsp
  have hnp : rN F ≤ 6 := hrw.2.2.2.2.1
  have hN := hrr.2.2.1
  refine g_aload_n C (pc := 0) dX11_oil_0 0 rfl ?_
  refine g_getR C (pc := 1) fl_RX11_10 (by decide) (by first | assumption | rfl | omega) (by first | assumption | rfl | omega) (by first | assumption | rfl | omega) dX11_oil_1 ?_
  refine g_getR C (pc := 4) fl_RX11_104 (by decide) (by first | assumption | rfl | omega) (by first | assumption | rfl | omega) (by first | assumption | rfl | omega) dX11_oil_4 ?_
  refine g_iload_n C (pc := 7) dX11_oil_7 1 rfl ?_
  refine g_callVI C (pc := 8) mf_X5_isPiece lk_RX11_143 (c_X5_isPiece n ρ I (1 + 1) x hn9 hrf) (by decide) (Nat.le_refl _) rfl (by first | assumption | rfl | omega) rfl (by first | assumption | rfl | omega) (Nat.le_of_ble_eq_true rfl) dX11_oil_8 (fun v8 I8 h8 => ?_)
  obtain ⟨e8, rfl⟩ := h8
  rw [hN] at e8
  refine g_if_eq C (pc := 11) 24 dX11_oil_11 (by decide) (fun c11 => ?_) (fun c11 => ?_)
  · have hx := bI_0.mp (e8.symm.trans c11)
    refine g_iconst C (pc := 24) (-1) dX11_oil_24 (by decide) ?_
    refine g_iret C hR (pc := 25) rfl dX11_oil_25 ?_
    refine ⟨rfl, _, rfl, ?_⟩
    subst_vars
    refine Or.inr ⟨?_, rfl, rfl⟩
    rintro ⟨p9, q9, h1, h2, h3, h4⟩
    first | exact hx (by rw [h3]; exact ⟨nI_pos' (by omega), nI_lt h1 (by omega)⟩) | exact absurd c15 (by rw [h4]; exact nI_pos (by omega)) | exact absurd c21 (Int32.not_lt.mpr (by rw [h4, show (9 : Int32) = nI 9 from rfl, nI_leI (by omega) (by decide)]; exact h2))
  · have hx := bI_1.mp (fun h => c11 (e8.trans h))
    obtain ⟨p, hp, hxp⟩ := pc_of hrw hx
    refine g_iload_n C (pc := 14) dX11_oil_14 2 rfl ?_
    refine g_if_lt C (pc := 15) 24 dX11_oil_15 (by decide) (fun c15 => ?_) (fun c15 => ?_)
    · refine g_iconst C (pc := 24) (-1) dX11_oil_24 (by decide) ?_
      refine g_iret C hR (pc := 25) rfl dX11_oil_25 ?_
      refine ⟨rfl, _, rfl, ?_⟩
      subst_vars
      refine Or.inr ⟨?_, rfl, rfl⟩
      rintro ⟨p9, q9, h1, h2, h3, h4⟩
      first | exact hx (by rw [h3]; exact ⟨nI_pos' (by omega), nI_lt h1 (by omega)⟩) | exact absurd c15 (by rw [h4]; exact nI_pos (by omega)) | exact absurd c21 (Int32.not_lt.mpr (by rw [h4, show (9 : Int32) = nI 9 from rfl, nI_leI (by omega) (by decide)]; exact h2))
    · refine g_iload_n C (pc := 18) dX11_oil_18 2 rfl ?_
      refine g_bipush C (pc := 19) 9 dX11_oil_19 (by decide) ?_
      refine g_icmp_le C (pc := 21) 26 dX11_oil_21 (by decide) (fun c21 => ?_) (fun c21 => ?_)
      · refine g_aload_n C (pc := 26) dX11_oil_26 0 rfl ?_
        refine g_getR C (pc := 27) fl_RX11_10 (by decide) (by first | assumption | rfl | omega) (by first | assumption | rfl | omega) (by first | assumption | rfl | omega) dX11_oil_27 ?_
        refine g_getR C (pc := 30) fl_RX11_122 (by decide) (by first | assumption | rfl | omega) (by first | assumption | rfl | omega) (by first | assumption | rfl | omega) dX11_oil_30 ?_
        refine g_iload_n C (pc := 33) dX11_oil_33 1 rfl ?_
        refine g_callVI C (pc := 34) mf_X8_oilOf lk_RX11_156 (c_X8_oilOf n ρ I (1 + 5) _ hn9 hst) (by decide) (Nat.le_refl _) rfl (by first | assumption | rfl | omega) rfl (by first | assumption | rfl | omega) (Nat.le_of_ble_eq_true rfl) dX11_oil_34 (fun v34 I34 h34 => ?_)
        obtain ⟨e34, rfl⟩ := h34
        refine g_istore_n C (pc := 37) dX11_oil_37 (by decide) (fun v37 => [(3, .int v37), (0, .ref 0), (1, .int x), (2, .int z)]) (fun _ => rfl) (fun v37 ev37 => ?_)
        refine g_aload_n C (pc := 38) dX11_oil_38 1 rfl ?_
        refine g_getR C (pc := 39) fl_RX11_10 (by decide) (by first | assumption | rfl | omega) (by first | assumption | rfl | omega) (by first | assumption | rfl | omega) dX11_oil_39 ?_
        refine g_getR C (pc := 42) fl_RX11_122 (by decide) (by first | assumption | rfl | omega) (by first | assumption | rfl | omega) (by first | assumption | rfl | omega) dX11_oil_42 ?_
        refine g_iload_n C (pc := 45) dX11_oil_45 2 rfl ?_
        refine g_iload_n C (pc := 46) dX11_oil_46 3 rfl ?_
        refine g_callVV C (pc := 47) mf_X8_fill lk_RX11_165 (c_X8_fill n ρ I (1 + 5) _ z hn9 hst) (by decide) (Nat.le_refl _) rfl (by first | assumption | rfl | omega) rfl (by first | assumption | rfl | omega) (Nat.le_of_ble_eq_true rfl) dX11_oil_47 (fun I47 h47 => ?_)
        obtain h47 := h47
        refine g_iload_n C (pc := 50) dX11_oil_50 0 rfl ?_
        refine g_iret C hR (pc := 51) rfl dX11_oil_51 ?_
        refine ⟨rfl, _, rfl, ?_⟩
        obtain ⟨q, hq, hzq⟩ := ix_of (x := z) (n := 10) (by decide) ⟨c15, by rw [show nI 10 = 10 from rfl]; exact lt10 c21⟩
        refine Or.inl ⟨p, q, ⟨hp, by omega, hxp, hzq⟩, ?_, ?_⟩
        · rw [ev37, e34, hxp, at6 (N := 6) 6 rfl (by decide) (by omega)]; exact (hbr.2.1 p hp).2
        · rw [← h47, hxp, if_pos ⟨nI_pos' (by omega), nI_lt (b := 6) (by omega) (by decide)⟩, nI_clamp (by omega)]
      · refine g_iconst C (pc := 24) (-1) dX11_oil_24 (by decide) ?_
        refine g_iret C hR (pc := 25) rfl dX11_oil_25 ?_
        refine ⟨rfl, _, rfl, ?_⟩
        subst_vars
        refine Or.inr ⟨?_, rfl, rfl⟩
        rintro ⟨p9, q9, h1, h2, h3, h4⟩
        first | exact hx (by rw [h3]; exact ⟨nI_pos' (by omega), nI_lt h1 (by omega)⟩) | exact absurd c15 (by rw [h4]; exact nI_pos (by omega)) | exact absurd c21 (Int32.not_lt.mpr (by rw [h4, show (9 : Int32) = nI 9 from rfl, nI_leI (by omega) (by decide)]; exact h2))
set_option maxHeartbeats 400000 in
theorem c_X11_put (n : Nat) (ρ : Rho) (I : Mem) (F : RT) (b : BT) (x z : Int32) (hn9 : n ≤ 999) (hxs : XS n ρ) (hrr : RR I (1 + 1) F) (hrw : RW F) (hbr : BR I (1 + 5) F b) (hbw : BW F b) : MI yX11_put cX11_put 5 (some .int) 2 [.ref 0, .int x, .int z] n ρ I (fun v I1 => (∃ p q, (p < rN F ∧ q < rW F * rH F ∧ x = nI p ∧ z = nI q ∧ rS F q = false ∧ (pon F b q = none ∨ pon F b q = some p)) ∧ v = oI (bP b p) ∧ BR I1 (1 + 5) F (setP b p (some q)) ∧ ∀ i, i ≠ 7 → i ≠ 9 → I1 i = I i) ∨ (¬ (∃ p q, (p < rN F ∧ q < rW F * rH F ∧ x = nI p ∧ z = nI q ∧ rS F q = false ∧ (pon F b q = none ∨ pon F b q = some p))) ∧ v = -1 ∧ I = I1)) := by
  refine MG.of (by decide +kernel) (Nat.le_of_ble_eq_true rfl) hn9 ?_
  intro κ C hR
  show G κ n ρ 0 [(0, .ref 0), (1, .int x), (2, .int z)] [] I
  obtain ⟨hxc, ⟨xb1, xb2, xb3, xb4, xb5, xb6, xb8⟩, ⟨xi0, xi1, xga, xgb⟩, ⟨xt0, xt1, xgd⟩, hch, ⟨xr0, xr1, xr2⟩, xa0, ⟨xw0, xw1⟩, xst⟩ := id hxs
  obtain ⟨xc0, xcn, xc1, hga, xc7, hss⟩ := id hxc
  have xcz : 0 < n := by omega
  obtain ⟨ga0, ga1, ga2, ga3, ga4, ga5, ga6, ga7, ga8, gan, hrf, hst⟩ := id hga
  have hrf0 := hrf.1
  have hst0 := hst.1
  have hsp := hch.sp
  obtain ⟨hp0, hpn, hp1, hp2, hp3, hp4⟩ := id hsp
  have hnp : rN F ≤ 6 := hrw.2.2.2.2.1
  have hN := hrr.2.2.1
  refine g_aload_n C (pc := 0) dX11_put_0 0 rfl ?_
  refine g_getR C (pc := 1) fl_RX11_10 (by decide) (by first | assumption | rfl | omega) (by first | assumption | rfl | omega) (by first | assumption | rfl | omega) dX11_put_1 ?_
  refine g_getR C (pc := 4) fl_RX11_104 (by decide) (by first | assumption | rfl | omega) (by first | assumption | rfl | omega) (by first | assumption | rfl | omega) dX11_put_4 ?_
  refine g_iload_n C (pc := 7) dX11_put_7 1 rfl ?_
  refine g_callVI C (pc := 8) mf_X5_isPiece lk_RX11_143 (c_X5_isPiece n ρ I (1 + 1) x hn9 hrf) (by decide) (Nat.le_refl _) rfl (by first | assumption | rfl | omega) rfl (by first | assumption | rfl | omega) (Nat.le_of_ble_eq_true rfl) dX11_put_8 (fun v8 I8 h8 => ?_)
  obtain ⟨e8, rfl⟩ := h8
  rw [hN] at e8
  refine g_if_eq C (pc := 11) 42 dX11_put_11 (by decide) (fun c11 => ?_) (fun c11 => ?_)
  · have hx := bI_0.mp (e8.symm.trans c11)
    refine g_iconst C (pc := 42) (-1) dX11_put_42 (by decide) ?_
    refine g_iret C hR (pc := 43) rfl dX11_put_43 ?_
    refine ⟨rfl, _, rfl, ?_⟩
    subst_vars
    refine Or.inr ⟨?_, rfl, rfl⟩
    rintro ⟨p9, q9, h1, h2, h3, h4, h5, h6⟩
    first | exact hx (by rw [h3]; exact ⟨nI_pos' (by omega), nI_lt h1 (by omega)⟩) | exact hz (by rw [h4]; exact sq_in hrw h2) | (have hm := Nat.mul_le_mul hrw.2.1 hrw.2.2.2.1; have : q = q9 := (nI_eq (by omega) (by omega)).mp h4; subst this; exact hS h5)
  · have hx := bI_1.mp (fun h => c11 (e8.trans h))
    obtain ⟨p, hp, hxp⟩ := pc_of hrw hx
    refine g_aload_n C (pc := 14) dX11_put_14 0 rfl ?_
    refine g_getR C (pc := 15) fl_RX11_10 (by decide) (by first | assumption | rfl | omega) (by first | assumption | rfl | omega) (by first | assumption | rfl | omega) dX11_put_15 ?_
    refine g_getR C (pc := 18) fl_RX11_104 (by decide) (by first | assumption | rfl | omega) (by first | assumption | rfl | omega) (by first | assumption | rfl | omega) dX11_put_18 ?_
    refine g_iload_n C (pc := 21) dX11_put_21 2 rfl ?_
    refine g_callVI C (pc := 22) mf_X5_isSquare lk_RX11_135 (c_X5_isSquare n ρ I (1 + 1) z hn9 hrf) (by decide) (Nat.le_refl _) rfl (by first | assumption | rfl | omega) rfl (by first | assumption | rfl | omega) (Nat.le_of_ble_eq_true rfl) dX11_put_22 (fun v22 I22 h22 => ?_)
    obtain ⟨e22, rfl⟩ := h22
    rw [hrr.1, hrr.2.1, pk_mul] at e22
    refine g_if_eq C (pc := 25) 42 dX11_put_25 (by decide) (fun c25 => ?_) (fun c25 => ?_)
    · have hz := bI_0.mp (e22.symm.trans c25)
      refine g_iconst C (pc := 42) (-1) dX11_put_42 (by decide) ?_
      refine g_iret C hR (pc := 43) rfl dX11_put_43 ?_
      refine ⟨rfl, _, rfl, ?_⟩
      subst_vars
      refine Or.inr ⟨?_, rfl, rfl⟩
      rintro ⟨p9, q9, h1, h2, h3, h4, h5, h6⟩
      first | exact hx (by rw [h3]; exact ⟨nI_pos' (by omega), nI_lt h1 (by omega)⟩) | exact hz (by rw [h4]; exact sq_in hrw h2) | (have hm := Nat.mul_le_mul hrw.2.1 hrw.2.2.2.1; have : q = q9 := (nI_eq (by omega) (by omega)).mp h4; subst this; exact hS h5)
    · have hz := bI_1.mp (fun h => c25 (e22.trans h))
      obtain ⟨q, hq, hq25, hzq⟩ := sq_of hrw hz
      refine g_aload_n C (pc := 28) dX11_put_28 0 rfl ?_
      refine g_getR C (pc := 29) fl_RX11_10 (by decide) (by first | assumption | rfl | omega) (by first | assumption | rfl | omega) (by first | assumption | rfl | omega) dX11_put_29 ?_
      refine g_getR C (pc := 32) fl_RX11_104 (by decide) (by first | assumption | rfl | omega) (by first | assumption | rfl | omega) (by first | assumption | rfl | omega) dX11_put_32 ?_
      refine g_iload_n C (pc := 35) dX11_put_35 2 rfl ?_
      refine g_callVI C (pc := 36) mf_X5_isClosed lk_RX11_169 (c_X5_isClosed n ρ I (1 + 1) z hn9 hrf) (by decide) (Nat.le_refl _) rfl (by first | assumption | rfl | omega) rfl (by first | assumption | rfl | omega) (Nat.le_of_ble_eq_true rfl) dX11_put_36 (fun v36 I36 h36 => ?_)
      obtain ⟨e36, rfl⟩ := h36
      have hcl : (I (1 + 1) 5 &&& bitO z) = 0 ↔ rS F q = false := by
        rw [hzq, and_bitO hq25, hrr.2.2.2.1 q (by omega)]
      refine g_if_eq C (pc := 39) 44 dX11_put_39 (by decide) (fun c39 => ?_) (fun c39 => ?_)
      · have hS : rS F q = false := hcl.mp (by
          have := bI_0.mp (e36.symm.trans c39)
          exact Decidable.not_not.mp this)
        refine g_aload_n C (pc := 44) dX11_put_44 0 rfl ?_
        refine g_getR C (pc := 45) fl_RX11_10 (by decide) (by first | assumption | rfl | omega) (by first | assumption | rfl | omega) (by first | assumption | rfl | omega) dX11_put_45 ?_
        refine g_getR C (pc := 48) fl_RX11_122 (by decide) (by first | assumption | rfl | omega) (by first | assumption | rfl | omega) (by first | assumption | rfl | omega) dX11_put_48 ?_
        refine g_aload_n C (pc := 51) dX11_put_51 0 rfl ?_
        refine g_getR C (pc := 52) fl_RX11_10 (by decide) (by first | assumption | rfl | omega) (by first | assumption | rfl | omega) (by first | assumption | rfl | omega) dX11_put_52 ?_
        refine g_getR C (pc := 55) fl_RX11_104 (by decide) (by first | assumption | rfl | omega) (by first | assumption | rfl | omega) (by first | assumption | rfl | omega) dX11_put_55 ?_
        refine g_iload_n C (pc := 58) dX11_put_58 2 rfl ?_
        refine g_callVI C (pc := 59) mf_X8_pieceOn lk_RX11_139 (c_X8_pieceOn n ρ I (1 + 5) (1 + 1) (rN F) z hn9 hst hrf hN hnp) (by decide) (Nat.le_refl _) rfl (by first | assumption | rfl | omega) rfl (by first | assumption | rfl | omega) (Nat.le_of_ble_eq_true rfl) dX11_put_59 (fun v59 I59 h59 => ?_)
        obtain ⟨e59, rfl⟩ := h59
        have hpo : v59 = oI (pon F b q) := by rw [e59, hzq, pon_raw hbr hbw (by omega)]
        have hpl : ∀ t, pon F b q = some t → t < rN F := fun t ht => (pon_some ht).1
        refine g_istore_n C (pc := 62) dX11_put_62 (by decide) (fun v62 => [(3, .int v62), (0, .ref 0), (1, .int x), (2, .int z)]) (fun _ => rfl) (fun v62 ev62 => ?_)
        refine g_iload_n C (pc := 63) dX11_put_63 0 rfl ?_
        refine g_bipush C (pc := 64) (-4) dX11_put_64 (by decide) ?_
        refine g_icmp_eq C (pc := 66) 76 dX11_put_66 (by decide) (fun c66 => ?_) (fun c66 => ?_)
        · have hfree : pon F b q = none ∨ pon F b q = some p := Or.inl ((oI_none (fun t ht => by have := hpl t ht; omega)).mp (by rw [← hpo, ← ev62]; exact c66))
          refine g_aload_n C (pc := 76) dX11_put_76 1 rfl ?_
          refine g_getR C (pc := 77) fl_RX11_10 (by decide) (by first | assumption | rfl | omega) (by first | assumption | rfl | omega) (by first | assumption | rfl | omega) dX11_put_77 ?_
          refine g_getR C (pc := 80) fl_RX11_122 (by decide) (by first | assumption | rfl | omega) (by first | assumption | rfl | omega) (by first | assumption | rfl | omega) dX11_put_80 ?_
          refine g_iload_n C (pc := 83) dX11_put_83 2 rfl ?_
          refine g_callVI C (pc := 84) mf_X8_placeOf lk_RX11_153 (c_X8_placeOf n ρ I (1 + 5) x hn9 hst) (by decide) (Nat.le_refl _) rfl (by first | assumption | rfl | omega) rfl (by first | assumption | rfl | omega) (Nat.le_of_ble_eq_true rfl) dX11_put_84 (fun v84 I84 h84 => ?_)
          obtain ⟨e84, rfl⟩ := h84
          refine g_istore C (pc := 87) dX11_put_87 (by decide) (fun v87 => [(4, .int v87), (3, .int v62), (0, .ref 0), (1, .int x), (2, .int z)]) (fun _ => rfl) (fun v87 ev87 => ?_)
          refine g_aload_n C (pc := 89) dX11_put_89 2 rfl ?_
          refine g_getR C (pc := 90) fl_RX11_10 (by decide) (by first | assumption | rfl | omega) (by first | assumption | rfl | omega) (by first | assumption | rfl | omega) dX11_put_90 ?_
          refine g_getR C (pc := 93) fl_RX11_122 (by decide) (by first | assumption | rfl | omega) (by first | assumption | rfl | omega) (by first | assumption | rfl | omega) dX11_put_93 ?_
          refine g_aload_n C (pc := 96) dX11_put_96 2 rfl ?_
          refine g_getR C (pc := 97) fl_RX11_10 (by decide) (by first | assumption | rfl | omega) (by first | assumption | rfl | omega) (by first | assumption | rfl | omega) dX11_put_97 ?_
          refine g_getR C (pc := 100) fl_RX11_104 (by decide) (by first | assumption | rfl | omega) (by first | assumption | rfl | omega) (by first | assumption | rfl | omega) dX11_put_100 ?_
          refine g_iload_n C (pc := 103) dX11_put_103 3 rfl ?_
          refine g_iload_n C (pc := 104) dX11_put_104 4 rfl ?_
          refine g_callVV C (pc := 105) mf_X8_settle lk_RX11_172 (c_X8_settleB n ρ I (1 + 5) (1 + 1) p F b (some q) x z hn9 hst hrf hrr hrw hbr hbw hp (by intro q9 h9; cases h9; exact hq25) hxp hzq) (by decide) (Nat.le_refl _) rfl (by first | assumption | rfl | omega) rfl (by first | assumption | rfl | omega) (Nat.le_of_ble_eq_true rfl) dX11_put_105 (fun I105 h105 => ?_)
          obtain ⟨h105, g105⟩ := h105
          refine g_iload C (pc := 108) dX11_put_108 0 rfl ?_
          refine g_iret C hR (pc := 110) rfl dX11_put_110 ?_
          refine ⟨rfl, _, rfl, ?_⟩
          refine Or.inl ⟨p, q, ⟨hp, hq, hxp, hzq, hS, hfree⟩, ?_, h105, fun i h1 h2 => g105 i h1 h2⟩
          rw [ev87, e84, hxp, at6 (N := 6) 6 rfl (by decide) (by omega)]; exact (hbr.2.1 p hp).1
        · have hocc : pon F b q ≠ none := fun h9 => c66 (by rw [ev62, hpo, h9]; rfl)
          refine g_iload_n C (pc := 69) dX11_put_69 0 rfl ?_
          refine g_iload_n C (pc := 70) dX11_put_70 2 rfl ?_
          refine g_icmp_eq C (pc := 71) 76 dX11_put_71 (by decide) (fun c71 => ?_) (fun c71 => ?_)
          · have hfree : pon F b q = none ∨ pon F b q = some p := Or.inr ((oI_nI (fun t ht => by have := hpl t ht; omega) (by omega)).mp (by rw [← hpo, ← ev62, ← hxp]; exact c71))
            refine g_aload_n C (pc := 76) dX11_put_76 1 rfl ?_
            refine g_getR C (pc := 77) fl_RX11_10 (by decide) (by first | assumption | rfl | omega) (by first | assumption | rfl | omega) (by first | assumption | rfl | omega) dX11_put_77 ?_
            refine g_getR C (pc := 80) fl_RX11_122 (by decide) (by first | assumption | rfl | omega) (by first | assumption | rfl | omega) (by first | assumption | rfl | omega) dX11_put_80 ?_
            refine g_iload_n C (pc := 83) dX11_put_83 2 rfl ?_
            refine g_callVI C (pc := 84) mf_X8_placeOf lk_RX11_153 (c_X8_placeOf n ρ I (1 + 5) x hn9 hst) (by decide) (Nat.le_refl _) rfl (by first | assumption | rfl | omega) rfl (by first | assumption | rfl | omega) (Nat.le_of_ble_eq_true rfl) dX11_put_84 (fun v84 I84 h84 => ?_)
            obtain ⟨e84, rfl⟩ := h84
            refine g_istore C (pc := 87) dX11_put_87 (by decide) (fun v87 => [(4, .int v87), (3, .int v62), (0, .ref 0), (1, .int x), (2, .int z)]) (fun _ => rfl) (fun v87 ev87 => ?_)
            refine g_aload_n C (pc := 89) dX11_put_89 2 rfl ?_
            refine g_getR C (pc := 90) fl_RX11_10 (by decide) (by first | assumption | rfl | omega) (by first | assumption | rfl | omega) (by first | assumption | rfl | omega) dX11_put_90 ?_
            refine g_getR C (pc := 93) fl_RX11_122 (by decide) (by first | assumption | rfl | omega) (by first | assumption | rfl | omega) (by first | assumption | rfl | omega) dX11_put_93 ?_
            refine g_aload_n C (pc := 96) dX11_put_96 2 rfl ?_
            refine g_getR C (pc := 97) fl_RX11_10 (by decide) (by first | assumption | rfl | omega) (by first | assumption | rfl | omega) (by first | assumption | rfl | omega) dX11_put_97 ?_
            refine g_getR C (pc := 100) fl_RX11_104 (by decide) (by first | assumption | rfl | omega) (by first | assumption | rfl | omega) (by first | assumption | rfl | omega) dX11_put_100 ?_
            refine g_iload_n C (pc := 103) dX11_put_103 3 rfl ?_
            refine g_iload_n C (pc := 104) dX11_put_104 4 rfl ?_
            refine g_callVV C (pc := 105) mf_X8_settle lk_RX11_172 (c_X8_settleB n ρ I (1 + 5) (1 + 1) p F b (some q) x z hn9 hst hrf hrr hrw hbr hbw hp (by intro q9 h9; cases h9; exact hq25) hxp hzq) (by decide) (Nat.le_refl _) rfl (by first | assumption | rfl | omega) rfl (by first | assumption | rfl | omega) (Nat.le_of_ble_eq_true rfl) dX11_put_105 (fun I105 h105 => ?_)
            obtain ⟨h105, g105⟩ := h105
            refine g_iload C (pc := 108) dX11_put_108 0 rfl ?_
            refine g_iret C hR (pc := 110) rfl dX11_put_110 ?_
            refine ⟨rfl, _, rfl, ?_⟩
            refine Or.inl ⟨p, q, ⟨hp, hq, hxp, hzq, hS, hfree⟩, ?_, h105, fun i h1 h2 => g105 i h1 h2⟩
            rw [ev87, e84, hxp, at6 (N := 6) 6 rfl (by decide) (by omega)]; exact (hbr.2.1 p hp).1
          · have hoth : pon F b q ≠ some p := fun h9 => c71 (by rw [ev62, hpo, h9, hxp]; rfl)
            refine g_iconst C (pc := 74) (-1) dX11_put_74 (by decide) ?_
            refine g_iret C hR (pc := 75) rfl dX11_put_75 ?_
            refine ⟨rfl, _, rfl, ?_⟩
            subst_vars
            refine Or.inr ⟨?_, rfl, rfl⟩
            rintro ⟨p9, q9, h1, h2, h3, h4, h5, h6⟩
            have hm := Nat.mul_le_mul hrw.2.1 hrw.2.2.2.1
            have e1 : q = q9 := (nI_eq (by omega) (by omega)).mp h4
            have e2 : p = p9 := (nI_eq (by omega) (by omega)).mp h3
            subst e1 e2
            rcases h6 with h6 | h6
            · exact hocc h6
            · exact hoth h6
      · have hS : ¬ rS F q = false := fun h9 => (bI_1.mp (fun h => c39 (e36.trans h))) (hcl.mpr h9)
        refine g_iconst C (pc := 42) (-1) dX11_put_42 (by decide) ?_
        refine g_iret C hR (pc := 43) rfl dX11_put_43 ?_
        refine ⟨rfl, _, rfl, ?_⟩
        subst_vars
        refine Or.inr ⟨?_, rfl, rfl⟩
        rintro ⟨p9, q9, h1, h2, h3, h4, h5, h6⟩
        first | exact hx (by rw [h3]; exact ⟨nI_pos' (by omega), nI_lt h1 (by omega)⟩) | exact hz (by rw [h4]; exact sq_in hrw h2) | (have hm := Nat.mul_le_mul hrw.2.1 hrw.2.2.2.1; have : q = q9 := (nI_eq (by omega) (by omega)).mp h4; subst this; exact hS h5)
set_option maxHeartbeats 400000 in
theorem c_X11_steeple (n : Nat) (ρ : Rho) (I : Mem) (F : RT) (b : BT) (x z : Int32) (hn9 : n ≤ 999) (hxs : XS n ρ) (hrr : RR I (1 + 1) F) (hrw : RW F) (hbr : BR I (1 + 5) F b) (hbw : BW F b) : MI yX11_steeple cX11_steeple 4 (some .int) 2 [.ref 0, .int x, .int z] n ρ I (fun v I1 => (∃ q, (q < rW F * rH F ∧ x = nI q ∧ pon F b q = none) ∧ v = bI (rS F q = true) ∧ wr I 2 5 (if z = 0 then I 2 5 &&& (bitO x ^^^ (-1)) else I 2 5 ||| bitO x) = I1) ∨ (¬ (∃ q, (q < rW F * rH F ∧ x = nI q ∧ pon F b q = none)) ∧ v = -1 ∧ I = I1)) := by
  refine MG.of (by decide +kernel) (Nat.le_of_ble_eq_true rfl) hn9 ?_
  intro κ C hR
  show G κ n ρ 0 [(0, .ref 0), (1, .int x), (2, .int z)] [] I
  obtain ⟨hxc, ⟨xb1, xb2, xb3, xb4, xb5, xb6, xb8⟩, ⟨xi0, xi1, xga, xgb⟩, ⟨xt0, xt1, xgd⟩, hch, ⟨xr0, xr1, xr2⟩, xa0, ⟨xw0, xw1⟩, xst⟩ := id hxs
  obtain ⟨xc0, xcn, xc1, hga, xc7, hss⟩ := id hxc
  have xcz : 0 < n := by omega
  obtain ⟨ga0, ga1, ga2, ga3, ga4, ga5, ga6, ga7, ga8, gan, hrf, hst⟩ := id hga
  have hrf0 := hrf.1
  have hst0 := hst.1
  have hsp := hch.sp
  obtain ⟨hp0, hpn, hp1, hp2, hp3, hp4⟩ := id hsp
  have hnp : rN F ≤ 6 := hrw.2.2.2.2.1
  have hN := hrr.2.2.1
  refine g_aload_n C (pc := 0) dX11_steeple_0 0 rfl ?_
  refine g_getR C (pc := 1) fl_RX11_10 (by decide) (by first | assumption | rfl | omega) (by first | assumption | rfl | omega) (by first | assumption | rfl | omega) dX11_steeple_1 ?_
  refine g_getR C (pc := 4) fl_RX11_104 (by decide) (by first | assumption | rfl | omega) (by first | assumption | rfl | omega) (by first | assumption | rfl | omega) dX11_steeple_4 ?_
  refine g_iload_n C (pc := 7) dX11_steeple_7 1 rfl ?_
  refine g_callVI C (pc := 8) mf_X5_isSquare lk_RX11_135 (c_X5_isSquare n ρ I (1 + 1) x hn9 hrf) (by decide) (Nat.le_refl _) rfl (by first | assumption | rfl | omega) rfl (by first | assumption | rfl | omega) (Nat.le_of_ble_eq_true rfl) dX11_steeple_8 (fun v8 I8 h8 => ?_)
  obtain ⟨e8, rfl⟩ := h8
  rw [hrr.1, hrr.2.1, pk_mul] at e8
  refine g_if_eq C (pc := 11) 37 dX11_steeple_11 (by decide) (fun c11 => ?_) (fun c11 => ?_)
  · have hx := bI_0.mp (e8.symm.trans c11)
    refine g_iconst C (pc := 37) (-1) dX11_steeple_37 (by decide) ?_
    refine g_iret C hR (pc := 38) rfl dX11_steeple_38 ?_
    refine ⟨rfl, _, rfl, ?_⟩
    subst_vars
    refine Or.inr ⟨?_, rfl, rfl⟩
    rintro ⟨q9, h1, h2, h3⟩
    first | exact hx (by rw [h2]; exact sq_in hrw h1) | (have hm := Nat.mul_le_mul hrw.2.1 hrw.2.2.2.1; have : q = q9 := (nI_eq (by omega) (by omega)).mp h2; subst this; exact hpn h3)
  · have hx := bI_1.mp (fun h => c11 (e8.trans h))
    obtain ⟨q, hq, hq25, hxq⟩ := sq_of hrw hx
    refine g_aload_n C (pc := 14) dX11_steeple_14 0 rfl ?_
    refine g_getR C (pc := 15) fl_RX11_10 (by decide) (by first | assumption | rfl | omega) (by first | assumption | rfl | omega) (by first | assumption | rfl | omega) dX11_steeple_15 ?_
    refine g_getR C (pc := 18) fl_RX11_122 (by decide) (by first | assumption | rfl | omega) (by first | assumption | rfl | omega) (by first | assumption | rfl | omega) dX11_steeple_18 ?_
    refine g_aload_n C (pc := 21) dX11_steeple_21 0 rfl ?_
    refine g_getR C (pc := 22) fl_RX11_10 (by decide) (by first | assumption | rfl | omega) (by first | assumption | rfl | omega) (by first | assumption | rfl | omega) dX11_steeple_22 ?_
    refine g_getR C (pc := 25) fl_RX11_104 (by decide) (by first | assumption | rfl | omega) (by first | assumption | rfl | omega) (by first | assumption | rfl | omega) dX11_steeple_25 ?_
    refine g_iload_n C (pc := 28) dX11_steeple_28 1 rfl ?_
    refine g_callVI C (pc := 29) mf_X8_pieceOn lk_RX11_139 (c_X8_pieceOn n ρ I (1 + 5) (1 + 1) (rN F) x hn9 hst hrf hN hnp) (by decide) (Nat.le_refl _) rfl (by first | assumption | rfl | omega) rfl (by first | assumption | rfl | omega) (Nat.le_of_ble_eq_true rfl) dX11_steeple_29 (fun v29 I29 h29 => ?_)
    obtain ⟨e29, rfl⟩ := h29
    have hpo : v29 = oI (pon F b q) := by rw [e29, hxq, pon_raw hbr hbw (by omega)]
    have hpl : ∀ t, pon F b q = some t → t < rN F := fun t ht => (pon_some ht).1
    refine g_bipush C (pc := 32) (-4) dX11_steeple_32 (by decide) ?_
    refine g_icmp_eq C (pc := 34) 39 dX11_steeple_34 (by decide) (fun c34 => ?_) (fun c34 => ?_)
    · have hpn : pon F b q = none := (oI_none (fun t ht => by have := hpl t ht; omega)).mp (by rw [← hpo]; exact c34)
      refine g_aload_n C (pc := 39) dX11_steeple_39 0 rfl ?_
      refine g_getR C (pc := 40) fl_RX11_10 (by decide) (by first | assumption | rfl | omega) (by first | assumption | rfl | omega) (by first | assumption | rfl | omega) dX11_steeple_40 ?_
      refine g_getR C (pc := 43) fl_RX11_104 (by decide) (by first | assumption | rfl | omega) (by first | assumption | rfl | omega) (by first | assumption | rfl | omega) dX11_steeple_43 ?_
      refine g_iload_n C (pc := 46) dX11_steeple_46 1 rfl ?_
      refine g_callVI C (pc := 47) mf_X5_isClosed lk_RX11_169 (c_X5_isClosed n ρ I (1 + 1) x hn9 hrf) (by decide) (Nat.le_refl _) rfl (by first | assumption | rfl | omega) rfl (by first | assumption | rfl | omega) (Nat.le_of_ble_eq_true rfl) dX11_steeple_47 (fun v47 I47 h47 => ?_)
      obtain ⟨e47, rfl⟩ := h47
      have hcl : (I (1 + 1) 5 &&& bitO x) = 0 ↔ rS F q = false := by
        rw [hxq, and_bitO hq25, hrr.2.2.2.1 q (by omega)]
      refine g_istore_n C (pc := 50) dX11_steeple_50 (by decide) (fun v50 => [(3, .int v50), (0, .ref 0), (1, .int x), (2, .int z)]) (fun _ => rfl) (fun v50 ev50 => ?_)
      refine g_aload_n C (pc := 51) dX11_steeple_51 1 rfl ?_
      refine g_getR C (pc := 52) fl_RX11_10 (by decide) (by first | assumption | rfl | omega) (by first | assumption | rfl | omega) (by first | assumption | rfl | omega) dX11_steeple_52 ?_
      refine g_getR C (pc := 55) fl_RX11_104 (by decide) (by first | assumption | rfl | omega) (by first | assumption | rfl | omega) (by first | assumption | rfl | omega) dX11_steeple_55 ?_
      refine g_iload_n C (pc := 58) dX11_steeple_58 2 rfl ?_
      refine g_iload_n C (pc := 59) dX11_steeple_59 3 rfl ?_
      refine g_callVV C (pc := 60) mf_X5_close lk_RX11_176 (c_X5_close n ρ I (1 + 1) x z hn9 hrf) (by decide) (Nat.le_refl _) rfl (by first | assumption | rfl | omega) rfl (by first | assumption | rfl | omega) (Nat.le_of_ble_eq_true rfl) dX11_steeple_60 (fun I60 h60 => ?_)
      obtain h60 := h60
      refine g_iload_n C (pc := 63) dX11_steeple_63 0 rfl ?_
      refine g_if_eq C (pc := 64) 71 dX11_steeple_64 (by decide) (fun c64 => ?_) (fun c64 => ?_)
      · have hS : rS F q = false := hcl.mp (Decidable.not_not.mp (bI_0.mp (by rw [← e47, ← ev50]; exact c64)))
        refine g_iconst C (pc := 71) 0 dX11_steeple_71 (by decide) ?_
        refine g_iret C hR (pc := 72) rfl dX11_steeple_72 ?_
        refine ⟨rfl, _, rfl, ?_⟩
        refine Or.inl ⟨q, ⟨hq, hxq, hpn⟩, ?_, h60⟩
        first | (rw [bI_f (fun h9 => by rw [hS] at h9; cases h9)]; done) | (rw [bI_t hS])
      · have hS : rS F q = true := by
          cases h9 : rS F q with
          | true => rfl
          | false => exact absurd (hcl.mpr h9) (bI_1.mp (by rw [← e47, ← ev50]; exact c64))
        refine g_iconst C (pc := 67) 1 dX11_steeple_67 (by decide) ?_
        refine g_goto C (pc := 68) 72 dX11_steeple_68 (by decide) ?_
        refine g_iret C hR (pc := 72) rfl dX11_steeple_72 ?_
        refine ⟨rfl, _, rfl, ?_⟩
        refine Or.inl ⟨q, ⟨hq, hxq, hpn⟩, ?_, h60⟩
        first | (rw [bI_f (fun h9 => by rw [hS] at h9; cases h9)]; done) | (rw [bI_t hS])
    · have hpn : pon F b q ≠ none := fun h9 => c34 (by rw [hpo, h9]; rfl)
      refine g_iconst C (pc := 37) (-1) dX11_steeple_37 (by decide) ?_
      refine g_iret C hR (pc := 38) rfl dX11_steeple_38 ?_
      refine ⟨rfl, _, rfl, ?_⟩
      subst_vars
      refine Or.inr ⟨?_, rfl, rfl⟩
      rintro ⟨q9, h1, h2, h3⟩
      first | exact hx (by rw [h2]; exact sq_in hrw h1) | (have hm := Nat.mul_le_mul hrw.2.1 hrw.2.2.2.1; have : q = q9 := (nI_eq (by omega) (by omega)).mp h2; subst this; exact hpn h3)
set_option maxHeartbeats 400000 in
theorem c_X11_weigh (n : Nat) (ρ : Rho) (I : Mem) (F : RT) (b : BT) (x z : Int32) (hn9 : n ≤ 999) (hxs : XS n ρ) (hrr : RR I (1 + 1) F) (hrw : RW F) (hbr : BR I (1 + 5) F b) (hbw : BW F b) : MI yX11_weigh cX11_weigh 4 (some .int) 1 [.ref 0, .int x, .int z] n ρ I (fun v I1 => (∃ w q, (w < 5 ∧ q ≤ 9 ∧ x = nI w ∧ z = nI q ∧ allO F - rOd F w + q ≠ 0) ∧ v = nI (rOd F w) ∧ wr I 5 w z = I1) ∨ (¬ (∃ w q, (w < 5 ∧ q ≤ 9 ∧ x = nI w ∧ z = nI q ∧ allO F - rOd F w + q ≠ 0)) ∧ v = -1 ∧ I = I1)) := by
  refine MG.of (by decide +kernel) (Nat.le_of_ble_eq_true rfl) hn9 ?_
  intro κ C hR
  show G κ n ρ 0 [(0, .ref 0), (1, .int x), (2, .int z)] [] I
  obtain ⟨hxc, ⟨xb1, xb2, xb3, xb4, xb5, xb6, xb8⟩, ⟨xi0, xi1, xga, xgb⟩, ⟨xt0, xt1, xgd⟩, hch, ⟨xr0, xr1, xr2⟩, xa0, ⟨xw0, xw1⟩, xst⟩ := id hxs
  obtain ⟨xc0, xcn, xc1, hga, xc7, hss⟩ := id hxc
  have xcz : 0 < n := by omega
  obtain ⟨ga0, ga1, ga2, ga3, ga4, ga5, ga6, ga7, ga8, gan, hrf, hst⟩ := id hga
  have hrf0 := hrf.1
  have hst0 := hst.1
  have hsp := hch.sp
  obtain ⟨hp0, hpn, hp1, hp2, hp3, hp4⟩ := id hsp
  have hnp : rN F ≤ 6 := hrw.2.2.2.2.1
  have hN := hrr.2.2.1
  have hAO := allO_le hrw
  refine g_iload_n C (pc := 0) dX11_weigh_0 1 rfl ?_
  refine g_callSI C (pc := 1) mf_X11_isWind lk_RX11_159 (c_X11_isWind n ρ I x hn9) (by decide) (Nat.le_refl _) rfl (Nat.le_of_ble_eq_true rfl) dX11_weigh_1 (fun v1 I1 h1 => ?_)
  obtain ⟨e1, rfl⟩ := h1
  refine g_if_eq C (pc := 4) 17 dX11_weigh_4 (by decide) (fun c4 => ?_) (fun c4 => ?_)
  · have hx := bI_0.mp (e1.symm.trans c4)
    refine g_iconst C (pc := 17) (-1) dX11_weigh_17 (by decide) ?_
    refine g_iret C hR (pc := 18) rfl dX11_weigh_18 ?_
    refine ⟨rfl, _, rfl, ?_⟩
    subst_vars
    refine Or.inr ⟨?_, rfl, rfl⟩
    rintro ⟨w9, q9, h1, h2, h3, h4, -⟩
    first | exact hx (by rw [h3]; exact ⟨nI_pos' (by omega), nI_lt (b := 5) h1 (by decide)⟩) | exact absurd c8 (by rw [h4]; exact nI_pos (by omega)) | exact absurd c14 (Int32.not_lt.mpr (by rw [h4, show (9 : Int32) = nI 9 from rfl, nI_leI (by omega) (by decide)]; exact h2))
  · have hx := bI_1.mp (fun h => c4 (e1.trans h))
    obtain ⟨w, hw, hxw⟩ := ix_of (n := 5) (by decide) hx
    refine g_iload_n C (pc := 7) dX11_weigh_7 2 rfl ?_
    refine g_if_lt C (pc := 8) 17 dX11_weigh_8 (by decide) (fun c8 => ?_) (fun c8 => ?_)
    · refine g_iconst C (pc := 17) (-1) dX11_weigh_17 (by decide) ?_
      refine g_iret C hR (pc := 18) rfl dX11_weigh_18 ?_
      refine ⟨rfl, _, rfl, ?_⟩
      subst_vars
      refine Or.inr ⟨?_, rfl, rfl⟩
      rintro ⟨w9, q9, h1, h2, h3, h4, -⟩
      first | exact hx (by rw [h3]; exact ⟨nI_pos' (by omega), nI_lt (b := 5) h1 (by decide)⟩) | exact absurd c8 (by rw [h4]; exact nI_pos (by omega)) | exact absurd c14 (Int32.not_lt.mpr (by rw [h4, show (9 : Int32) = nI 9 from rfl, nI_leI (by omega) (by decide)]; exact h2))
    · refine g_iload_n C (pc := 11) dX11_weigh_11 2 rfl ?_
      refine g_bipush C (pc := 12) 9 dX11_weigh_12 (by decide) ?_
      refine g_icmp_le C (pc := 14) 19 dX11_weigh_14 (by decide) (fun c14 => ?_) (fun c14 => ?_)
      · refine g_aload_n C (pc := 19) dX11_weigh_19 0 rfl ?_
        refine g_getR C (pc := 20) fl_RX11_10 (by decide) (by first | assumption | rfl | omega) (by first | assumption | rfl | omega) (by first | assumption | rfl | omega) dX11_weigh_20 ?_
        refine g_getR C (pc := 23) fl_RX11_104 (by decide) (by first | assumption | rfl | omega) (by first | assumption | rfl | omega) (by first | assumption | rfl | omega) dX11_weigh_23 ?_
        refine g_iload_n C (pc := 26) dX11_weigh_26 1 rfl ?_
        refine g_callVI C (pc := 27) mf_X5_oddsOf lk_RX11_162 (c_X5_oddsOf n ρ I (1 + 1) x hn9 hrf) (by decide) (Nat.le_refl _) rfl (by first | assumption | rfl | omega) rfl (by first | assumption | rfl | omega) (Nat.le_of_ble_eq_true rfl) dX11_weigh_27 (fun v27 I27 h27 => ?_)
        obtain ⟨e27, rfl⟩ := h27
        obtain ⟨q, hq, hzq⟩ := ix_of (x := z) (n := 10) (by decide) ⟨c8, lt10 c14⟩
        have hod : v27 = nI (rOd F w) := by rw [e27, hxw, at6 (N := 5) 5 rfl (by decide) hw]; exact hrr.2.2.2.2.2 w hw
        have hole : rOd F w ≤ allO F := smP_at (f := rOd F) hw
        have ho9 := hrw.2.2.2.2.2.2.1 w hw
        refine g_istore_n C (pc := 30) dX11_weigh_30 (by decide) (fun v30 => [(3, .int v30), (0, .ref 0), (1, .int x), (2, .int z)]) (fun _ => rfl) (fun v30 ev30 => ?_)
        refine g_aload_n C (pc := 31) dX11_weigh_31 1 rfl ?_
        refine g_getR C (pc := 32) fl_RX11_10 (by decide) (by first | assumption | rfl | omega) (by first | assumption | rfl | omega) (by first | assumption | rfl | omega) dX11_weigh_32 ?_
        refine g_getR C (pc := 35) fl_RX11_104 (by decide) (by first | assumption | rfl | omega) (by first | assumption | rfl | omega) (by first | assumption | rfl | omega) dX11_weigh_35 ?_
        refine g_callVI C (pc := 38) mf_X5_allOdds lk_RX11_180 (c_X5_allOdds n ρ I (1 + 1) F hn9 hrf hrr) (by decide) (Nat.le_refl _) rfl (by first | assumption | rfl | omega) rfl (by first | assumption | rfl | omega) (Nat.le_of_ble_eq_true rfl) dX11_weigh_38 (fun v38 I38 h38 => ?_)
        obtain ⟨e38, rfl⟩ := h38
        refine g_iload_n C (pc := 41) dX11_weigh_41 0 rfl ?_
        refine g_isub C (pc := 42) dX11_weigh_42 ?_
        refine g_iload_n C (pc := 43) dX11_weigh_43 3 rfl ?_
        refine g_iadd C (pc := 44) dX11_weigh_44 ?_
        have hall : v38 - v30 + z = nI (allO F - rOd F w + q) := by rw [e38, ev30, hod, hzq, pk_sub hole, nI_add]
        refine g_if_ne C (pc := 45) 50 dX11_weigh_45 (by decide) (fun c45 => ?_) (fun c45 => ?_)
        · have hne : allO F - rOd F w + q ≠ 0 := fun h9 => c45 (by rw [hall, h9]; rfl)
          refine g_aload_n C (pc := 50) dX11_weigh_50 1 rfl ?_
          refine g_getR C (pc := 51) fl_RX11_10 (by decide) (by first | assumption | rfl | omega) (by first | assumption | rfl | omega) (by first | assumption | rfl | omega) dX11_weigh_51 ?_
          refine g_getR C (pc := 54) fl_RX11_104 (by decide) (by first | assumption | rfl | omega) (by first | assumption | rfl | omega) (by first | assumption | rfl | omega) dX11_weigh_54 ?_
          refine g_iload_n C (pc := 57) dX11_weigh_57 2 rfl ?_
          refine g_iload_n C (pc := 58) dX11_weigh_58 3 rfl ?_
          refine g_callVV C (pc := 59) mf_X5_setOdds lk_RX11_184 (c_X5_setOdds n ρ I (1 + 1) x z hn9 hrf) (by decide) (Nat.le_refl _) rfl (by first | assumption | rfl | omega) rfl (by first | assumption | rfl | omega) (Nat.le_of_ble_eq_true rfl) dX11_weigh_59 (fun I59 h59 => ?_)
          obtain h59 := h59
          refine g_iload_n C (pc := 62) dX11_weigh_62 0 rfl ?_
          refine g_iret C hR (pc := 63) rfl dX11_weigh_63 ?_
          refine ⟨rfl, _, rfl, ?_⟩
          refine Or.inl ⟨w, q, ⟨hw, by omega, hxw, hzq, hne⟩, ev30.trans hod, ?_⟩
          rw [← h59, hxw, if_pos ⟨nI_pos' (by omega), nI_lt (b := 5) hw (by decide)⟩, nI_clamp (by omega)]
        · have hz0 : allO F - rOd F w + q = 0 := by
            rw [hall] at c45
            exact (nI_eq (b := 0) (by omega) (by decide)).mp c45
          refine g_iconst C (pc := 48) (-1) dX11_weigh_48 (by decide) ?_
          refine g_iret C hR (pc := 49) rfl dX11_weigh_49 ?_
          refine ⟨rfl, _, rfl, ?_⟩
          subst_vars
          refine Or.inr ⟨?_, rfl, rfl⟩
          rintro ⟨w9, q9, h1, h2, h3, h4, h5⟩
          have e1 : w = w9 := (nI_eq (by omega) (by omega)).mp h3
          have e2 : q = q9 := (nI_eq (by omega) (by omega)).mp h4
          subst e1 e2
          exact h5 hz0
      · refine g_iconst C (pc := 17) (-1) dX11_weigh_17 (by decide) ?_
        refine g_iret C hR (pc := 18) rfl dX11_weigh_18 ?_
        refine ⟨rfl, _, rfl, ?_⟩
        subst_vars
        refine Or.inr ⟨?_, rfl, rfl⟩
        rintro ⟨w9, q9, h1, h2, h3, h4, -⟩
        first | exact hx (by rw [h3]; exact ⟨nI_pos' (by omega), nI_lt (b := 5) h1 (by decide)⟩) | exact absurd c8 (by rw [h4]; exact nI_pos (by omega)) | exact absurd c14 (Int32.not_lt.mpr (by rw [h4, show (9 : Int32) = nI 9 from rfl, nI_leI (by omega) (by decide)]; exact h2))
set_option maxHeartbeats 400000 in
theorem c_X11_moves (n : Nat) (ρ : Rho) (I : Mem) (F : RT) (b : BT) (x : Int32) (hn9 : n ≤ 999) (hxs : XS n ρ) (hrr : RR I (1 + 1) F) (hrw : RW F) (hbr : BR I (1 + 5) F b) (hbw : BW F b) : MI yX11_moves cX11_moves 2 (some .int) 5 [.ref 0, .int x] n ρ I (fun v I1 => ((∃ w, w < 5 ∧ x = nI w ∧ v = nI (mvs F b w).length) ∨ (¬ (∃ w, w < 5 ∧ x = nI w) ∧ v = -1)) ∧ ∀ i, i ≠ 52 → I1 i = I i) := by
  refine MG.of (by decide +kernel) (Nat.le_of_ble_eq_true rfl) hn9 ?_
  intro κ C hR
  show G κ n ρ 0 [(0, .ref 0), (1, .int x)] [] I
  obtain ⟨hxc, ⟨xb1, xb2, xb3, xb4, xb5, xb6, xb8⟩, ⟨xi0, xi1, xga, xgb⟩, ⟨xt0, xt1, xgd⟩, hch, ⟨xr0, xr1, xr2⟩, xa0, ⟨xw0, xw1⟩, xst⟩ := id hxs
  obtain ⟨xc0, xcn, xc1, hga, xc7, hss⟩ := id hxc
  have xcz : 0 < n := by omega
  obtain ⟨ga0, ga1, ga2, ga3, ga4, ga5, ga6, ga7, ga8, gan, hrf, hst⟩ := id hga
  have hrf0 := hrf.1
  have hst0 := hst.1
  have hsp := hch.sp
  obtain ⟨hp0, hpn, hp1, hp2, hp3, hp4⟩ := id hsp
  have hnp : rN F ≤ 6 := hrw.2.2.2.2.1
  have hN := hrr.2.2.1
  refine g_iload_n C (pc := 0) dX11_moves_0 1 rfl ?_
  refine g_callSI C (pc := 1) mf_X11_isWind lk_RX11_159 (c_X11_isWind n ρ I x hn9) (by decide) (Nat.le_refl _) rfl (Nat.le_of_ble_eq_true rfl) dX11_moves_1 (fun v1 I1 h1 => ?_)
  obtain ⟨e1, rfl⟩ := h1
  refine g_if_eq C (pc := 4) 15 dX11_moves_4 (by decide) (fun c4 => ?_) (fun c4 => ?_)
  · have hx := bI_0.mp (e1.symm.trans c4)
    refine g_iconst C (pc := 15) (-1) dX11_moves_15 (by decide) ?_
    refine g_iret C hR (pc := 16) rfl dX11_moves_16 ?_
    refine ⟨rfl, _, rfl, ?_⟩
    first | exact ⟨Or.inl ⟨w, hw, hxw, e9⟩, g9⟩ | exact ⟨Or.inr ⟨fun ⟨w9, h1, h2⟩ => hx (by rw [h2]; exact ⟨nI_pos' (by omega), nI_lt (b := 5) h1 (by decide)⟩), rfl⟩, fun _ _ => rfl⟩
  · have hx := bI_1.mp (fun h => c4 (e1.trans h))
    obtain ⟨w, hw, hxw⟩ := ix_of (n := 5) (by decide) hx
    refine g_aload_n C (pc := 7) dX11_moves_7 0 rfl ?_
    refine g_iload_n C (pc := 8) dX11_moves_8 1 rfl ?_
    refine g_callVI C (pc := 9) mf_X11_listNow lk_RX11_190 (c_X11_listNow n ρ I F b w x hn9 hxs hrr hrw hbr hbw hw hxw) (by decide) (Nat.le_refl _) rfl (by first | assumption | rfl | omega) rfl (by first | assumption | rfl | omega) (Nat.le_of_ble_eq_true rfl) dX11_moves_9 (fun v9 I9 h9 => ?_)
    obtain ⟨e9, f9, g9⟩ := h9
    refine g_goto C (pc := 12) 16 dX11_moves_12 (by decide) ?_
    refine g_iret C hR (pc := 16) rfl dX11_moves_16 ?_
    refine ⟨rfl, _, rfl, ?_⟩
    first | exact ⟨Or.inl ⟨w, hw, hxw, e9⟩, g9⟩ | exact ⟨Or.inr ⟨fun ⟨w9, h1, h2⟩ => hx (by rw [h2]; exact ⟨nI_pos' (by omega), nI_lt (b := 5) h1 (by decide)⟩), rfl⟩, fun _ _ => rfl⟩
set_option maxHeartbeats 400000 in
theorem c_X11_move (n : Nat) (ρ : Rho) (I : Mem) (F : RT) (b : BT) (x z : Int32) (hn9 : n ≤ 999) (hxs : XS n ρ) (hrr : RR I (1 + 1) F) (hrw : RW F) (hbr : BR I (1 + 5) F b) (hbw : BW F b) : MI yX11_move cX11_move 4 (some .int) 5 [.ref 0, .int x, .int z] n ρ I (fun v I1 => ((∃ w k m, (w < 5 ∧ x = nI w ∧ z = nI k ∧ (mvs F b w)[k]? = some m) ∧ v = nI m) ∨ (¬ (∃ w k m, (w < 5 ∧ x = nI w ∧ z = nI k ∧ (mvs F b w)[k]? = some m)) ∧ v = -1)) ∧ ∀ i, i ≠ 52 → I1 i = I i) := by
  refine MG.of (by decide +kernel) (Nat.le_of_ble_eq_true rfl) hn9 ?_
  intro κ C hR
  show G κ n ρ 0 [(0, .ref 0), (1, .int x), (2, .int z)] [] I
  obtain ⟨hxc, ⟨xb1, xb2, xb3, xb4, xb5, xb6, xb8⟩, ⟨xi0, xi1, xga, xgb⟩, ⟨xt0, xt1, xgd⟩, hch, ⟨xr0, xr1, xr2⟩, xa0, ⟨xw0, xw1⟩, xst⟩ := id hxs
  obtain ⟨xc0, xcn, xc1, hga, xc7, hss⟩ := id hxc
  have xcz : 0 < n := by omega
  obtain ⟨ga0, ga1, ga2, ga3, ga4, ga5, ga6, ga7, ga8, gan, hrf, hst⟩ := id hga
  have hrf0 := hrf.1
  have hst0 := hst.1
  have hsp := hch.sp
  obtain ⟨hp0, hpn, hp1, hp2, hp3, hp4⟩ := id hsp
  have hnp : rN F ≤ 6 := hrw.2.2.2.2.1
  have hN := hrr.2.2.1
  refine g_iload_n C (pc := 0) dX11_move_0 1 rfl ?_
  refine g_callSI C (pc := 1) mf_X11_isWind lk_RX11_159 (c_X11_isWind n ρ I x hn9) (by decide) (Nat.le_refl _) rfl (Nat.le_of_ble_eq_true rfl) dX11_move_1 (fun v1 I1 h1 => ?_)
  obtain ⟨e1, rfl⟩ := h1
  refine g_if_ne C (pc := 4) 9 dX11_move_4 (by decide) (fun c4 => ?_) (fun c4 => ?_)
  · have hx := bI_1.mp (fun h => c4 (e1.trans h))
    obtain ⟨w, hw, hxw⟩ := ix_of (n := 5) (by decide) hx
    refine g_aload_n C (pc := 9) dX11_move_9 0 rfl ?_
    refine g_iload_n C (pc := 10) dX11_move_10 1 rfl ?_
    refine g_callVI C (pc := 11) mf_X11_listNow lk_RX11_190 (c_X11_listNow n ρ I F b w x hn9 hxs hrr hrw hbr hbw hw hxw) (by decide) (Nat.le_refl _) rfl (by first | assumption | rfl | omega) rfl (by first | assumption | rfl | omega) (Nat.le_of_ble_eq_true rfl) dX11_move_11 (fun v11 I11 h11 => ?_)
    obtain ⟨e11, f11, g11⟩ := h11
    have hml := mvs_len (F := F) (b := b) (w := w) hnp
    refine g_istore_n C (pc := 14) dX11_move_14 (by decide) (fun v14 => [(3, .int v14), (0, .ref 0), (1, .int x), (2, .int z)]) (fun _ => rfl) (fun v14 ev14 => ?_)
    refine g_iload_n C (pc := 15) dX11_move_15 3 rfl ?_
    refine g_if_lt C (pc := 16) 35 dX11_move_16 (by decide) (fun c16 => ?_) (fun c16 => ?_)
    · have hno : ∀ k, (mvs F b w).length ≤ k ∨ z ≠ nI k := fun k => by
        rcases Nat.lt_or_ge k (mvs F b w).length with h9 | h9
        · right; intro h8; rw [h8] at c16; exact absurd c16 (nI_pos (by omega))
        · exact Or.inl h9
      refine g_iconst C (pc := 35) (-1) dX11_move_35 (by decide) ?_
      refine g_iret C hR (pc := 36) rfl dX11_move_36 ?_
      refine ⟨rfl, _, rfl, ?_⟩
      first
      | (have hk9 := List.getElem?_eq_getElem hk
         refine ⟨Or.inl ⟨w, k, _, ⟨hw, hxw, hzk, hk9⟩, ?_⟩, g11⟩
         rw [e29]; exact f11 k _ hk9)
      | (refine ⟨Or.inr ⟨fun ⟨w9, k9, m9, h1, h2, h3, h4⟩ => ?_, rfl⟩, g11⟩
         have e1 : w = w9 := (nI_eq (by omega) (by omega)).mp (hxw.symm.trans h2)
         subst e1
         have := (List.getElem?_eq_some_iff.mp h4).1
         rcases hno k9 with h9 | h9
         · omega
         · exact h9 h3)
    · refine g_iload_n C (pc := 19) dX11_move_19 3 rfl ?_
      refine g_iload_n C (pc := 20) dX11_move_20 0 rfl ?_
      refine g_icmp_ge C (pc := 21) 35 dX11_move_21 (by decide) (fun c21 => ?_) (fun c21 => ?_)
      · have hno : ∀ k, (mvs F b w).length ≤ k ∨ z ≠ nI k := fun k => by
          rcases Nat.lt_or_ge k (mvs F b w).length with h9 | h9
          · right; intro h8; rw [ev14, e11, h8, nI_leI (by omega) (by omega)] at c21; omega
          · exact Or.inl h9
        refine g_iconst C (pc := 35) (-1) dX11_move_35 (by decide) ?_
        refine g_iret C hR (pc := 36) rfl dX11_move_36 ?_
        refine ⟨rfl, _, rfl, ?_⟩
        first
        | (have hk9 := List.getElem?_eq_getElem hk
           refine ⟨Or.inl ⟨w, k, _, ⟨hw, hxw, hzk, hk9⟩, ?_⟩, g11⟩
           rw [e29]; exact f11 k _ hk9)
        | (refine ⟨Or.inr ⟨fun ⟨w9, k9, m9, h1, h2, h3, h4⟩ => ?_, rfl⟩, g11⟩
           have e1 : w = w9 := (nI_eq (by omega) (by omega)).mp (hxw.symm.trans h2)
           subst e1
           have := (List.getElem?_eq_some_iff.mp h4).1
           rcases hno k9 with h9 | h9
           · omega
           · exact h9 h3)
      · obtain ⟨k, hk, hzk⟩ := ix_of (x := z) (n := (mvs F b w).length) (by omega) ⟨c16, by rw [← e11, ← ev14]; exact c21⟩
        refine g_aload_n C (pc := 24) dX11_move_24 1 rfl ?_
        refine g_getR C (pc := 25) fl_RX11_35 (by decide) (by first | assumption | rfl | omega) (by first | assumption | rfl | omega) (by first | assumption | rfl | omega) dX11_move_25 ?_
        refine g_iload_n C (pc := 28) dX11_move_28 3 rfl ?_
        refine g_callVI C (pc := 29) mf_X9_moveAt lk_RX11_193 (c_X9_moveAt n ρ I11 47 k z hn9 hsp (by omega) hzk) (by decide) (Nat.le_refl _) rfl (by first | assumption | rfl | omega) rfl (by first | assumption | rfl | omega) (Nat.le_of_ble_eq_true rfl) dX11_move_29 (fun v29 I29 h29 => ?_)
        obtain ⟨e29, rfl⟩ := h29
        refine g_goto C (pc := 32) 36 dX11_move_32 (by decide) ?_
        refine g_iret C hR (pc := 36) rfl dX11_move_36 ?_
        refine ⟨rfl, _, rfl, ?_⟩
        first
        | (have hk9 := List.getElem?_eq_getElem hk
           refine ⟨Or.inl ⟨w, k, _, ⟨hw, hxw, hzk, hk9⟩, ?_⟩, g11⟩
           rw [e29]; exact f11 k _ hk9)
        | (refine ⟨Or.inr ⟨fun ⟨w9, k9, m9, h1, h2, h3, h4⟩ => ?_, rfl⟩, g11⟩
           have e1 : w = w9 := (nI_eq (by omega) (by omega)).mp (hxw.symm.trans h2)
           subst e1
           have := (List.getElem?_eq_some_iff.mp h4).1
           rcases hno k9 with h9 | h9
           · omega
           · exact h9 h3)
  · have hx := bI_0.mp (e1.symm.trans c4)
    refine g_iconst C (pc := 7) (-1) dX11_move_7 (by decide) ?_
    refine g_iret C hR (pc := 8) rfl dX11_move_8 ?_
    refine ⟨rfl, _, rfl, ?_⟩
    exact ⟨Or.inr ⟨fun ⟨w9, k9, m9, h1, h2, h3⟩ => hx (by rw [h2]; exact ⟨nI_pos' (by omega), nI_lt (b := 5) h1 (by decide)⟩), rfl⟩, fun _ _ => rfl⟩
