def MvS (F : RT) (b : BT) (w : Nat) (z : Int32) (mv : Option Nat) : Prop := (∃ k m, z = nI k ∧ (mvs F b w)[k]? = some m ∧ mv = some m) ∨ (z = -4 ∧ (mvs F b w).length = 0 ∧ mv = none)
theorem lt4 {x : Int32} (h : x ≤ 3) : x < nI 4 := by
  have := Int32.le_iff_toInt_le.mp h
  rw [Int32.lt_iff_toInt_lt]
  have h1 : (3 : Int32).toInt = 3 := by decide
  have h2 : (nI 4).toInt = 4 := by decide
  omega
theorem valW_le {F : RT} {sd k : Nat} {b : BT} {w : Nat} : valW F sd k b w ≤ pw (allO F) k := by
  unfold valW valB
  obtain ⟨a, i, e, -, hf⟩ := bstK_some (wants := bM b == sd) (f := valF F sd k b w) cntM_pos
  rw [e]
  show a ≤ _
  rw [← hf]
  exact val_le k _
theorem cmp_m1 {a : Nat} (ha : a < 2 ^ 31) : 0 < lg_cmp (lN a) (lO none) := by
  have h1 : lN a > (-1 : Int64) := by
    apply Int64.lt_iff_toInt_lt.mpr
    rw [lN_toInt ha]
    have h2 : (-1 : Int64).toInt = -1 := by decide
    omega
  show 0 < lg_cmp (lN a) (-1)
  unfold lg_cmp
  rw [if_pos h1]
  decide
set_option maxHeartbeats 400000 in
theorem c_X11_playNow (n : Nat) (ρ : Rho) (I : Mem) (F : RT) (b : BT) (t : Nat) (x z : Int32) (hn9 : n ≤ 999) (hxs : XS n ρ) (hrr : RR I (1 + 1) F) (hrw : RW F) (hbr : BR I (1 + 5) F b) (hbw : BW F b) (hT : I 1 5 = nI t) (ht9 : t ≤ 999) : MI yX11_playNow cX11_playNow 6 (some .int) 5 [.ref 0, .int x, .int z] n ρ I (fun v I1 => (¬ (∃ w mv, (w < 5 ∧ x = nI w ∧ MvS F b w z mv)) ∧ v = -1 ∧ ∀ i, i ≠ 52 → I1 i = I i) ∨ (∃ w mv, (w < 5 ∧ x = nI w ∧ MvS F b w z mv) ∧ ((¬ lostB F b = none ∧ v = -2 ∧ ∀ i, i ≠ 52 → I1 i = I i) ∨ (lostB F b = none ∧ 999 ≤ t ∧ v = -3 ∧ ∀ i, i ≠ 52 → I1 i = I i) ∨ (lostB F b = none ∧ t < 999 ∧ v = oI (mv.bind (fun m => pon F b (m % 100))) ∧ BR I1 (1 + 5) F (playB F b w mv) ∧ I1 1 5 = nI (t + 1) ∧ (∀ z, z ≠ 5 → I1 1 z = I 1 z) ∧ ∀ i, i ≠ 1 → i ≠ 52 → i ≠ 6 → i ≠ 7 → i ≠ 8 → i ≠ 9 → I1 i = I i)))) := by
  refine MG.of (by decide +kernel) (Nat.le_of_ble_eq_true rfl) hn9 ?_
  intro κ C hR
  show G κ n ρ 0 [(0, .ref 0), (1, .int x), (2, .int z)] [] I
  obtain ⟨hxc, ⟨xb1, xb2, xb3, xb4, xb5, xb6, xb8⟩, ⟨xi0, xi1, xga, xgb⟩, ⟨xt0, xt1, xgd⟩, hch, ⟨xr0, xr1, xr2⟩, xa0, ⟨xw0, xw1⟩, xst⟩ := id hxs
  obtain ⟨xc0, xcn, xc1, hga, xc7, hss⟩ := id hxc
  have xcz : 0 < n := by omega
  obtain ⟨ga0, ga1, ga2, ga3, ga4, ga5, ga6, ga7, ga8, gan, hrf, hst⟩ := id hga
  have hrf0 := hrf.1
  have hst0 := hst.1
  have hsp := hch.sp
  obtain ⟨hp0, hpn, hp1, hp2, hp3, hp4⟩ := id hsp
  have hnp : rN F ≤ 6 := hrw.2.2.2.2.1
  have hN := hrr.2.2.1
  refine g_iload_n C (pc := 0) dX11_playNow_0 1 rfl ?_
  refine g_callSI C (pc := 1) mf_X11_isWind lk_RX11_159 (c_X11_isWind n ρ I x hn9) (by decide) (Nat.le_refl _) rfl (Nat.le_of_ble_eq_true rfl) dX11_playNow_1 (fun v1 I1 h1 => ?_)
  obtain ⟨e1, rfl⟩ := h1
  refine g_if_ne C (pc := 4) 9 dX11_playNow_4 (by decide) (fun c4 => ?_) (fun c4 => ?_)
  · have hx := bI_1.mp (fun h => c4 (e1.trans h))
    obtain ⟨w, hw, hxw⟩ := ix_of (n := 5) (by decide) hx
    refine g_aload_n C (pc := 9) dX11_playNow_9 0 rfl ?_
    refine g_iload_n C (pc := 10) dX11_playNow_10 1 rfl ?_
    refine g_callVI C (pc := 11) mf_X11_listNow lk_RX11_190 (c_X11_listNow n ρ I F b w x hn9 hxs hrr hrw hbr hbw hw hxw) (by decide) (Nat.le_refl _) rfl (by first | assumption | rfl | omega) rfl (by first | assumption | rfl | omega) (Nat.le_of_ble_eq_true rfl) dX11_playNow_11 (fun v11 I11 h11 => ?_)
    obtain ⟨e11, f11, g11⟩ := h11
    have hml := mvs_len (F := F) (b := b) (w := w) hnp
    have hrr11 : RR I11 (1 + 1) F := hrr.cong (fun i hi => g11 _ (by omega))
    have hbr11 : BR I11 (1 + 5) F b := hbr.cong (fun i hi => g11 _ (by omega))
    have hT11 : I11 1 5 = nI t := by rw [g11 1 (by decide)]; exact hT
    refine g_istore_n C (pc := 14) dX11_playNow_14 (by decide) (fun v14 => [(3, .int v14), (0, .ref 0), (1, .int x), (2, .int z)]) (fun _ => rfl) (fun v14 ev14 => ?_)
    refine g_iload_n C (pc := 15) dX11_playNow_15 3 rfl ?_
    refine g_if_lt C (pc := 16) 28 dX11_playNow_16 (by decide) (fun c16 => ?_) (fun c16 => ?_)
    · have hno : ∀ k, (mvs F b w).length ≤ k ∨ z ≠ nI k := fun k => by
        rcases Nat.lt_or_ge k (mvs F b w).length with h9 | h9
        · right; intro h8; rw [h8] at c16; exact absurd c16 (nI_pos (by omega))
        · exact Or.inl h9
      refine g_iconst C (pc := 28) 0 dX11_playNow_28 (by decide) ?_
      refine g_istore C (pc := 29) dX11_playNow_29 (by decide) (fun v29 => [(4, .int v29), (3, .int v14), (0, .ref 0), (1, .int x), (2, .int z)]) (fun _ => rfl) (fun v29 ev29 => ?_)
      refine g_iload_n C (pc := 31) dX11_playNow_31 4 rfl ?_
      refine g_bipush C (pc := 32) (-4) dX11_playNow_32 (by decide) ?_
      refine g_icmp_ne C (pc := 34) 45 dX11_playNow_34 (by decide) (fun c34 => ?_) (fun c34 => ?_)
      · refine g_iconst C (pc := 45) 0 dX11_playNow_45 (by decide) ?_
        refine g_istore C (pc := 46) dX11_playNow_46 (by decide) (fun v46 => [(5, .int v46), (4, .int v29), (3, .int v14), (0, .ref 0), (1, .int x), (2, .int z)]) (fun _ => rfl) (fun v46 ev46 => ?_)
        refine g_iload C (pc := 48) dX11_playNow_48 1 rfl ?_
        refine g_if_ne C (pc := 50) 60 dX11_playNow_50 (by decide) (fun c50 => absurd c50 (by first | decide | (subst_vars; decide))) (fun c50 => ?_)
        refine g_iload C (pc := 53) dX11_playNow_53 0 rfl ?_
        refine g_if_ne C (pc := 55) 60 dX11_playNow_55 (by decide) (fun c55 => absurd c55 (by first | decide | (subst_vars; decide))) (fun c55 => ?_)
        refine g_iconst C (pc := 58) (-1) dX11_playNow_58 (by decide) ?_
        refine g_iret C hR (pc := 59) rfl dX11_playNow_59 ?_
        refine ⟨rfl, _, rfl, ?_⟩
        refine Or.inl ⟨fun ⟨w9, mv9, h1, h2, h3⟩ => ?_, rfl, g11⟩
        have e1 : w = w9 := (nI_eq (by omega) (by omega)).mp (hxw.symm.trans h2)
        subst e1
        rcases h3 with ⟨k9, m9, h4, h5, -⟩ | ⟨h4, h5, -⟩
        · have := (List.getElem?_eq_some_iff.mp h5).1
          rcases hno k9 with h9 | h9
          · omega
          · exact h9 h4
        · first | exact c34 h4 | exact hl0 h5
      · have hz4 : z = -4 := c34
        refine g_iload_n C (pc := 37) dX11_playNow_37 1 rfl ?_
        refine g_if_ne C (pc := 38) 45 dX11_playNow_38 (by decide) (fun c38 => ?_) (fun c38 => ?_)
        · have hl0 : ¬ (mvs F b w).length = 0 := fun h9 => c38 (by rw [ev14, e11, h9]; rfl)
          refine g_iconst C (pc := 45) 0 dX11_playNow_45 (by decide) ?_
          refine g_istore C (pc := 46) dX11_playNow_46 (by decide) (fun v46 => [(5, .int v46), (4, .int v29), (3, .int v14), (0, .ref 0), (1, .int x), (2, .int z)]) (fun _ => rfl) (fun v46 ev46 => ?_)
          refine g_iload C (pc := 48) dX11_playNow_48 1 rfl ?_
          refine g_if_ne C (pc := 50) 60 dX11_playNow_50 (by decide) (fun c50 => absurd c50 (by first | decide | (subst_vars; decide))) (fun c50 => ?_)
          refine g_iload C (pc := 53) dX11_playNow_53 0 rfl ?_
          refine g_if_ne C (pc := 55) 60 dX11_playNow_55 (by decide) (fun c55 => absurd c55 (by first | decide | (subst_vars; decide))) (fun c55 => ?_)
          refine g_iconst C (pc := 58) (-1) dX11_playNow_58 (by decide) ?_
          refine g_iret C hR (pc := 59) rfl dX11_playNow_59 ?_
          refine ⟨rfl, _, rfl, ?_⟩
          refine Or.inl ⟨fun ⟨w9, mv9, h1, h2, h3⟩ => ?_, rfl, g11⟩
          have e1 : w = w9 := (nI_eq (by omega) (by omega)).mp (hxw.symm.trans h2)
          subst e1
          rcases h3 with ⟨k9, m9, h4, h5, -⟩ | ⟨h4, h5, -⟩
          · have := (List.getElem?_eq_some_iff.mp h5).1
            rcases hno k9 with h9 | h9
            · omega
            · exact h9 h4
          · first | exact c34 h4 | exact hl0 h5
        · have hl0 : (mvs F b w).length = 0 := by
            rw [ev14, e11] at c38
            exact (nI_eq (b := 0) (by omega) (by decide)).mp c38
          obtain ⟨mv, hmv⟩ : ∃ mv : Option Nat, mv = none := ⟨_, rfl⟩
          have hsel : MvS F b w z mv := Or.inr ⟨hz4, hl0, hmv⟩
          have hmv9 : ∀ m, mv = some m → m / 100 < rN F ∧ m % 100 < 25 := by
            intro m h9
            rw [hmv] at h9; cases h9
          refine g_iconst C (pc := 41) 1 dX11_playNow_41 (by decide) ?_
          refine g_goto C (pc := 42) 46 dX11_playNow_42 (by decide) ?_
          refine g_istore C (pc := 46) dX11_playNow_46 (by decide) (fun v46 => [(5, .int v46), (4, .int v29), (3, .int v14), (0, .ref 0), (1, .int x), (2, .int z)]) (fun _ => rfl) (fun v46 ev46 => ?_)
          refine g_iload C (pc := 48) dX11_playNow_48 1 rfl ?_
          refine g_if_ne C (pc := 50) 60 dX11_playNow_50 (by decide) (fun c50 => absurd c50 (by first | decide | (subst_vars; decide))) (fun c50 => ?_)
          refine g_iload C (pc := 53) dX11_playNow_53 0 rfl ?_
          refine g_if_ne C (pc := 55) 60 dX11_playNow_55 (by decide) (fun c55 => ?_) (fun c55 => absurd c55 (by first | decide | (subst_vars; decide)))
          refine g_aload_n C (pc := 60) dX11_playNow_60 3 rfl ?_
          refine g_callVI C (pc := 61) mf_X11_isOver lk_RX11_226 (c_X11_isOver n ρ I11 F b hn9 hxs hrr11 hrw hbr11 hbw) (by decide) (Nat.le_refl _) rfl (by first | assumption | rfl | omega) rfl (by first | assumption | rfl | omega) (Nat.le_of_ble_eq_true rfl) dX11_playNow_61 (fun v61 I61 h61 => ?_)
          obtain ⟨e61, rfl⟩ := h61
          refine g_if_eq C (pc := 64) 70 dX11_playNow_64 (by decide) (fun c64 => ?_) (fun c64 => ?_)
          · have hov : lostB F b = none := Decidable.not_not.mp (bI_0.mp (e61.symm.trans c64))
            refine g_aload_n C (pc := 70) dX11_playNow_70 3 rfl ?_
            refine g_getR C (pc := 71) fl_RX11_10 (by decide) (by first | assumption | rfl | omega) (by first | assumption | rfl | omega) (by first | assumption | rfl | omega) dX11_playNow_71 ?_
            refine g_getI C (pc := 74) fl_RX11_128 (by decide) (by first | assumption | rfl | omega) (by first | assumption | rfl | omega) dX11_playNow_74 ?_
            refine g_sipush C (pc := 77) 999 dX11_playNow_77 (by decide) ?_
            refine g_icmp_lt C (pc := 80) 86 dX11_playNow_80 (by decide) (fun c80 => ?_) (fun c80 => ?_)
            · have hlt : t < 999 := by
                rw [hT11, show (999 : Int32) = nI 999 from rfl, nI_ltI (by omega) (by decide)] at c80
                exact c80
              refine g_aload_n C (pc := 86) dX11_playNow_86 3 rfl ?_
              refine g_getR C (pc := 87) fl_RX11_10 (by decide) (by first | assumption | rfl | omega) (by first | assumption | rfl | omega) (by first | assumption | rfl | omega) dX11_playNow_87 ?_
              refine g_dup C (pc := 90) dX11_playNow_90 rfl ?_
              refine g_getI C (pc := 91) fl_RX11_128 (by decide) (by first | assumption | rfl | omega) (by first | assumption | rfl | omega) dX11_playNow_91 ?_
              refine g_iconst C (pc := 94) 1 dX11_playNow_94 (by decide) ?_
              refine g_iadd C (pc := 95) dX11_playNow_95 ?_
              refine g_putI C (pc := 96) fl_RX11_128 (by decide) fp_2_5 (Or.inl rfl) ⟨rfl, rfl⟩ (by first | assumption | rfl | omega) (by first | assumption | rfl | omega) hn9 dX11_playNow_96 ?_
              refine g_aload_n C (pc := 99) dX11_playNow_99 3 rfl ?_
              refine g_getR C (pc := 100) fl_RX11_10 (by decide) (by first | assumption | rfl | omega) (by first | assumption | rfl | omega) (by first | assumption | rfl | omega) dX11_playNow_100 ?_
              refine g_getR C (pc := 103) fl_RX11_122 (by decide) (by first | assumption | rfl | omega) (by first | assumption | rfl | omega) (by first | assumption | rfl | omega) dX11_playNow_103 ?_
              refine g_aload_n C (pc := 106) dX11_playNow_106 3 rfl ?_
              refine g_getR C (pc := 107) fl_RX11_10 (by decide) (by first | assumption | rfl | omega) (by first | assumption | rfl | omega) (by first | assumption | rfl | omega) dX11_playNow_107 ?_
              refine g_getR C (pc := 110) fl_RX11_104 (by decide) (by first | assumption | rfl | omega) (by first | assumption | rfl | omega) (by first | assumption | rfl | omega) dX11_playNow_110 ?_
              rw [hxw]
              refine g_iload_n C (pc := 113) dX11_playNow_113 4 rfl ?_
              refine g_iload C (pc := 114) dX11_playNow_114 1 rfl ?_
              refine g_if_eq C (pc := 116) 130 dX11_playNow_116 (by decide) (fun c116 => ?_) (fun c116 => absurd c116 (by first | decide | (subst_vars; decide)))
              refine g_bipush C (pc := 130) (-4) dX11_playNow_130 (by decide) ?_
              refine g_callVI C (pc := 132) mf_X8_play lk_RX11_304 (c_X8_play n ρ _ (1 + 5) (1 + 1) w F b mv _ hn9 hst hrf (hrr11.cong (fun i hi => by rw [wr_n (by omega)])) hrw (hbr11.cong (fun i hi => by rw [wr_n (by omega)])) hbw (fun i k h1 h2 => by omega) hw hmv9 (by first | (rw [e124, wr_n (by decide), hmv]; exact f11 k _ hkm) | (rw [hmv]; rfl))) (by decide) (Nat.le_refl _) rfl (by first | assumption | rfl | omega) rfl (by first | assumption | rfl | omega) (Nat.le_of_ble_eq_true rfl) dX11_playNow_132 (fun v132 I132 h132 => ?_)
              obtain ⟨e132, h132, g132⟩ := h132
              refine g_iret C hR (pc := 135) rfl dX11_playNow_135 ?_
              refine ⟨rfl, _, rfl, ?_⟩
              refine Or.inr ⟨w, mv, ⟨hw, hxw, hsel⟩, Or.inr (Or.inr ⟨hov, hlt, e132, h132, ?_, fun z9 h9 => ?_, fun i h1 h2 h3 h4 h5 h6 => ?_⟩)⟩
              · rw [g132 1 (by decide) (by decide) (by decide) (by decide), wr_ss, hT11, nI_1]
              · rw [g132 1 (by decide) (by decide) (by decide) (by decide), wr_sn h9, g11 1 (by decide)]
              · rw [g132 i h3 h4 h5 h6, wr_n h1, g11 i h2]
            · have hge : 999 ≤ t := by
                rw [hT11, show (999 : Int32) = nI 999 from rfl, nI_leI (by decide) (by omega)] at c80
                exact c80
              refine g_bipush C (pc := 83) (-3) dX11_playNow_83 (by decide) ?_
              refine g_iret C hR (pc := 85) rfl dX11_playNow_85 ?_
              refine ⟨rfl, _, rfl, ?_⟩
              exact Or.inr ⟨w, mv, ⟨hw, hxw, hsel⟩, Or.inr (Or.inl ⟨hov, hge, rfl, g11⟩)⟩
          · have hov : ¬ lostB F b = none := bI_1.mp (fun h => c64 (e61.trans h))
            refine g_bipush C (pc := 67) (-2) dX11_playNow_67 (by decide) ?_
            refine g_iret C hR (pc := 69) rfl dX11_playNow_69 ?_
            refine ⟨rfl, _, rfl, ?_⟩
            exact Or.inr ⟨w, mv, ⟨hw, hxw, hsel⟩, Or.inl ⟨hov, rfl, g11⟩⟩
    · refine g_iload_n C (pc := 19) dX11_playNow_19 3 rfl ?_
      refine g_iload_n C (pc := 20) dX11_playNow_20 0 rfl ?_
      refine g_icmp_ge C (pc := 21) 28 dX11_playNow_21 (by decide) (fun c21 => ?_) (fun c21 => ?_)
      · have hno : ∀ k, (mvs F b w).length ≤ k ∨ z ≠ nI k := fun k => by
          rcases Nat.lt_or_ge k (mvs F b w).length with h9 | h9
          · right; intro h8; rw [ev14, e11, h8, nI_leI (by omega) (by omega)] at c21; omega
          · exact Or.inl h9
        refine g_iconst C (pc := 28) 0 dX11_playNow_28 (by decide) ?_
        refine g_istore C (pc := 29) dX11_playNow_29 (by decide) (fun v29 => [(4, .int v29), (3, .int v14), (0, .ref 0), (1, .int x), (2, .int z)]) (fun _ => rfl) (fun v29 ev29 => ?_)
        refine g_iload_n C (pc := 31) dX11_playNow_31 4 rfl ?_
        refine g_bipush C (pc := 32) (-4) dX11_playNow_32 (by decide) ?_
        refine g_icmp_ne C (pc := 34) 45 dX11_playNow_34 (by decide) (fun c34 => ?_) (fun c34 => ?_)
        · refine g_iconst C (pc := 45) 0 dX11_playNow_45 (by decide) ?_
          refine g_istore C (pc := 46) dX11_playNow_46 (by decide) (fun v46 => [(5, .int v46), (4, .int v29), (3, .int v14), (0, .ref 0), (1, .int x), (2, .int z)]) (fun _ => rfl) (fun v46 ev46 => ?_)
          refine g_iload C (pc := 48) dX11_playNow_48 1 rfl ?_
          refine g_if_ne C (pc := 50) 60 dX11_playNow_50 (by decide) (fun c50 => absurd c50 (by first | decide | (subst_vars; decide))) (fun c50 => ?_)
          refine g_iload C (pc := 53) dX11_playNow_53 0 rfl ?_
          refine g_if_ne C (pc := 55) 60 dX11_playNow_55 (by decide) (fun c55 => absurd c55 (by first | decide | (subst_vars; decide))) (fun c55 => ?_)
          refine g_iconst C (pc := 58) (-1) dX11_playNow_58 (by decide) ?_
          refine g_iret C hR (pc := 59) rfl dX11_playNow_59 ?_
          refine ⟨rfl, _, rfl, ?_⟩
          refine Or.inl ⟨fun ⟨w9, mv9, h1, h2, h3⟩ => ?_, rfl, g11⟩
          have e1 : w = w9 := (nI_eq (by omega) (by omega)).mp (hxw.symm.trans h2)
          subst e1
          rcases h3 with ⟨k9, m9, h4, h5, -⟩ | ⟨h4, h5, -⟩
          · have := (List.getElem?_eq_some_iff.mp h5).1
            rcases hno k9 with h9 | h9
            · omega
            · exact h9 h4
          · first | exact c34 h4 | exact hl0 h5
        · have hz4 : z = -4 := c34
          refine g_iload_n C (pc := 37) dX11_playNow_37 1 rfl ?_
          refine g_if_ne C (pc := 38) 45 dX11_playNow_38 (by decide) (fun c38 => ?_) (fun c38 => ?_)
          · have hl0 : ¬ (mvs F b w).length = 0 := fun h9 => c38 (by rw [ev14, e11, h9]; rfl)
            refine g_iconst C (pc := 45) 0 dX11_playNow_45 (by decide) ?_
            refine g_istore C (pc := 46) dX11_playNow_46 (by decide) (fun v46 => [(5, .int v46), (4, .int v29), (3, .int v14), (0, .ref 0), (1, .int x), (2, .int z)]) (fun _ => rfl) (fun v46 ev46 => ?_)
            refine g_iload C (pc := 48) dX11_playNow_48 1 rfl ?_
            refine g_if_ne C (pc := 50) 60 dX11_playNow_50 (by decide) (fun c50 => absurd c50 (by first | decide | (subst_vars; decide))) (fun c50 => ?_)
            refine g_iload C (pc := 53) dX11_playNow_53 0 rfl ?_
            refine g_if_ne C (pc := 55) 60 dX11_playNow_55 (by decide) (fun c55 => absurd c55 (by first | decide | (subst_vars; decide))) (fun c55 => ?_)
            refine g_iconst C (pc := 58) (-1) dX11_playNow_58 (by decide) ?_
            refine g_iret C hR (pc := 59) rfl dX11_playNow_59 ?_
            refine ⟨rfl, _, rfl, ?_⟩
            refine Or.inl ⟨fun ⟨w9, mv9, h1, h2, h3⟩ => ?_, rfl, g11⟩
            have e1 : w = w9 := (nI_eq (by omega) (by omega)).mp (hxw.symm.trans h2)
            subst e1
            rcases h3 with ⟨k9, m9, h4, h5, -⟩ | ⟨h4, h5, -⟩
            · have := (List.getElem?_eq_some_iff.mp h5).1
              rcases hno k9 with h9 | h9
              · omega
              · exact h9 h4
            · first | exact c34 h4 | exact hl0 h5
          · have hl0 : (mvs F b w).length = 0 := by
              rw [ev14, e11] at c38
              exact (nI_eq (b := 0) (by omega) (by decide)).mp c38
            obtain ⟨mv, hmv⟩ : ∃ mv : Option Nat, mv = none := ⟨_, rfl⟩
            have hsel : MvS F b w z mv := Or.inr ⟨hz4, hl0, hmv⟩
            have hmv9 : ∀ m, mv = some m → m / 100 < rN F ∧ m % 100 < 25 := by
              intro m h9
              rw [hmv] at h9; cases h9
            refine g_iconst C (pc := 41) 1 dX11_playNow_41 (by decide) ?_
            refine g_goto C (pc := 42) 46 dX11_playNow_42 (by decide) ?_
            refine g_istore C (pc := 46) dX11_playNow_46 (by decide) (fun v46 => [(5, .int v46), (4, .int v29), (3, .int v14), (0, .ref 0), (1, .int x), (2, .int z)]) (fun _ => rfl) (fun v46 ev46 => ?_)
            refine g_iload C (pc := 48) dX11_playNow_48 1 rfl ?_
            refine g_if_ne C (pc := 50) 60 dX11_playNow_50 (by decide) (fun c50 => absurd c50 (by first | decide | (subst_vars; decide))) (fun c50 => ?_)
            refine g_iload C (pc := 53) dX11_playNow_53 0 rfl ?_
            refine g_if_ne C (pc := 55) 60 dX11_playNow_55 (by decide) (fun c55 => ?_) (fun c55 => absurd c55 (by first | decide | (subst_vars; decide)))
            refine g_aload_n C (pc := 60) dX11_playNow_60 3 rfl ?_
            refine g_callVI C (pc := 61) mf_X11_isOver lk_RX11_226 (c_X11_isOver n ρ I11 F b hn9 hxs hrr11 hrw hbr11 hbw) (by decide) (Nat.le_refl _) rfl (by first | assumption | rfl | omega) rfl (by first | assumption | rfl | omega) (Nat.le_of_ble_eq_true rfl) dX11_playNow_61 (fun v61 I61 h61 => ?_)
            obtain ⟨e61, rfl⟩ := h61
            refine g_if_eq C (pc := 64) 70 dX11_playNow_64 (by decide) (fun c64 => ?_) (fun c64 => ?_)
            · have hov : lostB F b = none := Decidable.not_not.mp (bI_0.mp (e61.symm.trans c64))
              refine g_aload_n C (pc := 70) dX11_playNow_70 3 rfl ?_
              refine g_getR C (pc := 71) fl_RX11_10 (by decide) (by first | assumption | rfl | omega) (by first | assumption | rfl | omega) (by first | assumption | rfl | omega) dX11_playNow_71 ?_
              refine g_getI C (pc := 74) fl_RX11_128 (by decide) (by first | assumption | rfl | omega) (by first | assumption | rfl | omega) dX11_playNow_74 ?_
              refine g_sipush C (pc := 77) 999 dX11_playNow_77 (by decide) ?_
              refine g_icmp_lt C (pc := 80) 86 dX11_playNow_80 (by decide) (fun c80 => ?_) (fun c80 => ?_)
              · have hlt : t < 999 := by
                  rw [hT11, show (999 : Int32) = nI 999 from rfl, nI_ltI (by omega) (by decide)] at c80
                  exact c80
                refine g_aload_n C (pc := 86) dX11_playNow_86 3 rfl ?_
                refine g_getR C (pc := 87) fl_RX11_10 (by decide) (by first | assumption | rfl | omega) (by first | assumption | rfl | omega) (by first | assumption | rfl | omega) dX11_playNow_87 ?_
                refine g_dup C (pc := 90) dX11_playNow_90 rfl ?_
                refine g_getI C (pc := 91) fl_RX11_128 (by decide) (by first | assumption | rfl | omega) (by first | assumption | rfl | omega) dX11_playNow_91 ?_
                refine g_iconst C (pc := 94) 1 dX11_playNow_94 (by decide) ?_
                refine g_iadd C (pc := 95) dX11_playNow_95 ?_
                refine g_putI C (pc := 96) fl_RX11_128 (by decide) fp_2_5 (Or.inl rfl) ⟨rfl, rfl⟩ (by first | assumption | rfl | omega) (by first | assumption | rfl | omega) hn9 dX11_playNow_96 ?_
                refine g_aload_n C (pc := 99) dX11_playNow_99 3 rfl ?_
                refine g_getR C (pc := 100) fl_RX11_10 (by decide) (by first | assumption | rfl | omega) (by first | assumption | rfl | omega) (by first | assumption | rfl | omega) dX11_playNow_100 ?_
                refine g_getR C (pc := 103) fl_RX11_122 (by decide) (by first | assumption | rfl | omega) (by first | assumption | rfl | omega) (by first | assumption | rfl | omega) dX11_playNow_103 ?_
                refine g_aload_n C (pc := 106) dX11_playNow_106 3 rfl ?_
                refine g_getR C (pc := 107) fl_RX11_10 (by decide) (by first | assumption | rfl | omega) (by first | assumption | rfl | omega) (by first | assumption | rfl | omega) dX11_playNow_107 ?_
                refine g_getR C (pc := 110) fl_RX11_104 (by decide) (by first | assumption | rfl | omega) (by first | assumption | rfl | omega) (by first | assumption | rfl | omega) dX11_playNow_110 ?_
                rw [hxw]
                refine g_iload_n C (pc := 113) dX11_playNow_113 4 rfl ?_
                refine g_iload C (pc := 114) dX11_playNow_114 1 rfl ?_
                refine g_if_eq C (pc := 116) 130 dX11_playNow_116 (by decide) (fun c116 => ?_) (fun c116 => absurd c116 (by first | decide | (subst_vars; decide)))
                refine g_bipush C (pc := 130) (-4) dX11_playNow_130 (by decide) ?_
                refine g_callVI C (pc := 132) mf_X8_play lk_RX11_304 (c_X8_play n ρ _ (1 + 5) (1 + 1) w F b mv _ hn9 hst hrf (hrr11.cong (fun i hi => by rw [wr_n (by omega)])) hrw (hbr11.cong (fun i hi => by rw [wr_n (by omega)])) hbw (fun i k h1 h2 => by omega) hw hmv9 (by first | (rw [e124, wr_n (by decide), hmv]; exact f11 k _ hkm) | (rw [hmv]; rfl))) (by decide) (Nat.le_refl _) rfl (by first | assumption | rfl | omega) rfl (by first | assumption | rfl | omega) (Nat.le_of_ble_eq_true rfl) dX11_playNow_132 (fun v132 I132 h132 => ?_)
                obtain ⟨e132, h132, g132⟩ := h132
                refine g_iret C hR (pc := 135) rfl dX11_playNow_135 ?_
                refine ⟨rfl, _, rfl, ?_⟩
                refine Or.inr ⟨w, mv, ⟨hw, hxw, hsel⟩, Or.inr (Or.inr ⟨hov, hlt, e132, h132, ?_, fun z9 h9 => ?_, fun i h1 h2 h3 h4 h5 h6 => ?_⟩)⟩
                · rw [g132 1 (by decide) (by decide) (by decide) (by decide), wr_ss, hT11, nI_1]
                · rw [g132 1 (by decide) (by decide) (by decide) (by decide), wr_sn h9, g11 1 (by decide)]
                · rw [g132 i h3 h4 h5 h6, wr_n h1, g11 i h2]
              · have hge : 999 ≤ t := by
                  rw [hT11, show (999 : Int32) = nI 999 from rfl, nI_leI (by decide) (by omega)] at c80
                  exact c80
                refine g_bipush C (pc := 83) (-3) dX11_playNow_83 (by decide) ?_
                refine g_iret C hR (pc := 85) rfl dX11_playNow_85 ?_
                refine ⟨rfl, _, rfl, ?_⟩
                exact Or.inr ⟨w, mv, ⟨hw, hxw, hsel⟩, Or.inr (Or.inl ⟨hov, hge, rfl, g11⟩)⟩
            · have hov : ¬ lostB F b = none := bI_1.mp (fun h => c64 (e61.trans h))
              refine g_bipush C (pc := 67) (-2) dX11_playNow_67 (by decide) ?_
              refine g_iret C hR (pc := 69) rfl dX11_playNow_69 ?_
              refine ⟨rfl, _, rfl, ?_⟩
              exact Or.inr ⟨w, mv, ⟨hw, hxw, hsel⟩, Or.inl ⟨hov, rfl, g11⟩⟩
      · obtain ⟨k, hk, hzk⟩ := ix_of (x := z) (n := (mvs F b w).length) (by omega) ⟨c16, by rw [← e11, ← ev14]; exact c21⟩
        have hkm := List.getElem?_eq_getElem hk
        obtain ⟨mv, hmv⟩ : ∃ mv, mv = some (mvs F b w)[k] := ⟨_, rfl⟩
        have hsel : MvS F b w z mv := Or.inl ⟨k, _, hzk, hkm, hmv⟩
        have hmv9 : ∀ m, mv = some m → m / 100 < rN F ∧ m % 100 < 25 := by
          intro m h9
          rw [hmv] at h9; cases h9
          exact ⟨(mvs_ok hkm).1, (mvs_ok hkm).2.1⟩
        refine g_iconst C (pc := 24) 1 dX11_playNow_24 (by decide) ?_
        refine g_goto C (pc := 25) 29 dX11_playNow_25 (by decide) ?_
        refine g_istore C (pc := 29) dX11_playNow_29 (by decide) (fun v29 => [(4, .int v29), (3, .int v14), (0, .ref 0), (1, .int x), (2, .int z)]) (fun _ => rfl) (fun v29 ev29 => ?_)
        refine g_iload_n C (pc := 31) dX11_playNow_31 4 rfl ?_
        refine g_bipush C (pc := 32) (-4) dX11_playNow_32 (by decide) ?_
        refine g_icmp_ne C (pc := 34) 45 dX11_playNow_34 (by decide) (fun c34 => ?_) (fun c34 => ?_)
        · refine g_iconst C (pc := 45) 0 dX11_playNow_45 (by decide) ?_
          refine g_istore C (pc := 46) dX11_playNow_46 (by decide) (fun v46 => [(5, .int v46), (4, .int v29), (3, .int v14), (0, .ref 0), (1, .int x), (2, .int z)]) (fun _ => rfl) (fun v46 ev46 => ?_)
          refine g_iload C (pc := 48) dX11_playNow_48 1 rfl ?_
          refine g_if_ne C (pc := 50) 60 dX11_playNow_50 (by decide) (fun c50 => ?_) (fun c50 => absurd c50 (by first | decide | (subst_vars; decide)))
          refine g_aload_n C (pc := 60) dX11_playNow_60 3 rfl ?_
          refine g_callVI C (pc := 61) mf_X11_isOver lk_RX11_226 (c_X11_isOver n ρ I11 F b hn9 hxs hrr11 hrw hbr11 hbw) (by decide) (Nat.le_refl _) rfl (by first | assumption | rfl | omega) rfl (by first | assumption | rfl | omega) (Nat.le_of_ble_eq_true rfl) dX11_playNow_61 (fun v61 I61 h61 => ?_)
          obtain ⟨e61, rfl⟩ := h61
          refine g_if_eq C (pc := 64) 70 dX11_playNow_64 (by decide) (fun c64 => ?_) (fun c64 => ?_)
          · have hov : lostB F b = none := Decidable.not_not.mp (bI_0.mp (e61.symm.trans c64))
            refine g_aload_n C (pc := 70) dX11_playNow_70 3 rfl ?_
            refine g_getR C (pc := 71) fl_RX11_10 (by decide) (by first | assumption | rfl | omega) (by first | assumption | rfl | omega) (by first | assumption | rfl | omega) dX11_playNow_71 ?_
            refine g_getI C (pc := 74) fl_RX11_128 (by decide) (by first | assumption | rfl | omega) (by first | assumption | rfl | omega) dX11_playNow_74 ?_
            refine g_sipush C (pc := 77) 999 dX11_playNow_77 (by decide) ?_
            refine g_icmp_lt C (pc := 80) 86 dX11_playNow_80 (by decide) (fun c80 => ?_) (fun c80 => ?_)
            · have hlt : t < 999 := by
                rw [hT11, show (999 : Int32) = nI 999 from rfl, nI_ltI (by omega) (by decide)] at c80
                exact c80
              refine g_aload_n C (pc := 86) dX11_playNow_86 3 rfl ?_
              refine g_getR C (pc := 87) fl_RX11_10 (by decide) (by first | assumption | rfl | omega) (by first | assumption | rfl | omega) (by first | assumption | rfl | omega) dX11_playNow_87 ?_
              refine g_dup C (pc := 90) dX11_playNow_90 rfl ?_
              refine g_getI C (pc := 91) fl_RX11_128 (by decide) (by first | assumption | rfl | omega) (by first | assumption | rfl | omega) dX11_playNow_91 ?_
              refine g_iconst C (pc := 94) 1 dX11_playNow_94 (by decide) ?_
              refine g_iadd C (pc := 95) dX11_playNow_95 ?_
              refine g_putI C (pc := 96) fl_RX11_128 (by decide) fp_2_5 (Or.inl rfl) ⟨rfl, rfl⟩ (by first | assumption | rfl | omega) (by first | assumption | rfl | omega) hn9 dX11_playNow_96 ?_
              refine g_aload_n C (pc := 99) dX11_playNow_99 3 rfl ?_
              refine g_getR C (pc := 100) fl_RX11_10 (by decide) (by first | assumption | rfl | omega) (by first | assumption | rfl | omega) (by first | assumption | rfl | omega) dX11_playNow_100 ?_
              refine g_getR C (pc := 103) fl_RX11_122 (by decide) (by first | assumption | rfl | omega) (by first | assumption | rfl | omega) (by first | assumption | rfl | omega) dX11_playNow_103 ?_
              refine g_aload_n C (pc := 106) dX11_playNow_106 3 rfl ?_
              refine g_getR C (pc := 107) fl_RX11_10 (by decide) (by first | assumption | rfl | omega) (by first | assumption | rfl | omega) (by first | assumption | rfl | omega) dX11_playNow_107 ?_
              refine g_getR C (pc := 110) fl_RX11_104 (by decide) (by first | assumption | rfl | omega) (by first | assumption | rfl | omega) (by first | assumption | rfl | omega) dX11_playNow_110 ?_
              rw [hxw]
              refine g_iload_n C (pc := 113) dX11_playNow_113 4 rfl ?_
              refine g_iload C (pc := 114) dX11_playNow_114 1 rfl ?_
              refine g_if_eq C (pc := 116) 130 dX11_playNow_116 (by decide) (fun c116 => absurd c116 (by first | decide | (subst_vars; decide))) (fun c116 => ?_)
              refine g_aload_n C (pc := 119) dX11_playNow_119 3 rfl ?_
              refine g_getR C (pc := 120) fl_RX11_35 (by decide) (by first | assumption | rfl | omega) (by first | assumption | rfl | omega) (by first | assumption | rfl | omega) dX11_playNow_120 ?_
              refine g_iload_n C (pc := 123) dX11_playNow_123 5 rfl ?_
              refine g_callVI C (pc := 124) mf_X9_moveAt lk_RX11_193 (c_X9_moveAt n ρ _ 47 k z hn9 hsp (by omega) hzk) (by decide) (Nat.le_refl _) rfl (by first | assumption | rfl | omega) rfl (by first | assumption | rfl | omega) (Nat.le_of_ble_eq_true rfl) dX11_playNow_124 (fun v124 I124 h124 => ?_)
              obtain ⟨e124, rfl⟩ := h124
              refine g_goto C (pc := 127) 132 dX11_playNow_127 (by decide) ?_
              refine g_callVI C (pc := 132) mf_X8_play lk_RX11_304 (c_X8_play n ρ _ (1 + 5) (1 + 1) w F b mv _ hn9 hst hrf (hrr11.cong (fun i hi => by rw [wr_n (by omega)])) hrw (hbr11.cong (fun i hi => by rw [wr_n (by omega)])) hbw (fun i k h1 h2 => by omega) hw hmv9 (by first | (rw [e124, wr_n (by decide), hmv]; exact f11 k _ hkm) | (rw [hmv]; rfl))) (by decide) (Nat.le_refl _) rfl (by first | assumption | rfl | omega) rfl (by first | assumption | rfl | omega) (Nat.le_of_ble_eq_true rfl) dX11_playNow_132 (fun v132 I132 h132 => ?_)
              obtain ⟨e132, h132, g132⟩ := h132
              refine g_iret C hR (pc := 135) rfl dX11_playNow_135 ?_
              refine ⟨rfl, _, rfl, ?_⟩
              refine Or.inr ⟨w, mv, ⟨hw, hxw, hsel⟩, Or.inr (Or.inr ⟨hov, hlt, e132, h132, ?_, fun z9 h9 => ?_, fun i h1 h2 h3 h4 h5 h6 => ?_⟩)⟩
              · rw [g132 1 (by decide) (by decide) (by decide) (by decide), wr_ss, hT11, nI_1]
              · rw [g132 1 (by decide) (by decide) (by decide) (by decide), wr_sn h9, g11 1 (by decide)]
              · rw [g132 i h3 h4 h5 h6, wr_n h1, g11 i h2]
            · have hge : 999 ≤ t := by
                rw [hT11, show (999 : Int32) = nI 999 from rfl, nI_leI (by decide) (by omega)] at c80
                exact c80
              refine g_bipush C (pc := 83) (-3) dX11_playNow_83 (by decide) ?_
              refine g_iret C hR (pc := 85) rfl dX11_playNow_85 ?_
              refine ⟨rfl, _, rfl, ?_⟩
              exact Or.inr ⟨w, mv, ⟨hw, hxw, hsel⟩, Or.inr (Or.inl ⟨hov, hge, rfl, g11⟩)⟩
          · have hov : ¬ lostB F b = none := bI_1.mp (fun h => c64 (e61.trans h))
            refine g_bipush C (pc := 67) (-2) dX11_playNow_67 (by decide) ?_
            refine g_iret C hR (pc := 69) rfl dX11_playNow_69 ?_
            refine ⟨rfl, _, rfl, ?_⟩
            exact Or.inr ⟨w, mv, ⟨hw, hxw, hsel⟩, Or.inl ⟨hov, rfl, g11⟩⟩
        · have hz4 : z = -4 := c34
          refine g_iload_n C (pc := 37) dX11_playNow_37 1 rfl ?_
          refine g_if_ne C (pc := 38) 45 dX11_playNow_38 (by decide) (fun c38 => ?_) (fun c38 => ?_)
          · have hl0 : ¬ (mvs F b w).length = 0 := fun h9 => c38 (by rw [ev14, e11, h9]; rfl)
            refine g_iconst C (pc := 45) 0 dX11_playNow_45 (by decide) ?_
            refine g_istore C (pc := 46) dX11_playNow_46 (by decide) (fun v46 => [(5, .int v46), (4, .int v29), (3, .int v14), (0, .ref 0), (1, .int x), (2, .int z)]) (fun _ => rfl) (fun v46 ev46 => ?_)
            refine g_iload C (pc := 48) dX11_playNow_48 1 rfl ?_
            refine g_if_ne C (pc := 50) 60 dX11_playNow_50 (by decide) (fun c50 => ?_) (fun c50 => absurd c50 (by first | decide | (subst_vars; decide)))
            refine g_aload_n C (pc := 60) dX11_playNow_60 3 rfl ?_
            refine g_callVI C (pc := 61) mf_X11_isOver lk_RX11_226 (c_X11_isOver n ρ I11 F b hn9 hxs hrr11 hrw hbr11 hbw) (by decide) (Nat.le_refl _) rfl (by first | assumption | rfl | omega) rfl (by first | assumption | rfl | omega) (Nat.le_of_ble_eq_true rfl) dX11_playNow_61 (fun v61 I61 h61 => ?_)
            obtain ⟨e61, rfl⟩ := h61
            refine g_if_eq C (pc := 64) 70 dX11_playNow_64 (by decide) (fun c64 => ?_) (fun c64 => ?_)
            · have hov : lostB F b = none := Decidable.not_not.mp (bI_0.mp (e61.symm.trans c64))
              refine g_aload_n C (pc := 70) dX11_playNow_70 3 rfl ?_
              refine g_getR C (pc := 71) fl_RX11_10 (by decide) (by first | assumption | rfl | omega) (by first | assumption | rfl | omega) (by first | assumption | rfl | omega) dX11_playNow_71 ?_
              refine g_getI C (pc := 74) fl_RX11_128 (by decide) (by first | assumption | rfl | omega) (by first | assumption | rfl | omega) dX11_playNow_74 ?_
              refine g_sipush C (pc := 77) 999 dX11_playNow_77 (by decide) ?_
              refine g_icmp_lt C (pc := 80) 86 dX11_playNow_80 (by decide) (fun c80 => ?_) (fun c80 => ?_)
              · have hlt : t < 999 := by
                  rw [hT11, show (999 : Int32) = nI 999 from rfl, nI_ltI (by omega) (by decide)] at c80
                  exact c80
                refine g_aload_n C (pc := 86) dX11_playNow_86 3 rfl ?_
                refine g_getR C (pc := 87) fl_RX11_10 (by decide) (by first | assumption | rfl | omega) (by first | assumption | rfl | omega) (by first | assumption | rfl | omega) dX11_playNow_87 ?_
                refine g_dup C (pc := 90) dX11_playNow_90 rfl ?_
                refine g_getI C (pc := 91) fl_RX11_128 (by decide) (by first | assumption | rfl | omega) (by first | assumption | rfl | omega) dX11_playNow_91 ?_
                refine g_iconst C (pc := 94) 1 dX11_playNow_94 (by decide) ?_
                refine g_iadd C (pc := 95) dX11_playNow_95 ?_
                refine g_putI C (pc := 96) fl_RX11_128 (by decide) fp_2_5 (Or.inl rfl) ⟨rfl, rfl⟩ (by first | assumption | rfl | omega) (by first | assumption | rfl | omega) hn9 dX11_playNow_96 ?_
                refine g_aload_n C (pc := 99) dX11_playNow_99 3 rfl ?_
                refine g_getR C (pc := 100) fl_RX11_10 (by decide) (by first | assumption | rfl | omega) (by first | assumption | rfl | omega) (by first | assumption | rfl | omega) dX11_playNow_100 ?_
                refine g_getR C (pc := 103) fl_RX11_122 (by decide) (by first | assumption | rfl | omega) (by first | assumption | rfl | omega) (by first | assumption | rfl | omega) dX11_playNow_103 ?_
                refine g_aload_n C (pc := 106) dX11_playNow_106 3 rfl ?_
                refine g_getR C (pc := 107) fl_RX11_10 (by decide) (by first | assumption | rfl | omega) (by first | assumption | rfl | omega) (by first | assumption | rfl | omega) dX11_playNow_107 ?_
                refine g_getR C (pc := 110) fl_RX11_104 (by decide) (by first | assumption | rfl | omega) (by first | assumption | rfl | omega) (by first | assumption | rfl | omega) dX11_playNow_110 ?_
                rw [hxw]
                refine g_iload_n C (pc := 113) dX11_playNow_113 4 rfl ?_
                refine g_iload C (pc := 114) dX11_playNow_114 1 rfl ?_
                refine g_if_eq C (pc := 116) 130 dX11_playNow_116 (by decide) (fun c116 => absurd c116 (by first | decide | (subst_vars; decide))) (fun c116 => ?_)
                refine g_aload_n C (pc := 119) dX11_playNow_119 3 rfl ?_
                refine g_getR C (pc := 120) fl_RX11_35 (by decide) (by first | assumption | rfl | omega) (by first | assumption | rfl | omega) (by first | assumption | rfl | omega) dX11_playNow_120 ?_
                refine g_iload_n C (pc := 123) dX11_playNow_123 5 rfl ?_
                refine g_callVI C (pc := 124) mf_X9_moveAt lk_RX11_193 (c_X9_moveAt n ρ _ 47 k z hn9 hsp (by omega) hzk) (by decide) (Nat.le_refl _) rfl (by first | assumption | rfl | omega) rfl (by first | assumption | rfl | omega) (Nat.le_of_ble_eq_true rfl) dX11_playNow_124 (fun v124 I124 h124 => ?_)
                obtain ⟨e124, rfl⟩ := h124
                refine g_goto C (pc := 127) 132 dX11_playNow_127 (by decide) ?_
                refine g_callVI C (pc := 132) mf_X8_play lk_RX11_304 (c_X8_play n ρ _ (1 + 5) (1 + 1) w F b mv _ hn9 hst hrf (hrr11.cong (fun i hi => by rw [wr_n (by omega)])) hrw (hbr11.cong (fun i hi => by rw [wr_n (by omega)])) hbw (fun i k h1 h2 => by omega) hw hmv9 (by first | (rw [e124, wr_n (by decide), hmv]; exact f11 k _ hkm) | (rw [hmv]; rfl))) (by decide) (Nat.le_refl _) rfl (by first | assumption | rfl | omega) rfl (by first | assumption | rfl | omega) (Nat.le_of_ble_eq_true rfl) dX11_playNow_132 (fun v132 I132 h132 => ?_)
                obtain ⟨e132, h132, g132⟩ := h132
                refine g_iret C hR (pc := 135) rfl dX11_playNow_135 ?_
                refine ⟨rfl, _, rfl, ?_⟩
                refine Or.inr ⟨w, mv, ⟨hw, hxw, hsel⟩, Or.inr (Or.inr ⟨hov, hlt, e132, h132, ?_, fun z9 h9 => ?_, fun i h1 h2 h3 h4 h5 h6 => ?_⟩)⟩
                · rw [g132 1 (by decide) (by decide) (by decide) (by decide), wr_ss, hT11, nI_1]
                · rw [g132 1 (by decide) (by decide) (by decide) (by decide), wr_sn h9, g11 1 (by decide)]
                · rw [g132 i h3 h4 h5 h6, wr_n h1, g11 i h2]
              · have hge : 999 ≤ t := by
                  rw [hT11, show (999 : Int32) = nI 999 from rfl, nI_leI (by decide) (by omega)] at c80
                  exact c80
                refine g_bipush C (pc := 83) (-3) dX11_playNow_83 (by decide) ?_
                refine g_iret C hR (pc := 85) rfl dX11_playNow_85 ?_
                refine ⟨rfl, _, rfl, ?_⟩
                exact Or.inr ⟨w, mv, ⟨hw, hxw, hsel⟩, Or.inr (Or.inl ⟨hov, hge, rfl, g11⟩)⟩
            · have hov : ¬ lostB F b = none := bI_1.mp (fun h => c64 (e61.trans h))
              refine g_bipush C (pc := 67) (-2) dX11_playNow_67 (by decide) ?_
              refine g_iret C hR (pc := 69) rfl dX11_playNow_69 ?_
              refine ⟨rfl, _, rfl, ?_⟩
              exact Or.inr ⟨w, mv, ⟨hw, hxw, hsel⟩, Or.inl ⟨hov, rfl, g11⟩⟩
          · exfalso; rw [ev14, e11] at c38; have := (nI_eq (b := 0) (by omega) (by decide)).mp c38; omega
  · have hx := bI_0.mp (e1.symm.trans c4)
    refine g_iconst C (pc := 7) (-1) dX11_playNow_7 (by decide) ?_
    refine g_iret C hR (pc := 8) rfl dX11_playNow_8 ?_
    refine ⟨rfl, _, rfl, ?_⟩
    exact Or.inl ⟨fun ⟨w9, mv9, h1, h2, h3⟩ => hx (by rw [h2]; exact ⟨nI_pos' (by omega), nI_lt (b := 5) h1 (by decide)⟩), rfl, fun _ _ => rfl⟩
set_option maxHeartbeats 400000 in
theorem c_X11_go (n : Nat) (ρ : Rho) (I : Mem) (F : RT) (b : BT) (t : Nat) (x z : Int32) (hn9 : n ≤ 999) (hxs : XS n ρ) (hrr : RR I (1 + 1) F) (hrw : RW F) (hbr : BR I (1 + 5) F b) (hbw : BW F b) (hT : I 1 5 = nI t) (ht9 : t ≤ 999) : MI yX11_go cX11_go 3 (some .int) 6 [.ref 0, .int x, .int z] n ρ I (fun v I1 => (¬ (∃ w mv, (w < 5 ∧ x = nI w ∧ MvS F b w z mv)) ∧ v = -1 ∧ ∀ i, i ≠ 52 → I1 i = I i) ∨ (∃ w mv, (w < 5 ∧ x = nI w ∧ MvS F b w z mv) ∧ ((¬ lostB F b = none ∧ v = -2 ∧ ∀ i, i ≠ 52 → I1 i = I i) ∨ (lostB F b = none ∧ 999 ≤ t ∧ v = -3 ∧ ∀ i, i ≠ 52 → I1 i = I i) ∨ (lostB F b = none ∧ t < 999 ∧ v = oI (mv.bind (fun m => pon F b (m % 100))) ∧ BR I1 (1 + 5) F (playB F b w mv) ∧ I1 1 5 = nI (t + 1) ∧ (∀ z, z ≠ 5 → I1 1 z = I 1 z) ∧ ∀ i, i ≠ 1 → i ≠ 52 → i ≠ 6 → i ≠ 7 → i ≠ 8 → i ≠ 9 → I1 i = I i)))) := by
  refine MG.of (by decide +kernel) (Nat.le_of_ble_eq_true rfl) hn9 ?_
  intro κ C hR
  show G κ n ρ 0 [(0, .ref 0), (1, .int x), (2, .int z)] [] I
  obtain ⟨hxc, ⟨xb1, xb2, xb3, xb4, xb5, xb6, xb8⟩, ⟨xi0, xi1, xga, xgb⟩, ⟨xt0, xt1, xgd⟩, hch, ⟨xr0, xr1, xr2⟩, xa0, ⟨xw0, xw1⟩, xst⟩ := id hxs
  obtain ⟨xc0, xcn, xc1, hga, xc7, hss⟩ := id hxc
  have xcz : 0 < n := by omega
  obtain ⟨ga0, ga1, ga2, ga3, ga4, ga5, ga6, ga7, ga8, gan, hrf, hst⟩ := id hga
  have hrf0 := hrf.1
  have hst0 := hst.1
  have hsp := hch.sp
  obtain ⟨hp0, hpn, hp1, hp2, hp3, hp4⟩ := id hsp
  have hnp : rN F ≤ 6 := hrw.2.2.2.2.1
  have hN := hrr.2.2.1
  refine g_aload_n C (pc := 0) dX11_go_0 0 rfl ?_
  refine g_iload_n C (pc := 1) dX11_go_1 1 rfl ?_
  refine g_iload_n C (pc := 2) dX11_go_2 2 rfl ?_
  refine g_callVI C (pc := 3) mf_X11_playNow lk_RX11_198 (c_X11_playNow n ρ I F b t x z hn9 hxs hrr hrw hbr hbw hT ht9) (by decide) (Nat.le_refl _) rfl (by first | assumption | rfl | omega) rfl (by first | assumption | rfl | omega) (Nat.le_of_ble_eq_true rfl) dX11_go_3 (fun v3 I3 h3 => ?_)
  obtain h3 := h3
  refine g_iret C hR (pc := 6) rfl dX11_go_6 ?_
  refine ⟨rfl, _, rfl, ?_⟩
  exact h3
set_option maxHeartbeats 400000 in
theorem c_X11_chance (n : Nat) (ρ : Rho) (I : Mem) (F : RT) (b : BT) (x z u : Int32) (hn9 : n ≤ 999) (hxs : XS n ρ) (hrr : RR I (1 + 1) F) (hrw : RW F) (hbr : BR I (1 + 5) F b) (hbw : BW F b) (hkw : KW F) (hao : 0 < allO F) : ML yX11_chance cX11_chance 6 (some .long) 17 [.ref 0, .int x, .int z, .int u] n ρ I (fun v I1 => ((∃ s k, (s < 2 ∧ k ≤ 3 ∧ x = nI s ∧ z = nI k ∧ (u = 0 ∨ u = 1)) ∧ v = lN (frN (val F s k b) (pw (allO F) k) u)) ∨ (¬ (∃ s k, (s < 2 ∧ k ≤ 3 ∧ x = nI s ∧ z = nI k ∧ (u = 0 ∨ u = 1))) ∧ v = -1)) ∧ ∀ i, ¬ (29 ≤ i ∧ i ≤ 52) → I1 i = I i) := by
  refine MG.of (by decide +kernel) (Nat.le_of_ble_eq_true rfl) hn9 ?_
  intro κ C hR
  show G κ n ρ 0 [(0, .ref 0), (1, .int x), (2, .int z), (3, .int u)] [] I
  obtain ⟨hxc, ⟨xb1, xb2, xb3, xb4, xb5, xb6, xb8⟩, ⟨xi0, xi1, xga, xgb⟩, ⟨xt0, xt1, xgd⟩, hch, ⟨xr0, xr1, xr2⟩, xa0, ⟨xw0, xw1⟩, xst⟩ := id hxs
  obtain ⟨xc0, xcn, xc1, hga, xc7, hss⟩ := id hxc
  have xcz : 0 < n := by omega
  obtain ⟨ga0, ga1, ga2, ga3, ga4, ga5, ga6, ga7, ga8, gan, hrf, hst⟩ := id hga
  have hrf0 := hrf.1
  have hst0 := hst.1
  have hsp := hch.sp
  obtain ⟨hp0, hpn, hp1, hp2, hp3, hp4⟩ := id hsp
  have hnp : rN F ≤ 6 := hrw.2.2.2.2.1
  have hN := hrr.2.2.1
  have hAO := allO_le hrw
  refine g_iload_n C (pc := 0) dX11_chance_0 1 rfl ?_
  refine g_callSI C (pc := 1) mf_X11_isSide lk_RX11_187 (c_X11_isSide n ρ I x hn9) (by decide) (Nat.le_refl _) rfl (Nat.le_of_ble_eq_true rfl) dX11_chance_1 (fun v1 I1 h1 => ?_)
  obtain ⟨e1, rfl⟩ := h1
  refine g_if_eq C (pc := 4) 21 dX11_chance_4 (by decide) (fun c4 => ?_) (fun c4 => ?_)
  · have hx := bI_0.mp (e1.symm.trans c4)
    refine g_ldc2 C (pc := 21) _ gk_RX11_208 dX11_chance_21 ?_
    refine g_lret C hR (pc := 24) rfl dX11_chance_24 ?_
    refine ⟨rfl, _, rfl, ?_⟩
    refine ⟨Or.inr ⟨?_, rfl⟩, fun _ _ => rfl⟩
    rintro ⟨s9, k9, h1, h2, h3, h4, h5⟩
    first | exact hx (by rw [h3]; exact ⟨nI_pos' (by omega), nI_lt (b := 2) h1 (by decide)⟩) | exact hz0 (by rw [h4]; exact ⟨nI_pos' (by omega), (nI_leI (b := 3) (by omega) (by decide)).mpr h2⟩) | exact hu h5
  · have hx := bI_1.mp (fun h => c4 (e1.trans h))
    obtain ⟨s, hs, hxs9⟩ := ix_of (n := 2) (by decide) hx
    refine g_iload_n C (pc := 7) dX11_chance_7 2 rfl ?_
    refine g_callSI C (pc := 8) mf_X11_isAhead lk_RX11_202 (c_X11_isAhead n ρ I z hn9) (by decide) (Nat.le_refl _) rfl (Nat.le_of_ble_eq_true rfl) dX11_chance_8 (fun v8 I8 h8 => ?_)
    obtain ⟨e8, rfl⟩ := h8
    refine g_if_eq C (pc := 11) 21 dX11_chance_11 (by decide) (fun c11 => ?_) (fun c11 => ?_)
    · have hz0 := bI_0.mp (e8.symm.trans c11)
      refine g_ldc2 C (pc := 21) _ gk_RX11_208 dX11_chance_21 ?_
      refine g_lret C hR (pc := 24) rfl dX11_chance_24 ?_
      refine ⟨rfl, _, rfl, ?_⟩
      refine ⟨Or.inr ⟨?_, rfl⟩, fun _ _ => rfl⟩
      rintro ⟨s9, k9, h1, h2, h3, h4, h5⟩
      first | exact hx (by rw [h3]; exact ⟨nI_pos' (by omega), nI_lt (b := 2) h1 (by decide)⟩) | exact hz0 (by rw [h4]; exact ⟨nI_pos' (by omega), (nI_leI (b := 3) (by omega) (by decide)).mpr h2⟩) | exact hu h5
    · have hz0 := bI_1.mp (fun h => c11 (e8.trans h))
      obtain ⟨k, hk, hzk⟩ := ix_of (x := z) (n := 4) (by decide) ⟨hz0.1, lt4 hz0.2⟩
      refine g_iload_n C (pc := 14) dX11_chance_14 3 rfl ?_
      refine g_callSI C (pc := 15) mf_X11_isPart lk_RX11_205 (c_X11_isPart n ρ I u hn9) (by decide) (Nat.le_refl _) rfl (Nat.le_of_ble_eq_true rfl) dX11_chance_15 (fun v15 I15 h15 => ?_)
      obtain ⟨e15, rfl⟩ := h15
      refine g_if_ne C (pc := 18) 25 dX11_chance_18 (by decide) (fun c18 => ?_) (fun c18 => ?_)
      · have hu := bI_1.mp (fun h => c18 (e15.trans h))
        refine g_aload_n C (pc := 25) dX11_chance_25 0 rfl ?_
        refine g_getR C (pc := 26) fl_RX11_35 (by decide) (by first | assumption | rfl | omega) (by first | assumption | rfl | omega) (by first | assumption | rfl | omega) dX11_chance_26 ?_
        refine g_getR C (pc := 29) fl_RX11_210 (by decide) (by first | assumption | rfl | omega) (by first | assumption | rfl | omega) (by first | assumption | rfl | omega) dX11_chance_29 ?_
        refine g_aload_n C (pc := 32) dX11_chance_32 0 rfl ?_
        refine g_getR C (pc := 33) fl_RX11_10 (by decide) (by first | assumption | rfl | omega) (by first | assumption | rfl | omega) (by first | assumption | rfl | omega) dX11_chance_33 ?_
        refine g_getR C (pc := 36) fl_RX11_122 (by decide) (by first | assumption | rfl | omega) (by first | assumption | rfl | omega) (by first | assumption | rfl | omega) dX11_chance_36 ?_
        refine g_callVV C (pc := 39) mf_X8_copyFrom lk_RX11_211 (c_X8_copyFrom n ρ I (47 + 1) (1 + 5) hn9 hp4 hst (fun i k h1 h2 => by omega)) (by decide) (Nat.le_refl _) rfl (by first | assumption | rfl | omega) rfl (by first | assumption | rfl | omega) (Nat.le_of_ble_eq_true rfl) dX11_chance_39 (fun I39 h39 => ?_)
        obtain ⟨a39, b39, d39, f39, g39⟩ := h39
        have hR39 : RR I39 (1 + 1) F := hrr.cong (fun i hi => g39 _ (by omega) (by omega) (by omega) (by omega))
        have hp3k := pw3 hAO (show k ≤ 3 by omega)
        refine g_aload_n C (pc := 42) dX11_chance_42 0 rfl ?_
        refine g_getR C (pc := 43) fl_RX11_10 (by decide) (by first | assumption | rfl | omega) (by first | assumption | rfl | omega) (by first | assumption | rfl | omega) dX11_chance_43 ?_
        refine g_getR C (pc := 46) fl_RX11_104 (by decide) (by first | assumption | rfl | omega) (by first | assumption | rfl | omega) (by first | assumption | rfl | omega) dX11_chance_46 ?_
        refine g_iload_n C (pc := 49) dX11_chance_49 1 rfl ?_
        refine g_aload_n C (pc := 50) dX11_chance_50 0 rfl ?_
        refine g_getR C (pc := 51) fl_RX11_35 (by decide) (by first | assumption | rfl | omega) (by first | assumption | rfl | omega) (by first | assumption | rfl | omega) dX11_chance_51 ?_
        refine g_iload_n C (pc := 54) dX11_chance_54 2 rfl ?_
        refine g_callSL C (pc := 55) mf_X11_likely lk_RX11_214 (lik_all k n ρ I39 (1 + 1) 47 s F b _ _ hn9 hrf (hch.of3 (by omega)) hR39 hrw hkw (hbr.copy hrw a39 b39 d39 f39) hbw hs (by omega) (by omega) hxs9 hzk) (by omega) (Nat.le_refl _) rfl (Nat.le_of_ble_eq_true rfl) dX11_chance_55 (fun v55 I55 h55 => ?_)
        obtain ⟨e55, g55⟩ := h55
        have hR55 : RR I55 (1 + 1) F := hR39.cong (fun i hi => g55 _ (by unfold Sc; omega))
        refine g_lstore C (pc := 58) dX11_chance_58 (by decide) (fun v58 => [(4, .long v58), (0, .ref 0), (1, .int x), (2, .int z), (3, .int u)]) (fun _ => rfl) (fun v58 ev58 => ?_)
        refine g_lload C (pc := 60) dX11_chance_60 0 rfl ?_
        refine g_aload_n C (pc := 62) dX11_chance_62 1 rfl ?_
        refine g_getR C (pc := 63) fl_RX11_10 (by decide) (by first | assumption | rfl | omega) (by first | assumption | rfl | omega) (by first | assumption | rfl | omega) dX11_chance_63 ?_
        refine g_getR C (pc := 66) fl_RX11_104 (by decide) (by first | assumption | rfl | omega) (by first | assumption | rfl | omega) (by first | assumption | rfl | omega) dX11_chance_66 ?_
        refine g_callVI C (pc := 69) mf_X5_allOdds lk_RX11_180 (c_X5_allOdds n ρ I55 (1 + 1) F hn9 hrf hR55) (by decide) (Nat.le_refl _) rfl (by first | assumption | rfl | omega) rfl (by first | assumption | rfl | omega) (Nat.le_of_ble_eq_true rfl) dX11_chance_69 (fun v69 I69 h69 => ?_)
        obtain ⟨e69, rfl⟩ := h69
        refine g_iload_n C (pc := 72) dX11_chance_72 3 rfl ?_
        refine g_callSL C (pc := 73) mf_X11_power lk_RX11_218 (c_X11_power n ρ I55 (allO F) k _ _ hn9 (by omega) (by omega) e69 hzk) (by decide) (Nat.le_refl _) rfl (Nat.le_of_ble_eq_true rfl) dX11_chance_73 (fun v73 I73 h73 => ?_)
        obtain ⟨e73, rfl⟩ := h73
        refine g_iload_n C (pc := 76) dX11_chance_76 4 rfl ?_
        refine g_callSL C (pc := 77) mf_X11_part lk_RX11_222 (c_X11_part n ρ I55 (val F s k b) (pw (allO F) k) _ _ u hn9 (ev58.trans e55) e73 (Nat.le_trans (val_le k b) hp3k) hp3k (pw_pos hao k)) (by decide) (Nat.le_refl _) rfl (Nat.le_of_ble_eq_true rfl) dX11_chance_77 (fun v77 I77 h77 => ?_)
        obtain ⟨e77, rfl⟩ := h77
        refine g_lret C hR (pc := 80) rfl dX11_chance_80 ?_
        refine ⟨rfl, _, rfl, ?_⟩
        refine ⟨Or.inl ⟨s, k, ⟨hs, by omega, hxs9, hzk, hu⟩, e77⟩, fun i hi => ?_⟩
        rw [g55 i (fun e9 => hi (by unfold Sc at e9; omega)), g39 i (by omega) (by omega) (by omega) (by omega)]
      · have hu := bI_0.mp (e15.symm.trans c18)
        refine g_ldc2 C (pc := 21) _ gk_RX11_208 dX11_chance_21 ?_
        refine g_lret C hR (pc := 24) rfl dX11_chance_24 ?_
        refine ⟨rfl, _, rfl, ?_⟩
        refine ⟨Or.inr ⟨?_, rfl⟩, fun _ _ => rfl⟩
        rintro ⟨s9, k9, h1, h2, h3, h4, h5⟩
        first | exact hx (by rw [h3]; exact ⟨nI_pos' (by omega), nI_lt (b := 2) h1 (by decide)⟩) | exact hz0 (by rw [h4]; exact ⟨nI_pos' (by omega), (nI_leI (b := 3) (by omega) (by decide)).mpr h2⟩) | exact hu h5
set_option maxHeartbeats 400000 in
theorem c_X11_byWind (n : Nat) (ρ : Rho) (I : Mem) (F : RT) (b : BT) (x z u : Int32) (hn9 : n ≤ 999) (hxs : XS n ρ) (hrr : RR I (1 + 1) F) (hrw : RW F) (hbr : BR I (1 + 5) F b) (hbw : BW F b) (hkw : KW F) (hao : 0 < allO F) : ML yX11_byWind cX11_byWind 4 (some .long) 17 [.ref 0, .int x, .int z, .int u] n ρ I (fun v I1 => ((∃ w k, (w < 5 ∧ 1 ≤ k ∧ k ≤ 3 ∧ x = nI w ∧ z = nI k ∧ (u = 0 ∨ u = 1)) ∧ ((lostB F b = none ∧ v = lN (frN (valW F (bM b) (k - 1) b w) (pw (allO F) (k - 1)) u)) ∨ (¬ lostB F b = none ∧ v = -2))) ∨ (¬ (∃ w k, (w < 5 ∧ 1 ≤ k ∧ k ≤ 3 ∧ x = nI w ∧ z = nI k ∧ (u = 0 ∨ u = 1))) ∧ v = -1)) ∧ ∀ i, ¬ (29 ≤ i ∧ i ≤ 52) → I1 i = I i) := by
  refine MG.of (by decide +kernel) (Nat.le_of_ble_eq_true rfl) hn9 ?_
  intro κ C hR
  show G κ n ρ 0 [(0, .ref 0), (1, .int x), (2, .int z), (3, .int u)] [] I
  obtain ⟨hxc, ⟨xb1, xb2, xb3, xb4, xb5, xb6, xb8⟩, ⟨xi0, xi1, xga, xgb⟩, ⟨xt0, xt1, xgd⟩, hch, ⟨xr0, xr1, xr2⟩, xa0, ⟨xw0, xw1⟩, xst⟩ := id hxs
  obtain ⟨xc0, xcn, xc1, hga, xc7, hss⟩ := id hxc
  have xcz : 0 < n := by omega
  obtain ⟨ga0, ga1, ga2, ga3, ga4, ga5, ga6, ga7, ga8, gan, hrf, hst⟩ := id hga
  have hrf0 := hrf.1
  have hst0 := hst.1
  have hsp := hch.sp
  obtain ⟨hp0, hpn, hp1, hp2, hp3, hp4⟩ := id hsp
  have hnp : rN F ≤ 6 := hrw.2.2.2.2.1
  have hN := hrr.2.2.1
  have hAO := allO_le hrw
  refine g_iload_n C (pc := 0) dX11_byWind_0 1 rfl ?_
  refine g_callSI C (pc := 1) mf_X11_isWind lk_RX11_159 (c_X11_isWind n ρ I x hn9) (by decide) (Nat.le_refl _) rfl (Nat.le_of_ble_eq_true rfl) dX11_byWind_1 (fun v1 I1 h1 => ?_)
  obtain ⟨e1, rfl⟩ := h1
  refine g_if_eq C (pc := 4) 26 dX11_byWind_4 (by decide) (fun c4 => ?_) (fun c4 => ?_)
  · have hx := bI_0.mp (e1.symm.trans c4)
    refine g_ldc2 C (pc := 26) _ gk_RX11_208 dX11_byWind_26 ?_
    refine g_lret C hR (pc := 29) rfl dX11_byWind_29 ?_
    refine ⟨rfl, _, rfl, ?_⟩
    refine ⟨Or.inr ⟨?_, rfl⟩, fun _ _ => rfl⟩
    rintro ⟨w9, k9, h1, h2, h3, h4, h5, h6⟩
    first | exact hx (by rw [h4]; exact ⟨nI_pos' (by omega), nI_lt (b := 5) h1 (by decide)⟩) | exact hz0 (by rw [h5]; exact ⟨nI_pos' (by omega), (nI_leI (b := 3) (by omega) (by decide)).mpr h3⟩) | (have : k = k9 := (nI_eq (by omega) (by omega)).mp (hzk.symm.trans h5); omega) | exact hu h6
  · have hx := bI_1.mp (fun h => c4 (e1.trans h))
    obtain ⟨w, hw, hxw⟩ := ix_of (n := 5) (by decide) hx
    refine g_iload_n C (pc := 7) dX11_byWind_7 2 rfl ?_
    refine g_callSI C (pc := 8) mf_X11_isAhead lk_RX11_202 (c_X11_isAhead n ρ I z hn9) (by decide) (Nat.le_refl _) rfl (Nat.le_of_ble_eq_true rfl) dX11_byWind_8 (fun v8 I8 h8 => ?_)
    obtain ⟨e8, rfl⟩ := h8
    refine g_if_eq C (pc := 11) 26 dX11_byWind_11 (by decide) (fun c11 => ?_) (fun c11 => ?_)
    · have hz0 := bI_0.mp (e8.symm.trans c11)
      refine g_ldc2 C (pc := 26) _ gk_RX11_208 dX11_byWind_26 ?_
      refine g_lret C hR (pc := 29) rfl dX11_byWind_29 ?_
      refine ⟨rfl, _, rfl, ?_⟩
      refine ⟨Or.inr ⟨?_, rfl⟩, fun _ _ => rfl⟩
      rintro ⟨w9, k9, h1, h2, h3, h4, h5, h6⟩
      first | exact hx (by rw [h4]; exact ⟨nI_pos' (by omega), nI_lt (b := 5) h1 (by decide)⟩) | exact hz0 (by rw [h5]; exact ⟨nI_pos' (by omega), (nI_leI (b := 3) (by omega) (by decide)).mpr h3⟩) | (have : k = k9 := (nI_eq (by omega) (by omega)).mp (hzk.symm.trans h5); omega) | exact hu h6
    · have hz0 := bI_1.mp (fun h => c11 (e8.trans h))
      obtain ⟨k, hk, hzk⟩ := ix_of (x := z) (n := 4) (by decide) ⟨hz0.1, lt4 hz0.2⟩
      refine g_iload_n C (pc := 14) dX11_byWind_14 2 rfl ?_
      refine g_iconst C (pc := 15) 1 dX11_byWind_15 (by decide) ?_
      refine g_icmp_lt C (pc := 16) 26 dX11_byWind_16 (by decide) (fun c16 => ?_) (fun c16 => ?_)
      · have hk1 : k < 1 := by
          rw [hzk, show (1 : Int32) = nI 1 from rfl, nI_ltI (by omega) (by decide)] at c16
          omega
        refine g_ldc2 C (pc := 26) _ gk_RX11_208 dX11_byWind_26 ?_
        refine g_lret C hR (pc := 29) rfl dX11_byWind_29 ?_
        refine ⟨rfl, _, rfl, ?_⟩
        refine ⟨Or.inr ⟨?_, rfl⟩, fun _ _ => rfl⟩
        rintro ⟨w9, k9, h1, h2, h3, h4, h5, h6⟩
        first | exact hx (by rw [h4]; exact ⟨nI_pos' (by omega), nI_lt (b := 5) h1 (by decide)⟩) | exact hz0 (by rw [h5]; exact ⟨nI_pos' (by omega), (nI_leI (b := 3) (by omega) (by decide)).mpr h3⟩) | (have : k = k9 := (nI_eq (by omega) (by omega)).mp (hzk.symm.trans h5); omega) | exact hu h6
      · have hk1 : 1 ≤ k := by
          rw [hzk, show (1 : Int32) = nI 1 from rfl, nI_leI (by decide) (by omega)] at c16
          omega
        refine g_iload_n C (pc := 19) dX11_byWind_19 3 rfl ?_
        refine g_callSI C (pc := 20) mf_X11_isPart lk_RX11_205 (c_X11_isPart n ρ I u hn9) (by decide) (Nat.le_refl _) rfl (Nat.le_of_ble_eq_true rfl) dX11_byWind_20 (fun v20 I20 h20 => ?_)
        obtain ⟨e20, rfl⟩ := h20
        refine g_if_ne C (pc := 23) 30 dX11_byWind_23 (by decide) (fun c23 => ?_) (fun c23 => ?_)
        · have hu := bI_1.mp (fun h => c23 (e20.trans h))
          refine g_aload_n C (pc := 30) dX11_byWind_30 0 rfl ?_
          refine g_callVI C (pc := 31) mf_X11_isOver lk_RX11_226 (c_X11_isOver n ρ I F b hn9 hxs hrr hrw hbr hbw) (by decide) (Nat.le_refl _) rfl (by first | assumption | rfl | omega) rfl (by first | assumption | rfl | omega) (Nat.le_of_ble_eq_true rfl) dX11_byWind_31 (fun v31 I31 h31 => ?_)
          obtain ⟨e31, rfl⟩ := h31
          refine g_if_eq C (pc := 34) 41 dX11_byWind_34 (by decide) (fun c34 => ?_) (fun c34 => ?_)
          · have hov : lostB F b = none := Decidable.not_not.mp (bI_0.mp (e31.symm.trans c34))
            have hno := lostB_none.mp hov
            refine g_aload_n C (pc := 41) dX11_byWind_41 0 rfl ?_
            refine g_iload_n C (pc := 42) dX11_byWind_42 1 rfl ?_
            refine g_iload_n C (pc := 43) dX11_byWind_43 2 rfl ?_
            refine g_callVL C (pc := 44) mf_X11_likelyNow lk_RX11_231 (c_X11_likelyNow n ρ I F b w k x z hn9 hxs hrr hrw hbr hbw hkw hno hw hk1 (by omega) hxw hzk) (by decide) (Nat.le_refl _) rfl (by first | assumption | rfl | omega) rfl (by first | assumption | rfl | omega) (Nat.le_of_ble_eq_true rfl) dX11_byWind_44 (fun v44 I44 h44 => ?_)
            obtain ⟨e44, f44, g44⟩ := h44
            have hR44 : RR I44 (1 + 1) F := hrr.cong (fun i hi => g44 _ (by omega))
            have hp3k := pw3 hAO (show k - 1 ≤ 3 by omega)
            refine g_aload_n C (pc := 47) dX11_byWind_47 0 rfl ?_
            refine g_getR C (pc := 48) fl_RX11_10 (by decide) (by first | assumption | rfl | omega) (by first | assumption | rfl | omega) (by first | assumption | rfl | omega) dX11_byWind_48 ?_
            refine g_getR C (pc := 51) fl_RX11_104 (by decide) (by first | assumption | rfl | omega) (by first | assumption | rfl | omega) (by first | assumption | rfl | omega) dX11_byWind_51 ?_
            refine g_callVI C (pc := 54) mf_X5_allOdds lk_RX11_180 (c_X5_allOdds n ρ I44 (1 + 1) F hn9 hrf hR44) (by decide) (Nat.le_refl _) rfl (by first | assumption | rfl | omega) rfl (by first | assumption | rfl | omega) (Nat.le_of_ble_eq_true rfl) dX11_byWind_54 (fun v54 I54 h54 => ?_)
            obtain ⟨e54, rfl⟩ := h54
            refine g_iload_n C (pc := 57) dX11_byWind_57 2 rfl ?_
            refine g_iconst C (pc := 58) 1 dX11_byWind_58 (by decide) ?_
            refine g_isub C (pc := 59) dX11_byWind_59 ?_
            refine g_callSL C (pc := 60) mf_X11_power lk_RX11_218 (c_X11_power n ρ I44 (allO F) (k - 1) _ _ hn9 (by omega) (by omega) e54 (by rw [hzk]; exact pk_sub (b := 1) hk1)) (by decide) (Nat.le_refl _) rfl (Nat.le_of_ble_eq_true rfl) dX11_byWind_60 (fun v60 I60 h60 => ?_)
            obtain ⟨e60, rfl⟩ := h60
            refine g_iload_n C (pc := 63) dX11_byWind_63 3 rfl ?_
            refine g_callSL C (pc := 64) mf_X11_part lk_RX11_222 (c_X11_part n ρ I44 (valW F (bM b) (k - 1) b w) (pw (allO F) (k - 1)) _ _ u hn9 e44 e60 (Nat.le_trans valW_le hp3k) hp3k (pw_pos hao (k - 1))) (by decide) (Nat.le_refl _) rfl (Nat.le_of_ble_eq_true rfl) dX11_byWind_64 (fun v64 I64 h64 => ?_)
            obtain ⟨e64, rfl⟩ := h64
            refine g_lret C hR (pc := 67) rfl dX11_byWind_67 ?_
            refine ⟨rfl, _, rfl, ?_⟩
            exact ⟨Or.inl ⟨w, k, ⟨hw, hk1, by omega, hxw, hzk, hu⟩, Or.inl ⟨hov, e64⟩⟩, g44⟩
          · have hov : ¬ lostB F b = none := bI_1.mp (fun h => c34 (e31.trans h))
            refine g_ldc2 C (pc := 37) _ gk_RX11_229 dX11_byWind_37 ?_
            refine g_lret C hR (pc := 40) rfl dX11_byWind_40 ?_
            refine ⟨rfl, _, rfl, ?_⟩
            exact ⟨Or.inl ⟨w, k, ⟨hw, hk1, by omega, hxw, hzk, hu⟩, Or.inr ⟨hov, rfl⟩⟩, fun _ _ => rfl⟩
        · have hu := bI_0.mp (e20.symm.trans c23)
          refine g_ldc2 C (pc := 26) _ gk_RX11_208 dX11_byWind_26 ?_
          refine g_lret C hR (pc := 29) rfl dX11_byWind_29 ?_
          refine ⟨rfl, _, rfl, ?_⟩
          refine ⟨Or.inr ⟨?_, rfl⟩, fun _ _ => rfl⟩
          rintro ⟨w9, k9, h1, h2, h3, h4, h5, h6⟩
          first | exact hx (by rw [h4]; exact ⟨nI_pos' (by omega), nI_lt (b := 5) h1 (by decide)⟩) | exact hz0 (by rw [h5]; exact ⟨nI_pos' (by omega), (nI_leI (b := 3) (by omega) (by decide)).mpr h3⟩) | (have : k = k9 := (nI_eq (by omega) (by omega)).mp (hzk.symm.trans h5); omega) | exact hu h6
set_option maxHeartbeats 400000 in
theorem c_X11_best (n : Nat) (ρ : Rho) (I : Mem) (F : RT) (b : BT) (x z : Int32) (hn9 : n ≤ 999) (hxs : XS n ρ) (hrr : RR I (1 + 1) F) (hrw : RW F) (hbr : BR I (1 + 5) F b) (hbw : BW F b) (hkw : KW F) : MI yX11_best cX11_best 3 (some .int) 17 [.ref 0, .int x, .int z] n ρ I (fun v I1 => ((∃ w k, (w < 5 ∧ 1 ≤ k ∧ k ≤ 3 ∧ x = nI w ∧ z = nI k) ∧ ((lostB F b = none ∧ v = oI (chW F (bM b) (k - 1) b w)) ∨ (¬ lostB F b = none ∧ v = -2))) ∨ (¬ (∃ w k, (w < 5 ∧ 1 ≤ k ∧ k ≤ 3 ∧ x = nI w ∧ z = nI k)) ∧ v = -1)) ∧ ∀ i, ¬ (29 ≤ i ∧ i ≤ 52) → I1 i = I i) := by
  refine MG.of (by decide +kernel) (Nat.le_of_ble_eq_true rfl) hn9 ?_
  intro κ C hR
  show G κ n ρ 0 [(0, .ref 0), (1, .int x), (2, .int z)] [] I
  obtain ⟨hxc, ⟨xb1, xb2, xb3, xb4, xb5, xb6, xb8⟩, ⟨xi0, xi1, xga, xgb⟩, ⟨xt0, xt1, xgd⟩, hch, ⟨xr0, xr1, xr2⟩, xa0, ⟨xw0, xw1⟩, xst⟩ := id hxs
  obtain ⟨xc0, xcn, xc1, hga, xc7, hss⟩ := id hxc
  have xcz : 0 < n := by omega
  obtain ⟨ga0, ga1, ga2, ga3, ga4, ga5, ga6, ga7, ga8, gan, hrf, hst⟩ := id hga
  have hrf0 := hrf.1
  have hst0 := hst.1
  have hsp := hch.sp
  obtain ⟨hp0, hpn, hp1, hp2, hp3, hp4⟩ := id hsp
  have hnp : rN F ≤ 6 := hrw.2.2.2.2.1
  have hN := hrr.2.2.1
  refine g_iload_n C (pc := 0) dX11_best_0 1 rfl ?_
  refine g_callSI C (pc := 1) mf_X11_isWind lk_RX11_159 (c_X11_isWind n ρ I x hn9) (by decide) (Nat.le_refl _) rfl (Nat.le_of_ble_eq_true rfl) dX11_best_1 (fun v1 I1 h1 => ?_)
  obtain ⟨e1, rfl⟩ := h1
  refine g_if_eq C (pc := 4) 19 dX11_best_4 (by decide) (fun c4 => ?_) (fun c4 => ?_)
  · have hx := bI_0.mp (e1.symm.trans c4)
    refine g_iconst C (pc := 19) (-1) dX11_best_19 (by decide) ?_
    refine g_iret C hR (pc := 20) rfl dX11_best_20 ?_
    refine ⟨rfl, _, rfl, ?_⟩
    refine ⟨Or.inr ⟨?_, rfl⟩, fun _ _ => rfl⟩
    rintro ⟨w9, k9, h1, h2, h3, h4, h5⟩
    first | exact hx (by rw [h4]; exact ⟨nI_pos' (by omega), nI_lt (b := 5) h1 (by decide)⟩) | exact hz0 (by rw [h5]; exact ⟨nI_pos' (by omega), (nI_leI (b := 3) (by omega) (by decide)).mpr h3⟩) | (have : k = k9 := (nI_eq (by omega) (by omega)).mp (hzk.symm.trans h5); omega)
  · have hx := bI_1.mp (fun h => c4 (e1.trans h))
    obtain ⟨w, hw, hxw⟩ := ix_of (n := 5) (by decide) hx
    refine g_iload_n C (pc := 7) dX11_best_7 2 rfl ?_
    refine g_callSI C (pc := 8) mf_X11_isAhead lk_RX11_202 (c_X11_isAhead n ρ I z hn9) (by decide) (Nat.le_refl _) rfl (Nat.le_of_ble_eq_true rfl) dX11_best_8 (fun v8 I8 h8 => ?_)
    obtain ⟨e8, rfl⟩ := h8
    refine g_if_eq C (pc := 11) 19 dX11_best_11 (by decide) (fun c11 => ?_) (fun c11 => ?_)
    · have hz0 := bI_0.mp (e8.symm.trans c11)
      refine g_iconst C (pc := 19) (-1) dX11_best_19 (by decide) ?_
      refine g_iret C hR (pc := 20) rfl dX11_best_20 ?_
      refine ⟨rfl, _, rfl, ?_⟩
      refine ⟨Or.inr ⟨?_, rfl⟩, fun _ _ => rfl⟩
      rintro ⟨w9, k9, h1, h2, h3, h4, h5⟩
      first | exact hx (by rw [h4]; exact ⟨nI_pos' (by omega), nI_lt (b := 5) h1 (by decide)⟩) | exact hz0 (by rw [h5]; exact ⟨nI_pos' (by omega), (nI_leI (b := 3) (by omega) (by decide)).mpr h3⟩) | (have : k = k9 := (nI_eq (by omega) (by omega)).mp (hzk.symm.trans h5); omega)
    · have hz0 := bI_1.mp (fun h => c11 (e8.trans h))
      obtain ⟨k, hk, hzk⟩ := ix_of (x := z) (n := 4) (by decide) ⟨hz0.1, lt4 hz0.2⟩
      refine g_iload_n C (pc := 14) dX11_best_14 2 rfl ?_
      refine g_iconst C (pc := 15) 1 dX11_best_15 (by decide) ?_
      refine g_icmp_ge C (pc := 16) 21 dX11_best_16 (by decide) (fun c16 => ?_) (fun c16 => ?_)
      · have hk1 : 1 ≤ k := by
          rw [hzk, show (1 : Int32) = nI 1 from rfl, nI_leI (by decide) (by omega)] at c16
          omega
        refine g_aload_n C (pc := 21) dX11_best_21 0 rfl ?_
        refine g_callVI C (pc := 22) mf_X11_isOver lk_RX11_226 (c_X11_isOver n ρ I F b hn9 hxs hrr hrw hbr hbw) (by decide) (Nat.le_refl _) rfl (by first | assumption | rfl | omega) rfl (by first | assumption | rfl | omega) (Nat.le_of_ble_eq_true rfl) dX11_best_22 (fun v22 I22 h22 => ?_)
        obtain ⟨e22, rfl⟩ := h22
        refine g_if_eq C (pc := 25) 31 dX11_best_25 (by decide) (fun c25 => ?_) (fun c25 => ?_)
        · have hov : lostB F b = none := Decidable.not_not.mp (bI_0.mp (e22.symm.trans c25))
          have hno := lostB_none.mp hov
          refine g_aload_n C (pc := 31) dX11_best_31 0 rfl ?_
          refine g_iload_n C (pc := 32) dX11_best_32 1 rfl ?_
          refine g_iload_n C (pc := 33) dX11_best_33 2 rfl ?_
          refine g_callVL C (pc := 34) mf_X11_likelyNow lk_RX11_231 (c_X11_likelyNow n ρ I F b w k x z hn9 hxs hrr hrw hbr hbw hkw hno hw hk1 (by omega) hxw hzk) (by decide) (Nat.le_refl _) rfl (by first | assumption | rfl | omega) rfl (by first | assumption | rfl | omega) (Nat.le_of_ble_eq_true rfl) dX11_best_34 (fun v34 I34 h34 => ?_)
          obtain ⟨e34, f34, g34⟩ := h34
          refine g_pop2 C (pc := 37) dX11_best_37 rfl ?_
          refine g_aload_n C (pc := 38) dX11_best_38 0 rfl ?_
          refine g_getR C (pc := 39) fl_RX11_35 (by decide) (by first | assumption | rfl | omega) (by first | assumption | rfl | omega) (by first | assumption | rfl | omega) dX11_best_39 ?_
          refine g_getI C (pc := 42) fl_RX11_234 (by decide) (by first | assumption | rfl | omega) (by first | assumption | rfl | omega) dX11_best_42 ?_
          refine g_iret C hR (pc := 45) rfl dX11_best_45 ?_
          refine ⟨rfl, _, rfl, ?_⟩
          exact ⟨Or.inl ⟨w, k, ⟨hw, hk1, by omega, hxw, hzk⟩, Or.inl ⟨hov, f34⟩⟩, g34⟩
        · have hov : ¬ lostB F b = none := bI_1.mp (fun h => c25 (e22.trans h))
          refine g_bipush C (pc := 28) (-2) dX11_best_28 (by decide) ?_
          refine g_iret C hR (pc := 30) rfl dX11_best_30 ?_
          refine ⟨rfl, _, rfl, ?_⟩
          exact ⟨Or.inl ⟨w, k, ⟨hw, hk1, by omega, hxw, hzk⟩, Or.inr ⟨hov, rfl⟩⟩, fun _ _ => rfl⟩
      · have hk1 : k < 1 := by
          rw [hzk, show (1 : Int32) = nI 1 from rfl, nI_ltI (by omega) (by decide)] at c16
          omega
        refine g_iconst C (pc := 19) (-1) dX11_best_19 (by decide) ?_
        refine g_iret C hR (pc := 20) rfl dX11_best_20 ?_
        refine ⟨rfl, _, rfl, ?_⟩
        refine ⟨Or.inr ⟨?_, rfl⟩, fun _ _ => rfl⟩
        rintro ⟨w9, k9, h1, h2, h3, h4, h5⟩
        first | exact hx (by rw [h4]; exact ⟨nI_pos' (by omega), nI_lt (b := 5) h1 (by decide)⟩) | exact hz0 (by rw [h5]; exact ⟨nI_pos' (by omega), (nI_leI (b := 3) (by omega) (by decide)).mpr h3⟩) | (have : k = k9 := (nI_eq (by omega) (by omega)).mp (hzk.symm.trans h5); omega)
set_option maxHeartbeats 400000 in
theorem c_X11_hope (n : Nat) (ρ : Rho) (I : Mem) (F : RT) (b : BT) (z : Int32) (hn9 : n ≤ 999) (hxs : XS n ρ) (hrr : RR I (1 + 1) F) (hrw : RW F) (hbr : BR I (1 + 5) F b) (hbw : BW F b) (hkw : KW F) : MI yX11_hope cX11_hope 8 (some .int) 17 [.ref 0, .int z] n ρ I (fun v I1 => ((∃ k, (1 ≤ k ∧ k ≤ 3 ∧ z = nI k) ∧ ((lostB F b = none ∧ v = (match bstK true (fun w => valW F (bM b) (k - 1) b w) 5 with | none => 0 | some q => nI q.2)) ∨ (¬ lostB F b = none ∧ v = -2))) ∨ (¬ (∃ k, (1 ≤ k ∧ k ≤ 3 ∧ z = nI k)) ∧ v = -1)) ∧ ∀ i, ¬ (29 ≤ i ∧ i ≤ 52) → I1 i = I i) := by
  refine MG.of (by decide +kernel) (Nat.le_of_ble_eq_true rfl) hn9 ?_
  intro κ C hR
  show G κ n ρ 0 [(0, .ref 0), (1, .int z)] [] I
  obtain ⟨hxc, ⟨xb1, xb2, xb3, xb4, xb5, xb6, xb8⟩, ⟨xi0, xi1, xga, xgb⟩, ⟨xt0, xt1, xgd⟩, hch, ⟨xr0, xr1, xr2⟩, xa0, ⟨xw0, xw1⟩, xst⟩ := id hxs
  obtain ⟨xc0, xcn, xc1, hga, xc7, hss⟩ := id hxc
  have xcz : 0 < n := by omega
  obtain ⟨ga0, ga1, ga2, ga3, ga4, ga5, ga6, ga7, ga8, gan, hrf, hst⟩ := id hga
  have hrf0 := hrf.1
  have hst0 := hst.1
  have hsp := hch.sp
  obtain ⟨hp0, hpn, hp1, hp2, hp3, hp4⟩ := id hsp
  have hnp : rN F ≤ 6 := hrw.2.2.2.2.1
  have hN := hrr.2.2.1
  have hAO := allO_le hrw
  refine g_iload_n C (pc := 0) dX11_hope_0 1 rfl ?_
  refine g_callSI C (pc := 1) mf_X11_isAhead lk_RX11_202 (c_X11_isAhead n ρ I z hn9) (by decide) (Nat.le_refl _) rfl (Nat.le_of_ble_eq_true rfl) dX11_hope_1 (fun v1 I1 h1 => ?_)
  obtain ⟨e1, rfl⟩ := h1
  refine g_if_eq C (pc := 4) 12 dX11_hope_4 (by decide) (fun c4 => ?_) (fun c4 => ?_)
  · have hz0 := bI_0.mp (e1.symm.trans c4)
    refine g_iconst C (pc := 12) (-1) dX11_hope_12 (by decide) ?_
    refine g_iret C hR (pc := 13) rfl dX11_hope_13 ?_
    refine ⟨rfl, _, rfl, ?_⟩
    refine ⟨Or.inr ⟨?_, rfl⟩, fun _ _ => rfl⟩
    rintro ⟨k9, h2, h3, h5⟩
    first | exact hz0 (by rw [h5]; exact ⟨nI_pos' (by omega), (nI_leI (b := 3) (by omega) (by decide)).mpr h3⟩) | (have : k = k9 := (nI_eq (by omega) (by omega)).mp (hzk.symm.trans h5); omega)
  · have hz0 := bI_1.mp (fun h => c4 (e1.trans h))
    obtain ⟨k, hk, hzk⟩ := ix_of (x := z) (n := 4) (by decide) ⟨hz0.1, lt4 hz0.2⟩
    refine g_iload_n C (pc := 7) dX11_hope_7 1 rfl ?_
    refine g_iconst C (pc := 8) 1 dX11_hope_8 (by decide) ?_
    refine g_icmp_ge C (pc := 9) 14 dX11_hope_9 (by decide) (fun c9 => ?_) (fun c9 => ?_)
    · have hk1 : 1 ≤ k := by
        rw [hzk, show (1 : Int32) = nI 1 from rfl, nI_leI (by decide) (by omega)] at c9
        omega
      refine g_aload_n C (pc := 14) dX11_hope_14 0 rfl ?_
      refine g_callVI C (pc := 15) mf_X11_isOver lk_RX11_226 (c_X11_isOver n ρ I F b hn9 hxs hrr hrw hbr hbw) (by decide) (Nat.le_refl _) rfl (by first | assumption | rfl | omega) rfl (by first | assumption | rfl | omega) (Nat.le_of_ble_eq_true rfl) dX11_hope_15 (fun v15 I15 h15 => ?_)
      obtain ⟨e15, rfl⟩ := h15
      refine g_if_eq C (pc := 18) 24 dX11_hope_18 (by decide) (fun c18 => ?_) (fun c18 => ?_)
      · have hov : lostB F b = none := Decidable.not_not.mp (bI_0.mp (e15.symm.trans c18))
        have hno := lostB_none.mp hov
        refine g_iconst C (pc := 24) 0 dX11_hope_24 (by decide) ?_
        refine g_istore_n C (pc := 25) dX11_hope_25 (by decide) (fun v25 => [(2, .int v25), (0, .ref 0), (1, .int z)]) (fun _ => rfl) (fun v25 ev25 => ?_)
        refine g_ldc2 C (pc := 26) _ gk_RX11_208 dX11_hope_26 ?_
        refine g_lstore_n C (pc := 29) dX11_hope_29 (by decide) (fun v29 => [(3, .long v29), (2, .int v25), (0, .ref 0), (1, .int z)]) (fun _ => rfl) (fun v29 ev29 => ?_)
        refine g_iconst C (pc := 30) 0 dX11_hope_30 (by decide) ?_
        refine g_istore C (pc := 31) dX11_hope_31 (by decide) (fun v31 => [(5, .int v31), (3, .long v29), (2, .int v25), (0, .ref 0), (1, .int z)]) (fun _ => rfl) (fun v31 ev31 => ?_)
        have L33 : ∀ (k9 : Nat) (j : Nat) (wz5 : Int32) (wz3 : Int64) (wz2 : Int32) (J : Mem) (hw5 : wz5 = nI j) (hj : j ≤ 5) (hB : wz3 = lO ((bstK true (fun w => valW F (bM b) (k - 1) b w) j).map (fun q => q.1))) (hX : wz2 = (match bstK true (fun w => valW F (bM b) (k - 1) b w) j with | none => 0 | some q => nI q.2)) (hJ : ∀ i, ¬ (29 ≤ i ∧ i ≤ 52) → J i = I i), 5 - j < k9 → G κ n ρ 33 [(5, .int wz5), (3, .long wz3), (2, .int wz2), (0, .ref 0), (1, .int z)] [] J := by
          intro k9
          induction k9 with
          | zero => intro j wz5 wz3 wz2 J hw5 hj hB hX hJ hm33; exact absurd hm33 (Nat.not_lt_zero _)
          | succ k9 ih33 =>
            intro j wz5 wz3 wz2 J hw5 hj hB hX hJ hm33
            subst hw5
            have hrrJ : RR J (1 + 1) F := hrr.cong (fun i hi => hJ _ (by omega))
            have hbrJ : BR J (1 + 5) F b := hbr.cong (fun i hi => hJ _ (by omega))
            have hbk : ∀ a, (bstK true (fun w => valW F (bM b) (k - 1) b w) j).map (fun q => q.1) = some a → a < 2 ^ 31 := by
              intro a ha
              obtain ⟨⟨a2, ix⟩, h1, h2⟩ := Option.map_eq_some_iff.mp ha
              have h2 : a2 = a := h2
              subst h2
              cases j with
              | zero => rw [bstK] at h1; cases h1
              | succ j =>
                obtain ⟨a3, i3, e1, -, e3⟩ := bstK_some (wants := true) (f := (fun w => valW F (bM b) (k - 1) b w)) (Nat.succ_pos j)
                rw [h1] at e1; cases e1
                have h7 : a2 ≤ pw (allO F) (k - 1) := by rw [← e3]; exact valW_le
                have := pw3 hAO (show k - 1 ≤ 3 by omega); omega
            have hv31 : ∀ w, valW F (bM b) (k - 1) b w < 2 ^ 31 := fun w => Nat.lt_of_le_of_lt valW_le (by have := pw3 hAO (show k - 1 ≤ 3 by omega); omega)
            refine g_iload C (pc := 33) dX11_hope_33 0 rfl ?_
            refine g_iconst C (pc := 35) 5 dX11_hope_35 (by decide) ?_
            refine g_icmp_ge C (pc := 36) 70 dX11_hope_36 (by decide) (fun c36 => ?_) (fun c36 => ?_)
            · replace c36 := (nI_leI (a := 5) (b := j) (by decide) (by omega)).mp c36
              refine g_iload_n C (pc := 70) dX11_hope_70 2 rfl ?_
              refine g_iret C hR (pc := 71) rfl dX11_hope_71 ?_
              refine ⟨rfl, _, rfl, ?_⟩
              have hj5 : j = 5 := by omega
              subst hj5
              exact ⟨Or.inl ⟨k, ⟨hk1, by omega, hzk⟩, Or.inl ⟨hov, hX⟩⟩, hJ⟩
            · replace c36 := (nI_ltI (a := j) (b := 5) (by omega) (by decide)).mp c36
              refine g_aload_n C (pc := 39) dX11_hope_39 3 rfl ?_
              refine g_iload C (pc := 40) dX11_hope_40 0 rfl ?_
              refine g_iload_n C (pc := 42) dX11_hope_42 4 rfl ?_
              refine g_callVL C (pc := 43) mf_X11_likelyNow lk_RX11_231 (c_X11_likelyNow n ρ J F b j k _ z hn9 hxs hrrJ hrw hbrJ hbw hkw hno c36 hk1 (by omega) rfl hzk) (by decide) (Nat.le_refl _) rfl (by first | assumption | rfl | omega) rfl (by first | assumption | rfl | omega) (Nat.le_of_ble_eq_true rfl) dX11_hope_43 (fun v43 I43 h43 => ?_)
              obtain ⟨e43, f43, g43⟩ := h43
              refine g_lstore C (pc := 46) dX11_hope_46 (by decide) (fun v46 => [(6, .long v46), (5, .int (nI j)), (3, .long wz3), (2, .int wz2), (0, .ref 0), (1, .int z)]) (fun _ => rfl) (fun v46 ev46 => ?_)
              refine g_lload C (pc := 48) dX11_hope_48 0 rfl ?_
              refine g_lload_n C (pc := 50) dX11_hope_50 2 rfl ?_
              refine g_lcmp C (pc := 51) dX11_hope_51 ?_
              refine g_if_gt C (pc := 52) 58 dX11_hope_52 (by decide) (fun c52 => ?_) (fun c52 => ?_)
              · have hstep : bstK true (fun w => valW F (bM b) (k - 1) b w) (j + 1) = some (valW F (bM b) (k - 1) b j, j) := by
                  rw [bstK]
                  cases h9 : bstK true (fun w => valW F (bM b) (k - 1) b w) j with
                  | none => rfl
                  | some q =>
                    obtain ⟨a, i⟩ := q
                    have ha := hbk a (by rw [h9]; rfl)
                    rw [ev46, e43, hB, h9] at c52
                    have hgt : a < valW F (bM b) (k - 1) b j := (cmp_gt (hv31 j) ha).mp c52
                    show (if (if true = true then a < valW F (bM b) (k - 1) b j else valW F (bM b) (k - 1) b j < a) then _ else _) = _
                    rw [if_pos (by rw [if_pos rfl]; exact hgt)]
                refine g_lload C (pc := 58) dX11_hope_58 0 rfl ?_
                refine g_lstore_n C (pc := 60) dX11_hope_60 (by decide) (fun v60 => [(3, .long v60), (6, .long v46), (5, .int (nI j)), (2, .int wz2), (0, .ref 0), (1, .int z)]) (fun _ => rfl) (fun v60 ev60 => ?_)
                refine g_iload C (pc := 61) dX11_hope_61 2 rfl ?_
                refine g_istore_n C (pc := 63) dX11_hope_63 (by decide) (fun v63 => [(2, .int v63), (3, .long v60), (6, .long v46), (5, .int (nI j)), (0, .ref 0), (1, .int z)]) (fun _ => rfl) (fun v63 ev63 => ?_)
                refine g_iinc C (pc := 64) (1) dX11_hope_64 3 rfl (by decide) (by decide) (fun v64 => [(5, .int v64), (2, .int v63), (3, .long v60), (6, .long v46), (0, .ref 0), (1, .int z)]) (fun _ => rfl) (fun v64 ev64 => ?_)
                refine g_goto C (pc := 67) 33 dX11_hope_67 (by decide) ?_
                refine g_lv C [0, 2, 1, 4, 5] rfl (ih33 (j + 1) _ _ _ _ ?_ ?_ ?_ ?_ ?_ (by omega))
                · subst_vars; exact nI_1 _
                · omega
                · first | (rw [ev60, ev46, e43, hstep]; rfl) | (rw [hB, hstep])
                · first | (rw [ev63, hstep]; done) | (rw [hX, hstep])
                · intro i hi; rw [g43 i hi]; exact hJ i hi
              · have hstep : bstK true (fun w => valW F (bM b) (k - 1) b w) (j + 1) = bstK true (fun w => valW F (bM b) (k - 1) b w) j := by
                  rw [bstK]
                  cases h9 : bstK true (fun w => valW F (bM b) (k - 1) b w) j with
                  | none =>
                    exfalso
                    rw [ev46, e43, hB, h9] at c52
                    have h5 : (0 : Int32) < lg_cmp (lN (valW F (bM b) (k - 1) b j)) (lO none) := cmp_m1 (hv31 j)
                    exact absurd h5 (Int32.not_lt.mpr c52)
                  | some q =>
                    obtain ⟨a, i⟩ := q
                    have ha := hbk a (by rw [h9]; rfl)
                    rw [ev46, e43, hB, h9] at c52
                    have hgt : ¬ a < valW F (bM b) (k - 1) b j := fun h8 => absurd ((cmp_gt (hv31 j) ha).mpr h8) (Int32.not_lt.mpr c52)
                    show (if (if true = true then a < valW F (bM b) (k - 1) b j else valW F (bM b) (k - 1) b j < a) then _ else _) = _
                    rw [if_neg (by rw [if_pos rfl]; exact hgt)]
                refine g_goto C (pc := 55) 64 dX11_hope_55 (by decide) ?_
                refine g_iinc C (pc := 64) (1) dX11_hope_64 1 rfl (by decide) (by decide) (fun v64 => [(5, .int v64), (6, .long v46), (3, .long wz3), (2, .int wz2), (0, .ref 0), (1, .int z)]) (fun _ => rfl) (fun v64 ev64 => ?_)
                refine g_goto C (pc := 67) 33 dX11_hope_67 (by decide) ?_
                refine g_lv C [0, 2, 3, 4, 5] rfl (ih33 (j + 1) _ _ _ _ ?_ ?_ ?_ ?_ ?_ (by omega))
                · subst_vars; exact nI_1 _
                · omega
                · first | (rw [ev60, ev46, e43, hstep]; rfl) | (rw [hB, hstep])
                · first | (rw [ev63, hstep]; done) | (rw [hX, hstep])
                · intro i hi; rw [g43 i hi]; exact hJ i hi
        refine g_lv C [0, 1, 2, 3, 4] rfl (L33 (_ + 1) 0 _ _ _ _ ?_ ?_ ?_ ?_ ?_ (by first | omega | exact Nat.lt_succ_self _))
        · subst_vars; rfl
        · omega
        · subst_vars; rfl
        · subst_vars; rfl
        · intro i _; rfl
      · have hov : ¬ lostB F b = none := bI_1.mp (fun h => c18 (e15.trans h))
        refine g_bipush C (pc := 21) (-2) dX11_hope_21 (by decide) ?_
        refine g_iret C hR (pc := 23) rfl dX11_hope_23 ?_
        refine ⟨rfl, _, rfl, ?_⟩
        exact ⟨Or.inl ⟨k, ⟨hk1, by omega, hzk⟩, Or.inr ⟨hov, rfl⟩⟩, fun _ _ => rfl⟩
    · have hk1 : k < 1 := by
        rw [hzk, show (1 : Int32) = nI 1 from rfl, nI_ltI (by omega) (by decide)] at c9
        omega
      refine g_iconst C (pc := 12) (-1) dX11_hope_12 (by decide) ?_
      refine g_iret C hR (pc := 13) rfl dX11_hope_13 ?_
      refine ⟨rfl, _, rfl, ?_⟩
      refine ⟨Or.inr ⟨?_, rfl⟩, fun _ _ => rfl⟩
      rintro ⟨k9, h2, h3, h5⟩
      first | exact hz0 (by rw [h5]; exact ⟨nI_pos' (by omega), (nI_leI (b := 3) (by omega) (by decide)).mpr h3⟩) | (have : k = k9 := (nI_eq (by omega) (by omega)).mp (hzk.symm.trans h5); omega)
