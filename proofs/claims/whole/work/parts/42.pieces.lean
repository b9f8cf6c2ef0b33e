set_option maxHeartbeats 400000 in
theorem c_X10_readPiece (n : Nat) (ρ : Rho) (I : Mem) (L : Nat) (tb : Nat → Nat) (D : DT) (f p : Nat) (hn9 : n ≤ 999) (hxs : XS n ρ) (htb : TbR I L tb) (hp : I 15 9 = nI p) (hpL : p ≤ L) (hdr : DrR I D) (hf11 : I 15 11 = nI f) (hfL : f ≤ L) : MI yX10_readPiece cX10_readPiece 4 (some .boolean) 7 [.ref 15] n ρ I (fun v I1 => LnP I I1 v (rdPiece tb L D f p)) := by
  refine MG.of (by decide +kernel) (Nat.le_of_ble_eq_true rfl) hn9 ?_
  intro κ C hR
  show G κ n ρ 0 [(0, .ref 15)] [] I
  obtain ⟨hxc, ⟨xb1, xb2, xb3, xb4, xb5, xb6, xb8⟩, ⟨xi0, xi1, xga, xgb⟩, ⟨xt0, xt1, xgd⟩, hch, ⟨xr0, xr1, xr2⟩, xa0, ⟨xw0, xw1⟩, xst⟩ := id hxs
  obtain ⟨xc0, xcn, xc1, hga, xc7, hss⟩ := id hxc
  have xcz : 0 < n := by omega
  obtain ⟨ga0, ga1, ga2, ga3, ga4, ga5, ga6, ga7, ga8, gan, hrf, hst⟩ := id hga
  have hrf0 := hrf.1
  have hst0 := hst.1
  have hsp := hch.sp
  obtain ⟨hp0, hpn, hp1, hp2, hp3, hp4⟩ := id hsp
  obtain ⟨hL, hL3, htbs⟩ := id htb
  obtain ⟨drr, drw, dbr, dbw, dpz, d6, d7, d8⟩ := id hdr
  obtain ⟨gd0, gd1, gd2, gd3, gd4, gd5, gd6, gd7, gd8, gdn, drf, dst⟩ := id xgd
  have drf0 := drf.1
  have dst0 := dst.1
  have hF := tkF_le (tb := tb) hpL
  have hE := tkE_le (tb := tb) hpL
  refine g_aload_n C (pc := 0) dX10_readPiece_0 0 rfl ?_
  refine g_getR C (pc := 1) fl_RX10_18 (by decide) (by first | assumption | rfl | omega) (by first | assumption | rfl | omega) (by first | assumption | rfl | omega) dX10_readPiece_1 ?_
  refine g_getR C (pc := 4) fl_RX10_103 (by decide) (by first | assumption | rfl | omega) (by first | assumption | rfl | omega) (by first | assumption | rfl | omega) dX10_readPiece_4 ?_
  refine g_getI C (pc := 7) fl_RX10_128 (by decide) (by first | assumption | rfl | omega) (by first | assumption | rfl | omega) dX10_readPiece_7 ?_
  refine g_bipush C (pc := 10) 6 dX10_readPiece_10 (by decide) ?_
  refine g_icmp_lt C (pc := 12) 25 dX10_readPiece_12 (by decide) (fun c12 => ?_) (fun c12 => ?_)
  · have h6 : rN (dF D) < 6 := by
      have := drw.2.2.2.2.1
      rw [drr.2.2.1, show (6 : Int32) = nI 6 from rfl, nI_ltI (by omega) (by decide)] at c12
      exact c12
    refine g_aload_n C (pc := 25) dX10_readPiece_25 0 rfl ?_
    refine g_callVI C (pc := 26) mf_X10_readToken lk_RX10_51 (c_X10_readToken n ρ I L tb p hn9 hxs htb hp hpL) (by decide) (Nat.le_refl _) rfl (by first | assumption | rfl | omega) rfl (by first | assumption | rfl | omega) (Nat.le_of_ble_eq_true rfl) dX10_readPiece_26 (fun v26 I26 h26 => ?_)
    obtain ⟨e26, f26, o26, b26, s26, g26⟩ := h26
    have ht26 : T8 I I26 := ⟨s26, g26⟩
    have hdr26 := ht26.dr hdr
    have htb26 := htb.fr ht26.tf
    refine g_if_ne C (pc := 29) 34 dX10_readPiece_29 (by decide) (fun c29 => ?_) (fun c29 => ?_)
    · have hK : ¬ tkK tb L p = 0 := bI_1.mp (fun h => c29 (e26.trans h))
      obtain ⟨o9, o10, o12, o4⟩ := o26 hK
      refine g_aload_n C (pc := 34) dX10_readPiece_34 0 rfl ?_
      refine g_callVI C (pc := 35) mf_X10_kindNamed lk_RX10_131 (c_X10_kindNamed n ρ I26 L tb (tkK tb L p) (tkF tb L p) (tkE tb L p) hn9 hxs htb26 o10 o9 f26 hE.1 hE.2 tkK_lt) (by decide) (Nat.le_refl _) rfl (by first | assumption | rfl | omega) rfl (by first | assumption | rfl | omega) (Nat.le_of_ble_eq_true rfl) dX10_readPiece_35 (fun v35 I35 h35 => ?_)
      obtain ⟨e35, rfl⟩ := h35
      refine g_istore_n C (pc := 38) dX10_readPiece_38 (by decide) (fun v38 => [(1, .int v38), (0, .ref 15)]) (fun _ => rfl) (fun v38 ev38 => ?_)
      refine g_iload_n C (pc := 39) dX10_readPiece_39 0 rfl ?_
      refine g_bipush C (pc := 40) (-4) dX10_readPiece_40 (by decide) ?_
      refine g_icmp_ne C (pc := 42) 55 dX10_readPiece_42 (by decide) (fun c42 => ?_) (fun c42 => ?_)
      · obtain ⟨kd, hkd⟩ : ∃ kd, (if tkK tb L p = 1 then kdN tb (tkF tb L p) (tkE tb L p) else none) = some kd := by
          cases h9 : (if tkK tb L p = 1 then kdN tb (tkF tb L p) (tkE tb L p) else none) with
          | none => exact absurd (by rw [ev38, e35, h9]; rfl) c42
          | some kd => exact ⟨kd, rfl⟩
        have hkd4 : kd < 4 := by
          split at hkd
          · exact kdN_lt hkd
          · cases hkd
        have hv38 : v38 = nI kd := by rw [ev38, e35, hkd]; rfl
        have hrp : (rdPiece tb L D f p) = pb (rdNum tb L 0 1 (tkE tb L p)) (fun s => pb (rdFree tb L D s.2.2) fun q => pb (rdNum tb L 0 9 q.2.2) fun o => pb (rdSgn tb L o.2.2) fun e => .inr ((adF (dF D) kd s.1, adB (dB D) (rN (dF D)) q.1 o.1, dBd D, dOd D, dTn D), e)) := by unfold rdPiece; rw [if_neg (by omega), if_neg hK, hkd]
        refine g_aload_n C (pc := 55) dX10_readPiece_55 1 rfl ?_
        refine g_iconst C (pc := 56) 0 dX10_readPiece_56 (by decide) ?_
        refine g_iconst C (pc := 57) 1 dX10_readPiece_57 (by decide) ?_
        refine g_callVI C (pc := 58) mf_X10_readNumber lk_RX10_100 (c_X10_readNumber n ρ I26 L tb 0 1 (tkE tb L p) _ _ hn9 hxs htb26 o9 hE.2 (by decide) (by decide) rfl rfl) (by decide) (Nat.le_refl _) rfl (by first | assumption | rfl | omega) rfl (by first | assumption | rfl | omega) (Nat.le_of_ble_eq_true rfl) dX10_readPiece_58 (fun v58 I58 h58 => ?_)
        obtain h58 := h58
        refine g_if_ne C (pc := 61) 66 dX10_readPiece_61 (by decide) (fun c61 => ?_) (fun c61 => ?_)
        · obtain ⟨s, hs0, w12, w11, w9, w4⟩ := h58.t c61
          have hok1 := rdNum_ok hE.2 hs0
          have hdr56 := h58.2.2.dr hdr26
          have htb56 := htb26.fr h58.2.2.tf
          refine g_aload_n C (pc := 66) dX10_readPiece_66 1 rfl ?_
          refine g_getI C (pc := 67) fl_RX10_107 (by decide) (by first | assumption | rfl | omega) (by first | assumption | rfl | omega) dX10_readPiece_67 ?_
          refine g_istore_n C (pc := 70) dX10_readPiece_70 (by decide) (fun v70 => [(2, .int v70), (1, .int v38), (0, .ref 15)]) (fun _ => rfl) (fun v70 ev70 => ?_)
          refine g_aload_n C (pc := 71) dX10_readPiece_71 2 rfl ?_
          refine g_callVI C (pc := 72) mf_X10_readFreeSquare lk_RX10_121 (c_X10_readFreeSquare n ρ I58 L tb D s.2.2 hn9 hxs htb56 w9 hok1.2.2.2 hdr56) (by decide) (Nat.le_refl _) rfl (by first | assumption | rfl | omega) rfl (by first | assumption | rfl | omega) (Nat.le_of_ble_eq_true rfl) dX10_readPiece_72 (fun v72 I72 h72 => ?_)
          obtain h72 := h72
          refine g_if_ne C (pc := 75) 80 dX10_readPiece_75 (by decide) (fun c75 => ?_) (fun c75 => ?_)
          · obtain ⟨q, hq0, x12, x11, x9, x4⟩ := h72.t c75
            have hokq := rdFree_ok hok1.2.2.2 hq0
            have hdr72 := h72.2.2.dr hdr56
            have htb72 := htb56.fr h72.2.2.tf
            refine g_aload_n C (pc := 80) dX10_readPiece_80 2 rfl ?_
            refine g_getI C (pc := 81) fl_RX10_107 (by decide) (by first | assumption | rfl | omega) (by first | assumption | rfl | omega) dX10_readPiece_81 ?_
            refine g_istore_n C (pc := 84) dX10_readPiece_84 (by decide) (fun v84 => [(3, .int v84), (2, .int v70), (1, .int v38), (0, .ref 15)]) (fun _ => rfl) (fun v84 ev84 => ?_)
            refine g_aload_n C (pc := 85) dX10_readPiece_85 3 rfl ?_
            refine g_iconst C (pc := 86) 0 dX10_readPiece_86 (by decide) ?_
            refine g_bipush C (pc := 87) 9 dX10_readPiece_87 (by decide) ?_
            refine g_callVI C (pc := 89) mf_X10_readNumber lk_RX10_100 (c_X10_readNumber n ρ I72 L tb 0 9 q.2.2 _ _ hn9 hxs htb72 x9 hokq.2.2.1 (by decide) (by decide) rfl rfl) (by decide) (Nat.le_refl _) rfl (by first | assumption | rfl | omega) rfl (by first | assumption | rfl | omega) (Nat.le_of_ble_eq_true rfl) dX10_readPiece_89 (fun v89 I89 h89 => ?_)
            obtain h89 := h89
            refine g_if_ne C (pc := 92) 97 dX10_readPiece_92 (by decide) (fun c92 => ?_) (fun c92 => ?_)
            · obtain ⟨o, ho0, y12, y11, y9, y4⟩ := h89.t c92
              have hoko := rdNum_ok hokq.2.2.1 ho0
              have hdr89 := h89.2.2.dr hdr72
              have htb89 := htb72.fr h89.2.2.tf
              have hN89 : I89 (17 + 1) 6 = nI (rN (dF D)) := hdr89.1.2.2.1
              refine g_aload_n C (pc := 97) dX10_readPiece_97 3 rfl ?_
              refine g_getR C (pc := 98) fl_RX10_18 (by decide) (by first | assumption | rfl | omega) (by first | assumption | rfl | omega) (by first | assumption | rfl | omega) dX10_readPiece_98 ?_
              refine g_iload_n C (pc := 101) dX10_readPiece_101 2 rfl ?_
              refine g_iload_n C (pc := 102) dX10_readPiece_102 1 rfl ?_
              refine g_iload_n C (pc := 103) dX10_readPiece_103 0 rfl ?_
              refine g_aload_n C (pc := 104) dX10_readPiece_104 3 rfl ?_
              refine g_getI C (pc := 105) fl_RX10_107 (by decide) (by first | assumption | rfl | omega) (by first | assumption | rfl | omega) dX10_readPiece_105 ?_
              refine g_callVV C (pc := 108) mf_X3_addPiece lk_RX10_135 (c_X3_addPiece n ρ I89 17 (rN (dF D)) s.1 _ _ _ _ hn9 xgd hN89 (by omega) (ev70.trans w12) (by omega)) (by decide) (Nat.le_refl _) rfl (by first | assumption | rfl | omega) rfl (by first | assumption | rfl | omega) (Nat.le_of_ble_eq_true rfl) dX10_readPiece_108 (fun I108 h108 => ?_)
              obtain h108 := h108
              have hak := (h108.resolve_right (fun h9 => by omega)).2
              rw [hv38, ev84, x12, y12] at hak
              have hAR := addK_R (g := 17) hdr89.1 drw hdr89.2.2.1 dbw h6 hkd4 (show s.1 < 2 by omega) (show q.1 < 25 by omega) hoko.2.1 (hdr89.2.2.2.2.1 _ (Nat.le_refl _) h6) hokq.2.2.2.2
              rw [hak] at hAR
              have htf108 : TFr I89 I108 := by rw [← hak]; exact ⟨fun i _ h2 => addK_n (by omega), by rw [addK_n (by omega)], by rw [addK_n (by omega)]⟩
              have hp108 : I108 15 9 = nI o.2.2 := by rw [← hak, addK_n (by omega)]; exact y9
              have htb108 := htb89.fr htf108
              have htfA : TFr I I89 := ((ht26.tr h58.2.2).tr (h72.2.2.tr h89.2.2)).tf
              refine g_aload_n C (pc := 111) dX10_readPiece_111 3 rfl ?_
              refine g_callVI C (pc := 112) mf_X10_readSign lk_RX10_118 (c_X10_readSign n ρ I108 L tb o.2.2 hn9 hxs htb108 hp108 hoko.2.2.2) (by decide) (Nat.le_refl _) rfl (by first | assumption | rfl | omega) rfl (by first | assumption | rfl | omega) (Nat.le_of_ble_eq_true rfl) dX10_readPiece_112 (fun v112 I112 h112 => ?_)
              obtain h112 := h112
              refine g_zret C hR (pc := 115) rfl (SgP.nar h112) dX10_readPiece_115 ?_
              refine ⟨rfl, _, rfl, ?_⟩
              have hrb : (rdPiece tb L D f p) = pb (rdSgn tb L o.2.2) (fun e => .inr ((adF (dF D) kd s.1, adB (dB D) (rN (dF D)) q.1 o.1, dBd D, dOd D, dTn D), e)) := by rw [hrp, pb_r hs0, pb_r hq0, pb_r ho0]
              refine ⟨fun e8 h9 => ?_, fun q8 h9 => ?_, (htfA.tr htf108).tr h112.2.2.tf⟩
              · cases h7 : rdSgn tb L o.2.2 with
                | inl x => rw [hrb, pb_l h7] at h9; cases h9; exact h112.1 _ h7
                | inr x => rw [hrb, pb_r h7] at h9; cases h9
              · cases h7 : rdSgn tb L o.2.2 with
                | inl x => rw [hrb, pb_l h7] at h9; cases h9
                | inr x =>
                  rw [hrb, pb_r h7] at h9; cases h9
                  obtain ⟨g1, g2, g3⟩ := h112.2.1 _ h7
                  have e15 : I108 15 = I89 15 := by rw [← hak, addK_n (by omega)]
                  have ko : ∀ i, i ≠ 15 → I112 i = I108 i := fun i h1 => h112.2.2.2 i h1
                  refine ⟨g1, ⟨hAR.1.cong (fun i hi => ko _ (by omega)), hAR.2.1, hAR.2.2.1.cong (fun i hi => ko _ (by omega)), hAR.2.2.2, ?_, ?_, ?_, ?_⟩, g2, ?_⟩
                  · intro p9 a c
                    replace a : rN (dF D) + 1 ≤ p9 := a
                    rw [ko 23 (by decide), ← hak, (addK_at (g := 17)).2.2.1, upd_n (by omega)]
                    exact hdr89.2.2.2.2.1 p9 (by omega) c
                  · rw [h112.2.2.1 6 (by simp), e15]; exact hdr89.2.2.2.2.2.1
                  · rw [h112.2.2.1 7 (by simp), e15]; exact hdr89.2.2.2.2.2.2.1
                  · rw [h112.2.2.1 8 (by simp), e15]; exact hdr89.2.2.2.2.2.2.2
                  · rw [g3, e15, y4, x4, w4, o4]
            · obtain ⟨e9, hr0, hr1, hr2⟩ := h89.f c92
              have hr : (rdPiece tb L D f p) = .inl e9 := by rw [hrp, pb_r hs0, pb_r hq0]; exact pb_l hr0
              refine g_iconst C (pc := 95) 0 dX10_readPiece_95 (by decide) ?_
              refine g_zret C hR (pc := 96) rfl rfl dX10_readPiece_96 ?_
              refine ⟨rfl, _, rfl, ?_⟩
              refine ⟨fun e8 h9 => ?_, fun q8 h9 => ?_, ((ht26.tr h58.2.2).tr (h72.2.2.tr h89.2.2)).tf⟩
              · rw [hr] at h9; cases h9; exact ⟨rfl, hr1, hr2⟩
              · rw [hr] at h9; cases h9
          · obtain ⟨e9, hr0, hr1, hr2⟩ := h72.f c75
            have hr : (rdPiece tb L D f p) = .inl e9 := by rw [hrp, pb_r hs0]; exact pb_l hr0
            refine g_iconst C (pc := 78) 0 dX10_readPiece_78 (by decide) ?_
            refine g_zret C hR (pc := 79) rfl rfl dX10_readPiece_79 ?_
            refine ⟨rfl, _, rfl, ?_⟩
            refine ⟨fun e8 h9 => ?_, fun q8 h9 => ?_, ((ht26.tr h58.2.2).tr h72.2.2).tf⟩
            · rw [hr] at h9; cases h9; exact ⟨rfl, hr1, hr2⟩
            · rw [hr] at h9; cases h9
        · obtain ⟨e9, hr0, hr1, hr2⟩ := h58.f c61
          have hr : (rdPiece tb L D f p) = .inl e9 := by rw [hrp]; exact pb_l hr0
          refine g_iconst C (pc := 64) 0 dX10_readPiece_64 (by decide) ?_
          refine g_zret C hR (pc := 65) rfl rfl dX10_readPiece_65 ?_
          refine ⟨rfl, _, rfl, ?_⟩
          refine ⟨fun e8 h9 => ?_, fun q8 h9 => ?_, (ht26.tr h58.2.2).tf⟩
          · rw [hr] at h9; cases h9; exact ⟨rfl, hr1, hr2⟩
          · rw [hr] at h9; cases h9
      · have hkn : (if tkK tb L p = 1 then kdN tb (tkF tb L p) (tkE tb L p) else none) = none := (oI_none (fun z hz => by
          split at hz
          · have := kdN_lt hz; omega
          · cases hz)).mp (by rw [← e35, ← ev38]; exact c42)
        have hr : (rdPiece tb L D f p) = .inl (2, tkF tb L p) := by unfold rdPiece; rw [if_neg (by omega), if_neg hK, hkn]
        refine g_aload_n C (pc := 45) dX10_readPiece_45 1 rfl ?_
        refine g_iconst C (pc := 46) 2 dX10_readPiece_46 (by decide) ?_
        refine g_aload_n C (pc := 47) dX10_readPiece_47 1 rfl ?_
        refine g_getI C (pc := 48) fl_RX10_93 (by decide) (by first | assumption | rfl | omega) (by first | assumption | rfl | omega) dX10_readPiece_48 ?_
        refine g_callVI C (pc := 51) mf_X10_fail lk_RX10_96 (c_X10_fail n ρ _ _ _ hn9 hxs) (by decide) (Nat.le_refl _) rfl (by first | assumption | rfl | omega) rfl (by first | assumption | rfl | omega) (Nat.le_of_ble_eq_true rfl) dX10_readPiece_51 (fun v51 I51 h51 => ?_)
        obtain ⟨rfl, rfl⟩ := h51
        refine g_zret C hR (pc := 54) rfl rfl dX10_readPiece_54 ?_
        refine ⟨rfl, _, rfl, ?_⟩
        refine ⟨fun e8 h9 => ?_, fun q8 h9 => ?_, ((ht26.w (by decide)).w (by decide)).tf⟩
        · rw [hr] at h9; cases h9; exact ⟨rfl, by rw [wr_sn (by decide), wr_ss]; rfl, by rw [wr_ss]; exact f26⟩
        · rw [hr] at h9; cases h9
    · have hK : tkK tb L p = 0 := Decidable.not_not.mp (bI_0.mp (e26.symm.trans c29))
      have hr : (rdPiece tb L D f p) = .inl (1, tkF tb L p) := by unfold rdPiece; rw [if_neg (by omega), if_pos hK]
      refine g_iconst C (pc := 32) 0 dX10_readPiece_32 (by decide) ?_
      refine g_zret C hR (pc := 33) rfl rfl dX10_readPiece_33 ?_
      refine ⟨rfl, _, rfl, ?_⟩
      refine ⟨fun e8 h9 => ?_, fun q8 h9 => ?_, ht26.tf⟩
      · rw [hr] at h9; cases h9; exact ⟨rfl, b26 hK⟩
      · rw [hr] at h9; cases h9
  · have h6 : 6 ≤ rN (dF D) := by
      have := drw.2.2.2.2.1
      rw [drr.2.2.1, show (6 : Int32) = nI 6 from rfl, nI_leI (by decide) (by omega)] at c12
      exact c12
    have hr : (rdPiece tb L D f p) = .inl (5, f) := by unfold rdPiece; rw [if_pos h6]
    refine g_aload_n C (pc := 15) dX10_readPiece_15 0 rfl ?_
    refine g_iconst C (pc := 16) 5 dX10_readPiece_16 (by decide) ?_
    refine g_aload_n C (pc := 17) dX10_readPiece_17 0 rfl ?_
    refine g_getI C (pc := 18) fl_RX10_93 (by decide) (by first | assumption | rfl | omega) (by first | assumption | rfl | omega) dX10_readPiece_18 ?_
    refine g_callVI C (pc := 21) mf_X10_fail lk_RX10_96 (c_X10_fail n ρ _ _ _ hn9 hxs) (by decide) (Nat.le_refl _) rfl (by first | assumption | rfl | omega) rfl (by first | assumption | rfl | omega) (Nat.le_of_ble_eq_true rfl) dX10_readPiece_21 (fun v21 I21 h21 => ?_)
    obtain ⟨rfl, rfl⟩ := h21
    refine g_zret C hR (pc := 24) rfl rfl dX10_readPiece_24 ?_
    refine ⟨rfl, _, rfl, ?_⟩
    refine ⟨fun e8 h9 => ?_, fun q8 h9 => ?_, ⟨fun i h1 h2 => by rw [wr_n h1, wr_n h1], by rw [wr_sn (by decide), wr_sn (by decide)], by rw [wr_sn (by decide), wr_sn (by decide)]⟩⟩
    · rw [hr] at h9; cases h9; exact ⟨rfl, by rw [wr_sn (by decide), wr_ss]; rfl, by rw [wr_ss]; exact hf11⟩
    · rw [hr] at h9; cases h9
set_option maxHeartbeats 400000 in
theorem c_X10_readOdds (n : Nat) (ρ : Rho) (I : Mem) (L : Nat) (tb : Nat → Nat) (D : DT) (f p : Nat) (hn9 : n ≤ 999) (hxs : XS n ρ) (htb : TbR I L tb) (hp : I 15 9 = nI p) (hpL : p ≤ L) (hdr : DrR I D) (hf11 : I 15 11 = nI f) (hfL : f ≤ L) : MI yX10_readOdds cX10_readOdds 2 (some .boolean) 3 [.ref 15] n ρ I (fun v I1 => LnP I I1 v (rdOdds tb L D f p)) := by
  refine MG.of (by decide +kernel) (Nat.le_of_ble_eq_true rfl) hn9 ?_
  intro κ C hR
  show G κ n ρ 0 [(0, .ref 15)] [] I
  obtain ⟨hxc, ⟨xb1, xb2, xb3, xb4, xb5, xb6, xb8⟩, ⟨xi0, xi1, xga, xgb⟩, ⟨xt0, xt1, xgd⟩, hch, ⟨xr0, xr1, xr2⟩, xa0, ⟨xw0, xw1⟩, xst⟩ := id hxs
  obtain ⟨xc0, xcn, xc1, hga, xc7, hss⟩ := id hxc
  have xcz : 0 < n := by omega
  obtain ⟨ga0, ga1, ga2, ga3, ga4, ga5, ga6, ga7, ga8, gan, hrf, hst⟩ := id hga
  have hrf0 := hrf.1
  have hst0 := hst.1
  have hsp := hch.sp
  obtain ⟨hp0, hpn, hp1, hp2, hp3, hp4⟩ := id hsp
  obtain ⟨hL, hL3, htbs⟩ := id htb
  obtain ⟨drr, drw, dbr, dbw, dpz, d6, d7, d8⟩ := id hdr
  obtain ⟨gd0, gd1, gd2, gd3, gd4, gd5, gd6, gd7, gd8, gdn, drf, dst⟩ := id xgd
  have drf0 := drf.1
  have dst0 := dst.1
  refine g_aload_n C (pc := 0) dX10_readOdds_0 0 rfl ?_
  refine g_getI C (pc := 1) fl_RX10_45 (by decide) (by first | assumption | rfl | omega) (by first | assumption | rfl | omega) dX10_readOdds_1 ?_
  refine g_if_eq C (pc := 4) 17 dX10_readOdds_4 (by decide) (fun c4 => ?_) (fun c4 => ?_)
  · have hbd : ¬ dOd D = true := bI_0.mp (d7.symm.trans c4)
    refine g_aload_n C (pc := 17) dX10_readOdds_17 0 rfl ?_
    refine g_iconst C (pc := 18) 1 dX10_readOdds_18 (by decide) ?_
    refine g_putI C (pc := 19) fl_RX10_45 (by decide) fp_9_7 (Or.inl rfl) ⟨rfl, rfl⟩ (by first | assumption | rfl | omega) (by first | assumption | rfl | omega) hn9 dX10_readOdds_19 ?_
    refine g_iconst C (pc := 22) 0 dX10_readOdds_22 (by decide) ?_
    refine g_istore_n C (pc := 23) dX10_readOdds_23 (by decide) (fun v23 => [(1, .int v23), (0, .ref 15)]) (fun _ => rfl) (fun v23 ev23 => ?_)
    have L24 : ∀ (k9 : Nat) (j : Nat) (gj : Nat → Nat) (fj pj : Nat) (wz1 : Int32) (J : Mem) (hw1 : wz1 = nI j) (hj : j ≤ 5) (hO : rdOds tb L 5 0 (rOd (dF D)) f p = rdOds tb L (5 - j) j gj fj pj) (hg9 : ∀ w, w < 5 → gj w ≤ 9 ∧ J 21 w = nI (gj w)) (hpj : J 15 9 = nI pj) (hpjL : pj ≤ L) (hfj : J 15 11 = nI fj) (hfjL : fj ≤ L) (hJt : TFr I J) (hJo : ∀ i, i ≠ 15 → i ≠ 21 → J i = I i) (hJ6 : J 15 6 = I 15 6 ∧ J 15 7 = 1 ∧ J 15 8 = I 15 8 ∧ J 15 4 = I 15 4), 5 - j < k9 → G κ n ρ 24 [(1, .int wz1), (0, .ref 15)] [] J := by
      intro k9
      induction k9 with
      | zero => intro j gj fj pj wz1 J hw1 hj hO hg9 hpj hpjL hfj hfjL hJt hJo hJ6 hm24; exact absurd hm24 (Nat.not_lt_zero _)
      | succ k9 ih24 =>
        intro j gj fj pj wz1 J hw1 hj hO hg9 hpj hpjL hfj hfjL hJt hJo hJ6 hm24
        subst hw1
        have htbJ := htb.fr hJt
        refine g_iload_n C (pc := 24) dX10_readOdds_24 0 rfl ?_
        refine g_iconst C (pc := 25) 5 dX10_readOdds_25 (by decide) ?_
        refine g_icmp_ge C (pc := 26) 62 dX10_readOdds_26 (by decide) (fun c26 => ?_) (fun c26 => ?_)
        · replace c26 := (nI_leI (a := 5) (b := j) (by decide) (by omega)).mp c26
          have hj5 : j = 5 := by omega
          have hrrG : RR J 18 (stO (dF D) gj) := ⟨by rw [hJo 18 (by decide) (by decide)]; exact drr.1, by rw [hJo 18 (by decide) (by decide)]; exact drr.2.1, by rw [hJo 18 (by decide) (by decide)]; exact drr.2.2.1, fun i hi => by rw [hJo 18 (by decide) (by decide)]; exact drr.2.2.2.1 i hi, fun p9 hp9 => by rw [hJo 19 (by decide) (by decide), hJo 20 (by decide) (by decide)]; exact drr.2.2.2.2.1 p9 hp9, fun w hw => (hg9 w hw).2⟩
          have hO5 : rdOds tb L 5 0 (rOd (dF D)) f p = .inr (gj, fj, pj) := by rw [hO, hj5]; rfl
          have hro : (rdOdds tb L D f p) = (if 0 < smP gj 5 then pb (rdSgn tb L pj) (fun e => .inr ((stO (dF D) gj, dB D, dBd D, true, dTn D), e)) else .inl (3, fj)) := by unfold rdOdds; rw [if_neg hbd, pb_r hO5]
          have hsm : smP gj 5 ≤ 5 * 9 := smP_le (k := 5) (fun w hw => (hg9 w hw).1)
          refine g_aload_n C (pc := 62) dX10_readOdds_62 1 rfl ?_
          refine g_getR C (pc := 63) fl_RX10_18 (by decide) (by first | assumption | rfl | omega) (by first | assumption | rfl | omega) (by first | assumption | rfl | omega) dX10_readOdds_63 ?_
          refine g_getR C (pc := 66) fl_RX10_103 (by decide) (by first | assumption | rfl | omega) (by first | assumption | rfl | omega) (by first | assumption | rfl | omega) dX10_readOdds_66 ?_
          refine g_callVI C (pc := 69) mf_X5_allOdds lk_RX10_143 (c_X5_allOdds n ρ J 18 (stO (dF D) gj) hn9 drf hrrG) (by decide) (Nat.le_refl _) rfl (by first | assumption | rfl | omega) rfl (by first | assumption | rfl | omega) (Nat.le_of_ble_eq_true rfl) dX10_readOdds_69 (fun v69 I69 h69 => ?_)
          obtain ⟨e69, rfl⟩ := h69
          refine g_if_le C (pc := 72) 82 dX10_readOdds_72 (by decide) (fun c72 => ?_) (fun c72 => ?_)
          · have hz0 : ¬ 0 < smP gj 5 := by
              intro h9
              rw [e69] at c72
              exact absurd c72 (nI_nle (n := smP gj 5) h9 (by omega))
            have hr : (rdOdds tb L D f p) = .inl (3, fj) := by rw [hro, if_neg hz0]
            refine g_aload_n C (pc := 82) dX10_readOdds_82 1 rfl ?_
            refine g_iconst C (pc := 83) 3 dX10_readOdds_83 (by decide) ?_
            refine g_aload_n C (pc := 84) dX10_readOdds_84 1 rfl ?_
            refine g_getI C (pc := 85) fl_RX10_93 (by decide) (by first | assumption | rfl | omega) (by first | assumption | rfl | omega) dX10_readOdds_85 ?_
            refine g_callVI C (pc := 88) mf_X10_fail lk_RX10_96 (c_X10_fail n ρ _ _ _ hn9 hxs) (by decide) (Nat.le_refl _) rfl (by first | assumption | rfl | omega) rfl (by first | assumption | rfl | omega) (Nat.le_of_ble_eq_true rfl) dX10_readOdds_88 (fun v88 I88 h88 => ?_)
            obtain ⟨rfl, rfl⟩ := h88
            refine g_zret C hR (pc := 91) rfl (by first | rfl | exact SgP.nar h76) dX10_readOdds_91 ?_
            refine ⟨rfl, _, rfl, ?_⟩
            first
            | (refine ⟨fun e8 h9 => ?_, fun q8 h9 => ?_, hJt.tr ⟨fun i h1 h2 => by rw [wr_n h1, wr_n h1], by rw [wr_sn (by decide), wr_sn (by decide)], by rw [wr_sn (by decide), wr_sn (by decide)]⟩⟩
               · rw [hr] at h9; cases h9; exact ⟨rfl, by rw [wr_sn (by decide), wr_ss]; rfl, by rw [wr_ss]; exact hfj⟩
               · rw [hr] at h9; cases h9)
            | (refine ⟨fun e8 h9 => ?_, fun q8 h9 => ?_, hJt.tr h76.2.2.tf⟩
               · cases h7 : rdSgn tb L pj with
                 | inl x => rw [hro, pb_l h7] at h9; cases h9; exact h76.1 _ h7
                 | inr x => rw [hro, pb_r h7] at h9; cases h9
               · cases h7 : rdSgn tb L pj with
                 | inl x => rw [hro, pb_l h7] at h9; cases h9
                 | inr x =>
                   rw [hro, pb_r h7] at h9; cases h9
                   obtain ⟨g1, g2, g3⟩ := h76.2.1 _ h7
                   have ko : ∀ i, i ≠ 15 → I76 i = J i := fun i h1 => h76.2.2.2 i h1
                   refine ⟨g1, ⟨hrrG.cong (fun i hi => ko _ (by omega)), ⟨drw.1, drw.2.1, drw.2.2.1, drw.2.2.2.1, drw.2.2.2.2.1, drw.2.2.2.2.2.1, fun w hw => (hg9 w hw).1, drw.2.2.2.2.2.2.2⟩, dbr.cong (fun i hi => by rw [ko _ (by omega), hJo _ (by omega) (by omega)]), dbw, ?_, ?_, ?_, ?_⟩, g2, ?_⟩
                   · intro p9 a c; rw [ko 23 (by decide), hJo 23 (by decide) (by decide)]; exact dpz p9 a c
                   · rw [h76.2.2.1 6 (by simp), hJ6.1]; exact d6
                   · rw [h76.2.2.1 7 (by simp), hJ6.2.1]; rfl
                   · rw [h76.2.2.1 8 (by simp), hJ6.2.2.1]; exact d8
                   · rw [g3]; exact hJ6.2.2.2)
          · have hz0 : 0 < smP gj 5 := by
              rw [e69] at c72
              exact (nI_ltI (a := 0) (b := smP gj 5) (by decide) (by omega)).mp c72
            rw [if_pos hz0] at hro
            refine g_aload_n C (pc := 75) dX10_readOdds_75 1 rfl ?_
            refine g_callVI C (pc := 76) mf_X10_readSign lk_RX10_118 (c_X10_readSign n ρ J L tb pj hn9 hxs htbJ hpj hpjL) (by decide) (Nat.le_refl _) rfl (by first | assumption | rfl | omega) rfl (by first | assumption | rfl | omega) (Nat.le_of_ble_eq_true rfl) dX10_readOdds_76 (fun v76 I76 h76 => ?_)
            obtain h76 := h76
            refine g_goto C (pc := 79) 91 dX10_readOdds_79 (by decide) ?_
            refine g_zret C hR (pc := 91) rfl (by first | rfl | exact SgP.nar h76) dX10_readOdds_91 ?_
            refine ⟨rfl, _, rfl, ?_⟩
            first
            | (refine ⟨fun e8 h9 => ?_, fun q8 h9 => ?_, hJt.tr ⟨fun i h1 h2 => by rw [wr_n h1, wr_n h1], by rw [wr_sn (by decide), wr_sn (by decide)], by rw [wr_sn (by decide), wr_sn (by decide)]⟩⟩
               · rw [hr] at h9; cases h9; exact ⟨rfl, by rw [wr_sn (by decide), wr_ss]; rfl, by rw [wr_ss]; exact hfj⟩
               · rw [hr] at h9; cases h9)
            | (refine ⟨fun e8 h9 => ?_, fun q8 h9 => ?_, hJt.tr h76.2.2.tf⟩
               · cases h7 : rdSgn tb L pj with
                 | inl x => rw [hro, pb_l h7] at h9; cases h9; exact h76.1 _ h7
                 | inr x => rw [hro, pb_r h7] at h9; cases h9
               · cases h7 : rdSgn tb L pj with
                 | inl x => rw [hro, pb_l h7] at h9; cases h9
                 | inr x =>
                   rw [hro, pb_r h7] at h9; cases h9
                   obtain ⟨g1, g2, g3⟩ := h76.2.1 _ h7
                   have ko : ∀ i, i ≠ 15 → I76 i = J i := fun i h1 => h76.2.2.2 i h1
                   refine ⟨g1, ⟨hrrG.cong (fun i hi => ko _ (by omega)), ⟨drw.1, drw.2.1, drw.2.2.1, drw.2.2.2.1, drw.2.2.2.2.1, drw.2.2.2.2.2.1, fun w hw => (hg9 w hw).1, drw.2.2.2.2.2.2.2⟩, dbr.cong (fun i hi => by rw [ko _ (by omega), hJo _ (by omega) (by omega)]), dbw, ?_, ?_, ?_, ?_⟩, g2, ?_⟩
                   · intro p9 a c; rw [ko 23 (by decide), hJo 23 (by decide) (by decide)]; exact dpz p9 a c
                   · rw [h76.2.2.1 6 (by simp), hJ6.1]; exact d6
                   · rw [h76.2.2.1 7 (by simp), hJ6.2.1]; rfl
                   · rw [h76.2.2.1 8 (by simp), hJ6.2.2.1]; exact d8
                   · rw [g3]; exact hJ6.2.2.2)
        · replace c26 := (nI_ltI (a := j) (b := 5) (by omega) (by decide)).mp c26
          refine g_aload_n C (pc := 29) dX10_readOdds_29 1 rfl ?_
          refine g_iconst C (pc := 30) 0 dX10_readOdds_30 (by decide) ?_
          refine g_bipush C (pc := 31) 9 dX10_readOdds_31 (by decide) ?_
          refine g_callVI C (pc := 33) mf_X10_readNumber lk_RX10_100 (c_X10_readNumber n ρ J L tb 0 9 pj _ _ hn9 hxs htbJ hpj hpjL (by decide) (by decide) rfl rfl) (by decide) (Nat.le_refl _) rfl (by first | assumption | rfl | omega) rfl (by first | assumption | rfl | omega) (Nat.le_of_ble_eq_true rfl) dX10_readOdds_33 (fun v33 I33 h33 => ?_)
          obtain h33 := h33
          refine g_if_ne C (pc := 36) 41 dX10_readOdds_36 (by decide) (fun c36 => ?_) (fun c36 => ?_)
          · obtain ⟨q, hq0, v12, v11, v9, v4⟩ := h33.t c36
            have hok := rdNum_ok hpjL hq0
            refine g_aload_n C (pc := 41) dX10_readOdds_41 1 rfl ?_
            refine g_getR C (pc := 42) fl_RX10_18 (by decide) (by first | assumption | rfl | omega) (by first | assumption | rfl | omega) (by first | assumption | rfl | omega) dX10_readOdds_42 ?_
            refine g_getR C (pc := 45) fl_RX10_103 (by decide) (by first | assumption | rfl | omega) (by first | assumption | rfl | omega) (by first | assumption | rfl | omega) dX10_readOdds_45 ?_
            refine g_iload_n C (pc := 48) dX10_readOdds_48 0 rfl ?_
            refine g_aload_n C (pc := 49) dX10_readOdds_49 1 rfl ?_
            refine g_getI C (pc := 50) fl_RX10_107 (by decide) (by first | assumption | rfl | omega) (by first | assumption | rfl | omega) dX10_readOdds_50 ?_
            refine g_callVV C (pc := 53) mf_X5_setOdds lk_RX10_139 (c_X5_setOdds n ρ I33 18 _ _ hn9 drf) (by decide) (Nat.le_refl _) rfl (by first | assumption | rfl | omega) rfl (by first | assumption | rfl | omega) (Nat.le_of_ble_eq_true rfl) dX10_readOdds_53 (fun I53 h53 => ?_)
            obtain h53 := h53
            have h53w : I53 = wr I33 21 j (nI q.1) := by
              rw [if_pos ⟨nI_pos' (by omega), nI_lt (b := 5) c26 (by decide)⟩, nI_clamp (by omega), v12] at h53
              exact h53.symm
            refine g_iinc C (pc := 56) (1) dX10_readOdds_56 0 rfl (by decide) (by decide) (fun v56 => [(1, .int v56), (0, .ref 15)]) (fun _ => rfl) (fun v56 ev56 => ?_)
            refine g_goto C (pc := 59) 24 dX10_readOdds_59 (by decide) ?_
            refine g_lv C [0, 1] rfl (ih24 (j + 1) (fun w => if w = j then q.1 else gj w) q.2.1 q.2.2 _ _ ?_ ?_ ?_ ?_ ?_ ?_ ?_ ?_ ?_ ?_ ?_ (by omega))
            · subst_vars; exact nI_1 _
            · omega
            · rw [hO, show 5 - j = (5 - (j + 1)) + 1 by omega, rdOds, pb_r hq0]
            · intro w hw
              show (if w = j then q.1 else gj w) ≤ 9 ∧ I53 21 w = nI (if w = j then q.1 else gj w)
              rw [h53w]
              by_cases e9 : w = j
              · subst e9; rw [wr_ss, if_pos rfl]; exact ⟨hok.2.1, rfl⟩
              · rw [wr_sn e9, if_neg e9, h33.2.2.2 21 (by decide)]; exact hg9 w hw
            · rw [h53w, wr_n (by decide)]; exact v9
            · exact hok.2.2.2
            · rw [h53w, wr_n (by decide)]; exact v11
            · exact hok.2.2.1
            · rw [h53w]; exact (hJt.tr h33.2.2.tf).tr ⟨fun i _ h2 => wr_n (fun e => h2 (by omega)), by rw [wr_n (by decide)], by rw [wr_n (by decide)]⟩
            · intro i h1 h2; rw [h53w, wr_n h2, h33.2.2.2 i h1]; exact hJo i h1 h2
            · rw [h53w, wr_n (by decide), h33.2.2.1 6 (by simp), h33.2.2.1 7 (by simp), h33.2.2.1 8 (by simp), v4]; exact hJ6
          · obtain ⟨e9, hr0, hr1, hr2⟩ := h33.f c36
            have hr : (rdOdds tb L D f p) = .inl e9 := by unfold rdOdds; rw [if_neg hbd]; refine pb_l ?_; rw [hO, show 5 - j = (5 - (j + 1)) + 1 by omega, rdOds]; exact pb_l hr0
            refine g_iconst C (pc := 39) 0 dX10_readOdds_39 (by decide) ?_
            refine g_zret C hR (pc := 40) rfl rfl dX10_readOdds_40 ?_
            refine ⟨rfl, _, rfl, ?_⟩
            refine ⟨fun e8 h9 => ?_, fun q8 h9 => ?_, hJt.tr h33.2.2.tf⟩
            · rw [hr] at h9; cases h9; exact ⟨rfl, hr1, hr2⟩
            · rw [hr] at h9; cases h9
    refine g_lv C [0, 1] rfl (L24 (_ + 1) 0 (rOd (dF D)) f p _ _ ?_ ?_ ?_ ?_ ?_ ?_ ?_ ?_ ?_ ?_ ?_ (by first | omega | exact Nat.lt_succ_self _))
    · subst_vars; rfl
    · omega
    · rfl
    · intro w hw; rw [wr_n (by decide)]; exact ⟨drw.2.2.2.2.2.2.1 w hw, drr.2.2.2.2.2 w hw⟩
    · rw [wr_sn (by decide)]; exact hp
    · exact hpL
    · rw [wr_sn (by decide)]; exact hf11
    · exact hfL
    · exact ⟨fun i h1 _ => wr_n h1, wr_sn (by decide), wr_sn (by decide)⟩
    · intro i h1 _; exact wr_n h1
    · exact ⟨wr_sn (by decide), wr_ss, wr_sn (by decide), wr_sn (by decide)⟩
  · have hbd : dOd D = true := bI_1.mp (fun h => c4 (d7.trans h))
    refine g_aload_n C (pc := 7) dX10_readOdds_7 0 rfl ?_
    refine g_iconst C (pc := 8) 4 dX10_readOdds_8 (by decide) ?_
    refine g_aload_n C (pc := 9) dX10_readOdds_9 0 rfl ?_
    refine g_getI C (pc := 10) fl_RX10_93 (by decide) (by first | assumption | rfl | omega) (by first | assumption | rfl | omega) dX10_readOdds_10 ?_
    refine g_callVI C (pc := 13) mf_X10_fail lk_RX10_96 (c_X10_fail n ρ _ _ _ hn9 hxs) (by decide) (Nat.le_refl _) rfl (by first | assumption | rfl | omega) rfl (by first | assumption | rfl | omega) (Nat.le_of_ble_eq_true rfl) dX10_readOdds_13 (fun v13 I13 h13 => ?_)
    obtain ⟨rfl, rfl⟩ := h13
    refine g_zret C hR (pc := 16) rfl rfl dX10_readOdds_16 ?_
    refine ⟨rfl, _, rfl, ?_⟩
    have hr : (rdOdds tb L D f p) = .inl (4, f) := by unfold rdOdds; rw [if_pos hbd]
    refine ⟨fun e8 h9 => ?_, fun q8 h9 => ?_, ⟨fun i h1 h2 => by rw [wr_n h1, wr_n h1], by rw [wr_sn (by decide), wr_sn (by decide)], by rw [wr_sn (by decide), wr_sn (by decide)]⟩⟩
    · rw [hr] at h9; cases h9; exact ⟨rfl, by rw [wr_sn (by decide), wr_ss]; rfl, by rw [wr_ss]; exact hf11⟩
    · rw [hr] at h9; cases h9
set_option maxHeartbeats 400000 in
theorem c_X10_readLine (n : Nat) (ρ : Rho) (I : Mem) (L : Nat) (tb : Nat → Nat) (D : DT) (k f e : Nat) (hn9 : n ≤ 999) (hxs : XS n ρ) (htb : TbR I L tb) (hdr : DrR I D) (hk10 : I 15 10 = nI k) (he9 : I 15 9 = nI e) (hf11 : I 15 11 = nI f) (hfe : f ≤ e) (heL : e ≤ L) (hk5 : k < 5) : MI yX10_readLine cX10_readLine 1 (some .boolean) 8 [.ref 15] n ρ I (fun v I1 => LnP I I1 v (rdLine tb L D k f e)) := by
  refine MG.of (by decide +kernel) (Nat.le_of_ble_eq_true rfl) hn9 ?_
  intro κ C hR
  show G κ n ρ 0 [(0, .ref 15)] [] I
  obtain ⟨hxc, ⟨xb1, xb2, xb3, xb4, xb5, xb6, xb8⟩, ⟨xi0, xi1, xga, xgb⟩, ⟨xt0, xt1, xgd⟩, hch, ⟨xr0, xr1, xr2⟩, xa0, ⟨xw0, xw1⟩, xst⟩ := id hxs
  obtain ⟨xc0, xcn, xc1, hga, xc7, hss⟩ := id hxc
  have xcz : 0 < n := by omega
  obtain ⟨ga0, ga1, ga2, ga3, ga4, ga5, ga6, ga7, ga8, gan, hrf, hst⟩ := id hga
  have hrf0 := hrf.1
  have hst0 := hst.1
  have hsp := hch.sp
  obtain ⟨hp0, hpn, hp1, hp2, hp3, hp4⟩ := id hsp
  obtain ⟨hL, hL3, htbs⟩ := id htb
  obtain ⟨drr, drw, dbr, dbw, dpz, d6, d7, d8⟩ := id hdr
  obtain ⟨gd0, gd1, gd2, gd3, gd4, gd5, gd6, gd7, gd8, gdn, drf, dst⟩ := id xgd
  have drf0 := drf.1
  have dst0 := dst.1
  refine g_aload_n C (pc := 0) dX10_readLine_0 0 rfl ?_
  refine g_ldcS C (pc := 1) 0 rfl rfl dX10_readLine_1 ?_
  refine g_callVI C (pc := 3) mf_X10_isName lk_RX10_66 (c_X10_isName n ρ I L tb 0 k f e hn9 hxs htb (by decide) hk10 he9 hf11 hfe heL hk5) (by decide) (Nat.le_refl _) rfl (by first | assumption | rfl | omega) rfl (by first | assumption | rfl | omega) (Nat.le_of_ble_eq_true rfl) dX10_readLine_3 (fun v3 I3 h3 => ?_)
  obtain ⟨e3, rfl⟩ := h3
  refine g_if_eq C (pc := 6) 14 dX10_readLine_6 (by decide) (fun c6 => ?_) (fun c6 => ?_)
  · have hn0 := bI_0.mp (e3.symm.trans c6)
    refine g_aload_n C (pc := 14) dX10_readLine_14 0 rfl ?_
    refine g_ldcS C (pc := 15) 1 rfl rfl dX10_readLine_15 ?_
    refine g_callVI C (pc := 17) mf_X10_isName lk_RX10_66 (c_X10_isName n ρ I L tb 1 k f e hn9 hxs htb (by decide) hk10 he9 hf11 hfe heL hk5) (by decide) (Nat.le_refl _) rfl (by first | assumption | rfl | omega) rfl (by first | assumption | rfl | omega) (Nat.le_of_ble_eq_true rfl) dX10_readLine_17 (fun v17 I17 h17 => ?_)
    obtain ⟨e17, rfl⟩ := h17
    refine g_if_eq C (pc := 20) 28 dX10_readLine_20 (by decide) (fun c20 => ?_) (fun c20 => ?_)
    · have hn1 := bI_0.mp (e17.symm.trans c20)
      refine g_aload_n C (pc := 28) dX10_readLine_28 0 rfl ?_
      refine g_ldcS C (pc := 29) 2 rfl rfl dX10_readLine_29 ?_
      refine g_callVI C (pc := 31) mf_X10_isName lk_RX10_66 (c_X10_isName n ρ I L tb 2 k f e hn9 hxs htb (by decide) hk10 he9 hf11 hfe heL hk5) (by decide) (Nat.le_refl _) rfl (by first | assumption | rfl | omega) rfl (by first | assumption | rfl | omega) (Nat.le_of_ble_eq_true rfl) dX10_readLine_31 (fun v31 I31 h31 => ?_)
      obtain ⟨e31, rfl⟩ := h31
      refine g_if_eq C (pc := 34) 42 dX10_readLine_34 (by decide) (fun c34 => ?_) (fun c34 => ?_)
      · have hn2 := bI_0.mp (e31.symm.trans c34)
        refine g_aload_n C (pc := 42) dX10_readLine_42 0 rfl ?_
        refine g_ldcS C (pc := 43) 3 rfl rfl dX10_readLine_43 ?_
        refine g_callVI C (pc := 45) mf_X10_isName lk_RX10_66 (c_X10_isName n ρ I L tb 3 k f e hn9 hxs htb (by decide) hk10 he9 hf11 hfe heL hk5) (by decide) (Nat.le_refl _) rfl (by first | assumption | rfl | omega) rfl (by first | assumption | rfl | omega) (Nat.le_of_ble_eq_true rfl) dX10_readLine_45 (fun v45 I45 h45 => ?_)
        obtain ⟨e45, rfl⟩ := h45
        refine g_if_eq C (pc := 48) 56 dX10_readLine_48 (by decide) (fun c48 => ?_) (fun c48 => ?_)
        · have hn3 := bI_0.mp (e45.symm.trans c48)
          refine g_aload_n C (pc := 56) dX10_readLine_56 0 rfl ?_
          refine g_ldcS C (pc := 57) 4 rfl rfl dX10_readLine_57 ?_
          refine g_callVI C (pc := 59) mf_X10_isName lk_RX10_66 (c_X10_isName n ρ I L tb 4 k f e hn9 hxs htb (by decide) hk10 he9 hf11 hfe heL hk5) (by decide) (Nat.le_refl _) rfl (by first | assumption | rfl | omega) rfl (by first | assumption | rfl | omega) (Nat.le_of_ble_eq_true rfl) dX10_readLine_59 (fun v59 I59 h59 => ?_)
          obtain ⟨e59, rfl⟩ := h59
          refine g_if_eq C (pc := 62) 70 dX10_readLine_62 (by decide) (fun c62 => ?_) (fun c62 => ?_)
          · have hn4 := bI_0.mp (e59.symm.trans c62)
            refine g_aload_n C (pc := 70) dX10_readLine_70 0 rfl ?_
            refine g_iconst C (pc := 71) 2 dX10_readLine_71 (by decide) ?_
            refine g_aload_n C (pc := 72) dX10_readLine_72 0 rfl ?_
            refine g_getI C (pc := 73) fl_RX10_93 (by decide) (by first | assumption | rfl | omega) (by first | assumption | rfl | omega) dX10_readLine_73 ?_
            refine g_callVI C (pc := 76) mf_X10_fail lk_RX10_96 (c_X10_fail n ρ _ _ _ hn9 hxs) (by decide) (Nat.le_refl _) rfl (by first | assumption | rfl | omega) rfl (by first | assumption | rfl | omega) (Nat.le_of_ble_eq_true rfl) dX10_readLine_76 (fun v76 I76 h76 => ?_)
            obtain ⟨rfl, rfl⟩ := h76
            refine g_zret C hR (pc := 79) rfl rfl dX10_readLine_79 ?_
            refine ⟨rfl, _, rfl, ?_⟩
            have hr : (rdLine tb L D k f e) = .inl (2, f) := by unfold rdLine; rw [if_neg hn0, if_neg hn1, if_neg hn2, if_neg hn3, if_neg hn4]
            refine ⟨fun e8 h9 => ?_, fun q8 h9 => ?_, ⟨fun i h1 h2 => by rw [wr_n h1, wr_n h1], by rw [wr_sn (by decide), wr_sn (by decide)], by rw [wr_sn (by decide), wr_sn (by decide)]⟩⟩
            · rw [hr] at h9; cases h9; exact ⟨rfl, by rw [wr_sn (by decide), wr_ss]; rfl, by rw [wr_ss]; exact hf11⟩
            · rw [hr] at h9; cases h9
          · have hy4 := bI_1.mp (fun h => c62 (e59.trans h))
            refine g_aload_n C (pc := 65) dX10_readLine_65 0 rfl ?_
            refine g_callVI C (pc := 66) mf_X10_readTurn lk_RX10_90 (c_X10_readTurn n ρ I L tb D f e hn9 hxs htb he9 heL hdr hf11 (by omega)) (by decide) (Nat.le_refl _) rfl (by first | assumption | rfl | omega) rfl (by first | assumption | rfl | omega) (Nat.le_of_ble_eq_true rfl) dX10_readLine_66 (fun v66 I66 h66 => ?_)
            obtain h66 := h66
            refine g_zret C hR (pc := 69) rfl (LnP.nar h66) dX10_readLine_69 ?_
            refine ⟨rfl, _, rfl, ?_⟩
            have hr : (rdLine tb L D k f e) = rdTurn tb L D f e := by unfold rdLine; rw [if_neg hn0, if_neg hn1, if_neg hn2, if_neg hn3, if_pos hy4]
            rw [hr]; exact h66
        · have hy3 := bI_1.mp (fun h => c48 (e45.trans h))
          refine g_aload_n C (pc := 51) dX10_readLine_51 0 rfl ?_
          refine g_callVI C (pc := 52) mf_X10_readOdds lk_RX10_85 (c_X10_readOdds n ρ I L tb D f e hn9 hxs htb he9 heL hdr hf11 (by omega)) (by decide) (Nat.le_refl _) rfl (by first | assumption | rfl | omega) rfl (by first | assumption | rfl | omega) (Nat.le_of_ble_eq_true rfl) dX10_readLine_52 (fun v52 I52 h52 => ?_)
          obtain h52 := h52
          refine g_zret C hR (pc := 55) rfl (LnP.nar h52) dX10_readLine_55 ?_
          refine ⟨rfl, _, rfl, ?_⟩
          have hr : (rdLine tb L D k f e) = rdOdds tb L D f e := by unfold rdLine; rw [if_neg hn0, if_neg hn1, if_neg hn2, if_pos hy3]
          rw [hr]; exact h52
      · have hy2 := bI_1.mp (fun h => c34 (e31.trans h))
        refine g_aload_n C (pc := 37) dX10_readLine_37 0 rfl ?_
        refine g_callVI C (pc := 38) mf_X10_readPiece lk_RX10_80 (c_X10_readPiece n ρ I L tb D f e hn9 hxs htb he9 heL hdr hf11 (by omega)) (by decide) (Nat.le_refl _) rfl (by first | assumption | rfl | omega) rfl (by first | assumption | rfl | omega) (Nat.le_of_ble_eq_true rfl) dX10_readLine_38 (fun v38 I38 h38 => ?_)
        obtain h38 := h38
        refine g_zret C hR (pc := 41) rfl (LnP.nar h38) dX10_readLine_41 ?_
        refine ⟨rfl, _, rfl, ?_⟩
        have hr : (rdLine tb L D k f e) = rdPiece tb L D f e := by unfold rdLine; rw [if_neg hn0, if_neg hn1, if_pos hy2]
        rw [hr]; exact h38
    · have hy1 := bI_1.mp (fun h => c20 (e17.trans h))
      refine g_aload_n C (pc := 23) dX10_readLine_23 0 rfl ?_
      refine g_callVI C (pc := 24) mf_X10_readSteeple lk_RX10_75 (c_X10_readSteeple n ρ I L tb D e hn9 hxs htb he9 heL hdr) (by decide) (Nat.le_refl _) rfl (by first | assumption | rfl | omega) rfl (by first | assumption | rfl | omega) (Nat.le_of_ble_eq_true rfl) dX10_readLine_24 (fun v24 I24 h24 => ?_)
      obtain h24 := h24
      refine g_zret C hR (pc := 27) rfl (LnP.nar h24) dX10_readLine_27 ?_
      refine ⟨rfl, _, rfl, ?_⟩
      have hr : (rdLine tb L D k f e) = rdStp tb L D e := by unfold rdLine; rw [if_neg hn0, if_pos hy1]
      rw [hr]; exact h24
  · have hy0 := bI_1.mp (fun h => c6 (e3.trans h))
    refine g_aload_n C (pc := 9) dX10_readLine_9 0 rfl ?_
    refine g_callVI C (pc := 10) mf_X10_readBoard lk_RX10_70 (c_X10_readBoard n ρ I L tb D f e hn9 hxs htb he9 heL hdr hf11 (by omega)) (by decide) (Nat.le_refl _) rfl (by first | assumption | rfl | omega) rfl (by first | assumption | rfl | omega) (Nat.le_of_ble_eq_true rfl) dX10_readLine_10 (fun v10 I10 h10 => ?_)
    obtain h10 := h10
    refine g_zret C hR (pc := 13) rfl (LnP.nar h10) dX10_readLine_13 ?_
    refine ⟨rfl, _, rfl, ?_⟩
    have hr : (rdLine tb L D k f e) = rdBoard tb L D f e := by unfold rdLine; rw [if_pos hy0]
    rw [hr]; exact h10
