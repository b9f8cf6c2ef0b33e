def sinA (F : RT) (b b0 : BT) (m : Nat) (u : Int32) : Int32 := if u = 0 then nI (fnd F (asB F b) m b0).length else match fnd F (asB F b) m b0 with
  | [] => -4
  | r :: _ => oI (r.1[(u - 10).toNatClampNeg]?)
theorem asked_of {u : Int32} (h : u = 0 ∨ (10 ≤ u ∧ u ≤ 12)) (h0 : ¬ u = 0) : ∃ i, i < 3 ∧ u - 10 = nI i := by
  rcases h with h | ⟨h1, h2⟩
  · exact absurd h h0
  · have h3 := Int32.le_iff_toInt_le.mp h1
    have h4 := Int32.le_iff_toInt_le.mp h2
    have e1 : (10 : Int32).toInt = 10 := by decide
    have e2 : (12 : Int32).toInt = 12 := by decide
    have : u.toInt = 10 ∨ u.toInt = 11 ∨ u.toInt = 12 := by omega
    rcases this with h5 | h5 | h5
    · exact ⟨0, by decide, by rw [show u = 10 from Int32.toInt_inj.mp (h5.trans e1.symm)]; rfl⟩
    · exact ⟨1, by decide, by rw [show u = 11 from Int32.toInt_inj.mp h5]; rfl⟩
    · exact ⟨2, by decide, by rw [show u = 12 from Int32.toInt_inj.mp h5]; rfl⟩
theorem aim_rw {n r g : Nat} {ρ ρ' : Rho} (e : ρ' = rwr (rwr ρ 54 0 (some r)) 54 1 (some g)) (h : XS n ρ) : ρ' 54 0 = some r ∧ ρ' 54 1 = some g ∧ XS n ρ' := by
  refine ⟨by rw [e, rwr_n (by omega), rwr_s], by rw [e, rwr_s], ?_⟩
  exact XS.rw (XS.rw h (rfl : rwr ρ 54 0 (some r) = _) (Or.inr rfl)) e (Or.inr rfl)
theorem GaS.rw2 {n a r g : Nat} {ρ ρ' : Rho} (h : GaS n ρ a) (e : ρ' = rwr (rwr ρ 54 0 (some r)) 54 1 (some g)) (ha : 54 < a) : GaS n ρ' a :=
  GaS.rw (GaS.rw h (rfl : rwr ρ 54 0 (some r) = _) (by omega) (by omega) (by omega)) e (by omega) (by omega) (by omega)
set_option maxHeartbeats 400000 in
theorem c_X11_since_y (n : Nat) (ρ : Rho) (I : Mem) (F : RT) (b : BT) (kp : Nat → Bool) (bi : Nat → BT) (x z u : Int32) (hn9 : n ≤ 999) (hxs : XS n ρ) (hrr : RR I (1 + 1) F) (hrw : RW F) (hbr : BR I (1 + 5) F b) (hbw : BW F b) (him : ∀ k, k < 2 → I 14 k = bI (kp k = true) ∧ (kp k = true → BR I (73 + 12 * k + 5) F (bi k) ∧ BW F (bi k))) (hkpv : ∀ k, x = nI k → kp k = true) : MG yX11_since cX11_since 7 (some .int) 22 0 [.ref 0, .int x, .int z, .int u] n ρ I (fun r9 ρ9 I1 => (∃ k m, (k < 2 ∧ m ≤ 3 ∧ x = nI k ∧ z = nI m ∧ (u = 0 ∨ (10 ≤ u ∧ u ≤ 12))) ∧ ((kp k = false ∧ ρ9 = ρ ∧ r9 = some (.int (-2)) ∧ I = I1) ∨ (kp k = true ∧ ρ9 = rwr (rwr (rwr ρ 54 0 (some 2)) 54 1 (some 6)) 53 3 (some 47) ∧ r9 = some (.int (sinA F b (bi k) m u)) ∧ ∀ i, ¬ (29 ≤ i ∧ i ≤ 57) → I1 i = I i))) ∨ (¬ (∃ k m, (k < 2 ∧ m ≤ 3 ∧ x = nI k ∧ z = nI m ∧ (u = 0 ∨ (10 ≤ u ∧ u ≤ 12)))) ∧ ρ9 = ρ ∧ r9 = some (.int (-1)) ∧ I = I1)) := by
  refine MG.of (by decide +kernel) (Nat.le_of_ble_eq_true rfl) hn9 ?_
  intro κ C hR
  show G κ n ρ 0 [(0, .ref 0), (1, .int x), (2, .int z), (3, .int u)] [] I
  obtain ⟨hxc, ⟨xb1, xb2, xb3, xb4, xb5, xb6, xb8⟩, ⟨xi0, xi1, xga, xgb⟩, ⟨xt0, xt1, xgd⟩, hch, ⟨xr0, xr1, xr2⟩, xa0, ⟨xw0, xw1⟩, xst⟩ := id hxs
  obtain ⟨xc0, xcn, xc1, hga, xc7, hss⟩ := id hxc
  have xcz : 0 < n := by omega
  obtain ⟨ga0, ga1, ga2, ga3, ga4, ga5, ga6, ga7, ga8, gan, hrf, hst⟩ := id hga
  have hrf0 := hrf.1
  have hst0 := hst.1
  have hsp := hch.sp
  obtain ⟨hp0, hpn, hp1, hp2, hp3, hp4⟩ := id hsp
  have hnp : rN F ≤ 6 := hrw.2.2.2.2.1
  have hN := hrr.2.2.1
  refine g_iload_n C (pc := 0) dX11_since_0 1 rfl ?_
  refine g_callSI C (pc := 1) mf_X11_isImage lk_RX11_237 (c_X11_isImage n ρ I x hn9) (by decide) (Nat.le_refl _) rfl (Nat.le_of_ble_eq_true rfl) dX11_since_1 (fun v1 I1 h1 => ?_)
  obtain ⟨e1, rfl⟩ := h1
  refine g_if_eq C (pc := 4) 21 dX11_since_4 (by decide) (fun c4 => ?_) (fun c4 => ?_)
  · have hx := bI_0.mp (e1.symm.trans c4)
    refine g_iconst C (pc := 21) (-1) dX11_since_21 (by decide) ?_
    refine g_iret C hR (pc := 22) rfl dX11_since_22 ?_
    refine Or.inr ⟨?_, rfl, rfl, rfl⟩
    rintro ⟨k9, m9, h1, h2, h3, h4, h5⟩
    first | exact hx (by rw [h3]; exact ⟨nI_pos' (by omega), nI_lt (b := 2) h1 (by decide)⟩) | exact hz0 (by rw [h4]; exact ⟨nI_pos' (by omega), (nI_leI (b := 3) (by omega) (by decide)).mpr h2⟩) | exact hu h5
  · have hx := bI_1.mp (fun h => c4 (e1.trans h))
    obtain ⟨k, hk2, hxk⟩ := ix_of (n := 2) (by decide) hx
    refine g_iload_n C (pc := 7) dX11_since_7 2 rfl ?_
    refine g_callSI C (pc := 8) mf_X11_isAhead lk_RX11_202 (c_X11_isAhead n ρ I z hn9) (by decide) (Nat.le_refl _) rfl (Nat.le_of_ble_eq_true rfl) dX11_since_8 (fun v8 I8 h8 => ?_)
    obtain ⟨e8, rfl⟩ := h8
    refine g_if_eq C (pc := 11) 21 dX11_since_11 (by decide) (fun c11 => ?_) (fun c11 => ?_)
    · have hz0 := bI_0.mp (e8.symm.trans c11)
      refine g_iconst C (pc := 21) (-1) dX11_since_21 (by decide) ?_
      refine g_iret C hR (pc := 22) rfl dX11_since_22 ?_
      refine Or.inr ⟨?_, rfl, rfl, rfl⟩
      rintro ⟨k9, m9, h1, h2, h3, h4, h5⟩
      first | exact hx (by rw [h3]; exact ⟨nI_pos' (by omega), nI_lt (b := 2) h1 (by decide)⟩) | exact hz0 (by rw [h4]; exact ⟨nI_pos' (by omega), (nI_leI (b := 3) (by omega) (by decide)).mpr h2⟩) | exact hu h5
    · have hz0 := bI_1.mp (fun h => c11 (e8.trans h))
      obtain ⟨m, hm, hzm⟩ := ix_of (x := z) (n := 4) (by decide) ⟨hz0.1, lt4 hz0.2⟩
      refine g_iload_n C (pc := 14) dX11_since_14 3 rfl ?_
      refine g_callSI C (pc := 15) mf_X11_isAsked lk_RX11_240 (c_X11_isAsked n ρ I u hn9) (by decide) (Nat.le_refl _) rfl (Nat.le_of_ble_eq_true rfl) dX11_since_15 (fun v15 I15 h15 => ?_)
      obtain ⟨e15, rfl⟩ := h15
      refine g_if_ne C (pc := 18) 23 dX11_since_18 (by decide) (fun c18 => ?_) (fun c18 => ?_)
      · have hu := bI_1.mp (fun h => c18 (e15.trans h))
        refine g_aload_n C (pc := 23) dX11_since_23 0 rfl ?_
        refine g_iload_n C (pc := 24) dX11_since_24 1 rfl ?_
        refine g_callV C (pc := 25) mf_X11_imageAt lk_RX11_243 (k := 0) (c_X11_imageAt_a n ρ I k (kp k) x hn9 hxs (him k hk2).1 hk2 hxk (hkpv k hxk)) (by decide) (Nat.le_refl _) rfl (by first | assumption | rfl | omega) rfl (by first | assumption | rfl | omega) (Nat.le_of_ble_eq_true rfl) dX11_since_25 ?_
        rintro _ ρ I25 ⟨rfl, rfl, rfl⟩
        refine g_astore C (pc := 28) dX11_since_28 (by decide) (lv' := [(4, .ref (73 + 12 * k)), (0, .ref 0), (1, .int x), (2, .int z), (3, .int u)]) rfl ?_
        refine g_aload C (pc := 30) dX11_since_30 0 rfl ?_
        refine g_ifnonnull C (pc := 32) 38 dX11_since_32 (by decide) ?_
        have hky := hkpv k hxk
        have hgi : GaS n ρ (73 + 12 * k) := by
          have : k = 0 ∨ k = 1 := by omega
          rcases this with rfl | rfl
          · exact xga
          · exact xgb
        have hsi := hgi.2.2.2.2.2.2.2.2.2.2.2
        have hgi0 := hgi.1
        have hgi2 := hgi.2.2.1
        refine g_aload_n C (pc := 38) dX11_since_38 1 rfl ?_
        refine g_getR C (pc := 39) fl_RX11_42 (by decide) (by first | assumption | rfl | omega) (by first | assumption | rfl | omega) (by first | assumption | rfl | omega) dX11_since_39 ?_
        refine g_getR C (pc := 42) fl_RX11_247 (by decide) (by first | assumption | rfl | omega) (by first | assumption | rfl | omega) (by first | assumption | rfl | omega) dX11_since_42 ?_
        refine g_aload_n C (pc := 45) dX11_since_45 1 rfl ?_
        refine g_getR C (pc := 46) fl_RX11_10 (by decide) (by first | assumption | rfl | omega) (by first | assumption | rfl | omega) (by first | assumption | rfl | omega) dX11_since_46 ?_
        refine g_getR C (pc := 49) fl_RX11_104 (by decide) (by first | assumption | rfl | omega) (by first | assumption | rfl | omega) (by first | assumption | rfl | omega) dX11_since_49 ?_
        refine g_aload_n C (pc := 52) dX11_since_52 1 rfl ?_
        refine g_getR C (pc := 53) fl_RX11_10 (by decide) (by first | assumption | rfl | omega) (by first | assumption | rfl | omega) (by first | assumption | rfl | omega) dX11_since_53 ?_
        refine g_getR C (pc := 56) fl_RX11_122 (by decide) (by first | assumption | rfl | omega) (by first | assumption | rfl | omega) (by first | assumption | rfl | omega) dX11_since_56 ?_
        refine g_callV C (pc := 59) mf_X4_aim lk_RX11_251 (k := 0) (c_X4_aim n ρ _ 54 (1 + 1) (1 + 5) hn9 rfl (by omega)) (by decide) (Nat.le_refl _) rfl (by first | assumption | rfl | omega) rfl (by first | assumption | rfl | omega) (Nat.le_of_ble_eq_true rfl) dX11_since_59 ?_
        rintro _ ρ I59 ⟨rfl, hρ59, rfl⟩
        obtain ⟨xg0, xg1, hxs⟩ := aim_rw hρ59 hxs
        obtain ⟨hxc, ⟨xb1, xb2, xb3, xb4, xb5, xb6, xb8⟩, ⟨xi0, xi1, xga, xgb⟩, ⟨xt0, xt1, xgd⟩, hch, ⟨xr0, xr1, xr2⟩, xa0, ⟨xw0, xw1⟩, xst⟩ := id hxs
        obtain ⟨xc0, xcn, xc1, hga, xc7, hss⟩ := id hxc
        have xcz : 0 < n := by omega
        obtain ⟨ga0, ga1, ga2, ga3, ga4, ga5, ga6, ga7, ga8, gan, hrf, hst⟩ := id hga
        have hrf0 := hrf.1
        have hst0 := hst.1
        have hsp := hch.sp
        obtain ⟨hp0, hpn, hp1, hp2, hp3, hp4⟩ := id hsp
        have hsi := (hgi.rw2 hρ59 (by omega)).2.2.2.2.2.2.2.2.2.2.2
        have hgi2 := (hgi.rw2 hρ59 (by omega)).2.2.1
        refine g_aload_n C (pc := 62) dX11_since_62 1 rfl ?_
        refine g_getR C (pc := 63) fl_RX11_42 (by decide) (by first | assumption | rfl | omega) (by first | assumption | rfl | omega) (by first | assumption | rfl | omega) dX11_since_63 ?_
        refine g_aload_n C (pc := 66) dX11_since_66 1 rfl ?_
        refine g_getR C (pc := 67) fl_RX11_10 (by decide) (by first | assumption | rfl | omega) (by first | assumption | rfl | omega) (by first | assumption | rfl | omega) dX11_since_67 ?_
        refine g_getR C (pc := 70) fl_RX11_104 (by decide) (by first | assumption | rfl | omega) (by first | assumption | rfl | omega) (by first | assumption | rfl | omega) dX11_since_70 ?_
        refine g_aload C (pc := 73) dX11_since_73 0 rfl ?_
        refine g_getR C (pc := 75) fl_RX11_122 (by decide) (by first | assumption | rfl | omega) (by first | assumption | rfl | omega) (by first | assumption | rfl | omega) dX11_since_75 ?_
        refine g_aload_n C (pc := 78) dX11_since_78 1 rfl ?_
        refine g_getR C (pc := 79) fl_RX11_42 (by decide) (by first | assumption | rfl | omega) (by first | assumption | rfl | omega) (by first | assumption | rfl | omega) dX11_since_79 ?_
        refine g_getR C (pc := 82) fl_RX11_247 (by decide) (by first | assumption | rfl | omega) (by first | assumption | rfl | omega) (by first | assumption | rfl | omega) dX11_since_82 ?_
        refine g_aload_n C (pc := 85) dX11_since_85 1 rfl ?_
        refine g_getR C (pc := 86) fl_RX11_35 (by decide) (by first | assumption | rfl | omega) (by first | assumption | rfl | omega) (by first | assumption | rfl | omega) dX11_since_86 ?_
        refine g_iload_n C (pc := 89) dX11_since_89 3 rfl ?_
        refine g_callV C (pc := 90) mf_X6_find lk_RX11_257 (k := 0) (c_X6_find n ρ I 53 54 (1 + 1) (73 + 12 * k + 5) 47 m 1 3 2 6 yX4_mayCome cX4_mayCome False F none (asB F b) (mcR F b) (bi k) _ hn9 rfl xr2 rfl (by omega) hch (by omega) (fun h9 => h9.elim) hrf hsi (by omega) hrr hrw ((him k hk2).2 hky).1 ((him k hk2).2 hky).2 (by omega) (by right; omega) prn_reached mf_X4_mayCome la_X4 rfl rfl (by omega) (by omega) (fun ρ9 J s k9 b9 x9 e9 hJ hs9 hbr9 hbw9 hk9 hx9 => c_X4_mayCome n ρ9 J 54 s (1 + 1) (1 + 5) k9 F b9 b x9 hn9 rfl (by rw [rwr_o e9 (by decide)]; exact xg0) (by rw [rwr_o e9 (by decide)]; exact xg1) (by omega) hs9 (hrf.rw e9 (by decide)) (hst.rw e9 (by decide)) (hrr.cong (fun i hi => hJ _ (by omega) (by omega) (by omega))) hrw hbr9 hbw9 (hbr.cong (fun i hi => hJ _ (by omega) (by omega) (by omega))) hbw hk9 hx9) hzm) (by decide) (Nat.le_refl _) rfl (by first | assumption | rfl | omega) rfl (by first | assumption | rfl | omega) (Nat.le_of_ble_eq_true rfl) dX11_since_90 ?_
        rintro _ ρ I90 ⟨hρ90, rfl, -, f90, g90⟩
        have hxs := hxs.rw hρ90 (Or.inl ⟨rfl, rfl⟩)
        obtain ⟨hxc, ⟨xb1, xb2, xb3, xb4, xb5, xb6, xb8⟩, ⟨xi0, xi1, xga, xgb⟩, ⟨xt0, xt1, xgd⟩, hch, ⟨xr0, xr1, xr2⟩, xa0, ⟨xw0, xw1⟩, xst⟩ := id hxs
        obtain ⟨xc0, xcn, xc1, hga, xc7, hss⟩ := id hxc
        have xcz : 0 < n := by omega
        obtain ⟨ga0, ga1, ga2, ga3, ga4, ga5, ga6, ga7, ga8, gan, hrf, hst⟩ := id hga
        have hrf0 := hrf.1
        have hst0 := hst.1
        have hsp := hch.sp
        obtain ⟨hp0, hpn, hp1, hp2, hp3, hp4⟩ := id hsp
        have hcl := fnd_cnt (F := F) (g := asB F b) hnp m (bi k)
        have hc3 : 120 ^ m ≤ 120 ^ 3 := Nat.pow_le_pow_right (by decide) (by omega)
        have hc4 : 120 ^ 3 = 1728000 := by decide
        refine g_istore C (pc := 93) dX11_since_93 (by decide) (fun v93 => [(5, .int v93), (4, .ref (73 + 12 * k)), (0, .ref 0), (1, .int x), (2, .int z), (3, .int u)]) (fun _ => rfl) (fun v93 ev93 => ?_)
        refine g_iload_n C (pc := 95) dX11_since_95 5 rfl ?_
        refine g_if_ne C (pc := 96) 102 dX11_since_96 (by decide) (fun c96 => ?_) (fun c96 => ?_)
        · have hu0 : ¬ u = 0 := c96
          refine g_iload_n C (pc := 102) dX11_since_102 5 rfl ?_
          refine g_bipush C (pc := 103) 10 dX11_since_103 (by decide) ?_
          refine g_isub C (pc := 105) dX11_since_105 ?_
          obtain ⟨i9, hi9, hu9⟩ := asked_of hu c96
          refine g_istore C (pc := 106) dX11_since_106 (by decide) (fun v106 => [(6, .int v106), (5, .int v93), (4, .ref (73 + 12 * k)), (0, .ref 0), (1, .int x), (2, .int z), (3, .int u)]) (fun _ => rfl) (fun v106 ev106 => ?_)
          refine g_iload C (pc := 108) dX11_since_108 1 rfl ?_
          refine g_if_le C (pc := 110) 131 dX11_since_110 (by decide) (fun c110 => ?_) (fun c110 => ?_)
          · have hL0 : fnd F (asB F b) m (bi k) = [] := by
              rw [ev93, show (0 : Int32) = nI 0 from rfl, nI_leI (by omega) (by decide)] at c110
              exact List.eq_nil_of_length_eq_zero (by omega)
            refine g_bipush C (pc := 131) (-4) dX11_since_131 (by decide) ?_
            refine g_iret C hR (pc := 133) rfl dX11_since_133 ?_
            refine Or.inl ⟨k, m, ⟨hk2, by omega, hxk, hzm, hu⟩, Or.inr ⟨hky, by rw [hρ90, hρ59], ?_, fun i hi => g90 i (by omega) (by omega) (by omega)⟩⟩
            unfold sinA; rw [if_neg c96, hu9, nI_clamp (by omega)]
            first
            | (rw [hL0]; done)
            | (cases h9 : fnd F (asB F b) m (bi k) with
               | nil => exact absurd hL1 (by rw [h9]; exact Nat.lt_irrefl 0)
               | cons r9 L9 =>
                 have hlen : r9.1.length = m := (fnd_len (show r9 ∈ fnd F (asB F b) m (bi k) by rw [h9]; exact List.mem_cons_self)).1
                 show _ = some (Value.int (oI (r9.1[i9]?)))
                 first
                 | (rw [List.getElem?_eq_none (l := r9.1) (i := i9) (by omega)]; rfl)
                 | (have hk9 := List.getElem?_eq_getElem (l := r9.1) (i := i9) (by omega)
                    rw [e125, hk9, f90 r9 L9 h9 i9 _ hk9]; rfl))
          · have hL1 : 0 < (fnd F (asB F b) m (bi k)).length := by
              rw [ev93, show (0 : Int32) = nI 0 from rfl, nI_ltI (by decide) (by omega)] at c110
              exact c110
            refine g_iload C (pc := 113) dX11_since_113 0 rfl ?_
            refine g_iload_n C (pc := 115) dX11_since_115 5 rfl ?_
            refine g_icmp_ge C (pc := 116) 131 dX11_since_116 (by decide) (fun c116 => ?_) (fun c116 => ?_)
            · have him9 : m ≤ i9 := by
                rw [ev106, hu9, hzm, nI_leI (by omega) (by omega)] at c116
                exact c116
              refine g_bipush C (pc := 131) (-4) dX11_since_131 (by decide) ?_
              refine g_iret C hR (pc := 133) rfl dX11_since_133 ?_
              refine Or.inl ⟨k, m, ⟨hk2, by omega, hxk, hzm, hu⟩, Or.inr ⟨hky, by rw [hρ90, hρ59], ?_, fun i hi => g90 i (by omega) (by omega) (by omega)⟩⟩
              unfold sinA; rw [if_neg c96, hu9, nI_clamp (by omega)]
              first
              | (rw [hL0]; done)
              | (cases h9 : fnd F (asB F b) m (bi k) with
                 | nil => exact absurd hL1 (by rw [h9]; exact Nat.lt_irrefl 0)
                 | cons r9 L9 =>
                   have hlen : r9.1.length = m := (fnd_len (show r9 ∈ fnd F (asB F b) m (bi k) by rw [h9]; exact List.mem_cons_self)).1
                   show _ = some (Value.int (oI (r9.1[i9]?)))
                   first
                   | (rw [List.getElem?_eq_none (l := r9.1) (i := i9) (by omega)]; rfl)
                   | (have hk9 := List.getElem?_eq_getElem (l := r9.1) (i := i9) (by omega)
                      rw [e125, hk9, f90 r9 L9 h9 i9 _ hk9]; rfl))
            · have him9 : i9 < m := by
                rw [ev106, hu9, hzm, nI_ltI (by omega) (by omega)] at c116
                exact c116
              have hui : v106 = nI i9 := ev106.trans hu9
              refine g_aload_n C (pc := 119) dX11_since_119 3 rfl ?_
              refine g_getR C (pc := 120) fl_RX11_42 (by decide) (by first | assumption | rfl | omega) (by first | assumption | rfl | omega) (by first | assumption | rfl | omega) dX11_since_120 ?_
              refine g_iload C (pc := 123) dX11_since_123 0 rfl ?_
              refine g_callVI C (pc := 125) mf_X6_firstTurn lk_RX11_261 (c_X6_firstTurn n ρ I90 53 i9 _ hn9 rfl xr2 rfl (by omega) hi9 hui) (by decide) (Nat.le_refl _) rfl (by first | assumption | rfl | omega) rfl (by first | assumption | rfl | omega) (Nat.le_of_ble_eq_true rfl) dX11_since_125 (fun v125 I125 h125 => ?_)
              obtain ⟨e125, rfl⟩ := h125
              refine g_goto C (pc := 128) 133 dX11_since_128 (by decide) ?_
              refine g_iret C hR (pc := 133) rfl dX11_since_133 ?_
              refine Or.inl ⟨k, m, ⟨hk2, by omega, hxk, hzm, hu⟩, Or.inr ⟨hky, by rw [hρ90, hρ59], ?_, fun i hi => g90 i (by omega) (by omega) (by omega)⟩⟩
              unfold sinA; rw [if_neg c96, hu9, nI_clamp (by omega)]
              first
              | (rw [hL0]; done)
              | (cases h9 : fnd F (asB F b) m (bi k) with
                 | nil => exact absurd hL1 (by rw [h9]; exact Nat.lt_irrefl 0)
                 | cons r9 L9 =>
                   have hlen : r9.1.length = m := (fnd_len (show r9 ∈ fnd F (asB F b) m (bi k) by rw [h9]; exact List.mem_cons_self)).1
                   show _ = some (Value.int (oI (r9.1[i9]?)))
                   first
                   | (rw [List.getElem?_eq_none (l := r9.1) (i := i9) (by omega)]; rfl)
                   | (have hk9 := List.getElem?_eq_getElem (l := r9.1) (i := i9) (by omega)
                      rw [e125, hk9, f90 r9 L9 h9 i9 _ hk9]; rfl))
        · refine g_iload C (pc := 99) dX11_since_99 0 rfl ?_
          refine g_iret C hR (pc := 101) rfl dX11_since_101 ?_
          refine Or.inl ⟨k, m, ⟨hk2, by omega, hxk, hzm, hu⟩, Or.inr ⟨hky, by rw [hρ90, hρ59], ?_, fun i hi => g90 i (by omega) (by omega) (by omega)⟩⟩
          unfold sinA; rw [if_pos c96, ev93]
      · have hu := bI_0.mp (e15.symm.trans c18)
        refine g_iconst C (pc := 21) (-1) dX11_since_21 (by decide) ?_
        refine g_iret C hR (pc := 22) rfl dX11_since_22 ?_
        refine Or.inr ⟨?_, rfl, rfl, rfl⟩
        rintro ⟨k9, m9, h1, h2, h3, h4, h5⟩
        first | exact hx (by rw [h3]; exact ⟨nI_pos' (by omega), nI_lt (b := 2) h1 (by decide)⟩) | exact hz0 (by rw [h4]; exact ⟨nI_pos' (by omega), (nI_leI (b := 3) (by omega) (by decide)).mpr h2⟩) | exact hu h5
set_option maxHeartbeats 400000 in
theorem c_X11_since_n (n : Nat) (ρ : Rho) (I : Mem) (F : RT) (b : BT) (kp : Nat → Bool) (bi : Nat → BT) (x z u : Int32) (hn9 : n ≤ 999) (hxs : XS n ρ) (hrr : RR I (1 + 1) F) (hrw : RW F) (hbr : BR I (1 + 5) F b) (hbw : BW F b) (him : ∀ k, k < 2 → I 14 k = bI (kp k = true) ∧ (kp k = true → BR I (73 + 12 * k + 5) F (bi k) ∧ BW F (bi k))) (hkpv : ∀ k, x = nI k → kp k = false) : MG yX11_since cX11_since 7 (some .int) 22 0 [.ref 0, .int x, .int z, .int u] n ρ I (fun r9 ρ9 I1 => (∃ k m, (k < 2 ∧ m ≤ 3 ∧ x = nI k ∧ z = nI m ∧ (u = 0 ∨ (10 ≤ u ∧ u ≤ 12))) ∧ ((kp k = false ∧ ρ9 = ρ ∧ r9 = some (.int (-2)) ∧ I = I1) ∨ (kp k = true ∧ ρ9 = rwr (rwr (rwr ρ 54 0 (some 2)) 54 1 (some 6)) 53 3 (some 47) ∧ r9 = some (.int (sinA F b (bi k) m u)) ∧ ∀ i, ¬ (29 ≤ i ∧ i ≤ 57) → I1 i = I i))) ∨ (¬ (∃ k m, (k < 2 ∧ m ≤ 3 ∧ x = nI k ∧ z = nI m ∧ (u = 0 ∨ (10 ≤ u ∧ u ≤ 12)))) ∧ ρ9 = ρ ∧ r9 = some (.int (-1)) ∧ I = I1)) := by
  refine MG.of (by decide +kernel) (Nat.le_of_ble_eq_true rfl) hn9 ?_
  intro κ C hR
  show G κ n ρ 0 [(0, .ref 0), (1, .int x), (2, .int z), (3, .int u)] [] I
  obtain ⟨hxc, ⟨xb1, xb2, xb3, xb4, xb5, xb6, xb8⟩, ⟨xi0, xi1, xga, xgb⟩, ⟨xt0, xt1, xgd⟩, hch, ⟨xr0, xr1, xr2⟩, xa0, ⟨xw0, xw1⟩, xst⟩ := id hxs
  obtain ⟨xc0, xcn, xc1, hga, xc7, hss⟩ := id hxc
  have xcz : 0 < n := by omega
  obtain ⟨ga0, ga1, ga2, ga3, ga4, ga5, ga6, ga7, ga8, gan, hrf, hst⟩ := id hga
  have hrf0 := hrf.1
  have hst0 := hst.1
  have hsp := hch.sp
  obtain ⟨hp0, hpn, hp1, hp2, hp3, hp4⟩ := id hsp
  have hnp : rN F ≤ 6 := hrw.2.2.2.2.1
  have hN := hrr.2.2.1
  refine g_iload_n C (pc := 0) dX11_since_0 1 rfl ?_
  refine g_callSI C (pc := 1) mf_X11_isImage lk_RX11_237 (c_X11_isImage n ρ I x hn9) (by decide) (Nat.le_refl _) rfl (Nat.le_of_ble_eq_true rfl) dX11_since_1 (fun v1 I1 h1 => ?_)
  obtain ⟨e1, rfl⟩ := h1
  refine g_if_eq C (pc := 4) 21 dX11_since_4 (by decide) (fun c4 => ?_) (fun c4 => ?_)
  · have hx := bI_0.mp (e1.symm.trans c4)
    refine g_iconst C (pc := 21) (-1) dX11_since_21 (by decide) ?_
    refine g_iret C hR (pc := 22) rfl dX11_since_22 ?_
    refine Or.inr ⟨?_, rfl, rfl, rfl⟩
    rintro ⟨k9, m9, h1, h2, h3, h4, h5⟩
    first | exact hx (by rw [h3]; exact ⟨nI_pos' (by omega), nI_lt (b := 2) h1 (by decide)⟩) | exact hz0 (by rw [h4]; exact ⟨nI_pos' (by omega), (nI_leI (b := 3) (by omega) (by decide)).mpr h2⟩) | exact hu h5
  · have hx := bI_1.mp (fun h => c4 (e1.trans h))
    obtain ⟨k, hk2, hxk⟩ := ix_of (n := 2) (by decide) hx
    refine g_iload_n C (pc := 7) dX11_since_7 2 rfl ?_
    refine g_callSI C (pc := 8) mf_X11_isAhead lk_RX11_202 (c_X11_isAhead n ρ I z hn9) (by decide) (Nat.le_refl _) rfl (Nat.le_of_ble_eq_true rfl) dX11_since_8 (fun v8 I8 h8 => ?_)
    obtain ⟨e8, rfl⟩ := h8
    refine g_if_eq C (pc := 11) 21 dX11_since_11 (by decide) (fun c11 => ?_) (fun c11 => ?_)
    · have hz0 := bI_0.mp (e8.symm.trans c11)
      refine g_iconst C (pc := 21) (-1) dX11_since_21 (by decide) ?_
      refine g_iret C hR (pc := 22) rfl dX11_since_22 ?_
      refine Or.inr ⟨?_, rfl, rfl, rfl⟩
      rintro ⟨k9, m9, h1, h2, h3, h4, h5⟩
      first | exact hx (by rw [h3]; exact ⟨nI_pos' (by omega), nI_lt (b := 2) h1 (by decide)⟩) | exact hz0 (by rw [h4]; exact ⟨nI_pos' (by omega), (nI_leI (b := 3) (by omega) (by decide)).mpr h2⟩) | exact hu h5
    · have hz0 := bI_1.mp (fun h => c11 (e8.trans h))
      obtain ⟨m, hm, hzm⟩ := ix_of (x := z) (n := 4) (by decide) ⟨hz0.1, lt4 hz0.2⟩
      refine g_iload_n C (pc := 14) dX11_since_14 3 rfl ?_
      refine g_callSI C (pc := 15) mf_X11_isAsked lk_RX11_240 (c_X11_isAsked n ρ I u hn9) (by decide) (Nat.le_refl _) rfl (Nat.le_of_ble_eq_true rfl) dX11_since_15 (fun v15 I15 h15 => ?_)
      obtain ⟨e15, rfl⟩ := h15
      refine g_if_ne C (pc := 18) 23 dX11_since_18 (by decide) (fun c18 => ?_) (fun c18 => ?_)
      · have hu := bI_1.mp (fun h => c18 (e15.trans h))
        refine g_aload_n C (pc := 23) dX11_since_23 0 rfl ?_
        refine g_iload_n C (pc := 24) dX11_since_24 1 rfl ?_
        refine g_callV C (pc := 25) mf_X11_imageAt lk_RX11_243 (k := 0) (c_X11_imageAt_N n ρ I k (kp k) x hn9 hxs (him k hk2).1 hk2 hxk (hkpv k hxk)) (by decide) (Nat.le_refl _) rfl (by first | assumption | rfl | omega) rfl (by first | assumption | rfl | omega) (Nat.le_of_ble_eq_true rfl) dX11_since_25 ?_
        rintro _ ρ I25 ⟨rfl, rfl, rfl⟩
        refine g_astoreN C (pc := 28) dX11_since_28 (by decide) (lv' := [(4, .null), (0, .ref 0), (1, .int x), (2, .int z), (3, .int u)]) rfl ?_
        refine g_aloadN C (pc := 30) dX11_since_30 0 rfl ?_
        refine g_ifnonnullN C (pc := 32) dX11_since_32 ?_
        refine g_bipush C (pc := 35) (-2) dX11_since_35 (by decide) ?_
        refine g_iret C hR (pc := 37) rfl dX11_since_37 ?_
        exact Or.inl ⟨k, m, ⟨hk2, by omega, hxk, hzm, hu⟩, Or.inl ⟨hkpv k hxk, rfl, rfl, rfl⟩⟩
      · have hu := bI_0.mp (e15.symm.trans c18)
        refine g_iconst C (pc := 21) (-1) dX11_since_21 (by decide) ?_
        refine g_iret C hR (pc := 22) rfl dX11_since_22 ?_
        refine Or.inr ⟨?_, rfl, rfl, rfl⟩
        rintro ⟨k9, m9, h1, h2, h3, h4, h5⟩
        first | exact hx (by rw [h3]; exact ⟨nI_pos' (by omega), nI_lt (b := 2) h1 (by decide)⟩) | exact hz0 (by rw [h4]; exact ⟨nI_pos' (by omega), (nI_leI (b := 3) (by omega) (by decide)).mpr h2⟩) | exact hu h5
