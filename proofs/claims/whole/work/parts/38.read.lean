theorem whole_at {s m : Nat} {z u : Int32} (hs : s ≤ 40) (hm : m ≤ 13) (hu : u = nI m) : (if 0 ≤ z ∧ z < nI s then (if (nI s - z) / 2 < u then (nI s - z) / 2 else u) else 0) = nI (if 0 ≤ z ∧ z < nI s then (if (s - z.toNatClampNeg) / 2 < m then (s - z.toNatClampNeg) / 2 else m) else 0) := by
  subst hu
  by_cases h : 0 ≤ z ∧ z < nI s
  · rw [if_pos h, if_pos h]
    obtain ⟨f, hf, rfl⟩ := ix_of (by omega) h
    rw [nI_clamp (by omega), pk_sub (by omega), show (2 : Int32) = nI 2 from rfl, pk_div (by omega) (by decide) (by decide)]
    by_cases h2 : (s - f) / 2 < m
    · rw [if_pos (nI_lt h2 (by omega)), if_pos h2]
    · rw [if_neg (by rw [nI_ltI (by omega) (by omega)]; exact h2), if_neg h2]
  · rw [if_neg h, if_neg h]; rfl
theorem lt14 {x : Int32} (h : x ≤ 13) : x < nI 14 := by
  have := Int32.le_iff_toInt_le.mp h
  rw [Int32.lt_iff_toInt_lt]
  have h1 : (13 : Int32).toInt = 13 := by decide
  have h2 : (nI 14).toInt = 14 := by decide
  omega
set_option maxHeartbeats 400000 in
theorem c_X11_read (n : Nat) (ρ : Rho) (I : Mem) (F : RT) (b : BT) (ln : Nat → Option Nat) (sz : Nat → Nat) (cl : Nat → Nat → Int32) (t : Nat) (x y9 z u : Int32) (hn9 : n ≤ 999) (hxs : XS n ρ) (hrr : RR I (1 + 1) F) (hrw : RW F) (hbr : BR I (1 + 5) F b) (hbw : BW F b) (hsh : ShR I 61 ln sz cl) (hT : I 1 5 = nI t) (ht9 : t ≤ 999) : MI yX11_read cX11_read 8 (some .int) 7 [.ref 0, .int x, .int y9, .int z, .int u] n ρ I (fun v I1 => ((∃ k l m, (k < 4 ∧ l < 3 ∧ m ≤ 13 ∧ x = nI k ∧ y9 = nI l ∧ u = nI m) ∧ ((∃ bb tt, rdS F (fun i => cl k (z.toNatClampNeg + 2 * i)) (fun i => cl k (z.toNatClampNeg + 2 * i + 1)) (rdW (ln k) (sz k) l z m).1 0 b t = (none, bb, tt) ∧ v = nI (rdW (ln k) (sz k) l z m).1 ∧ BR I1 (1 + 5) F bb ∧ I1 1 5 = nI tt ∧ I1 0 10 = nI (rdW (ln k) (sz k) l z m).2) ∨ (∃ i bb tt, rdS F (fun i => cl k (z.toNatClampNeg + 2 * i)) (fun i => cl k (z.toNatClampNeg + 2 * i + 1)) (rdW (ln k) (sz k) l z m).1 0 b t = (some i, bb, tt) ∧ i < 13 ∧ v = -20 - nI i ∧ BR I1 (1 + 5) F b ∧ I1 1 5 = nI t ∧ I1 0 10 = I 0 10))) ∨ (¬ (∃ k l m, (k < 4 ∧ l < 3 ∧ m ≤ 13 ∧ x = nI k ∧ y9 = nI l ∧ u = nI m)) ∧ v = -1 ∧ I1 1 5 = nI t ∧ BR I1 (1 + 5) F b ∧ I1 0 10 = I 0 10)) ∧ (∀ i, i ≠ 0 → i ≠ 1 → i ≠ 52 → ¬ (6 ≤ i ∧ i ≤ 9) → ¬ (69 ≤ i ∧ i ≤ 72) → I1 i = I i) ∧ (∀ z, z ≠ 5 → I1 1 z = I 1 z) ∧ ∀ z, z ≠ 10 → I1 0 z = I 0 z) := by
  refine MG.of (by decide +kernel) (Nat.le_of_ble_eq_true rfl) hn9 ?_
  intro κ C hR
  show G κ n ρ 0 [(0, .ref 0), (1, .int x), (2, .int y9), (3, .int z), (4, .int u)] [] I
  obtain ⟨hxc, ⟨xb1, xb2, xb3, xb4, xb5, xb6, xb8⟩, ⟨xi0, xi1, xga, xgb⟩, ⟨xt0, xt1, xgd⟩, hch, ⟨xr0, xr1, xr2⟩, xa0, ⟨xw0, xw1⟩, xst⟩ := id hxs
  obtain ⟨xc0, xcn, xc1, hga, xc7, hss⟩ := id hxc
  have xcz : 0 < n := by omega
  obtain ⟨ga0, ga1, ga2, ga3, ga4, ga5, ga6, ga7, ga8, gan, hrf, hst⟩ := id hga
  have hrf0 := hrf.1
  have hst0 := hst.1
  have hsp := hch.sp
  obtain ⟨hp0, hpn, hp1, hp2, hp3, hp4⟩ := id hsp
  have hnp : rN F ≤ 6 := hrw.2.2.2.2.1
  have hN := hrr.2.2.1
  refine g_iload_n C (pc := 0) dX11_read_0 1 rfl ?_
  refine g_callSI C (pc := 1) mf_X11_isSheet lk_RX11_308 (c_X11_isSheet n ρ I x hn9) (by decide) (Nat.le_refl _) rfl (Nat.le_of_ble_eq_true rfl) dX11_read_1 (fun v1 I1 h1 => ?_)
  obtain ⟨e1, rfl⟩ := h1
  refine g_if_eq C (pc := 4) 26 dX11_read_4 (by decide) (fun c4 => ?_) (fun c4 => ?_)
  · have hx := bI_0.mp (e1.symm.trans c4)
    refine g_iconst C (pc := 26) (-1) dX11_read_26 (by decide) ?_
    refine g_iret C hR (pc := 27) rfl dX11_read_27 ?_
    refine ⟨rfl, _, rfl, ?_⟩
    refine ⟨Or.inr ⟨?_, rfl, hT, hbr, rfl⟩, fun _ _ _ _ _ _ => rfl, fun _ _ => rfl, fun _ _ => rfl⟩
    rintro ⟨k9, l9, m9, h1, h2, h3, h4, h5, h6⟩
    first | (exact hx (by rw [h4]; exact ⟨nI_pos' (by omega), nI_lt (b := 4) h1 (by decide)⟩)) | (exact hy (by rw [h5]; exact ⟨nI_pos' (by omega), nI_lt (b := 3) h2 (by decide)⟩)) | exact absurd c16 (by rw [h6]; exact nI_pos (by omega)) | exact absurd c23 (Int32.not_lt.mpr (by rw [h6, show (13 : Int32) = nI 13 from rfl, nI_leI (by omega) (by decide)]; exact h3))
  · have hx := bI_1.mp (fun h => c4 (e1.trans h))
    obtain ⟨k, hk, hxk⟩ := ix_of (n := 4) (by decide) hx
    have hcl : x.toNatClampNeg = k := by rw [hxk]; exact nI_clamp (by omega)
    refine g_iload_n C (pc := 7) dX11_read_7 2 rfl ?_
    refine g_callSI C (pc := 8) mf_X11_isLane lk_RX11_311 (c_X11_isLane n ρ I y9 hn9) (by decide) (Nat.le_refl _) rfl (Nat.le_of_ble_eq_true rfl) dX11_read_8 (fun v8 I8 h8 => ?_)
    obtain ⟨e8, rfl⟩ := h8
    refine g_if_eq C (pc := 11) 26 dX11_read_11 (by decide) (fun c11 => ?_) (fun c11 => ?_)
    · have hy := bI_0.mp (e8.symm.trans c11)
      refine g_iconst C (pc := 26) (-1) dX11_read_26 (by decide) ?_
      refine g_iret C hR (pc := 27) rfl dX11_read_27 ?_
      refine ⟨rfl, _, rfl, ?_⟩
      refine ⟨Or.inr ⟨?_, rfl, hT, hbr, rfl⟩, fun _ _ _ _ _ _ => rfl, fun _ _ => rfl, fun _ _ => rfl⟩
      rintro ⟨k9, l9, m9, h1, h2, h3, h4, h5, h6⟩
      first | (exact hx (by rw [h4]; exact ⟨nI_pos' (by omega), nI_lt (b := 4) h1 (by decide)⟩)) | (exact hy (by rw [h5]; exact ⟨nI_pos' (by omega), nI_lt (b := 3) h2 (by decide)⟩)) | exact absurd c16 (by rw [h6]; exact nI_pos (by omega)) | exact absurd c23 (Int32.not_lt.mpr (by rw [h6, show (13 : Int32) = nI 13 from rfl, nI_leI (by omega) (by decide)]; exact h3))
    · have hy := bI_1.mp (fun h => c11 (e8.trans h))
      obtain ⟨l, hl, hyl⟩ := ix_of (n := 3) (by decide) hy
      refine g_iload C (pc := 14) dX11_read_14 4 rfl ?_
      refine g_if_lt C (pc := 16) 26 dX11_read_16 (by decide) (fun c16 => ?_) (fun c16 => ?_)
      · refine g_iconst C (pc := 26) (-1) dX11_read_26 (by decide) ?_
        refine g_iret C hR (pc := 27) rfl dX11_read_27 ?_
        refine ⟨rfl, _, rfl, ?_⟩
        refine ⟨Or.inr ⟨?_, rfl, hT, hbr, rfl⟩, fun _ _ _ _ _ _ => rfl, fun _ _ => rfl, fun _ _ => rfl⟩
        rintro ⟨k9, l9, m9, h1, h2, h3, h4, h5, h6⟩
        first | (exact hx (by rw [h4]; exact ⟨nI_pos' (by omega), nI_lt (b := 4) h1 (by decide)⟩)) | (exact hy (by rw [h5]; exact ⟨nI_pos' (by omega), nI_lt (b := 3) h2 (by decide)⟩)) | exact absurd c16 (by rw [h6]; exact nI_pos (by omega)) | exact absurd c23 (Int32.not_lt.mpr (by rw [h6, show (13 : Int32) = nI 13 from rfl, nI_leI (by omega) (by decide)]; exact h3))
      · refine g_iload C (pc := 19) dX11_read_19 4 rfl ?_
        refine g_bipush C (pc := 21) 13 dX11_read_21 (by decide) ?_
        refine g_icmp_le C (pc := 23) 28 dX11_read_23 (by decide) (fun c23 => ?_) (fun c23 => ?_)
        · obtain ⟨m, hm, hum⟩ := ix_of (x := u) (n := 14) (by decide) ⟨c16, lt14 c23⟩
          obtain ⟨W, FO, hWF⟩ : ∃ W FO, rdW (ln k) (sz k) l z m = (W, FO) := ⟨_, _, rfl⟩
          have hF := hWF
          unfold rdW at hF
          obtain ⟨s1, s2, s3, s4, s5⟩ := hsh k hk
          refine g_iload C (pc := 28) dX11_read_28 4 rfl ?_
          refine g_if_ne C (pc := 30) 37 dX11_read_30 (by decide) (fun c30 => ?_) (fun c30 => ?_)
          · have hm0 : ¬ m = 0 := fun h9 => c30 (by rw [hum, h9]; rfl)
            rw [if_neg hm0] at hF
            refine g_aload_n C (pc := 37) dX11_read_37 0 rfl ?_
            refine g_getR C (pc := 38) fl_RX11_56 (by decide) (by first | assumption | rfl | omega) (by first | assumption | rfl | omega) (by first | assumption | rfl | omega) dX11_read_38 ?_
            refine g_iload_n C (pc := 41) dX11_read_41 1 rfl ?_
            refine g_iload_n C (pc := 42) dX11_read_42 2 rfl ?_
            refine g_callVI C (pc := 43) mf_X7_faultAs lk_RX11_324 (c_X7_faultAs n ρ I 61 x y9 hn9 hss) (by decide) (Nat.le_refl _) rfl (by first | assumption | rfl | omega) rfl (by first | assumption | rfl | omega) (Nat.le_of_ble_eq_true rfl) dX11_read_43 (fun v43 I43 h43 => ?_)
            obtain ⟨e43, rfl⟩ := h43
            rw [hxk, sz_at hsh hk, nI_clamp (by omega), s1] at e43
            have hfd : (ln k = none ∧ v43 = 1) ∨ (ln k = some l ∧ v43 = 0) ∨ (∃ l9, ln k = some l9 ∧ l9 ≠ l ∧ v43 = 3) := by
              cases h9 : ln k with
              | none => left; rw [h9] at e43; exact ⟨rfl, e43⟩
              | some l9 =>
                right
                have hl9 := s4 l9 h9
                rw [h9] at e43
                replace e43 : v43 = (if nI (sz k) = -4 then 1 else if (0 ≤ nI k ∧ nI k < 4) ∧ nI l9 = y9 then 0 else 3) := e43
                rw [if_neg (nI_ne4 (by omega))] at e43
                by_cases h8 : l9 = l
                · left; rw [if_pos ⟨⟨nI_pos' (by omega), nI_lt (b := 4) hk (by decide)⟩, by rw [hyl, h8]⟩] at e43; exact ⟨by rw [h8], e43⟩
                · right; rw [if_neg (fun h7 => h8 ((nI_eq (by omega) (by omega)).mp (h7.2.trans hyl)))] at e43; exact ⟨l9, rfl, h8, e43⟩
            refine g_istore C (pc := 46) dX11_read_46 (by decide) (fun v46 => [(5, .int v46), (0, .ref 0), (1, .int x), (2, .int y9), (3, .int z), (4, .int u)]) (fun _ => rfl) (fun v46 ev46 => ?_)
            refine g_iconst C (pc := 48) 0 dX11_read_48 (by decide) ?_
            refine g_istore C (pc := 49) dX11_read_49 (by decide) (fun v49 => [(6, .int v49), (5, .int v46), (0, .ref 0), (1, .int x), (2, .int y9), (3, .int z), (4, .int u)]) (fun _ => rfl) (fun v49 ev49 => ?_)
            refine g_iload C (pc := 51) dX11_read_51 6 rfl ?_
            refine g_if_le C (pc := 53) 84 dX11_read_53 (by decide) (fun c53 => ?_) (fun c53 => ?_)
            · rw [hum] at c53; exact absurd c53 (nI_nle (by omega) (by omega))
            · refine g_iload C (pc := 56) dX11_read_56 1 rfl ?_
              refine g_if_ne C (pc := 58) 84 dX11_read_58 (by decide) (fun c58 => ?_) (fun c58 => ?_)
              · obtain ⟨hW0, hF0⟩ : W = 0 ∧ v43 = nI FO := by
                  rcases hfd with ⟨h8, h9⟩ | ⟨h8, h9⟩ | ⟨l9, h8, h7, h9⟩
                  · rw [h8] at hF; cases hF; exact ⟨rfl, h9⟩
                  · exact absurd (ev46.trans h9) c58
                  · rw [h8] at hF
                    replace hF : (if l9 = l then _ else (0, 3)) = (W, FO) := hF
                    rw [if_neg h7] at hF; cases hF; exact ⟨rfl, h9⟩
                have hA : v49 = nI W := by rw [ev49, hW0]; rfl
                have hB5 : v46 = nI FO := ev46.trans hF0
                have hW13 : W ≤ 13 := by omega
                have hcond : 0 < W → z = nI z.toNatClampNeg ∧ z.toNatClampNeg + 2 * W ≤ sz k ∧ ∃ l, ln k = some l := fun h9 => by omega
                try (have hB5 : v82 = nI FO := by rw [ev82, hFO2]; rfl)
                refine g_aload_n C (pc := 84) dX11_read_84 2 rfl ?_
                refine g_iload_n C (pc := 85) dX11_read_85 3 rfl ?_
                refine g_iload_n C (pc := 86) dX11_read_86 5 rfl ?_
                refine g_iload C (pc := 87) dX11_read_87 0 rfl ?_
                refine g_callVI C (pc := 89) mf_X11_playSheet lk_RX11_331 (c_X11_playSheet n ρ I F b ln sz cl k W z.toNatClampNeg t x z _ hn9 hxs hrr hrw hbr hbw hsh hT ht9 hk hxk hW13 hA hcond) (by decide) (Nat.le_refl _) rfl (by first | assumption | rfl | omega) rfl (by first | assumption | rfl | omega) (Nat.le_of_ble_eq_true rfl) dX11_read_89 (fun v89 I89 h89 => ?_)
                obtain ⟨h89, g89, j89⟩ := h89
                have hnat : ∀ i, i < 13 → nI i ≠ -4 := fun i hi => nI_ne4 (by omega)
                refine g_istore C (pc := 92) dX11_read_92 (by decide) (fun v92 => [(7, .int v92), (6, .int v49), (5, .int v46), (0, .ref 0), (1, .int x), (2, .int y9), (3, .int z), (4, .int u)]) (fun _ => rfl) (fun v92 ev92 => ?_)
                refine g_iload C (pc := 94) dX11_read_94 0 rfl ?_
                refine g_bipush C (pc := 96) (-4) dX11_read_96 (by decide) ?_
                refine g_icmp_eq C (pc := 98) 107 dX11_read_98 (by decide) (fun c98 => ?_) (fun c98 => ?_)
                · obtain ⟨bb, tt, hr1, hr2, hr3⟩ : ∃ bb tt, rdS F (fun i => cl k (z.toNatClampNeg + 2 * i)) (fun i => cl k (z.toNatClampNeg + 2 * i + 1)) W 0 b t = (none, bb, tt) ∧ BR I89 (1 + 5) F bb ∧ I89 1 5 = nI tt := by
                    rcases h89 with ⟨bb, tt, h1, h2, h3, h4⟩ | ⟨i, bb, tt, h1, h2, h3, -⟩
                    · exact ⟨bb, tt, h1, h3, h4⟩
                    · exact absurd (h3.symm.trans (ev92.symm.trans c98)) (hnat i (by omega))
                  refine g_aload_n C (pc := 107) dX11_read_107 3 rfl ?_
                  refine g_iload C (pc := 108) dX11_read_108 2 rfl ?_
                  refine g_putI C (pc := 110) fl_RX11_334 (by decide) fp_10_10 (Or.inl rfl) ⟨rfl, rfl⟩ (by first | assumption | rfl | omega) (by first | assumption | rfl | omega) hn9 dX11_read_110 ?_
                  refine g_iload C (pc := 113) dX11_read_113 1 rfl ?_
                  refine g_iret C hR (pc := 115) rfl dX11_read_115 ?_
                  refine ⟨rfl, _, rfl, ?_⟩
                  refine ⟨Or.inl ⟨k, l, m, ⟨hk, hl, by omega, hxk, hyl, hum⟩, ?_⟩, fun i h0 h1 h2 h3 h4 => ?_, fun z hz => ?_, fun z hz => ?_⟩
                  · rw [hWF]
                    exact Or.inl ⟨bb, tt, hr1, hA, hr2.cong (fun i hi => wr_n (by omega)), by rw [wr_n (by decide)]; exact hr3, by rw [wr_ss]; exact hB5⟩
                  · rw [wr_n h0]; exact g89 i h1 h2 h3 h4
                  · rw [wr_n (by decide)]; exact j89 z hz
                  · rw [wr_sn hz, g89 0 (by decide) (by decide) (by omega) (by omega)]
                · obtain ⟨i, bb, tt, hr1, hr0, hr2, hr3, hr4⟩ : ∃ i bb tt, rdS F (fun i => cl k (z.toNatClampNeg + 2 * i)) (fun i => cl k (z.toNatClampNeg + 2 * i + 1)) W 0 b t = (some i, bb, tt) ∧ i < W ∧ v89 = nI i ∧ BR I89 (1 + 5) F b ∧ I89 1 5 = nI t := by
                    rcases h89 with ⟨bb, tt, h1, h2, h3, h4⟩ | h9
                    · exact absurd (ev92.trans h2) c98
                    · exact h9
                  refine g_bipush C (pc := 101) (-20) dX11_read_101 (by decide) ?_
                  refine g_iload C (pc := 103) dX11_read_103 0 rfl ?_
                  refine g_isub C (pc := 105) dX11_read_105 ?_
                  refine g_iret C hR (pc := 106) rfl dX11_read_106 ?_
                  refine ⟨rfl, _, rfl, ?_⟩
                  refine ⟨Or.inl ⟨k, l, m, ⟨hk, hl, by omega, hxk, hyl, hum⟩, ?_⟩, fun i h0 h1 h2 h3 h4 => g89 i h1 h2 h3 h4, j89, fun z hz => by rw [g89 0 (by decide) (by decide) (by omega) (by omega)]⟩
                  rw [hWF]
                  exact Or.inr ⟨i, bb, tt, hr1, by omega, by rw [ev92, hr2], hr3, hr4, by rw [g89 0 (by decide) (by decide) (by omega) (by omega)]⟩
              · have hln : ln k = some l := by
                  rcases hfd with ⟨h8, h9⟩ | ⟨h8, h9⟩ | ⟨l9, h8, h7, h9⟩
                  · rw [ev46, h9] at c58; exact absurd c58 (by decide)
                  · exact h8
                  · rw [ev46, h9] at c58; exact absurd c58 (by decide)
                rw [hln] at hF
                replace hF : (if l = l then (if 0 ≤ z ∧ z < nI (sz k) then (if (sz k - z.toNatClampNeg) / 2 < m then ((sz k - z.toNatClampNeg) / 2, 2) else (m, 0)) else (0, 2)) else (0, 3)) = (W, FO) := hF
                rw [if_pos rfl] at hF
                refine g_aload_n C (pc := 61) dX11_read_61 2 rfl ?_
                refine g_getR C (pc := 62) fl_RX11_56 (by decide) (by first | assumption | rfl | omega) (by first | assumption | rfl | omega) (by first | assumption | rfl | omega) dX11_read_62 ?_
                refine g_iload_n C (pc := 65) dX11_read_65 3 rfl ?_
                refine g_iload_n C (pc := 66) dX11_read_66 5 rfl ?_
                refine g_iload C (pc := 67) dX11_read_67 6 rfl ?_
                refine g_callVI C (pc := 69) mf_X7_wholeTurns lk_RX11_327 (c_X7_wholeTurns n ρ I 61 x z u hn9 hss) (by decide) (Nat.le_refl _) rfl (by first | assumption | rfl | omega) rfl (by first | assumption | rfl | omega) (Nat.le_of_ble_eq_true rfl) dX11_read_69 (fun v69 I69 h69 => ?_)
                obtain ⟨e69, rfl⟩ := h69
                rw [hxk, sz_at hsh hk, hln] at e69
                replace e69 := e69.trans (whole_at (s := sz k) (z := z) s3 (show m ≤ 13 by omega) hum)
                have hWv : v69 = nI W ∧ W ≤ m ∧ ((W < m ∧ FO = 2) ∨ (W = m ∧ FO = 0)) ∧ (0 < W → z = nI z.toNatClampNeg ∧ z.toNatClampNeg + 2 * W ≤ sz k ∧ ∃ l, ln k = some l) := by
                  by_cases h9 : 0 ≤ z ∧ z < nI (sz k)
                  · rw [if_pos h9] at e69 hF
                    obtain ⟨f, hf, hzf⟩ := ix_of (by omega) h9
                    have hcz : z.toNatClampNeg = f := by rw [hzf]; exact nI_clamp (by omega)
                    rw [hcz] at e69 hF ⊢
                    by_cases h8 : (sz k - f) / 2 < m
                    · rw [if_pos h8] at e69 hF; cases hF; exact ⟨e69, by omega, Or.inl ⟨h8, rfl⟩, fun _ => ⟨hzf, by omega, l, hln⟩⟩
                    · rw [if_neg h8] at e69 hF; cases hF; exact ⟨e69, by omega, Or.inr ⟨rfl, rfl⟩, fun _ => ⟨hzf, by omega, l, hln⟩⟩
                  · rw [if_neg h9] at e69 hF; cases hF; exact ⟨e69, by omega, Or.inl ⟨by omega, rfl⟩, fun h8 => by omega⟩
                obtain ⟨hw69, hWm, hWc, hcond⟩ := hWv
                have hW13 : W ≤ 13 := by omega
                refine g_istore C (pc := 72) dX11_read_72 (by decide) (fun v72 => [(6, .int v72), (5, .int v46), (0, .ref 0), (1, .int x), (2, .int y9), (3, .int z), (4, .int u)]) (fun _ => rfl) (fun v72 ev72 => ?_)
                have hA : v72 = nI W := ev72.trans hw69
                refine g_iload C (pc := 74) dX11_read_74 0 rfl ?_
                refine g_iload C (pc := 76) dX11_read_76 6 rfl ?_
                refine g_icmp_ge C (pc := 78) 84 dX11_read_78 (by decide) (fun c78 => ?_) (fun c78 => ?_)
                · have hB5 : v46 = nI FO := by
                    rw [hA, hum, nI_leI (by omega) (by omega)] at c78
                    have : FO = 0 := by rcases hWc with h9 | h9 <;> omega
                    rw [this, c58]; rfl
                  try (have hB5 : v82 = nI FO := by rw [ev82, hFO2]; rfl)
                  refine g_aload_n C (pc := 84) dX11_read_84 2 rfl ?_
                  refine g_iload_n C (pc := 85) dX11_read_85 3 rfl ?_
                  refine g_iload_n C (pc := 86) dX11_read_86 5 rfl ?_
                  refine g_iload C (pc := 87) dX11_read_87 0 rfl ?_
                  refine g_callVI C (pc := 89) mf_X11_playSheet lk_RX11_331 (c_X11_playSheet n ρ I F b ln sz cl k W z.toNatClampNeg t x z _ hn9 hxs hrr hrw hbr hbw hsh hT ht9 hk hxk hW13 hA hcond) (by decide) (Nat.le_refl _) rfl (by first | assumption | rfl | omega) rfl (by first | assumption | rfl | omega) (Nat.le_of_ble_eq_true rfl) dX11_read_89 (fun v89 I89 h89 => ?_)
                  obtain ⟨h89, g89, j89⟩ := h89
                  have hnat : ∀ i, i < 13 → nI i ≠ -4 := fun i hi => nI_ne4 (by omega)
                  refine g_istore C (pc := 92) dX11_read_92 (by decide) (fun v92 => [(7, .int v92), (6, .int v72), (5, .int v46), (0, .ref 0), (1, .int x), (2, .int y9), (3, .int z), (4, .int u)]) (fun _ => rfl) (fun v92 ev92 => ?_)
                  refine g_iload C (pc := 94) dX11_read_94 0 rfl ?_
                  refine g_bipush C (pc := 96) (-4) dX11_read_96 (by decide) ?_
                  refine g_icmp_eq C (pc := 98) 107 dX11_read_98 (by decide) (fun c98 => ?_) (fun c98 => ?_)
                  · obtain ⟨bb, tt, hr1, hr2, hr3⟩ : ∃ bb tt, rdS F (fun i => cl k (z.toNatClampNeg + 2 * i)) (fun i => cl k (z.toNatClampNeg + 2 * i + 1)) W 0 b t = (none, bb, tt) ∧ BR I89 (1 + 5) F bb ∧ I89 1 5 = nI tt := by
                      rcases h89 with ⟨bb, tt, h1, h2, h3, h4⟩ | ⟨i, bb, tt, h1, h2, h3, -⟩
                      · exact ⟨bb, tt, h1, h3, h4⟩
                      · exact absurd (h3.symm.trans (ev92.symm.trans c98)) (hnat i (by omega))
                    refine g_aload_n C (pc := 107) dX11_read_107 3 rfl ?_
                    refine g_iload C (pc := 108) dX11_read_108 2 rfl ?_
                    refine g_putI C (pc := 110) fl_RX11_334 (by decide) fp_10_10 (Or.inl rfl) ⟨rfl, rfl⟩ (by first | assumption | rfl | omega) (by first | assumption | rfl | omega) hn9 dX11_read_110 ?_
                    refine g_iload C (pc := 113) dX11_read_113 1 rfl ?_
                    refine g_iret C hR (pc := 115) rfl dX11_read_115 ?_
                    refine ⟨rfl, _, rfl, ?_⟩
                    refine ⟨Or.inl ⟨k, l, m, ⟨hk, hl, by omega, hxk, hyl, hum⟩, ?_⟩, fun i h0 h1 h2 h3 h4 => ?_, fun z hz => ?_, fun z hz => ?_⟩
                    · rw [hWF]
                      exact Or.inl ⟨bb, tt, hr1, hA, hr2.cong (fun i hi => wr_n (by omega)), by rw [wr_n (by decide)]; exact hr3, by rw [wr_ss]; exact hB5⟩
                    · rw [wr_n h0]; exact g89 i h1 h2 h3 h4
                    · rw [wr_n (by decide)]; exact j89 z hz
                    · rw [wr_sn hz, g89 0 (by decide) (by decide) (by omega) (by omega)]
                  · obtain ⟨i, bb, tt, hr1, hr0, hr2, hr3, hr4⟩ : ∃ i bb tt, rdS F (fun i => cl k (z.toNatClampNeg + 2 * i)) (fun i => cl k (z.toNatClampNeg + 2 * i + 1)) W 0 b t = (some i, bb, tt) ∧ i < W ∧ v89 = nI i ∧ BR I89 (1 + 5) F b ∧ I89 1 5 = nI t := by
                      rcases h89 with ⟨bb, tt, h1, h2, h3, h4⟩ | h9
                      · exact absurd (ev92.trans h2) c98
                      · exact h9
                    refine g_bipush C (pc := 101) (-20) dX11_read_101 (by decide) ?_
                    refine g_iload C (pc := 103) dX11_read_103 0 rfl ?_
                    refine g_isub C (pc := 105) dX11_read_105 ?_
                    refine g_iret C hR (pc := 106) rfl dX11_read_106 ?_
                    refine ⟨rfl, _, rfl, ?_⟩
                    refine ⟨Or.inl ⟨k, l, m, ⟨hk, hl, by omega, hxk, hyl, hum⟩, ?_⟩, fun i h0 h1 h2 h3 h4 => g89 i h1 h2 h3 h4, j89, fun z hz => by rw [g89 0 (by decide) (by decide) (by omega) (by omega)]⟩
                    rw [hWF]
                    exact Or.inr ⟨i, bb, tt, hr1, by omega, by rw [ev92, hr2], hr3, hr4, by rw [g89 0 (by decide) (by decide) (by omega) (by omega)]⟩
                · have hFO2 : FO = 2 := by
                    rw [hA, hum, nI_ltI (by omega) (by omega)] at c78
                    rcases hWc with h9 | h9 <;> omega
                  refine g_iconst C (pc := 81) 2 dX11_read_81 (by decide) ?_
                  refine g_istore C (pc := 82) dX11_read_82 (by decide) (fun v82 => [(5, .int v82), (6, .int v72), (0, .ref 0), (1, .int x), (2, .int y9), (3, .int z), (4, .int u)]) (fun _ => rfl) (fun v82 ev82 => ?_)
                  try (have hB5 : v82 = nI FO := by rw [ev82, hFO2]; rfl)
                  refine g_aload_n C (pc := 84) dX11_read_84 2 rfl ?_
                  refine g_iload_n C (pc := 85) dX11_read_85 3 rfl ?_
                  refine g_iload_n C (pc := 86) dX11_read_86 5 rfl ?_
                  refine g_iload C (pc := 87) dX11_read_87 1 rfl ?_
                  refine g_callVI C (pc := 89) mf_X11_playSheet lk_RX11_331 (c_X11_playSheet n ρ I F b ln sz cl k W z.toNatClampNeg t x z _ hn9 hxs hrr hrw hbr hbw hsh hT ht9 hk hxk hW13 hA hcond) (by decide) (Nat.le_refl _) rfl (by first | assumption | rfl | omega) rfl (by first | assumption | rfl | omega) (Nat.le_of_ble_eq_true rfl) dX11_read_89 (fun v89 I89 h89 => ?_)
                  obtain ⟨h89, g89, j89⟩ := h89
                  have hnat : ∀ i, i < 13 → nI i ≠ -4 := fun i hi => nI_ne4 (by omega)
                  refine g_istore C (pc := 92) dX11_read_92 (by decide) (fun v92 => [(7, .int v92), (5, .int v82), (6, .int v72), (0, .ref 0), (1, .int x), (2, .int y9), (3, .int z), (4, .int u)]) (fun _ => rfl) (fun v92 ev92 => ?_)
                  refine g_iload C (pc := 94) dX11_read_94 0 rfl ?_
                  refine g_bipush C (pc := 96) (-4) dX11_read_96 (by decide) ?_
                  refine g_icmp_eq C (pc := 98) 107 dX11_read_98 (by decide) (fun c98 => ?_) (fun c98 => ?_)
                  · obtain ⟨bb, tt, hr1, hr2, hr3⟩ : ∃ bb tt, rdS F (fun i => cl k (z.toNatClampNeg + 2 * i)) (fun i => cl k (z.toNatClampNeg + 2 * i + 1)) W 0 b t = (none, bb, tt) ∧ BR I89 (1 + 5) F bb ∧ I89 1 5 = nI tt := by
                      rcases h89 with ⟨bb, tt, h1, h2, h3, h4⟩ | ⟨i, bb, tt, h1, h2, h3, -⟩
                      · exact ⟨bb, tt, h1, h3, h4⟩
                      · exact absurd (h3.symm.trans (ev92.symm.trans c98)) (hnat i (by omega))
                    refine g_aload_n C (pc := 107) dX11_read_107 3 rfl ?_
                    refine g_iload C (pc := 108) dX11_read_108 1 rfl ?_
                    refine g_putI C (pc := 110) fl_RX11_334 (by decide) fp_10_10 (Or.inl rfl) ⟨rfl, rfl⟩ (by first | assumption | rfl | omega) (by first | assumption | rfl | omega) hn9 dX11_read_110 ?_
                    refine g_iload C (pc := 113) dX11_read_113 2 rfl ?_
                    refine g_iret C hR (pc := 115) rfl dX11_read_115 ?_
                    refine ⟨rfl, _, rfl, ?_⟩
                    refine ⟨Or.inl ⟨k, l, m, ⟨hk, hl, by omega, hxk, hyl, hum⟩, ?_⟩, fun i h0 h1 h2 h3 h4 => ?_, fun z hz => ?_, fun z hz => ?_⟩
                    · rw [hWF]
                      exact Or.inl ⟨bb, tt, hr1, hA, hr2.cong (fun i hi => wr_n (by omega)), by rw [wr_n (by decide)]; exact hr3, by rw [wr_ss]; exact hB5⟩
                    · rw [wr_n h0]; exact g89 i h1 h2 h3 h4
                    · rw [wr_n (by decide)]; exact j89 z hz
                    · rw [wr_sn hz, g89 0 (by decide) (by decide) (by omega) (by omega)]
                  · obtain ⟨i, bb, tt, hr1, hr0, hr2, hr3, hr4⟩ : ∃ i bb tt, rdS F (fun i => cl k (z.toNatClampNeg + 2 * i)) (fun i => cl k (z.toNatClampNeg + 2 * i + 1)) W 0 b t = (some i, bb, tt) ∧ i < W ∧ v89 = nI i ∧ BR I89 (1 + 5) F b ∧ I89 1 5 = nI t := by
                      rcases h89 with ⟨bb, tt, h1, h2, h3, h4⟩ | h9
                      · exact absurd (ev92.trans h2) c98
                      · exact h9
                    refine g_bipush C (pc := 101) (-20) dX11_read_101 (by decide) ?_
                    refine g_iload C (pc := 103) dX11_read_103 0 rfl ?_
                    refine g_isub C (pc := 105) dX11_read_105 ?_
                    refine g_iret C hR (pc := 106) rfl dX11_read_106 ?_
                    refine ⟨rfl, _, rfl, ?_⟩
                    refine ⟨Or.inl ⟨k, l, m, ⟨hk, hl, by omega, hxk, hyl, hum⟩, ?_⟩, fun i h0 h1 h2 h3 h4 => g89 i h1 h2 h3 h4, j89, fun z hz => by rw [g89 0 (by decide) (by decide) (by omega) (by omega)]⟩
                    rw [hWF]
                    exact Or.inr ⟨i, bb, tt, hr1, by omega, by rw [ev92, hr2], hr3, hr4, by rw [g89 0 (by decide) (by decide) (by omega) (by omega)]⟩
          · have hm0 : m = 0 := by
              rw [hum] at c30
              exact (nI_eq (b := 0) (by omega) (by decide)).mp c30
            rw [if_pos hm0] at hF
            refine g_iconst C (pc := 33) 0 dX11_read_33 (by decide) ?_
            refine g_goto C (pc := 34) 46 dX11_read_34 (by decide) ?_
            refine g_istore C (pc := 46) dX11_read_46 (by decide) (fun v46 => [(5, .int v46), (0, .ref 0), (1, .int x), (2, .int y9), (3, .int z), (4, .int u)]) (fun _ => rfl) (fun v46 ev46 => ?_)
            refine g_iconst C (pc := 48) 0 dX11_read_48 (by decide) ?_
            refine g_istore C (pc := 49) dX11_read_49 (by decide) (fun v49 => [(6, .int v49), (5, .int v46), (0, .ref 0), (1, .int x), (2, .int y9), (3, .int z), (4, .int u)]) (fun _ => rfl) (fun v49 ev49 => ?_)
            refine g_iload C (pc := 51) dX11_read_51 6 rfl ?_
            refine g_if_le C (pc := 53) 84 dX11_read_53 (by decide) (fun c53 => ?_) (fun c53 => ?_)
            · obtain ⟨hW0, hF0⟩ : W = 0 ∧ FO = 0 := by cases hF; exact ⟨rfl, rfl⟩
              have hA : v49 = nI W := by rw [ev49, hW0]; rfl
              have hB5 : v46 = nI FO := by rw [ev46, hF0]; rfl
              have hW13 : W ≤ 13 := by omega
              have hcond : 0 < W → z = nI z.toNatClampNeg ∧ z.toNatClampNeg + 2 * W ≤ sz k ∧ ∃ l, ln k = some l := fun h9 => by omega
              try (have hB5 : v82 = nI FO := by rw [ev82, hFO2]; rfl)
              refine g_aload_n C (pc := 84) dX11_read_84 2 rfl ?_
              refine g_iload_n C (pc := 85) dX11_read_85 3 rfl ?_
              refine g_iload_n C (pc := 86) dX11_read_86 5 rfl ?_
              refine g_iload C (pc := 87) dX11_read_87 0 rfl ?_
              refine g_callVI C (pc := 89) mf_X11_playSheet lk_RX11_331 (c_X11_playSheet n ρ I F b ln sz cl k W z.toNatClampNeg t x z _ hn9 hxs hrr hrw hbr hbw hsh hT ht9 hk hxk hW13 hA hcond) (by decide) (Nat.le_refl _) rfl (by first | assumption | rfl | omega) rfl (by first | assumption | rfl | omega) (Nat.le_of_ble_eq_true rfl) dX11_read_89 (fun v89 I89 h89 => ?_)
              obtain ⟨h89, g89, j89⟩ := h89
              have hnat : ∀ i, i < 13 → nI i ≠ -4 := fun i hi => nI_ne4 (by omega)
              refine g_istore C (pc := 92) dX11_read_92 (by decide) (fun v92 => [(7, .int v92), (6, .int v49), (5, .int v46), (0, .ref 0), (1, .int x), (2, .int y9), (3, .int z), (4, .int u)]) (fun _ => rfl) (fun v92 ev92 => ?_)
              refine g_iload C (pc := 94) dX11_read_94 0 rfl ?_
              refine g_bipush C (pc := 96) (-4) dX11_read_96 (by decide) ?_
              refine g_icmp_eq C (pc := 98) 107 dX11_read_98 (by decide) (fun c98 => ?_) (fun c98 => ?_)
              · obtain ⟨bb, tt, hr1, hr2, hr3⟩ : ∃ bb tt, rdS F (fun i => cl k (z.toNatClampNeg + 2 * i)) (fun i => cl k (z.toNatClampNeg + 2 * i + 1)) W 0 b t = (none, bb, tt) ∧ BR I89 (1 + 5) F bb ∧ I89 1 5 = nI tt := by
                  rcases h89 with ⟨bb, tt, h1, h2, h3, h4⟩ | ⟨i, bb, tt, h1, h2, h3, -⟩
                  · exact ⟨bb, tt, h1, h3, h4⟩
                  · exact absurd (h3.symm.trans (ev92.symm.trans c98)) (hnat i (by omega))
                refine g_aload_n C (pc := 107) dX11_read_107 3 rfl ?_
                refine g_iload C (pc := 108) dX11_read_108 2 rfl ?_
                refine g_putI C (pc := 110) fl_RX11_334 (by decide) fp_10_10 (Or.inl rfl) ⟨rfl, rfl⟩ (by first | assumption | rfl | omega) (by first | assumption | rfl | omega) hn9 dX11_read_110 ?_
                refine g_iload C (pc := 113) dX11_read_113 1 rfl ?_
                refine g_iret C hR (pc := 115) rfl dX11_read_115 ?_
                refine ⟨rfl, _, rfl, ?_⟩
                refine ⟨Or.inl ⟨k, l, m, ⟨hk, hl, by omega, hxk, hyl, hum⟩, ?_⟩, fun i h0 h1 h2 h3 h4 => ?_, fun z hz => ?_, fun z hz => ?_⟩
                · rw [hWF]
                  exact Or.inl ⟨bb, tt, hr1, hA, hr2.cong (fun i hi => wr_n (by omega)), by rw [wr_n (by decide)]; exact hr3, by rw [wr_ss]; exact hB5⟩
                · rw [wr_n h0]; exact g89 i h1 h2 h3 h4
                · rw [wr_n (by decide)]; exact j89 z hz
                · rw [wr_sn hz, g89 0 (by decide) (by decide) (by omega) (by omega)]
              · obtain ⟨i, bb, tt, hr1, hr0, hr2, hr3, hr4⟩ : ∃ i bb tt, rdS F (fun i => cl k (z.toNatClampNeg + 2 * i)) (fun i => cl k (z.toNatClampNeg + 2 * i + 1)) W 0 b t = (some i, bb, tt) ∧ i < W ∧ v89 = nI i ∧ BR I89 (1 + 5) F b ∧ I89 1 5 = nI t := by
                  rcases h89 with ⟨bb, tt, h1, h2, h3, h4⟩ | h9
                  · exact absurd (ev92.trans h2) c98
                  · exact h9
                refine g_bipush C (pc := 101) (-20) dX11_read_101 (by decide) ?_
                refine g_iload C (pc := 103) dX11_read_103 0 rfl ?_
                refine g_isub C (pc := 105) dX11_read_105 ?_
                refine g_iret C hR (pc := 106) rfl dX11_read_106 ?_
                refine ⟨rfl, _, rfl, ?_⟩
                refine ⟨Or.inl ⟨k, l, m, ⟨hk, hl, by omega, hxk, hyl, hum⟩, ?_⟩, fun i h0 h1 h2 h3 h4 => g89 i h1 h2 h3 h4, j89, fun z hz => by rw [g89 0 (by decide) (by decide) (by omega) (by omega)]⟩
                rw [hWF]
                exact Or.inr ⟨i, bb, tt, hr1, by omega, by rw [ev92, hr2], hr3, hr4, by rw [g89 0 (by decide) (by decide) (by omega) (by omega)]⟩
            · rw [hum, hm0] at c53; exact absurd c53 (by decide)
        · refine g_iconst C (pc := 26) (-1) dX11_read_26 (by decide) ?_
          refine g_iret C hR (pc := 27) rfl dX11_read_27 ?_
          refine ⟨rfl, _, rfl, ?_⟩
          refine ⟨Or.inr ⟨?_, rfl, hT, hbr, rfl⟩, fun _ _ _ _ _ _ => rfl, fun _ _ => rfl, fun _ _ => rfl⟩
          rintro ⟨k9, l9, m9, h1, h2, h3, h4, h5, h6⟩
          first | (exact hx (by rw [h4]; exact ⟨nI_pos' (by omega), nI_lt (b := 4) h1 (by decide)⟩)) | (exact hy (by rw [h5]; exact ⟨nI_pos' (by omega), nI_lt (b := 3) h2 (by decide)⟩)) | exact absurd c16 (by rw [h6]; exact nI_pos (by omega)) | exact absurd c23 (Int32.not_lt.mpr (by rw [h6, show (13 : Int32) = nI 13 from rfl, nI_leI (by omega) (by decide)]; exact h3))
