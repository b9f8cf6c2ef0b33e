set_option maxHeartbeats 400000 in
theorem c_X11_see (n : Nat) (ρ : Rho) (I : Mem) (F : RT) (b : BT) (sn : Nat) (sq : Nat → Nat) (sd : Nat → Option Nat) (x z : Int32) (hn9 : n ≤ 999) (hxs : XS n ρ) (hrr : RR I (1 + 1) F) (hrw : RW F) (hbr : BR I (1 + 5) F b) (hbw : BW F b) (hsn : SnP I 1 sn sq sd) : MI yX11_see cX11_see 3 (some .int) 1 [.ref 0, .int x, .int z] n ρ I (fun v I1 => (∃ q s9, (q < rW F * rH F ∧ x = nI q ∧ z = oI s9 ∧ ∀ s, s9 = some s → s < 2) ∧ ((sn < 8 ∧ v = nI (sn + 1) ∧ wr (wr (wr I 10 sn x) 11 sn z) 1 6 (nI (sn + 1)) = I1) ∨ (8 ≤ sn ∧ v = -3 ∧ I = I1))) ∨ (¬ (∃ q s9, (q < rW F * rH F ∧ x = nI q ∧ z = oI s9 ∧ ∀ s, s9 = some s → s < 2)) ∧ v = -1 ∧ I = I1)) := by
  refine MG.of (by decide +kernel) (Nat.le_of_ble_eq_true rfl) hn9 ?_
  intro κ C hR
  show G κ n ρ 0 [(0, .ref 0), (1, .int x), (2, .int z)] [] I
  obtain ⟨hxc, ⟨xb1, xb2, xb3, xb4, xb5, xb6, xb8⟩, ⟨xi0, xi1, xga, xgb⟩, ⟨xt0, xt1, xgd⟩, hch, ⟨xr0, xr1, xr2⟩, xa0, ⟨xw0, xw1⟩, xst⟩ := id hxs
  obtain ⟨xc0, xcn, xc1, hga, xc7, hss⟩ := id hxc
  have xcz : 0 < n := by omega
  obtain ⟨ga0, ga1, ga2, ga3, ga4, ga5, ga6, ga7, ga8, gan, hrf, hst⟩ := id hga
  have hrf0 := hrf.1
  have hst0 := hst.1
  have hsp := hch.sp
  obtain ⟨hp0, hpn, hp1, hp2, hp3, hp4⟩ := id hsp
  have hnp : rN F ≤ 6 := hrw.2.2.2.2.1
  have hN := hrr.2.2.1
  obtain ⟨hs6, hs8, hsk⟩ := id hsn
  refine g_aload_n C (pc := 0) dX11_see_0 0 rfl ?_
  refine g_getR C (pc := 1) fl_RX11_10 (by decide) (by first | assumption | rfl | omega) (by first | assumption | rfl | omega) (by first | assumption | rfl | omega) dX11_see_1 ?_
  refine g_getR C (pc := 4) fl_RX11_104 (by decide) (by first | assumption | rfl | omega) (by first | assumption | rfl | omega) (by first | assumption | rfl | omega) dX11_see_4 ?_
  refine g_iload_n C (pc := 7) dX11_see_7 1 rfl ?_
  refine g_callVI C (pc := 8) mf_X5_isSquare lk_RX11_135 (c_X5_isSquare n ρ I (1 + 1) x hn9 hrf) (by decide) (Nat.le_refl _) rfl (by first | assumption | rfl | omega) rfl (by first | assumption | rfl | omega) (Nat.le_of_ble_eq_true rfl) dX11_see_8 (fun v8 I8 h8 => ?_)
  obtain ⟨e8, rfl⟩ := h8
  rw [hrr.1, hrr.2.1, pk_mul] at e8
  refine g_if_eq C (pc := 11) 27 dX11_see_11 (by decide) (fun c11 => ?_) (fun c11 => ?_)
  · have hx := bI_0.mp (e8.symm.trans c11)
    refine g_iconst C (pc := 27) (-1) dX11_see_27 (by decide) ?_
    refine g_iret C hR (pc := 28) rfl dX11_see_28 ?_
    refine ⟨rfl, _, rfl, ?_⟩
    refine Or.inr ⟨?_, rfl, rfl⟩
    rintro ⟨q9, s9, h1, h2, h3, h4⟩
    first | exact hx (by rw [h2]; exact sq_in hrw h1) | (cases s9 with
      | none => exact c24 h3
      | some s => exact hs (by rw [h3]; exact ⟨nI_pos' (by have := h4 s rfl; omega), nI_lt (b := 2) (h4 s rfl) (by decide)⟩))
  · have hx := bI_1.mp (fun h => c11 (e8.trans h))
    obtain ⟨q, hq, hq25, hxq⟩ := sq_of hrw hx
    refine g_iload_n C (pc := 14) dX11_see_14 2 rfl ?_
    refine g_callSI C (pc := 15) mf_X11_isSide lk_RX11_187 (c_X11_isSide n ρ I z hn9) (by decide) (Nat.le_refl _) rfl (Nat.le_of_ble_eq_true rfl) dX11_see_15 (fun v15 I15 h15 => ?_)
    obtain ⟨e15, rfl⟩ := h15
    refine g_if_ne C (pc := 18) 29 dX11_see_18 (by decide) (fun c18 => ?_) (fun c18 => ?_)
    · have hs := bI_1.mp (fun h => c18 (e15.trans h))
      obtain ⟨s, hs2, hzs⟩ := ix_of (n := 2) (by decide) hs
      obtain ⟨sd9, hsd9, hsd2⟩ : ∃ a : Option Nat, z = oI a ∧ ∀ s, a = some s → s < 2 := ⟨some s, hzs, by intro s9 h9; cases h9; exact hs2⟩
      refine g_aload_n C (pc := 29) dX11_see_29 0 rfl ?_
      refine g_getR C (pc := 30) fl_RX11_10 (by decide) (by first | assumption | rfl | omega) (by first | assumption | rfl | omega) (by first | assumption | rfl | omega) dX11_see_30 ?_
      refine g_iload_n C (pc := 33) dX11_see_33 1 rfl ?_
      refine g_iload_n C (pc := 34) dX11_see_34 2 rfl ?_
      refine g_callVI C (pc := 35) mf_X3_addSeen lk_RX11_264 (c_X3_addSeen n ρ I 1 sn x z hn9 hga hs6 hs8) (by decide) (Nat.le_refl _) rfl (by first | assumption | rfl | omega) rfl (by first | assumption | rfl | omega) (Nat.le_of_ble_eq_true rfl) dX11_see_35 (fun v35 I35 h35 => ?_)
      obtain h35 := h35
      refine g_if_eq C (pc := 38) 51 dX11_see_38 (by decide) (fun c38 => ?_) (fun c38 => ?_)
      · obtain ⟨hge, hI⟩ : 8 ≤ sn ∧ I = I35 := by
          rcases h35 with ⟨-, h2, -⟩ | ⟨h1, -, h3⟩
          · rw [h2] at c38; exact absurd c38 (by decide)
          · exact ⟨h1, h3⟩
        refine g_bipush C (pc := 51) (-3) dX11_see_51 (by decide) ?_
        refine g_iret C hR (pc := 53) rfl dX11_see_53 ?_
        refine ⟨rfl, _, rfl, ?_⟩
        first
        | exact Or.inl ⟨q, sd9, ⟨hq, hxq, hsd9, hsd2⟩, Or.inr ⟨hge, rfl, hI⟩⟩
        | (refine Or.inl ⟨q, sd9, ⟨hq, hxq, hsd9, hsd2⟩, Or.inl ⟨hlt, ?_, hI⟩⟩
           rw [← hI, wr_ss])
      · obtain ⟨hlt, hI⟩ : sn < 8 ∧ wr (wr (wr I (1 + 9) sn x) (1 + 10) sn z) 1 6 (nI (sn + 1)) = I35 := by
          rcases h35 with ⟨h1, -, h3⟩ | ⟨-, h2, -⟩
          · exact ⟨h1, h3⟩
          · exact absurd h2 c38
        refine g_aload_n C (pc := 41) dX11_see_41 0 rfl ?_
        refine g_getR C (pc := 42) fl_RX11_10 (by decide) (by first | assumption | rfl | omega) (by first | assumption | rfl | omega) (by first | assumption | rfl | omega) dX11_see_42 ?_
        refine g_getI C (pc := 45) fl_RX11_268 (by decide) (by first | assumption | rfl | omega) (by first | assumption | rfl | omega) dX11_see_45 ?_
        refine g_goto C (pc := 48) 53 dX11_see_48 (by decide) ?_
        refine g_iret C hR (pc := 53) rfl dX11_see_53 ?_
        refine ⟨rfl, _, rfl, ?_⟩
        first
        | exact Or.inl ⟨q, sd9, ⟨hq, hxq, hsd9, hsd2⟩, Or.inr ⟨hge, rfl, hI⟩⟩
        | (refine Or.inl ⟨q, sd9, ⟨hq, hxq, hsd9, hsd2⟩, Or.inl ⟨hlt, ?_, hI⟩⟩
           rw [← hI, wr_ss])
    · have hs := bI_0.mp (e15.symm.trans c18)
      refine g_iload_n C (pc := 21) dX11_see_21 2 rfl ?_
      refine g_bipush C (pc := 22) (-4) dX11_see_22 (by decide) ?_
      refine g_icmp_eq C (pc := 24) 29 dX11_see_24 (by decide) (fun c24 => ?_) (fun c24 => ?_)
      · obtain ⟨sd9, hsd9, hsd2⟩ : ∃ a : Option Nat, z = oI a ∧ ∀ s, a = some s → s < 2 := ⟨none, c24, by intro s9 h9; cases h9⟩
        refine g_aload_n C (pc := 29) dX11_see_29 0 rfl ?_
        refine g_getR C (pc := 30) fl_RX11_10 (by decide) (by first | assumption | rfl | omega) (by first | assumption | rfl | omega) (by first | assumption | rfl | omega) dX11_see_30 ?_
        refine g_iload_n C (pc := 33) dX11_see_33 1 rfl ?_
        refine g_iload_n C (pc := 34) dX11_see_34 2 rfl ?_
        refine g_callVI C (pc := 35) mf_X3_addSeen lk_RX11_264 (c_X3_addSeen n ρ I 1 sn x z hn9 hga hs6 hs8) (by decide) (Nat.le_refl _) rfl (by first | assumption | rfl | omega) rfl (by first | assumption | rfl | omega) (Nat.le_of_ble_eq_true rfl) dX11_see_35 (fun v35 I35 h35 => ?_)
        obtain h35 := h35
        refine g_if_eq C (pc := 38) 51 dX11_see_38 (by decide) (fun c38 => ?_) (fun c38 => ?_)
        · obtain ⟨hge, hI⟩ : 8 ≤ sn ∧ I = I35 := by
            rcases h35 with ⟨-, h2, -⟩ | ⟨h1, -, h3⟩
            · rw [h2] at c38; exact absurd c38 (by decide)
            · exact ⟨h1, h3⟩
          refine g_bipush C (pc := 51) (-3) dX11_see_51 (by decide) ?_
          refine g_iret C hR (pc := 53) rfl dX11_see_53 ?_
          refine ⟨rfl, _, rfl, ?_⟩
          first
          | exact Or.inl ⟨q, sd9, ⟨hq, hxq, hsd9, hsd2⟩, Or.inr ⟨hge, rfl, hI⟩⟩
          | (refine Or.inl ⟨q, sd9, ⟨hq, hxq, hsd9, hsd2⟩, Or.inl ⟨hlt, ?_, hI⟩⟩
             rw [← hI, wr_ss])
        · obtain ⟨hlt, hI⟩ : sn < 8 ∧ wr (wr (wr I (1 + 9) sn x) (1 + 10) sn z) 1 6 (nI (sn + 1)) = I35 := by
            rcases h35 with ⟨h1, -, h3⟩ | ⟨-, h2, -⟩
            · exact ⟨h1, h3⟩
            · exact absurd h2 c38
          refine g_aload_n C (pc := 41) dX11_see_41 0 rfl ?_
          refine g_getR C (pc := 42) fl_RX11_10 (by decide) (by first | assumption | rfl | omega) (by first | assumption | rfl | omega) (by first | assumption | rfl | omega) dX11_see_42 ?_
          refine g_getI C (pc := 45) fl_RX11_268 (by decide) (by first | assumption | rfl | omega) (by first | assumption | rfl | omega) dX11_see_45 ?_
          refine g_goto C (pc := 48) 53 dX11_see_48 (by decide) ?_
          refine g_iret C hR (pc := 53) rfl dX11_see_53 ?_
          refine ⟨rfl, _, rfl, ?_⟩
          first
          | exact Or.inl ⟨q, sd9, ⟨hq, hxq, hsd9, hsd2⟩, Or.inr ⟨hge, rfl, hI⟩⟩
          | (refine Or.inl ⟨q, sd9, ⟨hq, hxq, hsd9, hsd2⟩, Or.inl ⟨hlt, ?_, hI⟩⟩
             rw [← hI, wr_ss])
      · refine g_iconst C (pc := 27) (-1) dX11_see_27 (by decide) ?_
        refine g_iret C hR (pc := 28) rfl dX11_see_28 ?_
        refine ⟨rfl, _, rfl, ?_⟩
        refine Or.inr ⟨?_, rfl, rfl⟩
        rintro ⟨q9, s9, h1, h2, h3, h4⟩
        first | exact hx (by rw [h2]; exact sq_in hrw h1) | (cases s9 with
          | none => exact c24 h3
          | some s => exact hs (by rw [h3]; exact ⟨nI_pos' (by have := h4 s rfl; omega), nI_lt (b := 2) (h4 s rfl) (by decide)⟩))
set_option maxHeartbeats 400000 in
theorem c_X11_tell (n : Nat) (ρ : Rho) (I : Mem) (tn : Nat) (x : Int32) (hn9 : n ≤ 999) (hxs : XS n ρ) (htn : I 1 7 = nI tn) (ht3 : tn ≤ 3) : MI yX11_tell cX11_tell 2 (some .int) 1 [.ref 0, .int x] n ρ I (fun v I1 => (∃ w, (w < 5 ∧ x = nI w) ∧ ((tn < 3 ∧ v = nI (tn + 1) ∧ wr (wr I 12 tn x) 1 7 (nI (tn + 1)) = I1) ∨ (3 ≤ tn ∧ v = -3 ∧ I = I1))) ∨ (¬ (∃ w, (w < 5 ∧ x = nI w)) ∧ v = -1 ∧ I = I1)) := by
  refine MG.of (by decide +kernel) (Nat.le_of_ble_eq_true rfl) hn9 ?_
  intro κ C hR
  show G κ n ρ 0 [(0, .ref 0), (1, .int x)] [] I
  obtain ⟨hxc, ⟨xb1, xb2, xb3, xb4, xb5, xb6, xb8⟩, ⟨xi0, xi1, xga, xgb⟩, ⟨xt0, xt1, xgd⟩, hch, ⟨xr0, xr1, xr2⟩, xa0, ⟨xw0, xw1⟩, xst⟩ := id hxs
  obtain ⟨xc0, xcn, xc1, hga, xc7, hss⟩ := id hxc
  have xcz : 0 < n := by omega
  obtain ⟨ga0, ga1, ga2, ga3, ga4, ga5, ga6, ga7, ga8, gan, hrf, hst⟩ := id hga
  have hrf0 := hrf.1
  have hst0 := hst.1
  have hsp := hch.sp
  obtain ⟨hp0, hpn, hp1, hp2, hp3, hp4⟩ := id hsp
  refine g_iload_n C (pc := 0) dX11_tell_0 1 rfl ?_
  refine g_callSI C (pc := 1) mf_X11_isWind lk_RX11_159 (c_X11_isWind n ρ I x hn9) (by decide) (Nat.le_refl _) rfl (Nat.le_of_ble_eq_true rfl) dX11_tell_1 (fun v1 I1 h1 => ?_)
  obtain ⟨e1, rfl⟩ := h1
  refine g_if_ne C (pc := 4) 9 dX11_tell_4 (by decide) (fun c4 => ?_) (fun c4 => ?_)
  · have hx := bI_1.mp (fun h => c4 (e1.trans h))
    obtain ⟨w, hw, hxw⟩ := ix_of (n := 5) (by decide) hx
    refine g_aload_n C (pc := 9) dX11_tell_9 0 rfl ?_
    refine g_getR C (pc := 10) fl_RX11_10 (by decide) (by first | assumption | rfl | omega) (by first | assumption | rfl | omega) (by first | assumption | rfl | omega) dX11_tell_10 ?_
    refine g_iload_n C (pc := 13) dX11_tell_13 1 rfl ?_
    refine g_callVI C (pc := 14) mf_X3_addTold lk_RX11_277 (c_X3_addTold n ρ I 1 tn x hn9 hga htn ht3) (by decide) (Nat.le_refl _) rfl (by first | assumption | rfl | omega) rfl (by first | assumption | rfl | omega) (Nat.le_of_ble_eq_true rfl) dX11_tell_14 (fun v14 I14 h14 => ?_)
    obtain h14 := h14
    refine g_if_eq C (pc := 17) 30 dX11_tell_17 (by decide) (fun c17 => ?_) (fun c17 => ?_)
    · obtain ⟨hge, hI⟩ : 3 ≤ tn ∧ I = I14 := by
        rcases h14 with ⟨-, h2, -⟩ | ⟨h1, -, h3⟩
        · rw [h2] at c17; exact absurd c17 (by decide)
        · exact ⟨h1, h3⟩
      refine g_bipush C (pc := 30) (-3) dX11_tell_30 (by decide) ?_
      refine g_iret C hR (pc := 32) rfl dX11_tell_32 ?_
      refine ⟨rfl, _, rfl, ?_⟩
      first
      | exact Or.inl ⟨w, ⟨hw, hxw⟩, Or.inr ⟨hge, rfl, hI⟩⟩
      | (refine Or.inl ⟨w, ⟨hw, hxw⟩, Or.inl ⟨hlt, ?_, hI⟩⟩
         rw [← hI, wr_ss])
    · obtain ⟨hlt, hI⟩ : tn < 3 ∧ wr (wr I (1 + 11) tn x) 1 7 (nI (tn + 1)) = I14 := by
        rcases h14 with ⟨h1, -, h3⟩ | ⟨-, h2, -⟩
        · exact ⟨h1, h3⟩
        · exact absurd h2 c17
      refine g_aload_n C (pc := 20) dX11_tell_20 0 rfl ?_
      refine g_getR C (pc := 21) fl_RX11_10 (by decide) (by first | assumption | rfl | omega) (by first | assumption | rfl | omega) (by first | assumption | rfl | omega) dX11_tell_21 ?_
      refine g_getI C (pc := 24) fl_RX11_280 (by decide) (by first | assumption | rfl | omega) (by first | assumption | rfl | omega) dX11_tell_24 ?_
      refine g_goto C (pc := 27) 32 dX11_tell_27 (by decide) ?_
      refine g_iret C hR (pc := 32) rfl dX11_tell_32 ?_
      refine ⟨rfl, _, rfl, ?_⟩
      first
      | exact Or.inl ⟨w, ⟨hw, hxw⟩, Or.inr ⟨hge, rfl, hI⟩⟩
      | (refine Or.inl ⟨w, ⟨hw, hxw⟩, Or.inl ⟨hlt, ?_, hI⟩⟩
         rw [← hI, wr_ss])
  · have hx := bI_0.mp (e1.symm.trans c4)
    refine g_iconst C (pc := 7) (-1) dX11_tell_7 (by decide) ?_
    refine g_iret C hR (pc := 8) rfl dX11_tell_8 ?_
    refine ⟨rfl, _, rfl, ?_⟩
    refine Or.inr ⟨?_, rfl, rfl⟩
    rintro ⟨w9, h1, h2⟩
    exact hx (by rw [h2]; exact ⟨nI_pos' (by omega), nI_lt (b := 5) h1 (by decide)⟩)
set_option maxHeartbeats 400000 in
theorem c_X11_findFits (n : Nat) (ρ : Rho) (I : Mem) (F : RT) (b : BT) (sn : Nat) (sq : Nat → Nat) (sd : Nat → Option Nat) (k : Nat) (wt : Option Nat) (Wt : Prop) (x z : Int32) (hn9 : n ≤ 999) (hxs : XS n ρ) (hrr : RR I (1 + 1) F) (hrw : RW F) (hbr : BR I (1 + 5) F b) (hbw : BW F b) (hsn : SnP I 1 sn sq sd) (hk3 : k ≤ 3) (hWt : Wt → x = oI wt ∧ ∀ p, wt = some p → p < rN F) (hzk : z = nI k) : MG yX11_findFits cX11_findFits 3 (some .int) 22 0 [.ref 0, .int x, .int z] n ρ I (fun r9 ρ9 I1 => ρ9 = rwr ρ 53 3 (some 47) ∧ r9 = some (.int (nI (fnd F (seeB F sn sq sd) k b).length)) ∧ (Wt → ∀ i, i < 32 → bt (I1 53 6) i = (fnd F (seeB F sn sq sd) k b).any (fun r => plB wt r.2 i)) ∧ ∀ i, ¬ (29 ≤ i ∧ i ≤ 57) → I1 i = I i) := by
  refine MG.of (by decide +kernel) (Nat.le_of_ble_eq_true rfl) hn9 ?_
  intro κ C hR
  show G κ n ρ 0 [(0, .ref 0), (1, .int x), (2, .int z)] [] I
  obtain ⟨hxc, ⟨xb1, xb2, xb3, xb4, xb5, xb6, xb8⟩, ⟨xi0, xi1, xga, xgb⟩, ⟨xt0, xt1, xgd⟩, hch, ⟨xr0, xr1, xr2⟩, xa0, ⟨xw0, xw1⟩, xst⟩ := id hxs
  obtain ⟨xc0, xcn, xc1, hga, xc7, hss⟩ := id hxc
  have xcz : 0 < n := by omega
  obtain ⟨ga0, ga1, ga2, ga3, ga4, ga5, ga6, ga7, ga8, gan, hrf, hst⟩ := id hga
  have hrf0 := hrf.1
  have hst0 := hst.1
  have hsp := hch.sp
  obtain ⟨hp0, hpn, hp1, hp2, hp3, hp4⟩ := id hsp
  have hnp : rN F ≤ 6 := hrw.2.2.2.2.1
  have hN := hrr.2.2.1
  obtain ⟨hs6, hs8, hsk⟩ := id hsn
  have hsq : ∀ k, k < sn → sq k < 25 ∧ ∀ z, sd k = some z → z < 2 := fun k hk => ⟨(hsk k hk).2.1, (hsk k hk).2.2.2⟩
  refine g_aload_n C (pc := 0) dX11_findFits_0 0 rfl ?_
  refine g_getR C (pc := 1) fl_RX11_42 (by decide) (by first | assumption | rfl | omega) (by first | assumption | rfl | omega) (by first | assumption | rfl | omega) dX11_findFits_1 ?_
  refine g_getR C (pc := 4) fl_RX11_349 (by decide) (by first | assumption | rfl | omega) (by first | assumption | rfl | omega) (by first | assumption | rfl | omega) dX11_findFits_4 ?_
  refine g_aload_n C (pc := 7) dX11_findFits_7 0 rfl ?_
  refine g_getR C (pc := 8) fl_RX11_10 (by decide) (by first | assumption | rfl | omega) (by first | assumption | rfl | omega) (by first | assumption | rfl | omega) dX11_findFits_8 ?_
  refine g_callVV C (pc := 11) mf_X0_aim lk_RX11_353 (c_X0_aim n ρ I 55 1 sn sq sd hn9 rfl xa0 rfl (by omega) rfl ga3 ga4 ga6 ga7 (by omega) hsn (fun i hi => ⟨by omega, by omega⟩)) (by decide) (Nat.le_refl _) rfl (by first | assumption | rfl | omega) rfl (by first | assumption | rfl | omega) (Nat.le_of_ble_eq_true rfl) dX11_findFits_11 (fun I11 h11 => ?_)
  obtain ⟨a11, b11, g11⟩ := h11
  refine g_aload_n C (pc := 14) dX11_findFits_14 0 rfl ?_
  refine g_getR C (pc := 15) fl_RX11_42 (by decide) (by first | assumption | rfl | omega) (by first | assumption | rfl | omega) (by first | assumption | rfl | omega) dX11_findFits_15 ?_
  refine g_iload_n C (pc := 18) dX11_findFits_18 1 rfl ?_
  refine g_putI C (pc := 19) fl_RX11_357 (by decide) fp_5_5 (Or.inl rfl) ⟨rfl, rfl⟩ (by first | assumption | rfl | omega) (by first | assumption | rfl | omega) hn9 dX11_findFits_19 ?_
  refine g_aload_n C (pc := 22) dX11_findFits_22 0 rfl ?_
  refine g_getR C (pc := 23) fl_RX11_42 (by decide) (by first | assumption | rfl | omega) (by first | assumption | rfl | omega) (by first | assumption | rfl | omega) dX11_findFits_23 ?_
  refine g_aload_n C (pc := 26) dX11_findFits_26 0 rfl ?_
  refine g_getR C (pc := 27) fl_RX11_10 (by decide) (by first | assumption | rfl | omega) (by first | assumption | rfl | omega) (by first | assumption | rfl | omega) dX11_findFits_27 ?_
  refine g_getR C (pc := 30) fl_RX11_104 (by decide) (by first | assumption | rfl | omega) (by first | assumption | rfl | omega) (by first | assumption | rfl | omega) dX11_findFits_30 ?_
  refine g_aload_n C (pc := 33) dX11_findFits_33 0 rfl ?_
  refine g_getR C (pc := 34) fl_RX11_10 (by decide) (by first | assumption | rfl | omega) (by first | assumption | rfl | omega) (by first | assumption | rfl | omega) dX11_findFits_34 ?_
  refine g_getR C (pc := 37) fl_RX11_122 (by decide) (by first | assumption | rfl | omega) (by first | assumption | rfl | omega) (by first | assumption | rfl | omega) dX11_findFits_37 ?_
  refine g_aload_n C (pc := 40) dX11_findFits_40 0 rfl ?_
  refine g_getR C (pc := 41) fl_RX11_42 (by decide) (by first | assumption | rfl | omega) (by first | assumption | rfl | omega) (by first | assumption | rfl | omega) dX11_findFits_41 ?_
  refine g_getR C (pc := 44) fl_RX11_349 (by decide) (by first | assumption | rfl | omega) (by first | assumption | rfl | omega) (by first | assumption | rfl | omega) dX11_findFits_44 ?_
  refine g_aload_n C (pc := 47) dX11_findFits_47 0 rfl ?_
  refine g_getR C (pc := 48) fl_RX11_35 (by decide) (by first | assumption | rfl | omega) (by first | assumption | rfl | omega) (by first | assumption | rfl | omega) dX11_findFits_48 ?_
  refine g_iload_n C (pc := 51) dX11_findFits_51 2 rfl ?_
  refine g_callV C (pc := 52) mf_X6_find lk_RX11_257 (k := 0) (c_X6_find n ρ _ 53 55 (1 + 1) (1 + 5) 47 k 1 0 2 5 yX0_mayCome cX0_mayCome Wt F wt (seeB F sn sq sd) (mcS F sn sq sd) b _ hn9 rfl xr2 rfl (by omega) hch (by omega) (fun hw => ⟨by rw [wr_ss]; exact (hWt hw).1, (hWt hw).2⟩) hrf hst hk3 (hrr.cong (fun i hi => by rw [wr_n (by omega), g11 _ (by omega) (by omega)])) hrw (hbr.cong (fun i hi => by rw [wr_n (by omega), g11 _ (by omega) (by omega)])) hbw (by omega) (by left; omega) (prn_seen hrw hsq) mf_X0_mayCome la_X0 rfl rfl (by omega) (by omega) (fun ρ9 J s k9 b9 x9 e9 hJ hs9 hbr9 hbw9 hk9 hx9 => c_X0_mayCome n ρ9 J 55 s sn k9 sq sd F b9 x9 hn9 rfl (by rw [rwr_o e9 (by decide)]; exact xa0) rfl (by omega) hs9 hbr9 (fun s hs i hi => by rw [hJ 56 (by decide) (by decide) (by omega), wr_n (by decide)]; exact a11 s hs i hi) (fun i hi => by rw [hJ 55 (by decide) (by decide) (by omega), wr_n (by decide)]; exact b11 i hi) hk9 hx9) hzk) (by decide) (Nat.le_refl _) rfl (by first | assumption | rfl | omega) rfl (by first | assumption | rfl | omega) (Nat.le_of_ble_eq_true rfl) dX11_findFits_52 ?_
  rintro _ ρ I52 ⟨hρ52, rfl, p52, f52, g52⟩
  refine g_iret C hR (pc := 55) rfl dX11_findFits_55 ?_
  refine ⟨hρ52, rfl, p52, fun i hi => ?_⟩
  rw [g52 i (by omega) (by omega) (by omega), wr_n (by omega), g11 i (by omega) (by omega)]
set_option maxHeartbeats 400000 in
theorem c_X11_fits (n : Nat) (ρ : Rho) (I : Mem) (F : RT) (b : BT) (sn : Nat) (sq : Nat → Nat) (sd : Nat → Option Nat) (x : Int32) (hn9 : n ≤ 999) (hxs : XS n ρ) (hrr : RR I (1 + 1) F) (hrw : RW F) (hbr : BR I (1 + 5) F b) (hbw : BW F b) (hsn : SnP I 1 sn sq sd) : MG yX11_fits cX11_fits 2 (some .int) 23 0 [.ref 0, .int x] n ρ I (fun r9 ρ9 I1 => (∃ k, (k ≤ 3 ∧ x = nI k) ∧ ρ9 = rwr ρ 53 3 (some 47) ∧ r9 = some (.int (nI (fnd F (seeB F sn sq sd) k b).length)) ∧ ∀ i, ¬ (29 ≤ i ∧ i ≤ 57) → I1 i = I i) ∨ (¬ (∃ k, (k ≤ 3 ∧ x = nI k)) ∧ ρ9 = ρ ∧ r9 = some (.int (-1)) ∧ I = I1)) := by
  refine MG.of (by decide +kernel) (Nat.le_of_ble_eq_true rfl) hn9 ?_
  intro κ C hR
  show G κ n ρ 0 [(0, .ref 0), (1, .int x)] [] I
  obtain ⟨hxc, ⟨xb1, xb2, xb3, xb4, xb5, xb6, xb8⟩, ⟨xi0, xi1, xga, xgb⟩, ⟨xt0, xt1, xgd⟩, hch, ⟨xr0, xr1, xr2⟩, xa0, ⟨xw0, xw1⟩, xst⟩ := id hxs
  obtain ⟨xc0, xcn, xc1, hga, xc7, hss⟩ := id hxc
  have xcz : 0 < n := by omega
  obtain ⟨ga0, ga1, ga2, ga3, ga4, ga5, ga6, ga7, ga8, gan, hrf, hst⟩ := id hga
  have hrf0 := hrf.1
  have hst0 := hst.1
  have hsp := hch.sp
  obtain ⟨hp0, hpn, hp1, hp2, hp3, hp4⟩ := id hsp
  have hnp : rN F ≤ 6 := hrw.2.2.2.2.1
  have hN := hrr.2.2.1
  refine g_iload_n C (pc := 0) dX11_fits_0 1 rfl ?_
  refine g_callSI C (pc := 1) mf_X11_isAhead lk_RX11_202 (c_X11_isAhead n ρ I x hn9) (by decide) (Nat.le_refl _) rfl (Nat.le_of_ble_eq_true rfl) dX11_fits_1 (fun v1 I1 h1 => ?_)
  obtain ⟨e1, rfl⟩ := h1
  refine g_if_eq C (pc := 4) 17 dX11_fits_4 (by decide) (fun c4 => ?_) (fun c4 => ?_)
  · have hz0 := bI_0.mp (e1.symm.trans c4)
    refine g_iconst C (pc := 17) (-1) dX11_fits_17 (by decide) ?_
    refine g_iret C hR (pc := 18) rfl dX11_fits_18 ?_
    first
    | exact Or.inl ⟨k, ⟨by omega, hzk⟩, hρ11, rfl, g11⟩
    | exact Or.inr ⟨fun ⟨k9, h1, h2⟩ => hz0 (by rw [h2]; exact ⟨nI_pos' (by omega), (nI_leI (b := 3) (by omega) (by decide)).mpr h1⟩), rfl, rfl, rfl⟩
  · have hz0 := bI_1.mp (fun h => c4 (e1.trans h))
    obtain ⟨k, hk, hzk⟩ := ix_of (x := x) (n := 4) (by decide) ⟨hz0.1, lt4 hz0.2⟩
    refine g_aload_n C (pc := 7) dX11_fits_7 0 rfl ?_
    refine g_bipush C (pc := 8) (-4) dX11_fits_8 (by decide) ?_
    refine g_iload_n C (pc := 10) dX11_fits_10 1 rfl ?_
    refine g_callV C (pc := 11) mf_X11_findFits lk_RX11_271 (k := 0) (c_X11_findFits n ρ I F b sn sq sd k none True (-4) x hn9 hxs hrr hrw hbr hbw hsn (by omega) (fun _ => ⟨rfl, by intro p h9; cases h9⟩) hzk) (by decide) (Nat.le_refl _) rfl (by first | assumption | rfl | omega) rfl (by first | assumption | rfl | omega) (Nat.le_of_ble_eq_true rfl) dX11_fits_11 ?_
    rintro _ ρ I11 ⟨hρ11, rfl, p11, g11⟩
    refine g_goto C (pc := 14) 18 dX11_fits_14 (by decide) ?_
    refine g_iret C hR (pc := 18) rfl dX11_fits_18 ?_
    first
    | exact Or.inl ⟨k, ⟨by omega, hzk⟩, hρ11, rfl, g11⟩
    | exact Or.inr ⟨fun ⟨k9, h1, h2⟩ => hz0 (by rw [h2]; exact ⟨nI_pos' (by omega), (nI_leI (b := 3) (by omega) (by decide)).mpr h1⟩), rfl, rfl, rfl⟩
set_option maxHeartbeats 400000 in
theorem c_X11_where (n : Nat) (ρ : Rho) (I : Mem) (F : RT) (b : BT) (sn : Nat) (sq : Nat → Nat) (sd : Nat → Option Nat) (x z : Int32) (hn9 : n ≤ 999) (hxs : XS n ρ) (hrr : RR I (1 + 1) F) (hrw : RW F) (hbr : BR I (1 + 5) F b) (hbw : BW F b) (hsn : SnP I 1 sn sq sd) : MG yX11_where cX11_where 3 (some .int) 23 0 [.ref 0, .int x, .int z] n ρ I (fun r9 ρ9 I1 => (∃ p k, (p < rN F ∧ k ≤ 3 ∧ x = nI p ∧ z = nI k) ∧ ρ9 = rwr ρ 53 3 (some 47) ∧ (∃ v, r9 = some (.int v) ∧ ∀ i, i < 32 → bt v i = (fnd F (seeB F sn sq sd) k b).any (fun r => plB (some p) r.2 i)) ∧ ∀ i, ¬ (29 ≤ i ∧ i ≤ 57) → I1 i = I i) ∨ (¬ (∃ p k, (p < rN F ∧ k ≤ 3 ∧ x = nI p ∧ z = nI k)) ∧ ρ9 = ρ ∧ r9 = some (.int (-1)) ∧ I = I1)) := by
  refine MG.of (by decide +kernel) (Nat.le_of_ble_eq_true rfl) hn9 ?_
  intro κ C hR
  show G κ n ρ 0 [(0, .ref 0), (1, .int x), (2, .int z)] [] I
  obtain ⟨hxc, ⟨xb1, xb2, xb3, xb4, xb5, xb6, xb8⟩, ⟨xi0, xi1, xga, xgb⟩, ⟨xt0, xt1, xgd⟩, hch, ⟨xr0, xr1, xr2⟩, xa0, ⟨xw0, xw1⟩, xst⟩ := id hxs
  obtain ⟨xc0, xcn, xc1, hga, xc7, hss⟩ := id hxc
  have xcz : 0 < n := by omega
  obtain ⟨ga0, ga1, ga2, ga3, ga4, ga5, ga6, ga7, ga8, gan, hrf, hst⟩ := id hga
  have hrf0 := hrf.1
  have hst0 := hst.1
  have hsp := hch.sp
  obtain ⟨hp0, hpn, hp1, hp2, hp3, hp4⟩ := id hsp
  have hnp : rN F ≤ 6 := hrw.2.2.2.2.1
  have hN := hrr.2.2.1
  refine g_aload_n C (pc := 0) dX11_where_0 0 rfl ?_
  refine g_getR C (pc := 1) fl_RX11_10 (by decide) (by first | assumption | rfl | omega) (by first | assumption | rfl | omega) (by first | assumption | rfl | omega) dX11_where_1 ?_
  refine g_getR C (pc := 4) fl_RX11_104 (by decide) (by first | assumption | rfl | omega) (by first | assumption | rfl | omega) (by first | assumption | rfl | omega) dX11_where_4 ?_
  refine g_iload_n C (pc := 7) dX11_where_7 1 rfl ?_
  refine g_callVI C (pc := 8) mf_X5_isPiece lk_RX11_143 (c_X5_isPiece n ρ I (1 + 1) x hn9 hrf) (by decide) (Nat.le_refl _) rfl (by first | assumption | rfl | omega) rfl (by first | assumption | rfl | omega) (Nat.le_of_ble_eq_true rfl) dX11_where_8 (fun v8 I8 h8 => ?_)
  obtain ⟨e8, rfl⟩ := h8
  rw [hN] at e8
  refine g_if_eq C (pc := 11) 21 dX11_where_11 (by decide) (fun c11 => ?_) (fun c11 => ?_)
  · have hx := bI_0.mp (e8.symm.trans c11)
    refine g_iconst C (pc := 21) (-1) dX11_where_21 (by decide) ?_
    refine g_iret C hR (pc := 22) rfl dX11_where_22 ?_
    refine Or.inr ⟨?_, rfl, rfl, rfl⟩
    rintro ⟨p9, k9, h1, h2, h3, h4⟩
    first | exact hx (by rw [h3]; exact ⟨nI_pos' (by omega), nI_lt h1 (by omega)⟩) | exact hz0 (by rw [h4]; exact ⟨nI_pos' (by omega), (nI_leI (b := 3) (by omega) (by decide)).mpr h2⟩)
  · have hx := bI_1.mp (fun h => c11 (e8.trans h))
    obtain ⟨p, hp, hxp⟩ := pc_of hrw hx
    refine g_iload_n C (pc := 14) dX11_where_14 2 rfl ?_
    refine g_callSI C (pc := 15) mf_X11_isAhead lk_RX11_202 (c_X11_isAhead n ρ I z hn9) (by decide) (Nat.le_refl _) rfl (Nat.le_of_ble_eq_true rfl) dX11_where_15 (fun v15 I15 h15 => ?_)
    obtain ⟨e15, rfl⟩ := h15
    refine g_if_ne C (pc := 18) 23 dX11_where_18 (by decide) (fun c18 => ?_) (fun c18 => ?_)
    · have hz0 := bI_1.mp (fun h => c18 (e15.trans h))
      obtain ⟨k, hk, hzk⟩ := ix_of (x := z) (n := 4) (by decide) ⟨hz0.1, lt4 hz0.2⟩
      refine g_aload_n C (pc := 23) dX11_where_23 0 rfl ?_
      refine g_iload_n C (pc := 24) dX11_where_24 1 rfl ?_
      refine g_iload_n C (pc := 25) dX11_where_25 2 rfl ?_
      refine g_callV C (pc := 26) mf_X11_findFits lk_RX11_271 (k := 0) (c_X11_findFits n ρ I F b sn sq sd k (some p) True x z hn9 hxs hrr hrw hbr hbw hsn (by omega) (fun _ => ⟨hxp, by intro p9 h9; cases h9; exact hp⟩) hzk) (by decide) (Nat.le_refl _) rfl (by first | assumption | rfl | omega) rfl (by first | assumption | rfl | omega) (Nat.le_of_ble_eq_true rfl) dX11_where_26 ?_
      rintro _ ρ I26 ⟨hρ26, rfl, p26, g26⟩
      have xb5 : ρ 0 5 = some 53 := by rw [rwr_o hρ26 (by decide)]; exact xb5
      refine g_pop C (pc := 29) dX11_where_29 rfl ?_
      refine g_aload_n C (pc := 30) dX11_where_30 0 rfl ?_
      refine g_getR C (pc := 31) fl_RX11_42 (by decide) (by first | assumption | rfl | omega) (by first | assumption | rfl | omega) (by first | assumption | rfl | omega) dX11_where_31 ?_
      refine g_getI C (pc := 34) fl_RX11_274 (by decide) (by first | assumption | rfl | omega) (by first | assumption | rfl | omega) dX11_where_34 ?_
      refine g_iret C hR (pc := 37) rfl dX11_where_37 ?_
      exact Or.inl ⟨p, k, ⟨hp, by omega, hxp, hzk⟩, hρ26, ⟨_, rfl, p26 trivial⟩, g26⟩
    · have hz0 := bI_0.mp (e15.symm.trans c18)
      refine g_iconst C (pc := 21) (-1) dX11_where_21 (by decide) ?_
      refine g_iret C hR (pc := 22) rfl dX11_where_22 ?_
      refine Or.inr ⟨?_, rfl, rfl, rfl⟩
      rintro ⟨p9, k9, h1, h2, h3, h4⟩
      first | exact hx (by rw [h3]; exact ⟨nI_pos' (by omega), nI_lt h1 (by omega)⟩) | exact hz0 (by rw [h4]; exact ⟨nI_pos' (by omega), (nI_leI (b := 3) (by omega) (by decide)).mpr h2⟩)
set_option maxHeartbeats 400000 in
theorem c_X11_imageAt_a (n : Nat) (ρ : Rho) (I : Mem) (k : Nat) (kp : Bool) (x : Int32) (hn9 : n ≤ 999) (hxs : XS n ρ) (hkp : I 14 k = bI (kp = true)) (hk2 : k < 2) (hx : x = nI k) (hkp2 : kp = true) : MG yX11_imageAt cX11_imageAt 2 (some (.object "WeatherChess$Game")) 1 0 [.ref 0, .int x] n ρ I (fun r9 ρ9 I1 => ρ9 = ρ ∧ r9 = some (.ref (73 + 12 * k)) ∧ I = I1) := by
  refine MG.of (by decide +kernel) (Nat.le_of_ble_eq_true rfl) hn9 ?_
  intro κ C hR
  show G κ n ρ 0 [(0, .ref 0), (1, .int x)] [] I
  subst hx
  obtain ⟨hxc, ⟨xb1, xb2, xb3, xb4, xb5, xb6, xb8⟩, ⟨xi0, xi1, xga, xgb⟩, ⟨xt0, xt1, xgd⟩, hch, ⟨xr0, xr1, xr2⟩, xa0, ⟨xw0, xw1⟩, xst⟩ := id hxs
  obtain ⟨xc0, xcn, xc1, hga, xc7, hss⟩ := id hxc
  have xcz : 0 < n := by omega
  obtain ⟨ga0, ga1, ga2, ga3, ga4, ga5, ga6, ga7, ga8, gan, hrf, hst⟩ := id hga
  have hrf0 := hrf.1
  have hst0 := hst.1
  have hsp := hch.sp
  obtain ⟨hp0, hpn, hp1, hp2, hp3, hp4⟩ := id hsp
  have hik : ρ 13 k = some (73 + 12 * k) := by
    have : k = 0 ∨ k = 1 := by omega
    rcases this with rfl | rfl
    · exact xi0
    · exact xi1
  refine g_iload_n C (pc := 0) dX11_imageAt_0 1 rfl ?_
  refine g_callSI C (pc := 1) mf_X11_isImage lk_RX11_237 (c_X11_isImage n ρ I _ hn9) (by decide) (Nat.le_refl _) rfl (Nat.le_of_ble_eq_true rfl) dX11_imageAt_1 (fun v1 I1 h1 => ?_)
  obtain ⟨e1, rfl⟩ := h1
  refine g_if_eq C (pc := 4) 25 dX11_imageAt_4 (by decide) (fun c4 => ?_) (fun c4 => ?_)
  · exact absurd ⟨nI_pos' (by omega), nI_lt (b := 2) hk2 (by decide)⟩ (bI_0.mp (e1.symm.trans c4))
  · refine g_aload_n C (pc := 7) dX11_imageAt_7 0 rfl ?_
    refine g_getR C (pc := 8) fl_RX11_20 (by decide) (by first | assumption | rfl | omega) (by first | assumption | rfl | omega) (by first | assumption | rfl | omega) dX11_imageAt_8 ?_
    refine g_iload_n C (pc := 11) dX11_imageAt_11 1 rfl ?_
    refine g_zald C (pc := 12) (by first | assumption | rfl | omega) (by first | assumption | rfl | omega) (vp_in_nI hk2 (by decide)) dX11_imageAt_12 ?_
    refine g_if_eq C (pc := 13) 25 dX11_imageAt_13 (by decide) (fun c13 => ?_) (fun c13 => ?_)
    · rw [nI_clamp (by omega), hkp, hkp2] at c13; exact absurd c13 (by decide)
    · refine g_aload_n C (pc := 16) dX11_imageAt_16 0 rfl ?_
      refine g_getR C (pc := 17) fl_RX11_16 (by decide) (by first | assumption | rfl | omega) (by first | assumption | rfl | omega) (by first | assumption | rfl | omega) dX11_imageAt_17 ?_
      refine g_iload_n C (pc := 20) dX11_imageAt_20 1 rfl ?_
      refine g_aald C (pc := 21) (by first | exact Or.inl rfl | exact Or.inr rfl) (k := 3) (N := 2) rfl (by first | assumption | rfl | omega) (vp_in_nI (N := 2) hk2 (by decide)) (by rw [nI_clamp (by omega)]; exact hik) dX11_imageAt_21 ?_
      refine g_goto C (pc := 22) 26 dX11_imageAt_22 (by decide) ?_
      refine g_aret C hR (pc := 26) rfl dX11_imageAt_26 ?_
      exact ⟨rfl, rfl, rfl⟩
set_option maxHeartbeats 400000 in
theorem c_X11_imageAt_N (n : Nat) (ρ : Rho) (I : Mem) (k : Nat) (kp : Bool) (x : Int32) (hn9 : n ≤ 999) (hxs : XS n ρ) (hkp : I 14 k = bI (kp = true)) (hk2 : k < 2) (hx : x = nI k) (hkp2 : kp = false) : MG yX11_imageAt cX11_imageAt 2 (some (.object "WeatherChess$Game")) 1 0 [.ref 0, .int x] n ρ I (fun r9 ρ9 I1 => ρ9 = ρ ∧ r9 = some (.null) ∧ I = I1) := by
  refine MG.of (by decide +kernel) (Nat.le_of_ble_eq_true rfl) hn9 ?_
  intro κ C hR
  show G κ n ρ 0 [(0, .ref 0), (1, .int x)] [] I
  subst hx
  obtain ⟨hxc, ⟨xb1, xb2, xb3, xb4, xb5, xb6, xb8⟩, ⟨xi0, xi1, xga, xgb⟩, ⟨xt0, xt1, xgd⟩, hch, ⟨xr0, xr1, xr2⟩, xa0, ⟨xw0, xw1⟩, xst⟩ := id hxs
  obtain ⟨xc0, xcn, xc1, hga, xc7, hss⟩ := id hxc
  have xcz : 0 < n := by omega
  obtain ⟨ga0, ga1, ga2, ga3, ga4, ga5, ga6, ga7, ga8, gan, hrf, hst⟩ := id hga
  have hrf0 := hrf.1
  have hst0 := hst.1
  have hsp := hch.sp
  obtain ⟨hp0, hpn, hp1, hp2, hp3, hp4⟩ := id hsp
  have hik : ρ 13 k = some (73 + 12 * k) := by
    have : k = 0 ∨ k = 1 := by omega
    rcases this with rfl | rfl
    · exact xi0
    · exact xi1
  refine g_iload_n C (pc := 0) dX11_imageAt_0 1 rfl ?_
  refine g_callSI C (pc := 1) mf_X11_isImage lk_RX11_237 (c_X11_isImage n ρ I _ hn9) (by decide) (Nat.le_refl _) rfl (Nat.le_of_ble_eq_true rfl) dX11_imageAt_1 (fun v1 I1 h1 => ?_)
  obtain ⟨e1, rfl⟩ := h1
  refine g_if_eq C (pc := 4) 25 dX11_imageAt_4 (by decide) (fun c4 => ?_) (fun c4 => ?_)
  · exact absurd ⟨nI_pos' (by omega), nI_lt (b := 2) hk2 (by decide)⟩ (bI_0.mp (e1.symm.trans c4))
  · refine g_aload_n C (pc := 7) dX11_imageAt_7 0 rfl ?_
    refine g_getR C (pc := 8) fl_RX11_20 (by decide) (by first | assumption | rfl | omega) (by first | assumption | rfl | omega) (by first | assumption | rfl | omega) dX11_imageAt_8 ?_
    refine g_iload_n C (pc := 11) dX11_imageAt_11 1 rfl ?_
    refine g_zald C (pc := 12) (by first | assumption | rfl | omega) (by first | assumption | rfl | omega) (vp_in_nI hk2 (by decide)) dX11_imageAt_12 ?_
    refine g_if_eq C (pc := 13) 25 dX11_imageAt_13 (by decide) (fun c13 => ?_) (fun c13 => ?_)
    · refine g_null C (pc := 25) dX11_imageAt_25 ?_
      refine g_aretN C hR (pc := 26) rfl dX11_imageAt_26 ?_
      exact ⟨rfl, rfl, rfl⟩
    · rw [nI_clamp (by omega), hkp, hkp2] at c13; exact absurd c13 (by decide)
