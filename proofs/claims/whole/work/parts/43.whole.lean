def WhP (I I1 : Mem) (v : Int32) (r : PRs (RT × BT)) : Prop := (∀ e, r = .inl e → v = 0 ∧ I1 15 4 = nI e.1 ∧ I1 15 5 = nI e.2) ∧ (∀ q, r = .inr q → v = 1 ∧ RR I1 18 q.1 ∧ RW q.1 ∧ BR I1 22 q.1 q.2 ∧ BW q.1 q.2 ∧ I1 15 4 = I 15 4) ∧ TFr I I1
theorem WhP.nar {I I1 : Mem} {v : Int32} {r : PRs (RT × BT)} (h : WhP I I1 v r) : narrow .boolean (.int v) = .int v := by
  cases e : r with
  | inl q => rw [(h.1 q e).1]; rfl
  | inr q => rw [(h.2.1 q e).1]; rfl
def TxP (I I1 : Mem) (v : Int32) (r : PRs (Nat × RT × BT)) : Prop := (∀ e, r = .inl e → v = 0 ∧ I1 15 4 = nI e.1 ∧ I1 15 5 = nI e.2) ∧ (∀ q, r = .inr q → v = 1 ∧ I1 15 3 = nI q.1 ∧ q.1 ≤ 320 ∧ RR I1 18 q.2.1 ∧ RW q.2.1 ∧ BR I1 22 q.2.1 q.2.2 ∧ BW q.2.1 q.2.2 ∧ I1 15 4 = 0)
theorem TxP.nar {I I1 : Mem} {v : Int32} {r : PRs (Nat × RT × BT)} (h : TxP I I1 v r) : narrow .boolean (.int v) = .int v := by
  cases e : r with
  | inl q => rw [(h.1 q e).1]; rfl
  | inr q => rw [(h.2 q e).1]; rfl
theorem rdLine_ok {tb : Nat → Nat} {L k f p : Nat} {D : DT} {q : DT × Nat} (hp : p ≤ L) (hfL : f ≤ L) (h : rdLine tb L D k f p = .inr q) (hw : RW (dF D)) : q.2 ≤ L := by
  have sg : ∀ {x y : Nat} {z : DT}, x ≤ L → pb (rdSgn tb L x) (fun e => (.inr (z, e) : PRs (DT × Nat))) = .inr q → q.2 ≤ L := by
    intro x y z hx h9
    cases e : rdSgn tb L x with
    | inl a => rw [pb_l e] at h9; cases h9
    | inr a => rw [pb_r e] at h9; cases h9; exact rdSgn_ok hx e
  unfold rdLine at h
  split at h
  · unfold rdBoard at h
    split at h
    · cases h
    · cases e : rdNum tb L 2 5 p with
      | inl a => rw [pb_l e] at h; cases h
      | inr a =>
        rw [pb_r e] at h
        cases e2 : rdNum tb L 2 5 a.2.2 with
        | inl c => rw [pb_l e2] at h; cases h
        | inr c =>
          rw [pb_r e2] at h
          exact sg (y := 0) (rdNum_ok (rdNum_ok hp e).2.2.2 e2).2.2.2 h
  · split at h
    · unfold rdStp at h
      cases e : rdFree tb L D p with
      | inl a => rw [pb_l e] at h; cases h
      | inr a => rw [pb_r e] at h; exact sg (y := 0) (rdFree_ok hp e).2.2.1 h
    · split at h
      · unfold rdPiece at h
        split at h
        · cases h
        · split at h
          · cases h
          · split at h
            · cases h
            · have h0 := (tkE_le (tb := tb) hp).2
              cases e : rdNum tb L 0 1 (tkE tb L p) with
              | inl a => rw [pb_l e] at h; cases h
              | inr a =>
                rw [pb_r e] at h
                have h1 := (rdNum_ok h0 e).2.2.2
                cases e2 : rdFree tb L D a.2.2 with
                | inl c => rw [pb_l e2] at h; cases h
                | inr c =>
                  rw [pb_r e2] at h
                  have h2 := (rdFree_ok h1 e2).2.2.1
                  cases e3 : rdNum tb L 0 9 c.2.2 with
                  | inl d => rw [pb_l e3] at h; cases h
                  | inr d => rw [pb_r e3] at h; exact sg (y := 0) (rdNum_ok h2 e3).2.2.2 h
      · split at h
        · unfold rdOdds at h
          split at h
          · cases h
          · cases e : rdOds tb L 5 0 (rOd (dF D)) f p with
            | inl a => rw [pb_l e] at h; cases h
            | inr a =>
              rw [pb_r e] at h
              split at h
              · exact sg (y := 0) (rdOds_ok hp hfL hw.2.2.2.2.2.2.1 e).2.2 h
              · cases h
        · split at h
          · unfold rdTurn at h
            split at h
            · cases h
            · cases e : rdNum tb L 0 1 p with
              | inl a => rw [pb_l e] at h; cases h
              | inr a => rw [pb_r e] at h; exact sg (y := 0) (rdNum_ok hp e).2.2.2 h
          · cases h
theorem pon_empty {F : RT} {b : BT} {q : Nat} (h : rN F = 0) : pon F b q = none := findP_none (fun p hp => by omega)
theorem pon_one {F : RT} {b : BT} {q : Nat} (h : rN F = 0) (hq : 0 < q) : pon (adF F 0 0) (adB b 0 0 9) q = none := by
  refine findP_none (fun p hp => ?_)
  replace hp : p < rN F + 1 := hp
  have e : p = 0 := by omega
  subst e
  show ((if 0 = 0 then some 0 else bP b 0) == some q) = false
  rw [if_pos rfl]
  have : ¬ (0 : Nat) = q := by omega
  simp [this]
set_option maxHeartbeats 400000 in
theorem c_X3_addTwoKings_G (n : Nat) (ρ : Rho) (I : Mem) (g w h : Nat) (hn9 : n ≤ 999) (hga : GaS n ρ g) (hgk : I (g + 1) 6 = nI 0) (h3 : I (g + 1) 3 = nI w) (h4 : I (g + 1) 4 = nI h) (hw : 1 ≤ w * h) : MV yX3_addTwoKings cX3_addTwoKings 1 none 3 [.ref g] n ρ I (fun I1 => addK (addK I g 0 0 0 0 9) g 1 1 0 (nI (w * h - 1)) 9 = I1) := by
  refine MG.of (by decide +kernel) (Nat.le_of_ble_eq_true rfl) hn9 ?_
  intro κ C hR
  show G κ n ρ 0 [(0, .ref g)] [] I
  obtain ⟨ga0, ga1, ga2, ga3, ga4, ga5, ga6, ga7, ga8, gan, hrf, hst⟩ := id hga
  have hrf0 := hrf.1
  have hst0 := hst.1
  refine g_aload_n C (pc := 0) dX3_addTwoKings_0 0 rfl ?_
  refine g_iconst C (pc := 1) 0 dX3_addTwoKings_1 (by decide) ?_
  refine g_iconst C (pc := 2) 0 dX3_addTwoKings_2 (by decide) ?_
  refine g_iconst C (pc := 3) 0 dX3_addTwoKings_3 (by decide) ?_
  refine g_bipush C (pc := 4) 9 dX3_addTwoKings_4 (by decide) ?_
  refine g_callVV C (pc := 6) mf_X3_addPiece lk_RX3_79 (c_X3_addPiece n ρ I g 0 0 0 0 0 9 hn9 hga hgk (by decide) rfl (by decide)) (by decide) (Nat.le_refl _) rfl (by first | assumption | rfl | omega) rfl (by first | assumption | rfl | omega) (Nat.le_of_ble_eq_true rfl) dX3_addTwoKings_6 (fun I6 h6 => ?_)
  obtain h6 := h6
  have h6b : addK I g 0 0 0 0 9 = I6 := by
    rcases h6 with h | h
    · exact h.2
    · exact absurd h.1 (by decide)
  refine g_aload_n C (pc := 9) dX3_addTwoKings_9 0 rfl ?_
  refine g_iconst C (pc := 10) 0 dX3_addTwoKings_10 (by decide) ?_
  refine g_iconst C (pc := 11) 1 dX3_addTwoKings_11 (by decide) ?_
  refine g_aload_n C (pc := 12) dX3_addTwoKings_12 0 rfl ?_
  refine g_getR C (pc := 13) fl_RX3_12 (by decide) (by first | assumption | rfl | omega) (by first | assumption | rfl | omega) (by first | assumption | rfl | omega) dX3_addTwoKings_13 ?_
  refine g_callVI C (pc := 16) mf_X5_squares lk_RX3_83 (c_X5_squares n ρ _ (g + 1) hn9 hrf) (by decide) (Nat.le_refl _) rfl (by first | assumption | rfl | omega) rfl (by first | assumption | rfl | omega) (Nat.le_of_ble_eq_true rfl) dX3_addTwoKings_16 (fun v16 I16 h16 => ?_)
  obtain ⟨e16, rfl⟩ := h16
  refine g_iconst C (pc := 19) 1 dX3_addTwoKings_19 (by decide) ?_
  refine g_isub C (pc := 20) dX3_addTwoKings_20 ?_
  refine g_bipush C (pc := 21) 9 dX3_addTwoKings_21 (by decide) ?_
  refine g_callVV C (pc := 23) mf_X3_addPiece lk_RX3_79 (c_X3_addPiece n ρ _ g 1 1 0 1 _ 9 hn9 hga (by rw [← h6b]; exact addK_6) (by decide) rfl (by decide)) (by decide) (Nat.le_refl _) rfl (by first | assumption | rfl | omega) rfl (by first | assumption | rfl | omega) (Nat.le_of_ble_eq_true rfl) dX3_addTwoKings_23 (fun I23 h23 => ?_)
  obtain h23 := h23
  refine g_vret C hR (pc := 26) rfl dX3_addTwoKings_26 ?_
  refine ⟨rfl, rfl, ?_⟩
  rcases h23 with h9 | h9
  · rw [← h9.2, ← h6b]
    congr 1
    rw [e16, ← h6b, addK_o (by decide), addK_o (by decide), h3, h4, pk_mul]
    exact (pk_sub (b := 1) hw).symm
  · exact absurd h9.1 (by decide)
set_option maxHeartbeats 400000 in
theorem c_X10_kings (n : Nat) (ρ : Rho) (I : Mem) (L : Nat) (tb : Nat → Nat) (D : DT) (s : Nat) (x : Int32) (hn9 : n ≤ 999) (hxs : XS n ρ) (htb : TbR I L tb) (hdr : DrR I D) (hs : s < 2) (hx : x = nI s) : MI yX10_kings cX10_kings 4 (some .int) 1 [.ref 15, .int x] n ρ I (fun v I1 => v = nI (kgN (dF D) s) ∧ I = I1) := by
  refine MG.of (by decide +kernel) (Nat.le_of_ble_eq_true rfl) hn9 ?_
  intro κ C hR
  show G κ n ρ 0 [(0, .ref 15), (1, .int x)] [] I
  obtain ⟨hxc, ⟨xb1, xb2, xb3, xb4, xb5, xb6, xb8⟩, ⟨xi0, xi1, xga, xgb⟩, ⟨xt0, xt1, xgd⟩, hch, ⟨xr0, xr1, xr2⟩, xa0, ⟨xw0, xw1⟩, xst⟩ := id hxs
  obtain ⟨xc0, xcn, xc1, hga, xc7, hss⟩ := id hxc
  have xcz : 0 < n := by omega
  obtain ⟨ga0, ga1, ga2, ga3, ga4, ga5, ga6, ga7, ga8, gan, hrf, hst⟩ := id hga
  have hrf0 := hrf.1
  have hst0 := hst.1
  have hsp := hch.sp
  obtain ⟨hp0, hpn, hp1, hp2, hp3, hp4⟩ := id hsp
  obtain ⟨hL, hL3, htbs⟩ := id htb
  obtain ⟨drr, drw, dbr, dbw, dpz, d6, d7, d8⟩ := id hdr
  obtain ⟨gd0, gd1, gd2, gd3, gd4, gd5, gd6, gd7, gd8, gdn, drf, dst⟩ := id xgd
  have drf0 := drf.1
  have dst0 := dst.1
  have hn6 := drw.2.2.2.2.1
  refine g_iconst C (pc := 0) 0 dX10_kings_0 (by decide) ?_
  refine g_istore_n C (pc := 1) dX10_kings_1 (by decide) (fun v1 => [(2, .int v1), (0, .ref 15), (1, .int x)]) (fun _ => rfl) (fun v1 ev1 => ?_)
  refine g_iconst C (pc := 2) 0 dX10_kings_2 (by decide) ?_
  refine g_istore_n C (pc := 3) dX10_kings_3 (by decide) (fun v3 => [(3, .int v3), (2, .int v1), (0, .ref 15), (1, .int x)]) (fun _ => rfl) (fun v3 ev3 => ?_)
  have L4 : ∀ (k9 : Nat) (j : Nat) (wz3 : Int32) (wz2 : Int32) (hw3 : wz3 = nI j) (hj : j ≤ rN (dF D)) (hC : wz2 = nI (ctP (fun p => decide (rKd (dF D) p = 0) && decide (rSd (dF D) p = s)) j)), rN (dF D) - j < k9 → G κ n ρ 4 [(3, .int wz3), (2, .int wz2), (0, .ref 15), (1, .int x)] [] I := by
    intro k9
    induction k9 with
    | zero => intro j wz3 wz2 hw3 hj hC hm4; exact absurd hm4 (Nat.not_lt_zero _)
    | succ k9 ih4 =>
      intro j wz3 wz2 hw3 hj hC hm4
      subst hw3
      have hc8 := ctP_le (fun p => decide (rKd (dF D) p = 0) && decide (rSd (dF D) p = s)) j
      refine g_iload_n C (pc := 4) dX10_kings_4 0 rfl ?_
      refine g_aload_n C (pc := 5) dX10_kings_5 2 rfl ?_
      refine g_getR C (pc := 6) fl_RX10_18 (by decide) (by first | assumption | rfl | omega) (by first | assumption | rfl | omega) (by first | assumption | rfl | omega) dX10_kings_6 ?_
      refine g_getR C (pc := 9) fl_RX10_103 (by decide) (by first | assumption | rfl | omega) (by first | assumption | rfl | omega) (by first | assumption | rfl | omega) dX10_kings_9 ?_
      refine g_getI C (pc := 12) fl_RX10_128 (by decide) (by first | assumption | rfl | omega) (by first | assumption | rfl | omega) dX10_kings_12 ?_
      refine g_icmp_ge C (pc := 15) 56 dX10_kings_15 (by decide) (fun c15 => ?_) (fun c15 => ?_)
      · rw [drr.2.2.1, nI_leI (by omega) (by omega)] at c15
        refine g_iload_n C (pc := 56) dX10_kings_56 1 rfl ?_
        refine g_iret C hR (pc := 57) rfl dX10_kings_57 ?_
        refine ⟨rfl, _, rfl, ?_⟩
        have : j = rN (dF D) := by omega
        subst this; exact ⟨hC, rfl⟩
      · rw [drr.2.2.1, nI_ltI (by omega) (by omega)] at c15
        have hsk := drw.2.2.2.2.2.1 j c15
        refine g_aload_n C (pc := 18) dX10_kings_18 2 rfl ?_
        refine g_getR C (pc := 19) fl_RX10_18 (by decide) (by first | assumption | rfl | omega) (by first | assumption | rfl | omega) (by first | assumption | rfl | omega) dX10_kings_19 ?_
        refine g_getR C (pc := 22) fl_RX10_103 (by decide) (by first | assumption | rfl | omega) (by first | assumption | rfl | omega) (by first | assumption | rfl | omega) dX10_kings_22 ?_
        refine g_iload_n C (pc := 25) dX10_kings_25 0 rfl ?_
        refine g_callVI C (pc := 26) mf_X5_kindOf lk_RX10_190 (c_X5_kindOf n ρ I 18 _ hn9 drf) (by decide) (Nat.le_refl _) rfl (by first | assumption | rfl | omega) rfl (by first | assumption | rfl | omega) (Nat.le_of_ble_eq_true rfl) dX10_kings_26 (fun v26 I26 h26 => ?_)
        obtain ⟨e26, rfl⟩ := h26
        rw [drr.2.2.1, at66 hn6 c15, (drr.2.2.2.2.1 j c15).2] at e26
        refine g_if_ne C (pc := 29) 50 dX10_kings_29 (by decide) (fun c29 => ?_) (fun c29 => ?_)
        · have hno : ¬ (rKd (dF D) j = 0 ∧ rSd (dF D) j = s) := fun h9 => c29 (by rw [e26, h9.1]; rfl)
          refine g_iinc C (pc := 50) (1) dX10_kings_50 0 rfl (by decide) (by decide) (fun v50 => [(3, .int v50), (2, .int wz2), (0, .ref 15), (1, .int x)]) (fun _ => rfl) (fun v50 ev50 => ?_)
          refine g_goto C (pc := 53) 4 dX10_kings_53 (by decide) ?_
          refine g_lv C [0, 1, 2, 3] rfl (ih4 (j + 1) _ _ ?_ ?_ ?_ (by omega))
          · subst_vars; exact nI_1 _
          · omega
          · first | (rw [hC, ctP, if_neg (by simpa using hno), Nat.add_zero]; done) | (rw [ev47, hC, ctP, if_pos (by simpa using hyes)]; exact nI_1 _)
        · have hk0 : rKd (dF D) j = 0 := by
            rw [e26] at c29
            exact (nI_eq (b := 0) (by omega) (by decide)).mp c29
          refine g_aload_n C (pc := 32) dX10_kings_32 2 rfl ?_
          refine g_getR C (pc := 33) fl_RX10_18 (by decide) (by first | assumption | rfl | omega) (by first | assumption | rfl | omega) (by first | assumption | rfl | omega) dX10_kings_33 ?_
          refine g_getR C (pc := 36) fl_RX10_103 (by decide) (by first | assumption | rfl | omega) (by first | assumption | rfl | omega) (by first | assumption | rfl | omega) dX10_kings_36 ?_
          refine g_iload_n C (pc := 39) dX10_kings_39 0 rfl ?_
          refine g_callVI C (pc := 40) mf_X5_sideOf lk_RX10_193 (c_X5_sideOf n ρ I 18 _ hn9 drf) (by decide) (Nat.le_refl _) rfl (by first | assumption | rfl | omega) rfl (by first | assumption | rfl | omega) (Nat.le_of_ble_eq_true rfl) dX10_kings_40 (fun v40 I40 h40 => ?_)
          obtain ⟨e40, rfl⟩ := h40
          rw [drr.2.2.1, at66 hn6 c15, (drr.2.2.2.2.1 j c15).1] at e40
          refine g_iload_n C (pc := 43) dX10_kings_43 3 rfl ?_
          refine g_icmp_ne C (pc := 44) 50 dX10_kings_44 (by decide) (fun c44 => ?_) (fun c44 => ?_)
          · have hno : ¬ (rKd (dF D) j = 0 ∧ rSd (dF D) j = s) := fun h9 => c44 (by rw [e40, hx, h9.2])
            refine g_iinc C (pc := 50) (1) dX10_kings_50 0 rfl (by decide) (by decide) (fun v50 => [(3, .int v50), (2, .int wz2), (0, .ref 15), (1, .int x)]) (fun _ => rfl) (fun v50 ev50 => ?_)
            refine g_goto C (pc := 53) 4 dX10_kings_53 (by decide) ?_
            refine g_lv C [0, 1, 2, 3] rfl (ih4 (j + 1) _ _ ?_ ?_ ?_ (by omega))
            · subst_vars; exact nI_1 _
            · omega
            · first | (rw [hC, ctP, if_neg (by simpa using hno), Nat.add_zero]; done) | (rw [ev47, hC, ctP, if_pos (by simpa using hyes)]; exact nI_1 _)
          · have hyes : rKd (dF D) j = 0 ∧ rSd (dF D) j = s := by
              rw [e40, hx] at c44
              exact ⟨hk0, (nI_eq (by omega) (by omega)).mp c44⟩
            refine g_iinc C (pc := 47) (1) dX10_kings_47 1 rfl (by decide) (by decide) (fun v47 => [(2, .int v47), (3, .int (nI j)), (0, .ref 15), (1, .int x)]) (fun _ => rfl) (fun v47 ev47 => ?_)
            refine g_iinc C (pc := 50) (1) dX10_kings_50 1 rfl (by decide) (by decide) (fun v50 => [(3, .int v50), (2, .int v47), (0, .ref 15), (1, .int x)]) (fun _ => rfl) (fun v50 ev50 => ?_)
            refine g_goto C (pc := 53) 4 dX10_kings_53 (by decide) ?_
            refine g_lv C [0, 1, 2, 3] rfl (ih4 (j + 1) _ _ ?_ ?_ ?_ (by omega))
            · subst_vars; exact nI_1 _
            · omega
            · first | (rw [hC, ctP, if_neg (by simpa using hno), Nat.add_zero]; done) | (rw [ev47, hC, ctP, if_pos (by simpa using hyes)]; exact nI_1 _)
  refine g_lv C [0, 1, 2, 3] rfl (L4 (_ + 1) 0 _ _ ?_ ?_ ?_ (by first | omega | exact Nat.lt_succ_self _))
  · subst_vars; rfl
  · omega
  · subst_vars; rfl
set_option maxHeartbeats 400000 in
theorem c_X10_hasItsSquares (n : Nat) (ρ : Rho) (I : Mem) (L : Nat) (tb : Nat → Nat) (D : DT) (hn9 : n ≤ 999) (hxs : XS n ρ) (htb : TbR I L tb) (hdr : DrR I D) : MI yX10_hasItsSquares cX10_hasItsSquares 2 (some .boolean) 1 [.ref 15] n ρ I (fun v I1 => v = bI (¬ ((List.range 32).any (fun i => decide (rW (dF D) * rH (dF D) ≤ i) && useB (dF D) (dB D) i) = true)) ∧ I = I1) := by
  refine MG.of (by decide +kernel) (Nat.le_of_ble_eq_true rfl) hn9 ?_
  intro κ C hR
  show G κ n ρ 0 [(0, .ref 15)] [] I
  obtain ⟨hxc, ⟨xb1, xb2, xb3, xb4, xb5, xb6, xb8⟩, ⟨xi0, xi1, xga, xgb⟩, ⟨xt0, xt1, xgd⟩, hch, ⟨xr0, xr1, xr2⟩, xa0, ⟨xw0, xw1⟩, xst⟩ := id hxs
  obtain ⟨xc0, xcn, xc1, hga, xc7, hss⟩ := id hxc
  have xcz : 0 < n := by omega
  obtain ⟨ga0, ga1, ga2, ga3, ga4, ga5, ga6, ga7, ga8, gan, hrf, hst⟩ := id hga
  have hrf0 := hrf.1
  have hst0 := hst.1
  have hsp := hch.sp
  obtain ⟨hp0, hpn, hp1, hp2, hp3, hp4⟩ := id hsp
  obtain ⟨hL, hL3, htbs⟩ := id htb
  obtain ⟨drr, drw, dbr, dbw, dpz, d6, d7, d8⟩ := id hdr
  obtain ⟨gd0, gd1, gd2, gd3, gd4, gd5, gd6, gd7, gd8, gdn, drf, dst⟩ := id xgd
  have drf0 := drf.1
  have dst0 := dst.1
  have hm := Nat.mul_le_mul drw.2.1 drw.2.2.2.1
  refine g_aload_n C (pc := 0) dX10_hasItsSquares_0 0 rfl ?_
  refine g_getR C (pc := 1) fl_RX10_18 (by decide) (by first | assumption | rfl | omega) (by first | assumption | rfl | omega) (by first | assumption | rfl | omega) dX10_hasItsSquares_1 ?_
  refine g_getR C (pc := 4) fl_RX10_103 (by decide) (by first | assumption | rfl | omega) (by first | assumption | rfl | omega) (by first | assumption | rfl | omega) dX10_hasItsSquares_4 ?_
  refine g_getI C (pc := 7) fl_RX10_184 (by decide) (by first | assumption | rfl | omega) (by first | assumption | rfl | omega) dX10_hasItsSquares_7 ?_
  refine g_aload_n C (pc := 10) dX10_hasItsSquares_10 0 rfl ?_
  refine g_getR C (pc := 11) fl_RX10_18 (by decide) (by first | assumption | rfl | omega) (by first | assumption | rfl | omega) (by first | assumption | rfl | omega) dX10_hasItsSquares_11 ?_
  refine g_getR C (pc := 14) fl_RX10_146 (by decide) (by first | assumption | rfl | omega) (by first | assumption | rfl | omega) (by first | assumption | rfl | omega) dX10_hasItsSquares_14 ?_
  refine g_iconst C (pc := 17) 0 dX10_hasItsSquares_17 (by decide) ?_
  refine g_callVI C (pc := 18) mf_X8_heldBy lk_RX10_187 (c_X8_heldBy n ρ I 22 _ hn9 dst) (by decide) (Nat.le_refl _) rfl (by first | assumption | rfl | omega) rfl (by first | assumption | rfl | omega) (Nat.le_of_ble_eq_true rfl) dX10_hasItsSquares_18 (fun v18 I18 h18 => ?_)
  obtain ⟨e18, rfl⟩ := h18
  refine g_ior C (pc := 21) dX10_hasItsSquares_21 ?_
  refine g_aload_n C (pc := 22) dX10_hasItsSquares_22 0 rfl ?_
  refine g_getR C (pc := 23) fl_RX10_18 (by decide) (by first | assumption | rfl | omega) (by first | assumption | rfl | omega) (by first | assumption | rfl | omega) dX10_hasItsSquares_23 ?_
  refine g_getR C (pc := 26) fl_RX10_146 (by decide) (by first | assumption | rfl | omega) (by first | assumption | rfl | omega) (by first | assumption | rfl | omega) dX10_hasItsSquares_26 ?_
  refine g_iconst C (pc := 29) 1 dX10_hasItsSquares_29 (by decide) ?_
  refine g_callVI C (pc := 30) mf_X8_heldBy lk_RX10_187 (c_X8_heldBy n ρ I 22 _ hn9 dst) (by decide) (Nat.le_refl _) rfl (by first | assumption | rfl | omega) rfl (by first | assumption | rfl | omega) (Nat.le_of_ble_eq_true rfl) dX10_hasItsSquares_30 (fun v30 I30 h30 => ?_)
  obtain ⟨e30, rfl⟩ := h30
  refine g_ior C (pc := 33) dX10_hasItsSquares_33 ?_
  refine g_istore_n C (pc := 34) dX10_hasItsSquares_34 (by decide) (fun v34 => [(1, .int v34), (0, .ref 15)]) (fun _ => rfl) (fun v34 ev34 => ?_)
  have hub : ∀ i, i < 32 → bt v34 i = useB (dF D) (dB D) i := fun i hi => by
    rw [ev34, b_or, b_or, e18, e30, hel_at dbr (sd := 0) (z := 0) (by decide) hi rfl, hel_at dbr (sd := 1) (z := 1) (by decide) hi rfl, drr.2.2.2.1 i hi]; rfl
  refine g_iload_n C (pc := 35) dX10_hasItsSquares_35 0 rfl ?_
  refine g_aload_n C (pc := 36) dX10_hasItsSquares_36 1 rfl ?_
  refine g_getR C (pc := 37) fl_RX10_18 (by decide) (by first | assumption | rfl | omega) (by first | assumption | rfl | omega) (by first | assumption | rfl | omega) dX10_hasItsSquares_37 ?_
  refine g_getR C (pc := 40) fl_RX10_103 (by decide) (by first | assumption | rfl | omega) (by first | assumption | rfl | omega) (by first | assumption | rfl | omega) dX10_hasItsSquares_40 ?_
  refine g_callVI C (pc := 43) mf_X5_squares lk_RX10_178 (c_X5_squares n ρ I 18 hn9 drf) (by decide) (Nat.le_refl _) rfl (by first | assumption | rfl | omega) rfl (by first | assumption | rfl | omega) (Nat.le_of_ble_eq_true rfl) dX10_hasItsSquares_43 (fun v43 I43 h43 => ?_)
  obtain ⟨e43, rfl⟩ := h43
  rw [drr.1, drr.2.1, pk_mul] at e43
  have hsh : ∀ i, i < 32 → bt ((v34.toUInt32 >>> (v43.toUInt32 &&& Int32.toUInt32 31)).toInt32) i = bt v34 (rW (dF D) * rH (dF D) + i) := fun i hi => by rw [e43]; exact b_ushr _ (by omega) v34 i
  refine g_iushr C (pc := 46) dX10_hasItsSquares_46 ?_
  refine g_if_ne C (pc := 47) 54 dX10_hasItsSquares_47 (by decide) (fun c47 => ?_) (fun c47 => ?_)
  · have hyes : ((List.range 32).any (fun i => decide (rW (dF D) * rH (dF D) ≤ i) && useB (dF D) (dB D) i) = true) := by
      rw [List.any_eq_true]
      obtain ⟨i, hi, hbi⟩ : ∃ i, i < 32 ∧ bt v34 (rW (dF D) * rH (dF D) + i) = true := by
        apply Classical.byContradiction
        intro h9
        exact c47 (bt_zero.mpr fun i hi => by
          rw [hsh i hi]
          cases h8 : bt v34 (rW (dF D) * rH (dF D) + i) with
          | false => rfl
          | true => exact absurd ⟨i, hi, h8⟩ h9)
      have h32 : rW (dF D) * rH (dF D) + i < 32 := by
        rcases Nat.lt_or_ge (rW (dF D) * rH (dF D) + i) 32 with h | h
        · exact h
        · rw [b_big h] at hbi; cases hbi
      exact ⟨_, List.mem_range.mpr h32, by rw [hub _ h32] at hbi; rw [hbi, decide_eq_true (Nat.le_add_right _ _)]; rfl⟩
    refine g_iconst C (pc := 54) 0 dX10_hasItsSquares_54 (by decide) ?_
    refine g_zret C hR (pc := 55) rfl rfl dX10_hasItsSquares_55 ?_
    refine ⟨rfl, _, rfl, ?_⟩
    first | exact ⟨(bI_t hno).symm, rfl⟩ | exact ⟨(bI_f (fun h => h hyes)).symm, rfl⟩
  · have hno : ¬ ((List.range 32).any (fun i => decide (rW (dF D) * rH (dF D) ≤ i) && useB (dF D) (dB D) i) = true) := by
      rw [List.any_eq_true]
      rintro ⟨i, hi, h9⟩
      have hi := List.mem_range.mp hi
      rw [Bool.and_eq_true, decide_eq_true_eq] at h9
      have h8 := bt_zero.mp c47 (i - rW (dF D) * rH (dF D)) (by omega)
      rw [hsh _ (by omega), show rW (dF D) * rH (dF D) + (i - rW (dF D) * rH (dF D)) = i by omega, hub i hi, h9.2] at h8
      cases h8
    refine g_iconst C (pc := 50) 1 dX10_hasItsSquares_50 (by decide) ?_
    refine g_goto C (pc := 51) 55 dX10_hasItsSquares_51 (by decide) ?_
    refine g_zret C hR (pc := 55) rfl rfl dX10_hasItsSquares_55 ?_
    refine ⟨rfl, _, rfl, ?_⟩
    first | exact ⟨(bI_t hno).symm, rfl⟩ | exact ⟨(bI_f (fun h => h hyes)).symm, rfl⟩
set_option maxHeartbeats 400000 in
theorem c_X10_isWhole (n : Nat) (ρ : Rho) (I : Mem) (L : Nat) (tb : Nat → Nat) (D : DT) (hn9 : n ≤ 999) (hxs : XS n ρ) (htb : TbR I L tb) (hdr : DrR I D) : MI yX10_isWhole cX10_isWhole 1 (some .boolean) 4 [.ref 15] n ρ I (fun v I1 => WhP I I1 v (whlD L D)) := by
  refine MG.of (by decide +kernel) (Nat.le_of_ble_eq_true rfl) hn9 ?_
  intro κ C hR
  show G κ n ρ 0 [(0, .ref 15)] [] I
  obtain ⟨hxc, ⟨xb1, xb2, xb3, xb4, xb5, xb6, xb8⟩, ⟨xi0, xi1, xga, xgb⟩, ⟨xt0, xt1, xgd⟩, hch, ⟨xr0, xr1, xr2⟩, xa0, ⟨xw0, xw1⟩, xst⟩ := id hxs
  obtain ⟨xc0, xcn, xc1, hga, xc7, hss⟩ := id hxc
  have xcz : 0 < n := by omega
  obtain ⟨ga0, ga1, ga2, ga3, ga4, ga5, ga6, ga7, ga8, gan, hrf, hst⟩ := id hga
  have hrf0 := hrf.1
  have hst0 := hst.1
  have hsp := hch.sp
  obtain ⟨hp0, hpn, hp1, hp2, hp3, hp4⟩ := id hsp
  obtain ⟨hL, hL3, htbs⟩ := id htb
  obtain ⟨drr, drw, dbr, dbw, dpz, d6, d7, d8⟩ := id hdr
  obtain ⟨gd0, gd1, gd2, gd3, gd4, gd5, gd6, gd7, gd8, gdn, drf, dst⟩ := id xgd
  have drf0 := drf.1
  have dst0 := dst.1
  have hn6 := drw.2.2.2.2.1
  have hm := Nat.mul_le_mul drw.2.1 drw.2.2.2.1
  have hm4 := Nat.mul_le_mul drw.1 drw.2.2.1
  refine g_aload_n C (pc := 0) dX10_isWhole_0 0 rfl ?_
  refine g_callVI C (pc := 1) mf_X10_hasItsSquares lk_RX10_171 (c_X10_hasItsSquares n ρ I L tb D hn9 hxs htb hdr) (by decide) (Nat.le_refl _) rfl (by first | assumption | rfl | omega) rfl (by first | assumption | rfl | omega) (Nat.le_of_ble_eq_true rfl) dX10_isWhole_1 (fun v1 I1 h1 => ?_)
  obtain ⟨e1, rfl⟩ := h1
  refine g_if_ne C (pc := 4) 18 dX10_isWhole_4 (by decide) (fun c4 => ?_) (fun c4 => ?_)
  · have hsq := bI_1.mp (fun h => c4 (e1.trans h))
    refine g_aload_n C (pc := 18) dX10_isWhole_18 0 rfl ?_
    refine g_getR C (pc := 19) fl_RX10_18 (by decide) (by first | assumption | rfl | omega) (by first | assumption | rfl | omega) (by first | assumption | rfl | omega) dX10_isWhole_19 ?_
    refine g_getR C (pc := 22) fl_RX10_103 (by decide) (by first | assumption | rfl | omega) (by first | assumption | rfl | omega) (by first | assumption | rfl | omega) dX10_isWhole_22 ?_
    refine g_getI C (pc := 25) fl_RX10_128 (by decide) (by first | assumption | rfl | omega) (by first | assumption | rfl | omega) dX10_isWhole_25 ?_
    refine g_if_le C (pc := 28) 68 dX10_isWhole_28 (by decide) (fun c28 => ?_) (fun c28 => ?_)
    · have hN0 : rN (dF D) = 0 := by
        rw [drr.2.2.1] at c28
        have := (nI_leI (b := 0) (by omega) (by decide)).mp c28
        omega
      refine g_aload_n C (pc := 68) dX10_isWhole_68 0 rfl ?_
      refine g_getR C (pc := 69) fl_RX10_18 (by decide) (by first | assumption | rfl | omega) (by first | assumption | rfl | omega) (by first | assumption | rfl | omega) dX10_isWhole_69 ?_
      refine g_getR C (pc := 72) fl_RX10_103 (by decide) (by first | assumption | rfl | omega) (by first | assumption | rfl | omega) (by first | assumption | rfl | omega) dX10_isWhole_72 ?_
      refine g_iconst C (pc := 75) 0 dX10_isWhole_75 (by decide) ?_
      refine g_callVI C (pc := 76) mf_X5_isClosed lk_RX10_155 (c_X5_isClosed n ρ I 18 0 hn9 drf) (by decide) (Nat.le_refl _) rfl (by first | assumption | rfl | omega) rfl (by first | assumption | rfl | omega) (Nat.le_of_ble_eq_true rfl) dX10_isWhole_76 (fun v76 I76 h76 => ?_)
      obtain ⟨e76, rfl⟩ := h76
      have hc0 : (I 18 5 &&& bitO 0) = 0 ↔ rS (dF D) 0 = false := by
        rw [show bitO 0 = bitO (nI 0) from rfl, and_bitO (by decide), drr.2.2.2.1 0 (by decide)]
      refine g_if_ne C (pc := 79) 107 dX10_isWhole_79 (by decide) (fun c79 => ?_) (fun c79 => ?_)
      · have hS0 : ¬ rS (dF D) 0 = false := fun h9 => (bI_1.mp (fun h => c79 (e76.trans h))) (hc0.mpr h9)
        have hr : (whlD L D) = .inl (8, L) := by unfold whlD; rw [if_neg hsq, if_neg (by omega), if_pos (Or.inl (by simpa using hS0))]
        refine g_aload_n C (pc := 107) dX10_isWhole_107 0 rfl ?_
        refine g_bipush C (pc := 108) 8 dX10_isWhole_108 (by decide) ?_
        refine g_aload_n C (pc := 110) dX10_isWhole_110 0 rfl ?_
        refine g_getI C (pc := 111) fl_RX10_22 (by decide) (by first | assumption | rfl | omega) (by first | assumption | rfl | omega) dX10_isWhole_111 ?_
        refine g_callVI C (pc := 114) mf_X10_fail lk_RX10_96 (c_X10_fail n ρ _ _ _ hn9 hxs) (by decide) (Nat.le_refl _) rfl (by first | assumption | rfl | omega) rfl (by first | assumption | rfl | omega) (Nat.le_of_ble_eq_true rfl) dX10_isWhole_114 (fun v114 I114 h114 => ?_)
        obtain ⟨rfl, rfl⟩ := h114
        refine g_zret C hR (pc := 117) rfl rfl dX10_isWhole_117 ?_
        refine ⟨rfl, _, rfl, ?_⟩
        refine ⟨fun e8 h9 => ?_, fun q8 h9 => ?_, ⟨fun i h1 h2 => by rw [wr_n h1, wr_n h1], by rw [wr_sn (by decide), wr_sn (by decide)], by rw [wr_sn (by decide), wr_sn (by decide)]⟩⟩
        · rw [hr] at h9; cases h9; exact ⟨rfl, by rw [wr_sn (by decide), wr_ss]; rfl, by rw [wr_ss]; exact hL⟩
        · rw [hr] at h9; cases h9
      · have hS0 : rS (dF D) 0 = false := hc0.mp (Decidable.not_not.mp (bI_0.mp (e76.symm.trans c79)))
        refine g_aload_n C (pc := 82) dX10_isWhole_82 0 rfl ?_
        refine g_getR C (pc := 83) fl_RX10_18 (by decide) (by first | assumption | rfl | omega) (by first | assumption | rfl | omega) (by first | assumption | rfl | omega) dX10_isWhole_83 ?_
        refine g_getR C (pc := 86) fl_RX10_103 (by decide) (by first | assumption | rfl | omega) (by first | assumption | rfl | omega) (by first | assumption | rfl | omega) dX10_isWhole_86 ?_
        refine g_aload_n C (pc := 89) dX10_isWhole_89 0 rfl ?_
        refine g_getR C (pc := 90) fl_RX10_18 (by decide) (by first | assumption | rfl | omega) (by first | assumption | rfl | omega) (by first | assumption | rfl | omega) dX10_isWhole_90 ?_
        refine g_getR C (pc := 93) fl_RX10_103 (by decide) (by first | assumption | rfl | omega) (by first | assumption | rfl | omega) (by first | assumption | rfl | omega) dX10_isWhole_93 ?_
        refine g_callVI C (pc := 96) mf_X5_squares lk_RX10_178 (c_X5_squares n ρ I 18 hn9 drf) (by decide) (Nat.le_refl _) rfl (by first | assumption | rfl | omega) rfl (by first | assumption | rfl | omega) (Nat.le_of_ble_eq_true rfl) dX10_isWhole_96 (fun v96 I96 h96 => ?_)
        obtain ⟨e96, rfl⟩ := h96
        refine g_iconst C (pc := 99) 1 dX10_isWhole_99 (by decide) ?_
        refine g_isub C (pc := 100) dX10_isWhole_100 ?_
        refine g_callVI C (pc := 101) mf_X5_isClosed lk_RX10_155 (c_X5_isClosed n ρ I 18 _ hn9 drf) (by decide) (Nat.le_refl _) rfl (by first | assumption | rfl | omega) rfl (by first | assumption | rfl | omega) (Nat.le_of_ble_eq_true rfl) dX10_isWhole_101 (fun v101 I101 h101 => ?_)
        obtain ⟨e101, rfl⟩ := h101
        have hv96 : v96 - 1 = nI (rW (dF D) * rH (dF D) - 1) := by rw [e96, drr.1, drr.2.1, pk_mul]; exact pk_sub (b := 1) (by omega)
        have hc1 : (I 18 5 &&& bitO (v96 - 1)) = 0 ↔ rS (dF D) (rW (dF D) * rH (dF D) - 1) = false := by
          rw [hv96, and_bitO (by omega), drr.2.2.2.1 _ (by omega)]
        refine g_if_eq C (pc := 104) 118 dX10_isWhole_104 (by decide) (fun c104 => ?_) (fun c104 => ?_)
        · have hS1 : rS (dF D) (rW (dF D) * rH (dF D) - 1) = false := hc1.mp (Decidable.not_not.mp (bI_0.mp (e101.symm.trans c104)))
          have hr : (whlD L D) = .inr (twoK (dF D) (dB D)) := by unfold whlD; rw [if_neg hsq, if_neg (by omega), if_neg (by rw [hS0, hS1]; simp)]
          refine g_aload_n C (pc := 118) dX10_isWhole_118 0 rfl ?_
          refine g_getR C (pc := 119) fl_RX10_18 (by decide) (by first | assumption | rfl | omega) (by first | assumption | rfl | omega) (by first | assumption | rfl | omega) dX10_isWhole_119 ?_
          refine g_callVV C (pc := 122) mf_X3_addTwoKings lk_RX10_181 (c_X3_addTwoKings_G n ρ I 17 (rW (dF D)) (rH (dF D)) hn9 xgd (by rw [show (17 : Nat) + 1 = 18 from rfl, drr.2.2.1, hN0]) drr.1 drr.2.1 (by omega)) (by decide) (Nat.le_refl _) rfl (by first | assumption | rfl | omega) rfl (by first | assumption | rfl | omega) (Nat.le_of_ble_eq_true rfl) dX10_isWhole_122 (fun I122 h122 => ?_)
          obtain h122 := h122
          have hA1 := addK_R (g := 17) (kd := 0) (sd := 0) (q := 0) (o := 9) drr drw dbr dbw (by omega) (by decide) (by decide) (by decide) (by decide) (dpz _ (Nat.le_refl _) (by omega)) (pon_empty hN0)
          rw [hN0] at hA1
          have hN1 : rN (adF (dF D) 0 0) = 1 := by show rN (dF D) + 1 = 1; rw [hN0]
          have hA2 := addK_R (g := 17) (kd := 0) (sd := 1) (q := rW (dF D) * rH (dF D) - 1) (o := 9) hA1.1 hA1.2.1 hA1.2.2.1 hA1.2.2.2 (by omega) (by decide) (by decide) (by omega) (by decide) (by rw [hN1, (addK_at (g := 17)).2.2.1, upd_n (by decide)]; exact dpz 1 (by omega) (by decide)) (pon_one hN0 (by omega))
          rw [hN1] at hA2
          replace h122 : addK (addK I 17 0 0 (nI 0) (nI 0) (nI 9)) 17 1 1 (nI 0) (nI (rW (dF D) * rH (dF D) - 1)) (nI 9) = I122 := h122
          rw [h122] at hA2
          refine g_iconst C (pc := 125) 1 dX10_isWhole_125 (by decide) ?_
          refine g_zret C hR (pc := 126) rfl rfl dX10_isWhole_126 ?_
          refine ⟨rfl, _, rfl, ?_⟩
          have e15 : I122 15 = I 15 := by rw [← h122, addK_n (by omega), addK_n (by omega)]
          refine ⟨fun e8 h9 => ?_, fun q8 h9 => ?_, fun i _ h2 => by rw [← h122, addK_n (by omega), addK_n (by omega)], by rw [e15], by rw [e15]⟩
          · rw [hr] at h9; cases h9
          · rw [hr] at h9; cases h9; exact ⟨rfl, hA2.1, hA2.2.1, by unfold twoK; rw [show adB (adB (dB D) 0 0 9) 1 (rW (dF D) * rH (dF D) - 1) 9 = adB (adB (dB D) 0 0 9) 1 (rW (dF D) * rH (dF D) - 1) 9 from rfl]; exact hA2.2.2.1, hA2.2.2.2, by rw [e15]⟩
        · have hS1 : ¬ rS (dF D) (rW (dF D) * rH (dF D) - 1) = false := fun h9 => (bI_1.mp (fun h => c104 (e101.trans h))) (hc1.mpr h9)
          have hr : (whlD L D) = .inl (8, L) := by unfold whlD; rw [if_neg hsq, if_neg (by omega), if_pos (Or.inr (by simpa using hS1))]
          refine g_aload_n C (pc := 107) dX10_isWhole_107 0 rfl ?_
          refine g_bipush C (pc := 108) 8 dX10_isWhole_108 (by decide) ?_
          refine g_aload_n C (pc := 110) dX10_isWhole_110 0 rfl ?_
          refine g_getI C (pc := 111) fl_RX10_22 (by decide) (by first | assumption | rfl | omega) (by first | assumption | rfl | omega) dX10_isWhole_111 ?_
          refine g_callVI C (pc := 114) mf_X10_fail lk_RX10_96 (c_X10_fail n ρ _ _ _ hn9 hxs) (by decide) (Nat.le_refl _) rfl (by first | assumption | rfl | omega) rfl (by first | assumption | rfl | omega) (Nat.le_of_ble_eq_true rfl) dX10_isWhole_114 (fun v114 I114 h114 => ?_)
          obtain ⟨rfl, rfl⟩ := h114
          refine g_zret C hR (pc := 117) rfl rfl dX10_isWhole_117 ?_
          refine ⟨rfl, _, rfl, ?_⟩
          refine ⟨fun e8 h9 => ?_, fun q8 h9 => ?_, ⟨fun i h1 h2 => by rw [wr_n h1, wr_n h1], by rw [wr_sn (by decide), wr_sn (by decide)], by rw [wr_sn (by decide), wr_sn (by decide)]⟩⟩
          · rw [hr] at h9; cases h9; exact ⟨rfl, by rw [wr_sn (by decide), wr_ss]; rfl, by rw [wr_ss]; exact hL⟩
          · rw [hr] at h9; cases h9
    · have hNp : 0 < rN (dF D) := by
        rw [drr.2.2.1] at c28
        exact (nI_ltI (a := 0) (by decide) (by omega)).mp c28
      refine g_aload_n C (pc := 31) dX10_isWhole_31 0 rfl ?_
      refine g_iconst C (pc := 32) 0 dX10_isWhole_32 (by decide) ?_
      refine g_callVI C (pc := 33) mf_X10_kings lk_RX10_174 (c_X10_kings n ρ I L tb D 0 _ hn9 hxs htb hdr (by decide) rfl) (by decide) (Nat.le_refl _) rfl (by first | assumption | rfl | omega) rfl (by first | assumption | rfl | omega) (Nat.le_of_ble_eq_true rfl) dX10_isWhole_33 (fun v33 I33 h33 => ?_)
      obtain ⟨e33, rfl⟩ := h33
      have hk9 := ctP_le (fun p => decide (rKd (dF D) p = 0) && decide (rSd (dF D) p = 0)) (rN (dF D))
      have hk9 : kgN (dF D) 0 ≤ 6 := Nat.le_trans hk9 hn6
      refine g_iconst C (pc := 36) 1 dX10_isWhole_36 (by decide) ?_
      refine g_icmp_ne C (pc := 37) 49 dX10_isWhole_37 (by decide) (fun c37 => ?_) (fun c37 => ?_)
      · have hk0 : ¬ kgN (dF D) 0 = 1 := fun h9 => c37 (by rw [e33, h9]; rfl)
        have hr : (whlD L D) = .inl (7, L) := by unfold whlD; rw [if_neg hsq, if_pos hNp, if_neg (fun h => hk0 h.1)]
        refine g_aload_n C (pc := 49) dX10_isWhole_49 0 rfl ?_
        refine g_bipush C (pc := 50) 7 dX10_isWhole_50 (by decide) ?_
        refine g_aload_n C (pc := 52) dX10_isWhole_52 0 rfl ?_
        refine g_getI C (pc := 53) fl_RX10_22 (by decide) (by first | assumption | rfl | omega) (by first | assumption | rfl | omega) dX10_isWhole_53 ?_
        refine g_callVI C (pc := 56) mf_X10_fail lk_RX10_96 (c_X10_fail n ρ _ _ _ hn9 hxs) (by decide) (Nat.le_refl _) rfl (by first | assumption | rfl | omega) rfl (by first | assumption | rfl | omega) (Nat.le_of_ble_eq_true rfl) dX10_isWhole_56 (fun v56 I56 h56 => ?_)
        obtain ⟨rfl, rfl⟩ := h56
        refine g_if_eq C (pc := 59) 66 dX10_isWhole_59 (by decide) (fun c59 => ?_) (fun c59 => ?_)
        · refine g_iconst C (pc := 66) 0 dX10_isWhole_66 (by decide) ?_
          refine g_zret C hR (pc := 67) rfl rfl dX10_isWhole_67 ?_
          refine ⟨rfl, _, rfl, ?_⟩
          first
          | (refine ⟨fun e8 h9 => ?_, fun q8 h9 => ?_, ⟨fun i h1 h2 => by rw [wr_n h1, wr_n h1], by rw [wr_sn (by decide), wr_sn (by decide)], by rw [wr_sn (by decide), wr_sn (by decide)]⟩⟩
             · rw [hr] at h9; cases h9; exact ⟨rfl, by rw [wr_sn (by decide), wr_ss]; rfl, by rw [wr_ss]; exact hL⟩
             · rw [hr] at h9; cases h9)
          | (refine ⟨fun e8 h9 => ?_, fun q8 h9 => ?_, TFr.rfl'⟩
             · rw [hr] at h9; cases h9
             · rw [hr] at h9; cases h9; exact ⟨rfl, drr, drw, dbr, dbw, rfl⟩)
        · exact absurd rfl c59
      · have hk0 : kgN (dF D) 0 = 1 := by
          rw [e33] at c37
          exact (nI_eq (b := 1) (by omega) (by decide)).mp c37
        refine g_aload_n C (pc := 40) dX10_isWhole_40 0 rfl ?_
        refine g_iconst C (pc := 41) 1 dX10_isWhole_41 (by decide) ?_
        refine g_callVI C (pc := 42) mf_X10_kings lk_RX10_174 (c_X10_kings n ρ I L tb D 1 _ hn9 hxs htb hdr (by decide) rfl) (by decide) (Nat.le_refl _) rfl (by first | assumption | rfl | omega) rfl (by first | assumption | rfl | omega) (Nat.le_of_ble_eq_true rfl) dX10_isWhole_42 (fun v42 I42 h42 => ?_)
        obtain ⟨e42, rfl⟩ := h42
        have hk8 := ctP_le (fun p => decide (rKd (dF D) p = 0) && decide (rSd (dF D) p = 1)) (rN (dF D))
        have hk8 : kgN (dF D) 1 ≤ 6 := Nat.le_trans hk8 hn6
        refine g_iconst C (pc := 45) 1 dX10_isWhole_45 (by decide) ?_
        refine g_icmp_eq C (pc := 46) 62 dX10_isWhole_46 (by decide) (fun c46 => ?_) (fun c46 => ?_)
        · have hk1 : kgN (dF D) 1 = 1 := by
            rw [e42] at c46
            exact (nI_eq (b := 1) (by omega) (by decide)).mp c46
          have hr : (whlD L D) = .inr (dF D, dB D) := by unfold whlD; rw [if_neg hsq, if_pos hNp, if_pos ⟨hk0, hk1⟩]
          refine g_iconst C (pc := 62) 1 dX10_isWhole_62 (by decide) ?_
          refine g_goto C (pc := 63) 67 dX10_isWhole_63 (by decide) ?_
          refine g_zret C hR (pc := 67) rfl rfl dX10_isWhole_67 ?_
          refine ⟨rfl, _, rfl, ?_⟩
          first
          | (refine ⟨fun e8 h9 => ?_, fun q8 h9 => ?_, ⟨fun i h1 h2 => by rw [wr_n h1, wr_n h1], by rw [wr_sn (by decide), wr_sn (by decide)], by rw [wr_sn (by decide), wr_sn (by decide)]⟩⟩
             · rw [hr] at h9; cases h9; exact ⟨rfl, by rw [wr_sn (by decide), wr_ss]; rfl, by rw [wr_ss]; exact hL⟩
             · rw [hr] at h9; cases h9)
          | (refine ⟨fun e8 h9 => ?_, fun q8 h9 => ?_, TFr.rfl'⟩
             · rw [hr] at h9; cases h9
             · rw [hr] at h9; cases h9; exact ⟨rfl, drr, drw, dbr, dbw, rfl⟩)
        · have hk1 : ¬ kgN (dF D) 1 = 1 := fun h9 => c46 (by rw [e42, h9]; rfl)
          have hr : (whlD L D) = .inl (7, L) := by unfold whlD; rw [if_neg hsq, if_pos hNp, if_neg (fun h => hk1 h.2)]
          refine g_aload_n C (pc := 49) dX10_isWhole_49 0 rfl ?_
          refine g_bipush C (pc := 50) 7 dX10_isWhole_50 (by decide) ?_
          refine g_aload_n C (pc := 52) dX10_isWhole_52 0 rfl ?_
          refine g_getI C (pc := 53) fl_RX10_22 (by decide) (by first | assumption | rfl | omega) (by first | assumption | rfl | omega) dX10_isWhole_53 ?_
          refine g_callVI C (pc := 56) mf_X10_fail lk_RX10_96 (c_X10_fail n ρ _ _ _ hn9 hxs) (by decide) (Nat.le_refl _) rfl (by first | assumption | rfl | omega) rfl (by first | assumption | rfl | omega) (Nat.le_of_ble_eq_true rfl) dX10_isWhole_56 (fun v56 I56 h56 => ?_)
          obtain ⟨rfl, rfl⟩ := h56
          refine g_if_eq C (pc := 59) 66 dX10_isWhole_59 (by decide) (fun c59 => ?_) (fun c59 => ?_)
          · refine g_iconst C (pc := 66) 0 dX10_isWhole_66 (by decide) ?_
            refine g_zret C hR (pc := 67) rfl rfl dX10_isWhole_67 ?_
            refine ⟨rfl, _, rfl, ?_⟩
            first
            | (refine ⟨fun e8 h9 => ?_, fun q8 h9 => ?_, ⟨fun i h1 h2 => by rw [wr_n h1, wr_n h1], by rw [wr_sn (by decide), wr_sn (by decide)], by rw [wr_sn (by decide), wr_sn (by decide)]⟩⟩
               · rw [hr] at h9; cases h9; exact ⟨rfl, by rw [wr_sn (by decide), wr_ss]; rfl, by rw [wr_ss]; exact hL⟩
               · rw [hr] at h9; cases h9)
            | (refine ⟨fun e8 h9 => ?_, fun q8 h9 => ?_, TFr.rfl'⟩
               · rw [hr] at h9; cases h9
               · rw [hr] at h9; cases h9; exact ⟨rfl, drr, drw, dbr, dbw, rfl⟩)
          · exact absurd rfl c59
  · have hbad : ((List.range 32).any (fun i => decide (rW (dF D) * rH (dF D) ≤ i) && useB (dF D) (dB D) i) = true) := Decidable.not_not.mp (bI_0.mp (e1.symm.trans c4))
    have hr : (whlD L D) = .inl (6, L) := by unfold whlD; rw [if_pos hbad]
    refine g_aload_n C (pc := 7) dX10_isWhole_7 0 rfl ?_
    refine g_bipush C (pc := 8) 6 dX10_isWhole_8 (by decide) ?_
    refine g_aload_n C (pc := 10) dX10_isWhole_10 0 rfl ?_
    refine g_getI C (pc := 11) fl_RX10_22 (by decide) (by first | assumption | rfl | omega) (by first | assumption | rfl | omega) dX10_isWhole_11 ?_
    refine g_callVI C (pc := 14) mf_X10_fail lk_RX10_96 (c_X10_fail n ρ _ _ _ hn9 hxs) (by decide) (Nat.le_refl _) rfl (by first | assumption | rfl | omega) rfl (by first | assumption | rfl | omega) (Nat.le_of_ble_eq_true rfl) dX10_isWhole_14 (fun v14 I14 h14 => ?_)
    obtain ⟨rfl, rfl⟩ := h14
    refine g_zret C hR (pc := 17) rfl rfl dX10_isWhole_17 ?_
    refine ⟨rfl, _, rfl, ?_⟩
    refine ⟨fun e8 h9 => ?_, fun q8 h9 => ?_, ⟨fun i h1 h2 => by rw [wr_n h1, wr_n h1], by rw [wr_sn (by decide), wr_sn (by decide)], by rw [wr_sn (by decide), wr_sn (by decide)]⟩⟩
    · rw [hr] at h9; cases h9; exact ⟨rfl, by rw [wr_sn (by decide), wr_ss]; rfl, by rw [wr_ss]; exact hL⟩
    · rw [hr] at h9; cases h9
