theorem rdNum_ge {tb : Nat → Nat} {L lo hi p : Nat} {q : Nat × Nat × Nat} (hp : p ≤ L) (h : rdNum tb L lo hi p = .inr q) : p ≤ q.2.2 := by
  unfold rdNum at h
  have h1 := tkF_le (tb := tb) hp
  have h2 := tkE_le (tb := tb) hp
  split at h
  · cases h
  · split at h
    · cases h
    · split at h
      · cases h; show p ≤ tkE tb L p; omega
      · cases h
theorem rdSgn_ge {tb : Nat → Nat} {L p q : Nat} (hp : p ≤ L) (h : rdSgn tb L p = .inr q) : p ≤ q := by
  unfold rdSgn at h
  have h1 := tkF_le (tb := tb) hp
  have h2 := tkE_le (tb := tb) hp
  split at h
  · cases h
  · split at h
    · cases h; omega
    · cases h
theorem rdFree_ge {tb : Nat → Nat} {L p : Nat} {D : DT} {q : Nat × Nat × Nat} (hp : p ≤ L) (h : rdFree tb L D p = .inr q) : p ≤ q.2.2 := by
  unfold rdFree at h
  cases e : rdNum tb L 0 24 p with
  | inl x => rw [e] at h; cases h
  | inr x =>
    rw [pb_r e] at h
    split at h
    · cases h; exact rdNum_ge hp e
    · cases h
theorem rdOds_ge {tb : Nat → Nat} {L : Nat} : ∀ {k j p f : Nat} {g : Nat → Nat} {r : (Nat → Nat) × Nat × Nat}, p ≤ L → rdOds tb L k j g f p = .inr r → p ≤ r.2.2
  | 0, j, p, f, g, r, hp, h => by rw [rdOds] at h; cases h; exact Nat.le_refl _
  | k + 1, j, p, f, g, r, hp, h => by
    rw [rdOds] at h
    cases e : rdNum tb L 0 9 p with
    | inl x => rw [e] at h; cases h
    | inr x =>
      rw [pb_r e] at h
      exact Nat.le_trans (rdNum_ge hp e) (rdOds_ge (rdNum_ok hp e).2.2.2 h)
theorem tkE_gt {tb : Nat → Nat} {L p : Nat} (hp : p ≤ L) (h0 : tkK tb L p ≠ 0) (h4 : tkK tb L p ≠ 4) : tkF tb L p < tkE tb L p := by
  have hF := tkF_le (tb := tb) hp
  unfold tkK at h0 h4
  unfold tkE
  split
  · rename_i h; rw [if_pos h] at h4; exact absurd rfl h4
  · rename_i hL
    rw [if_neg hL] at h0
    split
    · omega
    · rename_i h59
      rw [if_neg h59] at h0
      split
      · rename_i ha
        have := runT_le (tb := tb) (lo := 97) (hi := 122) (show tkF tb L p + 1 ≤ L by omega)
        rw [runT_go ⟨by omega, ha⟩]; omega
      · rename_i ha
        rw [if_neg ha] at h0
        split at h0
        · rename_i hd
          have := runT_le (tb := tb) (lo := 48) (hi := 57) (show tkF tb L p + 1 ≤ L by omega)
          rw [runT_go ⟨by omega, hd⟩]; omega
        · exact absurd rfl h0
theorem rdLine_ge {tb : Nat → Nat} {L k f p : Nat} {D : DT} {q : DT × Nat} (hp : p ≤ L) (hfL : f ≤ L) (h : rdLine tb L D k f p = .inr q) (hw : RW (dF D)) : p ≤ q.2 := by
  have sg : ∀ {x y : Nat} {z : DT}, x ≤ L → p ≤ x → pb (rdSgn tb L x) (fun e => (.inr (z, e) : PRs (DT × Nat))) = .inr q → p ≤ q.2 := by
    intro x y z hx hpx h9
    cases e : rdSgn tb L x with
    | inl a => rw [pb_l e] at h9; cases h9
    | inr a => rw [pb_r e] at h9; cases h9; exact Nat.le_trans hpx (rdSgn_ge hx e)
  unfold rdLine at h
  split at h
  · unfold rdBoard at h
    split at h
    · cases h
    · cases e : rdNum tb L 2 5 p with
      | inl a => rw [pb_l e] at h; cases h
      | inr a =>
        rw [pb_r e] at h
        cases e2 : rdNum tb L 2 5 a.2.2 with
        | inl c => rw [pb_l e2] at h; cases h
        | inr c =>
          rw [pb_r e2] at h
          exact sg (y := 0) (rdNum_ok (rdNum_ok hp e).2.2.2 e2).2.2.2 (Nat.le_trans (rdNum_ge hp e) (rdNum_ge (rdNum_ok hp e).2.2.2 e2)) h
  · split at h
    · unfold rdStp at h
      cases e : rdFree tb L D p with
      | inl a => rw [pb_l e] at h; cases h
      | inr a => rw [pb_r e] at h; exact sg (y := 0) (rdFree_ok hp e).2.2.1 (rdFree_ge hp e) h
    · split at h
      · unfold rdPiece at h
        split at h
        · cases h
        · split at h
          · cases h
          · split at h
            · cases h
            · have h0 := (tkE_le (tb := tb) hp).2
              have h00 : p ≤ tkE tb L p := Nat.le_trans (tkF_le (tb := tb) hp).1 (tkE_le (tb := tb) hp).1
              cases e : rdNum tb L 0 1 (tkE tb L p) with
              | inl a => rw [pb_l e] at h; cases h
              | inr a =>
                rw [pb_r e] at h
                have h1 := (rdNum_ok h0 e).2.2.2
                cases e2 : rdFree tb L D a.2.2 with
                | inl c => rw [pb_l e2] at h; cases h
                | inr c =>
                  rw [pb_r e2] at h
                  have h2 := (rdFree_ok h1 e2).2.2.1
                  cases e3 : rdNum tb L 0 9 c.2.2 with
                  | inl d => rw [pb_l e3] at h; cases h
                  | inr d => rw [pb_r e3] at h; exact sg (y := 0) (rdNum_ok h2 e3).2.2.2 (Nat.le_trans h00 (Nat.le_trans (rdNum_ge h0 e) (Nat.le_trans (rdFree_ge h1 e2) (rdNum_ge h2 e3)))) h
      · split at h
        · unfold rdOdds at h
          split at h
          · cases h
          · cases e : rdOds tb L 5 0 (rOd (dF D)) f p with
            | inl a => rw [pb_l e] at h; cases h
            | inr a =>
              rw [pb_r e] at h
              split at h
              · exact sg (y := 0) (rdOds_ok hp hfL hw.2.2.2.2.2.2.1 e).2.2 (rdOds_ge hp e) h
              · cases h
        · split at h
          · unfold rdTurn at h
            split at h
            · cases h
            · cases e : rdNum tb L 0 1 p with
              | inl a => rw [pb_l e] at h; cases h
              | inr a => rw [pb_r e] at h; exact sg (y := 0) (rdNum_ok hp e).2.2.2 (rdNum_ge hp e) h
          · cases h
theorem CpG.rr {I I1 : Mem} {g o : Nat} {F : RT} (h : CpG I I1 g o) (hr : RR I (o + 1) F) (hf : RW F) : RR I1 (g + 1) F := by
  obtain ⟨⟨a1, a2, a3, a4⟩, -, -, -⟩ := h
  obtain ⟨r1, r2, r3, r4, r5, r6⟩ := hr
  have hn := hf.2.2.2.2.1
  exact ⟨(a4 3 (by decide) (by decide)).trans r1, (a4 4 (by decide) (by decide)).trans r2, (a4 6 (by decide) (by decide)).trans r3, fun i hi => by rw [a4 5 (by decide) (by decide)]; exact r4 i hi, fun p hp => ⟨(a1 p (by omega)).trans (r5 p hp).1, (a2 p (by omega)).trans (r5 p hp).2⟩, fun w hw => (a3 w hw).trans (r6 w hw)⟩
theorem CpG.br {I I1 : Mem} {g o : Nat} {F : RT} {b : BT} (h : CpG I I1 g o) (hb : BR I (o + 5) F b) (hf : RW F) : BR I1 (g + 5) F b := by
  obtain ⟨-, ⟨a1, a2, a3, a4⟩, -, -⟩ := h
  exact hb.copy hf (fun k hk => a1 k hk) (fun k hk => a2 k hk) (fun k hk => a3 k hk) a4
set_option maxHeartbeats 400000 in
theorem c_X10_tellAll (n : Nat) (ρ : Rho) (I : Mem) (L : Nat) (tb : Nat → Nat) (hn9 : n ≤ 999) (hxs : XS n ρ) (htb : TbR I L tb) : MI yX10_tellAll cX10_tellAll 2 (some .boolean) 9 [.ref 15] n ρ I (fun v I1 => TxP I I1 v (txR tb L) ∧ (∀ i, i ≠ 15 → ¬ (17 ≤ i ∧ i ≤ 25) → I1 i = I i) ∧ I1 15 2 = I 15 2 ∧ I1 17 5 = 0 ∧ I1 17 6 = 0 ∧ I1 17 7 = 0) := by
  refine MG.of (by decide +kernel) (Nat.le_of_ble_eq_true rfl) hn9 ?_
  intro κ C hR
  show G κ n ρ 0 [(0, .ref 15)] [] I
  obtain ⟨hxc, ⟨xb1, xb2, xb3, xb4, xb5, xb6, xb8⟩, ⟨xi0, xi1, xga, xgb⟩, ⟨xt0, xt1, xgd⟩, hch, ⟨xr0, xr1, xr2⟩, xa0, ⟨xw0, xw1⟩, xst⟩ := id hxs
  obtain ⟨xc0, xcn, xc1, hga, xc7, hss⟩ := id hxc
  have xcz : 0 < n := by omega
  obtain ⟨ga0, ga1, ga2, ga3, ga4, ga5, ga6, ga7, ga8, gan, hrf, hst⟩ := id hga
  have hrf0 := hrf.1
  have hst0 := hst.1
  have hsp := hch.sp
  obtain ⟨hp0, hpn, hp1, hp2, hp3, hp4⟩ := id hsp
  obtain ⟨hL, hL3, htbs⟩ := id htb
  obtain ⟨gd0, gd1, gd2, gd3, gd4, gd5, gd6, gd7, gd8, gdn, drf, dst⟩ := id xgd
  refine g_aload_n C (pc := 0) dX10_tellAll_0 0 rfl ?_
  refine g_getR C (pc := 1) fl_RX10_18 (by decide) (by first | assumption | rfl | omega) (by first | assumption | rfl | omega) (by first | assumption | rfl | omega) dX10_tellAll_1 ?_
  refine g_callVV C (pc := 4) mf_X3_clear lk_RX10_26 (c_X3_clear n ρ I 17 hn9 xgd) (by decide) (Nat.le_refl _) rfl (by first | assumption | rfl | omega) rfl (by first | assumption | rfl | omega) (Nat.le_of_ble_eq_true rfl) dX10_tellAll_4 (fun I4 h4 => ?_)
  obtain ⟨a4, w4, y4, z4, n4, p4, l4, m4, t5, t6, t7, g4⟩ := h4
  refine g_aload_n C (pc := 7) dX10_tellAll_7 0 rfl ?_
  refine g_iconst C (pc := 8) 0 dX10_tellAll_8 (by decide) ?_
  refine g_putI C (pc := 9) fl_RX10_29 (by decide) fp_9_9 (Or.inl rfl) ⟨rfl, rfl⟩ (by first | assumption | rfl | omega) (by first | assumption | rfl | omega) hn9 dX10_tellAll_9 ?_
  refine g_aload_n C (pc := 12) dX10_tellAll_12 0 rfl ?_
  refine g_iconst C (pc := 13) 0 dX10_tellAll_13 (by decide) ?_
  refine g_putI C (pc := 14) fl_RX10_32 (by decide) fp_9_3 (Or.inl rfl) ⟨rfl, rfl⟩ (by first | assumption | rfl | omega) (by first | assumption | rfl | omega) hn9 dX10_tellAll_14 ?_
  refine g_aload_n C (pc := 17) dX10_tellAll_17 0 rfl ?_
  refine g_iconst C (pc := 18) 0 dX10_tellAll_18 (by decide) ?_
  refine g_putI C (pc := 19) fl_RX10_35 (by decide) fp_9_4 (Or.inl rfl) ⟨rfl, rfl⟩ (by first | assumption | rfl | omega) (by first | assumption | rfl | omega) hn9 dX10_tellAll_19 ?_
  refine g_aload_n C (pc := 22) dX10_tellAll_22 0 rfl ?_
  refine g_iconst C (pc := 23) 0 dX10_tellAll_23 (by decide) ?_
  refine g_putI C (pc := 24) fl_RX10_38 (by decide) fp_9_5 (Or.inl rfl) ⟨rfl, rfl⟩ (by first | assumption | rfl | omega) (by first | assumption | rfl | omega) hn9 dX10_tellAll_24 ?_
  refine g_aload_n C (pc := 27) dX10_tellAll_27 0 rfl ?_
  refine g_iconst C (pc := 28) 0 dX10_tellAll_28 (by decide) ?_
  refine g_putI C (pc := 29) fl_RX10_41 (by decide) fp_9_6 (Or.inl rfl) ⟨rfl, rfl⟩ (by first | assumption | rfl | omega) (by first | assumption | rfl | omega) hn9 dX10_tellAll_29 ?_
  refine g_aload_n C (pc := 32) dX10_tellAll_32 0 rfl ?_
  refine g_iconst C (pc := 33) 0 dX10_tellAll_33 (by decide) ?_
  refine g_putI C (pc := 34) fl_RX10_45 (by decide) fp_9_7 (Or.inl rfl) ⟨rfl, rfl⟩ (by first | assumption | rfl | omega) (by first | assumption | rfl | omega) hn9 dX10_tellAll_34 ?_
  refine g_aload_n C (pc := 37) dX10_tellAll_37 0 rfl ?_
  refine g_iconst C (pc := 38) 0 dX10_tellAll_38 (by decide) ?_
  refine g_putI C (pc := 39) fl_RX10_48 (by decide) fp_9_8 (Or.inl rfl) ⟨rfl, rfl⟩ (by first | assumption | rfl | omega) (by first | assumption | rfl | omega) hn9 dX10_tellAll_39 ?_
  obtain ⟨J, hJ⟩ : ∃ J, J = wr (wr (wr (wr (wr (wr (wr I4 15 9 0) 15 3 0) 15 4 0) 15 5 0) 15 6 0) 15 7 0) 15 8 0 := ⟨_, rfl⟩
  rw [← hJ]
  have hJz : ∀ z, z = 9 ∨ z = 3 ∨ z = 4 ∨ z = 5 ∨ z = 6 ∨ z = 7 ∨ z = 8 → J 15 z = 0 := by
    intro z hz
    rw [hJ]
    rcases hz with rfl | rfl | rfl | rfl | rfl | rfl | rfl <;> (repeat (first | rw [wr_ss] | rw [wr_sn (by decide)] | rw [wr_n (by decide)]))
  have hJ2 : J 15 2 = I4 15 2 := by rw [hJ]; (repeat (first | rw [wr_ss] | rw [wr_sn (by decide)] | rw [wr_n (by decide)]))
  have hJi : ∀ i, i ≠ 15 → J i = I4 i := fun i h1 => by rw [hJ]; repeat rw [wr_n h1]
  have hdr0 : DrR J dr0 := by
    refine ⟨⟨?_, ?_, ?_, ?_, ?_, ?_⟩, ⟨by decide, by decide, by decide, by decide, by decide, fun p hp => absurd hp (Nat.not_lt_zero p), fun w _ => by show (1 : Nat) ≤ 9; decide, fun i hi => by cases hi⟩, ⟨?_, fun p hp => absurd hp (Nat.not_lt_zero p), ?_⟩, ⟨by decide, fun p hp => absurd hp (Nat.not_lt_zero p), fun p q i hp => absurd hp (Nat.not_lt_zero p)⟩, ?_, hJz 6 (by simp), hJz 7 (by simp), hJz 8 (by simp)⟩
    · rw [hJi 18 (by decide)]; exact w4
    · rw [hJi 18 (by decide)]; exact y4
    · rw [hJi 18 (by decide)]; exact n4
    · intro i hi; rw [hJi 18 (by decide), show I4 18 5 = 0 from z4, b_0]; rfl
    · exact fun p hp => absurd hp (Nat.not_lt_zero p)
    · intro w hw; rw [hJi 21 (by decide)]; exact a4 w hw
    · rw [hJi 22 (by decide)]; exact m4
    · intro s hs i hi; rw [hJi 25 (by decide), show I4 25 s = 0 from l4 s hs, b_0]; rfl
    · intro p _ hp; rw [hJi 23 (by decide)]; exact (p4 p hp).1
  refine g_iconst C (pc := 42) 0 dX10_tellAll_42 (by decide) ?_
  refine g_istore_n C (pc := 43) dX10_tellAll_43 (by decide) (fun v43 => [(1, .int v43), (0, .ref 15)]) (fun _ => rfl) (fun v43 ev43 => ?_)
  have L44 : ∀ (k9 : Nat) (i0 p0 : Nat) (D : DT) (wz1 : Int32) (K : Mem) (hw1 : wz1 = nI i0) (hi0 : i0 ≤ p0) (hpL : p0 ≤ L) (hAll : txR tb L = rdAll tb L (L + 1 - i0) D i0 p0) (hD : DrR K D) (hp9 : K 15 9 = nI p0) (hk3 : K 15 3 = nI i0) (hk4 : K 15 4 = 0) (hKt : (∀ i, i ≠ 15 → ¬ (17 ≤ i ∧ i ≤ 25) → K i = I i) ∧ K 15 2 = I 15 2 ∧ K 17 5 = 0 ∧ K 17 6 = 0 ∧ K 17 7 = 0), L + 1 - i0 < k9 → G κ n ρ 44 [(1, .int wz1), (0, .ref 15)] [] K := by
    intro k9
    induction k9 with
    | zero => intro i0 p0 D wz1 K hw1 hi0 hpL hAll hD hp9 hk3 hk4 hKt hm44; exact absurd hm44 (Nat.not_lt_zero _)
    | succ k9 ih44 =>
      intro i0 p0 D wz1 K hw1 hi0 hpL hAll hD hp9 hk3 hk4 hKt hm44
      subst hw1
      have htbK : TbR K L tb := ⟨hKt.2.1.trans hL, hL3, fun i hi => by rw [hKt.1 16 (by decide) (by omega)]; exact htbs i hi⟩
      refine g_iload_n C (pc := 44) dX10_tellAll_44 0 rfl ?_
      refine g_aload_n C (pc := 45) dX10_tellAll_45 1 rfl ?_
      refine g_getI C (pc := 46) fl_RX10_22 (by decide) (by first | assumption | rfl | omega) (by first | assumption | rfl | omega) dX10_tellAll_46 ?_
      refine g_icmp_gt C (pc := 49) 99 dX10_tellAll_49 (by decide) (fun c49 => ?_) (fun c49 => ?_)
      · exfalso; rw [htbK.1, nI_ltI (by omega) (by omega)] at c49; omega
      · refine g_aload_n C (pc := 52) dX10_tellAll_52 1 rfl ?_
        refine g_callVI C (pc := 53) mf_X10_readToken lk_RX10_51 (c_X10_readToken n ρ K L tb p0 hn9 hxs htbK hp9 hpL) (by decide) (Nat.le_refl _) rfl (by first | assumption | rfl | omega) rfl (by first | assumption | rfl | omega) (Nat.le_of_ble_eq_true rfl) dX10_tellAll_53 (fun v53 I53 h53 => ?_)
        obtain ⟨e53, f53, o53, b53, s53, g53⟩ := h53
        have hF := tkF_le (tb := tb) hpL
        have hE := tkE_le (tb := tb) hpL
        have ht53 : T8 K I53 := ⟨s53, g53⟩
        have htb53 := htbK.fr ht53.tf
        have hD53 := ht53.dr hD
        have hTA53 : (∀ i, i ≠ 15 → ¬ (17 ≤ i ∧ i ≤ 25) → I53 i = I i) ∧ I53 15 2 = I 15 2 ∧ I53 17 5 = 0 ∧ I53 17 6 = 0 ∧ I53 17 7 = 0 := ⟨fun i h1 h2 => by rw [g53 i h1]; exact hKt.1 i h1 h2, by rw [s53 2 (by simp)]; exact hKt.2.1, by rw [g53 17 (by decide)]; exact hKt.2.2.1, by rw [g53 17 (by decide)]; exact hKt.2.2.2.1, by rw [g53 17 (by decide)]; exact hKt.2.2.2.2⟩
        have hst : ∀ x, rdAll tb L (L + 1 - i0) D i0 p0 = x → txR tb L = x := fun x h9 => hAll.trans h9
        refine g_if_ne C (pc := 56) 61 dX10_tellAll_56 (by decide) (fun c56 => ?_) (fun c56 => ?_)
        · have hK0 : ¬ tkK tb L p0 = 0 := bI_1.mp (fun h => c56 (e53.trans h))
          obtain ⟨o9, o10, o12, o4⟩ := o53 hK0
          have hK5 : tkK tb L p0 < 5 := tkK_lt
          refine g_aload_n C (pc := 61) dX10_tellAll_61 1 rfl ?_
          refine g_getI C (pc := 62) fl_RX10_55 (by decide) (by first | assumption | rfl | omega) (by first | assumption | rfl | omega) dX10_tellAll_62 ?_
          refine g_iconst C (pc := 65) 4 dX10_tellAll_65 (by decide) ?_
          refine g_icmp_ne C (pc := 66) 74 dX10_tellAll_66 (by decide) (fun c66 => ?_) (fun c66 => ?_)
          · have hK4 : ¬ tkK tb L p0 = 4 := fun h9 => c66 (by rw [o10, h9]; rfl)
            have hgt := tkE_gt hpL hK0 hK4
            refine g_aload_n C (pc := 74) dX10_tellAll_74 1 rfl ?_
            refine g_callVI C (pc := 75) mf_X10_readLine lk_RX10_61 (c_X10_readLine n ρ I53 L tb D (tkK tb L p0) (tkF tb L p0) (tkE tb L p0) hn9 hxs htb53 hD53 o10 o9 f53 hE.1 hE.2 tkK_lt) (by decide) (Nat.le_refl _) rfl (by first | assumption | rfl | omega) rfl (by first | assumption | rfl | omega) (Nat.le_of_ble_eq_true rfl) dX10_tellAll_75 (fun v75 I75 h75 => ?_)
            obtain h75 := h75
            refine g_if_ne C (pc := 78) 83 dX10_tellAll_78 (by decide) (fun c78 => ?_) (fun c78 => ?_)
            · obtain ⟨q, hq0, hq1, q9, q4⟩ := h75.t c78
              have hq2 := rdLine_ok hE.2 hF.2 hq0 hD.2.1
              have hq3 := rdLine_ge hE.2 hF.2 hq0 hD.2.1
              have hl3 : I75 15 3 = nI i0 := by rw [h75.2.2.2.2, s53 3 (by simp)]; exact hk3
              refine g_aload_n C (pc := 83) dX10_tellAll_83 1 rfl ?_
              refine g_dup C (pc := 84) dX10_tellAll_84 rfl ?_
              refine g_getI C (pc := 85) fl_RX10_32 (by decide) (by first | assumption | rfl | omega) (by first | assumption | rfl | omega) dX10_tellAll_85 ?_
              refine g_iconst C (pc := 88) 1 dX10_tellAll_88 (by decide) ?_
              refine g_iadd C (pc := 89) dX10_tellAll_89 ?_
              refine g_putI C (pc := 90) fl_RX10_32 (by decide) fp_9_3 (Or.inl rfl) ⟨rfl, rfl⟩ (by first | assumption | rfl | omega) (by first | assumption | rfl | omega) hn9 dX10_tellAll_90 ?_
              refine g_iinc C (pc := 93) (1) dX10_tellAll_93 0 rfl (by decide) (by decide) (fun v93 => [(1, .int v93), (0, .ref 15)]) (fun _ => rfl) (fun v93 ev93 => ?_)
              refine g_goto C (pc := 96) 44 dX10_tellAll_96 (by decide) ?_
              refine g_lv C [0, 1] rfl (ih44 (i0 + 1) q.2 q.1 _ _ ?_ ?_ ?_ ?_ ?_ ?_ ?_ ?_ ?_ (by omega))
              · subst_vars; exact nI_1 _
              · omega
              · exact hq2
              · rw [hAll, show L + 1 - i0 = (L + 1 - (i0 + 1)) + 1 by omega, rdAll, if_neg hK0, if_neg hK4, pb_r hq0]
              · exact hq1.cong (fun i _ _ => wr_n (by omega)) (wr_sn (by decide)) (wr_sn (by decide)) (wr_sn (by decide))
              · rw [wr_sn (by decide)]; exact q9
              · rw [wr_ss, hl3, nI_1]
              · rw [wr_sn (by decide), q4, o4]; exact hk4
              · exact ⟨fun i h1 h2 => by rw [wr_n h1, h75.2.2.1 i h1 (by omega), g53 i h1]; exact hKt.1 i h1 h2, by rw [wr_sn (by decide), h75.2.2.2.1, s53 2 (by simp)]; exact hKt.2.1, by rw [wr_n (by decide), h75.2.2.1 17 (by decide) (by omega), g53 17 (by decide)]; exact hKt.2.2.1, by rw [wr_n (by decide), h75.2.2.1 17 (by decide) (by omega), g53 17 (by decide)]; exact hKt.2.2.2.1, by rw [wr_n (by decide), h75.2.2.1 17 (by decide) (by omega), g53 17 (by decide)]; exact hKt.2.2.2.2⟩
            · obtain ⟨e9, hr0, hr1, hr2⟩ := h75.f c78
              have hr : txR tb L = .inl e9 := by rw [hAll, show L + 1 - i0 = (L + 1 - (i0 + 1)) + 1 by omega, rdAll, if_neg hK0, if_neg hK4]; exact pb_l hr0
              refine g_iconst C (pc := 81) 0 dX10_tellAll_81 (by decide) ?_
              refine g_zret C hR (pc := 82) rfl rfl dX10_tellAll_82 ?_
              refine ⟨rfl, _, rfl, ?_⟩
              refine ⟨⟨fun e8 h9 => ?_, fun q8 h9 => ?_⟩, fun i h1 h2 => by rw [h75.2.2.1 i h1 (by omega)]; exact hTA53.1 i h1 h2, by rw [h75.2.2.2.1]; exact hTA53.2.1, by rw [h75.2.2.1 17 (by decide) (by omega)]; exact hTA53.2.2.1, by rw [h75.2.2.1 17 (by decide) (by omega)]; exact hTA53.2.2.2.1, by rw [h75.2.2.1 17 (by decide) (by omega)]; exact hTA53.2.2.2.2⟩
              · rw [hr] at h9; cases h9; exact ⟨rfl, hr1, hr2⟩
              · rw [hr] at h9; cases h9
          · have hK4 : tkK tb L p0 = 4 := by
              rw [o10] at c66
              exact (nI_eq (b := 4) (by omega) (by decide)).mp c66
            have hr : txR tb L = pb (whlD L D) (fun q => .inr (i0, q.1, q.2)) := by rw [hAll, show L + 1 - i0 = (L + 1 - (i0 + 1)) + 1 by omega, rdAll, if_neg hK0, if_pos hK4]
            refine g_aload_n C (pc := 69) dX10_tellAll_69 1 rfl ?_
            refine g_callVI C (pc := 70) mf_X10_isWhole lk_RX10_58 (c_X10_isWhole n ρ I53 L tb D hn9 hxs htb53 hD53) (by decide) (Nat.le_refl _) rfl (by first | assumption | rfl | omega) rfl (by first | assumption | rfl | omega) (Nat.le_of_ble_eq_true rfl) dX10_tellAll_70 (fun v70 I70 h70 => ?_)
            obtain h70 := h70
            refine g_zret C hR (pc := 73) rfl (WhP.nar h70) dX10_tellAll_73 ?_
            refine ⟨rfl, _, rfl, ?_⟩
            refine ⟨⟨fun e8 h9 => ?_, fun q8 h9 => ?_⟩, fun i h1 h2 => by rw [h70.2.2.1 i h1 (by omega)]; exact hTA53.1 i h1 h2, by rw [h70.2.2.2.1]; exact hTA53.2.1, by rw [h70.2.2.1 17 (by decide) (by omega)]; exact hTA53.2.2.1, by rw [h70.2.2.1 17 (by decide) (by omega)]; exact hTA53.2.2.2.1, by rw [h70.2.2.1 17 (by decide) (by omega)]; exact hTA53.2.2.2.2⟩
            · cases h8 : whlD L D with
              | inl x => rw [hr, pb_l h8] at h9; cases h9; exact h70.1 _ h8
              | inr x => rw [hr, pb_r h8] at h9; cases h9
            · cases h8 : whlD L D with
              | inl x => rw [hr, pb_l h8] at h9; cases h9
              | inr x =>
                rw [hr, pb_r h8] at h9; cases h9
                obtain ⟨r1, r2, r3, r4, r5, r6⟩ := h70.2.1 _ h8
                exact ⟨r1, by rw [h70.2.2.2.2, s53 3 (by simp)]; exact hk3, by show i0 ≤ 320; omega, r2, r3, r4, r5, by rw [r6, o4]; exact hk4⟩
        · have hK0 : tkK tb L p0 = 0 := Decidable.not_not.mp (bI_0.mp (e53.symm.trans c56))
          have hr : txR tb L = .inl (1, tkF tb L p0) := by rw [hAll, show L + 1 - i0 = (L + 1 - (i0 + 1)) + 1 by omega, rdAll, if_pos hK0]
          refine g_iconst C (pc := 59) 0 dX10_tellAll_59 (by decide) ?_
          refine g_zret C hR (pc := 60) rfl rfl dX10_tellAll_60 ?_
          refine ⟨rfl, _, rfl, ?_⟩
          first
          | (refine ⟨⟨fun e8 h9 => ?_, fun q8 h9 => ?_⟩, hTA53⟩
             · rw [hr] at h9; cases h9; exact ⟨rfl, b53 hK0⟩
             · rw [hr] at h9; cases h9)
  refine g_lv C [0, 1] rfl (L44 (_ + 1) 0 0 dr0 _ _ ?_ ?_ ?_ ?_ ?_ ?_ ?_ ?_ ?_ (by first | omega | exact Nat.lt_succ_self _))
  · subst_vars; rfl
  · exact Nat.le_refl _
  · exact Nat.zero_le _
  · rfl
  · exact hdr0
  · exact hJz 9 (by simp)
  · exact hJz 3 (by simp)
  · exact hJz 4 (by simp)
  · exact ⟨fun i h1 h2 => by rw [hJi i h1, g4 i h2], by rw [hJ2, g4 15 (by omega)], by rw [hJi 17 (by decide)]; exact t5, by rw [hJi 17 (by decide)]; exact t6, by rw [hJi 17 (by decide)]; exact t7⟩
set_option maxHeartbeats 400000 in
theorem c_X11_text (n : Nat) (ρ : Rho) (I : Mem) (L : Nat) (tb : Nat → Nat) (hn9 : n ≤ 999) (hxs : XS n ρ) (htb : TbR I L tb) : MI yX11_text cX11_text 3 (some .int) 10 [.ref 0] n ρ I (fun v I1 => (∃ e, txR tb L = .inl e ∧ v = -10 - nI e.2 ∧ I1 0 9 = nI e.1 ∧ I1 15 2 = 0 ∧ (∀ i, i ≠ 0 → i ≠ 15 → ¬ (17 ≤ i ∧ i ≤ 25) → I1 i = I i) ∧ ∀ z, z ≠ 9 → I1 0 z = I 0 z) ∨ (∃ q, txR tb L = .inr q ∧ v = nI q.1 ∧ I1 0 9 = 0 ∧ I1 15 2 = 0 ∧ RR I1 2 q.2.1 ∧ RW q.2.1 ∧ BR I1 6 q.2.1 q.2.2 ∧ BW q.2.1 q.2.2 ∧ I1 1 5 = 0 ∧ I1 1 6 = 0 ∧ I1 1 7 = 0 ∧ (∀ k, k < 2 → I1 14 k = 0) ∧ (∀ i, ¬ (i ≤ 12) → i ≠ 14 → i ≠ 15 → ¬ (17 ≤ i ∧ i ≤ 25) → I1 i = I i) ∧ ∀ z, z ≠ 9 → I1 0 z = I 0 z)) := by
  refine MG.of (by decide +kernel) (Nat.le_of_ble_eq_true rfl) hn9 ?_
  intro κ C hR
  show G κ n ρ 0 [(0, .ref 0)] [] I
  obtain ⟨hxc, ⟨xb1, xb2, xb3, xb4, xb5, xb6, xb8⟩, ⟨xi0, xi1, xga, xgb⟩, ⟨xt0, xt1, xgd⟩, hch, ⟨xr0, xr1, xr2⟩, xa0, ⟨xw0, xw1⟩, xst⟩ := id hxs
  obtain ⟨xc0, xcn, xc1, hga, xc7, hss⟩ := id hxc
  have xcz : 0 < n := by omega
  obtain ⟨ga0, ga1, ga2, ga3, ga4, ga5, ga6, ga7, ga8, gan, hrf, hst⟩ := id hga
  have hrf0 := hrf.1
  have hst0 := hst.1
  have hsp := hch.sp
  obtain ⟨hp0, hpn, hp1, hp2, hp3, hp4⟩ := id hsp
  obtain ⟨hL, hL3, htbs⟩ := id htb
  refine g_aload_n C (pc := 0) dX11_text_0 0 rfl ?_
  refine g_getR C (pc := 1) fl_RX11_27 (by decide) (by first | assumption | rfl | omega) (by first | assumption | rfl | omega) (by first | assumption | rfl | omega) dX11_text_1 ?_
  refine g_callVI C (pc := 4) mf_X10_tellAll lk_RX11_81 (c_X10_tellAll n ρ I L tb hn9 hxs htb) (by decide) (Nat.le_refl _) rfl (by first | assumption | rfl | omega) rfl (by first | assumption | rfl | omega) (Nat.le_of_ble_eq_true rfl) dX11_text_4 (fun v4 I4 h4 => ?_)
  obtain ⟨h4, g4⟩ := h4
  refine g_istore_n C (pc := 7) dX11_text_7 (by decide) (fun v7 => [(1, .int v7), (0, .ref 0)]) (fun _ => rfl) (fun v7 ev7 => ?_)
  refine g_aload_n C (pc := 8) dX11_text_8 1 rfl ?_
  refine g_getR C (pc := 9) fl_RX11_27 (by decide) (by first | assumption | rfl | omega) (by first | assumption | rfl | omega) (by first | assumption | rfl | omega) dX11_text_9 ?_
  refine g_iconst C (pc := 12) 0 dX11_text_12 (by decide) ?_
  refine g_putI C (pc := 13) fl_RX11_77 (by decide) fp_9_2 (Or.inl rfl) ⟨rfl, rfl⟩ (by first | assumption | rfl | omega) (by first | assumption | rfl | omega) hn9 dX11_text_13 ?_
  refine g_aload_n C (pc := 16) dX11_text_16 1 rfl ?_
  refine g_aload_n C (pc := 17) dX11_text_17 1 rfl ?_
  refine g_getR C (pc := 18) fl_RX11_27 (by decide) (by first | assumption | rfl | omega) (by first | assumption | rfl | omega) (by first | assumption | rfl | omega) dX11_text_18 ?_
  refine g_getI C (pc := 21) fl_RX11_85 (by decide) (by first | assumption | rfl | omega) (by first | assumption | rfl | omega) dX11_text_21 ?_
  refine g_putI C (pc := 24) fl_RX11_88 (by decide) fp_10_9 (Or.inl rfl) ⟨rfl, rfl⟩ (by first | assumption | rfl | omega) (by first | assumption | rfl | omega) hn9 dX11_text_24 ?_
  refine g_iload_n C (pc := 27) dX11_text_27 0 rfl ?_
  refine g_if_ne C (pc := 28) 42 dX11_text_28 (by decide) (fun c28 => ?_) (fun c28 => ?_)
  · obtain ⟨q, hr⟩ : ∃ q, txR tb L = .inr q := by
      cases h9 : txR tb L with
      | inl e => exact absurd (ev7.trans (h4.1 e h9).1) c28
      | inr q => exact ⟨q, rfl⟩
    obtain ⟨r1, r2, r3, r4, r5, r6, r7, r8⟩ := h4.2 _ hr
    refine g_aload_n C (pc := 42) dX11_text_42 1 rfl ?_
    refine g_getR C (pc := 43) fl_RX11_10 (by decide) (by first | assumption | rfl | omega) (by first | assumption | rfl | omega) (by first | assumption | rfl | omega) dX11_text_43 ?_
    refine g_aload_n C (pc := 46) dX11_text_46 1 rfl ?_
    refine g_getR C (pc := 47) fl_RX11_27 (by decide) (by first | assumption | rfl | omega) (by first | assumption | rfl | omega) (by first | assumption | rfl | omega) dX11_text_47 ?_
    refine g_getR C (pc := 50) fl_RX11_94 (by decide) (by first | assumption | rfl | omega) (by first | assumption | rfl | omega) (by first | assumption | rfl | omega) dX11_text_50 ?_
    refine g_callVV C (pc := 53) mf_X3_copyFrom lk_RX11_97 (c_X3_copyFrom n ρ _ 1 17 hn9 hga xgd (fun i k h1 h2 => by omega)) (by decide) (Nat.le_refl _) rfl (by first | assumption | rfl | omega) rfl (by first | assumption | rfl | omega) (Nat.le_of_ble_eq_true rfl) dX11_text_53 (fun I53 h53 => ?_)
    obtain h53 := h53
    have g18 : ∀ i, 17 ≤ i → i ≤ 25 → wr (wr I4 15 2 0) 0 9 (wr I4 15 2 0 15 4) i = I4 i := fun i h1 h2 => by rw [wr_n (by omega), wr_n (by omega)]
    have hro : RR (wr (wr I4 15 2 0) 0 9 (wr I4 15 2 0 15 4)) 18 q.2.1 := r4.cong (fun i hi => g18 _ (by omega) (by omega))
    have hbo : BR (wr (wr I4 15 2 0) 0 9 (wr I4 15 2 0 15 4)) 22 q.2.1 q.2.2 := r6.cong (fun i hi => g18 _ (by omega) (by omega))
    have hcp := CpG.rr (h53 : CpG _ I53 1 17) hro r5
    have hcb := CpG.br (h53 : CpG _ I53 1 17) hbo r5
    obtain ⟨-, -, ⟨-, -, -, k5, k6, k7⟩, kf⟩ := h53
    refine g_iconst C (pc := 56) 0 dX11_text_56 (by decide) ?_
    refine g_istore_n C (pc := 57) dX11_text_57 (by decide) (fun v57 => [(2, .int v57), (1, .int v7), (0, .ref 0)]) (fun _ => rfl) (fun v57 ev57 => ?_)
    have L58 : ∀ (k9 : Nat) (j : Nat) (wz2 : Int32) (K : Mem) (hw2 : wz2 = nI j) (hj : j ≤ 2) (hK : ∀ k, k < j → K 14 k = 0) (hF : ∀ i, i ≠ 14 → K i = I53 i), 2 - j < k9 → G κ n ρ 58 [(2, .int wz2), (0, .ref 0)] [] K := by
      intro k9
      induction k9 with
      | zero => intro j wz2 K hw2 hj hK hF hm58; exact absurd hm58 (Nat.not_lt_zero _)
      | succ k9 ih58 =>
        intro j wz2 K hw2 hj hK hF hm58
        subst hw2
        refine g_iload_n C (pc := 58) dX11_text_58 0 rfl ?_
        refine g_aload_n C (pc := 59) dX11_text_59 1 rfl ?_
        refine g_getR C (pc := 60) fl_RX11_20 (by decide) (by first | assumption | rfl | omega) (by first | assumption | rfl | omega) (by first | assumption | rfl | omega) dX11_text_60 ?_
        refine g_alen C (pc := 63) 2 (by first | assumption | rfl | omega) (by decide) (by first | assumption | rfl | omega) rfl dX11_text_63 ?_
        refine g_icmp_ge C (pc := 64) 80 dX11_text_64 (by decide) (fun c64 => ?_) (fun c64 => ?_)
        · replace c64 := (nI_leI (a := 2) (b := j) (by decide) (by omega)).mp c64
          refine g_aload_n C (pc := 80) dX11_text_80 1 rfl ?_
          refine g_getR C (pc := 81) fl_RX11_27 (by decide) (by first | assumption | rfl | omega) (by first | assumption | rfl | omega) (by first | assumption | rfl | omega) dX11_text_81 ?_
          refine g_getI C (pc := 84) fl_RX11_101 (by decide) (by first | assumption | rfl | omega) (by first | assumption | rfl | omega) dX11_text_84 ?_
          refine g_iret C hR (pc := 87) rfl dX11_text_87 ?_
          refine ⟨rfl, _, rfl, ?_⟩
          refine Or.inr ⟨q, hr, ?_, ?_, ?_, hcp.cong (fun i hi => hF _ (by omega)), r5, hcb.cong (fun i hi => hF _ (by omega)), r7, ?_, ?_, ?_, fun k hk => hK k (by omega), fun i h0 h1 h2 h3 => ?_, fun z hz => ?_⟩
          · rw [hF 15 (by decide), kf 15 (by omega), wr_n (by decide), wr_sn (by decide)]; exact r2
          · rw [hF 0 (by decide), kf 0 (by omega), wr_ss, wr_sn (by decide)]; exact r8
          · rw [hF 15 (by decide), kf 15 (by omega), wr_n (by decide), wr_ss]
          · rw [hF 1 (by decide), k5, wr_n (by decide), wr_n (by decide)]; exact g4.2.2.1
          · rw [hF 1 (by decide), k6, wr_n (by decide), wr_n (by decide)]; exact g4.2.2.2.1
          · rw [hF 1 (by decide), k7, wr_n (by decide), wr_n (by decide)]; exact g4.2.2.2.2
          · rw [hF i h1, kf i (by omega), wr_n (by omega), wr_n h2]; exact g4.1 i h2 h3
          · rw [hF 0 (by decide), kf 0 (by omega), wr_sn hz, wr_n (by decide), g4.1 0 (by decide) (by omega)]
        · replace c64 := (nI_ltI (a := j) (b := 2) (by omega) (by decide)).mp c64
          refine g_aload_n C (pc := 67) dX11_text_67 1 rfl ?_
          refine g_getR C (pc := 68) fl_RX11_20 (by decide) (by first | assumption | rfl | omega) (by first | assumption | rfl | omega) (by first | assumption | rfl | omega) dX11_text_68 ?_
          refine g_iload_n C (pc := 71) dX11_text_71 0 rfl ?_
          refine g_iconst C (pc := 72) 0 dX11_text_72 (by decide) ?_
          refine g_zast C (pc := 73) (by first | assumption | rfl | omega) (by first | assumption | rfl | omega) hn9 (vp_in_nI (by omega) (by decide)) rfl dX11_text_73 ?_
          refine g_iinc C (pc := 74) (1) dX11_text_74 0 rfl (by decide) (by decide) (fun v74 => [(2, .int v74), (0, .ref 0)]) (fun _ => rfl) (fun v74 ev74 => ?_)
          refine g_goto C (pc := 77) 58 dX11_text_77 (by decide) ?_
          refine g_lv C [0, 1] rfl (ih58 (j + 1) _ _ ?_ ?_ ?_ ?_ (by omega))
          · subst_vars; exact nI_1 _
          · omega
          · intro k hk
            rw [nI_clamp (by omega)]
            rcases Nat.lt_or_ge k j with h1 | h1
            · rw [wr_sn (by omega)]; exact hK k h1
            · have : k = j := by omega
              subst this
              rw [wr_ss]
          · intro i h1; rw [wr_n h1]; exact hF i h1
    refine g_lv C [0, 2] rfl (L58 (_ + 1) 0 _ _ ?_ ?_ ?_ ?_ (by first | omega | exact Nat.lt_succ_self _))
    · subst_vars; rfl
    · omega
    · intro k hk; omega
    · intro i _; rfl
  · obtain ⟨e9, hr⟩ : ∃ e, txR tb L = .inl e := by
      cases h9 : txR tb L with
      | inl e => exact ⟨e, rfl⟩
      | inr q => exact absurd ((h4.2 q h9).1.symm.trans (ev7.symm.trans c28)) (by decide)
    obtain ⟨r1, r2, r3⟩ := h4.1 _ hr
    refine g_bipush C (pc := 31) (-10) dX11_text_31 (by decide) ?_
    refine g_aload_n C (pc := 33) dX11_text_33 1 rfl ?_
    refine g_getR C (pc := 34) fl_RX11_27 (by decide) (by first | assumption | rfl | omega) (by first | assumption | rfl | omega) (by first | assumption | rfl | omega) dX11_text_34 ?_
    refine g_getI C (pc := 37) fl_RX11_91 (by decide) (by first | assumption | rfl | omega) (by first | assumption | rfl | omega) dX11_text_37 ?_
    refine g_isub C (pc := 40) dX11_text_40 ?_
    refine g_iret C hR (pc := 41) rfl dX11_text_41 ?_
    refine ⟨rfl, _, rfl, ?_⟩
    refine Or.inl ⟨e9, hr, ?_, ?_, ?_, fun i h0 h1 h2 => ?_, fun z hz => ?_⟩
    · rw [wr_n (by decide), wr_sn (by decide), r3]
    · rw [wr_ss, wr_sn (by decide), r2]
    · rw [wr_n (by decide), wr_ss]
    · rw [wr_n h0, wr_n h1]; exact g4.1 i h1 h2
    · rw [wr_sn hz, wr_n (by decide), g4.1 0 (by decide) (by omega)]
