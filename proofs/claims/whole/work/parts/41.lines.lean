theorem addK_at {I : Mem} {g k sd : Nat} {x w v : Int32} : addK I g k sd x w v (g + 2) = upd (I (g + 2)) k (nI sd) ∧ addK I g k sd x w v (g + 3) = upd (I (g + 3)) k x ∧ addK I g k sd x w v (g + 6) = upd (I (g + 6)) k w ∧ addK I g k sd x w v (g + 7) = upd (I (g + 7)) k v ∧ addK I g k sd x w v (g + 8) = upd (I (g + 8)) sd ((I (g + 8) sd &&& (bitO (I (g + 6) k) ^^^ (-1))) ||| bitO w) ∧ addK I g k sd x w v (g + 4) = I (g + 4) ∧ addK I g k sd x w v (g + 5) = I (g + 5) := by
  unfold addK
  dsimp only
  refine ⟨?_, ?_, ?_, ?_, ?_, ?_, ?_⟩
  · rw [wr_n (by omega), wr_n (by omega), wr_n (by omega), wr_s, wr_n (by omega), wr_n (by omega)]
  · rw [wr_n (by omega), wr_n (by omega), wr_n (by omega), wr_n (by omega), wr_s, wr_n (by omega)]
  · rw [wr_n (by omega), wr_s, wr_n (by omega), wr_n (by omega), wr_n (by omega), wr_n (by omega)]
  · rw [wr_s, wr_n (by omega), wr_n (by omega), wr_n (by omega), wr_n (by omega), wr_n (by omega)]
  · rw [wr_n (by omega), wr_n (by omega), wr_s]
    have e8 : wr (wr (wr I (g + 1) 6 (nI (k + 1))) (g + 3) k x) (g + 2) k (nI sd) (g + 8) = I (g + 8) := by rw [wr_n (by omega), wr_n (by omega), wr_n (by omega)]
    have e6 : wr (wr (wr I (g + 1) 6 (nI (k + 1))) (g + 3) k x) (g + 2) k (nI sd) (g + 6) = I (g + 6) := by rw [wr_n (by omega), wr_n (by omega), wr_n (by omega)]
    rw [e8, e6]
  · rw [wr_n (by omega), wr_n (by omega), wr_n (by omega), wr_n (by omega), wr_n (by omega), wr_n (by omega)]
  · rw [wr_n (by omega), wr_n (by omega), wr_n (by omega), wr_n (by omega), wr_n (by omega), wr_n (by omega)]
theorem hel_ad {F : RT} {b : BT} {kd sd q o s i : Nat} : helB (adF F kd sd) (adB b (rN F) q o) s i = (helB F b s i || (decide (sd = s) && decide (q = i))) := by
  rw [Bool.eq_iff_iff, Bool.or_eq_true, helB_t, helB_t, Bool.and_eq_true, decide_eq_true_eq, decide_eq_true_eq]
  constructor
  · rintro ⟨p, hp, h1, h2⟩
    replace hp : p < rN F + 1 := hp
    replace h1 : (if p = rN F then sd else rSd F p) = s := h1
    replace h2 : (if p = rN F then some q else bP b p) = some i := h2
    by_cases e : p = rN F
    · rw [if_pos e] at h1 h2
      exact Or.inr ⟨h1, Option.some.inj h2⟩
    · rw [if_neg e] at h1 h2
      exact Or.inl ⟨p, by omega, h1, h2⟩
  · rintro (⟨p, hp, h1, h2⟩ | ⟨h1, h2⟩)
    · refine ⟨p, by show p < rN F + 1; omega, ?_, ?_⟩
      · show (if p = rN F then sd else rSd F p) = s; rw [if_neg (by omega)]; exact h1
      · show (if p = rN F then some q else bP b p) = some i; rw [if_neg (by omega)]; exact h2
    · refine ⟨rN F, by show rN F < rN F + 1; omega, ?_, ?_⟩
      · show (if rN F = rN F then sd else rSd F (rN F)) = s; rw [if_pos rfl]; exact h1
      · show (if rN F = rN F then some q else bP b (rN F)) = some i; rw [if_pos rfl, h2]
theorem addK_R {I : Mem} {g kd sd q o : Nat} {F : RT} {b : BT} (hrr : RR I (g + 1) F) (hf : RW F) (hbr : BR I (g + 5) F b) (hbw : BW F b) (hk : rN F < 6) (hkd : kd < 4) (hsd : sd < 2) (hq : q < 25) (ho : o ≤ 9) (hz : I (g + 6) (rN F) = -4) (hno : pon F b q = none) :
    RR (addK I g (rN F) sd (nI kd) (nI q) (nI o)) (g + 1) (adF F kd sd) ∧ RW (adF F kd sd) ∧ BR (addK I g (rN F) sd (nI kd) (nI q) (nI o)) (g + 5) (adF F kd sd) (adB b (rN F) q o) ∧ BW (adF F kd sd) (adB b (rN F) q o) := by
  obtain ⟨e2, e3, e6, e7, e8, e4, e5⟩ := addK_at (I := I) (g := g) (k := rN F) (sd := sd) (x := nI kd) (w := nI q) (v := nI o)
  obtain ⟨r1, r2, r3, r4, r5, r6⟩ := hrr
  obtain ⟨b1, b2, b3⟩ := hbr
  obtain ⟨w1, w2, w3⟩ := hbw
  obtain ⟨f1, f2, f3, f4, f5, f6, f7, f8⟩ := hf
  refine ⟨⟨?_, ?_, ?_, ?_, ?_, ?_⟩, ⟨f1, f2, f3, f4, hk, ?_, f7, f8⟩, ⟨?_, ?_, ?_⟩, ⟨w1, ?_, ?_⟩⟩
  · rw [addK_o (by decide)]; exact r1
  · rw [addK_o (by decide)]; exact r2
  · exact addK_6
  · intro i hi; rw [addK_o (by decide)]; exact r4 i hi
  · intro p hp
    replace hp : p < rN F + 1 := hp
    rw [show g + 1 + 1 = g + 2 by omega, show g + 1 + 2 = g + 3 by omega, e2, e3]
    show upd _ _ _ p = nI (if p = rN F then sd else rSd F p) ∧ upd _ _ _ p = nI (if p = rN F then kd else rKd F p)
    by_cases e : p = rN F
    · subst e; rw [upd_s, upd_s, if_pos rfl, if_pos rfl]; exact ⟨rfl, rfl⟩
    · rw [upd_n e, upd_n e, if_neg e, if_neg e]; exact r5 p (by omega)
  · intro w hw; rw [show g + 1 + 3 = g + 4 by omega, e4]; exact r6 w hw
  · intro p hp
    replace hp : p < rN F + 1 := hp
    show (if p = rN F then sd else rSd F p) < 2 ∧ (if p = rN F then kd else rKd F p) < 4
    by_cases e : p = rN F
    · rw [if_pos e, if_pos e]; exact ⟨hsd, hkd⟩
    · rw [if_neg e, if_neg e]; exact f6 p (by omega)
  · rw [e5]; exact b1
  · intro p hp
    replace hp : p < rN F + 1 := hp
    rw [show g + 5 + 1 = g + 6 by omega, show g + 5 + 2 = g + 7 by omega, e6, e7]
    show upd _ _ _ p = oI (if p = rN F then some q else bP b p) ∧ upd _ _ _ p = nI (if p = rN F then o else bO b p)
    by_cases e : p = rN F
    · subst e; rw [upd_s, upd_s, if_pos rfl, if_pos rfl]; exact ⟨rfl, rfl⟩
    · rw [upd_n e, upd_n e, if_neg e, if_neg e]; exact b2 p (by omega)
  · intro s hs i hi
    rw [show g + 5 + 3 = g + 8 by omega, e8, hel_ad]
    by_cases e : s = sd
    · subst e
      rw [upd_s, hz, show bitO (-4) = 0 by decide, show ((0 : Int32) ^^^ (-1)) = -1 by decide]
      have hb := or_bitO (x := I (g + 8) s &&& -1) (a := some q) (by intro z hz; cases hz; exact hq) hi
      rw [show bitO (nI q) = bitO (oI (some q)) from rfl, hb, b_and, b_m1 i hi, b3 s hs i hi]
      by_cases h : q = i <;> simp [h]
    · rw [upd_n e, b3 s hs i hi, decide_eq_false (fun h => e h.symm)]; simp
  · intro p hp
    replace hp : p < rN F + 1 := hp
    show (∀ z, (if p = rN F then some q else bP b p) = some z → z < 25) ∧ (if p = rN F then o else bO b p) ≤ 9
    by_cases e : p = rN F
    · rw [if_pos e, if_pos e]; exact ⟨by intro z hz; cases hz; exact hq, ho⟩
    · rw [if_neg e, if_neg e]; exact w2 p (by omega)
  · intro p r i hp hr h1 h2
    replace hp : p < rN F + 1 := hp
    replace hr : r < rN F + 1 := hr
    replace h1 : (if p = rN F then some q else bP b p) = some i := h1
    replace h2 : (if r = rN F then some q else bP b r) = some i := h2
    by_cases e : p = rN F
    · by_cases e9 : r = rN F
      · omega
      · rw [if_pos e] at h1; rw [if_neg e9] at h2
        exact absurd (h2.trans h1.symm) (pon_none hno r (by omega))
    · by_cases e9 : r = rN F
      · rw [if_neg e] at h1; rw [if_pos e9] at h2
        exact absurd (h1.trans h2.symm) (pon_none hno p (by omega))
      · rw [if_neg e] at h1; rw [if_neg e9] at h2
        exact w3 p r i (by omega) (by omega) h1 h2
theorem kdN_lt {tb : Nat → Nat} {f e k : Nat} (h : kdN tb f e = some k) : k < 4 := by
  unfold kdN at h
  split at h
  · cases h; decide
  · split at h
    · cases h; decide
    · split at h
      · cases h; decide
      · split at h
        · cases h; decide
        · cases h
theorem rdOds_ok {tb : Nat → Nat} {L : Nat} : ∀ {k j p f : Nat} {g : Nat → Nat} {r : (Nat → Nat) × Nat × Nat}, p ≤ L → f ≤ L → (∀ w, w < 5 → g w ≤ 9) → rdOds tb L k j g f p = .inr r → (∀ w, w < 5 → r.1 w ≤ 9) ∧ r.2.1 ≤ L ∧ r.2.2 ≤ L
  | 0, j, p, f, g, r, hp, hf, hg, h => by rw [rdOds] at h; cases h; exact ⟨hg, hf, hp⟩
  | k + 1, j, p, f, g, r, hp, hf, hg, h => by
    rw [rdOds] at h
    cases e : rdNum tb L 0 9 p with
    | inl x => rw [e] at h; cases h
    | inr x =>
      rw [pb_r e] at h
      have := rdNum_ok hp e
      refine rdOds_ok this.2.2.2 this.2.2.1 (fun w hw => ?_) h
      show (if w = j then x.1 else g w) ≤ 9
      split
      · exact this.2.1
      · exact hg w hw
theorem SgP.nar {I I1 : Mem} {v : Int32} {r : PRs Nat} (h : SgP I I1 v r) : narrow .boolean (.int v) = .int v := by
  cases e : r with
  | inl q => rw [(h.1 q e).1]; rfl
  | inr q => rw [(h.2.1 q e).1]; rfl
theorem LnP.nar {I I1 : Mem} {v : Int32} {r : PRs (DT × Nat)} (h : LnP I I1 v r) : narrow .boolean (.int v) = .int v := by
  cases e : r with
  | inl q => rw [(h.1 q e).1]; rfl
  | inr q => rw [(h.2.1 q e).1]; rfl
set_option maxHeartbeats 400000 in
theorem c_X10_readBoard (n : Nat) (ρ : Rho) (I : Mem) (L : Nat) (tb : Nat → Nat) (D : DT) (f p : Nat) (hn9 : n ≤ 999) (hxs : XS n ρ) (htb : TbR I L tb) (hp : I 15 9 = nI p) (hpL : p ≤ L) (hdr : DrR I D) (hf11 : I 15 11 = nI f) (hfL : f ≤ L) : MI yX10_readBoard cX10_readBoard 1 (some .boolean) 3 [.ref 15] n ρ I (fun v I1 => LnP I I1 v (rdBoard tb L D f p)) := by
  refine MG.of (by decide +kernel) (Nat.le_of_ble_eq_true rfl) hn9 ?_
  intro κ C hR
  show G κ n ρ 0 [(0, .ref 15)] [] I
  obtain ⟨hxc, ⟨xb1, xb2, xb3, xb4, xb5, xb6, xb8⟩, ⟨xi0, xi1, xga, xgb⟩, ⟨xt0, xt1, xgd⟩, hch, ⟨xr0, xr1, xr2⟩, xa0, ⟨xw0, xw1⟩, xst⟩ := id hxs
  obtain ⟨xc0, xcn, xc1, hga, xc7, hss⟩ := id hxc
  have xcz : 0 < n := by omega
  obtain ⟨ga0, ga1, ga2, ga3, ga4, ga5, ga6, ga7, ga8, gan, hrf, hst⟩ := id hga
  have hrf0 := hrf.1
  have hst0 := hst.1
  have hsp := hch.sp
  obtain ⟨hp0, hpn, hp1, hp2, hp3, hp4⟩ := id hsp
  obtain ⟨hL, hL3, htbs⟩ := id htb
  obtain ⟨drr, drw, dbr, dbw, dpz, d6, d7, d8⟩ := id hdr
  obtain ⟨gd0, gd1, gd2, gd3, gd4, gd5, gd6, gd7, gd8, gdn, drf, dst⟩ := id xgd
  have drf0 := drf.1
  have dst0 := dst.1
  refine g_aload_n C (pc := 0) dX10_readBoard_0 0 rfl ?_
  refine g_getI C (pc := 1) fl_RX10_41 (by decide) (by first | assumption | rfl | omega) (by first | assumption | rfl | omega) dX10_readBoard_1 ?_
  refine g_if_eq C (pc := 4) 17 dX10_readBoard_4 (by decide) (fun c4 => ?_) (fun c4 => ?_)
  · have hbd : ¬ dBd D = true := bI_0.mp (d6.symm.trans c4)
    refine g_aload_n C (pc := 17) dX10_readBoard_17 0 rfl ?_
    refine g_iconst C (pc := 18) 1 dX10_readBoard_18 (by decide) ?_
    refine g_putI C (pc := 19) fl_RX10_41 (by decide) fp_9_6 (Or.inl rfl) ⟨rfl, rfl⟩ (by first | assumption | rfl | omega) (by first | assumption | rfl | omega) hn9 dX10_readBoard_19 ?_
    refine g_aload_n C (pc := 22) dX10_readBoard_22 0 rfl ?_
    refine g_iconst C (pc := 23) 2 dX10_readBoard_23 (by decide) ?_
    refine g_iconst C (pc := 24) 5 dX10_readBoard_24 (by decide) ?_
    refine g_callVI C (pc := 25) mf_X10_readNumber lk_RX10_100 (c_X10_readNumber n ρ (wr I 15 6 1) L tb 2 5 p _ _ hn9 hxs (htb.w1 (by decide) trivial) (by rw [wr_sn (by decide)]; exact hp) hpL (by decide) (by decide) rfl rfl) (by decide) (Nat.le_refl _) rfl (by first | assumption | rfl | omega) rfl (by first | assumption | rfl | omega) (Nat.le_of_ble_eq_true rfl) dX10_readBoard_25 (fun v25 I25 h25 => ?_)
    obtain h25 := h25
    refine g_if_ne C (pc := 28) 33 dX10_readBoard_28 (by decide) (fun c28 => ?_) (fun c28 => ?_)
    · obtain ⟨q, hr0, v12, v11, v9, v4⟩ := h25.t c28
      have hok := rdNum_ok hpL hr0
      have htf : TFr I I25 := TFr.tr ⟨fun i h1 _ => wr_n h1, wr_sn (by decide), wr_sn (by decide)⟩ h25.2.2.tf
      have htf2 : TFr I (wr I25 18 3 (I25 15 12)) := htf.tr ⟨fun i _ h2 => wr_n (fun e => h2 (by omega)), by rw [wr_n (by decide)], by rw [wr_n (by decide)]⟩
      have htb50 := htb.fr htf2
      refine g_aload_n C (pc := 33) dX10_readBoard_33 0 rfl ?_
      refine g_getR C (pc := 34) fl_RX10_18 (by decide) (by first | assumption | rfl | omega) (by first | assumption | rfl | omega) (by first | assumption | rfl | omega) dX10_readBoard_34 ?_
      refine g_getR C (pc := 37) fl_RX10_103 (by decide) (by first | assumption | rfl | omega) (by first | assumption | rfl | omega) (by first | assumption | rfl | omega) dX10_readBoard_37 ?_
      refine g_aload_n C (pc := 40) dX10_readBoard_40 0 rfl ?_
      refine g_getI C (pc := 41) fl_RX10_107 (by decide) (by first | assumption | rfl | omega) (by first | assumption | rfl | omega) dX10_readBoard_41 ?_
      refine g_putI C (pc := 44) fl_RX10_110 (by decide) fp_4_3 (Or.inl rfl) ⟨rfl, rfl⟩ (by first | assumption | rfl | omega) (by first | assumption | rfl | omega) hn9 dX10_readBoard_44 ?_
      refine g_aload_n C (pc := 47) dX10_readBoard_47 0 rfl ?_
      refine g_iconst C (pc := 48) 2 dX10_readBoard_48 (by decide) ?_
      refine g_iconst C (pc := 49) 5 dX10_readBoard_49 (by decide) ?_
      refine g_callVI C (pc := 50) mf_X10_readNumber lk_RX10_100 (c_X10_readNumber n ρ (wr I25 18 3 (I25 15 12)) L tb 2 5 q.2.2 _ _ hn9 hxs htb50 (by rw [wr_n (by decide)]; exact v9) hok.2.2.2 (by decide) (by decide) rfl rfl) (by decide) (Nat.le_refl _) rfl (by first | assumption | rfl | omega) rfl (by first | assumption | rfl | omega) (Nat.le_of_ble_eq_true rfl) dX10_readBoard_50 (fun v50 I50 h50 => ?_)
      obtain h50 := h50
      refine g_if_ne C (pc := 53) 58 dX10_readBoard_53 (by decide) (fun c53 => ?_) (fun c53 => ?_)
      · obtain ⟨q2, hr2, w12, w11, w9, w4⟩ := h50.t c53
        have hok2 := rdNum_ok hok.2.2.2 hr2
        have htf3 := htf2.tr h50.2.2.tf
        have htf4 : TFr I (wr I50 18 4 (I50 15 12)) := htf3.tr ⟨fun i _ h2 => wr_n (fun e => h2 (by omega)), by rw [wr_n (by decide)], by rw [wr_n (by decide)]⟩
        have htb73 := htb.fr htf4
        refine g_aload_n C (pc := 58) dX10_readBoard_58 0 rfl ?_
        refine g_getR C (pc := 59) fl_RX10_18 (by decide) (by first | assumption | rfl | omega) (by first | assumption | rfl | omega) (by first | assumption | rfl | omega) dX10_readBoard_59 ?_
        refine g_getR C (pc := 62) fl_RX10_103 (by decide) (by first | assumption | rfl | omega) (by first | assumption | rfl | omega) (by first | assumption | rfl | omega) dX10_readBoard_62 ?_
        refine g_aload_n C (pc := 65) dX10_readBoard_65 0 rfl ?_
        refine g_getI C (pc := 66) fl_RX10_107 (by decide) (by first | assumption | rfl | omega) (by first | assumption | rfl | omega) dX10_readBoard_66 ?_
        refine g_putI C (pc := 69) fl_RX10_115 (by decide) fp_4_4 (Or.inl rfl) ⟨rfl, rfl⟩ (by first | assumption | rfl | omega) (by first | assumption | rfl | omega) hn9 dX10_readBoard_69 ?_
        refine g_aload_n C (pc := 72) dX10_readBoard_72 0 rfl ?_
        refine g_callVI C (pc := 73) mf_X10_readSign lk_RX10_118 (c_X10_readSign n ρ (wr I50 18 4 (I50 15 12)) L tb q2.2.2 hn9 hxs htb73 (by rw [wr_n (by decide)]; exact w9) hok2.2.2.2) (by decide) (Nat.le_refl _) rfl (by first | assumption | rfl | omega) rfl (by first | assumption | rfl | omega) (Nat.le_of_ble_eq_true rfl) dX10_readBoard_73 (fun v73 I73 h73 => ?_)
        obtain h73 := h73
        have hrb : (rdBoard tb L D f p) = pb (rdSgn tb L q2.2.2) (fun e => .inr ((stW (dF D) q.1 q2.1, dB D, true, dOd D, dTn D), e)) := by unfold rdBoard; rw [if_neg hbd, pb_r hr0, pb_r hr2]
        have htf5 := htf4.tr h73.2.2.tf
        refine g_zret C hR (pc := 76) rfl (SgP.nar h73) dX10_readBoard_76 ?_
        refine ⟨rfl, _, rfl, ?_⟩
        refine ⟨fun e8 h9 => ?_, fun q8 h9 => ?_, htf5⟩
        · cases h7 : rdSgn tb L q2.2.2 with
          | inl x => rw [hrb, pb_l h7] at h9; cases h9; exact h73.1 _ h7
          | inr x => rw [hrb, pb_r h7] at h9; cases h9
        · cases h7 : rdSgn tb L q2.2.2 with
          | inl x => rw [hrb, pb_l h7] at h9; cases h9
          | inr x =>
            rw [hrb, pb_r h7] at h9; cases h9
            obtain ⟨g1, g2, g3⟩ := h73.2.1 _ h7
            have k18 : I73 18 = upd (upd (I 18) 3 (nI q.1)) 4 (nI q2.1) := by rw [h73.2.2.2 18 (by decide), wr_s, h50.2.2.2 18 (by decide), wr_s, h25.2.2.2 18 (by decide), wr_n (by decide), v12, w12]
            have ko : ∀ i, i ≠ 15 → i ≠ 18 → I73 i = I i := fun i h1 h2 => by rw [h73.2.2.2 i h1, wr_n h2, h50.2.2.2 i h1, wr_n h2, h25.2.2.2 i h1, wr_n h1]
            have k15 : ∀ z, z = 2 ∨ z = 3 ∨ z = 6 ∨ z = 7 ∨ z = 8 → I73 15 z = wr I 15 6 1 15 z := fun z hz => by rw [h73.2.2.1 z hz, wr_n (by decide), h50.2.2.1 z hz, wr_n (by decide), h25.2.2.1 z hz]
            refine ⟨g1, ⟨⟨?_, ?_, ?_, ?_, ?_, ?_⟩, ⟨hok.1, hok.2.1, hok2.1, hok2.2.1, drw.2.2.2.2⟩, ?_, dbw, ?_, ?_, ?_, ?_⟩, g2, ?_⟩
            · rw [k18, upd_n (by decide), upd_s]; rfl
            · rw [k18, upd_s]; rfl
            · rw [k18, upd_n (by decide), upd_n (by decide)]; exact drr.2.2.1
            · intro i hi; rw [k18, upd_n (by decide), upd_n (by decide)]; exact drr.2.2.2.1 i hi
            · intro p9 hp9; rw [ko 19 (by decide) (by decide), ko 20 (by decide) (by decide)]; exact drr.2.2.2.2.1 p9 hp9
            · intro w hw; rw [ko 21 (by decide) (by decide)]; exact drr.2.2.2.2.2 w hw
            · exact dbr.cong (fun i hi => ko _ (by omega) (by omega))
            · intro p9 a c; rw [ko 23 (by decide) (by decide)]; exact dpz p9 a c
            · rw [k15 6 (by simp), wr_ss]; rfl
            · rw [k15 7 (by simp), wr_sn (by decide)]; exact d7
            · rw [k15 8 (by simp), wr_sn (by decide)]; exact d8
            · rw [g3, wr_n (by decide), w4, wr_n (by decide), v4, wr_sn (by decide)]
      · obtain ⟨e9, hr2, hr3, hr4⟩ := h50.f c53
        have hr : (rdBoard tb L D f p) = .inl e9 := by unfold rdBoard; rw [if_neg hbd, pb_r hr0]; exact pb_l hr2
        have htf3 := htf2.tr h50.2.2.tf
        refine g_iconst C (pc := 56) 0 dX10_readBoard_56 (by decide) ?_
        refine g_zret C hR (pc := 57) rfl rfl dX10_readBoard_57 ?_
        refine ⟨rfl, _, rfl, ?_⟩
        refine ⟨fun e8 h9 => ?_, fun q8 h9 => ?_, htf3⟩
        · rw [hr] at h9; cases h9; exact ⟨rfl, hr3, hr4⟩
        · rw [hr] at h9; cases h9
    · obtain ⟨e9, hr0, hr1, hr2⟩ := h25.f c28
      have hr : (rdBoard tb L D f p) = .inl e9 := by unfold rdBoard; rw [if_neg hbd]; exact pb_l hr0
      have htf : TFr I I25 := TFr.tr ⟨fun i h1 _ => wr_n h1, wr_sn (by decide), wr_sn (by decide)⟩ h25.2.2.tf
      refine g_iconst C (pc := 31) 0 dX10_readBoard_31 (by decide) ?_
      refine g_zret C hR (pc := 32) rfl rfl dX10_readBoard_32 ?_
      refine ⟨rfl, _, rfl, ?_⟩
      refine ⟨fun e8 h9 => ?_, fun q8 h9 => ?_, htf⟩
      · rw [hr] at h9; cases h9; exact ⟨rfl, hr1, hr2⟩
      · rw [hr] at h9; cases h9
  · have hbd : dBd D = true := bI_1.mp (fun h => c4 (d6.trans h))
    refine g_aload_n C (pc := 7) dX10_readBoard_7 0 rfl ?_
    refine g_iconst C (pc := 8) 4 dX10_readBoard_8 (by decide) ?_
    refine g_aload_n C (pc := 9) dX10_readBoard_9 0 rfl ?_
    refine g_getI C (pc := 10) fl_RX10_93 (by decide) (by first | assumption | rfl | omega) (by first | assumption | rfl | omega) dX10_readBoard_10 ?_
    refine g_callVI C (pc := 13) mf_X10_fail lk_RX10_96 (c_X10_fail n ρ _ _ _ hn9 hxs) (by decide) (Nat.le_refl _) rfl (by first | assumption | rfl | omega) rfl (by first | assumption | rfl | omega) (Nat.le_of_ble_eq_true rfl) dX10_readBoard_13 (fun v13 I13 h13 => ?_)
    obtain ⟨rfl, rfl⟩ := h13
    refine g_zret C hR (pc := 16) rfl rfl dX10_readBoard_16 ?_
    refine ⟨rfl, _, rfl, ?_⟩
    have hr : (rdBoard tb L D f p) = .inl (4, f) := by unfold rdBoard; rw [if_pos hbd]
    refine ⟨fun e8 h9 => ?_, fun q8 h9 => ?_, ⟨fun i h1 h2 => by rw [wr_n h1, wr_n h1], by rw [wr_sn (by decide), wr_sn (by decide)], by rw [wr_sn (by decide), wr_sn (by decide)]⟩⟩
    · rw [hr] at h9; cases h9; exact ⟨rfl, by rw [wr_sn (by decide), wr_ss]; rfl, by rw [wr_ss]; exact hf11⟩
    · rw [hr] at h9; cases h9
set_option maxHeartbeats 400000 in
theorem c_X10_readTurn (n : Nat) (ρ : Rho) (I : Mem) (L : Nat) (tb : Nat → Nat) (D : DT) (f p : Nat) (hn9 : n ≤ 999) (hxs : XS n ρ) (htb : TbR I L tb) (hp : I 15 9 = nI p) (hpL : p ≤ L) (hdr : DrR I D) (hf11 : I 15 11 = nI f) (hfL : f ≤ L) : MI yX10_readTurn cX10_readTurn 1 (some .boolean) 3 [.ref 15] n ρ I (fun v I1 => LnP I I1 v (rdTurn tb L D f p)) := by
  refine MG.of (by decide +kernel) (Nat.le_of_ble_eq_true rfl) hn9 ?_
  intro κ C hR
  show G κ n ρ 0 [(0, .ref 15)] [] I
  obtain ⟨hxc, ⟨xb1, xb2, xb3, xb4, xb5, xb6, xb8⟩, ⟨xi0, xi1, xga, xgb⟩, ⟨xt0, xt1, xgd⟩, hch, ⟨xr0, xr1, xr2⟩, xa0, ⟨xw0, xw1⟩, xst⟩ := id hxs
  obtain ⟨xc0, xcn, xc1, hga, xc7, hss⟩ := id hxc
  have xcz : 0 < n := by omega
  obtain ⟨ga0, ga1, ga2, ga3, ga4, ga5, ga6, ga7, ga8, gan, hrf, hst⟩ := id hga
  have hrf0 := hrf.1
  have hst0 := hst.1
  have hsp := hch.sp
  obtain ⟨hp0, hpn, hp1, hp2, hp3, hp4⟩ := id hsp
  obtain ⟨hL, hL3, htbs⟩ := id htb
  obtain ⟨drr, drw, dbr, dbw, dpz, d6, d7, d8⟩ := id hdr
  obtain ⟨gd0, gd1, gd2, gd3, gd4, gd5, gd6, gd7, gd8, gdn, drf, dst⟩ := id xgd
  have drf0 := drf.1
  have dst0 := dst.1
  refine g_aload_n C (pc := 0) dX10_readTurn_0 0 rfl ?_
  refine g_getI C (pc := 1) fl_RX10_48 (by decide) (by first | assumption | rfl | omega) (by first | assumption | rfl | omega) dX10_readTurn_1 ?_
  refine g_if_eq C (pc := 4) 17 dX10_readTurn_4 (by decide) (fun c4 => ?_) (fun c4 => ?_)
  · have hbd : ¬ dTn D = true := bI_0.mp (d8.symm.trans c4)
    refine g_aload_n C (pc := 17) dX10_readTurn_17 0 rfl ?_
    refine g_iconst C (pc := 18) 1 dX10_readTurn_18 (by decide) ?_
    refine g_putI C (pc := 19) fl_RX10_48 (by decide) fp_9_8 (Or.inl rfl) ⟨rfl, rfl⟩ (by first | assumption | rfl | omega) (by first | assumption | rfl | omega) hn9 dX10_readTurn_19 ?_
    refine g_aload_n C (pc := 22) dX10_readTurn_22 0 rfl ?_
    refine g_iconst C (pc := 23) 0 dX10_readTurn_23 (by decide) ?_
    refine g_iconst C (pc := 24) 1 dX10_readTurn_24 (by decide) ?_
    refine g_callVI C (pc := 25) mf_X10_readNumber lk_RX10_100 (c_X10_readNumber n ρ (wr I 15 8 1) L tb 0 1 p _ _ hn9 hxs (htb.w1 (by decide) trivial) (by rw [wr_sn (by decide)]; exact hp) hpL (by decide) (by decide) rfl rfl) (by decide) (Nat.le_refl _) rfl (by first | assumption | rfl | omega) rfl (by first | assumption | rfl | omega) (Nat.le_of_ble_eq_true rfl) dX10_readTurn_25 (fun v25 I25 h25 => ?_)
    obtain h25 := h25
    refine g_if_ne C (pc := 28) 33 dX10_readTurn_28 (by decide) (fun c28 => ?_) (fun c28 => ?_)
    · obtain ⟨q, hr0, v12, v11, v9, v4⟩ := h25.t c28
      have hok := rdNum_ok hpL hr0
      have htf : TFr I I25 := TFr.tr ⟨fun i h1 _ => wr_n h1, wr_sn (by decide), wr_sn (by decide)⟩ h25.2.2.tf
      have htf2 : TFr I (wr I25 22 3 (I25 15 12)) := htf.tr ⟨fun i _ h2 => wr_n (fun e => h2 (by omega)), by rw [wr_n (by decide)], by rw [wr_n (by decide)]⟩
      have htb50 := htb.fr htf2
      refine g_aload_n C (pc := 33) dX10_readTurn_33 0 rfl ?_
      refine g_getR C (pc := 34) fl_RX10_18 (by decide) (by first | assumption | rfl | omega) (by first | assumption | rfl | omega) (by first | assumption | rfl | omega) dX10_readTurn_34 ?_
      refine g_getR C (pc := 37) fl_RX10_146 (by decide) (by first | assumption | rfl | omega) (by first | assumption | rfl | omega) (by first | assumption | rfl | omega) dX10_readTurn_37 ?_
      refine g_aload_n C (pc := 40) dX10_readTurn_40 0 rfl ?_
      refine g_getI C (pc := 41) fl_RX10_107 (by decide) (by first | assumption | rfl | omega) (by first | assumption | rfl | omega) dX10_readTurn_41 ?_
      refine g_putI C (pc := 44) fl_RX10_150 (by decide) fp_7_3 (Or.inl rfl) ⟨rfl, rfl⟩ (by first | assumption | rfl | omega) (by first | assumption | rfl | omega) hn9 dX10_readTurn_44 ?_
      refine g_aload_n C (pc := 47) dX10_readTurn_47 0 rfl ?_
      refine g_callVI C (pc := 48) mf_X10_readSign lk_RX10_118 (c_X10_readSign n ρ (wr I25 22 3 (I25 15 12)) L tb q.2.2 hn9 hxs htb50 (by rw [wr_n (by decide)]; exact v9) hok.2.2.2) (by decide) (Nat.le_refl _) rfl (by first | assumption | rfl | omega) rfl (by first | assumption | rfl | omega) (Nat.le_of_ble_eq_true rfl) dX10_readTurn_48 (fun v48 I48 h48 => ?_)
      obtain h48 := h48
      have hrb : (rdTurn tb L D f p) = pb (rdSgn tb L q.2.2) (fun e => .inr ((dF D, stM (dB D) q.1, dBd D, dOd D, true), e)) := by unfold rdTurn; rw [if_neg hbd, pb_r hr0]
      have htf5 := htf2.tr h48.2.2.tf
      refine g_zret C hR (pc := 51) rfl (SgP.nar h48) dX10_readTurn_51 ?_
      refine ⟨rfl, _, rfl, ?_⟩
      refine ⟨fun e8 h9 => ?_, fun q8 h9 => ?_, htf5⟩
      · cases h7 : rdSgn tb L q.2.2 with
        | inl x => rw [hrb, pb_l h7] at h9; cases h9; exact h48.1 _ h7
        | inr x => rw [hrb, pb_r h7] at h9; cases h9
      · cases h7 : rdSgn tb L q.2.2 with
        | inl x => rw [hrb, pb_l h7] at h9; cases h9
        | inr x =>
          rw [hrb, pb_r h7] at h9; cases h9
          obtain ⟨g1, g2, g3⟩ := h48.2.1 _ h7
          have ko : ∀ i, i ≠ 15 → i ≠ 22 → I48 i = I i := fun i h1 h2 => by rw [h48.2.2.2 i h1, wr_n h2, h25.2.2.2 i h1, wr_n h1]
          have k15 : ∀ z, z = 2 ∨ z = 3 ∨ z = 6 ∨ z = 7 ∨ z = 8 → I48 15 z = wr I 15 8 1 15 z := fun z hz => by rw [h48.2.2.1 z hz, wr_n (by decide), h25.2.2.1 z hz]
          refine ⟨g1, ⟨drr.cong (fun i hi => ko _ (by omega) (by omega)), drw, ⟨?_, ?_, ?_⟩, ⟨by show q.1 < 2; omega, dbw.2⟩, ?_, ?_, ?_, ?_⟩, g2, ?_⟩
          · rw [h48.2.2.2 22 (by decide), wr_ss, v12]; rfl
          · intro p9 hp9; rw [ko 23 (by decide) (by decide), ko 24 (by decide) (by decide)]; exact dbr.2.1 p9 hp9
          · intro s hs i hi; rw [ko 25 (by decide) (by decide)]; exact dbr.2.2 s hs i hi
          · intro p9 a c; rw [ko 23 (by decide) (by decide)]; exact dpz p9 a c
          · rw [k15 6 (by simp), wr_sn (by decide)]; exact d6
          · rw [k15 7 (by simp), wr_sn (by decide)]; exact d7
          · rw [k15 8 (by simp), wr_ss]; rfl
          · rw [g3, wr_n (by decide), v4, wr_sn (by decide)]
    · obtain ⟨e9, hr0, hr1, hr2⟩ := h25.f c28
      have hr : (rdTurn tb L D f p) = .inl e9 := by unfold rdTurn; rw [if_neg hbd]; exact pb_l hr0
      have htf : TFr I I25 := TFr.tr ⟨fun i h1 _ => wr_n h1, wr_sn (by decide), wr_sn (by decide)⟩ h25.2.2.tf
      refine g_iconst C (pc := 31) 0 dX10_readTurn_31 (by decide) ?_
      refine g_zret C hR (pc := 32) rfl rfl dX10_readTurn_32 ?_
      refine ⟨rfl, _, rfl, ?_⟩
      refine ⟨fun e8 h9 => ?_, fun q8 h9 => ?_, htf⟩
      · rw [hr] at h9; cases h9; exact ⟨rfl, hr1, hr2⟩
      · rw [hr] at h9; cases h9
  · have hbd : dTn D = true := bI_1.mp (fun h => c4 (d8.trans h))
    refine g_aload_n C (pc := 7) dX10_readTurn_7 0 rfl ?_
    refine g_iconst C (pc := 8) 4 dX10_readTurn_8 (by decide) ?_
    refine g_aload_n C (pc := 9) dX10_readTurn_9 0 rfl ?_
    refine g_getI C (pc := 10) fl_RX10_93 (by decide) (by first | assumption | rfl | omega) (by first | assumption | rfl | omega) dX10_readTurn_10 ?_
    refine g_callVI C (pc := 13) mf_X10_fail lk_RX10_96 (c_X10_fail n ρ _ _ _ hn9 hxs) (by decide) (Nat.le_refl _) rfl (by first | assumption | rfl | omega) rfl (by first | assumption | rfl | omega) (Nat.le_of_ble_eq_true rfl) dX10_readTurn_13 (fun v13 I13 h13 => ?_)
    obtain ⟨rfl, rfl⟩ := h13
    refine g_zret C hR (pc := 16) rfl rfl dX10_readTurn_16 ?_
    refine ⟨rfl, _, rfl, ?_⟩
    have hr : (rdTurn tb L D f p) = .inl (4, f) := by unfold rdTurn; rw [if_pos hbd]
    refine ⟨fun e8 h9 => ?_, fun q8 h9 => ?_, ⟨fun i h1 h2 => by rw [wr_n h1, wr_n h1], by rw [wr_sn (by decide), wr_sn (by decide)], by rw [wr_sn (by decide), wr_sn (by decide)]⟩⟩
    · rw [hr] at h9; cases h9; exact ⟨rfl, by rw [wr_sn (by decide), wr_ss]; rfl, by rw [wr_ss]; exact hf11⟩
    · rw [hr] at h9; cases h9
set_option maxHeartbeats 400000 in
theorem c_X10_readSteeple (n : Nat) (ρ : Rho) (I : Mem) (L : Nat) (tb : Nat → Nat) (D : DT) (p : Nat) (hn9 : n ≤ 999) (hxs : XS n ρ) (htb : TbR I L tb) (hp : I 15 9 = nI p) (hpL : p ≤ L) (hdr : DrR I D) : MI yX10_readSteeple cX10_readSteeple 1 (some .boolean) 4 [.ref 15] n ρ I (fun v I1 => LnP I I1 v (rdStp tb L D p)) := by
  refine MG.of (by decide +kernel) (Nat.le_of_ble_eq_true rfl) hn9 ?_
  intro κ C hR
  show G κ n ρ 0 [(0, .ref 15)] [] I
  obtain ⟨hxc, ⟨xb1, xb2, xb3, xb4, xb5, xb6, xb8⟩, ⟨xi0, xi1, xga, xgb⟩, ⟨xt0, xt1, xgd⟩, hch, ⟨xr0, xr1, xr2⟩, xa0, ⟨xw0, xw1⟩, xst⟩ := id hxs
  obtain ⟨xc0, xcn, xc1, hga, xc7, hss⟩ := id hxc
  have xcz : 0 < n := by omega
  obtain ⟨ga0, ga1, ga2, ga3, ga4, ga5, ga6, ga7, ga8, gan, hrf, hst⟩ := id hga
  have hrf0 := hrf.1
  have hst0 := hst.1
  have hsp := hch.sp
  obtain ⟨hp0, hpn, hp1, hp2, hp3, hp4⟩ := id hsp
  obtain ⟨hL, hL3, htbs⟩ := id htb
  obtain ⟨drr, drw, dbr, dbw, dpz, d6, d7, d8⟩ := id hdr
  obtain ⟨gd0, gd1, gd2, gd3, gd4, gd5, gd6, gd7, gd8, gdn, drf, dst⟩ := id xgd
  have drf0 := drf.1
  have dst0 := dst.1
  refine g_aload_n C (pc := 0) dX10_readSteeple_0 0 rfl ?_
  refine g_callVI C (pc := 1) mf_X10_readFreeSquare lk_RX10_121 (c_X10_readFreeSquare n ρ I L tb D p hn9 hxs htb hp hpL hdr) (by decide) (Nat.le_refl _) rfl (by first | assumption | rfl | omega) rfl (by first | assumption | rfl | omega) (Nat.le_of_ble_eq_true rfl) dX10_readSteeple_1 (fun v1 I1 h1 => ?_)
  obtain h1 := h1
  refine g_if_ne C (pc := 4) 9 dX10_readSteeple_4 (by decide) (fun c4 => ?_) (fun c4 => ?_)
  · obtain ⟨q, hr0, v12, v11, v9, v4⟩ := h1.t c4
    have hok := rdFree_ok hpL hr0
    refine g_aload_n C (pc := 9) dX10_readSteeple_9 0 rfl ?_
    refine g_getR C (pc := 10) fl_RX10_18 (by decide) (by first | assumption | rfl | omega) (by first | assumption | rfl | omega) (by first | assumption | rfl | omega) dX10_readSteeple_10 ?_
    refine g_getR C (pc := 13) fl_RX10_103 (by decide) (by first | assumption | rfl | omega) (by first | assumption | rfl | omega) (by first | assumption | rfl | omega) dX10_readSteeple_13 ?_
    refine g_aload_n C (pc := 16) dX10_readSteeple_16 0 rfl ?_
    refine g_getI C (pc := 17) fl_RX10_107 (by decide) (by first | assumption | rfl | omega) (by first | assumption | rfl | omega) dX10_readSteeple_17 ?_
    refine g_iconst C (pc := 20) 1 dX10_readSteeple_20 (by decide) ?_
    refine g_callVV C (pc := 21) mf_X5_close lk_RX10_124 (c_X5_close n ρ I1 18 _ 1 hn9 drf) (by decide) (Nat.le_refl _) rfl (by first | assumption | rfl | omega) rfl (by first | assumption | rfl | omega) (Nat.le_of_ble_eq_true rfl) dX10_readSteeple_21 (fun I21 h21 => ?_)
    obtain h21 := h21
    have htf2 : TFr I I21 := h1.2.2.tf.tr (by rw [← h21]; exact ⟨fun i _ h2 => wr_n (fun e => h2 (by omega)), by rw [wr_n (by decide)], by rw [wr_n (by decide)]⟩)
    have htb50 := htb.fr htf2
    refine g_aload_n C (pc := 24) dX10_readSteeple_24 0 rfl ?_
    refine g_callVI C (pc := 25) mf_X10_readSign lk_RX10_118 (c_X10_readSign n ρ I21 L tb q.2.2 hn9 hxs htb50 (by rw [← h21, wr_n (by decide)]; exact v9) hok.2.2.1) (by decide) (Nat.le_refl _) rfl (by first | assumption | rfl | omega) rfl (by first | assumption | rfl | omega) (Nat.le_of_ble_eq_true rfl) dX10_readSteeple_25 (fun v25 I25 h25 => ?_)
    obtain h25 := h25
    have hrb : (rdStp tb L D p) = pb (rdSgn tb L q.2.2) (fun e => .inr ((stS (dF D) (fun i => rS (dF D) i || decide (i = q.1)), dB D, dBd D, dOd D, dTn D), e)) := pb_r hr0
    have htf5 := htf2.tr h25.2.2.tf
    refine g_zret C hR (pc := 28) rfl (SgP.nar h25) dX10_readSteeple_28 ?_
    refine ⟨rfl, _, rfl, ?_⟩
    refine ⟨fun e8 h9 => ?_, fun q8 h9 => ?_, htf5⟩
    · cases h7 : rdSgn tb L q.2.2 with
      | inl x => rw [hrb, pb_l h7] at h9; cases h9; exact h25.1 _ h7
      | inr x => rw [hrb, pb_r h7] at h9; cases h9
    · cases h7 : rdSgn tb L q.2.2 with
      | inl x => rw [hrb, pb_l h7] at h9; cases h9
      | inr x =>
        rw [hrb, pb_r h7] at h9; cases h9
        obtain ⟨g1, g2, g3⟩ := h25.2.1 _ h7
        have ko : ∀ i, i ≠ 15 → i ≠ 18 → I25 i = I i := fun i h1' h2 => by rw [h25.2.2.2 i h1', ← h21, wr_n h2, h1.2.2.2 i h1']
        have k18 : I25 18 = upd (I 18) 5 (I 18 5 ||| bitO (nI q.1)) := by rw [h25.2.2.2 18 (by decide), ← h21, wr_s, if_neg (by decide), h1.2.2.2 18 (by decide), v12]
        have k15 : ∀ z, z = 2 ∨ z = 3 ∨ z = 6 ∨ z = 7 ∨ z = 8 → I25 15 z = I 15 z := fun z hz => by rw [h25.2.2.1 z hz, ← h21, wr_n (by decide), h1.2.2.1 z hz]
        refine ⟨g1, ⟨⟨?_, ?_, ?_, ?_, ?_, ?_⟩, ⟨drw.1, drw.2.1, drw.2.2.1, drw.2.2.2.1, drw.2.2.2.2.1, drw.2.2.2.2.2.1, drw.2.2.2.2.2.2.1, ?_⟩, dbr.cong (fun i hi => ko _ (by omega) (by omega)), dbw, ?_, ?_, ?_, ?_⟩, g2, ?_⟩
        · rw [k18, upd_n (by decide)]; exact drr.1
        · rw [k18, upd_n (by decide)]; exact drr.2.1
        · rw [k18, upd_n (by decide)]; exact drr.2.2.1
        · intro i hi
          rw [k18, upd_s, show bitO (nI q.1) = bitO (oI (some q.1)) from rfl, or_bitO (by intro z hz; cases hz; omega) hi, drr.2.2.2.1 i hi, beq_dec]
          show _ = (rS (dF D) i || decide (i = q.1))
          congr 1; rw [Bool.eq_iff_iff, decide_eq_true_iff, decide_eq_true_iff]; exact eq_comm
        · intro p9 hp9; rw [ko 19 (by decide) (by decide), ko 20 (by decide) (by decide)]; exact drr.2.2.2.2.1 p9 hp9
        · intro w hw; rw [ko 21 (by decide) (by decide)]; exact drr.2.2.2.2.2 w hw
        · intro i hi
          replace hi : (rS (dF D) i || decide (i = q.1)) = true := hi
          rw [Bool.or_eq_true, decide_eq_true_eq] at hi
          rcases hi with hi | hi
          · exact drw.2.2.2.2.2.2.2 i hi
          · omega
        · intro p9 a c; rw [ko 23 (by decide) (by decide)]; exact dpz p9 a c
        · rw [k15 6 (by simp)]; exact d6
        · rw [k15 7 (by simp)]; exact d7
        · rw [k15 8 (by simp)]; exact d8
        · rw [g3, ← h21, wr_n (by decide), v4]
  · obtain ⟨e9, hr0, hr1, hr2⟩ := h1.f c4
    have hr : (rdStp tb L D p) = .inl e9 := pb_l hr0
    refine g_iconst C (pc := 7) 0 dX10_readSteeple_7 (by decide) ?_
    refine g_zret C hR (pc := 8) rfl rfl dX10_readSteeple_8 ?_
    refine ⟨rfl, _, rfl, ?_⟩
    refine ⟨fun e8 h9 => ?_, fun q8 h9 => ?_, h1.2.2.tf⟩
    · rw [hr] at h9; cases h9; exact ⟨rfl, hr1, hr2⟩
    · rw [hr] at h9; cases h9
