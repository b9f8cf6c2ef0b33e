theorem c_X8_play (n : Nat) (ρ : Rho) (I : Mem) (s r wd : Nat) (F : RT) (b : BT) (mv : Option Nat) (x : Int32) (hn9 : n ≤ 999) (hst : St n ρ s) (hrf : Rf n ρ r) (hrr : RR I r F) (hrw : RW F) (hbr : BR I s F b) (hbw : BW F b) (hdis : Dis r s) (hwd : wd < 5) (hm : ∀ m, mv = some m → m / 100 < rN F ∧ m % 100 < 25) (hx : x = oI mv) : MI yX8_play cX8_play 6 (some .int) 2 [.ref s, .ref r, .int (nI wd), .int x] n ρ I (fun v I1 => v = oI (mv.bind (fun m => pon F b (m % 100))) ∧ BR I1 s F (playB F b wd mv) ∧ ∀ i, i ≠ s → i ≠ s + 1 → i ≠ s + 2 → i ≠ s + 3 → I1 i = I i) := by
  cases mv with
  | none => exact c_X8_play_n n ρ I s r wd F b x hn9 hst hrf hrr hrw hbr hbw hdis hwd hx
  | some m => exact c_X8_play_m n ρ I s r wd m F b x hn9 hst hrf hrr hrw hbr hbw hdis hwd (hm m rfl).1 (hm m rfl).2 hx
/-- all odds *)-/
def allO (F : RT) : Nat := smP (rOd F) 5
theorem allO_le {F : RT} (h : RW F) : allO F ≤ 45 := smP_le (k := 5) h.2.2.2.2.2.2.1
/-- the wind on which a number falls *)-/
def windN (f : Nat → Nat) : Nat → Nat → Nat → Nat
  | 0, w, _ => w
  | k + 1, w, x => if x < f w then w else windN f k (w + 1) (x - f w)
def pw (a : Nat) : Nat → Nat
  | 0 => 1
  | k + 1 => pw a k * a
theorem windN_lt {f : Nat → Nat} : ∀ (k w x : Nat), x < smP (fun i => f (w + i)) k → windN f k w x < w + k
  | 0, w, x, h => absurd h (Nat.not_lt_zero x)
  | k + 1, w, x, h => by
    rw [windN]
    by_cases e : x < f w
    · rw [if_pos e]; omega
    · rw [if_neg e]
      have e2 : ∀ m, smP (fun i => f (w + i)) (m + 1) = f w + smP (fun i => f (w + 1 + i)) m := by
        intro m
        induction m with
        | zero => simp [smP]
        | succ m ih =>
          rw [smP, ih, smP]
          rw [show w + (m + 1) = w + 1 + m by omega]
          omega
      rw [e2] at h
      have := windN_lt (f := f) k (w + 1) (x - f w) (by omega)
      omega
theorem windN_no {F : RT} (h : RW F) {z : Nat} (hp : 0 < allO F) (e : 5 ≤ windN (rOd F) 5 0 (z % allO F)) : False := by
  have h2 : z % allO F < smP (fun i => rOd F (0 + i)) 5 := by
    have := Nat.mod_lt z hp
    have e3 : (fun i => rOd F (0 + i)) = rOd F := by funext i; rw [Nat.zero_add]
    rw [e3]; exact this
  have := windN_lt 5 0 _ h2
  omega
set_option maxHeartbeats 400000 in
theorem c_X9_tread (n : Nat) (ρ : Rho) (I : Mem) (h g r wd : Nat) (F : RT) (b : BT) (mv : Option Nat) (x : Int32) (hn9 : n ≤ 999) (hsp : Sp n ρ h) (hnx : ρ h 2 = some g) (hsg : Sp n ρ g) (hd1 : Dis (h + 1) (g + 1)) (hd2 : Dis r (g + 1)) (hrf : Rf n ρ r) (hrr : RR I r F) (hrw : RW F) (hbr : BR I (h + 1) F b) (hbw : BW F b) (hwd : wd < 5) (hm : ∀ m, mv = some m → m / 100 < rN F ∧ m % 100 < 25) (hx : x = oI mv) : MV yX9_tread cX9_tread 4 none 3 [.ref h, .ref r, .int (nI wd), .int x] n ρ I (fun I1 => BR I1 (g + 1) F (playB F b wd mv) ∧ ∀ i, i ≠ g + 1 → i ≠ g + 2 → i ≠ g + 3 → i ≠ g + 4 → I1 i = I i) := by
  refine MG.of (by decide +kernel) (Nat.le_of_ble_eq_true rfl) hn9 ?_
  intro κ C hR
  show G κ n ρ 0 [(0, .ref h), (1, .ref r), (2, .int (nI wd)), (3, .int x)] [] I
  obtain ⟨hp0, hpn, hp1, hp2, hp3, hp4⟩ := id hsp
  obtain ⟨hs0, hs1, hs2, hs3, hsn, hr0, hr1, hr2⟩ := id hp4
  obtain ⟨gp0, gpn, gp1, gp2, gp3, gp4⟩ := id hsg
  obtain ⟨gs0, gs1, gs2, gs3, gsn, gr0, gr1, gr2⟩ := id gp4
  obtain ⟨hq0, hq1, hq2, hq3, hqn, ht0, ht1, ht2⟩ := id hrf
  refine g_aload_n C (pc := 0) dX9_tread_0 0 rfl ?_
  refine g_getR C (pc := 1) fl_RX9_22 (by decide) (by first | assumption | rfl | omega) (by first | assumption | rfl | omega) (by first | assumption | rfl | omega) dX9_tread_1 ?_
  refine g_ifnonnull C (pc := 4) 8 dX9_tread_4 (by decide) ?_
  refine g_aload_n C (pc := 8) dX9_tread_8 0 rfl ?_
  refine g_getR C (pc := 9) fl_RX9_22 (by decide) (by first | assumption | rfl | omega) (by first | assumption | rfl | omega) (by first | assumption | rfl | omega) dX9_tread_9 ?_
  refine g_getR C (pc := 12) fl_RX9_12 (by decide) (by first | assumption | rfl | omega) (by first | assumption | rfl | omega) (by first | assumption | rfl | omega) dX9_tread_12 ?_
  refine g_aload_n C (pc := 15) dX9_tread_15 0 rfl ?_
  refine g_getR C (pc := 16) fl_RX9_12 (by decide) (by first | assumption | rfl | omega) (by first | assumption | rfl | omega) (by first | assumption | rfl | omega) dX9_tread_16 ?_
  refine g_callVV C (pc := 19) mf_X8_copyFrom lk_RX9_41 (c_X8_copyFrom n ρ I (g + 1) (h + 1) hn9 gp4 hp4 hd1) (by decide) (Nat.le_refl _) rfl (by first | assumption | rfl | omega) rfl (by first | assumption | rfl | omega) (Nat.le_of_ble_eq_true rfl) dX9_tread_19 (fun I19 h19 => ?_)
  obtain ⟨a19, b19, d19, f19, g19⟩ := h19
  have hB1 : BR I19 (g + 1) F b := hbr.copy hrw a19 b19 d19 f19
  have hR1 : RR I19 r F := hrr.cong (fun i hi => g19 _ (hd2 i 0 hi (by decide)) (hd2 i 1 hi (by decide)) (hd2 i 2 hi (by decide)) (hd2 i 3 hi (by decide)))
  refine g_aload_n C (pc := 22) dX9_tread_22 0 rfl ?_
  refine g_getR C (pc := 23) fl_RX9_22 (by decide) (by first | assumption | rfl | omega) (by first | assumption | rfl | omega) (by first | assumption | rfl | omega) dX9_tread_23 ?_
  refine g_getR C (pc := 26) fl_RX9_12 (by decide) (by first | assumption | rfl | omega) (by first | assumption | rfl | omega) (by first | assumption | rfl | omega) dX9_tread_26 ?_
  refine g_aload_n C (pc := 29) dX9_tread_29 1 rfl ?_
  refine g_iload_n C (pc := 30) dX9_tread_30 2 rfl ?_
  refine g_iload_n C (pc := 31) dX9_tread_31 3 rfl ?_
  refine g_callVI C (pc := 32) mf_X8_play lk_RX9_45 (c_X8_play n ρ I19 (g + 1) r wd F b mv _ hn9 gp4 hrf hR1 hrw hB1 hbw hd2 hwd hm hx) (by decide) (Nat.le_refl _) rfl (by first | assumption | rfl | omega) rfl (by first | assumption | rfl | omega) (Nat.le_of_ble_eq_true rfl) dX9_tread_32 (fun v32 I32 h32 => ?_)
  obtain ⟨e32, h32, g32⟩ := h32
  refine g_pop C (pc := 35) dX9_tread_35 rfl ?_
  refine g_vret C hR (pc := 36) rfl dX9_tread_36 ?_
  refine ⟨rfl, rfl, ?_⟩
  exact ⟨h32, fun i h1 h2 h3 h4 => (g32 i h1 h2 h3 h4).trans (g19 i h1 h2 h3 h4)⟩
set_option maxHeartbeats 400000 in
theorem c_X5_allOdds (n : Nat) (ρ : Rho) (I : Mem) (r : Nat) (F : RT) (hn9 : n ≤ 999) (hrf : Rf n ρ r) (hrr : RR I r F) : MI yX5_allOdds cX5_allOdds 3 (some .int) 0 [.ref r] n ρ I (fun v I1 => v = nI (allO F) ∧ I = I1) := by
  refine MG.of (by decide +kernel) (Nat.le_of_ble_eq_true rfl) hn9 ?_
  intro κ C hR
  show G κ n ρ 0 [(0, .ref r)] [] I
  obtain ⟨hq0, hq1, hq2, hq3, hqn, ht0, ht1, ht2⟩ := id hrf
  refine g_iconst C (pc := 0) 0 dX5_allOdds_0 (by decide) ?_
  refine g_istore_n C (pc := 1) dX5_allOdds_1 (by decide) (fun v1 => [(1, .int v1), (0, .ref r)]) (fun _ => rfl) (fun v1 ev1 => ?_)
  refine g_iconst C (pc := 2) 0 dX5_allOdds_2 (by decide) ?_
  refine g_istore_n C (pc := 3) dX5_allOdds_3 (by decide) (fun v3 => [(2, .int v3), (1, .int v1), (0, .ref r)]) (fun _ => rfl) (fun v3 ev3 => ?_)
  have L4 : ∀ (k9 : Nat) (j : Nat)  (wz2 : Int32) (wz1 : Int32) (hw2 : wz2 = nI j) (hj : j ≤ 5) (hc : wz1 = nI (smP (rOd F) j)), 5 - j < k9 → G κ n ρ 4 [(2, .int wz2), (1, .int wz1), (0, .ref r)] [] I := by
    intro k9
    induction k9 with
    | zero => intro j wz2 wz1 hw2 hj hc hm4; exact absurd hm4 (Nat.not_lt_zero _)
    | succ k9 ih4 =>
      intro j wz2 wz1 hw2 hj hc hm4
      subst hw2
      refine g_iload_n C (pc := 4) dX5_allOdds_4 0 rfl ?_
      refine g_aload_n C (pc := 5) dX5_allOdds_5 2 rfl ?_
      refine g_getR C (pc := 6) fl_RX5_18 (by decide) (by first | assumption | rfl | omega) (by first | assumption | rfl | omega) (by first | assumption | rfl | omega) dX5_allOdds_6 ?_
      refine g_alen C (pc := 9) 5 (by first | assumption | rfl | omega) (by decide) (by first | assumption | rfl | omega) rfl dX5_allOdds_9 ?_
      refine g_icmp_ge C (pc := 10) 28 dX5_allOdds_10 (by decide) (fun c10 => ?_) (fun c10 => ?_)
      · replace c10 := (nI_leI (a := 5) (b := j) (by decide) (by omega)).mp c10
        refine g_iload_n C (pc := 28) dX5_allOdds_28 1 rfl ?_
        refine g_iret C hR (pc := 29) rfl dX5_allOdds_29 ?_
        refine ⟨rfl, _, rfl, ?_⟩
        have : j = 5 := by omega
        subst this; exact ⟨hc, rfl⟩
      · replace c10 := (nI_ltI (a := j) (b := 5) (by omega) (by decide)).mp c10
        refine g_iload_n C (pc := 13) dX5_allOdds_13 1 rfl ?_
        refine g_aload_n C (pc := 14) dX5_allOdds_14 2 rfl ?_
        refine g_getR C (pc := 15) fl_RX5_18 (by decide) (by first | assumption | rfl | omega) (by first | assumption | rfl | omega) (by first | assumption | rfl | omega) dX5_allOdds_15 ?_
        refine g_iload_n C (pc := 18) dX5_allOdds_18 0 rfl ?_
        refine g_iald C (pc := 19) (by first | assumption | rfl | omega) (by first | assumption | rfl | omega) (vp_in_nI (by omega) (by decide)) dX5_allOdds_19 ?_
        refine g_iadd C (pc := 20) dX5_allOdds_20 ?_
        refine g_istore_n C (pc := 21) dX5_allOdds_21 (by decide) (fun v21 => [(1, .int v21), (2, .int (nI j)), (0, .ref r)]) (fun _ => rfl) (fun v21 ev21 => ?_)
        refine g_iinc C (pc := 22) (1) dX5_allOdds_22 1 rfl (by decide) (by decide) (fun v22 => [(2, .int v22), (1, .int v21), (0, .ref r)]) (fun _ => rfl) (fun v22 ev22 => ?_)
        refine g_goto C (pc := 25) 4 dX5_allOdds_25 (by decide) ?_
        refine g_lv C [0, 1, 2] rfl (ih4 (j + 1)  _ _ ?_ ?_ ?_ (by omega))
        · subst_vars; exact nI_1 _
        · omega
        · subst ev21; rw [hc, nI_clamp (by omega), hrr.2.2.2.2.2 j (by omega), nI_add]; rfl
  refine g_lv C [0, 1, 2] rfl (L4 (_ + 1) 0  _ _ ?_ ?_ ?_ (by first | omega | exact Nat.lt_succ_self _))
  · assumption
  · omega
  · subst ev1; rfl
set_option maxHeartbeats 400000 in
theorem c_X11_power (n : Nat) (ρ : Rho) (I : Mem) (a k : Nat) (x z : Int32) (hn9 : n ≤ 999) (ha : a < 2 ^ 31) (hk : k < 2 ^ 31) (hx : x = nI a) (hz : z = nI k) : ML yX11_power cX11_power 5 (some .long) 0 [.int x, .int z] n ρ I (fun v I1 => v = lN (pw a k) ∧ I = I1) := by
  refine MG.of (by decide +kernel) (Nat.le_of_ble_eq_true rfl) hn9 ?_
  intro κ C hR
  show G κ n ρ 0 [(0, .int x), (1, .int z)] [] I
  subst hx hz
  refine g_lconst C (pc := 0) 1 dX11_power_0 (by decide) ?_
  refine g_lstore_n C (pc := 1) dX11_power_1 (by decide) (fun v1 => [(2, .long v1), (0, .int (nI a)), (1, .int (nI k))]) (fun _ => rfl) (fun v1 ev1 => ?_)
  refine g_iconst C (pc := 2) 0 dX11_power_2 (by decide) ?_
  refine g_istore C (pc := 3) dX11_power_3 (by decide) (fun v3 => [(4, .int v3), (2, .long v1), (0, .int (nI a)), (1, .int (nI k))]) (fun _ => rfl) (fun v3 ev3 => ?_)
  have L5 : ∀ (k9 : Nat) (j : Nat)  (wz4 : Int32) (wz2 : Int64) (hw4 : wz4 = nI j) (hj : j ≤ k) (hc : wz2 = lN (pw a j)), k - j < k9 → G κ n ρ 5 [(4, .int wz4), (0, .int (nI a)), (1, .int (nI k)), (2, .long wz2)] [] I := by
    intro k9
    induction k9 with
    | zero => intro j wz4 wz2 hw4 hj hc hm5; exact absurd hm5 (Nat.not_lt_zero _)
    | succ k9 ih5 =>
      intro j wz4 wz2 hw4 hj hc hm5
      subst hw4
      refine g_iload C (pc := 5) dX11_power_5 0 rfl ?_
      refine g_iload_n C (pc := 7) dX11_power_7 2 rfl ?_
      refine g_icmp_ge C (pc := 8) 22 dX11_power_8 (by decide) (fun c8 => ?_) (fun c8 => ?_)
      · rw [nI_leI (by omega) (by omega)] at c8
        refine g_lload_n C (pc := 22) dX11_power_22 3 rfl ?_
        refine g_lret C hR (pc := 23) rfl dX11_power_23 ?_
        refine ⟨rfl, _, rfl, ?_⟩
        have : j = k := by omega
        subst this; exact ⟨hc, rfl⟩
      · rw [nI_ltI (by omega) (by omega)] at c8
        refine g_lload_n C (pc := 11) dX11_power_11 3 rfl ?_
        refine g_iload_n C (pc := 12) dX11_power_12 1 rfl ?_
        refine g_i2l C (pc := 13) dX11_power_13 ?_
        refine g_lmul C (pc := 14) dX11_power_14 ?_
        refine g_lstore_n C (pc := 15) dX11_power_15 (by decide) (fun v15 => [(2, .long v15), (4, .int (nI j)), (0, .int (nI a)), (1, .int (nI k))]) (fun _ => rfl) (fun v15 ev15 => ?_)
        refine g_iinc C (pc := 16) (1) dX11_power_16 1 rfl (by decide) (by decide) (fun v16 => [(4, .int v16), (2, .long v15), (0, .int (nI a)), (1, .int (nI k))]) (fun _ => rfl) (fun v16 ev16 => ?_)
        refine g_goto C (pc := 19) 5 dX11_power_19 (by decide) ?_
        refine g_lv C [0, 2, 3, 1] rfl (ih5 (j + 1)  _ _ ?_ ?_ ?_ (by omega))
        · subst_vars; exact nI_1 _
        · omega
        · subst ev15; rw [hc, nI_l (by omega), lN_mul]; rfl
  refine g_lv C [0, 2, 3, 1] rfl (L5 (_ + 1) 0  _ _ ?_ ?_ ?_ (by first | omega | exact Nat.lt_succ_self _))
  · assumption
  · omega
  · subst ev1; rfl
set_option maxHeartbeats 400000 in
theorem c_X5_windBy (n : Nat) (ρ : Rho) (I : Mem) (r z : Nat) (F : RT) (x : Int32) (hn9 : n ≤ 999) (hrf : Rf n ρ r) (hrr : RR I r F) (hrw : RW F) (hz : z < 100000) (hx : x = nI z) (hpos : 0 < allO F) : MI yX5_windBy cX5_windBy 5 (some .int) 1 [.ref r, .int x] n ρ I (fun v I1 => v = nI (windN (rOd F) 5 0 (z % allO F)) ∧ I = I1) := by
  refine MG.of (by decide +kernel) (Nat.le_of_ble_eq_true rfl) hn9 ?_
  intro κ C hR
  show G κ n ρ 0 [(0, .ref r), (1, .int x)] [] I
  subst hx
  obtain ⟨hq0, hq1, hq2, hq3, hqn, ht0, ht1, ht2⟩ := id hrf
  have hA := allO_le hrw
  obtain ⟨y0, hy0⟩ : ∃ y0, y0 = z % allO F := ⟨_, rfl⟩
  have hy45 : y0 < 45 := by have := Nat.mod_lt z hpos; omega
  refine g_aload_n C (pc := 0) dX5_windBy_0 0 rfl ?_
  refine g_callVI C (pc := 1) mf_X5_allOdds lk_RX5_40 (c_X5_allOdds n ρ _ _ _ hn9 (by first | assumption | rfl) (by first | assumption | rfl)) (by decide) (Nat.le_refl _) rfl (by first | assumption | rfl | omega) rfl (by first | assumption | rfl | omega) (Nat.le_of_ble_eq_true rfl) dX5_windBy_1 (fun v1 I1 h1 => ?_)
  obtain ⟨rfl, rfl⟩ := h1
  refine g_istore_n C (pc := 4) dX5_windBy_4 (by decide) (fun v4 => [(2, .int v4), (0, .ref r), (1, .int (nI z))]) (fun _ => rfl) (fun v4 ev4 => ?_)
  refine g_iload_n C (pc := 5) dX5_windBy_5 0 rfl ?_
  refine g_if_le C (pc := 6) 15 dX5_windBy_6 (by decide) (fun c6 => ?_) (fun c6 => ?_)
  · rw [ev4] at c6; exact absurd c6 (nI_nle hpos (by omega))
  · refine g_iload_n C (pc := 9) dX5_windBy_9 2 rfl ?_
    refine g_iload_n C (pc := 10) dX5_windBy_10 0 rfl ?_
    refine g_irem C (pc := 11) dX5_windBy_11 (by rw [ev4]; exact nI_ne0 hpos (by omega)) ?_
    refine g_goto C (pc := 12) 16 dX5_windBy_12 (by decide) ?_
    refine g_istore_n C (pc := 16) dX5_windBy_16 (by decide) (fun v16 => [(3, .int v16), (2, .int v4), (0, .ref r), (1, .int (nI z))]) (fun _ => rfl) (fun v16 ev16 => ?_)
    rw [ev4, pk_rem (by omega) hpos (by omega), ← hy0] at ev16
    refine g_iconst C (pc := 17) 0 dX5_windBy_17 (by decide) ?_
    refine g_istore C (pc := 18) dX5_windBy_18 (by decide) (fun v18 => [(4, .int v18), (3, .int v16), (2, .int v4), (0, .ref r), (1, .int (nI z))]) (fun _ => rfl) (fun v18 ev18 => ?_)
    have L20 : ∀ (k9 : Nat) (j y : Nat) (wz4 : Int32) (wz3 : Int32) (hw4 : wz4 = nI j) (hw3 : wz3 = nI y) (hj : j ≤ 5) (hy : y < 100000) (hW : windN (rOd F) 5 0 y0 = windN (rOd F) (5 - j) j y), 5 - j < k9 → G κ n ρ 20 [(4, .int wz4), (3, .int wz3), (0, .ref r)] [] I := by
      intro k9
      induction k9 with
      | zero => intro j y wz4 wz3 hw4 hw3 hj hy hW hm20; exact absurd hm20 (Nat.not_lt_zero _)
      | succ k9 ih20 =>
        intro j y wz4 wz3 hw4 hw3 hj hy hW hm20
        subst hw4 hw3
        refine g_iload C (pc := 20) dX5_windBy_20 0 rfl ?_
        refine g_aload_n C (pc := 22) dX5_windBy_22 2 rfl ?_
        refine g_getR C (pc := 23) fl_RX5_18 (by decide) (by first | assumption | rfl | omega) (by first | assumption | rfl | omega) (by first | assumption | rfl | omega) dX5_windBy_23 ?_
        refine g_alen C (pc := 26) 5 (by first | assumption | rfl | omega) (by decide) (by first | assumption | rfl | omega) rfl dX5_windBy_26 ?_
        refine g_icmp_ge C (pc := 27) 60 dX5_windBy_27 (by decide) (fun c27 => ?_) (fun c27 => ?_)
        · replace c27 := (nI_leI (a := 5) (b := j) (by decide) (by omega)).mp c27
          refine g_iconst C (pc := 60) 4 dX5_windBy_60 (by decide) ?_
          refine g_iret C hR (pc := 61) rfl dX5_windBy_61 ?_
          refine ⟨rfl, _, rfl, ?_⟩
          rw [← hy0, hW, show 5 - j = 0 by omega, windN]
          exfalso; exact windN_no hrw (z := z) hpos (by rw [← hy0, hW, show 5 - j = 0 by omega, windN]; omega)
        · replace c27 := (nI_ltI (a := j) (b := 5) (by omega) (by decide)).mp c27
          refine g_iload_n C (pc := 30) dX5_windBy_30 1 rfl ?_
          refine g_aload_n C (pc := 31) dX5_windBy_31 2 rfl ?_
          refine g_getR C (pc := 32) fl_RX5_18 (by decide) (by first | assumption | rfl | omega) (by first | assumption | rfl | omega) (by first | assumption | rfl | omega) dX5_windBy_32 ?_
          refine g_iload C (pc := 35) dX5_windBy_35 0 rfl ?_
          refine g_iald C (pc := 37) (by first | assumption | rfl | omega) (by first | assumption | rfl | omega) (vp_in_nI (by omega) (by decide)) dX5_windBy_37 ?_
          rw [nI_clamp (by omega), hrr.2.2.2.2.2 j (by omega)]
          have ho9 := hrw.2.2.2.2.2.2.1 j (by omega)
          refine g_icmp_ge C (pc := 38) 44 dX5_windBy_38 (by decide) (fun c38 => ?_) (fun c38 => ?_)
          · rw [nI_leI (by omega) (by omega)] at c38
            refine g_iload_n C (pc := 44) dX5_windBy_44 1 rfl ?_
            refine g_aload_n C (pc := 45) dX5_windBy_45 2 rfl ?_
            refine g_getR C (pc := 46) fl_RX5_18 (by decide) (by first | assumption | rfl | omega) (by first | assumption | rfl | omega) (by first | assumption | rfl | omega) dX5_windBy_46 ?_
            refine g_iload C (pc := 49) dX5_windBy_49 0 rfl ?_
            refine g_iald C (pc := 51) (by first | assumption | rfl | omega) (by first | assumption | rfl | omega) (vp_in_nI (by omega) (by decide)) dX5_windBy_51 ?_
            rw [nI_clamp (by omega), hrr.2.2.2.2.2 j (by omega)]
            refine g_isub C (pc := 52) dX5_windBy_52 ?_
            refine g_istore_n C (pc := 53) dX5_windBy_53 (by decide) (fun v53 => [(3, .int v53), (4, .int (nI j)), (0, .ref r)]) (fun _ => rfl) (fun v53 ev53 => ?_)
            refine g_iinc C (pc := 54) (1) dX5_windBy_54 1 rfl (by decide) (by decide) (fun v54 => [(4, .int v54), (3, .int v53), (0, .ref r)]) (fun _ => rfl) (fun v54 ev54 => ?_)
            refine g_goto C (pc := 57) 20 dX5_windBy_57 (by decide) ?_
            refine g_lv C [0, 1, 2] rfl (ih20 (j + 1) (y - rOd F j) _ _ ?_ ?_ ?_ ?_ ?_ (by omega))
            · subst ev54; exact nI_1 _
            · subst ev53; exact pk_sub c38
            · omega
            · omega
            · rw [hW, show 5 - j = (5 - (j + 1)) + 1 by omega, windN, if_neg (by omega)]
          · rw [nI_ltI (by omega) (by omega)] at c38
            refine g_iload C (pc := 41) dX5_windBy_41 0 rfl ?_
            refine g_iret C hR (pc := 43) rfl dX5_windBy_43 ?_
            refine ⟨rfl, _, rfl, ?_⟩
            rw [← hy0, hW, show 5 - j = (5 - (j + 1)) + 1 by omega, windN, if_pos c38]; exact ⟨rfl, rfl⟩
    refine g_lv C [0, 1, 3] rfl (L20 (_ + 1) 0 y0 _ _ ?_ ?_ ?_ ?_ ?_ (by first | omega | exact Nat.lt_succ_self _))
    · subst ev18; rfl
    · exact ev16
    · omega
    · omega
    · rfl
