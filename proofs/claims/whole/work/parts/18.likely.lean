theorem lostI {I : Mem} {s r : Nat} {F : RT} {b : BT} (hr : RR I r F) (hf : RW F) (hb : BR I s F b) (hw : BW F b) : (match findP (fun p => decide (I (s + 1) p = -4) && decide (I (r + 2) p = 0)) (rN F) with | some p => I (r + 1) p | none => -4) = oI (lostB F b) := by
  rw [lost_raw hr hf hb hw]
  unfold lostB
  cases h : lostP F b with
  | none => rfl
  | some p => exact (hr.2.2.2.2.1 p (findP_spec h).1).1
theorem lostB_lt {F : RT} {b : BT} (hf : RW F) : ∀ q, lostB F b = some q → q < 2 := by
  intro q h
  unfold lostB at h
  cases e : lostP F b with
  | none => rw [e] at h; cases h
  | some p => rw [e] at h; cases h; exact (hf.2.2.2.2.2.1 p (findP_spec e).1).1
theorem lostB_none {F : RT} {b : BT} : lostB F b = none ↔ lostP F b = none := by
  unfold lostB; cases lostP F b <;> simp
theorem val_over {F : RT} {sd k l : Nat} {b : BT} (h : lostB F b = some l) : val F sd k b = if l = sd then 0 else pw (allO F) k := by
  cases k with
  | zero => rw [val, h]; rfl
  | succ k => rw [val, h]
theorem val_pos {F : RT} {sd k : Nat} {b : BT} (h : lostB F b = none) (hk : 0 < k) : val F sd k b = smP (fun w => rOd F w * valW F sd (k - 1) b w) 5 := by
  cases k with
  | zero => exact absurd hk (Nat.lt_irrefl 0)
  | succ k => exact val_succ h
def LikC (k : Nat) : Prop := ∀ (n : Nat) (ρ : Rho) (I : Mem) (r h sd : Nat) (F : RT) (b : BT) (xs xk : Int32), n ≤ 999 → Rf n ρ r → Ch n ρ k h → RR I r F → RW F → KW F → BR I (h + 1) F b → BW F b → sd < 2 → r + 3 + 6 * k < h → k ≤ 3 → xs = nI sd → xk = nI k →
  ML yX11_likely cX11_likely 9 (some .long) (10 + 2 * k) [.ref r, .int xs, .ref h, .int xk] n ρ I (fun v I1 => v = lN (val F sd k b) ∧ ∀ i, ¬ Sc (k - 1) h i → I1 i = I i)
def LikByC (k : Nat) : Prop := ∀ (n : Nat) (ρ : Rho) (I : Mem) (r h sd w : Nat) (F : RT) (b : BT) (xs xw xk : Int32), n ≤ 999 → Rf n ρ r → Ch n ρ k h → RR I r F → RW F → KW F → BR I (h + 1) F b → BW F b → sd < 2 → w < 5 → lostP F b = none → r + 3 + 6 * k < h → 1 ≤ k → k ≤ 3 → xs = nI sd → xw = nI w → xk = nI k →
  ML yX11_likelyBy cX11_likelyBy 14 (some .long) (9 + 2 * k) [.ref r, .int xs, .ref h, .int xw, .int xk] n ρ I (fun v I1 => v = lN (valW F sd (k - 1) b w) ∧ I1 h 4 = oI (chW F sd (k - 1) b w) ∧ ∀ i, ¬ Sc (k - 1) h i → I1 i = I i)
theorem bst_end {wants : Bool} {f : Nat → Nat} {N i a ix : Nat} (h : bstK wants f i = some (a, ix)) (hi : i ≤ N) (hu : ∀ j, (if wants = true then f j ≤ a else a ≤ f j)) : bstK wants f N = some (a, ix) := by
  have := bstK_stop h hu (N - i)
  rwa [show i + (N - i) = N by omega] at this
def idxI (em : Bool) (q : Option (Nat × Nat)) : Int32 := if em = true then -4 else match q with
  | none => 0
  | some (_, ix) => nI ix
theorem cmp_best {q : Option Nat} {u : Nat} (hq : ∀ a, q = some a → a < 2 ^ 31) (hu : u < 2 ^ 31) : lg_cmp (lO q) (lN u) = 0 ↔ q = some u := by
  cases q with
  | none =>
    have : lg_cmp (lO none) (lN u) = -1 := lN_neg hu
    rw [this]
    exact ⟨fun h => absurd h (by decide), fun h => by cases h⟩
  | some a =>
    have : lg_cmp (lO (some a)) (lN u) = 0 ↔ a = u := cmp_eq (hq a rfl) hu
    rw [this]
    exact ⟨fun h => by rw [h], fun h => Option.some.inj h⟩
theorem cmp_best0 {q : Option Nat} (hq : ∀ a, q = some a → a < 2 ^ 31) : lg_cmp (lO q) 0 < 0 ↔ q = none := by
  cases q with
  | none =>
    have : lg_cmp (lO none) 0 = -1 := by decide
    rw [this]; exact ⟨fun _ => rfl, fun _ => by decide⟩
  | some a =>
    have : lg_cmp (lO (some a)) (lN 0) < 0 ↔ a < 0 := cmp_lt (hq a rfl) (by decide)
    have e : lg_cmp (lO (some a)) 0 = lg_cmp (lO (some a)) (lN 0) := rfl
    rw [e, this]
    exact ⟨fun h => absurd h (Nat.not_lt_zero a), fun h => by cases h⟩
theorem bstK_fst_none {wants : Bool} {f : Nat → Nat} {i : Nat} (h : (bstK wants f i).map (fun q => q.1) = none) : i = 0 := by
  cases i with
  | zero => rfl
  | succ i =>
    obtain ⟨a, j, e, -⟩ := bstK_some (wants := wants) (f := f) (Nat.succ_pos i)
    rw [e] at h; cases h
set_option maxHeartbeats 400000 in
theorem c_X11_likely (n : Nat) (ρ : Rho) (I : Mem) (r h sd k : Nat) (F : RT) (b : BT) (xs xk : Int32) (hn9 : n ≤ 999) (hrf : Rf n ρ r) (hch : Ch n ρ k h) (hrr : RR I r F) (hrw : RW F) (hkw : KW F) (hbr : BR I (h + 1) F b) (hbw : BW F b) (hsd : sd < 2) (hrh : r + 3 + 6 * k < h) (hk3 : k ≤ 3) (hxs : xs = nI sd) (hxk : xk = nI k) (hLB : 0 < k → LikByC k) : ML yX11_likely cX11_likely 9 (some .long) (10 + 2 * k) [.ref r, .int xs, .ref h, .int xk] n ρ I (fun v I1 => v = lN (val F sd k b) ∧ ∀ i, ¬ Sc (k - 1) h i → I1 i = I i) := by
  refine MG.of (by decide +kernel) (Nat.le_of_ble_eq_true rfl) hn9 ?_
  intro κ C hR
  show G κ n ρ 0 [(0, .ref r), (1, .int xs), (2, .ref h), (3, .int xk)] [] I
  subst hxs hxk
  have hsp := hch.sp
  obtain ⟨hp0, hpn, hp1, hp2, hp3, hp4⟩ := id hsp
  obtain ⟨hs0, hs1, hs2, hs3, hsn, hr0, hr1, hr2⟩ := id hp4
  obtain ⟨hq0, hq1, hq2, hq3, hqn, ht0, ht1, ht2⟩ := id hrf
  have hnp : rN F ≤ 6 := hrw.2.2.2.2.1
  have hN := hrr.2.2.1
  have hAO := allO_le hrw
  have hM2 := hbw.1
  have hmv := hbr.1
  refine g_aload_n C (pc := 0) dX11_likely_0 2 rfl ?_
  refine g_getR C (pc := 1) fl_RX11_210 (by decide) (by first | assumption | rfl | omega) (by first | assumption | rfl | omega) (by first | assumption | rfl | omega) dX11_likely_1 ?_
  refine g_aload_n C (pc := 4) dX11_likely_4 0 rfl ?_
  refine g_callVI C (pc := 5) mf_X8_lostSide lk_RX11_131 (c_X8_lostSide n ρ I (h + 1) r (rN F) hn9 hp4 hrf hN hnp) (by omega) (Nat.le_refl _) rfl (by first | assumption | rfl | omega) rfl (by first | assumption | rfl | omega) (Nat.le_of_ble_eq_true rfl) dX11_likely_5 (fun v5 I5 h5 => ?_)
  obtain ⟨e5, rfl⟩ := h5
  replace e5 := e5.trans (lostI hrr hrw hbr hbw)
  refine g_istore C (pc := 8) dX11_likely_8 (by decide) (fun v8 => [(4, .int v8), (0, .ref r), (1, .int (nI sd)), (2, .ref h), (3, .int (nI k))]) (fun _ => rfl) (fun v8 ev8 => ?_)
  refine g_iload C (pc := 10) dX11_likely_10 0 rfl ?_
  refine g_bipush C (pc := 12) (-4) dX11_likely_12 (by decide) ?_
  refine g_icmp_eq C (pc := 14) 36 dX11_likely_14 (by decide) (fun c14 => ?_) (fun c14 => ?_)
  · have hnb : lostB F b = none := by
      rw [ev8, e5] at c14
      exact (oI_none (fun z hz => by have := lostB_lt hrw z hz; omega)).mp c14
    have hno := lostB_none.mp hnb
    refine g_iload_n C (pc := 36) dX11_likely_36 4 rfl ?_
    refine g_if_le C (pc := 37) 56 dX11_likely_37 (by decide) (fun c37 => ?_) (fun c37 => ?_)
    · have hk0 : k = 0 := by
        have := (nI_leI (a := k) (b := 0) (by omega) (by decide)).mp c37
        omega
      refine g_lconst C (pc := 56) 0 dX11_likely_56 (by decide) ?_
      have hz : val F sd k b = 0 := by
        first | (rw [hk0, val, hnb]) | (rw [hk1]; exact val1_other hrw hbw hno hsd hms)
      refine g_lret C hR (pc := 57) rfl dX11_likely_57 ?_
      refine ⟨rfl, _, rfl, ?_⟩
      exact ⟨by rw [hz]; rfl, fun _ _ => rfl⟩
    · have hk0 : 0 < k := (nI_ltI (a := 0) (b := k) (by decide) (by omega)).mp c37
      refine g_iload_n C (pc := 40) dX11_likely_40 4 rfl ?_
      refine g_iconst C (pc := 41) 1 dX11_likely_41 (by decide) ?_
      refine g_icmp_ne C (pc := 42) 58 dX11_likely_42 (by decide) (fun c42 => ?_) (fun c42 => ?_)
      · refine g_lconst C (pc := 58) 0 dX11_likely_58 (by decide) ?_
        refine g_lstore C (pc := 59) dX11_likely_59 (by decide) (fun v59 => [(5, .long v59), (4, .int v8), (0, .ref r), (1, .int (nI sd)), (2, .ref h), (3, .int (nI k))]) (fun _ => rfl) (fun v59 ev59 => ?_)
        refine g_iconst C (pc := 61) 0 dX11_likely_61 (by decide) ?_
        refine g_istore C (pc := 62) dX11_likely_62 (by decide) (fun v62 => [(7, .int v62), (5, .long v59), (4, .int v8), (0, .ref r), (1, .int (nI sd)), (2, .ref h), (3, .int (nI k))]) (fun _ => rfl) (fun v62 ev62 => ?_)
        have L64 : ∀ (k9 : Nat) (j : Nat) (wz7 : Int32) (wz5 : Int64) (J : Mem) (hw7 : wz7 = nI j) (hj : j ≤ 5) (hJ : ∀ i, ¬ Sc (k - 1) h i → J i = I i) (hS : wz5 = lN (smP (fun w => rOd F w * valW F sd (k - 1) b w) j)), 5 - j < k9 → G κ n ρ 64 [(7, .int wz7), (5, .long wz5), (0, .ref r), (1, .int (nI sd)), (2, .ref h), (3, .int (nI k))] [] J := by
          intro k9
          induction k9 with
          | zero => intro j wz7 wz5 J hw7 hj hJ hS hm64; exact absurd hm64 (Nat.not_lt_zero _)
          | succ k9 ih64 =>
            intro j wz7 wz5 J hw7 hj hJ hS hm64
            subst hw7
            have hrrJ : RR J r F := hrr.cong (fun i hi => hJ _ (by unfold Sc; omega))
            have hbrJ : BR J (h + 1) F b := hbr.cong (fun i hi => hJ _ (by unfold Sc; omega))
            refine g_iload C (pc := 64) dX11_likely_64 0 rfl ?_
            refine g_iconst C (pc := 66) 5 dX11_likely_66 (by decide) ?_
            refine g_icmp_ge C (pc := 67) 107 dX11_likely_67 (by decide) (fun c67 => ?_) (fun c67 => ?_)
            · replace c67 := (nI_leI (a := 5) (b := j) (by decide) (by omega)).mp c67
              refine g_lload C (pc := 107) dX11_likely_107 1 rfl ?_
              refine g_lret C hR (pc := 109) rfl dX11_likely_109 ?_
              refine ⟨rfl, _, rfl, ?_⟩
              have : j = 5 := by omega
              subst this
              exact ⟨by rw [val_pos hnb hk0]; exact hS, hJ⟩
            · replace c67 := (nI_ltI (a := j) (b := 5) (by omega) (by decide)).mp c67
              have ho9 := hrw.2.2.2.2.2.2.1 j c67
              refine g_aload_n C (pc := 70) dX11_likely_70 2 rfl ?_
              refine g_iload C (pc := 71) dX11_likely_71 0 rfl ?_
              refine g_callVI C (pc := 73) mf_X5_oddsOf lk_RX11_162 (c_X5_oddsOf n ρ J r _ hn9 hrf) (by omega) (Nat.le_refl _) rfl (by first | assumption | rfl | omega) rfl (by first | assumption | rfl | omega) (Nat.le_of_ble_eq_true rfl) dX11_likely_73 (fun v73 I73 h73 => ?_)
              obtain ⟨e73, rfl⟩ := h73
              refine g_istore C (pc := 76) dX11_likely_76 (by decide) (fun v76 => [(8, .int v76), (7, .int (nI j)), (5, .long wz5), (0, .ref r), (1, .int (nI sd)), (2, .ref h), (3, .int (nI k))]) (fun _ => rfl) (fun v76 ev76 => ?_)
              have hod : v73 = nI (rOd F j) := by rw [e73, at6 (N := 5) 5 rfl (by decide) c67, hrrJ.2.2.2.2.2 j c67]
              refine g_iload C (pc := 78) dX11_likely_78 0 rfl ?_
              refine g_if_le C (pc := 80) 101 dX11_likely_80 (by decide) (fun c80 => ?_) (fun c80 => ?_)
              · have ho0 : rOd F j = 0 := by
                  rw [ev76, hod] at c80
                  have := (nI_leI (a := rOd F j) (b := 0) (by omega) (by decide)).mp c80
                  omega
                refine g_iinc C (pc := 101) (1) dX11_likely_101 1 rfl (by decide) (by decide) (fun v101 => [(7, .int v101), (8, .int v76), (5, .long wz5), (0, .ref r), (1, .int (nI sd)), (2, .ref h), (3, .int (nI k))]) (fun _ => rfl) (fun v101 ev101 => ?_)
                refine g_goto C (pc := 104) 64 dX11_likely_104 (by decide) ?_
                refine g_lv C [0, 2, 3, 4, 5, 6] rfl (ih64 (j + 1) _ _ _ ?_ ?_ ?_ ?_ (by omega))
                · subst ev101; exact nI_1 _
                · omega
                · first | exact hJ | (intro i hi; exact (g94 i hi).trans (hJ i hi))
                · first | (rw [hS, smP, ho0, Nat.zero_mul, Nat.add_zero]) | (subst ev99; rw [hS, e94, ev76, hod, nI_l (by omega), lN_mul, lN_add, smP])
              · refine g_lload C (pc := 83) dX11_likely_83 2 rfl ?_
                refine g_iload C (pc := 85) dX11_likely_85 0 rfl ?_
                refine g_i2l C (pc := 87) dX11_likely_87 ?_
                refine g_aload_n C (pc := 88) dX11_likely_88 3 rfl ?_
                refine g_iload_n C (pc := 89) dX11_likely_89 4 rfl ?_
                refine g_aload_n C (pc := 90) dX11_likely_90 5 rfl ?_
                refine g_iload C (pc := 91) dX11_likely_91 1 rfl ?_
                refine g_iload_n C (pc := 93) dX11_likely_93 6 rfl ?_
                refine g_callSL C (pc := 94) mf_X11_likelyBy lk_RX11_360 (hLB (by omega) n ρ J r h sd j F b _ _ _ hn9 hrf hch hrrJ hrw hkw hbrJ hbw hsd (by omega) hno hrh (by omega) hk3 rfl rfl rfl) (by omega) (Nat.le_refl _) rfl (Nat.le_of_ble_eq_true rfl) dX11_likely_94 (fun v94 I94 h94 => ?_)
                obtain ⟨e94, f94, g94⟩ := h94
                refine g_lmul C (pc := 97) dX11_likely_97 ?_
                refine g_ladd C (pc := 98) dX11_likely_98 ?_
                refine g_lstore C (pc := 99) dX11_likely_99 (by decide) (fun v99 => [(5, .long v99), (8, .int v76), (7, .int (nI j)), (0, .ref r), (1, .int (nI sd)), (2, .ref h), (3, .int (nI k))]) (fun _ => rfl) (fun v99 ev99 => ?_)
                refine g_iinc C (pc := 101) (1) dX11_likely_101 2 rfl (by decide) (by decide) (fun v101 => [(7, .int v101), (5, .long v99), (8, .int v76), (0, .ref r), (1, .int (nI sd)), (2, .ref h), (3, .int (nI k))]) (fun _ => rfl) (fun v101 ev101 => ?_)
                refine g_goto C (pc := 104) 64 dX11_likely_104 (by decide) ?_
                refine g_lv C [0, 1, 3, 4, 5, 6] rfl (ih64 (j + 1) _ _ _ ?_ ?_ ?_ ?_ (by omega))
                · subst ev101; exact nI_1 _
                · omega
                · first | exact hJ | (intro i hi; exact (g94 i hi).trans (hJ i hi))
                · first | (rw [hS, smP, ho0, Nat.zero_mul, Nat.add_zero]) | (subst ev99; rw [hS, e94, ev76, hod, nI_l (by omega), lN_mul, lN_add, smP])
        refine g_lv C [0, 1, 3, 4, 5, 6] rfl (L64 (_ + 1) 0 _ _ _ ?_ ?_ ?_ ?_ (by first | omega | exact Nat.lt_succ_self _))
        · subst ev62; rfl
        · omega
        · intro i _; rfl
        · subst ev59; rfl
      · have hk1 : k = 1 := (nI_eq (b := 1) (by omega) (by decide)).mp c42
        refine g_aload_n C (pc := 45) dX11_likely_45 3 rfl ?_
        refine g_getR C (pc := 46) fl_RX11_210 (by decide) (by first | assumption | rfl | omega) (by first | assumption | rfl | omega) (by first | assumption | rfl | omega) dX11_likely_46 ?_
        refine g_getI C (pc := 49) fl_RX11_125 (by decide) (by first | assumption | rfl | omega) (by first | assumption | rfl | omega) dX11_likely_49 ?_
        refine g_iload_n C (pc := 52) dX11_likely_52 2 rfl ?_
        refine g_icmp_eq C (pc := 53) 58 dX11_likely_53 (by decide) (fun c53 => ?_) (fun c53 => ?_)
        · refine g_lconst C (pc := 58) 0 dX11_likely_58 (by decide) ?_
          refine g_lstore C (pc := 59) dX11_likely_59 (by decide) (fun v59 => [(5, .long v59), (4, .int v8), (0, .ref r), (1, .int (nI sd)), (2, .ref h), (3, .int (nI k))]) (fun _ => rfl) (fun v59 ev59 => ?_)
          refine g_iconst C (pc := 61) 0 dX11_likely_61 (by decide) ?_
          refine g_istore C (pc := 62) dX11_likely_62 (by decide) (fun v62 => [(7, .int v62), (5, .long v59), (4, .int v8), (0, .ref r), (1, .int (nI sd)), (2, .ref h), (3, .int (nI k))]) (fun _ => rfl) (fun v62 ev62 => ?_)
          have L64 : ∀ (k9 : Nat) (j : Nat) (wz7 : Int32) (wz5 : Int64) (J : Mem) (hw7 : wz7 = nI j) (hj : j ≤ 5) (hJ : ∀ i, ¬ Sc (k - 1) h i → J i = I i) (hS : wz5 = lN (smP (fun w => rOd F w * valW F sd (k - 1) b w) j)), 5 - j < k9 → G κ n ρ 64 [(7, .int wz7), (5, .long wz5), (0, .ref r), (1, .int (nI sd)), (2, .ref h), (3, .int (nI k))] [] J := by
            intro k9
            induction k9 with
            | zero => intro j wz7 wz5 J hw7 hj hJ hS hm64; exact absurd hm64 (Nat.not_lt_zero _)
            | succ k9 ih64 =>
              intro j wz7 wz5 J hw7 hj hJ hS hm64
              subst hw7
              have hrrJ : RR J r F := hrr.cong (fun i hi => hJ _ (by unfold Sc; omega))
              have hbrJ : BR J (h + 1) F b := hbr.cong (fun i hi => hJ _ (by unfold Sc; omega))
              refine g_iload C (pc := 64) dX11_likely_64 0 rfl ?_
              refine g_iconst C (pc := 66) 5 dX11_likely_66 (by decide) ?_
              refine g_icmp_ge C (pc := 67) 107 dX11_likely_67 (by decide) (fun c67 => ?_) (fun c67 => ?_)
              · replace c67 := (nI_leI (a := 5) (b := j) (by decide) (by omega)).mp c67
                refine g_lload C (pc := 107) dX11_likely_107 1 rfl ?_
                refine g_lret C hR (pc := 109) rfl dX11_likely_109 ?_
                refine ⟨rfl, _, rfl, ?_⟩
                have : j = 5 := by omega
                subst this
                exact ⟨by rw [val_pos hnb hk0]; exact hS, hJ⟩
              · replace c67 := (nI_ltI (a := j) (b := 5) (by omega) (by decide)).mp c67
                have ho9 := hrw.2.2.2.2.2.2.1 j c67
                refine g_aload_n C (pc := 70) dX11_likely_70 2 rfl ?_
                refine g_iload C (pc := 71) dX11_likely_71 0 rfl ?_
                refine g_callVI C (pc := 73) mf_X5_oddsOf lk_RX11_162 (c_X5_oddsOf n ρ J r _ hn9 hrf) (by omega) (Nat.le_refl _) rfl (by first | assumption | rfl | omega) rfl (by first | assumption | rfl | omega) (Nat.le_of_ble_eq_true rfl) dX11_likely_73 (fun v73 I73 h73 => ?_)
                obtain ⟨e73, rfl⟩ := h73
                refine g_istore C (pc := 76) dX11_likely_76 (by decide) (fun v76 => [(8, .int v76), (7, .int (nI j)), (5, .long wz5), (0, .ref r), (1, .int (nI sd)), (2, .ref h), (3, .int (nI k))]) (fun _ => rfl) (fun v76 ev76 => ?_)
                have hod : v73 = nI (rOd F j) := by rw [e73, at6 (N := 5) 5 rfl (by decide) c67, hrrJ.2.2.2.2.2 j c67]
                refine g_iload C (pc := 78) dX11_likely_78 0 rfl ?_
                refine g_if_le C (pc := 80) 101 dX11_likely_80 (by decide) (fun c80 => ?_) (fun c80 => ?_)
                · have ho0 : rOd F j = 0 := by
                    rw [ev76, hod] at c80
                    have := (nI_leI (a := rOd F j) (b := 0) (by omega) (by decide)).mp c80
                    omega
                  refine g_iinc C (pc := 101) (1) dX11_likely_101 1 rfl (by decide) (by decide) (fun v101 => [(7, .int v101), (8, .int v76), (5, .long wz5), (0, .ref r), (1, .int (nI sd)), (2, .ref h), (3, .int (nI k))]) (fun _ => rfl) (fun v101 ev101 => ?_)
                  refine g_goto C (pc := 104) 64 dX11_likely_104 (by decide) ?_
                  refine g_lv C [0, 2, 3, 4, 5, 6] rfl (ih64 (j + 1) _ _ _ ?_ ?_ ?_ ?_ (by omega))
                  · subst ev101; exact nI_1 _
                  · omega
                  · first | exact hJ | (intro i hi; exact (g94 i hi).trans (hJ i hi))
                  · first | (rw [hS, smP, ho0, Nat.zero_mul, Nat.add_zero]) | (subst ev99; rw [hS, e94, ev76, hod, nI_l (by omega), lN_mul, lN_add, smP])
                · refine g_lload C (pc := 83) dX11_likely_83 2 rfl ?_
                  refine g_iload C (pc := 85) dX11_likely_85 0 rfl ?_
                  refine g_i2l C (pc := 87) dX11_likely_87 ?_
                  refine g_aload_n C (pc := 88) dX11_likely_88 3 rfl ?_
                  refine g_iload_n C (pc := 89) dX11_likely_89 4 rfl ?_
                  refine g_aload_n C (pc := 90) dX11_likely_90 5 rfl ?_
                  refine g_iload C (pc := 91) dX11_likely_91 1 rfl ?_
                  refine g_iload_n C (pc := 93) dX11_likely_93 6 rfl ?_
                  refine g_callSL C (pc := 94) mf_X11_likelyBy lk_RX11_360 (hLB (by omega) n ρ J r h sd j F b _ _ _ hn9 hrf hch hrrJ hrw hkw hbrJ hbw hsd (by omega) hno hrh (by omega) hk3 rfl rfl rfl) (by omega) (Nat.le_refl _) rfl (Nat.le_of_ble_eq_true rfl) dX11_likely_94 (fun v94 I94 h94 => ?_)
                  obtain ⟨e94, f94, g94⟩ := h94
                  refine g_lmul C (pc := 97) dX11_likely_97 ?_
                  refine g_ladd C (pc := 98) dX11_likely_98 ?_
                  refine g_lstore C (pc := 99) dX11_likely_99 (by decide) (fun v99 => [(5, .long v99), (8, .int v76), (7, .int (nI j)), (0, .ref r), (1, .int (nI sd)), (2, .ref h), (3, .int (nI k))]) (fun _ => rfl) (fun v99 ev99 => ?_)
                  refine g_iinc C (pc := 101) (1) dX11_likely_101 2 rfl (by decide) (by decide) (fun v101 => [(7, .int v101), (5, .long v99), (8, .int v76), (0, .ref r), (1, .int (nI sd)), (2, .ref h), (3, .int (nI k))]) (fun _ => rfl) (fun v101 ev101 => ?_)
                  refine g_goto C (pc := 104) 64 dX11_likely_104 (by decide) ?_
                  refine g_lv C [0, 1, 3, 4, 5, 6] rfl (ih64 (j + 1) _ _ _ ?_ ?_ ?_ ?_ (by omega))
                  · subst ev101; exact nI_1 _
                  · omega
                  · first | exact hJ | (intro i hi; exact (g94 i hi).trans (hJ i hi))
                  · first | (rw [hS, smP, ho0, Nat.zero_mul, Nat.add_zero]) | (subst ev99; rw [hS, e94, ev76, hod, nI_l (by omega), lN_mul, lN_add, smP])
          refine g_lv C [0, 1, 3, 4, 5, 6] rfl (L64 (_ + 1) 0 _ _ _ ?_ ?_ ?_ ?_ (by first | omega | exact Nat.lt_succ_self _))
          · subst ev62; rfl
          · omega
          · intro i _; rfl
          · subst ev59; rfl
        · have hms : bM b ≠ sd := fun h9 => c53 (by rw [hmv, h9])
          refine g_lconst C (pc := 56) 0 dX11_likely_56 (by decide) ?_
          have hz : val F sd k b = 0 := by
            first | (rw [hk0, val, hnb]) | (rw [hk1]; exact val1_other hrw hbw hno hsd hms)
          refine g_lret C hR (pc := 57) rfl dX11_likely_57 ?_
          refine ⟨rfl, _, rfl, ?_⟩
          exact ⟨by rw [hz]; rfl, fun _ _ => rfl⟩
  · obtain ⟨l, hl⟩ : ∃ l, lostB F b = some l := by
      cases h9 : lostB F b with
      | none => exact absurd (by rw [ev8, e5, h9]; rfl) c14
      | some l => exact ⟨l, rfl⟩
    have hl2 := lostB_lt hrw l hl
    refine g_iload C (pc := 17) dX11_likely_17 0 rfl ?_
    refine g_iload_n C (pc := 19) dX11_likely_19 2 rfl ?_
    refine g_icmp_ne C (pc := 20) 27 dX11_likely_20 (by decide) (fun c20 => ?_) (fun c20 => ?_)
    · have hne : l ≠ sd := fun h9 => c20 (by rw [ev8, e5, hl, h9]; rfl)
      refine g_aload_n C (pc := 27) dX11_likely_27 1 rfl ?_
      refine g_callVI C (pc := 28) mf_X5_allOdds lk_RX11_180 (c_X5_allOdds n ρ I r F hn9 hrf hrr) (by omega) (Nat.le_refl _) rfl (by first | assumption | rfl | omega) rfl (by first | assumption | rfl | omega) (Nat.le_of_ble_eq_true rfl) dX11_likely_28 (fun v28 I28 h28 => ?_)
      obtain ⟨e28, rfl⟩ := h28
      refine g_iload_n C (pc := 31) dX11_likely_31 4 rfl ?_
      refine g_callSL C (pc := 32) mf_X11_power lk_RX11_218 (c_X11_power n ρ I (allO F) k _ _ hn9 (by omega) (by omega) e28 rfl) (by omega) (Nat.le_refl _) rfl (Nat.le_of_ble_eq_true rfl) dX11_likely_32 (fun v32 I32 h32 => ?_)
      obtain ⟨e32, rfl⟩ := h32
      refine g_lret C hR (pc := 35) rfl dX11_likely_35 ?_
      refine ⟨rfl, _, rfl, ?_⟩
      first | (refine ⟨?_, fun _ _ => rfl⟩; rw [val_over hl, if_pos heq]; rfl) | (refine ⟨?_, fun _ _ => rfl⟩; rw [val_over hl, if_neg hne]; exact e32)
    · have heq : l = sd := by
        rw [ev8, e5, hl] at c20
        exact (nI_eq (by omega) (by omega)).mp c20
      refine g_lconst C (pc := 23) 0 dX11_likely_23 (by decide) ?_
      refine g_goto C (pc := 24) 35 dX11_likely_24 (by decide) ?_
      refine g_lret C hR (pc := 35) rfl dX11_likely_35 ?_
      refine ⟨rfl, _, rfl, ?_⟩
      first | (refine ⟨?_, fun _ _ => rfl⟩; rw [val_over hl, if_pos heq]; rfl) | (refine ⟨?_, fun _ _ => rfl⟩; rw [val_over hl, if_neg hne]; exact e32)
