theorem Ch.nx {n : Nat} {ρ : Rho} {k h : Nat} (hc : Ch n ρ k h) (hk : 1 ≤ k) : ρ h 2 = some (h - 6) := by
  cases k with
  | zero => omega
  | succ k => exact hc.2.2.1
theorem Ch.go {n : Nat} {ρ : Rho} {k k0 h : Nat} (hc : Ch n ρ k h) (hk : k = k0 + 1) : Sp n ρ (h - 6) ∧ Ch n ρ (k - 1) (h - 6) := by
  subst hk
  exact ⟨hc.2.2.2.sp, hc.2.2.2⟩
theorem c_X9_chooseKing_E (n : Nat) (ρ : Rho) (I : Mem) (h r kp kq : Nat) (F : RT) (b : BT) (L : List Nat) (x : Int32) (hn9 : n ≤ 999) (hsp : Sp n ρ h) (hrf : Rf n ρ r) (hrr : RR I r F) (hrw : RW F) (hbr : BR I (h + 1) F b) (hbw : BW F b) (hL : L.length ≤ 24) (hLm : ∀ (k m : Nat), L[k]? = some m → I (h + 5) k = nI m) (hL1 : ∀ (k m : Nat), L[k]? = some m → m < 1000) (hkp : kingB F (1 - bM b) = some kp) (hkq : bP b kp = some kq) (hx : x = nI L.length) : MI yX9_chooseKing cX9_chooseKing 5 (some .boolean) 2 [.ref h, .ref r, .int x] n ρ I (fun v I1 => (∃ k, k < L.length ∧ v = 1 ∧ (∃ m, L[k]? = some m ∧ m % 100 = kq) ∧ (∀ (q : Nat), q < k → ∀ (m : Nat), L[q]? = some m → m % 100 ≠ kq) ∧ wr I h 4 (nI k) = I1) ∨ (v = 0 ∧ (∀ (q m : Nat), L[q]? = some m → m % 100 ≠ kq) ∧ I = I1)) := by
  subst hx
  exact c_X9_chooseKing n ρ I h r kp kq F b L hn9 hsp hrf hrr hrw hbr hbw hL hLm hL1 hkp hkq
set_option maxHeartbeats 400000 in
theorem c_X11_likelyBy_01 (n : Nat) (ρ : Rho) (I : Mem) (r h sd w k : Nat) (F : RT) (b : BT) (xs xw xk : Int32) (hn9 : n ≤ 999) (hrf : Rf n ρ r) (hch : Ch n ρ k h) (hrr : RR I r F) (hrw : RW F) (hkw : KW F) (hbr : BR I (h + 1) F b) (hbw : BW F b) (hsd : sd < 2) (hwd : w < 5) (hno : lostP F b = none) (hrh : r + 3 + 6 * k < h) (hk1l : 1 ≤ k) (hk3 : k ≤ 3) (hxs : xs = nI sd) (hxw : xw = nI w) (hxk : xk = nI k) (hL : 1 < k → LikC (k - 1)) (hwn : bM b = sd) (hlen : 0 < (mvs F b w).length) : ML yX11_likelyBy cX11_likelyBy 14 (some .long) (9 + 2 * k) [.ref r, .int xs, .ref h, .int xw, .int xk] n ρ I (fun v I1 => v = lN (valW F sd (k - 1) b w) ∧ I1 h 4 = oI (chW F sd (k - 1) b w) ∧ ∀ i, ¬ Sc (k - 1) h i → I1 i = I i) := by
  refine MG.of (by decide +kernel) (Nat.le_of_ble_eq_true rfl) hn9 ?_
  intro κ C hR
  show G κ n ρ 0 [(0, .ref r), (1, .int xs), (2, .ref h), (3, .int xw), (4, .int xk)] [] I
  subst hxs hxw hxk
  have hsp := hch.sp
  obtain ⟨hp0, hpn, hp1, hp2, hp3, hp4⟩ := id hsp
  obtain ⟨hs0, hs1, hs2, hs3, hsn, hr0, hr1, hr2⟩ := id hp4
  obtain ⟨hq0, hq1, hq2, hq3, hqn, ht0, ht1, ht2⟩ := id hrf
  have hnp : rN F ≤ 6 := hrw.2.2.2.2.1
  have hN := hrr.2.2.1
  have hAO := allO_le hrw
  have hM2 := hbw.1
  have hmv := hbr.1
  have hnx := hch.nx hk1l
  have hml := mvs_len (F := F) (b := b) (w := w) hnp
  have hwB : (bM b == sd) = true := by rw [hwn]; exact beq_self_eq_true sd
  obtain ⟨kp, hkp⟩ := hkw.1 (1 - bM b) (by omega)
  obtain ⟨kq, hkq⟩ := lost_none hno kp (kingB_at hkp).1 (kingB_at hkp).2.1
  have hbv : ∀ i a ix, bstK true (valF F sd (k - 1) b w) i = some (a, ix) → a ≤ pw (allO F) (k - 1) := by
    intro i a ix h9
    cases i with
    | zero => rw [bstK] at h9; cases h9
    | succ i =>
      obtain ⟨a2, i2, e1, -, e3⟩ := bstK_some (wants := true) (f := valF F sd (k - 1) b w) (Nat.succ_pos i)
      rw [h9] at e1; cases e1; rw [← e3]; exact val_le (k - 1) _
  refine g_aload_n C (pc := 0) dX11_likelyBy_0 2 rfl ?_
  refine g_getR C (pc := 1) fl_RX11_210 (by decide) (by first | assumption | rfl | omega) (by first | assumption | rfl | omega) (by first | assumption | rfl | omega) dX11_likelyBy_1 ?_
  refine g_aload_n C (pc := 4) dX11_likelyBy_4 0 rfl ?_
  refine g_iload_n C (pc := 5) dX11_likelyBy_5 3 rfl ?_
  refine g_aload_n C (pc := 6) dX11_likelyBy_6 2 rfl ?_
  refine g_getR C (pc := 7) fl_RX11_296 (by decide) (by first | assumption | rfl | omega) (by first | assumption | rfl | omega) (by first | assumption | rfl | omega) dX11_likelyBy_7 ?_
  refine g_callVI C (pc := 10) mf_X8_listMoves lk_RX11_300 (c_X8_listMoves n ρ I (h + 1) r w (h + 5) F b hn9 hp4 hrf hrr hrw hbr hbw hwd hp3 (by omega) (fun i hi => ⟨by omega, by omega⟩)) (by omega) (Nat.le_refl _) rfl (by first | assumption | rfl | omega) rfl (by first | assumption | rfl | omega) (Nat.le_of_ble_eq_true rfl) dX11_likelyBy_10 (fun v10 I10 h10 => ?_)
  obtain ⟨e10, f10, g10⟩ := h10
  have hm10 : I10 (h + 1) 3 = nI (bM b) := by rw [g10 _ (by omega)]; exact hmv
  have hcnt : cntM F b w = (mvs F b w).length := by unfold cntM; rw [if_neg (by omega)]
  refine g_istore C (pc := 13) dX11_likelyBy_13 (by decide) (fun v13 => [(5, .int v13), (0, .ref r), (1, .int (nI sd)), (2, .ref h), (3, .int (nI w)), (4, .int (nI k))]) (fun _ => rfl) (fun v13 ev13 => ?_)
  refine g_aload_n C (pc := 15) dX11_likelyBy_15 3 rfl ?_
  refine g_iload C (pc := 16) dX11_likelyBy_16 0 rfl ?_
  refine g_if_le C (pc := 18) 25 dX11_likelyBy_18 (by decide) (fun c18 => ?_) (fun c18 => ?_)
  · exact absurd c18 (by rw [ev13, e10]; exact nI_nle (by omega) (by omega))
  · refine g_iconst C (pc := 21) 0 dX11_likelyBy_21 (by decide) ?_
    refine g_goto C (pc := 22) 27 dX11_likelyBy_22 (by decide) ?_
    refine g_putI C (pc := 27) fl_RX11_234 (by decide) fp_8_4 (Or.inl rfl) ⟨rfl, rfl⟩ (by first | assumption | rfl | omega) (by first | assumption | rfl | omega) hn9 dX11_likelyBy_27 ?_
    have hrr1 : RR (wr I10 h 4 0) r F := hrr.cong (fun i hi => by rw [wr_n (by omega), g10 _ (by omega)])
    have hbr1 : BR (wr I10 h 4 0) (h + 1) F b := hbr.cong (fun i hi => by rw [wr_n (by omega), g10 _ (by omega)])
    have hfr1 : ∀ i, ¬ Sc (k - 1) h i → wr I10 h 4 0 i = I i := by
      intro i hi
      rw [wr_n (fun e9 => hi (by rw [e9]; unfold Sc; omega))]; exact g10 i (fun e9 => hi (by rw [e9]; unfold Sc; omega))
    refine g_aload_n C (pc := 30) dX11_likelyBy_30 3 rfl ?_
    refine g_getR C (pc := 31) fl_RX11_210 (by decide) (by first | assumption | rfl | omega) (by first | assumption | rfl | omega) (by first | assumption | rfl | omega) dX11_likelyBy_31 ?_
    refine g_getI C (pc := 34) fl_RX11_125 (by decide) (by first | assumption | rfl | omega) (by first | assumption | rfl | omega) dX11_likelyBy_34 ?_
    refine g_iload_n C (pc := 37) dX11_likelyBy_37 2 rfl ?_
    refine g_icmp_ne C (pc := 38) 45 dX11_likelyBy_38 (by decide) (fun c38 => ?_) (fun c38 => ?_)
    · exact absurd (hbr1.1.trans (by rw [hwn])) c38
    · refine g_iconst C (pc := 41) 1 dX11_likelyBy_41 (by decide) ?_
      refine g_goto C (pc := 42) 46 dX11_likelyBy_42 (by decide) ?_
      refine g_istore C (pc := 46) dX11_likelyBy_46 (by decide) (fun v46 => [(6, .int v46), (5, .int v13), (0, .ref r), (1, .int (nI sd)), (2, .ref h), (3, .int (nI w)), (4, .int (nI k))]) (fun _ => rfl) (fun v46 ev46 => ?_)
      refine g_aload_n C (pc := 48) dX11_likelyBy_48 4 rfl ?_
      refine g_getR C (pc := 49) fl_RX11_371 (by decide) (by first | assumption | rfl | omega) (by first | assumption | rfl | omega) hnx dX11_likelyBy_49 ?_
      refine g_ifnull C (pc := 52) dX11_likelyBy_52 ?_
      refine g_iload C (pc := 55) dX11_likelyBy_55 6 rfl ?_
      refine g_iconst C (pc := 57) 1 dX11_likelyBy_57 (by decide) ?_
      refine g_icmp_gt C (pc := 58) 82 dX11_likelyBy_58 (by decide) (fun c58 => ?_) (fun c58 => ?_)
      · have hk2 : 1 < k := (nI_ltI (a := 1) (b := k) (by decide) (by omega)).mp c58
        obtain ⟨k0, hkk⟩ : ∃ k0, k = k0 + 1 := ⟨k - 1, by omega⟩
        have hgo := hch.go hkk
        refine g_iload C (pc := 82) dX11_likelyBy_82 0 rfl ?_
        refine g_if_eq C (pc := 84) 101 dX11_likelyBy_84 (by decide) (fun c84 => absurd c84 (by first | decide | (subst_vars; decide))) (fun c84 => ?_)
        refine g_aload_n C (pc := 87) dX11_likelyBy_87 2 rfl ?_
        refine g_callVI C (pc := 88) mf_X5_allOdds lk_RX11_180 (c_X5_allOdds n ρ _ r F hn9 hrf hrr1) (by omega) (Nat.le_refl _) rfl (by first | assumption | rfl | omega) rfl (by first | assumption | rfl | omega) (Nat.le_of_ble_eq_true rfl) dX11_likelyBy_88 (fun v88 I88 h88 => ?_)
        obtain ⟨e88, rfl⟩ := h88
        refine g_iload C (pc := 91) dX11_likelyBy_91 6 rfl ?_
        refine g_iconst C (pc := 93) 1 dX11_likelyBy_93 (by decide) ?_
        refine g_isub C (pc := 94) dX11_likelyBy_94 ?_
        refine g_callSL C (pc := 95) mf_X11_power lk_RX11_218 (c_X11_power n ρ _ (allO F) (k - 1) _ _ hn9 (by omega) (by omega) e88 (pk_sub (b := 1) (by omega))) (by omega) (Nat.le_refl _) rfl (Nat.le_of_ble_eq_true rfl) dX11_likelyBy_95 (fun v95 I95 h95 => ?_)
        obtain ⟨e95, rfl⟩ := h95
        refine g_goto C (pc := 98) 102 dX11_likelyBy_98 (by decide) ?_
        refine g_lstore C (pc := 102) dX11_likelyBy_102 (by decide) (fun v102 => [(7, .long v102), (6, .int v46), (5, .int v13), (0, .ref r), (1, .int (nI sd)), (2, .ref h), (3, .int (nI w)), (4, .int (nI k))]) (fun _ => rfl) (fun v102 ev102 => ?_)
        have hut : v102 = lN (pw (allO F) (k - 1)) := by subst ev102; exact e95
        refine g_ldc2 C (pc := 104) _ gk_RX11_208 dX11_likelyBy_104 ?_
        refine g_lstore C (pc := 107) dX11_likelyBy_107 (by decide) (fun v107 => [(9, .long v107), (7, .long v102), (6, .int v46), (5, .int v13), (0, .ref r), (1, .int (nI sd)), (2, .ref h), (3, .int (nI w)), (4, .int (nI k))]) (fun _ => rfl) (fun v107 ev107 => ?_)
        refine g_iconst C (pc := 109) 0 dX11_likelyBy_109 (by decide) ?_
        refine g_istore C (pc := 110) dX11_likelyBy_110 (by decide) (fun v110 => [(11, .int v110), (9, .long v107), (7, .long v102), (6, .int v46), (5, .int v13), (0, .ref r), (1, .int (nI sd)), (2, .ref h), (3, .int (nI w)), (4, .int (nI k))]) (fun _ => rfl) (fun v110 ev110 => ?_)
        have L112 : ∀ (k9 : Nat) (i0 : Nat) (wz11 : Int32) (wz9 : Int64) (J : Mem) (hw11 : wz11 = nI i0) (hi0 : i0 ≤ cntM F b w) (hJ : ∀ i, ¬ Sc (k - 1) h i → J i = I i) (hC : ∀ (q m : Nat), (mvs F b w)[q]? = some m → J (h + 5) q = nI m) (hB : wz9 = lO ((bstK true (valF F sd (k - 1) b w) i0).map (fun q => q.1))) (hX : J h 4 = idxI false (bstK true (valF F sd (k - 1) b w) i0)), cntM F b w - i0 < k9 → G κ n ρ 112 [(11, .int wz11), (9, .long wz9), (5, .int v13), (6, .int v46), (7, .long v102), (0, .ref r), (1, .int (nI sd)), (2, .ref h), (3, .int (nI w)), (4, .int (nI k))] [] J := by
          intro k9
          induction k9 with
          | zero => intro i0 wz11 wz9 J hw11 hi0 hJ hC hB hX hm112; exact absurd hm112 (Nat.not_lt_zero _)
          | succ k9 ih112 =>
            intro i0 wz11 wz9 J hw11 hi0 hJ hC hB hX hm112
            subst hw11
            have hrrJ : RR J r F := hrr.cong (fun i hi => hJ _ (by unfold Sc; omega))
            have hbrJ : BR J (h + 1) F b := hbr.cong (fun i hi => hJ _ (by unfold Sc; omega))
            have hbk31 : ∀ a, (bstK true (valF F sd (k - 1) b w) i0).map (fun q => q.1) = some a → a < 2 ^ 31 := by
              intro a ha
              obtain ⟨⟨a2, ix⟩, h1, h2⟩ := Option.map_eq_some_iff.mp ha
              have h2 : a2 = a := h2
              subst h2
              exact Nat.lt_of_le_of_lt (hbv i0 a2 ix h1) (by have := pw3 hAO (show k - 1 ≤ 3 by omega); omega)
            refine g_iload C (pc := 112) dX11_likelyBy_112 0 rfl ?_
            refine g_iload C (pc := 114) dX11_likelyBy_114 2 rfl ?_
            refine g_icmp_lt C (pc := 116) 124 dX11_likelyBy_116 (by decide) (fun c116 => ?_) (fun c116 => ?_)
            · have hlt : i0 < cntM F b w := by
                rw [ev13, e10] at c116
                have := (nI_ltI (by omega) (by omega)).mp c116
                omega
              refine g_lload C (pc := 124) dX11_likelyBy_124 1 rfl ?_
              refine g_lload C (pc := 126) dX11_likelyBy_126 4 rfl ?_
              refine g_lcmp C (pc := 128) dX11_likelyBy_128 ?_
              refine g_if_eq C (pc := 129) 224 dX11_likelyBy_129 (by decide) (fun c129 => ?_) (fun c129 => ?_)
              · have hstop : (bstK true (valF F sd (k - 1) b w) i0).map (fun q => q.1) = some (pw (allO F) (k - 1)) := by
                  rw [hB, hut] at c129
                  exact (cmp_best hbk31 (by have := pw3 hAO (show k - 1 ≤ 3 by omega); omega)).mp c129
                refine g_lload C (pc := 224) dX11_likelyBy_224 1 rfl ?_
                refine g_lret C hR (pc := 226) rfl dX11_likelyBy_226 ?_
                refine ⟨rfl, _, rfl, ?_⟩
                have hbE : ∃ a ix, bstK true (valF F sd (k - 1) b w) (cntM F b w) = some (a, ix) ∧ wz9 = lN a ∧ J h 4 = idxI false (some (a, ix)) := by
                  first
                  | (obtain ⟨a, ix, h1, -, -⟩ := bstK_some (wants := true) (f := (valF F sd (k - 1) b w)) (cntM_pos (F := F) (b := b) (w := w))
                     exact ⟨a, ix, h1, by rw [hB, hend, h1]; rfl, by rw [hX, hend, h1]⟩)
                  | (obtain ⟨⟨a, ix⟩, h1, h2⟩ := Option.map_eq_some_iff.mp hstop
                     have h2 : a = pw (allO F) (k - 1) := h2
                     exact ⟨a, ix, bst_end h1 hi0 (fun j => by rw [h2]; rw [if_pos rfl]; exact val_le (k - 1) _), by rw [hB, h1]; rfl, by rw [hX, h1]⟩)
                obtain ⟨a, ix, h1, h2, h3⟩ := hbE
                refine ⟨?_, ?_, hJ⟩
                · unfold valW valB; rw [hwB, h1]; exact h2
                · rw [h3]; unfold chW valB; rw [hwB, h1]
                  rw [if_neg (by omega)]; rfl
              · refine g_aload_n C (pc := 132) dX11_likelyBy_132 7 rfl ?_
                refine g_aload_n C (pc := 133) dX11_likelyBy_133 5 rfl ?_
                refine g_iload_n C (pc := 134) dX11_likelyBy_134 8 rfl ?_
                refine g_iload C (pc := 135) dX11_likelyBy_135 2 rfl ?_
                refine g_if_le C (pc := 137) 149 dX11_likelyBy_137 (by decide) (fun c137 => ?_) (fun c137 => ?_)
                · exact absurd c137 (by rw [ev13, e10]; exact nI_nle (by omega) (by omega))
                · refine g_aload_n C (pc := 140) dX11_likelyBy_140 7 rfl ?_
                  refine g_iload C (pc := 141) dX11_likelyBy_141 0 rfl ?_
                  refine g_callVI C (pc := 143) mf_X9_moveAt lk_RX11_193 (c_X9_moveAt n ρ J h i0 _ hn9 hsp (by omega) rfl) (by omega) (Nat.le_refl _) rfl (by first | assumption | rfl | omega) rfl (by first | assumption | rfl | omega) (Nat.le_of_ble_eq_true rfl) dX11_likelyBy_143 (fun v143 I143 h143 => ?_)
                  obtain ⟨e143, rfl⟩ := h143
                  refine g_goto C (pc := 146) 151 dX11_likelyBy_146 (by decide) ?_
                  refine g_callVV C (pc := 151) mf_X9_tread lk_RX11_378 (c_X9_tread n ρ J h (h - 6) r w F b ((mvs F b w)[i0]?) _ hn9 hsp hnx hgo.1 (fun i k h1 h2 => by omega) (fun i k h1 h2 => by omega) hrf hrrJ hrw hbrJ hbw hwd (fun m hm => ⟨(mvs_ok hm).1, (mvs_ok hm).2.1⟩) (by rw [e143, List.getElem?_eq_getElem (by omega), hC i0 _ (List.getElem?_eq_getElem (by omega))]; rfl)) (by omega) (Nat.le_refl _) rfl (by first | assumption | rfl | omega) rfl (by first | assumption | rfl | omega) (Nat.le_of_ble_eq_true rfl) dX11_likelyBy_151 (fun I151 h151 => ?_)
                  obtain ⟨h151, g151⟩ := h151
                  have hrr4 : RR I151 r F := hrrJ.cong (fun i hi => g151 _ (by omega) (by omega) (by omega) (by omega))
                  refine g_aload_n C (pc := 154) dX11_likelyBy_154 5 rfl ?_
                  refine g_iload_n C (pc := 155) dX11_likelyBy_155 6 rfl ?_
                  refine g_aload_n C (pc := 156) dX11_likelyBy_156 7 rfl ?_
                  refine g_getR C (pc := 157) fl_RX11_371 (by decide) (by first | assumption | rfl | omega) (by first | assumption | rfl | omega) (by first | assumption | rfl | omega) dX11_likelyBy_157 ?_
                  refine g_iload C (pc := 160) dX11_likelyBy_160 9 rfl ?_
                  refine g_iconst C (pc := 162) 1 dX11_likelyBy_162 (by decide) ?_
                  refine g_isub C (pc := 163) dX11_likelyBy_163 ?_
                  refine g_callSL C (pc := 164) mf_X11_likely lk_RX11_214 (hL hk2 n ρ I151 r (h - 6) sd F _ _ _ hn9 hrf hgo.2 hrr4 hrw hkw (by rw [show h - 6 + 1 = h - 6 + 1 from rfl]; exact h151) (playB_W hbw (fun m hm => ⟨(mvs_ok hm).1, (mvs_ok hm).2.1⟩)) hsd (by omega) (by omega) rfl (pk_sub (b := 1) (by omega))) (by omega) (Nat.le_refl _) rfl (Nat.le_of_ble_eq_true rfl) dX11_likelyBy_164 (fun v164 I164 h164 => ?_)
                  obtain ⟨e164, g164⟩ := h164
                  have hJ4 : ∀ i, ¬ Sc (k - 1) h i → I164 i = I i := fun i hi => (g164 i (fun e9 => hi (by unfold Sc at e9 ⊢; omega))).trans ((g151 i (fun e9 => hi (by unfold Sc; omega)) (fun e9 => hi (by unfold Sc; omega)) (fun e9 => hi (by unfold Sc; omega)) (fun e9 => hi (by unfold Sc; omega))).trans (hJ i hi))
                  have hC4 : ∀ (q m : Nat), (mvs F b w)[q]? = some m → I164 (h + 5) q = nI m := fun q m hm => by
                    rw [g164 _ (by unfold Sc; omega), g151 _ (by omega) (by omega) (by omega) (by omega)]; exact hC q m hm
                  have hX4 : I164 h 4 = J h 4 := by rw [g164 _ (by unfold Sc; omega), g151 _ (by omega) (by omega) (by omega) (by omega)]
                  refine g_lstore C (pc := 167) dX11_likelyBy_167 (by decide) (fun v167 => [(12, .long v167), (11, .int (nI i0)), (9, .long wz9), (5, .int v13), (6, .int v46), (7, .long v102), (0, .ref r), (1, .int (nI sd)), (2, .ref h), (3, .int (nI w)), (4, .int (nI k))]) (fun _ => rfl) (fun v167 ev167 => ?_)
                  refine g_lload C (pc := 169) dX11_likelyBy_169 2 rfl ?_
                  refine g_lconst C (pc := 171) 0 dX11_likelyBy_171 (by decide) ?_
                  refine g_lcmp C (pc := 172) dX11_likelyBy_172 ?_
                  refine g_if_lt C (pc := 173) 203 dX11_likelyBy_173 (by decide) (fun c173 => ?_) (fun c173 => ?_)
                  · have hnn : (bstK true (valF F sd (k - 1) b w) i0).map (fun q => q.1) = none := (cmp_best0 hbk31).mp (by rw [hB] at c173; exact c173)
                    have hi00 : i0 = 0 := bstK_fst_none hnn
                    have hstep : bstK true (valF F sd (k - 1) b w) (i0 + 1) = some (valF F sd (k - 1) b w i0, i0) := by rw [hi00, bstK, bstK]
                    refine g_lload C (pc := 203) dX11_likelyBy_203 0 rfl ?_
                    refine g_lstore C (pc := 205) dX11_likelyBy_205 (by decide) (fun v205 => [(9, .long v205), (12, .long v167), (11, .int (nI i0)), (5, .int v13), (6, .int v46), (7, .long v102), (0, .ref r), (1, .int (nI sd)), (2, .ref h), (3, .int (nI w)), (4, .int (nI k))]) (fun _ => rfl) (fun v205 ev205 => ?_)
                    refine g_iload C (pc := 207) dX11_likelyBy_207 3 rfl ?_
                    refine g_if_le C (pc := 209) 218 dX11_likelyBy_209 (by decide) (fun c209 => ?_) (fun c209 => ?_)
                    · exact absurd c209 (by rw [ev13, e10]; exact nI_nle (by omega) (by omega))
                    · refine g_aload_n C (pc := 212) dX11_likelyBy_212 8 rfl ?_
                      refine g_iload C (pc := 213) dX11_likelyBy_213 2 rfl ?_
                      refine g_putI C (pc := 215) fl_RX11_234 (by decide) fp_8_4 (Or.inl rfl) ⟨rfl, rfl⟩ (by first | assumption | rfl | omega) (by first | assumption | rfl | omega) hn9 dX11_likelyBy_215 ?_
                      refine g_iinc C (pc := 218) (1) dX11_likelyBy_218 2 rfl (by decide) (by decide) (fun v218 => [(11, .int v218), (9, .long v205), (12, .long v167), (5, .int v13), (6, .int v46), (7, .long v102), (0, .ref r), (1, .int (nI sd)), (2, .ref h), (3, .int (nI w)), (4, .int (nI k))]) (fun _ => rfl) (fun v218 ev218 => ?_)
                      refine g_goto C (pc := 221) 112 dX11_likelyBy_221 (by decide) ?_
                      refine g_lv C [0, 1, 3, 4, 5, 6, 7, 8, 9, 10] rfl (ih112 (i0 + 1) _ _ _ ?_ ?_ ?_ ?_ ?_ ?_ (by omega))
                      · subst ev218; exact nI_1 _
                      · omega
                      · first | (intro i hi; exact (hJ4 i hi)) | (intro i hi; rw [wr_n (fun e9 => hi (by rw [e9]; unfold Sc; omega))]; exact hJ4 i hi)
                      · first | exact hC4 | (intro q m hm; rw [wr_n (by omega)]; exact hC4 q m hm)
                      · first | (rw [ev205, ev167, e164, hstep]; rfl) | (rw [hB, hstep])
                      · first | (rw [hX4, hX, hstep]; rfl) | (rw [hX4, hX, hstep]; done) | (rw [wr_ss, hstep]; rfl)
                  · obtain ⟨a, ix, hs6⟩ : ∃ a ix, (bstK true (valF F sd (k - 1) b w) i0) = some (a, ix) := by
                      cases h9 : (bstK true (valF F sd (k - 1) b w) i0) with
                      | none => exact absurd ((cmp_best0 hbk31).mpr (by rw [h9]; rfl)) (by rw [hB] at c173; exact Int32.not_lt.mpr c173)
                      | some q => exact ⟨q.1, q.2, rfl⟩
                    have ha31 : a < 2 ^ 31 := hbk31 a (by rw [hs6]; rfl)
                    have hv6 : valF F sd (k - 1) b w i0 < 2 ^ 31 := Nat.lt_of_le_of_lt (val_le (k - 1) _) (by have := pw3 hAO (show k - 1 ≤ 3 by omega); omega)
                    refine g_iload C (pc := 176) dX11_likelyBy_176 4 rfl ?_
                    refine g_if_eq C (pc := 178) 192 dX11_likelyBy_178 (by decide) (fun c178 => absurd c178 (by first | decide | (subst_vars; decide))) (fun c178 => ?_)
                    refine g_lload C (pc := 181) dX11_likelyBy_181 0 rfl ?_
                    refine g_lload C (pc := 183) dX11_likelyBy_183 2 rfl ?_
                    refine g_lcmp C (pc := 185) dX11_likelyBy_185 ?_
                    refine g_if_gt C (pc := 186) 203 dX11_likelyBy_186 (by decide) (fun c186 => ?_) (fun c186 => ?_)
                    · have hcc : a < valF F sd (k - 1) b w i0 := by
                        rw [ev167, e164, hB, hs6] at c186
                        exact (cmp_gt hv6 ha31).mp c186
                      have hstep : bstK true (valF F sd (k - 1) b w) (i0 + 1) = some (valF F sd (k - 1) b w i0, i0) := by
                        rw [bstK, hs6]
                        show (if (if true = true then a < valF F sd (k - 1) b w i0 else valF F sd (k - 1) b w i0 < a) then some (valF F sd (k - 1) b w i0, i0) else some (a, ix)) = _
                        rw [if_pos (by simpa using hcc)]
                      refine g_lload C (pc := 203) dX11_likelyBy_203 0 rfl ?_
                      refine g_lstore C (pc := 205) dX11_likelyBy_205 (by decide) (fun v205 => [(9, .long v205), (12, .long v167), (11, .int (nI i0)), (5, .int v13), (6, .int v46), (7, .long v102), (0, .ref r), (1, .int (nI sd)), (2, .ref h), (3, .int (nI w)), (4, .int (nI k))]) (fun _ => rfl) (fun v205 ev205 => ?_)
                      refine g_iload C (pc := 207) dX11_likelyBy_207 3 rfl ?_
                      refine g_if_le C (pc := 209) 218 dX11_likelyBy_209 (by decide) (fun c209 => ?_) (fun c209 => ?_)
                      · exact absurd c209 (by rw [ev13, e10]; exact nI_nle (by omega) (by omega))
                      · refine g_aload_n C (pc := 212) dX11_likelyBy_212 8 rfl ?_
                        refine g_iload C (pc := 213) dX11_likelyBy_213 2 rfl ?_
                        refine g_putI C (pc := 215) fl_RX11_234 (by decide) fp_8_4 (Or.inl rfl) ⟨rfl, rfl⟩ (by first | assumption | rfl | omega) (by first | assumption | rfl | omega) hn9 dX11_likelyBy_215 ?_
                        refine g_iinc C (pc := 218) (1) dX11_likelyBy_218 2 rfl (by decide) (by decide) (fun v218 => [(11, .int v218), (9, .long v205), (12, .long v167), (5, .int v13), (6, .int v46), (7, .long v102), (0, .ref r), (1, .int (nI sd)), (2, .ref h), (3, .int (nI w)), (4, .int (nI k))]) (fun _ => rfl) (fun v218 ev218 => ?_)
                        refine g_goto C (pc := 221) 112 dX11_likelyBy_221 (by decide) ?_
                        refine g_lv C [0, 1, 3, 4, 5, 6, 7, 8, 9, 10] rfl (ih112 (i0 + 1) _ _ _ ?_ ?_ ?_ ?_ ?_ ?_ (by omega))
                        · subst ev218; exact nI_1 _
                        · omega
                        · first | (intro i hi; exact (hJ4 i hi)) | (intro i hi; rw [wr_n (fun e9 => hi (by rw [e9]; unfold Sc; omega))]; exact hJ4 i hi)
                        · first | exact hC4 | (intro q m hm; rw [wr_n (by omega)]; exact hC4 q m hm)
                        · first | (rw [ev205, ev167, e164, hstep]; rfl) | (rw [hB, hstep])
                        · first | (rw [hX4, hX, hstep]; rfl) | (rw [hX4, hX, hstep]; done) | (rw [wr_ss, hstep]; rfl)
                    · have hcc : ¬ a < valF F sd (k - 1) b w i0 := by
                        rw [ev167, e164, hB, hs6] at c186
                        exact fun h9 => absurd ((cmp_gt hv6 ha31).mpr h9) (Int32.not_lt.mpr c186)
                      have hstep : bstK true (valF F sd (k - 1) b w) (i0 + 1) = (bstK true (valF F sd (k - 1) b w) i0) := by
                        rw [bstK, hs6]
                        show (if (if true = true then a < valF F sd (k - 1) b w i0 else valF F sd (k - 1) b w i0 < a) then some (valF F sd (k - 1) b w i0, i0) else some (a, ix)) = _
                        rw [if_neg (by simpa using hcc)]
                      refine g_goto C (pc := 189) 218 dX11_likelyBy_189 (by decide) ?_
                      refine g_iinc C (pc := 218) (1) dX11_likelyBy_218 1 rfl (by decide) (by decide) (fun v218 => [(11, .int v218), (12, .long v167), (9, .long wz9), (5, .int v13), (6, .int v46), (7, .long v102), (0, .ref r), (1, .int (nI sd)), (2, .ref h), (3, .int (nI w)), (4, .int (nI k))]) (fun _ => rfl) (fun v218 ev218 => ?_)
                      refine g_goto C (pc := 221) 112 dX11_likelyBy_221 (by decide) ?_
                      refine g_lv C [0, 2, 3, 4, 5, 6, 7, 8, 9, 10] rfl (ih112 (i0 + 1) _ _ _ ?_ ?_ ?_ ?_ ?_ ?_ (by omega))
                      · subst ev218; exact nI_1 _
                      · omega
                      · first | (intro i hi; exact (hJ4 i hi)) | (intro i hi; rw [wr_n (fun e9 => hi (by rw [e9]; unfold Sc; omega))]; exact hJ4 i hi)
                      · first | exact hC4 | (intro q m hm; rw [wr_n (by omega)]; exact hC4 q m hm)
                      · first | (rw [ev205, ev167, e164, hstep]; rfl) | (rw [hB, hstep])
                      · first | (rw [hX4, hX, hstep]; rfl) | (rw [hX4, hX, hstep]; done) | (rw [wr_ss, hstep]; rfl)
            · refine g_iload C (pc := 119) dX11_likelyBy_119 0 rfl ?_
              refine g_if_ne C (pc := 121) 224 dX11_likelyBy_121 (by decide) (fun c121 => ?_) (fun c121 => ?_)
              · have hend : i0 = cntM F b w := by
                  have h0 : i0 ≠ 0 := fun h9 => c121 (by rw [h9]; rfl)
                  rw [ev13, e10] at c116
                  have := (nI_leI (by omega) (by omega)).mp c116
                  omega
                refine g_lload C (pc := 224) dX11_likelyBy_224 1 rfl ?_
                refine g_lret C hR (pc := 226) rfl dX11_likelyBy_226 ?_
                refine ⟨rfl, _, rfl, ?_⟩
                have hbE : ∃ a ix, bstK true (valF F sd (k - 1) b w) (cntM F b w) = some (a, ix) ∧ wz9 = lN a ∧ J h 4 = idxI false (some (a, ix)) := by
                  first
                  | (obtain ⟨a, ix, h1, -, -⟩ := bstK_some (wants := true) (f := (valF F sd (k - 1) b w)) (cntM_pos (F := F) (b := b) (w := w))
                     exact ⟨a, ix, h1, by rw [hB, hend, h1]; rfl, by rw [hX, hend, h1]⟩)
                  | (obtain ⟨⟨a, ix⟩, h1, h2⟩ := Option.map_eq_some_iff.mp hstop
                     have h2 : a = pw (allO F) (k - 1) := h2
                     exact ⟨a, ix, bst_end h1 hi0 (fun j => by rw [h2]; rw [if_pos rfl]; exact val_le (k - 1) _), by rw [hB, h1]; rfl, by rw [hX, h1]⟩)
                obtain ⟨a, ix, h1, h2, h3⟩ := hbE
                refine ⟨?_, ?_, hJ⟩
                · unfold valW valB; rw [hwB, h1]; exact h2
                · rw [h3]; unfold chW valB; rw [hwB, h1]
                  rw [if_neg (by omega)]; rfl
              · have hlt : i0 < cntM F b w := by
                  have h0 : i0 = 0 := (nI_eq (b := 0) (by omega) (by decide)).mp c121
                  have := cntM_pos (F := F) (b := b) (w := w)
                  omega
                refine g_lload C (pc := 124) dX11_likelyBy_124 1 rfl ?_
                refine g_lload C (pc := 126) dX11_likelyBy_126 4 rfl ?_
                refine g_lcmp C (pc := 128) dX11_likelyBy_128 ?_
                refine g_if_eq C (pc := 129) 224 dX11_likelyBy_129 (by decide) (fun c129 => ?_) (fun c129 => ?_)
                · have hstop : (bstK true (valF F sd (k - 1) b w) i0).map (fun q => q.1) = some (pw (allO F) (k - 1)) := by
                    rw [hB, hut] at c129
                    exact (cmp_best hbk31 (by have := pw3 hAO (show k - 1 ≤ 3 by omega); omega)).mp c129
                  refine g_lload C (pc := 224) dX11_likelyBy_224 1 rfl ?_
                  refine g_lret C hR (pc := 226) rfl dX11_likelyBy_226 ?_
                  refine ⟨rfl, _, rfl, ?_⟩
                  have hbE : ∃ a ix, bstK true (valF F sd (k - 1) b w) (cntM F b w) = some (a, ix) ∧ wz9 = lN a ∧ J h 4 = idxI false (some (a, ix)) := by
                    first
                    | (obtain ⟨a, ix, h1, -, -⟩ := bstK_some (wants := true) (f := (valF F sd (k - 1) b w)) (cntM_pos (F := F) (b := b) (w := w))
                       exact ⟨a, ix, h1, by rw [hB, hend, h1]; rfl, by rw [hX, hend, h1]⟩)
                    | (obtain ⟨⟨a, ix⟩, h1, h2⟩ := Option.map_eq_some_iff.mp hstop
                       have h2 : a = pw (allO F) (k - 1) := h2
                       exact ⟨a, ix, bst_end h1 hi0 (fun j => by rw [h2]; rw [if_pos rfl]; exact val_le (k - 1) _), by rw [hB, h1]; rfl, by rw [hX, h1]⟩)
                  obtain ⟨a, ix, h1, h2, h3⟩ := hbE
                  refine ⟨?_, ?_, hJ⟩
                  · unfold valW valB; rw [hwB, h1]; exact h2
                  · rw [h3]; unfold chW valB; rw [hwB, h1]
                    rw [if_neg (by omega)]; rfl
                · refine g_aload_n C (pc := 132) dX11_likelyBy_132 7 rfl ?_
                  refine g_aload_n C (pc := 133) dX11_likelyBy_133 5 rfl ?_
                  refine g_iload_n C (pc := 134) dX11_likelyBy_134 8 rfl ?_
                  refine g_iload C (pc := 135) dX11_likelyBy_135 2 rfl ?_
                  refine g_if_le C (pc := 137) 149 dX11_likelyBy_137 (by decide) (fun c137 => ?_) (fun c137 => ?_)
                  · exact absurd c137 (by rw [ev13, e10]; exact nI_nle (by omega) (by omega))
                  · refine g_aload_n C (pc := 140) dX11_likelyBy_140 7 rfl ?_
                    refine g_iload C (pc := 141) dX11_likelyBy_141 0 rfl ?_
                    refine g_callVI C (pc := 143) mf_X9_moveAt lk_RX11_193 (c_X9_moveAt n ρ J h i0 _ hn9 hsp (by omega) rfl) (by omega) (Nat.le_refl _) rfl (by first | assumption | rfl | omega) rfl (by first | assumption | rfl | omega) (Nat.le_of_ble_eq_true rfl) dX11_likelyBy_143 (fun v143 I143 h143 => ?_)
                    obtain ⟨e143, rfl⟩ := h143
                    refine g_goto C (pc := 146) 151 dX11_likelyBy_146 (by decide) ?_
                    refine g_callVV C (pc := 151) mf_X9_tread lk_RX11_378 (c_X9_tread n ρ J h (h - 6) r w F b ((mvs F b w)[i0]?) _ hn9 hsp hnx hgo.1 (fun i k h1 h2 => by omega) (fun i k h1 h2 => by omega) hrf hrrJ hrw hbrJ hbw hwd (fun m hm => ⟨(mvs_ok hm).1, (mvs_ok hm).2.1⟩) (by rw [e143, List.getElem?_eq_getElem (by omega), hC i0 _ (List.getElem?_eq_getElem (by omega))]; rfl)) (by omega) (Nat.le_refl _) rfl (by first | assumption | rfl | omega) rfl (by first | assumption | rfl | omega) (Nat.le_of_ble_eq_true rfl) dX11_likelyBy_151 (fun I151 h151 => ?_)
                    obtain ⟨h151, g151⟩ := h151
                    have hrr4 : RR I151 r F := hrrJ.cong (fun i hi => g151 _ (by omega) (by omega) (by omega) (by omega))
                    refine g_aload_n C (pc := 154) dX11_likelyBy_154 5 rfl ?_
                    refine g_iload_n C (pc := 155) dX11_likelyBy_155 6 rfl ?_
                    refine g_aload_n C (pc := 156) dX11_likelyBy_156 7 rfl ?_
                    refine g_getR C (pc := 157) fl_RX11_371 (by decide) (by first | assumption | rfl | omega) (by first | assumption | rfl | omega) (by first | assumption | rfl | omega) dX11_likelyBy_157 ?_
                    refine g_iload C (pc := 160) dX11_likelyBy_160 9 rfl ?_
                    refine g_iconst C (pc := 162) 1 dX11_likelyBy_162 (by decide) ?_
                    refine g_isub C (pc := 163) dX11_likelyBy_163 ?_
                    refine g_callSL C (pc := 164) mf_X11_likely lk_RX11_214 (hL hk2 n ρ I151 r (h - 6) sd F _ _ _ hn9 hrf hgo.2 hrr4 hrw hkw (by rw [show h - 6 + 1 = h - 6 + 1 from rfl]; exact h151) (playB_W hbw (fun m hm => ⟨(mvs_ok hm).1, (mvs_ok hm).2.1⟩)) hsd (by omega) (by omega) rfl (pk_sub (b := 1) (by omega))) (by omega) (Nat.le_refl _) rfl (Nat.le_of_ble_eq_true rfl) dX11_likelyBy_164 (fun v164 I164 h164 => ?_)
                    obtain ⟨e164, g164⟩ := h164
                    have hJ4 : ∀ i, ¬ Sc (k - 1) h i → I164 i = I i := fun i hi => (g164 i (fun e9 => hi (by unfold Sc at e9 ⊢; omega))).trans ((g151 i (fun e9 => hi (by unfold Sc; omega)) (fun e9 => hi (by unfold Sc; omega)) (fun e9 => hi (by unfold Sc; omega)) (fun e9 => hi (by unfold Sc; omega))).trans (hJ i hi))
                    have hC4 : ∀ (q m : Nat), (mvs F b w)[q]? = some m → I164 (h + 5) q = nI m := fun q m hm => by
                      rw [g164 _ (by unfold Sc; omega), g151 _ (by omega) (by omega) (by omega) (by omega)]; exact hC q m hm
                    have hX4 : I164 h 4 = J h 4 := by rw [g164 _ (by unfold Sc; omega), g151 _ (by omega) (by omega) (by omega) (by omega)]
                    refine g_lstore C (pc := 167) dX11_likelyBy_167 (by decide) (fun v167 => [(12, .long v167), (11, .int (nI i0)), (9, .long wz9), (5, .int v13), (6, .int v46), (7, .long v102), (0, .ref r), (1, .int (nI sd)), (2, .ref h), (3, .int (nI w)), (4, .int (nI k))]) (fun _ => rfl) (fun v167 ev167 => ?_)
                    refine g_lload C (pc := 169) dX11_likelyBy_169 2 rfl ?_
                    refine g_lconst C (pc := 171) 0 dX11_likelyBy_171 (by decide) ?_
                    refine g_lcmp C (pc := 172) dX11_likelyBy_172 ?_
                    refine g_if_lt C (pc := 173) 203 dX11_likelyBy_173 (by decide) (fun c173 => ?_) (fun c173 => ?_)
                    · have hnn : (bstK true (valF F sd (k - 1) b w) i0).map (fun q => q.1) = none := (cmp_best0 hbk31).mp (by rw [hB] at c173; exact c173)
                      have hi00 : i0 = 0 := bstK_fst_none hnn
                      have hstep : bstK true (valF F sd (k - 1) b w) (i0 + 1) = some (valF F sd (k - 1) b w i0, i0) := by rw [hi00, bstK, bstK]
                      refine g_lload C (pc := 203) dX11_likelyBy_203 0 rfl ?_
                      refine g_lstore C (pc := 205) dX11_likelyBy_205 (by decide) (fun v205 => [(9, .long v205), (12, .long v167), (11, .int (nI i0)), (5, .int v13), (6, .int v46), (7, .long v102), (0, .ref r), (1, .int (nI sd)), (2, .ref h), (3, .int (nI w)), (4, .int (nI k))]) (fun _ => rfl) (fun v205 ev205 => ?_)
                      refine g_iload C (pc := 207) dX11_likelyBy_207 3 rfl ?_
                      refine g_if_le C (pc := 209) 218 dX11_likelyBy_209 (by decide) (fun c209 => ?_) (fun c209 => ?_)
                      · exact absurd c209 (by rw [ev13, e10]; exact nI_nle (by omega) (by omega))
                      · refine g_aload_n C (pc := 212) dX11_likelyBy_212 8 rfl ?_
                        refine g_iload C (pc := 213) dX11_likelyBy_213 2 rfl ?_
                        refine g_putI C (pc := 215) fl_RX11_234 (by decide) fp_8_4 (Or.inl rfl) ⟨rfl, rfl⟩ (by first | assumption | rfl | omega) (by first | assumption | rfl | omega) hn9 dX11_likelyBy_215 ?_
                        refine g_iinc C (pc := 218) (1) dX11_likelyBy_218 2 rfl (by decide) (by decide) (fun v218 => [(11, .int v218), (9, .long v205), (12, .long v167), (5, .int v13), (6, .int v46), (7, .long v102), (0, .ref r), (1, .int (nI sd)), (2, .ref h), (3, .int (nI w)), (4, .int (nI k))]) (fun _ => rfl) (fun v218 ev218 => ?_)
                        refine g_goto C (pc := 221) 112 dX11_likelyBy_221 (by decide) ?_
                        refine g_lv C [0, 1, 3, 4, 5, 6, 7, 8, 9, 10] rfl (ih112 (i0 + 1) _ _ _ ?_ ?_ ?_ ?_ ?_ ?_ (by omega))
                        · subst ev218; exact nI_1 _
                        · omega
                        · first | (intro i hi; exact (hJ4 i hi)) | (intro i hi; rw [wr_n (fun e9 => hi (by rw [e9]; unfold Sc; omega))]; exact hJ4 i hi)
                        · first | exact hC4 | (intro q m hm; rw [wr_n (by omega)]; exact hC4 q m hm)
                        · first | (rw [ev205, ev167, e164, hstep]; rfl) | (rw [hB, hstep])
                        · first | (rw [hX4, hX, hstep]; rfl) | (rw [hX4, hX, hstep]; done) | (rw [wr_ss, hstep]; rfl)
                    · obtain ⟨a, ix, hs6⟩ : ∃ a ix, (bstK true (valF F sd (k - 1) b w) i0) = some (a, ix) := by
                        cases h9 : (bstK true (valF F sd (k - 1) b w) i0) with
                        | none => exact absurd ((cmp_best0 hbk31).mpr (by rw [h9]; rfl)) (by rw [hB] at c173; exact Int32.not_lt.mpr c173)
                        | some q => exact ⟨q.1, q.2, rfl⟩
                      have ha31 : a < 2 ^ 31 := hbk31 a (by rw [hs6]; rfl)
                      have hv6 : valF F sd (k - 1) b w i0 < 2 ^ 31 := Nat.lt_of_le_of_lt (val_le (k - 1) _) (by have := pw3 hAO (show k - 1 ≤ 3 by omega); omega)
                      refine g_iload C (pc := 176) dX11_likelyBy_176 4 rfl ?_
                      refine g_if_eq C (pc := 178) 192 dX11_likelyBy_178 (by decide) (fun c178 => absurd c178 (by first | decide | (subst_vars; decide))) (fun c178 => ?_)
                      refine g_lload C (pc := 181) dX11_likelyBy_181 0 rfl ?_
                      refine g_lload C (pc := 183) dX11_likelyBy_183 2 rfl ?_
                      refine g_lcmp C (pc := 185) dX11_likelyBy_185 ?_
                      refine g_if_gt C (pc := 186) 203 dX11_likelyBy_186 (by decide) (fun c186 => ?_) (fun c186 => ?_)
                      · have hcc : a < valF F sd (k - 1) b w i0 := by
                          rw [ev167, e164, hB, hs6] at c186
                          exact (cmp_gt hv6 ha31).mp c186
                        have hstep : bstK true (valF F sd (k - 1) b w) (i0 + 1) = some (valF F sd (k - 1) b w i0, i0) := by
                          rw [bstK, hs6]
                          show (if (if true = true then a < valF F sd (k - 1) b w i0 else valF F sd (k - 1) b w i0 < a) then some (valF F sd (k - 1) b w i0, i0) else some (a, ix)) = _
                          rw [if_pos (by simpa using hcc)]
                        refine g_lload C (pc := 203) dX11_likelyBy_203 0 rfl ?_
                        refine g_lstore C (pc := 205) dX11_likelyBy_205 (by decide) (fun v205 => [(9, .long v205), (12, .long v167), (11, .int (nI i0)), (5, .int v13), (6, .int v46), (7, .long v102), (0, .ref r), (1, .int (nI sd)), (2, .ref h), (3, .int (nI w)), (4, .int (nI k))]) (fun _ => rfl) (fun v205 ev205 => ?_)
                        refine g_iload C (pc := 207) dX11_likelyBy_207 3 rfl ?_
                        refine g_if_le C (pc := 209) 218 dX11_likelyBy_209 (by decide) (fun c209 => ?_) (fun c209 => ?_)
                        · exact absurd c209 (by rw [ev13, e10]; exact nI_nle (by omega) (by omega))
                        · refine g_aload_n C (pc := 212) dX11_likelyBy_212 8 rfl ?_
                          refine g_iload C (pc := 213) dX11_likelyBy_213 2 rfl ?_
                          refine g_putI C (pc := 215) fl_RX11_234 (by decide) fp_8_4 (Or.inl rfl) ⟨rfl, rfl⟩ (by first | assumption | rfl | omega) (by first | assumption | rfl | omega) hn9 dX11_likelyBy_215 ?_
                          refine g_iinc C (pc := 218) (1) dX11_likelyBy_218 2 rfl (by decide) (by decide) (fun v218 => [(11, .int v218), (9, .long v205), (12, .long v167), (5, .int v13), (6, .int v46), (7, .long v102), (0, .ref r), (1, .int (nI sd)), (2, .ref h), (3, .int (nI w)), (4, .int (nI k))]) (fun _ => rfl) (fun v218 ev218 => ?_)
                          refine g_goto C (pc := 221) 112 dX11_likelyBy_221 (by decide) ?_
                          refine g_lv C [0, 1, 3, 4, 5, 6, 7, 8, 9, 10] rfl (ih112 (i0 + 1) _ _ _ ?_ ?_ ?_ ?_ ?_ ?_ (by omega))
                          · subst ev218; exact nI_1 _
                          · omega
                          · first | (intro i hi; exact (hJ4 i hi)) | (intro i hi; rw [wr_n (fun e9 => hi (by rw [e9]; unfold Sc; omega))]; exact hJ4 i hi)
                          · first | exact hC4 | (intro q m hm; rw [wr_n (by omega)]; exact hC4 q m hm)
                          · first | (rw [ev205, ev167, e164, hstep]; rfl) | (rw [hB, hstep])
                          · first | (rw [hX4, hX, hstep]; rfl) | (rw [hX4, hX, hstep]; done) | (rw [wr_ss, hstep]; rfl)
                      · have hcc : ¬ a < valF F sd (k - 1) b w i0 := by
                          rw [ev167, e164, hB, hs6] at c186
                          exact fun h9 => absurd ((cmp_gt hv6 ha31).mpr h9) (Int32.not_lt.mpr c186)
                        have hstep : bstK true (valF F sd (k - 1) b w) (i0 + 1) = (bstK true (valF F sd (k - 1) b w) i0) := by
                          rw [bstK, hs6]
                          show (if (if true = true then a < valF F sd (k - 1) b w i0 else valF F sd (k - 1) b w i0 < a) then some (valF F sd (k - 1) b w i0, i0) else some (a, ix)) = _
                          rw [if_neg (by simpa using hcc)]
                        refine g_goto C (pc := 189) 218 dX11_likelyBy_189 (by decide) ?_
                        refine g_iinc C (pc := 218) (1) dX11_likelyBy_218 1 rfl (by decide) (by decide) (fun v218 => [(11, .int v218), (12, .long v167), (9, .long wz9), (5, .int v13), (6, .int v46), (7, .long v102), (0, .ref r), (1, .int (nI sd)), (2, .ref h), (3, .int (nI w)), (4, .int (nI k))]) (fun _ => rfl) (fun v218 ev218 => ?_)
                        refine g_goto C (pc := 221) 112 dX11_likelyBy_221 (by decide) ?_
                        refine g_lv C [0, 2, 3, 4, 5, 6, 7, 8, 9, 10] rfl (ih112 (i0 + 1) _ _ _ ?_ ?_ ?_ ?_ ?_ ?_ (by omega))
                        · subst ev218; exact nI_1 _
                        · omega
                        · first | (intro i hi; exact (hJ4 i hi)) | (intro i hi; rw [wr_n (fun e9 => hi (by rw [e9]; unfold Sc; omega))]; exact hJ4 i hi)
                        · first | exact hC4 | (intro q m hm; rw [wr_n (by omega)]; exact hC4 q m hm)
                        · first | (rw [ev205, ev167, e164, hstep]; rfl) | (rw [hB, hstep])
                        · first | (rw [hX4, hX, hstep]; rfl) | (rw [hX4, hX, hstep]; done) | (rw [wr_ss, hstep]; rfl)
        refine g_lv C [0, 1, 4, 3, 2, 5, 6, 7, 8, 9] rfl (L112 (_ + 1) 0 _ _ _ ?_ ?_ ?_ ?_ ?_ ?_ (by first | omega | exact Nat.lt_succ_self _))
        · subst ev110; rfl
        · omega
        · intro i hi; rw [wr_n (fun e9 => hi (by rw [e9]; unfold Sc; omega))]; exact g10 i (fun e9 => hi (by rw [e9]; unfold Sc; omega))
        · intro q m hm; rw [wr_n (by omega)]; exact f10 q m hm
        · subst ev107; rfl
        · rw [wr_ss]; rfl
      · have hk1 : k = 1 := by
          have := (nI_leI (a := k) (b := 1) (by omega) (by decide)).mp c58
          omega
        refine g_iload C (pc := 61) dX11_likelyBy_61 0 rfl ?_
        refine g_if_eq C (pc := 63) 80 dX11_likelyBy_63 (by decide) (fun c63 => absurd c63 (by first | decide | (subst_vars; decide))) (fun c63 => ?_)
        refine g_aload_n C (pc := 66) dX11_likelyBy_66 4 rfl ?_
        refine g_aload_n C (pc := 67) dX11_likelyBy_67 2 rfl ?_
        refine g_iload C (pc := 68) dX11_likelyBy_68 1 rfl ?_
        refine g_callVI C (pc := 70) mf_X9_chooseKing lk_RX11_374 (c_X9_chooseKing_E n ρ _ h r kp kq F b (mvs F b w) _ hn9 hsp hrf hrr1 hrw hbr1 hbw hml (fun q m hm => by rw [wr_n (by omega)]; exact f10 q m hm) (fun q m hm => by have := mvs_ok hm; omega) hkp hkq (ev13.trans e10)) (by omega) (Nat.le_refl _) rfl (by first | assumption | rfl | omega) rfl (by first | assumption | rfl | omega) (Nat.le_of_ble_eq_true rfl) dX11_likelyBy_70 (fun v70 I70 h70 => ?_)
        obtain h70 := h70
        refine g_if_eq C (pc := 73) 80 dX11_likelyBy_73 (by decide) (fun c73 => ?_) (fun c73 => ?_)
        · obtain ⟨hno2, hI70⟩ : (∀ (q m : Nat), (mvs F b w)[q]? = some m → m % 100 ≠ kq) ∧ wr I10 h 4 0 = I70 := by
            rcases h70 with ⟨_, _, hv, _⟩ | ⟨_, h1, h2⟩
            · rw [hv] at c73; exact absurd c73 (by decide)
            · exact ⟨h1, h2⟩
          refine g_lconst C (pc := 80) 0 dX11_likelyBy_80 (by decide) ?_
          refine g_lret C hR (pc := 81) rfl dX11_likelyBy_81 ?_
          refine ⟨rfl, _, rfl, ?_⟩
          first
          | (have hval : bstK true (valF F sd 0 b w) (cntM F b w) = some (1, k7) := by
               have hv1 : ∀ i, valF F sd 0 b w i = if (∃ m, (mvs F b w)[i]? = some m ∧ m % 100 = kq) then 1 else 0 := fun i => valF0_own hrw hkw hbw hno hwn hkp hkq
               have := bst_one (f := valF F sd 0 b w) (k := k7) (by rw [hv1, if_pos hex]) (fun q hq => by rw [hv1, if_neg (by rintro ⟨m, h1, h2⟩; exact hfst q hq m h1 h2)]) (fun i => by rw [hv1]; split <;> omega) (cntM F b w - (k7 + 1))
               rwa [show k7 + 1 + (cntM F b w - (k7 + 1)) = cntM F b w by omega] at this
             subst hI70
             refine ⟨?_, ?_, fun i hi => ?_⟩
             · unfold valW valB; rw [hwB, hk1, hval]; rfl
             · rw [wr_ss]; unfold chW valB; rw [hwB, hk1, hval, if_neg (by omega)]; rfl
             · rw [wr_n (fun e9 => hi (by rw [e9]; unfold Sc; omega))]; exact hfr1 i hi)
          | (have hval : bstK true (valF F sd 0 b w) (cntM F b w) = some (0, 0) := by
               refine bst_zero cntM_pos (fun i _ => ?_)
               rw [valF0_own hrw hkw hbw hno hwn hkp hkq, if_neg (by rintro ⟨m, h1, h2⟩; exact hno2 i m h1 h2)]
             subst hI70
             refine ⟨?_, ?_, hfr1⟩
             · unfold valW valB; rw [hwB, hk1, hval]; rfl
             · rw [wr_ss]; unfold chW valB; rw [hwB, hk1, hval]
               rw [if_neg (by omega)]; rfl)
        · obtain ⟨k7, hk7, hex, hfst, hI70⟩ : ∃ k, k < (mvs F b w).length ∧ (∃ m, (mvs F b w)[k]? = some m ∧ m % 100 = kq) ∧ (∀ (q : Nat), q < k → ∀ (m : Nat), (mvs F b w)[q]? = some m → m % 100 ≠ kq) ∧ wr (wr I10 h 4 0) h 4 (nI k) = I70 := by
            rcases h70 with ⟨k, h1, _, h3, h4, h5⟩ | ⟨hv, _⟩
            · exact ⟨k, h1, h3, h4, h5⟩
            · exact absurd hv c73
          refine g_lconst C (pc := 76) 1 dX11_likelyBy_76 (by decide) ?_
          refine g_goto C (pc := 77) 81 dX11_likelyBy_77 (by decide) ?_
          refine g_lret C hR (pc := 81) rfl dX11_likelyBy_81 ?_
          refine ⟨rfl, _, rfl, ?_⟩
          first
          | (have hval : bstK true (valF F sd 0 b w) (cntM F b w) = some (1, k7) := by
               have hv1 : ∀ i, valF F sd 0 b w i = if (∃ m, (mvs F b w)[i]? = some m ∧ m % 100 = kq) then 1 else 0 := fun i => valF0_own hrw hkw hbw hno hwn hkp hkq
               have := bst_one (f := valF F sd 0 b w) (k := k7) (by rw [hv1, if_pos hex]) (fun q hq => by rw [hv1, if_neg (by rintro ⟨m, h1, h2⟩; exact hfst q hq m h1 h2)]) (fun i => by rw [hv1]; split <;> omega) (cntM F b w - (k7 + 1))
               rwa [show k7 + 1 + (cntM F b w - (k7 + 1)) = cntM F b w by omega] at this
             subst hI70
             refine ⟨?_, ?_, fun i hi => ?_⟩
             · unfold valW valB; rw [hwB, hk1, hval]; rfl
             · rw [wr_ss]; unfold chW valB; rw [hwB, hk1, hval, if_neg (by omega)]; rfl
             · rw [wr_n (fun e9 => hi (by rw [e9]; unfold Sc; omega))]; exact hfr1 i hi)
          | (have hval : bstK true (valF F sd 0 b w) (cntM F b w) = some (0, 0) := by
               refine bst_zero cntM_pos (fun i _ => ?_)
               rw [valF0_own hrw hkw hbw hno hwn hkp hkq, if_neg (by rintro ⟨m, h1, h2⟩; exact hno2 i m h1 h2)]
             subst hI70
             refine ⟨?_, ?_, hfr1⟩
             · unfold valW valB; rw [hwB, hk1, hval]; rfl
             · rw [wr_ss]; unfold chW valB; rw [hwB, hk1, hval]
               rw [if_neg (by omega)]; rfl)
set_option maxHeartbeats 400000 in
theorem c_X11_likelyBy_00 (n : Nat) (ρ : Rho) (I : Mem) (r h sd w k : Nat) (F : RT) (b : BT) (xs xw xk : Int32) (hn9 : n ≤ 999) (hrf : Rf n ρ r) (hch : Ch n ρ k h) (hrr : RR I r F) (hrw : RW F) (hkw : KW F) (hbr : BR I (h + 1) F b) (hbw : BW F b) (hsd : sd < 2) (hwd : w < 5) (hno : lostP F b = none) (hrh : r + 3 + 6 * k < h) (hk1l : 1 ≤ k) (hk3 : k ≤ 3) (hxs : xs = nI sd) (hxw : xw = nI w) (hxk : xk = nI k) (hL : 1 < k → LikC (k - 1)) (hwn : bM b ≠ sd) (hlen : 0 < (mvs F b w).length) : ML yX11_likelyBy cX11_likelyBy 14 (some .long) (9 + 2 * k) [.ref r, .int xs, .ref h, .int xw, .int xk] n ρ I (fun v I1 => v = lN (valW F sd (k - 1) b w) ∧ I1 h 4 = oI (chW F sd (k - 1) b w) ∧ ∀ i, ¬ Sc (k - 1) h i → I1 i = I i) := by
  refine MG.of (by decide +kernel) (Nat.le_of_ble_eq_true rfl) hn9 ?_
  intro κ C hR
  show G κ n ρ 0 [(0, .ref r), (1, .int xs), (2, .ref h), (3, .int xw), (4, .int xk)] [] I
  subst hxs hxw hxk
  have hsp := hch.sp
  obtain ⟨hp0, hpn, hp1, hp2, hp3, hp4⟩ := id hsp
  obtain ⟨hs0, hs1, hs2, hs3, hsn, hr0, hr1, hr2⟩ := id hp4
  obtain ⟨hq0, hq1, hq2, hq3, hqn, ht0, ht1, ht2⟩ := id hrf
  have hnp : rN F ≤ 6 := hrw.2.2.2.2.1
  have hN := hrr.2.2.1
  have hAO := allO_le hrw
  have hM2 := hbw.1
  have hmv := hbr.1
  have hnx := hch.nx hk1l
  have hml := mvs_len (F := F) (b := b) (w := w) hnp
  have hwB : (bM b == sd) = false := by exact beq_eq_false_iff_ne.mpr hwn
  obtain ⟨kp, hkp⟩ := hkw.1 (1 - bM b) (by omega)
  obtain ⟨kq, hkq⟩ := lost_none hno kp (kingB_at hkp).1 (kingB_at hkp).2.1
  have hbv : ∀ i a ix, bstK false (valF F sd (k - 1) b w) i = some (a, ix) → a ≤ pw (allO F) (k - 1) := by
    intro i a ix h9
    cases i with
    | zero => rw [bstK] at h9; cases h9
    | succ i =>
      obtain ⟨a2, i2, e1, -, e3⟩ := bstK_some (wants := false) (f := valF F sd (k - 1) b w) (Nat.succ_pos i)
      rw [h9] at e1; cases e1; rw [← e3]; exact val_le (k - 1) _
  refine g_aload_n C (pc := 0) dX11_likelyBy_0 2 rfl ?_
  refine g_getR C (pc := 1) fl_RX11_210 (by decide) (by first | assumption | rfl | omega) (by first | assumption | rfl | omega) (by first | assumption | rfl | omega) dX11_likelyBy_1 ?_
  refine g_aload_n C (pc := 4) dX11_likelyBy_4 0 rfl ?_
  refine g_iload_n C (pc := 5) dX11_likelyBy_5 3 rfl ?_
  refine g_aload_n C (pc := 6) dX11_likelyBy_6 2 rfl ?_
  refine g_getR C (pc := 7) fl_RX11_296 (by decide) (by first | assumption | rfl | omega) (by first | assumption | rfl | omega) (by first | assumption | rfl | omega) dX11_likelyBy_7 ?_
  refine g_callVI C (pc := 10) mf_X8_listMoves lk_RX11_300 (c_X8_listMoves n ρ I (h + 1) r w (h + 5) F b hn9 hp4 hrf hrr hrw hbr hbw hwd hp3 (by omega) (fun i hi => ⟨by omega, by omega⟩)) (by omega) (Nat.le_refl _) rfl (by first | assumption | rfl | omega) rfl (by first | assumption | rfl | omega) (Nat.le_of_ble_eq_true rfl) dX11_likelyBy_10 (fun v10 I10 h10 => ?_)
  obtain ⟨e10, f10, g10⟩ := h10
  have hm10 : I10 (h + 1) 3 = nI (bM b) := by rw [g10 _ (by omega)]; exact hmv
  have hcnt : cntM F b w = (mvs F b w).length := by unfold cntM; rw [if_neg (by omega)]
  refine g_istore C (pc := 13) dX11_likelyBy_13 (by decide) (fun v13 => [(5, .int v13), (0, .ref r), (1, .int (nI sd)), (2, .ref h), (3, .int (nI w)), (4, .int (nI k))]) (fun _ => rfl) (fun v13 ev13 => ?_)
  refine g_aload_n C (pc := 15) dX11_likelyBy_15 3 rfl ?_
  refine g_iload C (pc := 16) dX11_likelyBy_16 0 rfl ?_
  refine g_if_le C (pc := 18) 25 dX11_likelyBy_18 (by decide) (fun c18 => ?_) (fun c18 => ?_)
  · exact absurd c18 (by rw [ev13, e10]; exact nI_nle (by omega) (by omega))
  · refine g_iconst C (pc := 21) 0 dX11_likelyBy_21 (by decide) ?_
    refine g_goto C (pc := 22) 27 dX11_likelyBy_22 (by decide) ?_
    refine g_putI C (pc := 27) fl_RX11_234 (by decide) fp_8_4 (Or.inl rfl) ⟨rfl, rfl⟩ (by first | assumption | rfl | omega) (by first | assumption | rfl | omega) hn9 dX11_likelyBy_27 ?_
    have hrr1 : RR (wr I10 h 4 0) r F := hrr.cong (fun i hi => by rw [wr_n (by omega), g10 _ (by omega)])
    have hbr1 : BR (wr I10 h 4 0) (h + 1) F b := hbr.cong (fun i hi => by rw [wr_n (by omega), g10 _ (by omega)])
    have hfr1 : ∀ i, ¬ Sc (k - 1) h i → wr I10 h 4 0 i = I i := by
      intro i hi
      rw [wr_n (fun e9 => hi (by rw [e9]; unfold Sc; omega))]; exact g10 i (fun e9 => hi (by rw [e9]; unfold Sc; omega))
    refine g_aload_n C (pc := 30) dX11_likelyBy_30 3 rfl ?_
    refine g_getR C (pc := 31) fl_RX11_210 (by decide) (by first | assumption | rfl | omega) (by first | assumption | rfl | omega) (by first | assumption | rfl | omega) dX11_likelyBy_31 ?_
    refine g_getI C (pc := 34) fl_RX11_125 (by decide) (by first | assumption | rfl | omega) (by first | assumption | rfl | omega) dX11_likelyBy_34 ?_
    refine g_iload_n C (pc := 37) dX11_likelyBy_37 2 rfl ?_
    refine g_icmp_ne C (pc := 38) 45 dX11_likelyBy_38 (by decide) (fun c38 => ?_) (fun c38 => ?_)
    · refine g_iconst C (pc := 45) 0 dX11_likelyBy_45 (by decide) ?_
      refine g_istore C (pc := 46) dX11_likelyBy_46 (by decide) (fun v46 => [(6, .int v46), (5, .int v13), (0, .ref r), (1, .int (nI sd)), (2, .ref h), (3, .int (nI w)), (4, .int (nI k))]) (fun _ => rfl) (fun v46 ev46 => ?_)
      refine g_aload_n C (pc := 48) dX11_likelyBy_48 4 rfl ?_
      refine g_getR C (pc := 49) fl_RX11_371 (by decide) (by first | assumption | rfl | omega) (by first | assumption | rfl | omega) hnx dX11_likelyBy_49 ?_
      refine g_ifnull C (pc := 52) dX11_likelyBy_52 ?_
      refine g_iload C (pc := 55) dX11_likelyBy_55 6 rfl ?_
      refine g_iconst C (pc := 57) 1 dX11_likelyBy_57 (by decide) ?_
      refine g_icmp_gt C (pc := 58) 82 dX11_likelyBy_58 (by decide) (fun c58 => ?_) (fun c58 => ?_)
      · have hk2 : 1 < k := (nI_ltI (a := 1) (b := k) (by decide) (by omega)).mp c58
        obtain ⟨k0, hkk⟩ : ∃ k0, k = k0 + 1 := ⟨k - 1, by omega⟩
        have hgo := hch.go hkk
        refine g_iload C (pc := 82) dX11_likelyBy_82 0 rfl ?_
        refine g_if_eq C (pc := 84) 101 dX11_likelyBy_84 (by decide) (fun c84 => ?_) (fun c84 => absurd c84 (by first | decide | (subst_vars; decide)))
        refine g_lconst C (pc := 101) 0 dX11_likelyBy_101 (by decide) ?_
        refine g_lstore C (pc := 102) dX11_likelyBy_102 (by decide) (fun v102 => [(7, .long v102), (6, .int v46), (5, .int v13), (0, .ref r), (1, .int (nI sd)), (2, .ref h), (3, .int (nI w)), (4, .int (nI k))]) (fun _ => rfl) (fun v102 ev102 => ?_)
        have hut : v102 = lN 0 := by subst ev102; rfl
        refine g_ldc2 C (pc := 104) _ gk_RX11_208 dX11_likelyBy_104 ?_
        refine g_lstore C (pc := 107) dX11_likelyBy_107 (by decide) (fun v107 => [(9, .long v107), (7, .long v102), (6, .int v46), (5, .int v13), (0, .ref r), (1, .int (nI sd)), (2, .ref h), (3, .int (nI w)), (4, .int (nI k))]) (fun _ => rfl) (fun v107 ev107 => ?_)
        refine g_iconst C (pc := 109) 0 dX11_likelyBy_109 (by decide) ?_
        refine g_istore C (pc := 110) dX11_likelyBy_110 (by decide) (fun v110 => [(11, .int v110), (9, .long v107), (7, .long v102), (6, .int v46), (5, .int v13), (0, .ref r), (1, .int (nI sd)), (2, .ref h), (3, .int (nI w)), (4, .int (nI k))]) (fun _ => rfl) (fun v110 ev110 => ?_)
        have L112 : ∀ (k9 : Nat) (i0 : Nat) (wz11 : Int32) (wz9 : Int64) (J : Mem) (hw11 : wz11 = nI i0) (hi0 : i0 ≤ cntM F b w) (hJ : ∀ i, ¬ Sc (k - 1) h i → J i = I i) (hC : ∀ (q m : Nat), (mvs F b w)[q]? = some m → J (h + 5) q = nI m) (hB : wz9 = lO ((bstK false (valF F sd (k - 1) b w) i0).map (fun q => q.1))) (hX : J h 4 = idxI false (bstK false (valF F sd (k - 1) b w) i0)), cntM F b w - i0 < k9 → G κ n ρ 112 [(11, .int wz11), (9, .long wz9), (5, .int v13), (6, .int v46), (7, .long v102), (0, .ref r), (1, .int (nI sd)), (2, .ref h), (3, .int (nI w)), (4, .int (nI k))] [] J := by
          intro k9
          induction k9 with
          | zero => intro i0 wz11 wz9 J hw11 hi0 hJ hC hB hX hm112; exact absurd hm112 (Nat.not_lt_zero _)
          | succ k9 ih112 =>
            intro i0 wz11 wz9 J hw11 hi0 hJ hC hB hX hm112
            subst hw11
            have hrrJ : RR J r F := hrr.cong (fun i hi => hJ _ (by unfold Sc; omega))
            have hbrJ : BR J (h + 1) F b := hbr.cong (fun i hi => hJ _ (by unfold Sc; omega))
            have hbk31 : ∀ a, (bstK false (valF F sd (k - 1) b w) i0).map (fun q => q.1) = some a → a < 2 ^ 31 := by
              intro a ha
              obtain ⟨⟨a2, ix⟩, h1, h2⟩ := Option.map_eq_some_iff.mp ha
              have h2 : a2 = a := h2
              subst h2
              exact Nat.lt_of_le_of_lt (hbv i0 a2 ix h1) (by have := pw3 hAO (show k - 1 ≤ 3 by omega); omega)
            refine g_iload C (pc := 112) dX11_likelyBy_112 0 rfl ?_
            refine g_iload C (pc := 114) dX11_likelyBy_114 2 rfl ?_
            refine g_icmp_lt C (pc := 116) 124 dX11_likelyBy_116 (by decide) (fun c116 => ?_) (fun c116 => ?_)
            · have hlt : i0 < cntM F b w := by
                rw [ev13, e10] at c116
                have := (nI_ltI (by omega) (by omega)).mp c116
                omega
              refine g_lload C (pc := 124) dX11_likelyBy_124 1 rfl ?_
              refine g_lload C (pc := 126) dX11_likelyBy_126 4 rfl ?_
              refine g_lcmp C (pc := 128) dX11_likelyBy_128 ?_
              refine g_if_eq C (pc := 129) 224 dX11_likelyBy_129 (by decide) (fun c129 => ?_) (fun c129 => ?_)
              · have hstop : (bstK false (valF F sd (k - 1) b w) i0).map (fun q => q.1) = some 0 := by
                  rw [hB, hut] at c129
                  exact (cmp_best hbk31 (by have := pw3 hAO (show k - 1 ≤ 3 by omega); omega)).mp c129
                refine g_lload C (pc := 224) dX11_likelyBy_224 1 rfl ?_
                refine g_lret C hR (pc := 226) rfl dX11_likelyBy_226 ?_
                refine ⟨rfl, _, rfl, ?_⟩
                have hbE : ∃ a ix, bstK false (valF F sd (k - 1) b w) (cntM F b w) = some (a, ix) ∧ wz9 = lN a ∧ J h 4 = idxI false (some (a, ix)) := by
                  first
                  | (obtain ⟨a, ix, h1, -, -⟩ := bstK_some (wants := false) (f := (valF F sd (k - 1) b w)) (cntM_pos (F := F) (b := b) (w := w))
                     exact ⟨a, ix, h1, by rw [hB, hend, h1]; rfl, by rw [hX, hend, h1]⟩)
                  | (obtain ⟨⟨a, ix⟩, h1, h2⟩ := Option.map_eq_some_iff.mp hstop
                     have h2 : a = 0 := h2
                     exact ⟨a, ix, bst_end h1 hi0 (fun j => by rw [h2]; exact Nat.zero_le _), by rw [hB, h1]; rfl, by rw [hX, h1]⟩)
                obtain ⟨a, ix, h1, h2, h3⟩ := hbE
                refine ⟨?_, ?_, hJ⟩
                · unfold valW valB; rw [hwB, h1]; exact h2
                · rw [h3]; unfold chW valB; rw [hwB, h1]
                  rw [if_neg (by omega)]; rfl
              · refine g_aload_n C (pc := 132) dX11_likelyBy_132 7 rfl ?_
                refine g_aload_n C (pc := 133) dX11_likelyBy_133 5 rfl ?_
                refine g_iload_n C (pc := 134) dX11_likelyBy_134 8 rfl ?_
                refine g_iload C (pc := 135) dX11_likelyBy_135 2 rfl ?_
                refine g_if_le C (pc := 137) 149 dX11_likelyBy_137 (by decide) (fun c137 => ?_) (fun c137 => ?_)
                · exact absurd c137 (by rw [ev13, e10]; exact nI_nle (by omega) (by omega))
                · refine g_aload_n C (pc := 140) dX11_likelyBy_140 7 rfl ?_
                  refine g_iload C (pc := 141) dX11_likelyBy_141 0 rfl ?_
                  refine g_callVI C (pc := 143) mf_X9_moveAt lk_RX11_193 (c_X9_moveAt n ρ J h i0 _ hn9 hsp (by omega) rfl) (by omega) (Nat.le_refl _) rfl (by first | assumption | rfl | omega) rfl (by first | assumption | rfl | omega) (Nat.le_of_ble_eq_true rfl) dX11_likelyBy_143 (fun v143 I143 h143 => ?_)
                  obtain ⟨e143, rfl⟩ := h143
                  refine g_goto C (pc := 146) 151 dX11_likelyBy_146 (by decide) ?_
                  refine g_callVV C (pc := 151) mf_X9_tread lk_RX11_378 (c_X9_tread n ρ J h (h - 6) r w F b ((mvs F b w)[i0]?) _ hn9 hsp hnx hgo.1 (fun i k h1 h2 => by omega) (fun i k h1 h2 => by omega) hrf hrrJ hrw hbrJ hbw hwd (fun m hm => ⟨(mvs_ok hm).1, (mvs_ok hm).2.1⟩) (by rw [e143, List.getElem?_eq_getElem (by omega), hC i0 _ (List.getElem?_eq_getElem (by omega))]; rfl)) (by omega) (Nat.le_refl _) rfl (by first | assumption | rfl | omega) rfl (by first | assumption | rfl | omega) (Nat.le_of_ble_eq_true rfl) dX11_likelyBy_151 (fun I151 h151 => ?_)
                  obtain ⟨h151, g151⟩ := h151
                  have hrr4 : RR I151 r F := hrrJ.cong (fun i hi => g151 _ (by omega) (by omega) (by omega) (by omega))
                  refine g_aload_n C (pc := 154) dX11_likelyBy_154 5 rfl ?_
                  refine g_iload_n C (pc := 155) dX11_likelyBy_155 6 rfl ?_
                  refine g_aload_n C (pc := 156) dX11_likelyBy_156 7 rfl ?_
                  refine g_getR C (pc := 157) fl_RX11_371 (by decide) (by first | assumption | rfl | omega) (by first | assumption | rfl | omega) (by first | assumption | rfl | omega) dX11_likelyBy_157 ?_
                  refine g_iload C (pc := 160) dX11_likelyBy_160 9 rfl ?_
                  refine g_iconst C (pc := 162) 1 dX11_likelyBy_162 (by decide) ?_
                  refine g_isub C (pc := 163) dX11_likelyBy_163 ?_
                  refine g_callSL C (pc := 164) mf_X11_likely lk_RX11_214 (hL hk2 n ρ I151 r (h - 6) sd F _ _ _ hn9 hrf hgo.2 hrr4 hrw hkw (by rw [show h - 6 + 1 = h - 6 + 1 from rfl]; exact h151) (playB_W hbw (fun m hm => ⟨(mvs_ok hm).1, (mvs_ok hm).2.1⟩)) hsd (by omega) (by omega) rfl (pk_sub (b := 1) (by omega))) (by omega) (Nat.le_refl _) rfl (Nat.le_of_ble_eq_true rfl) dX11_likelyBy_164 (fun v164 I164 h164 => ?_)
                  obtain ⟨e164, g164⟩ := h164
                  have hJ4 : ∀ i, ¬ Sc (k - 1) h i → I164 i = I i := fun i hi => (g164 i (fun e9 => hi (by unfold Sc at e9 ⊢; omega))).trans ((g151 i (fun e9 => hi (by unfold Sc; omega)) (fun e9 => hi (by unfold Sc; omega)) (fun e9 => hi (by unfold Sc; omega)) (fun e9 => hi (by unfold Sc; omega))).trans (hJ i hi))
                  have hC4 : ∀ (q m : Nat), (mvs F b w)[q]? = some m → I164 (h + 5) q = nI m := fun q m hm => by
                    rw [g164 _ (by unfold Sc; omega), g151 _ (by omega) (by omega) (by omega) (by omega)]; exact hC q m hm
                  have hX4 : I164 h 4 = J h 4 := by rw [g164 _ (by unfold Sc; omega), g151 _ (by omega) (by omega) (by omega) (by omega)]
                  refine g_lstore C (pc := 167) dX11_likelyBy_167 (by decide) (fun v167 => [(12, .long v167), (11, .int (nI i0)), (9, .long wz9), (5, .int v13), (6, .int v46), (7, .long v102), (0, .ref r), (1, .int (nI sd)), (2, .ref h), (3, .int (nI w)), (4, .int (nI k))]) (fun _ => rfl) (fun v167 ev167 => ?_)
                  refine g_lload C (pc := 169) dX11_likelyBy_169 2 rfl ?_
                  refine g_lconst C (pc := 171) 0 dX11_likelyBy_171 (by decide) ?_
                  refine g_lcmp C (pc := 172) dX11_likelyBy_172 ?_
                  refine g_if_lt C (pc := 173) 203 dX11_likelyBy_173 (by decide) (fun c173 => ?_) (fun c173 => ?_)
                  · have hnn : (bstK false (valF F sd (k - 1) b w) i0).map (fun q => q.1) = none := (cmp_best0 hbk31).mp (by rw [hB] at c173; exact c173)
                    have hi00 : i0 = 0 := bstK_fst_none hnn
                    have hstep : bstK false (valF F sd (k - 1) b w) (i0 + 1) = some (valF F sd (k - 1) b w i0, i0) := by rw [hi00, bstK, bstK]
                    refine g_lload C (pc := 203) dX11_likelyBy_203 0 rfl ?_
                    refine g_lstore C (pc := 205) dX11_likelyBy_205 (by decide) (fun v205 => [(9, .long v205), (12, .long v167), (11, .int (nI i0)), (5, .int v13), (6, .int v46), (7, .long v102), (0, .ref r), (1, .int (nI sd)), (2, .ref h), (3, .int (nI w)), (4, .int (nI k))]) (fun _ => rfl) (fun v205 ev205 => ?_)
                    refine g_iload C (pc := 207) dX11_likelyBy_207 3 rfl ?_
                    refine g_if_le C (pc := 209) 218 dX11_likelyBy_209 (by decide) (fun c209 => ?_) (fun c209 => ?_)
                    · exact absurd c209 (by rw [ev13, e10]; exact nI_nle (by omega) (by omega))
                    · refine g_aload_n C (pc := 212) dX11_likelyBy_212 8 rfl ?_
                      refine g_iload C (pc := 213) dX11_likelyBy_213 2 rfl ?_
                      refine g_putI C (pc := 215) fl_RX11_234 (by decide) fp_8_4 (Or.inl rfl) ⟨rfl, rfl⟩ (by first | assumption | rfl | omega) (by first | assumption | rfl | omega) hn9 dX11_likelyBy_215 ?_
                      refine g_iinc C (pc := 218) (1) dX11_likelyBy_218 2 rfl (by decide) (by decide) (fun v218 => [(11, .int v218), (9, .long v205), (12, .long v167), (5, .int v13), (6, .int v46), (7, .long v102), (0, .ref r), (1, .int (nI sd)), (2, .ref h), (3, .int (nI w)), (4, .int (nI k))]) (fun _ => rfl) (fun v218 ev218 => ?_)
                      refine g_goto C (pc := 221) 112 dX11_likelyBy_221 (by decide) ?_
                      refine g_lv C [0, 1, 3, 4, 5, 6, 7, 8, 9, 10] rfl (ih112 (i0 + 1) _ _ _ ?_ ?_ ?_ ?_ ?_ ?_ (by omega))
                      · subst ev218; exact nI_1 _
                      · omega
                      · first | (intro i hi; exact (hJ4 i hi)) | (intro i hi; rw [wr_n (fun e9 => hi (by rw [e9]; unfold Sc; omega))]; exact hJ4 i hi)
                      · first | exact hC4 | (intro q m hm; rw [wr_n (by omega)]; exact hC4 q m hm)
                      · first | (rw [ev205, ev167, e164, hstep]; rfl) | (rw [hB, hstep])
                      · first | (rw [hX4, hX, hstep]; rfl) | (rw [hX4, hX, hstep]; done) | (rw [wr_ss, hstep]; rfl)
                  · obtain ⟨a, ix, hs6⟩ : ∃ a ix, (bstK false (valF F sd (k - 1) b w) i0) = some (a, ix) := by
                      cases h9 : (bstK false (valF F sd (k - 1) b w) i0) with
                      | none => exact absurd ((cmp_best0 hbk31).mpr (by rw [h9]; rfl)) (by rw [hB] at c173; exact Int32.not_lt.mpr c173)
                      | some q => exact ⟨q.1, q.2, rfl⟩
                    have ha31 : a < 2 ^ 31 := hbk31 a (by rw [hs6]; rfl)
                    have hv6 : valF F sd (k - 1) b w i0 < 2 ^ 31 := Nat.lt_of_le_of_lt (val_le (k - 1) _) (by have := pw3 hAO (show k - 1 ≤ 3 by omega); omega)
                    refine g_iload C (pc := 176) dX11_likelyBy_176 4 rfl ?_
                    refine g_if_eq C (pc := 178) 192 dX11_likelyBy_178 (by decide) (fun c178 => ?_) (fun c178 => absurd c178 (by first | decide | (subst_vars; decide)))
                    refine g_lload C (pc := 192) dX11_likelyBy_192 0 rfl ?_
                    refine g_lload C (pc := 194) dX11_likelyBy_194 2 rfl ?_
                    refine g_lcmp C (pc := 196) dX11_likelyBy_196 ?_
                    refine g_if_lt C (pc := 197) 203 dX11_likelyBy_197 (by decide) (fun c197 => ?_) (fun c197 => ?_)
                    · have hcc : valF F sd (k - 1) b w i0 < a := by
                        rw [ev167, e164, hB, hs6] at c197
                        exact (cmp_lt hv6 ha31).mp c197
                      have hstep : bstK false (valF F sd (k - 1) b w) (i0 + 1) = some (valF F sd (k - 1) b w i0, i0) := by
                        rw [bstK, hs6]
                        show (if (if false = true then a < valF F sd (k - 1) b w i0 else valF F sd (k - 1) b w i0 < a) then some (valF F sd (k - 1) b w i0, i0) else some (a, ix)) = _
                        rw [if_pos (by simpa using hcc)]
                      refine g_lload C (pc := 203) dX11_likelyBy_203 0 rfl ?_
                      refine g_lstore C (pc := 205) dX11_likelyBy_205 (by decide) (fun v205 => [(9, .long v205), (12, .long v167), (11, .int (nI i0)), (5, .int v13), (6, .int v46), (7, .long v102), (0, .ref r), (1, .int (nI sd)), (2, .ref h), (3, .int (nI w)), (4, .int (nI k))]) (fun _ => rfl) (fun v205 ev205 => ?_)
                      refine g_iload C (pc := 207) dX11_likelyBy_207 3 rfl ?_
                      refine g_if_le C (pc := 209) 218 dX11_likelyBy_209 (by decide) (fun c209 => ?_) (fun c209 => ?_)
                      · exact absurd c209 (by rw [ev13, e10]; exact nI_nle (by omega) (by omega))
                      · refine g_aload_n C (pc := 212) dX11_likelyBy_212 8 rfl ?_
                        refine g_iload C (pc := 213) dX11_likelyBy_213 2 rfl ?_
                        refine g_putI C (pc := 215) fl_RX11_234 (by decide) fp_8_4 (Or.inl rfl) ⟨rfl, rfl⟩ (by first | assumption | rfl | omega) (by first | assumption | rfl | omega) hn9 dX11_likelyBy_215 ?_
                        refine g_iinc C (pc := 218) (1) dX11_likelyBy_218 2 rfl (by decide) (by decide) (fun v218 => [(11, .int v218), (9, .long v205), (12, .long v167), (5, .int v13), (6, .int v46), (7, .long v102), (0, .ref r), (1, .int (nI sd)), (2, .ref h), (3, .int (nI w)), (4, .int (nI k))]) (fun _ => rfl) (fun v218 ev218 => ?_)
                        refine g_goto C (pc := 221) 112 dX11_likelyBy_221 (by decide) ?_
                        refine g_lv C [0, 1, 3, 4, 5, 6, 7, 8, 9, 10] rfl (ih112 (i0 + 1) _ _ _ ?_ ?_ ?_ ?_ ?_ ?_ (by omega))
                        · subst ev218; exact nI_1 _
                        · omega
                        · first | (intro i hi; exact (hJ4 i hi)) | (intro i hi; rw [wr_n (fun e9 => hi (by rw [e9]; unfold Sc; omega))]; exact hJ4 i hi)
                        · first | exact hC4 | (intro q m hm; rw [wr_n (by omega)]; exact hC4 q m hm)
                        · first | (rw [ev205, ev167, e164, hstep]; rfl) | (rw [hB, hstep])
                        · first | (rw [hX4, hX, hstep]; rfl) | (rw [hX4, hX, hstep]; done) | (rw [wr_ss, hstep]; rfl)
                    · have hcc : ¬ valF F sd (k - 1) b w i0 < a := by
                        rw [ev167, e164, hB, hs6] at c197
                        exact fun h9 => absurd ((cmp_lt hv6 ha31).mpr h9) (Int32.not_lt.mpr c197)
                      have hstep : bstK false (valF F sd (k - 1) b w) (i0 + 1) = (bstK false (valF F sd (k - 1) b w) i0) := by
                        rw [bstK, hs6]
                        show (if (if false = true then a < valF F sd (k - 1) b w i0 else valF F sd (k - 1) b w i0 < a) then some (valF F sd (k - 1) b w i0, i0) else some (a, ix)) = _
                        rw [if_neg (by simpa using hcc)]
                      refine g_goto C (pc := 200) 218 dX11_likelyBy_200 (by decide) ?_
                      refine g_iinc C (pc := 218) (1) dX11_likelyBy_218 1 rfl (by decide) (by decide) (fun v218 => [(11, .int v218), (12, .long v167), (9, .long wz9), (5, .int v13), (6, .int v46), (7, .long v102), (0, .ref r), (1, .int (nI sd)), (2, .ref h), (3, .int (nI w)), (4, .int (nI k))]) (fun _ => rfl) (fun v218 ev218 => ?_)
                      refine g_goto C (pc := 221) 112 dX11_likelyBy_221 (by decide) ?_
                      refine g_lv C [0, 2, 3, 4, 5, 6, 7, 8, 9, 10] rfl (ih112 (i0 + 1) _ _ _ ?_ ?_ ?_ ?_ ?_ ?_ (by omega))
                      · subst ev218; exact nI_1 _
                      · omega
                      · first | (intro i hi; exact (hJ4 i hi)) | (intro i hi; rw [wr_n (fun e9 => hi (by rw [e9]; unfold Sc; omega))]; exact hJ4 i hi)
                      · first | exact hC4 | (intro q m hm; rw [wr_n (by omega)]; exact hC4 q m hm)
                      · first | (rw [ev205, ev167, e164, hstep]; rfl) | (rw [hB, hstep])
                      · first | (rw [hX4, hX, hstep]; rfl) | (rw [hX4, hX, hstep]; done) | (rw [wr_ss, hstep]; rfl)
            · refine g_iload C (pc := 119) dX11_likelyBy_119 0 rfl ?_
              refine g_if_ne C (pc := 121) 224 dX11_likelyBy_121 (by decide) (fun c121 => ?_) (fun c121 => ?_)
              · have hend : i0 = cntM F b w := by
                  have h0 : i0 ≠ 0 := fun h9 => c121 (by rw [h9]; rfl)
                  rw [ev13, e10] at c116
                  have := (nI_leI (by omega) (by omega)).mp c116
                  omega
                refine g_lload C (pc := 224) dX11_likelyBy_224 1 rfl ?_
                refine g_lret C hR (pc := 226) rfl dX11_likelyBy_226 ?_
                refine ⟨rfl, _, rfl, ?_⟩
                have hbE : ∃ a ix, bstK false (valF F sd (k - 1) b w) (cntM F b w) = some (a, ix) ∧ wz9 = lN a ∧ J h 4 = idxI false (some (a, ix)) := by
                  first
                  | (obtain ⟨a, ix, h1, -, -⟩ := bstK_some (wants := false) (f := (valF F sd (k - 1) b w)) (cntM_pos (F := F) (b := b) (w := w))
                     exact ⟨a, ix, h1, by rw [hB, hend, h1]; rfl, by rw [hX, hend, h1]⟩)
                  | (obtain ⟨⟨a, ix⟩, h1, h2⟩ := Option.map_eq_some_iff.mp hstop
                     have h2 : a = 0 := h2
                     exact ⟨a, ix, bst_end h1 hi0 (fun j => by rw [h2]; exact Nat.zero_le _), by rw [hB, h1]; rfl, by rw [hX, h1]⟩)
                obtain ⟨a, ix, h1, h2, h3⟩ := hbE
                refine ⟨?_, ?_, hJ⟩
                · unfold valW valB; rw [hwB, h1]; exact h2
                · rw [h3]; unfold chW valB; rw [hwB, h1]
                  rw [if_neg (by omega)]; rfl
              · have hlt : i0 < cntM F b w := by
                  have h0 : i0 = 0 := (nI_eq (b := 0) (by omega) (by decide)).mp c121
                  have := cntM_pos (F := F) (b := b) (w := w)
                  omega
                refine g_lload C (pc := 124) dX11_likelyBy_124 1 rfl ?_
                refine g_lload C (pc := 126) dX11_likelyBy_126 4 rfl ?_
                refine g_lcmp C (pc := 128) dX11_likelyBy_128 ?_
                refine g_if_eq C (pc := 129) 224 dX11_likelyBy_129 (by decide) (fun c129 => ?_) (fun c129 => ?_)
                · have hstop : (bstK false (valF F sd (k - 1) b w) i0).map (fun q => q.1) = some 0 := by
                    rw [hB, hut] at c129
                    exact (cmp_best hbk31 (by have := pw3 hAO (show k - 1 ≤ 3 by omega); omega)).mp c129
                  refine g_lload C (pc := 224) dX11_likelyBy_224 1 rfl ?_
                  refine g_lret C hR (pc := 226) rfl dX11_likelyBy_226 ?_
                  refine ⟨rfl, _, rfl, ?_⟩
                  have hbE : ∃ a ix, bstK false (valF F sd (k - 1) b w) (cntM F b w) = some (a, ix) ∧ wz9 = lN a ∧ J h 4 = idxI false (some (a, ix)) := by
                    first
                    | (obtain ⟨a, ix, h1, -, -⟩ := bstK_some (wants := false) (f := (valF F sd (k - 1) b w)) (cntM_pos (F := F) (b := b) (w := w))
                       exact ⟨a, ix, h1, by rw [hB, hend, h1]; rfl, by rw [hX, hend, h1]⟩)
                    | (obtain ⟨⟨a, ix⟩, h1, h2⟩ := Option.map_eq_some_iff.mp hstop
                       have h2 : a = 0 := h2
                       exact ⟨a, ix, bst_end h1 hi0 (fun j => by rw [h2]; exact Nat.zero_le _), by rw [hB, h1]; rfl, by rw [hX, h1]⟩)
                  obtain ⟨a, ix, h1, h2, h3⟩ := hbE
                  refine ⟨?_, ?_, hJ⟩
                  · unfold valW valB; rw [hwB, h1]; exact h2
                  · rw [h3]; unfold chW valB; rw [hwB, h1]
                    rw [if_neg (by omega)]; rfl
                · refine g_aload_n C (pc := 132) dX11_likelyBy_132 7 rfl ?_
                  refine g_aload_n C (pc := 133) dX11_likelyBy_133 5 rfl ?_
                  refine g_iload_n C (pc := 134) dX11_likelyBy_134 8 rfl ?_
                  refine g_iload C (pc := 135) dX11_likelyBy_135 2 rfl ?_
                  refine g_if_le C (pc := 137) 149 dX11_likelyBy_137 (by decide) (fun c137 => ?_) (fun c137 => ?_)
                  · exact absurd c137 (by rw [ev13, e10]; exact nI_nle (by omega) (by omega))
                  · refine g_aload_n C (pc := 140) dX11_likelyBy_140 7 rfl ?_
                    refine g_iload C (pc := 141) dX11_likelyBy_141 0 rfl ?_
                    refine g_callVI C (pc := 143) mf_X9_moveAt lk_RX11_193 (c_X9_moveAt n ρ J h i0 _ hn9 hsp (by omega) rfl) (by omega) (Nat.le_refl _) rfl (by first | assumption | rfl | omega) rfl (by first | assumption | rfl | omega) (Nat.le_of_ble_eq_true rfl) dX11_likelyBy_143 (fun v143 I143 h143 => ?_)
                    obtain ⟨e143, rfl⟩ := h143
                    refine g_goto C (pc := 146) 151 dX11_likelyBy_146 (by decide) ?_
                    refine g_callVV C (pc := 151) mf_X9_tread lk_RX11_378 (c_X9_tread n ρ J h (h - 6) r w F b ((mvs F b w)[i0]?) _ hn9 hsp hnx hgo.1 (fun i k h1 h2 => by omega) (fun i k h1 h2 => by omega) hrf hrrJ hrw hbrJ hbw hwd (fun m hm => ⟨(mvs_ok hm).1, (mvs_ok hm).2.1⟩) (by rw [e143, List.getElem?_eq_getElem (by omega), hC i0 _ (List.getElem?_eq_getElem (by omega))]; rfl)) (by omega) (Nat.le_refl _) rfl (by first | assumption | rfl | omega) rfl (by first | assumption | rfl | omega) (Nat.le_of_ble_eq_true rfl) dX11_likelyBy_151 (fun I151 h151 => ?_)
                    obtain ⟨h151, g151⟩ := h151
                    have hrr4 : RR I151 r F := hrrJ.cong (fun i hi => g151 _ (by omega) (by omega) (by omega) (by omega))
                    refine g_aload_n C (pc := 154) dX11_likelyBy_154 5 rfl ?_
                    refine g_iload_n C (pc := 155) dX11_likelyBy_155 6 rfl ?_
                    refine g_aload_n C (pc := 156) dX11_likelyBy_156 7 rfl ?_
                    refine g_getR C (pc := 157) fl_RX11_371 (by decide) (by first | assumption | rfl | omega) (by first | assumption | rfl | omega) (by first | assumption | rfl | omega) dX11_likelyBy_157 ?_
                    refine g_iload C (pc := 160) dX11_likelyBy_160 9 rfl ?_
                    refine g_iconst C (pc := 162) 1 dX11_likelyBy_162 (by decide) ?_
                    refine g_isub C (pc := 163) dX11_likelyBy_163 ?_
                    refine g_callSL C (pc := 164) mf_X11_likely lk_RX11_214 (hL hk2 n ρ I151 r (h - 6) sd F _ _ _ hn9 hrf hgo.2 hrr4 hrw hkw (by rw [show h - 6 + 1 = h - 6 + 1 from rfl]; exact h151) (playB_W hbw (fun m hm => ⟨(mvs_ok hm).1, (mvs_ok hm).2.1⟩)) hsd (by omega) (by omega) rfl (pk_sub (b := 1) (by omega))) (by omega) (Nat.le_refl _) rfl (Nat.le_of_ble_eq_true rfl) dX11_likelyBy_164 (fun v164 I164 h164 => ?_)
                    obtain ⟨e164, g164⟩ := h164
                    have hJ4 : ∀ i, ¬ Sc (k - 1) h i → I164 i = I i := fun i hi => (g164 i (fun e9 => hi (by unfold Sc at e9 ⊢; omega))).trans ((g151 i (fun e9 => hi (by unfold Sc; omega)) (fun e9 => hi (by unfold Sc; omega)) (fun e9 => hi (by unfold Sc; omega)) (fun e9 => hi (by unfold Sc; omega))).trans (hJ i hi))
                    have hC4 : ∀ (q m : Nat), (mvs F b w)[q]? = some m → I164 (h + 5) q = nI m := fun q m hm => by
                      rw [g164 _ (by unfold Sc; omega), g151 _ (by omega) (by omega) (by omega) (by omega)]; exact hC q m hm
                    have hX4 : I164 h 4 = J h 4 := by rw [g164 _ (by unfold Sc; omega), g151 _ (by omega) (by omega) (by omega) (by omega)]
                    refine g_lstore C (pc := 167) dX11_likelyBy_167 (by decide) (fun v167 => [(12, .long v167), (11, .int (nI i0)), (9, .long wz9), (5, .int v13), (6, .int v46), (7, .long v102), (0, .ref r), (1, .int (nI sd)), (2, .ref h), (3, .int (nI w)), (4, .int (nI k))]) (fun _ => rfl) (fun v167 ev167 => ?_)
                    refine g_lload C (pc := 169) dX11_likelyBy_169 2 rfl ?_
                    refine g_lconst C (pc := 171) 0 dX11_likelyBy_171 (by decide) ?_
                    refine g_lcmp C (pc := 172) dX11_likelyBy_172 ?_
                    refine g_if_lt C (pc := 173) 203 dX11_likelyBy_173 (by decide) (fun c173 => ?_) (fun c173 => ?_)
                    · have hnn : (bstK false (valF F sd (k - 1) b w) i0).map (fun q => q.1) = none := (cmp_best0 hbk31).mp (by rw [hB] at c173; exact c173)
                      have hi00 : i0 = 0 := bstK_fst_none hnn
                      have hstep : bstK false (valF F sd (k - 1) b w) (i0 + 1) = some (valF F sd (k - 1) b w i0, i0) := by rw [hi00, bstK, bstK]
                      refine g_lload C (pc := 203) dX11_likelyBy_203 0 rfl ?_
                      refine g_lstore C (pc := 205) dX11_likelyBy_205 (by decide) (fun v205 => [(9, .long v205), (12, .long v167), (11, .int (nI i0)), (5, .int v13), (6, .int v46), (7, .long v102), (0, .ref r), (1, .int (nI sd)), (2, .ref h), (3, .int (nI w)), (4, .int (nI k))]) (fun _ => rfl) (fun v205 ev205 => ?_)
                      refine g_iload C (pc := 207) dX11_likelyBy_207 3 rfl ?_
                      refine g_if_le C (pc := 209) 218 dX11_likelyBy_209 (by decide) (fun c209 => ?_) (fun c209 => ?_)
                      · exact absurd c209 (by rw [ev13, e10]; exact nI_nle (by omega) (by omega))
                      · refine g_aload_n C (pc := 212) dX11_likelyBy_212 8 rfl ?_
                        refine g_iload C (pc := 213) dX11_likelyBy_213 2 rfl ?_
                        refine g_putI C (pc := 215) fl_RX11_234 (by decide) fp_8_4 (Or.inl rfl) ⟨rfl, rfl⟩ (by first | assumption | rfl | omega) (by first | assumption | rfl | omega) hn9 dX11_likelyBy_215 ?_
                        refine g_iinc C (pc := 218) (1) dX11_likelyBy_218 2 rfl (by decide) (by decide) (fun v218 => [(11, .int v218), (9, .long v205), (12, .long v167), (5, .int v13), (6, .int v46), (7, .long v102), (0, .ref r), (1, .int (nI sd)), (2, .ref h), (3, .int (nI w)), (4, .int (nI k))]) (fun _ => rfl) (fun v218 ev218 => ?_)
                        refine g_goto C (pc := 221) 112 dX11_likelyBy_221 (by decide) ?_
                        refine g_lv C [0, 1, 3, 4, 5, 6, 7, 8, 9, 10] rfl (ih112 (i0 + 1) _ _ _ ?_ ?_ ?_ ?_ ?_ ?_ (by omega))
                        · subst ev218; exact nI_1 _
                        · omega
                        · first | (intro i hi; exact (hJ4 i hi)) | (intro i hi; rw [wr_n (fun e9 => hi (by rw [e9]; unfold Sc; omega))]; exact hJ4 i hi)
                        · first | exact hC4 | (intro q m hm; rw [wr_n (by omega)]; exact hC4 q m hm)
                        · first | (rw [ev205, ev167, e164, hstep]; rfl) | (rw [hB, hstep])
                        · first | (rw [hX4, hX, hstep]; rfl) | (rw [hX4, hX, hstep]; done) | (rw [wr_ss, hstep]; rfl)
                    · obtain ⟨a, ix, hs6⟩ : ∃ a ix, (bstK false (valF F sd (k - 1) b w) i0) = some (a, ix) := by
                        cases h9 : (bstK false (valF F sd (k - 1) b w) i0) with
                        | none => exact absurd ((cmp_best0 hbk31).mpr (by rw [h9]; rfl)) (by rw [hB] at c173; exact Int32.not_lt.mpr c173)
                        | some q => exact ⟨q.1, q.2, rfl⟩
                      have ha31 : a < 2 ^ 31 := hbk31 a (by rw [hs6]; rfl)
                      have hv6 : valF F sd (k - 1) b w i0 < 2 ^ 31 := Nat.lt_of_le_of_lt (val_le (k - 1) _) (by have := pw3 hAO (show k - 1 ≤ 3 by omega); omega)
                      refine g_iload C (pc := 176) dX11_likelyBy_176 4 rfl ?_
                      refine g_if_eq C (pc := 178) 192 dX11_likelyBy_178 (by decide) (fun c178 => ?_) (fun c178 => absurd c178 (by first | decide | (subst_vars; decide)))
                      refine g_lload C (pc := 192) dX11_likelyBy_192 0 rfl ?_
                      refine g_lload C (pc := 194) dX11_likelyBy_194 2 rfl ?_
                      refine g_lcmp C (pc := 196) dX11_likelyBy_196 ?_
                      refine g_if_lt C (pc := 197) 203 dX11_likelyBy_197 (by decide) (fun c197 => ?_) (fun c197 => ?_)
                      · have hcc : valF F sd (k - 1) b w i0 < a := by
                          rw [ev167, e164, hB, hs6] at c197
                          exact (cmp_lt hv6 ha31).mp c197
                        have hstep : bstK false (valF F sd (k - 1) b w) (i0 + 1) = some (valF F sd (k - 1) b w i0, i0) := by
                          rw [bstK, hs6]
                          show (if (if false = true then a < valF F sd (k - 1) b w i0 else valF F sd (k - 1) b w i0 < a) then some (valF F sd (k - 1) b w i0, i0) else some (a, ix)) = _
                          rw [if_pos (by simpa using hcc)]
                        refine g_lload C (pc := 203) dX11_likelyBy_203 0 rfl ?_
                        refine g_lstore C (pc := 205) dX11_likelyBy_205 (by decide) (fun v205 => [(9, .long v205), (12, .long v167), (11, .int (nI i0)), (5, .int v13), (6, .int v46), (7, .long v102), (0, .ref r), (1, .int (nI sd)), (2, .ref h), (3, .int (nI w)), (4, .int (nI k))]) (fun _ => rfl) (fun v205 ev205 => ?_)
                        refine g_iload C (pc := 207) dX11_likelyBy_207 3 rfl ?_
                        refine g_if_le C (pc := 209) 218 dX11_likelyBy_209 (by decide) (fun c209 => ?_) (fun c209 => ?_)
                        · exact absurd c209 (by rw [ev13, e10]; exact nI_nle (by omega) (by omega))
                        · refine g_aload_n C (pc := 212) dX11_likelyBy_212 8 rfl ?_
                          refine g_iload C (pc := 213) dX11_likelyBy_213 2 rfl ?_
                          refine g_putI C (pc := 215) fl_RX11_234 (by decide) fp_8_4 (Or.inl rfl) ⟨rfl, rfl⟩ (by first | assumption | rfl | omega) (by first | assumption | rfl | omega) hn9 dX11_likelyBy_215 ?_
                          refine g_iinc C (pc := 218) (1) dX11_likelyBy_218 2 rfl (by decide) (by decide) (fun v218 => [(11, .int v218), (9, .long v205), (12, .long v167), (5, .int v13), (6, .int v46), (7, .long v102), (0, .ref r), (1, .int (nI sd)), (2, .ref h), (3, .int (nI w)), (4, .int (nI k))]) (fun _ => rfl) (fun v218 ev218 => ?_)
                          refine g_goto C (pc := 221) 112 dX11_likelyBy_221 (by decide) ?_
                          refine g_lv C [0, 1, 3, 4, 5, 6, 7, 8, 9, 10] rfl (ih112 (i0 + 1) _ _ _ ?_ ?_ ?_ ?_ ?_ ?_ (by omega))
                          · subst ev218; exact nI_1 _
                          · omega
                          · first | (intro i hi; exact (hJ4 i hi)) | (intro i hi; rw [wr_n (fun e9 => hi (by rw [e9]; unfold Sc; omega))]; exact hJ4 i hi)
                          · first | exact hC4 | (intro q m hm; rw [wr_n (by omega)]; exact hC4 q m hm)
                          · first | (rw [ev205, ev167, e164, hstep]; rfl) | (rw [hB, hstep])
                          · first | (rw [hX4, hX, hstep]; rfl) | (rw [hX4, hX, hstep]; done) | (rw [wr_ss, hstep]; rfl)
                      · have hcc : ¬ valF F sd (k - 1) b w i0 < a := by
                          rw [ev167, e164, hB, hs6] at c197
                          exact fun h9 => absurd ((cmp_lt hv6 ha31).mpr h9) (Int32.not_lt.mpr c197)
                        have hstep : bstK false (valF F sd (k - 1) b w) (i0 + 1) = (bstK false (valF F sd (k - 1) b w) i0) := by
                          rw [bstK, hs6]
                          show (if (if false = true then a < valF F sd (k - 1) b w i0 else valF F sd (k - 1) b w i0 < a) then some (valF F sd (k - 1) b w i0, i0) else some (a, ix)) = _
                          rw [if_neg (by simpa using hcc)]
                        refine g_goto C (pc := 200) 218 dX11_likelyBy_200 (by decide) ?_
                        refine g_iinc C (pc := 218) (1) dX11_likelyBy_218 1 rfl (by decide) (by decide) (fun v218 => [(11, .int v218), (12, .long v167), (9, .long wz9), (5, .int v13), (6, .int v46), (7, .long v102), (0, .ref r), (1, .int (nI sd)), (2, .ref h), (3, .int (nI w)), (4, .int (nI k))]) (fun _ => rfl) (fun v218 ev218 => ?_)
                        refine g_goto C (pc := 221) 112 dX11_likelyBy_221 (by decide) ?_
                        refine g_lv C [0, 2, 3, 4, 5, 6, 7, 8, 9, 10] rfl (ih112 (i0 + 1) _ _ _ ?_ ?_ ?_ ?_ ?_ ?_ (by omega))
                        · subst ev218; exact nI_1 _
                        · omega
                        · first | (intro i hi; exact (hJ4 i hi)) | (intro i hi; rw [wr_n (fun e9 => hi (by rw [e9]; unfold Sc; omega))]; exact hJ4 i hi)
                        · first | exact hC4 | (intro q m hm; rw [wr_n (by omega)]; exact hC4 q m hm)
                        · first | (rw [ev205, ev167, e164, hstep]; rfl) | (rw [hB, hstep])
                        · first | (rw [hX4, hX, hstep]; rfl) | (rw [hX4, hX, hstep]; done) | (rw [wr_ss, hstep]; rfl)
        refine g_lv C [0, 1, 4, 3, 2, 5, 6, 7, 8, 9] rfl (L112 (_ + 1) 0 _ _ _ ?_ ?_ ?_ ?_ ?_ ?_ (by first | omega | exact Nat.lt_succ_self _))
        · subst ev110; rfl
        · omega
        · intro i hi; rw [wr_n (fun e9 => hi (by rw [e9]; unfold Sc; omega))]; exact g10 i (fun e9 => hi (by rw [e9]; unfold Sc; omega))
        · intro q m hm; rw [wr_n (by omega)]; exact f10 q m hm
        · subst ev107; rfl
        · rw [wr_ss]; rfl
      · have hk1 : k = 1 := by
          have := (nI_leI (a := k) (b := 1) (by omega) (by decide)).mp c58
          omega
        refine g_iload C (pc := 61) dX11_likelyBy_61 0 rfl ?_
        refine g_if_eq C (pc := 63) 80 dX11_likelyBy_63 (by decide) (fun c63 => ?_) (fun c63 => absurd c63 (by first | decide | (subst_vars; decide)))
        refine g_lconst C (pc := 80) 0 dX11_likelyBy_80 (by decide) ?_
        refine g_lret C hR (pc := 81) rfl dX11_likelyBy_81 ?_
        refine ⟨rfl, _, rfl, ?_⟩
        have hval : bstK false (valF F sd 0 b w) (cntM F b w) = some (0, 0) := bst_zero cntM_pos (fun i _ => valF0_other hrw hbw hno hsd hwn)
        refine ⟨?_, ?_, hfr1⟩
        · unfold valW valB; rw [hwB, hk1, hval]; rfl
        · rw [wr_ss]; unfold chW valB; rw [hwB, hk1, hval]
          rw [if_neg (by omega)]; rfl
    · exact absurd ((nI_eq (by omega) (by omega)).mp (hbr1.1.symm.trans c38)) hwn
set_option maxHeartbeats 400000 in
theorem c_X11_likelyBy_11 (n : Nat) (ρ : Rho) (I : Mem) (r h sd w k : Nat) (F : RT) (b : BT) (xs xw xk : Int32) (hn9 : n ≤ 999) (hrf : Rf n ρ r) (hch : Ch n ρ k h) (hrr : RR I r F) (hrw : RW F) (hkw : KW F) (hbr : BR I (h + 1) F b) (hbw : BW F b) (hsd : sd < 2) (hwd : w < 5) (hno : lostP F b = none) (hrh : r + 3 + 6 * k < h) (hk1l : 1 ≤ k) (hk3 : k ≤ 3) (hxs : xs = nI sd) (hxw : xw = nI w) (hxk : xk = nI k) (hL : 1 < k → LikC (k - 1)) (hwn : bM b = sd) (hlen : (mvs F b w).length = 0) : ML yX11_likelyBy cX11_likelyBy 14 (some .long) (9 + 2 * k) [.ref r, .int xs, .ref h, .int xw, .int xk] n ρ I (fun v I1 => v = lN (valW F sd (k - 1) b w) ∧ I1 h 4 = oI (chW F sd (k - 1) b w) ∧ ∀ i, ¬ Sc (k - 1) h i → I1 i = I i) := by
  refine MG.of (by decide +kernel) (Nat.le_of_ble_eq_true rfl) hn9 ?_
  intro κ C hR
  show G κ n ρ 0 [(0, .ref r), (1, .int xs), (2, .ref h), (3, .int xw), (4, .int xk)] [] I
  subst hxs hxw hxk
  have hsp := hch.sp
  obtain ⟨hp0, hpn, hp1, hp2, hp3, hp4⟩ := id hsp
  obtain ⟨hs0, hs1, hs2, hs3, hsn, hr0, hr1, hr2⟩ := id hp4
  obtain ⟨hq0, hq1, hq2, hq3, hqn, ht0, ht1, ht2⟩ := id hrf
  have hnp : rN F ≤ 6 := hrw.2.2.2.2.1
  have hN := hrr.2.2.1
  have hAO := allO_le hrw
  have hM2 := hbw.1
  have hmv := hbr.1
  have hnx := hch.nx hk1l
  have hml := mvs_len (F := F) (b := b) (w := w) hnp
  have hwB : (bM b == sd) = true := by rw [hwn]; exact beq_self_eq_true sd
  obtain ⟨kp, hkp⟩ := hkw.1 (1 - bM b) (by omega)
  obtain ⟨kq, hkq⟩ := lost_none hno kp (kingB_at hkp).1 (kingB_at hkp).2.1
  have hbv : ∀ i a ix, bstK true (valF F sd (k - 1) b w) i = some (a, ix) → a ≤ pw (allO F) (k - 1) := by
    intro i a ix h9
    cases i with
    | zero => rw [bstK] at h9; cases h9
    | succ i =>
      obtain ⟨a2, i2, e1, -, e3⟩ := bstK_some (wants := true) (f := valF F sd (k - 1) b w) (Nat.succ_pos i)
      rw [h9] at e1; cases e1; rw [← e3]; exact val_le (k - 1) _
  refine g_aload_n C (pc := 0) dX11_likelyBy_0 2 rfl ?_
  refine g_getR C (pc := 1) fl_RX11_210 (by decide) (by first | assumption | rfl | omega) (by first | assumption | rfl | omega) (by first | assumption | rfl | omega) dX11_likelyBy_1 ?_
  refine g_aload_n C (pc := 4) dX11_likelyBy_4 0 rfl ?_
  refine g_iload_n C (pc := 5) dX11_likelyBy_5 3 rfl ?_
  refine g_aload_n C (pc := 6) dX11_likelyBy_6 2 rfl ?_
  refine g_getR C (pc := 7) fl_RX11_296 (by decide) (by first | assumption | rfl | omega) (by first | assumption | rfl | omega) (by first | assumption | rfl | omega) dX11_likelyBy_7 ?_
  refine g_callVI C (pc := 10) mf_X8_listMoves lk_RX11_300 (c_X8_listMoves n ρ I (h + 1) r w (h + 5) F b hn9 hp4 hrf hrr hrw hbr hbw hwd hp3 (by omega) (fun i hi => ⟨by omega, by omega⟩)) (by omega) (Nat.le_refl _) rfl (by first | assumption | rfl | omega) rfl (by first | assumption | rfl | omega) (Nat.le_of_ble_eq_true rfl) dX11_likelyBy_10 (fun v10 I10 h10 => ?_)
  obtain ⟨e10, f10, g10⟩ := h10
  have hm10 : I10 (h + 1) 3 = nI (bM b) := by rw [g10 _ (by omega)]; exact hmv
  have hcnt : cntM F b w = 1 := by unfold cntM; rw [if_pos hlen]
  refine g_istore C (pc := 13) dX11_likelyBy_13 (by decide) (fun v13 => [(5, .int v13), (0, .ref r), (1, .int (nI sd)), (2, .ref h), (3, .int (nI w)), (4, .int (nI k))]) (fun _ => rfl) (fun v13 ev13 => ?_)
  refine g_aload_n C (pc := 15) dX11_likelyBy_15 3 rfl ?_
  refine g_iload C (pc := 16) dX11_likelyBy_16 0 rfl ?_
  refine g_if_le C (pc := 18) 25 dX11_likelyBy_18 (by decide) (fun c18 => ?_) (fun c18 => ?_)
  · refine g_bipush C (pc := 25) (-4) dX11_likelyBy_25 (by decide) ?_
    refine g_putI C (pc := 27) fl_RX11_234 (by decide) fp_8_4 (Or.inl rfl) ⟨rfl, rfl⟩ (by first | assumption | rfl | omega) (by first | assumption | rfl | omega) hn9 dX11_likelyBy_27 ?_
    have hrr1 : RR (wr I10 h 4 (-4)) r F := hrr.cong (fun i hi => by rw [wr_n (by omega), g10 _ (by omega)])
    have hbr1 : BR (wr I10 h 4 (-4)) (h + 1) F b := hbr.cong (fun i hi => by rw [wr_n (by omega), g10 _ (by omega)])
    have hfr1 : ∀ i, ¬ Sc (k - 1) h i → wr I10 h 4 (-4) i = I i := by
      intro i hi
      rw [wr_n (fun e9 => hi (by rw [e9]; unfold Sc; omega))]; exact g10 i (fun e9 => hi (by rw [e9]; unfold Sc; omega))
    refine g_aload_n C (pc := 30) dX11_likelyBy_30 3 rfl ?_
    refine g_getR C (pc := 31) fl_RX11_210 (by decide) (by first | assumption | rfl | omega) (by first | assumption | rfl | omega) (by first | assumption | rfl | omega) dX11_likelyBy_31 ?_
    refine g_getI C (pc := 34) fl_RX11_125 (by decide) (by first | assumption | rfl | omega) (by first | assumption | rfl | omega) dX11_likelyBy_34 ?_
    refine g_iload_n C (pc := 37) dX11_likelyBy_37 2 rfl ?_
    refine g_icmp_ne C (pc := 38) 45 dX11_likelyBy_38 (by decide) (fun c38 => ?_) (fun c38 => ?_)
    · exact absurd (hbr1.1.trans (by rw [hwn])) c38
    · refine g_iconst C (pc := 41) 1 dX11_likelyBy_41 (by decide) ?_
      refine g_goto C (pc := 42) 46 dX11_likelyBy_42 (by decide) ?_
      refine g_istore C (pc := 46) dX11_likelyBy_46 (by decide) (fun v46 => [(6, .int v46), (5, .int v13), (0, .ref r), (1, .int (nI sd)), (2, .ref h), (3, .int (nI w)), (4, .int (nI k))]) (fun _ => rfl) (fun v46 ev46 => ?_)
      refine g_aload_n C (pc := 48) dX11_likelyBy_48 4 rfl ?_
      refine g_getR C (pc := 49) fl_RX11_371 (by decide) (by first | assumption | rfl | omega) (by first | assumption | rfl | omega) hnx dX11_likelyBy_49 ?_
      refine g_ifnull C (pc := 52) dX11_likelyBy_52 ?_
      refine g_iload C (pc := 55) dX11_likelyBy_55 6 rfl ?_
      refine g_iconst C (pc := 57) 1 dX11_likelyBy_57 (by decide) ?_
      refine g_icmp_gt C (pc := 58) 82 dX11_likelyBy_58 (by decide) (fun c58 => ?_) (fun c58 => ?_)
      · have hk2 : 1 < k := (nI_ltI (a := 1) (b := k) (by decide) (by omega)).mp c58
        obtain ⟨k0, hkk⟩ : ∃ k0, k = k0 + 1 := ⟨k - 1, by omega⟩
        have hgo := hch.go hkk
        refine g_iload C (pc := 82) dX11_likelyBy_82 0 rfl ?_
        refine g_if_eq C (pc := 84) 101 dX11_likelyBy_84 (by decide) (fun c84 => absurd c84 (by first | decide | (subst_vars; decide))) (fun c84 => ?_)
        refine g_aload_n C (pc := 87) dX11_likelyBy_87 2 rfl ?_
        refine g_callVI C (pc := 88) mf_X5_allOdds lk_RX11_180 (c_X5_allOdds n ρ _ r F hn9 hrf hrr1) (by omega) (Nat.le_refl _) rfl (by first | assumption | rfl | omega) rfl (by first | assumption | rfl | omega) (Nat.le_of_ble_eq_true rfl) dX11_likelyBy_88 (fun v88 I88 h88 => ?_)
        obtain ⟨e88, rfl⟩ := h88
        refine g_iload C (pc := 91) dX11_likelyBy_91 6 rfl ?_
        refine g_iconst C (pc := 93) 1 dX11_likelyBy_93 (by decide) ?_
        refine g_isub C (pc := 94) dX11_likelyBy_94 ?_
        refine g_callSL C (pc := 95) mf_X11_power lk_RX11_218 (c_X11_power n ρ _ (allO F) (k - 1) _ _ hn9 (by omega) (by omega) e88 (pk_sub (b := 1) (by omega))) (by omega) (Nat.le_refl _) rfl (Nat.le_of_ble_eq_true rfl) dX11_likelyBy_95 (fun v95 I95 h95 => ?_)
        obtain ⟨e95, rfl⟩ := h95
        refine g_goto C (pc := 98) 102 dX11_likelyBy_98 (by decide) ?_
        refine g_lstore C (pc := 102) dX11_likelyBy_102 (by decide) (fun v102 => [(7, .long v102), (6, .int v46), (5, .int v13), (0, .ref r), (1, .int (nI sd)), (2, .ref h), (3, .int (nI w)), (4, .int (nI k))]) (fun _ => rfl) (fun v102 ev102 => ?_)
        have hut : v102 = lN (pw (allO F) (k - 1)) := by subst ev102; exact e95
        refine g_ldc2 C (pc := 104) _ gk_RX11_208 dX11_likelyBy_104 ?_
        refine g_lstore C (pc := 107) dX11_likelyBy_107 (by decide) (fun v107 => [(9, .long v107), (7, .long v102), (6, .int v46), (5, .int v13), (0, .ref r), (1, .int (nI sd)), (2, .ref h), (3, .int (nI w)), (4, .int (nI k))]) (fun _ => rfl) (fun v107 ev107 => ?_)
        refine g_iconst C (pc := 109) 0 dX11_likelyBy_109 (by decide) ?_
        refine g_istore C (pc := 110) dX11_likelyBy_110 (by decide) (fun v110 => [(11, .int v110), (9, .long v107), (7, .long v102), (6, .int v46), (5, .int v13), (0, .ref r), (1, .int (nI sd)), (2, .ref h), (3, .int (nI w)), (4, .int (nI k))]) (fun _ => rfl) (fun v110 ev110 => ?_)
        have L112 : ∀ (k9 : Nat) (i0 : Nat) (wz11 : Int32) (wz9 : Int64) (J : Mem) (hw11 : wz11 = nI i0) (hi0 : i0 ≤ cntM F b w) (hJ : ∀ i, ¬ Sc (k - 1) h i → J i = I i) (hC : ∀ (q m : Nat), (mvs F b w)[q]? = some m → J (h + 5) q = nI m) (hB : wz9 = lO ((bstK true (valF F sd (k - 1) b w) i0).map (fun q => q.1))) (hX : J h 4 = idxI true (bstK true (valF F sd (k - 1) b w) i0)), cntM F b w - i0 < k9 → G κ n ρ 112 [(11, .int wz11), (9, .long wz9), (5, .int v13), (6, .int v46), (7, .long v102), (0, .ref r), (1, .int (nI sd)), (2, .ref h), (3, .int (nI w)), (4, .int (nI k))] [] J := by
          intro k9
          induction k9 with
          | zero => intro i0 wz11 wz9 J hw11 hi0 hJ hC hB hX hm112; exact absurd hm112 (Nat.not_lt_zero _)
          | succ k9 ih112 =>
            intro i0 wz11 wz9 J hw11 hi0 hJ hC hB hX hm112
            subst hw11
            have hrrJ : RR J r F := hrr.cong (fun i hi => hJ _ (by unfold Sc; omega))
            have hbrJ : BR J (h + 1) F b := hbr.cong (fun i hi => hJ _ (by unfold Sc; omega))
            have hbk31 : ∀ a, (bstK true (valF F sd (k - 1) b w) i0).map (fun q => q.1) = some a → a < 2 ^ 31 := by
              intro a ha
              obtain ⟨⟨a2, ix⟩, h1, h2⟩ := Option.map_eq_some_iff.mp ha
              have h2 : a2 = a := h2
              subst h2
              exact Nat.lt_of_le_of_lt (hbv i0 a2 ix h1) (by have := pw3 hAO (show k - 1 ≤ 3 by omega); omega)
            refine g_iload C (pc := 112) dX11_likelyBy_112 0 rfl ?_
            refine g_iload C (pc := 114) dX11_likelyBy_114 2 rfl ?_
            refine g_icmp_lt C (pc := 116) 124 dX11_likelyBy_116 (by decide) (fun c116 => ?_) (fun c116 => ?_)
            · rw [ev13, e10, hlen] at c116; exact absurd c116 (nI_pos (by omega))
            · refine g_iload C (pc := 119) dX11_likelyBy_119 0 rfl ?_
              refine g_if_ne C (pc := 121) 224 dX11_likelyBy_121 (by decide) (fun c121 => ?_) (fun c121 => ?_)
              · have hend : i0 = cntM F b w := by
                  have h0 : i0 ≠ 0 := fun h9 => c121 (by rw [h9]; rfl)
                  omega
                refine g_lload C (pc := 224) dX11_likelyBy_224 1 rfl ?_
                refine g_lret C hR (pc := 226) rfl dX11_likelyBy_226 ?_
                refine ⟨rfl, _, rfl, ?_⟩
                have hbE : ∃ a ix, bstK true (valF F sd (k - 1) b w) (cntM F b w) = some (a, ix) ∧ wz9 = lN a ∧ J h 4 = idxI true (some (a, ix)) := by
                  first
                  | (obtain ⟨a, ix, h1, -, -⟩ := bstK_some (wants := true) (f := (valF F sd (k - 1) b w)) (cntM_pos (F := F) (b := b) (w := w))
                     exact ⟨a, ix, h1, by rw [hB, hend, h1]; rfl, by rw [hX, hend, h1]⟩)
                  | (obtain ⟨⟨a, ix⟩, h1, h2⟩ := Option.map_eq_some_iff.mp hstop
                     have h2 : a = pw (allO F) (k - 1) := h2
                     exact ⟨a, ix, bst_end h1 hi0 (fun j => by rw [h2]; rw [if_pos rfl]; exact val_le (k - 1) _), by rw [hB, h1]; rfl, by rw [hX, h1]⟩)
                obtain ⟨a, ix, h1, h2, h3⟩ := hbE
                refine ⟨?_, ?_, hJ⟩
                · unfold valW valB; rw [hwB, h1]; exact h2
                · rw [h3]; unfold chW valB; rw [hwB, h1]
                  rw [if_pos hlen]; rfl
              · have hlt : i0 < cntM F b w := by
                  have h0 : i0 = 0 := (nI_eq (b := 0) (by omega) (by decide)).mp c121
                  have := cntM_pos (F := F) (b := b) (w := w)
                  omega
                refine g_lload C (pc := 124) dX11_likelyBy_124 1 rfl ?_
                refine g_lload C (pc := 126) dX11_likelyBy_126 4 rfl ?_
                refine g_lcmp C (pc := 128) dX11_likelyBy_128 ?_
                refine g_if_eq C (pc := 129) 224 dX11_likelyBy_129 (by decide) (fun c129 => ?_) (fun c129 => ?_)
                · have hstop : (bstK true (valF F sd (k - 1) b w) i0).map (fun q => q.1) = some (pw (allO F) (k - 1)) := by
                    rw [hB, hut] at c129
                    exact (cmp_best hbk31 (by have := pw3 hAO (show k - 1 ≤ 3 by omega); omega)).mp c129
                  refine g_lload C (pc := 224) dX11_likelyBy_224 1 rfl ?_
                  refine g_lret C hR (pc := 226) rfl dX11_likelyBy_226 ?_
                  refine ⟨rfl, _, rfl, ?_⟩
                  have hbE : ∃ a ix, bstK true (valF F sd (k - 1) b w) (cntM F b w) = some (a, ix) ∧ wz9 = lN a ∧ J h 4 = idxI true (some (a, ix)) := by
                    first
                    | (obtain ⟨a, ix, h1, -, -⟩ := bstK_some (wants := true) (f := (valF F sd (k - 1) b w)) (cntM_pos (F := F) (b := b) (w := w))
                       exact ⟨a, ix, h1, by rw [hB, hend, h1]; rfl, by rw [hX, hend, h1]⟩)
                    | (obtain ⟨⟨a, ix⟩, h1, h2⟩ := Option.map_eq_some_iff.mp hstop
                       have h2 : a = pw (allO F) (k - 1) := h2
                       exact ⟨a, ix, bst_end h1 hi0 (fun j => by rw [h2]; rw [if_pos rfl]; exact val_le (k - 1) _), by rw [hB, h1]; rfl, by rw [hX, h1]⟩)
                  obtain ⟨a, ix, h1, h2, h3⟩ := hbE
                  refine ⟨?_, ?_, hJ⟩
                  · unfold valW valB; rw [hwB, h1]; exact h2
                  · rw [h3]; unfold chW valB; rw [hwB, h1]
                    rw [if_pos hlen]; rfl
                · refine g_aload_n C (pc := 132) dX11_likelyBy_132 7 rfl ?_
                  refine g_aload_n C (pc := 133) dX11_likelyBy_133 5 rfl ?_
                  refine g_iload_n C (pc := 134) dX11_likelyBy_134 8 rfl ?_
                  refine g_iload C (pc := 135) dX11_likelyBy_135 2 rfl ?_
                  refine g_if_le C (pc := 137) 149 dX11_likelyBy_137 (by decide) (fun c137 => ?_) (fun c137 => ?_)
                  · refine g_bipush C (pc := 149) (-4) dX11_likelyBy_149 (by decide) ?_
                    refine g_callVV C (pc := 151) mf_X9_tread lk_RX11_378 (c_X9_tread n ρ J h (h - 6) r w F b ((mvs F b w)[i0]?) _ hn9 hsp hnx hgo.1 (fun i k h1 h2 => by omega) (fun i k h1 h2 => by omega) hrf hrrJ hrw hbrJ hbw hwd (fun m hm => ⟨(mvs_ok hm).1, (mvs_ok hm).2.1⟩) (by rw [List.eq_nil_of_length_eq_zero hlen]; rfl)) (by omega) (Nat.le_refl _) rfl (by first | assumption | rfl | omega) rfl (by first | assumption | rfl | omega) (Nat.le_of_ble_eq_true rfl) dX11_likelyBy_151 (fun I151 h151 => ?_)
                    obtain ⟨h151, g151⟩ := h151
                    have hrr4 : RR I151 r F := hrrJ.cong (fun i hi => g151 _ (by omega) (by omega) (by omega) (by omega))
                    refine g_aload_n C (pc := 154) dX11_likelyBy_154 5 rfl ?_
                    refine g_iload_n C (pc := 155) dX11_likelyBy_155 6 rfl ?_
                    refine g_aload_n C (pc := 156) dX11_likelyBy_156 7 rfl ?_
                    refine g_getR C (pc := 157) fl_RX11_371 (by decide) (by first | assumption | rfl | omega) (by first | assumption | rfl | omega) (by first | assumption | rfl | omega) dX11_likelyBy_157 ?_
                    refine g_iload C (pc := 160) dX11_likelyBy_160 9 rfl ?_
                    refine g_iconst C (pc := 162) 1 dX11_likelyBy_162 (by decide) ?_
                    refine g_isub C (pc := 163) dX11_likelyBy_163 ?_
                    refine g_callSL C (pc := 164) mf_X11_likely lk_RX11_214 (hL hk2 n ρ I151 r (h - 6) sd F _ _ _ hn9 hrf hgo.2 hrr4 hrw hkw (by rw [show h - 6 + 1 = h - 6 + 1 from rfl]; exact h151) (playB_W hbw (fun m hm => ⟨(mvs_ok hm).1, (mvs_ok hm).2.1⟩)) hsd (by omega) (by omega) rfl (pk_sub (b := 1) (by omega))) (by omega) (Nat.le_refl _) rfl (Nat.le_of_ble_eq_true rfl) dX11_likelyBy_164 (fun v164 I164 h164 => ?_)
                    obtain ⟨e164, g164⟩ := h164
                    have hJ4 : ∀ i, ¬ Sc (k - 1) h i → I164 i = I i := fun i hi => (g164 i (fun e9 => hi (by unfold Sc at e9 ⊢; omega))).trans ((g151 i (fun e9 => hi (by unfold Sc; omega)) (fun e9 => hi (by unfold Sc; omega)) (fun e9 => hi (by unfold Sc; omega)) (fun e9 => hi (by unfold Sc; omega))).trans (hJ i hi))
                    have hC4 : ∀ (q m : Nat), (mvs F b w)[q]? = some m → I164 (h + 5) q = nI m := fun q m hm => by
                      rw [g164 _ (by unfold Sc; omega), g151 _ (by omega) (by omega) (by omega) (by omega)]; exact hC q m hm
                    have hX4 : I164 h 4 = J h 4 := by rw [g164 _ (by unfold Sc; omega), g151 _ (by omega) (by omega) (by omega) (by omega)]
                    refine g_lstore C (pc := 167) dX11_likelyBy_167 (by decide) (fun v167 => [(12, .long v167), (11, .int (nI i0)), (9, .long wz9), (5, .int v13), (6, .int v46), (7, .long v102), (0, .ref r), (1, .int (nI sd)), (2, .ref h), (3, .int (nI w)), (4, .int (nI k))]) (fun _ => rfl) (fun v167 ev167 => ?_)
                    refine g_lload C (pc := 169) dX11_likelyBy_169 2 rfl ?_
                    refine g_lconst C (pc := 171) 0 dX11_likelyBy_171 (by decide) ?_
                    refine g_lcmp C (pc := 172) dX11_likelyBy_172 ?_
                    refine g_if_lt C (pc := 173) 203 dX11_likelyBy_173 (by decide) (fun c173 => ?_) (fun c173 => ?_)
                    · have hnn : (bstK true (valF F sd (k - 1) b w) i0).map (fun q => q.1) = none := (cmp_best0 hbk31).mp (by rw [hB] at c173; exact c173)
                      have hi00 : i0 = 0 := bstK_fst_none hnn
                      have hstep : bstK true (valF F sd (k - 1) b w) (i0 + 1) = some (valF F sd (k - 1) b w i0, i0) := by rw [hi00, bstK, bstK]
                      refine g_lload C (pc := 203) dX11_likelyBy_203 0 rfl ?_
                      refine g_lstore C (pc := 205) dX11_likelyBy_205 (by decide) (fun v205 => [(9, .long v205), (12, .long v167), (11, .int (nI i0)), (5, .int v13), (6, .int v46), (7, .long v102), (0, .ref r), (1, .int (nI sd)), (2, .ref h), (3, .int (nI w)), (4, .int (nI k))]) (fun _ => rfl) (fun v205 ev205 => ?_)
                      refine g_iload C (pc := 207) dX11_likelyBy_207 3 rfl ?_
                      refine g_if_le C (pc := 209) 218 dX11_likelyBy_209 (by decide) (fun c209 => ?_) (fun c209 => ?_)
                      · refine g_iinc C (pc := 218) (1) dX11_likelyBy_218 2 rfl (by decide) (by decide) (fun v218 => [(11, .int v218), (9, .long v205), (12, .long v167), (5, .int v13), (6, .int v46), (7, .long v102), (0, .ref r), (1, .int (nI sd)), (2, .ref h), (3, .int (nI w)), (4, .int (nI k))]) (fun _ => rfl) (fun v218 ev218 => ?_)
                        refine g_goto C (pc := 221) 112 dX11_likelyBy_221 (by decide) ?_
                        refine g_lv C [0, 1, 3, 4, 5, 6, 7, 8, 9, 10] rfl (ih112 (i0 + 1) _ _ _ ?_ ?_ ?_ ?_ ?_ ?_ (by omega))
                        · subst ev218; exact nI_1 _
                        · omega
                        · first | (intro i hi; exact (hJ4 i hi)) | (intro i hi; rw [wr_n (fun e9 => hi (by rw [e9]; unfold Sc; omega))]; exact hJ4 i hi)
                        · first | exact hC4 | (intro q m hm; rw [wr_n (by omega)]; exact hC4 q m hm)
                        · first | (rw [ev205, ev167, e164, hstep]; rfl) | (rw [hB, hstep])
                        · first | (rw [hX4, hX, hstep]; rfl) | (rw [hX4, hX, hstep]; done) | (rw [wr_ss, hstep]; rfl)
                      · exact absurd c209 (by rw [ev13, e10, hlen]; exact Int32.not_lt.mpr (Int32.le_refl 0))
                    · obtain ⟨a, ix, hs6⟩ : ∃ a ix, (bstK true (valF F sd (k - 1) b w) i0) = some (a, ix) := by
                        cases h9 : (bstK true (valF F sd (k - 1) b w) i0) with
                        | none => exact absurd ((cmp_best0 hbk31).mpr (by rw [h9]; rfl)) (by rw [hB] at c173; exact Int32.not_lt.mpr c173)
                        | some q => exact ⟨q.1, q.2, rfl⟩
                      have ha31 : a < 2 ^ 31 := hbk31 a (by rw [hs6]; rfl)
                      have hv6 : valF F sd (k - 1) b w i0 < 2 ^ 31 := Nat.lt_of_le_of_lt (val_le (k - 1) _) (by have := pw3 hAO (show k - 1 ≤ 3 by omega); omega)
                      refine g_iload C (pc := 176) dX11_likelyBy_176 4 rfl ?_
                      refine g_if_eq C (pc := 178) 192 dX11_likelyBy_178 (by decide) (fun c178 => absurd c178 (by first | decide | (subst_vars; decide))) (fun c178 => ?_)
                      refine g_lload C (pc := 181) dX11_likelyBy_181 0 rfl ?_
                      refine g_lload C (pc := 183) dX11_likelyBy_183 2 rfl ?_
                      refine g_lcmp C (pc := 185) dX11_likelyBy_185 ?_
                      refine g_if_gt C (pc := 186) 203 dX11_likelyBy_186 (by decide) (fun c186 => ?_) (fun c186 => ?_)
                      · have hcc : a < valF F sd (k - 1) b w i0 := by
                          rw [ev167, e164, hB, hs6] at c186
                          exact (cmp_gt hv6 ha31).mp c186
                        have hstep : bstK true (valF F sd (k - 1) b w) (i0 + 1) = some (valF F sd (k - 1) b w i0, i0) := by
                          rw [bstK, hs6]
                          show (if (if true = true then a < valF F sd (k - 1) b w i0 else valF F sd (k - 1) b w i0 < a) then some (valF F sd (k - 1) b w i0, i0) else some (a, ix)) = _
                          rw [if_pos (by simpa using hcc)]
                        refine g_lload C (pc := 203) dX11_likelyBy_203 0 rfl ?_
                        refine g_lstore C (pc := 205) dX11_likelyBy_205 (by decide) (fun v205 => [(9, .long v205), (12, .long v167), (11, .int (nI i0)), (5, .int v13), (6, .int v46), (7, .long v102), (0, .ref r), (1, .int (nI sd)), (2, .ref h), (3, .int (nI w)), (4, .int (nI k))]) (fun _ => rfl) (fun v205 ev205 => ?_)
                        refine g_iload C (pc := 207) dX11_likelyBy_207 3 rfl ?_
                        refine g_if_le C (pc := 209) 218 dX11_likelyBy_209 (by decide) (fun c209 => ?_) (fun c209 => ?_)
                        · refine g_iinc C (pc := 218) (1) dX11_likelyBy_218 2 rfl (by decide) (by decide) (fun v218 => [(11, .int v218), (9, .long v205), (12, .long v167), (5, .int v13), (6, .int v46), (7, .long v102), (0, .ref r), (1, .int (nI sd)), (2, .ref h), (3, .int (nI w)), (4, .int (nI k))]) (fun _ => rfl) (fun v218 ev218 => ?_)
                          refine g_goto C (pc := 221) 112 dX11_likelyBy_221 (by decide) ?_
                          refine g_lv C [0, 1, 3, 4, 5, 6, 7, 8, 9, 10] rfl (ih112 (i0 + 1) _ _ _ ?_ ?_ ?_ ?_ ?_ ?_ (by omega))
                          · subst ev218; exact nI_1 _
                          · omega
                          · first | (intro i hi; exact (hJ4 i hi)) | (intro i hi; rw [wr_n (fun e9 => hi (by rw [e9]; unfold Sc; omega))]; exact hJ4 i hi)
                          · first | exact hC4 | (intro q m hm; rw [wr_n (by omega)]; exact hC4 q m hm)
                          · first | (rw [ev205, ev167, e164, hstep]; rfl) | (rw [hB, hstep])
                          · first | (rw [hX4, hX, hstep]; rfl) | (rw [hX4, hX, hstep]; done) | (rw [wr_ss, hstep]; rfl)
                        · exact absurd c209 (by rw [ev13, e10, hlen]; exact Int32.not_lt.mpr (Int32.le_refl 0))
                      · have hcc : ¬ a < valF F sd (k - 1) b w i0 := by
                          rw [ev167, e164, hB, hs6] at c186
                          exact fun h9 => absurd ((cmp_gt hv6 ha31).mpr h9) (Int32.not_lt.mpr c186)
                        have hstep : bstK true (valF F sd (k - 1) b w) (i0 + 1) = (bstK true (valF F sd (k - 1) b w) i0) := by
                          rw [bstK, hs6]
                          show (if (if true = true then a < valF F sd (k - 1) b w i0 else valF F sd (k - 1) b w i0 < a) then some (valF F sd (k - 1) b w i0, i0) else some (a, ix)) = _
                          rw [if_neg (by simpa using hcc)]
                        refine g_goto C (pc := 189) 218 dX11_likelyBy_189 (by decide) ?_
                        refine g_iinc C (pc := 218) (1) dX11_likelyBy_218 1 rfl (by decide) (by decide) (fun v218 => [(11, .int v218), (12, .long v167), (9, .long wz9), (5, .int v13), (6, .int v46), (7, .long v102), (0, .ref r), (1, .int (nI sd)), (2, .ref h), (3, .int (nI w)), (4, .int (nI k))]) (fun _ => rfl) (fun v218 ev218 => ?_)
                        refine g_goto C (pc := 221) 112 dX11_likelyBy_221 (by decide) ?_
                        refine g_lv C [0, 2, 3, 4, 5, 6, 7, 8, 9, 10] rfl (ih112 (i0 + 1) _ _ _ ?_ ?_ ?_ ?_ ?_ ?_ (by omega))
                        · subst ev218; exact nI_1 _
                        · omega
                        · first | (intro i hi; exact (hJ4 i hi)) | (intro i hi; rw [wr_n (fun e9 => hi (by rw [e9]; unfold Sc; omega))]; exact hJ4 i hi)
                        · first | exact hC4 | (intro q m hm; rw [wr_n (by omega)]; exact hC4 q m hm)
                        · first | (rw [ev205, ev167, e164, hstep]; rfl) | (rw [hB, hstep])
                        · first | (rw [hX4, hX, hstep]; rfl) | (rw [hX4, hX, hstep]; done) | (rw [wr_ss, hstep]; rfl)
                  · exact absurd c137 (by rw [ev13, e10, hlen]; exact Int32.not_lt.mpr (Int32.le_refl 0))
        refine g_lv C [0, 1, 4, 3, 2, 5, 6, 7, 8, 9] rfl (L112 (_ + 1) 0 _ _ _ ?_ ?_ ?_ ?_ ?_ ?_ (by first | omega | exact Nat.lt_succ_self _))
        · subst ev110; rfl
        · omega
        · intro i hi; rw [wr_n (fun e9 => hi (by rw [e9]; unfold Sc; omega))]; exact g10 i (fun e9 => hi (by rw [e9]; unfold Sc; omega))
        · intro q m hm; rw [wr_n (by omega)]; exact f10 q m hm
        · subst ev107; rfl
        · rw [wr_ss]; rfl
      · have hk1 : k = 1 := by
          have := (nI_leI (a := k) (b := 1) (by omega) (by decide)).mp c58
          omega
        refine g_iload C (pc := 61) dX11_likelyBy_61 0 rfl ?_
        refine g_if_eq C (pc := 63) 80 dX11_likelyBy_63 (by decide) (fun c63 => absurd c63 (by first | decide | (subst_vars; decide))) (fun c63 => ?_)
        refine g_aload_n C (pc := 66) dX11_likelyBy_66 4 rfl ?_
        refine g_aload_n C (pc := 67) dX11_likelyBy_67 2 rfl ?_
        refine g_iload C (pc := 68) dX11_likelyBy_68 1 rfl ?_
        refine g_callVI C (pc := 70) mf_X9_chooseKing lk_RX11_374 (c_X9_chooseKing_E n ρ _ h r kp kq F b (mvs F b w) _ hn9 hsp hrf hrr1 hrw hbr1 hbw hml (fun q m hm => by rw [wr_n (by omega)]; exact f10 q m hm) (fun q m hm => by have := mvs_ok hm; omega) hkp hkq (ev13.trans e10)) (by omega) (Nat.le_refl _) rfl (by first | assumption | rfl | omega) rfl (by first | assumption | rfl | omega) (Nat.le_of_ble_eq_true rfl) dX11_likelyBy_70 (fun v70 I70 h70 => ?_)
        obtain h70 := h70
        refine g_if_eq C (pc := 73) 80 dX11_likelyBy_73 (by decide) (fun c73 => ?_) (fun c73 => ?_)
        · obtain ⟨hno2, hI70⟩ : (∀ (q m : Nat), (mvs F b w)[q]? = some m → m % 100 ≠ kq) ∧ wr I10 h 4 (-4) = I70 := by
            rcases h70 with ⟨_, _, hv, _⟩ | ⟨_, h1, h2⟩
            · rw [hv] at c73; exact absurd c73 (by decide)
            · exact ⟨h1, h2⟩
          refine g_lconst C (pc := 80) 0 dX11_likelyBy_80 (by decide) ?_
          refine g_lret C hR (pc := 81) rfl dX11_likelyBy_81 ?_
          refine ⟨rfl, _, rfl, ?_⟩
          first
          | (have hval : bstK true (valF F sd 0 b w) (cntM F b w) = some (1, k7) := by
               have hv1 : ∀ i, valF F sd 0 b w i = if (∃ m, (mvs F b w)[i]? = some m ∧ m % 100 = kq) then 1 else 0 := fun i => valF0_own hrw hkw hbw hno hwn hkp hkq
               have := bst_one (f := valF F sd 0 b w) (k := k7) (by rw [hv1, if_pos hex]) (fun q hq => by rw [hv1, if_neg (by rintro ⟨m, h1, h2⟩; exact hfst q hq m h1 h2)]) (fun i => by rw [hv1]; split <;> omega) (cntM F b w - (k7 + 1))
               rwa [show k7 + 1 + (cntM F b w - (k7 + 1)) = cntM F b w by omega] at this
             subst hI70
             refine ⟨?_, ?_, fun i hi => ?_⟩
             · unfold valW valB; rw [hwB, hk1, hval]; rfl
             · rw [wr_ss]; unfold chW valB; rw [hwB, hk1, hval, if_neg (by omega)]; rfl
             · rw [wr_n (fun e9 => hi (by rw [e9]; unfold Sc; omega))]; exact hfr1 i hi)
          | (have hval : bstK true (valF F sd 0 b w) (cntM F b w) = some (0, 0) := by
               refine bst_zero cntM_pos (fun i _ => ?_)
               rw [valF0_own hrw hkw hbw hno hwn hkp hkq, if_neg (by rintro ⟨m, h1, h2⟩; exact hno2 i m h1 h2)]
             subst hI70
             refine ⟨?_, ?_, hfr1⟩
             · unfold valW valB; rw [hwB, hk1, hval]; rfl
             · rw [wr_ss]; unfold chW valB; rw [hwB, hk1, hval]
               rw [if_pos hlen]; rfl)
        · obtain ⟨k7, hk7, hex, hfst, hI70⟩ : ∃ k, k < (mvs F b w).length ∧ (∃ m, (mvs F b w)[k]? = some m ∧ m % 100 = kq) ∧ (∀ (q : Nat), q < k → ∀ (m : Nat), (mvs F b w)[q]? = some m → m % 100 ≠ kq) ∧ wr (wr I10 h 4 (-4)) h 4 (nI k) = I70 := by
            rcases h70 with ⟨k, h1, _, h3, h4, h5⟩ | ⟨hv, _⟩
            · exact ⟨k, h1, h3, h4, h5⟩
            · exact absurd hv c73
          refine g_lconst C (pc := 76) 1 dX11_likelyBy_76 (by decide) ?_
          refine g_goto C (pc := 77) 81 dX11_likelyBy_77 (by decide) ?_
          refine g_lret C hR (pc := 81) rfl dX11_likelyBy_81 ?_
          refine ⟨rfl, _, rfl, ?_⟩
          first
          | (have hval : bstK true (valF F sd 0 b w) (cntM F b w) = some (1, k7) := by
               have hv1 : ∀ i, valF F sd 0 b w i = if (∃ m, (mvs F b w)[i]? = some m ∧ m % 100 = kq) then 1 else 0 := fun i => valF0_own hrw hkw hbw hno hwn hkp hkq
               have := bst_one (f := valF F sd 0 b w) (k := k7) (by rw [hv1, if_pos hex]) (fun q hq => by rw [hv1, if_neg (by rintro ⟨m, h1, h2⟩; exact hfst q hq m h1 h2)]) (fun i => by rw [hv1]; split <;> omega) (cntM F b w - (k7 + 1))
               rwa [show k7 + 1 + (cntM F b w - (k7 + 1)) = cntM F b w by omega] at this
             subst hI70
             refine ⟨?_, ?_, fun i hi => ?_⟩
             · unfold valW valB; rw [hwB, hk1, hval]; rfl
             · rw [wr_ss]; unfold chW valB; rw [hwB, hk1, hval, if_neg (by omega)]; rfl
             · rw [wr_n (fun e9 => hi (by rw [e9]; unfold Sc; omega))]; exact hfr1 i hi)
          | (have hval : bstK true (valF F sd 0 b w) (cntM F b w) = some (0, 0) := by
               refine bst_zero cntM_pos (fun i _ => ?_)
               rw [valF0_own hrw hkw hbw hno hwn hkp hkq, if_neg (by rintro ⟨m, h1, h2⟩; exact hno2 i m h1 h2)]
             subst hI70
             refine ⟨?_, ?_, hfr1⟩
             · unfold valW valB; rw [hwB, hk1, hval]; rfl
             · rw [wr_ss]; unfold chW valB; rw [hwB, hk1, hval]
               rw [if_pos hlen]; rfl)
  · exact absurd c18 (by rw [ev13, e10, hlen]; exact Int32.not_lt.mpr (Int32.le_refl 0))
set_option maxHeartbeats 400000 in
theorem c_X11_likelyBy_10 (n : Nat) (ρ : Rho) (I : Mem) (r h sd w k : Nat) (F : RT) (b : BT) (xs xw xk : Int32) (hn9 : n ≤ 999) (hrf : Rf n ρ r) (hch : Ch n ρ k h) (hrr : RR I r F) (hrw : RW F) (hkw : KW F) (hbr : BR I (h + 1) F b) (hbw : BW F b) (hsd : sd < 2) (hwd : w < 5) (hno : lostP F b = none) (hrh : r + 3 + 6 * k < h) (hk1l : 1 ≤ k) (hk3 : k ≤ 3) (hxs : xs = nI sd) (hxw : xw = nI w) (hxk : xk = nI k) (hL : 1 < k → LikC (k - 1)) (hwn : bM b ≠ sd) (hlen : (mvs F b w).length = 0) : ML yX11_likelyBy cX11_likelyBy 14 (some .long) (9 + 2 * k) [.ref r, .int xs, .ref h, .int xw, .int xk] n ρ I (fun v I1 => v = lN (valW F sd (k - 1) b w) ∧ I1 h 4 = oI (chW F sd (k - 1) b w) ∧ ∀ i, ¬ Sc (k - 1) h i → I1 i = I i) := by
  refine MG.of (by decide +kernel) (Nat.le_of_ble_eq_true rfl) hn9 ?_
  intro κ C hR
  show G κ n ρ 0 [(0, .ref r), (1, .int xs), (2, .ref h), (3, .int xw), (4, .int xk)] [] I
  subst hxs hxw hxk
  have hsp := hch.sp
  obtain ⟨hp0, hpn, hp1, hp2, hp3, hp4⟩ := id hsp
  obtain ⟨hs0, hs1, hs2, hs3, hsn, hr0, hr1, hr2⟩ := id hp4
  obtain ⟨hq0, hq1, hq2, hq3, hqn, ht0, ht1, ht2⟩ := id hrf
  have hnp : rN F ≤ 6 := hrw.2.2.2.2.1
  have hN := hrr.2.2.1
  have hAO := allO_le hrw
  have hM2 := hbw.1
  have hmv := hbr.1
  have hnx := hch.nx hk1l
  have hml := mvs_len (F := F) (b := b) (w := w) hnp
  have hwB : (bM b == sd) = false := by exact beq_eq_false_iff_ne.mpr hwn
  obtain ⟨kp, hkp⟩ := hkw.1 (1 - bM b) (by omega)
  obtain ⟨kq, hkq⟩ := lost_none hno kp (kingB_at hkp).1 (kingB_at hkp).2.1
  have hbv : ∀ i a ix, bstK false (valF F sd (k - 1) b w) i = some (a, ix) → a ≤ pw (allO F) (k - 1) := by
    intro i a ix h9
    cases i with
    | zero => rw [bstK] at h9; cases h9
    | succ i =>
      obtain ⟨a2, i2, e1, -, e3⟩ := bstK_some (wants := false) (f := valF F sd (k - 1) b w) (Nat.succ_pos i)
      rw [h9] at e1; cases e1; rw [← e3]; exact val_le (k - 1) _
  refine g_aload_n C (pc := 0) dX11_likelyBy_0 2 rfl ?_
  refine g_getR C (pc := 1) fl_RX11_210 (by decide) (by first | assumption | rfl | omega) (by first | assumption | rfl | omega) (by first | assumption | rfl | omega) dX11_likelyBy_1 ?_
  refine g_aload_n C (pc := 4) dX11_likelyBy_4 0 rfl ?_
  refine g_iload_n C (pc := 5) dX11_likelyBy_5 3 rfl ?_
  refine g_aload_n C (pc := 6) dX11_likelyBy_6 2 rfl ?_
  refine g_getR C (pc := 7) fl_RX11_296 (by decide) (by first | assumption | rfl | omega) (by first | assumption | rfl | omega) (by first | assumption | rfl | omega) dX11_likelyBy_7 ?_
  refine g_callVI C (pc := 10) mf_X8_listMoves lk_RX11_300 (c_X8_listMoves n ρ I (h + 1) r w (h + 5) F b hn9 hp4 hrf hrr hrw hbr hbw hwd hp3 (by omega) (fun i hi => ⟨by omega, by omega⟩)) (by omega) (Nat.le_refl _) rfl (by first | assumption | rfl | omega) rfl (by first | assumption | rfl | omega) (Nat.le_of_ble_eq_true rfl) dX11_likelyBy_10 (fun v10 I10 h10 => ?_)
  obtain ⟨e10, f10, g10⟩ := h10
  have hm10 : I10 (h + 1) 3 = nI (bM b) := by rw [g10 _ (by omega)]; exact hmv
  have hcnt : cntM F b w = 1 := by unfold cntM; rw [if_pos hlen]
  refine g_istore C (pc := 13) dX11_likelyBy_13 (by decide) (fun v13 => [(5, .int v13), (0, .ref r), (1, .int (nI sd)), (2, .ref h), (3, .int (nI w)), (4, .int (nI k))]) (fun _ => rfl) (fun v13 ev13 => ?_)
  refine g_aload_n C (pc := 15) dX11_likelyBy_15 3 rfl ?_
  refine g_iload C (pc := 16) dX11_likelyBy_16 0 rfl ?_
  refine g_if_le C (pc := 18) 25 dX11_likelyBy_18 (by decide) (fun c18 => ?_) (fun c18 => ?_)
  · refine g_bipush C (pc := 25) (-4) dX11_likelyBy_25 (by decide) ?_
    refine g_putI C (pc := 27) fl_RX11_234 (by decide) fp_8_4 (Or.inl rfl) ⟨rfl, rfl⟩ (by first | assumption | rfl | omega) (by first | assumption | rfl | omega) hn9 dX11_likelyBy_27 ?_
    have hrr1 : RR (wr I10 h 4 (-4)) r F := hrr.cong (fun i hi => by rw [wr_n (by omega), g10 _ (by omega)])
    have hbr1 : BR (wr I10 h 4 (-4)) (h + 1) F b := hbr.cong (fun i hi => by rw [wr_n (by omega), g10 _ (by omega)])
    have hfr1 : ∀ i, ¬ Sc (k - 1) h i → wr I10 h 4 (-4) i = I i := by
      intro i hi
      rw [wr_n (fun e9 => hi (by rw [e9]; unfold Sc; omega))]; exact g10 i (fun e9 => hi (by rw [e9]; unfold Sc; omega))
    refine g_aload_n C (pc := 30) dX11_likelyBy_30 3 rfl ?_
    refine g_getR C (pc := 31) fl_RX11_210 (by decide) (by first | assumption | rfl | omega) (by first | assumption | rfl | omega) (by first | assumption | rfl | omega) dX11_likelyBy_31 ?_
    refine g_getI C (pc := 34) fl_RX11_125 (by decide) (by first | assumption | rfl | omega) (by first | assumption | rfl | omega) dX11_likelyBy_34 ?_
    refine g_iload_n C (pc := 37) dX11_likelyBy_37 2 rfl ?_
    refine g_icmp_ne C (pc := 38) 45 dX11_likelyBy_38 (by decide) (fun c38 => ?_) (fun c38 => ?_)
    · refine g_iconst C (pc := 45) 0 dX11_likelyBy_45 (by decide) ?_
      refine g_istore C (pc := 46) dX11_likelyBy_46 (by decide) (fun v46 => [(6, .int v46), (5, .int v13), (0, .ref r), (1, .int (nI sd)), (2, .ref h), (3, .int (nI w)), (4, .int (nI k))]) (fun _ => rfl) (fun v46 ev46 => ?_)
      refine g_aload_n C (pc := 48) dX11_likelyBy_48 4 rfl ?_
      refine g_getR C (pc := 49) fl_RX11_371 (by decide) (by first | assumption | rfl | omega) (by first | assumption | rfl | omega) hnx dX11_likelyBy_49 ?_
      refine g_ifnull C (pc := 52) dX11_likelyBy_52 ?_
      refine g_iload C (pc := 55) dX11_likelyBy_55 6 rfl ?_
      refine g_iconst C (pc := 57) 1 dX11_likelyBy_57 (by decide) ?_
      refine g_icmp_gt C (pc := 58) 82 dX11_likelyBy_58 (by decide) (fun c58 => ?_) (fun c58 => ?_)
      · have hk2 : 1 < k := (nI_ltI (a := 1) (b := k) (by decide) (by omega)).mp c58
        obtain ⟨k0, hkk⟩ : ∃ k0, k = k0 + 1 := ⟨k - 1, by omega⟩
        have hgo := hch.go hkk
        refine g_iload C (pc := 82) dX11_likelyBy_82 0 rfl ?_
        refine g_if_eq C (pc := 84) 101 dX11_likelyBy_84 (by decide) (fun c84 => ?_) (fun c84 => absurd c84 (by first | decide | (subst_vars; decide)))
        refine g_lconst C (pc := 101) 0 dX11_likelyBy_101 (by decide) ?_
        refine g_lstore C (pc := 102) dX11_likelyBy_102 (by decide) (fun v102 => [(7, .long v102), (6, .int v46), (5, .int v13), (0, .ref r), (1, .int (nI sd)), (2, .ref h), (3, .int (nI w)), (4, .int (nI k))]) (fun _ => rfl) (fun v102 ev102 => ?_)
        have hut : v102 = lN 0 := by subst ev102; rfl
        refine g_ldc2 C (pc := 104) _ gk_RX11_208 dX11_likelyBy_104 ?_
        refine g_lstore C (pc := 107) dX11_likelyBy_107 (by decide) (fun v107 => [(9, .long v107), (7, .long v102), (6, .int v46), (5, .int v13), (0, .ref r), (1, .int (nI sd)), (2, .ref h), (3, .int (nI w)), (4, .int (nI k))]) (fun _ => rfl) (fun v107 ev107 => ?_)
        refine g_iconst C (pc := 109) 0 dX11_likelyBy_109 (by decide) ?_
        refine g_istore C (pc := 110) dX11_likelyBy_110 (by decide) (fun v110 => [(11, .int v110), (9, .long v107), (7, .long v102), (6, .int v46), (5, .int v13), (0, .ref r), (1, .int (nI sd)), (2, .ref h), (3, .int (nI w)), (4, .int (nI k))]) (fun _ => rfl) (fun v110 ev110 => ?_)
        have L112 : ∀ (k9 : Nat) (i0 : Nat) (wz11 : Int32) (wz9 : Int64) (J : Mem) (hw11 : wz11 = nI i0) (hi0 : i0 ≤ cntM F b w) (hJ : ∀ i, ¬ Sc (k - 1) h i → J i = I i) (hC : ∀ (q m : Nat), (mvs F b w)[q]? = some m → J (h + 5) q = nI m) (hB : wz9 = lO ((bstK false (valF F sd (k - 1) b w) i0).map (fun q => q.1))) (hX : J h 4 = idxI true (bstK false (valF F sd (k - 1) b w) i0)), cntM F b w - i0 < k9 → G κ n ρ 112 [(11, .int wz11), (9, .long wz9), (5, .int v13), (6, .int v46), (7, .long v102), (0, .ref r), (1, .int (nI sd)), (2, .ref h), (3, .int (nI w)), (4, .int (nI k))] [] J := by
          intro k9
          induction k9 with
          | zero => intro i0 wz11 wz9 J hw11 hi0 hJ hC hB hX hm112; exact absurd hm112 (Nat.not_lt_zero _)
          | succ k9 ih112 =>
            intro i0 wz11 wz9 J hw11 hi0 hJ hC hB hX hm112
            subst hw11
            have hrrJ : RR J r F := hrr.cong (fun i hi => hJ _ (by unfold Sc; omega))
            have hbrJ : BR J (h + 1) F b := hbr.cong (fun i hi => hJ _ (by unfold Sc; omega))
            have hbk31 : ∀ a, (bstK false (valF F sd (k - 1) b w) i0).map (fun q => q.1) = some a → a < 2 ^ 31 := by
              intro a ha
              obtain ⟨⟨a2, ix⟩, h1, h2⟩ := Option.map_eq_some_iff.mp ha
              have h2 : a2 = a := h2
              subst h2
              exact Nat.lt_of_le_of_lt (hbv i0 a2 ix h1) (by have := pw3 hAO (show k - 1 ≤ 3 by omega); omega)
            refine g_iload C (pc := 112) dX11_likelyBy_112 0 rfl ?_
            refine g_iload C (pc := 114) dX11_likelyBy_114 2 rfl ?_
            refine g_icmp_lt C (pc := 116) 124 dX11_likelyBy_116 (by decide) (fun c116 => ?_) (fun c116 => ?_)
            · rw [ev13, e10, hlen] at c116; exact absurd c116 (nI_pos (by omega))
            · refine g_iload C (pc := 119) dX11_likelyBy_119 0 rfl ?_
              refine g_if_ne C (pc := 121) 224 dX11_likelyBy_121 (by decide) (fun c121 => ?_) (fun c121 => ?_)
              · have hend : i0 = cntM F b w := by
                  have h0 : i0 ≠ 0 := fun h9 => c121 (by rw [h9]; rfl)
                  omega
                refine g_lload C (pc := 224) dX11_likelyBy_224 1 rfl ?_
                refine g_lret C hR (pc := 226) rfl dX11_likelyBy_226 ?_
                refine ⟨rfl, _, rfl, ?_⟩
                have hbE : ∃ a ix, bstK false (valF F sd (k - 1) b w) (cntM F b w) = some (a, ix) ∧ wz9 = lN a ∧ J h 4 = idxI true (some (a, ix)) := by
                  first
                  | (obtain ⟨a, ix, h1, -, -⟩ := bstK_some (wants := false) (f := (valF F sd (k - 1) b w)) (cntM_pos (F := F) (b := b) (w := w))
                     exact ⟨a, ix, h1, by rw [hB, hend, h1]; rfl, by rw [hX, hend, h1]⟩)
                  | (obtain ⟨⟨a, ix⟩, h1, h2⟩ := Option.map_eq_some_iff.mp hstop
                     have h2 : a = 0 := h2
                     exact ⟨a, ix, bst_end h1 hi0 (fun j => by rw [h2]; exact Nat.zero_le _), by rw [hB, h1]; rfl, by rw [hX, h1]⟩)
                obtain ⟨a, ix, h1, h2, h3⟩ := hbE
                refine ⟨?_, ?_, hJ⟩
                · unfold valW valB; rw [hwB, h1]; exact h2
                · rw [h3]; unfold chW valB; rw [hwB, h1]
                  rw [if_pos hlen]; rfl
              · have hlt : i0 < cntM F b w := by
                  have h0 : i0 = 0 := (nI_eq (b := 0) (by omega) (by decide)).mp c121
                  have := cntM_pos (F := F) (b := b) (w := w)
                  omega
                refine g_lload C (pc := 124) dX11_likelyBy_124 1 rfl ?_
                refine g_lload C (pc := 126) dX11_likelyBy_126 4 rfl ?_
                refine g_lcmp C (pc := 128) dX11_likelyBy_128 ?_
                refine g_if_eq C (pc := 129) 224 dX11_likelyBy_129 (by decide) (fun c129 => ?_) (fun c129 => ?_)
                · have hstop : (bstK false (valF F sd (k - 1) b w) i0).map (fun q => q.1) = some 0 := by
                    rw [hB, hut] at c129
                    exact (cmp_best hbk31 (by have := pw3 hAO (show k - 1 ≤ 3 by omega); omega)).mp c129
                  refine g_lload C (pc := 224) dX11_likelyBy_224 1 rfl ?_
                  refine g_lret C hR (pc := 226) rfl dX11_likelyBy_226 ?_
                  refine ⟨rfl, _, rfl, ?_⟩
                  have hbE : ∃ a ix, bstK false (valF F sd (k - 1) b w) (cntM F b w) = some (a, ix) ∧ wz9 = lN a ∧ J h 4 = idxI true (some (a, ix)) := by
                    first
                    | (obtain ⟨a, ix, h1, -, -⟩ := bstK_some (wants := false) (f := (valF F sd (k - 1) b w)) (cntM_pos (F := F) (b := b) (w := w))
                       exact ⟨a, ix, h1, by rw [hB, hend, h1]; rfl, by rw [hX, hend, h1]⟩)
                    | (obtain ⟨⟨a, ix⟩, h1, h2⟩ := Option.map_eq_some_iff.mp hstop
                       have h2 : a = 0 := h2
                       exact ⟨a, ix, bst_end h1 hi0 (fun j => by rw [h2]; exact Nat.zero_le _), by rw [hB, h1]; rfl, by rw [hX, h1]⟩)
                  obtain ⟨a, ix, h1, h2, h3⟩ := hbE
                  refine ⟨?_, ?_, hJ⟩
                  · unfold valW valB; rw [hwB, h1]; exact h2
                  · rw [h3]; unfold chW valB; rw [hwB, h1]
                    rw [if_pos hlen]; rfl
                · refine g_aload_n C (pc := 132) dX11_likelyBy_132 7 rfl ?_
                  refine g_aload_n C (pc := 133) dX11_likelyBy_133 5 rfl ?_
                  refine g_iload_n C (pc := 134) dX11_likelyBy_134 8 rfl ?_
                  refine g_iload C (pc := 135) dX11_likelyBy_135 2 rfl ?_
                  refine g_if_le C (pc := 137) 149 dX11_likelyBy_137 (by decide) (fun c137 => ?_) (fun c137 => ?_)
                  · refine g_bipush C (pc := 149) (-4) dX11_likelyBy_149 (by decide) ?_
                    refine g_callVV C (pc := 151) mf_X9_tread lk_RX11_378 (c_X9_tread n ρ J h (h - 6) r w F b ((mvs F b w)[i0]?) _ hn9 hsp hnx hgo.1 (fun i k h1 h2 => by omega) (fun i k h1 h2 => by omega) hrf hrrJ hrw hbrJ hbw hwd (fun m hm => ⟨(mvs_ok hm).1, (mvs_ok hm).2.1⟩) (by rw [List.eq_nil_of_length_eq_zero hlen]; rfl)) (by omega) (Nat.le_refl _) rfl (by first | assumption | rfl | omega) rfl (by first | assumption | rfl | omega) (Nat.le_of_ble_eq_true rfl) dX11_likelyBy_151 (fun I151 h151 => ?_)
                    obtain ⟨h151, g151⟩ := h151
                    have hrr4 : RR I151 r F := hrrJ.cong (fun i hi => g151 _ (by omega) (by omega) (by omega) (by omega))
                    refine g_aload_n C (pc := 154) dX11_likelyBy_154 5 rfl ?_
                    refine g_iload_n C (pc := 155) dX11_likelyBy_155 6 rfl ?_
                    refine g_aload_n C (pc := 156) dX11_likelyBy_156 7 rfl ?_
                    refine g_getR C (pc := 157) fl_RX11_371 (by decide) (by first | assumption | rfl | omega) (by first | assumption | rfl | omega) (by first | assumption | rfl | omega) dX11_likelyBy_157 ?_
                    refine g_iload C (pc := 160) dX11_likelyBy_160 9 rfl ?_
                    refine g_iconst C (pc := 162) 1 dX11_likelyBy_162 (by decide) ?_
                    refine g_isub C (pc := 163) dX11_likelyBy_163 ?_
                    refine g_callSL C (pc := 164) mf_X11_likely lk_RX11_214 (hL hk2 n ρ I151 r (h - 6) sd F _ _ _ hn9 hrf hgo.2 hrr4 hrw hkw (by rw [show h - 6 + 1 = h - 6 + 1 from rfl]; exact h151) (playB_W hbw (fun m hm => ⟨(mvs_ok hm).1, (mvs_ok hm).2.1⟩)) hsd (by omega) (by omega) rfl (pk_sub (b := 1) (by omega))) (by omega) (Nat.le_refl _) rfl (Nat.le_of_ble_eq_true rfl) dX11_likelyBy_164 (fun v164 I164 h164 => ?_)
                    obtain ⟨e164, g164⟩ := h164
                    have hJ4 : ∀ i, ¬ Sc (k - 1) h i → I164 i = I i := fun i hi => (g164 i (fun e9 => hi (by unfold Sc at e9 ⊢; omega))).trans ((g151 i (fun e9 => hi (by unfold Sc; omega)) (fun e9 => hi (by unfold Sc; omega)) (fun e9 => hi (by unfold Sc; omega)) (fun e9 => hi (by unfold Sc; omega))).trans (hJ i hi))
                    have hC4 : ∀ (q m : Nat), (mvs F b w)[q]? = some m → I164 (h + 5) q = nI m := fun q m hm => by
                      rw [g164 _ (by unfold Sc; omega), g151 _ (by omega) (by omega) (by omega) (by omega)]; exact hC q m hm
                    have hX4 : I164 h 4 = J h 4 := by rw [g164 _ (by unfold Sc; omega), g151 _ (by omega) (by omega) (by omega) (by omega)]
                    refine g_lstore C (pc := 167) dX11_likelyBy_167 (by decide) (fun v167 => [(12, .long v167), (11, .int (nI i0)), (9, .long wz9), (5, .int v13), (6, .int v46), (7, .long v102), (0, .ref r), (1, .int (nI sd)), (2, .ref h), (3, .int (nI w)), (4, .int (nI k))]) (fun _ => rfl) (fun v167 ev167 => ?_)
                    refine g_lload C (pc := 169) dX11_likelyBy_169 2 rfl ?_
                    refine g_lconst C (pc := 171) 0 dX11_likelyBy_171 (by decide) ?_
                    refine g_lcmp C (pc := 172) dX11_likelyBy_172 ?_
                    refine g_if_lt C (pc := 173) 203 dX11_likelyBy_173 (by decide) (fun c173 => ?_) (fun c173 => ?_)
                    · have hnn : (bstK false (valF F sd (k - 1) b w) i0).map (fun q => q.1) = none := (cmp_best0 hbk31).mp (by rw [hB] at c173; exact c173)
                      have hi00 : i0 = 0 := bstK_fst_none hnn
                      have hstep : bstK false (valF F sd (k - 1) b w) (i0 + 1) = some (valF F sd (k - 1) b w i0, i0) := by rw [hi00, bstK, bstK]
                      refine g_lload C (pc := 203) dX11_likelyBy_203 0 rfl ?_
                      refine g_lstore C (pc := 205) dX11_likelyBy_205 (by decide) (fun v205 => [(9, .long v205), (12, .long v167), (11, .int (nI i0)), (5, .int v13), (6, .int v46), (7, .long v102), (0, .ref r), (1, .int (nI sd)), (2, .ref h), (3, .int (nI w)), (4, .int (nI k))]) (fun _ => rfl) (fun v205 ev205 => ?_)
                      refine g_iload C (pc := 207) dX11_likelyBy_207 3 rfl ?_
                      refine g_if_le C (pc := 209) 218 dX11_likelyBy_209 (by decide) (fun c209 => ?_) (fun c209 => ?_)
                      · refine g_iinc C (pc := 218) (1) dX11_likelyBy_218 2 rfl (by decide) (by decide) (fun v218 => [(11, .int v218), (9, .long v205), (12, .long v167), (5, .int v13), (6, .int v46), (7, .long v102), (0, .ref r), (1, .int (nI sd)), (2, .ref h), (3, .int (nI w)), (4, .int (nI k))]) (fun _ => rfl) (fun v218 ev218 => ?_)
                        refine g_goto C (pc := 221) 112 dX11_likelyBy_221 (by decide) ?_
                        refine g_lv C [0, 1, 3, 4, 5, 6, 7, 8, 9, 10] rfl (ih112 (i0 + 1) _ _ _ ?_ ?_ ?_ ?_ ?_ ?_ (by omega))
                        · subst ev218; exact nI_1 _
                        · omega
                        · first | (intro i hi; exact (hJ4 i hi)) | (intro i hi; rw [wr_n (fun e9 => hi (by rw [e9]; unfold Sc; omega))]; exact hJ4 i hi)
                        · first | exact hC4 | (intro q m hm; rw [wr_n (by omega)]; exact hC4 q m hm)
                        · first | (rw [ev205, ev167, e164, hstep]; rfl) | (rw [hB, hstep])
                        · first | (rw [hX4, hX, hstep]; rfl) | (rw [hX4, hX, hstep]; done) | (rw [wr_ss, hstep]; rfl)
                      · exact absurd c209 (by rw [ev13, e10, hlen]; exact Int32.not_lt.mpr (Int32.le_refl 0))
                    · obtain ⟨a, ix, hs6⟩ : ∃ a ix, (bstK false (valF F sd (k - 1) b w) i0) = some (a, ix) := by
                        cases h9 : (bstK false (valF F sd (k - 1) b w) i0) with
                        | none => exact absurd ((cmp_best0 hbk31).mpr (by rw [h9]; rfl)) (by rw [hB] at c173; exact Int32.not_lt.mpr c173)
                        | some q => exact ⟨q.1, q.2, rfl⟩
                      have ha31 : a < 2 ^ 31 := hbk31 a (by rw [hs6]; rfl)
                      have hv6 : valF F sd (k - 1) b w i0 < 2 ^ 31 := Nat.lt_of_le_of_lt (val_le (k - 1) _) (by have := pw3 hAO (show k - 1 ≤ 3 by omega); omega)
                      refine g_iload C (pc := 176) dX11_likelyBy_176 4 rfl ?_
                      refine g_if_eq C (pc := 178) 192 dX11_likelyBy_178 (by decide) (fun c178 => ?_) (fun c178 => absurd c178 (by first | decide | (subst_vars; decide)))
                      refine g_lload C (pc := 192) dX11_likelyBy_192 0 rfl ?_
                      refine g_lload C (pc := 194) dX11_likelyBy_194 2 rfl ?_
                      refine g_lcmp C (pc := 196) dX11_likelyBy_196 ?_
                      refine g_if_lt C (pc := 197) 203 dX11_likelyBy_197 (by decide) (fun c197 => ?_) (fun c197 => ?_)
                      · have hcc : valF F sd (k - 1) b w i0 < a := by
                          rw [ev167, e164, hB, hs6] at c197
                          exact (cmp_lt hv6 ha31).mp c197
                        have hstep : bstK false (valF F sd (k - 1) b w) (i0 + 1) = some (valF F sd (k - 1) b w i0, i0) := by
                          rw [bstK, hs6]
                          show (if (if false = true then a < valF F sd (k - 1) b w i0 else valF F sd (k - 1) b w i0 < a) then some (valF F sd (k - 1) b w i0, i0) else some (a, ix)) = _
                          rw [if_pos (by simpa using hcc)]
                        refine g_lload C (pc := 203) dX11_likelyBy_203 0 rfl ?_
                        refine g_lstore C (pc := 205) dX11_likelyBy_205 (by decide) (fun v205 => [(9, .long v205), (12, .long v167), (11, .int (nI i0)), (5, .int v13), (6, .int v46), (7, .long v102), (0, .ref r), (1, .int (nI sd)), (2, .ref h), (3, .int (nI w)), (4, .int (nI k))]) (fun _ => rfl) (fun v205 ev205 => ?_)
                        refine g_iload C (pc := 207) dX11_likelyBy_207 3 rfl ?_
                        refine g_if_le C (pc := 209) 218 dX11_likelyBy_209 (by decide) (fun c209 => ?_) (fun c209 => ?_)
                        · refine g_iinc C (pc := 218) (1) dX11_likelyBy_218 2 rfl (by decide) (by decide) (fun v218 => [(11, .int v218), (9, .long v205), (12, .long v167), (5, .int v13), (6, .int v46), (7, .long v102), (0, .ref r), (1, .int (nI sd)), (2, .ref h), (3, .int (nI w)), (4, .int (nI k))]) (fun _ => rfl) (fun v218 ev218 => ?_)
                          refine g_goto C (pc := 221) 112 dX11_likelyBy_221 (by decide) ?_
                          refine g_lv C [0, 1, 3, 4, 5, 6, 7, 8, 9, 10] rfl (ih112 (i0 + 1) _ _ _ ?_ ?_ ?_ ?_ ?_ ?_ (by omega))
                          · subst ev218; exact nI_1 _
                          · omega
                          · first | (intro i hi; exact (hJ4 i hi)) | (intro i hi; rw [wr_n (fun e9 => hi (by rw [e9]; unfold Sc; omega))]; exact hJ4 i hi)
                          · first | exact hC4 | (intro q m hm; rw [wr_n (by omega)]; exact hC4 q m hm)
                          · first | (rw [ev205, ev167, e164, hstep]; rfl) | (rw [hB, hstep])
                          · first | (rw [hX4, hX, hstep]; rfl) | (rw [hX4, hX, hstep]; done) | (rw [wr_ss, hstep]; rfl)
                        · exact absurd c209 (by rw [ev13, e10, hlen]; exact Int32.not_lt.mpr (Int32.le_refl 0))
                      · have hcc : ¬ valF F sd (k - 1) b w i0 < a := by
                          rw [ev167, e164, hB, hs6] at c197
                          exact fun h9 => absurd ((cmp_lt hv6 ha31).mpr h9) (Int32.not_lt.mpr c197)
                        have hstep : bstK false (valF F sd (k - 1) b w) (i0 + 1) = (bstK false (valF F sd (k - 1) b w) i0) := by
                          rw [bstK, hs6]
                          show (if (if false = true then a < valF F sd (k - 1) b w i0 else valF F sd (k - 1) b w i0 < a) then some (valF F sd (k - 1) b w i0, i0) else some (a, ix)) = _
                          rw [if_neg (by simpa using hcc)]
                        refine g_goto C (pc := 200) 218 dX11_likelyBy_200 (by decide) ?_
                        refine g_iinc C (pc := 218) (1) dX11_likelyBy_218 1 rfl (by decide) (by decide) (fun v218 => [(11, .int v218), (12, .long v167), (9, .long wz9), (5, .int v13), (6, .int v46), (7, .long v102), (0, .ref r), (1, .int (nI sd)), (2, .ref h), (3, .int (nI w)), (4, .int (nI k))]) (fun _ => rfl) (fun v218 ev218 => ?_)
                        refine g_goto C (pc := 221) 112 dX11_likelyBy_221 (by decide) ?_
                        refine g_lv C [0, 2, 3, 4, 5, 6, 7, 8, 9, 10] rfl (ih112 (i0 + 1) _ _ _ ?_ ?_ ?_ ?_ ?_ ?_ (by omega))
                        · subst ev218; exact nI_1 _
                        · omega
                        · first | (intro i hi; exact (hJ4 i hi)) | (intro i hi; rw [wr_n (fun e9 => hi (by rw [e9]; unfold Sc; omega))]; exact hJ4 i hi)
                        · first | exact hC4 | (intro q m hm; rw [wr_n (by omega)]; exact hC4 q m hm)
                        · first | (rw [ev205, ev167, e164, hstep]; rfl) | (rw [hB, hstep])
                        · first | (rw [hX4, hX, hstep]; rfl) | (rw [hX4, hX, hstep]; done) | (rw [wr_ss, hstep]; rfl)
                  · exact absurd c137 (by rw [ev13, e10, hlen]; exact Int32.not_lt.mpr (Int32.le_refl 0))
        refine g_lv C [0, 1, 4, 3, 2, 5, 6, 7, 8, 9] rfl (L112 (_ + 1) 0 _ _ _ ?_ ?_ ?_ ?_ ?_ ?_ (by first | omega | exact Nat.lt_succ_self _))
        · subst ev110; rfl
        · omega
        · intro i hi; rw [wr_n (fun e9 => hi (by rw [e9]; unfold Sc; omega))]; exact g10 i (fun e9 => hi (by rw [e9]; unfold Sc; omega))
        · intro q m hm; rw [wr_n (by omega)]; exact f10 q m hm
        · subst ev107; rfl
        · rw [wr_ss]; rfl
      · have hk1 : k = 1 := by
          have := (nI_leI (a := k) (b := 1) (by omega) (by decide)).mp c58
          omega
        refine g_iload C (pc := 61) dX11_likelyBy_61 0 rfl ?_
        refine g_if_eq C (pc := 63) 80 dX11_likelyBy_63 (by decide) (fun c63 => ?_) (fun c63 => absurd c63 (by first | decide | (subst_vars; decide)))
        refine g_lconst C (pc := 80) 0 dX11_likelyBy_80 (by decide) ?_
        refine g_lret C hR (pc := 81) rfl dX11_likelyBy_81 ?_
        refine ⟨rfl, _, rfl, ?_⟩
        have hval : bstK false (valF F sd 0 b w) (cntM F b w) = some (0, 0) := bst_zero cntM_pos (fun i _ => valF0_other hrw hbw hno hsd hwn)
        refine ⟨?_, ?_, hfr1⟩
        · unfold valW valB; rw [hwB, hk1, hval]; rfl
        · rw [wr_ss]; unfold chW valB; rw [hwB, hk1, hval]
          rw [if_pos hlen]; rfl
    · exact absurd ((nI_eq (by omega) (by omega)).mp (hbr1.1.symm.trans c38)) hwn
  · exact absurd c18 (by rw [ev13, e10, hlen]; exact Int32.not_lt.mpr (Int32.le_refl 0))
theorem likBy_of {k : Nat} (hL : 1 < k → LikC (k - 1)) : LikByC k := by
  intro n ρ I r h sd w F b xs xw xk hn9 hrf hch hrr hrw hkw hbr hbw hsd hwd hno hrh hk1 hk3 hxs hxw hxk
  by_cases hlen : (mvs F b w).length = 0
  · by_cases hwn : bM b = sd
    · exact c_X11_likelyBy_11 n ρ I r h sd w k F b xs xw xk hn9 hrf hch hrr hrw hkw hbr hbw hsd hwd hno hrh hk1 hk3 hxs hxw hxk hL hwn hlen
    · exact c_X11_likelyBy_10 n ρ I r h sd w k F b xs xw xk hn9 hrf hch hrr hrw hkw hbr hbw hsd hwd hno hrh hk1 hk3 hxs hxw hxk hL hwn hlen
  · by_cases hwn : bM b = sd
    · exact c_X11_likelyBy_01 n ρ I r h sd w k F b xs xw xk hn9 hrf hch hrr hrw hkw hbr hbw hsd hwd hno hrh hk1 hk3 hxs hxw hxk hL hwn (by omega)
    · exact c_X11_likelyBy_00 n ρ I r h sd w k F b xs xw xk hn9 hrf hch hrr hrw hkw hbr hbw hsd hwd hno hrh hk1 hk3 hxs hxw hxk hL hwn (by omega)
theorem lik_of {k : Nat} (hLB : 0 < k → LikByC k) : LikC k := by
  intro n ρ I r h sd F b xs xk hn9 hrf hch hrr hrw hkw hbr hbw hsd hrh hk3 hxs hxk
  exact c_X11_likely n ρ I r h sd k F b xs xk hn9 hrf hch hrr hrw hkw hbr hbw hsd hrh hk3 hxs hxk hLB
theorem lik_all : ∀ k, LikC k
  | 0 => lik_of (fun h => absurd h (Nat.lt_irrefl 0))
  | k + 1 => lik_of (fun _ => likBy_of (fun _ => lik_all k))
theorem likBy_all (k : Nat) : LikByC k := likBy_of (fun _ => lik_all (k - 1))
