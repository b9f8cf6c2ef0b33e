/-- whether a side can take the king as these winds blow *)-/
def canB (F : RT) (sd : Nat) : List Nat → BT → Bool
  | [], b => match lostB F b with
    | some l => decide (l ≠ sd)
    | none => false
  | w :: ws, b => match lostB F b with
    | some l => decide (l ≠ sd)
    | none => (List.range (cntM F b w)).any (fun i => canB F sd ws (playB F b w ((mvs F b w)[i]?)))
theorem canB_over {F : RT} {sd l : Nat} {b : BT} (h : lostB F b = some l) (ws : List Nat) : canB F sd ws b = decide (l ≠ sd) := by
  cases ws <;> rw [canB, h]
theorem canB_nil {F : RT} {sd : Nat} {b : BT} (h : lostB F b = none) : canB F sd [] b = false := by rw [canB, h]
theorem canB_t {F : RT} {sd w i : Nat} {ws : List Nat} {b : BT} (h : lostB F b = none) (hi : i < cntM F b w) (hc : canB F sd ws (playB F b w ((mvs F b w)[i]?)) = true) : canB F sd (w :: ws) b = true := by
  rw [canB, h]
  exact List.any_eq_true.mpr ⟨i, List.mem_range.mpr hi, hc⟩
theorem canB_f {F : RT} {sd w : Nat} {ws : List Nat} {b : BT} (h : lostB F b = none) (hc : ∀ i, i < cntM F b w → canB F sd ws (playB F b w ((mvs F b w)[i]?)) = false) : canB F sd (w :: ws) b = false := by
  rw [canB, h]
  show (List.range (cntM F b w)).any (fun i => canB F sd ws (playB F b w ((mvs F b w)[i]?))) = false
  rw [List.any_eq_false]
  intro i hi
  rw [hc i (List.mem_range.mp hi)]
  decide
def CanC (k : Nat) : Prop := ∀ (n : Nat) (ρ : Rho) (I : Mem) (r h sd t i m : Nat) (ws : List Nat) (F : RT) (b : BT) (xs xi xm : Int32), n ≤ 999 → Rf n ρ r → Ch n ρ k h → RR I r F → RW F → BR I (h + 1) F b → BW F b → sd < 2 → r + 3 + 6 * k < h → h + 5 < t → shp t = (0, 3) → t < n → m = i + k → m ≤ 3 → ws.length = k → (∀ q w, ws[q]? = some w → I t (i + q) = nI w ∧ w < 5) → xs = nI sd → xi = nI i → xm = nI m →
  MI yX11_canTake cX11_canTake 9 (some .boolean) (10 + 2 * k) [.ref r, .int xs, .ref h, .ref t, .int xi, .int xm] n ρ I (fun v I1 => v = bI (canB F sd ws b = true) ∧ ∀ i, ¬ Sc k h i → I1 i = I i)
set_option maxHeartbeats 400000 in
theorem c_X11_canTake_0 (n : Nat) (ρ : Rho) (I : Mem) (r h sd t i m k : Nat) (ws : List Nat) (F : RT) (b : BT) (xs xi xm : Int32) (hn9 : n ≤ 999) (hrf : Rf n ρ r) (hch : Ch n ρ k h) (hrr : RR I r F) (hrw : RW F) (hbr : BR I (h + 1) F b) (hbw : BW F b) (hsd : sd < 2) (hrh : r + 3 + 6 * k < h) (hht : h + 5 < t) (hts : shp t = (0, 3)) (htn : t < n) (hmk : m = i + k) (hm3 : m ≤ 3) (hwl : ws.length = k) (hwt : ∀ q w, ws[q]? = some w → I t (i + q) = nI w ∧ w < 5) (hxs : xs = nI sd) (hxi : xi = nI i) (hxm : xm = nI m) (hCC : 0 < k → CanC (k - 1)) (hlen : ∀ w ws2, ws = w :: ws2 → 0 < (mvs F b w).length) : MI yX11_canTake cX11_canTake 9 (some .boolean) (10 + 2 * k) [.ref r, .int xs, .ref h, .ref t, .int xi, .int xm] n ρ I (fun v I1 => v = bI (canB F sd ws b = true) ∧ ∀ i, ¬ Sc k h i → I1 i = I i) := by
  refine MG.of (by decide +kernel) (Nat.le_of_ble_eq_true rfl) hn9 ?_
  intro κ C hR
  show G κ n ρ 0 [(0, .ref r), (1, .int xs), (2, .ref h), (3, .ref t), (4, .int xi), (5, .int xm)] [] I
  subst hxs hxi hxm
  have hsp := hch.sp
  obtain ⟨hp0, hpn, hp1, hp2, hp3, hp4⟩ := id hsp
  obtain ⟨hs0, hs1, hs2, hs3, hsn, hr0, hr1, hr2⟩ := id hp4
  obtain ⟨hq0, hq1, hq2, hq3, hqn, ht0, ht1, ht2⟩ := id hrf
  have hnp : rN F ≤ 6 := hrw.2.2.2.2.1
  have hN := hrr.2.2.1
  have hAO := allO_le hrw
  have hM2 := hbw.1
  have hmv := hbr.1
  have hlen0 := hlen
  refine g_aload_n C (pc := 0) dX11_canTake_0 2 rfl ?_
  refine g_getR C (pc := 1) fl_RX11_210 (by decide) (by first | assumption | rfl | omega) (by first | assumption | rfl | omega) (by first | assumption | rfl | omega) dX11_canTake_1 ?_
  refine g_aload_n C (pc := 4) dX11_canTake_4 0 rfl ?_
  refine g_callVI C (pc := 5) mf_X8_lostSide lk_RX11_131 (c_X8_lostSide n ρ I (h + 1) r (rN F) hn9 hp4 hrf hN hnp) (by omega) (Nat.le_refl _) rfl (by first | assumption | rfl | omega) rfl (by first | assumption | rfl | omega) (Nat.le_of_ble_eq_true rfl) dX11_canTake_5 (fun v5 I5 h5 => ?_)
  obtain ⟨e5, rfl⟩ := h5
  replace e5 := e5.trans (lostI hrr hrw hbr hbw)
  refine g_istore C (pc := 8) dX11_canTake_8 (by decide) (fun v8 => [(6, .int v8), (0, .ref r), (1, .int (nI sd)), (2, .ref h), (3, .ref t), (4, .int (nI i)), (5, .int (nI m))]) (fun _ => rfl) (fun v8 ev8 => ?_)
  refine g_iload C (pc := 10) dX11_canTake_10 0 rfl ?_
  refine g_bipush C (pc := 12) (-4) dX11_canTake_12 (by decide) ?_
  refine g_icmp_eq C (pc := 14) 29 dX11_canTake_14 (by decide) (fun c14 => ?_) (fun c14 => ?_)
  · have hnb : lostB F b = none := by
      rw [ev8, e5] at c14
      exact (oI_none (fun z hz => by have := lostB_lt hrw z hz; omega)).mp c14
    have hno := lostB_none.mp hnb
    refine g_iload C (pc := 29) dX11_canTake_29 5 rfl ?_
    refine g_if_lt C (pc := 31) 55 dX11_canTake_31 (by decide) (fun c31 => ?_) (fun c31 => ?_)
    · exact absurd c31 (nI_pos (by omega))
    · refine g_iload C (pc := 34) dX11_canTake_34 5 rfl ?_
      refine g_iload C (pc := 36) dX11_canTake_36 6 rfl ?_
      refine g_icmp_ge C (pc := 38) 55 dX11_canTake_38 (by decide) (fun c38 => ?_) (fun c38 => ?_)
      · have hk0 : k = 0 := by
          have := (nI_leI (by omega) (by omega)).mp c38
          omega
        refine g_iconst C (pc := 55) 0 dX11_canTake_55 (by decide) ?_
        refine g_zret C hR (pc := 56) rfl rfl dX11_canTake_56 ?_
        refine ⟨rfl, _, rfl, ?_⟩
        refine ⟨?_, fun _ _ => rfl⟩
        have : ws = [] := List.eq_nil_of_length_eq_zero (by omega)
        rw [this, canB_nil hnb, bI_f (by decide)]
      · have hk0 : 0 < k := by
          have := (nI_ltI (by omega) (by omega)).mp c38
          omega
        refine g_iload C (pc := 41) dX11_canTake_41 5 rfl ?_
        refine g_aload_n C (pc := 43) dX11_canTake_43 4 rfl ?_
        refine g_alen C (pc := 44) 3 (by first | assumption | rfl | omega) (by decide) (by first | assumption | rfl | omega) rfl dX11_canTake_44 ?_
        refine g_icmp_ge C (pc := 45) 55 dX11_canTake_45 (by decide) (fun c45 => ?_) (fun c45 => ?_)
        · exact absurd (nI_lt (b := 3) (show i < 3 by omega) (by decide)) (Int32.not_lt.mpr c45)
        · have hnx := hch.nx hk0
          obtain ⟨k0, hkk⟩ : ∃ k0, k = k0 + 1 := ⟨k - 1, by omega⟩
          have hgo := hch.go hkk
          obtain ⟨w, ws2, hws⟩ : ∃ w ws2, ws = w :: ws2 := by
            cases ws with
            | nil => simp at hwl; omega
            | cons w ws2 => exact ⟨w, ws2, rfl⟩
          have hw0 := hwt 0 w (by rw [hws]; rfl)
          have hwd : w < 5 := hw0.2
          have hIt : I t (nI i).toNatClampNeg = nI w := by rw [nI_clamp (by omega)]; exact hw0.1
          have hlen := hlen0 w ws2 hws
          have hml := mvs_len (F := F) (b := b) (w := w) hnp
          refine g_aload_n C (pc := 48) dX11_canTake_48 3 rfl ?_
          refine g_getR C (pc := 49) fl_RX11_371 (by decide) (by first | assumption | rfl | omega) (by first | assumption | rfl | omega) (by first | assumption | rfl | omega) dX11_canTake_49 ?_
          refine g_ifnonnull C (pc := 52) 57 dX11_canTake_52 (by decide) ?_
          refine g_aload_n C (pc := 57) dX11_canTake_57 3 rfl ?_
          refine g_getR C (pc := 58) fl_RX11_210 (by decide) (by first | assumption | rfl | omega) (by first | assumption | rfl | omega) (by first | assumption | rfl | omega) dX11_canTake_58 ?_
          refine g_aload_n C (pc := 61) dX11_canTake_61 1 rfl ?_
          refine g_aload_n C (pc := 62) dX11_canTake_62 4 rfl ?_
          refine g_iload C (pc := 63) dX11_canTake_63 5 rfl ?_
          refine g_iald C (pc := 65) (by first | assumption | rfl | omega) (by first | assumption | rfl | omega) (vp_in_nI (show i < 3 by omega) (by decide)) dX11_canTake_65 ?_
          rw [hIt]
          refine g_aload_n C (pc := 66) dX11_canTake_66 3 rfl ?_
          refine g_getR C (pc := 67) fl_RX11_296 (by decide) (by first | assumption | rfl | omega) (by first | assumption | rfl | omega) (by first | assumption | rfl | omega) dX11_canTake_67 ?_
          refine g_callVI C (pc := 70) mf_X8_listMoves lk_RX11_300 (c_X8_listMoves n ρ I (h + 1) r w (h + 5) F b hn9 hp4 hrf hrr hrw hbr hbw hwd hp3 (by omega) (fun i hi => ⟨by omega, by omega⟩)) (by omega) (Nat.le_refl _) rfl (by first | assumption | rfl | omega) rfl (by first | assumption | rfl | omega) (Nat.le_of_ble_eq_true rfl) dX11_canTake_70 (fun v70 I70 h70 => ?_)
          obtain ⟨e70, f70, g70⟩ := h70
          have hcnt : cntM F b w = (mvs F b w).length := by unfold cntM; rw [if_neg (by omega)]
          refine g_istore C (pc := 73) dX11_canTake_73 (by decide) (fun v73 => [(7, .int v73), (6, .int v8), (0, .ref r), (1, .int (nI sd)), (2, .ref h), (3, .ref t), (4, .int (nI i)), (5, .int (nI m))]) (fun _ => rfl) (fun v73 ev73 => ?_)
          refine g_iconst C (pc := 75) 0 dX11_canTake_75 (by decide) ?_
          refine g_istore C (pc := 76) dX11_canTake_76 (by decide) (fun v76 => [(8, .int v76), (7, .int v73), (6, .int v8), (0, .ref r), (1, .int (nI sd)), (2, .ref h), (3, .ref t), (4, .int (nI i)), (5, .int (nI m))]) (fun _ => rfl) (fun v76 ev76 => ?_)
          have L78 : ∀ (k9 : Nat) (i0 : Nat) (wz8 : Int32) (J : Mem) (hw8 : wz8 = nI i0) (hi0 : i0 ≤ cntM F b w) (hJ : ∀ i, ¬ Sc k h i → J i = I i) (hC : ∀ (q m : Nat), (mvs F b w)[q]? = some m → J (h + 5) q = nI m) (hF : ∀ q, q < i0 → canB F sd ws2 (playB F b w ((mvs F b w)[q]?)) = false), cntM F b w - i0 < k9 → G κ n ρ 78 [(8, .int wz8), (7, .int v73), (0, .ref r), (1, .int (nI sd)), (2, .ref h), (3, .ref t), (4, .int (nI i)), (5, .int (nI m))] [] J := by
            intro k9
            induction k9 with
            | zero => intro i0 wz8 J hw8 hi0 hJ hC hF hm78; exact absurd hm78 (Nat.not_lt_zero _)
            | succ k9 ih78 =>
              intro i0 wz8 J hw8 hi0 hJ hC hF hm78
              subst hw8
              have hrrJ : RR J r F := hrr.cong (fun i hi => hJ _ (by unfold Sc; omega))
              have hbrJ : BR J (h + 1) F b := hbr.cong (fun i hi => hJ _ (by unfold Sc; omega))
              have hJt : J t = I t := hJ t (by unfold Sc; omega)
              refine g_iload C (pc := 78) dX11_canTake_78 0 rfl ?_
              refine g_iload C (pc := 80) dX11_canTake_80 1 rfl ?_
              refine g_icmp_lt C (pc := 82) 90 dX11_canTake_82 (by decide) (fun c82 => ?_) (fun c82 => ?_)
              · have hlt : i0 < cntM F b w := by
                  rw [ev73, e70] at c82
                  have := (nI_ltI (by omega) (by omega)).mp c82
                  omega
                refine g_aload_n C (pc := 90) dX11_canTake_90 4 rfl ?_
                refine g_aload_n C (pc := 91) dX11_canTake_91 2 rfl ?_
                refine g_aload_n C (pc := 92) dX11_canTake_92 5 rfl ?_
                refine g_iload C (pc := 93) dX11_canTake_93 6 rfl ?_
                refine g_iald C (pc := 95) (by first | assumption | rfl | omega) (by first | assumption | rfl | omega) (vp_in_nI (show i < 3 by omega) (by decide)) dX11_canTake_95 ?_
                rw [hJt, hIt]
                refine g_iload C (pc := 96) dX11_canTake_96 1 rfl ?_
                refine g_if_le C (pc := 98) 110 dX11_canTake_98 (by decide) (fun c98 => ?_) (fun c98 => ?_)
                · exact absurd c98 (by rw [ev73, e70]; exact nI_nle (by omega) (by omega))
                · refine g_aload_n C (pc := 101) dX11_canTake_101 4 rfl ?_
                  refine g_iload C (pc := 102) dX11_canTake_102 0 rfl ?_
                  refine g_callVI C (pc := 104) mf_X9_moveAt lk_RX11_193 (c_X9_moveAt n ρ J h i0 _ hn9 hsp (by omega) rfl) (by omega) (Nat.le_refl _) rfl (by first | assumption | rfl | omega) rfl (by first | assumption | rfl | omega) (Nat.le_of_ble_eq_true rfl) dX11_canTake_104 (fun v104 I104 h104 => ?_)
                  obtain ⟨e104, rfl⟩ := h104
                  refine g_goto C (pc := 107) 112 dX11_canTake_107 (by decide) ?_
                  refine g_callVV C (pc := 112) mf_X9_tread lk_RX11_378 (c_X9_tread n ρ J h (h - 6) r w F b ((mvs F b w)[i0]?) _ hn9 hsp hnx hgo.1 (fun i k h1 h2 => by omega) (fun i k h1 h2 => by omega) hrf hrrJ hrw hbrJ hbw hwd (fun m hm => ⟨(mvs_ok hm).1, (mvs_ok hm).2.1⟩) (by rw [e104, List.getElem?_eq_getElem (by omega), hC i0 _ (List.getElem?_eq_getElem (by omega))]; rfl)) (by omega) (Nat.le_refl _) rfl (by first | assumption | rfl | omega) rfl (by first | assumption | rfl | omega) (Nat.le_of_ble_eq_true rfl) dX11_canTake_112 (fun I112 h112 => ?_)
                  obtain ⟨h112, g112⟩ := h112
                  have hrr4 : RR I112 r F := hrrJ.cong (fun i hi => g112 _ (by omega) (by omega) (by omega) (by omega))
                  have hI112t : I112 t = I t := (g112 t (by omega) (by omega) (by omega) (by omega)).trans hJt
                  refine g_aload_n C (pc := 115) dX11_canTake_115 2 rfl ?_
                  refine g_iload_n C (pc := 116) dX11_canTake_116 3 rfl ?_
                  refine g_aload_n C (pc := 117) dX11_canTake_117 4 rfl ?_
                  refine g_getR C (pc := 118) fl_RX11_371 (by decide) (by first | assumption | rfl | omega) (by first | assumption | rfl | omega) (by first | assumption | rfl | omega) dX11_canTake_118 ?_
                  refine g_aload_n C (pc := 121) dX11_canTake_121 5 rfl ?_
                  refine g_iload C (pc := 122) dX11_canTake_122 6 rfl ?_
                  refine g_iconst C (pc := 124) 1 dX11_canTake_124 (by decide) ?_
                  refine g_iadd C (pc := 125) dX11_canTake_125 ?_
                  refine g_iload C (pc := 126) dX11_canTake_126 7 rfl ?_
                  refine g_callSI C (pc := 128) mf_X11_canTake lk_RX11_397 (hCC hk0 n ρ I112 r (h - 6) sd t (i + 1) m ws2 F _ _ _ _ hn9 hrf hgo.2 hrr4 hrw h112 (playB_W hbw (fun m hm => ⟨(mvs_ok hm).1, (mvs_ok hm).2.1⟩)) hsd (by omega) (by omega) hts htn (by omega) hm3 (by rw [hws] at hwl; simp at hwl; omega) (fun q w9 hq => by rw [hI112t, show i + 1 + q = i + (q + 1) by omega]; exact hwt (q + 1) w9 (by rw [hws]; exact hq)) rfl (nI_1 i) rfl) (by omega) (Nat.le_refl _) rfl (Nat.le_of_ble_eq_true rfl) dX11_canTake_128 (fun v128 I128 h128 => ?_)
                  obtain ⟨e128, g128⟩ := h128
                  have hJ4 : ∀ i, ¬ Sc k h i → I128 i = I i := fun i hi => (g128 i (fun e9 => hi (by unfold Sc at e9 ⊢; omega))).trans ((g112 i (fun e9 => hi (by unfold Sc; omega)) (fun e9 => hi (by unfold Sc; omega)) (fun e9 => hi (by unfold Sc; omega)) (fun e9 => hi (by unfold Sc; omega))).trans (hJ i hi))
                  have hC4 : ∀ (q m : Nat), (mvs F b w)[q]? = some m → I128 (h + 5) q = nI m := fun q m hm => by
                    rw [g128 _ (by unfold Sc; omega), g112 _ (by omega) (by omega) (by omega) (by omega)]; exact hC q m hm
                  refine g_if_eq C (pc := 131) 136 dX11_canTake_131 (by decide) (fun c131 => ?_) (fun c131 => ?_)
                  · have hcf : canB F sd ws2 (playB F b w ((mvs F b w)[i0]?)) = false := by
                      rw [e128, bI_0] at c131
                      exact Bool.not_eq_true _ ▸ c131
                    refine g_iinc C (pc := 136) (1) dX11_canTake_136 0 rfl (by decide) (by decide) (fun v136 => [(8, .int v136), (7, .int v73), (0, .ref r), (1, .int (nI sd)), (2, .ref h), (3, .ref t), (4, .int (nI i)), (5, .int (nI m))]) (fun _ => rfl) (fun v136 ev136 => ?_)
                    refine g_goto C (pc := 139) 78 dX11_canTake_139 (by decide) ?_
                    refine g_lv C [0, 1, 2, 3, 4, 5, 6, 7] rfl (ih78 (i0 + 1) _ _ ?_ ?_ ?_ ?_ ?_ (by omega))
                    · subst ev136; exact nI_1 _
                    · omega
                    · exact hJ4
                    · exact hC4
                    · intro q hq
                      rcases Nat.lt_or_ge q i0 with h9 | h9
                      · exact hF q h9
                      · have : q = i0 := by omega
                        subst this; exact hcf
                  · have hct : canB F sd ws2 (playB F b w ((mvs F b w)[i0]?)) = true := by
                      rw [e128] at c131
                      exact bI_1.mp c131
                    refine g_iconst C (pc := 134) 1 dX11_canTake_134 (by decide) ?_
                    refine g_zret C hR (pc := 135) rfl rfl dX11_canTake_135 ?_
                    refine ⟨rfl, _, rfl, ?_⟩
                    exact ⟨by rw [hws, bI_t (canB_t hnb hlt hct)], hJ4⟩
              · refine g_iload C (pc := 85) dX11_canTake_85 0 rfl ?_
                refine g_if_ne C (pc := 87) 142 dX11_canTake_87 (by decide) (fun c87 => ?_) (fun c87 => ?_)
                · have hend : i0 = cntM F b w := by
                    have h0 : i0 ≠ 0 := fun h9 => c87 (by rw [h9]; rfl)
                    rw [ev73, e70] at c82
                    have := (nI_leI (by omega) (by omega)).mp c82
                    omega
                  refine g_iconst C (pc := 142) 0 dX11_canTake_142 (by decide) ?_
                  refine g_zret C hR (pc := 143) rfl rfl dX11_canTake_143 ?_
                  refine ⟨rfl, _, rfl, ?_⟩
                  exact ⟨by rw [hws, bI_f (by rw [canB_f hnb (fun q hq => hF q (by omega))]; decide)], hJ⟩
                · have hlt : i0 < cntM F b w := by
                    have h0 : i0 = 0 := (nI_eq (b := 0) (by omega) (by decide)).mp c87
                    have := cntM_pos (F := F) (b := b) (w := w)
                    omega
                  refine g_aload_n C (pc := 90) dX11_canTake_90 4 rfl ?_
                  refine g_aload_n C (pc := 91) dX11_canTake_91 2 rfl ?_
                  refine g_aload_n C (pc := 92) dX11_canTake_92 5 rfl ?_
                  refine g_iload C (pc := 93) dX11_canTake_93 6 rfl ?_
                  refine g_iald C (pc := 95) (by first | assumption | rfl | omega) (by first | assumption | rfl | omega) (vp_in_nI (show i < 3 by omega) (by decide)) dX11_canTake_95 ?_
                  rw [hJt, hIt]
                  refine g_iload C (pc := 96) dX11_canTake_96 1 rfl ?_
                  refine g_if_le C (pc := 98) 110 dX11_canTake_98 (by decide) (fun c98 => ?_) (fun c98 => ?_)
                  · exact absurd c98 (by rw [ev73, e70]; exact nI_nle (by omega) (by omega))
                  · refine g_aload_n C (pc := 101) dX11_canTake_101 4 rfl ?_
                    refine g_iload C (pc := 102) dX11_canTake_102 0 rfl ?_
                    refine g_callVI C (pc := 104) mf_X9_moveAt lk_RX11_193 (c_X9_moveAt n ρ J h i0 _ hn9 hsp (by omega) rfl) (by omega) (Nat.le_refl _) rfl (by first | assumption | rfl | omega) rfl (by first | assumption | rfl | omega) (Nat.le_of_ble_eq_true rfl) dX11_canTake_104 (fun v104 I104 h104 => ?_)
                    obtain ⟨e104, rfl⟩ := h104
                    refine g_goto C (pc := 107) 112 dX11_canTake_107 (by decide) ?_
                    refine g_callVV C (pc := 112) mf_X9_tread lk_RX11_378 (c_X9_tread n ρ J h (h - 6) r w F b ((mvs F b w)[i0]?) _ hn9 hsp hnx hgo.1 (fun i k h1 h2 => by omega) (fun i k h1 h2 => by omega) hrf hrrJ hrw hbrJ hbw hwd (fun m hm => ⟨(mvs_ok hm).1, (mvs_ok hm).2.1⟩) (by rw [e104, List.getElem?_eq_getElem (by omega), hC i0 _ (List.getElem?_eq_getElem (by omega))]; rfl)) (by omega) (Nat.le_refl _) rfl (by first | assumption | rfl | omega) rfl (by first | assumption | rfl | omega) (Nat.le_of_ble_eq_true rfl) dX11_canTake_112 (fun I112 h112 => ?_)
                    obtain ⟨h112, g112⟩ := h112
                    have hrr4 : RR I112 r F := hrrJ.cong (fun i hi => g112 _ (by omega) (by omega) (by omega) (by omega))
                    have hI112t : I112 t = I t := (g112 t (by omega) (by omega) (by omega) (by omega)).trans hJt
                    refine g_aload_n C (pc := 115) dX11_canTake_115 2 rfl ?_
                    refine g_iload_n C (pc := 116) dX11_canTake_116 3 rfl ?_
                    refine g_aload_n C (pc := 117) dX11_canTake_117 4 rfl ?_
                    refine g_getR C (pc := 118) fl_RX11_371 (by decide) (by first | assumption | rfl | omega) (by first | assumption | rfl | omega) (by first | assumption | rfl | omega) dX11_canTake_118 ?_
                    refine g_aload_n C (pc := 121) dX11_canTake_121 5 rfl ?_
                    refine g_iload C (pc := 122) dX11_canTake_122 6 rfl ?_
                    refine g_iconst C (pc := 124) 1 dX11_canTake_124 (by decide) ?_
                    refine g_iadd C (pc := 125) dX11_canTake_125 ?_
                    refine g_iload C (pc := 126) dX11_canTake_126 7 rfl ?_
                    refine g_callSI C (pc := 128) mf_X11_canTake lk_RX11_397 (hCC hk0 n ρ I112 r (h - 6) sd t (i + 1) m ws2 F _ _ _ _ hn9 hrf hgo.2 hrr4 hrw h112 (playB_W hbw (fun m hm => ⟨(mvs_ok hm).1, (mvs_ok hm).2.1⟩)) hsd (by omega) (by omega) hts htn (by omega) hm3 (by rw [hws] at hwl; simp at hwl; omega) (fun q w9 hq => by rw [hI112t, show i + 1 + q = i + (q + 1) by omega]; exact hwt (q + 1) w9 (by rw [hws]; exact hq)) rfl (nI_1 i) rfl) (by omega) (Nat.le_refl _) rfl (Nat.le_of_ble_eq_true rfl) dX11_canTake_128 (fun v128 I128 h128 => ?_)
                    obtain ⟨e128, g128⟩ := h128
                    have hJ4 : ∀ i, ¬ Sc k h i → I128 i = I i := fun i hi => (g128 i (fun e9 => hi (by unfold Sc at e9 ⊢; omega))).trans ((g112 i (fun e9 => hi (by unfold Sc; omega)) (fun e9 => hi (by unfold Sc; omega)) (fun e9 => hi (by unfold Sc; omega)) (fun e9 => hi (by unfold Sc; omega))).trans (hJ i hi))
                    have hC4 : ∀ (q m : Nat), (mvs F b w)[q]? = some m → I128 (h + 5) q = nI m := fun q m hm => by
                      rw [g128 _ (by unfold Sc; omega), g112 _ (by omega) (by omega) (by omega) (by omega)]; exact hC q m hm
                    refine g_if_eq C (pc := 131) 136 dX11_canTake_131 (by decide) (fun c131 => ?_) (fun c131 => ?_)
                    · have hcf : canB F sd ws2 (playB F b w ((mvs F b w)[i0]?)) = false := by
                        rw [e128, bI_0] at c131
                        exact Bool.not_eq_true _ ▸ c131
                      refine g_iinc C (pc := 136) (1) dX11_canTake_136 0 rfl (by decide) (by decide) (fun v136 => [(8, .int v136), (7, .int v73), (0, .ref r), (1, .int (nI sd)), (2, .ref h), (3, .ref t), (4, .int (nI i)), (5, .int (nI m))]) (fun _ => rfl) (fun v136 ev136 => ?_)
                      refine g_goto C (pc := 139) 78 dX11_canTake_139 (by decide) ?_
                      refine g_lv C [0, 1, 2, 3, 4, 5, 6, 7] rfl (ih78 (i0 + 1) _ _ ?_ ?_ ?_ ?_ ?_ (by omega))
                      · subst ev136; exact nI_1 _
                      · omega
                      · exact hJ4
                      · exact hC4
                      · intro q hq
                        rcases Nat.lt_or_ge q i0 with h9 | h9
                        · exact hF q h9
                        · have : q = i0 := by omega
                          subst this; exact hcf
                    · have hct : canB F sd ws2 (playB F b w ((mvs F b w)[i0]?)) = true := by
                        rw [e128] at c131
                        exact bI_1.mp c131
                      refine g_iconst C (pc := 134) 1 dX11_canTake_134 (by decide) ?_
                      refine g_zret C hR (pc := 135) rfl rfl dX11_canTake_135 ?_
                      refine ⟨rfl, _, rfl, ?_⟩
                      exact ⟨by rw [hws, bI_t (canB_t hnb hlt hct)], hJ4⟩
          refine g_lv C [0, 1, 3, 4, 5, 6, 7, 8] rfl (L78 (_ + 1) 0 _ _ ?_ ?_ ?_ ?_ ?_ (by first | omega | exact Nat.lt_succ_self _))
          · subst ev76; rfl
          · omega
          · intro i hi; exact g70 i (fun e9 => hi (by rw [e9]; unfold Sc; omega))
          · exact f70
          · intro q hq; omega
  · obtain ⟨l, hl⟩ : ∃ l, lostB F b = some l := by
      cases h9 : lostB F b with
      | none => exact absurd (by rw [ev8, e5, h9]; rfl) c14
      | some l => exact ⟨l, rfl⟩
    have hl2 := lostB_lt hrw l hl
    refine g_iload C (pc := 17) dX11_canTake_17 0 rfl ?_
    refine g_iload_n C (pc := 19) dX11_canTake_19 2 rfl ?_
    refine g_icmp_eq C (pc := 20) 27 dX11_canTake_20 (by decide) (fun c20 => ?_) (fun c20 => ?_)
    · have heq : l = sd := by
        rw [ev8, e5, hl] at c20
        exact (nI_eq (by omega) (by omega)).mp c20
      refine g_iconst C (pc := 27) 0 dX11_canTake_27 (by decide) ?_
      refine g_zret C hR (pc := 28) rfl rfl dX11_canTake_28 ?_
      refine ⟨rfl, _, rfl, ?_⟩
      refine ⟨?_, fun _ _ => rfl⟩
      rw [canB_over hl]
      first | (rw [bI_t (by simpa using hne)]; done) | (rw [bI_f (by simp [heq])]; done)
    · have hne : l ≠ sd := fun h9 => c20 (by rw [ev8, e5, hl, h9]; rfl)
      refine g_iconst C (pc := 23) 1 dX11_canTake_23 (by decide) ?_
      refine g_goto C (pc := 24) 28 dX11_canTake_24 (by decide) ?_
      refine g_zret C hR (pc := 28) rfl rfl dX11_canTake_28 ?_
      refine ⟨rfl, _, rfl, ?_⟩
      refine ⟨?_, fun _ _ => rfl⟩
      rw [canB_over hl]
      first | (rw [bI_t (by simpa using hne)]; done) | (rw [bI_f (by simp [heq])]; done)
set_option maxHeartbeats 400000 in
theorem c_X11_canTake_1 (n : Nat) (ρ : Rho) (I : Mem) (r h sd t i m k : Nat) (ws : List Nat) (F : RT) (b : BT) (xs xi xm : Int32) (hn9 : n ≤ 999) (hrf : Rf n ρ r) (hch : Ch n ρ k h) (hrr : RR I r F) (hrw : RW F) (hbr : BR I (h + 1) F b) (hbw : BW F b) (hsd : sd < 2) (hrh : r + 3 + 6 * k < h) (hht : h + 5 < t) (hts : shp t = (0, 3)) (htn : t < n) (hmk : m = i + k) (hm3 : m ≤ 3) (hwl : ws.length = k) (hwt : ∀ q w, ws[q]? = some w → I t (i + q) = nI w ∧ w < 5) (hxs : xs = nI sd) (hxi : xi = nI i) (hxm : xm = nI m) (hCC : 0 < k → CanC (k - 1)) (hlen : ∀ w ws2, ws = w :: ws2 → (mvs F b w).length = 0) : MI yX11_canTake cX11_canTake 9 (some .boolean) (10 + 2 * k) [.ref r, .int xs, .ref h, .ref t, .int xi, .int xm] n ρ I (fun v I1 => v = bI (canB F sd ws b = true) ∧ ∀ i, ¬ Sc k h i → I1 i = I i) := by
  refine MG.of (by decide +kernel) (Nat.le_of_ble_eq_true rfl) hn9 ?_
  intro κ C hR
  show G κ n ρ 0 [(0, .ref r), (1, .int xs), (2, .ref h), (3, .ref t), (4, .int xi), (5, .int xm)] [] I
  subst hxs hxi hxm
  have hsp := hch.sp
  obtain ⟨hp0, hpn, hp1, hp2, hp3, hp4⟩ := id hsp
  obtain ⟨hs0, hs1, hs2, hs3, hsn, hr0, hr1, hr2⟩ := id hp4
  obtain ⟨hq0, hq1, hq2, hq3, hqn, ht0, ht1, ht2⟩ := id hrf
  have hnp : rN F ≤ 6 := hrw.2.2.2.2.1
  have hN := hrr.2.2.1
  have hAO := allO_le hrw
  have hM2 := hbw.1
  have hmv := hbr.1
  have hlen0 := hlen
  refine g_aload_n C (pc := 0) dX11_canTake_0 2 rfl ?_
  refine g_getR C (pc := 1) fl_RX11_210 (by decide) (by first | assumption | rfl | omega) (by first | assumption | rfl | omega) (by first | assumption | rfl | omega) dX11_canTake_1 ?_
  refine g_aload_n C (pc := 4) dX11_canTake_4 0 rfl ?_
  refine g_callVI C (pc := 5) mf_X8_lostSide lk_RX11_131 (c_X8_lostSide n ρ I (h + 1) r (rN F) hn9 hp4 hrf hN hnp) (by omega) (Nat.le_refl _) rfl (by first | assumption | rfl | omega) rfl (by first | assumption | rfl | omega) (Nat.le_of_ble_eq_true rfl) dX11_canTake_5 (fun v5 I5 h5 => ?_)
  obtain ⟨e5, rfl⟩ := h5
  replace e5 := e5.trans (lostI hrr hrw hbr hbw)
  refine g_istore C (pc := 8) dX11_canTake_8 (by decide) (fun v8 => [(6, .int v8), (0, .ref r), (1, .int (nI sd)), (2, .ref h), (3, .ref t), (4, .int (nI i)), (5, .int (nI m))]) (fun _ => rfl) (fun v8 ev8 => ?_)
  refine g_iload C (pc := 10) dX11_canTake_10 0 rfl ?_
  refine g_bipush C (pc := 12) (-4) dX11_canTake_12 (by decide) ?_
  refine g_icmp_eq C (pc := 14) 29 dX11_canTake_14 (by decide) (fun c14 => ?_) (fun c14 => ?_)
  · have hnb : lostB F b = none := by
      rw [ev8, e5] at c14
      exact (oI_none (fun z hz => by have := lostB_lt hrw z hz; omega)).mp c14
    have hno := lostB_none.mp hnb
    refine g_iload C (pc := 29) dX11_canTake_29 5 rfl ?_
    refine g_if_lt C (pc := 31) 55 dX11_canTake_31 (by decide) (fun c31 => ?_) (fun c31 => ?_)
    · exact absurd c31 (nI_pos (by omega))
    · refine g_iload C (pc := 34) dX11_canTake_34 5 rfl ?_
      refine g_iload C (pc := 36) dX11_canTake_36 6 rfl ?_
      refine g_icmp_ge C (pc := 38) 55 dX11_canTake_38 (by decide) (fun c38 => ?_) (fun c38 => ?_)
      · have hk0 : k = 0 := by
          have := (nI_leI (by omega) (by omega)).mp c38
          omega
        refine g_iconst C (pc := 55) 0 dX11_canTake_55 (by decide) ?_
        refine g_zret C hR (pc := 56) rfl rfl dX11_canTake_56 ?_
        refine ⟨rfl, _, rfl, ?_⟩
        refine ⟨?_, fun _ _ => rfl⟩
        have : ws = [] := List.eq_nil_of_length_eq_zero (by omega)
        rw [this, canB_nil hnb, bI_f (by decide)]
      · have hk0 : 0 < k := by
          have := (nI_ltI (by omega) (by omega)).mp c38
          omega
        refine g_iload C (pc := 41) dX11_canTake_41 5 rfl ?_
        refine g_aload_n C (pc := 43) dX11_canTake_43 4 rfl ?_
        refine g_alen C (pc := 44) 3 (by first | assumption | rfl | omega) (by decide) (by first | assumption | rfl | omega) rfl dX11_canTake_44 ?_
        refine g_icmp_ge C (pc := 45) 55 dX11_canTake_45 (by decide) (fun c45 => ?_) (fun c45 => ?_)
        · exact absurd (nI_lt (b := 3) (show i < 3 by omega) (by decide)) (Int32.not_lt.mpr c45)
        · have hnx := hch.nx hk0
          obtain ⟨k0, hkk⟩ : ∃ k0, k = k0 + 1 := ⟨k - 1, by omega⟩
          have hgo := hch.go hkk
          obtain ⟨w, ws2, hws⟩ : ∃ w ws2, ws = w :: ws2 := by
            cases ws with
            | nil => simp at hwl; omega
            | cons w ws2 => exact ⟨w, ws2, rfl⟩
          have hw0 := hwt 0 w (by rw [hws]; rfl)
          have hwd : w < 5 := hw0.2
          have hIt : I t (nI i).toNatClampNeg = nI w := by rw [nI_clamp (by omega)]; exact hw0.1
          have hlen := hlen0 w ws2 hws
          have hml := mvs_len (F := F) (b := b) (w := w) hnp
          refine g_aload_n C (pc := 48) dX11_canTake_48 3 rfl ?_
          refine g_getR C (pc := 49) fl_RX11_371 (by decide) (by first | assumption | rfl | omega) (by first | assumption | rfl | omega) (by first | assumption | rfl | omega) dX11_canTake_49 ?_
          refine g_ifnonnull C (pc := 52) 57 dX11_canTake_52 (by decide) ?_
          refine g_aload_n C (pc := 57) dX11_canTake_57 3 rfl ?_
          refine g_getR C (pc := 58) fl_RX11_210 (by decide) (by first | assumption | rfl | omega) (by first | assumption | rfl | omega) (by first | assumption | rfl | omega) dX11_canTake_58 ?_
          refine g_aload_n C (pc := 61) dX11_canTake_61 1 rfl ?_
          refine g_aload_n C (pc := 62) dX11_canTake_62 4 rfl ?_
          refine g_iload C (pc := 63) dX11_canTake_63 5 rfl ?_
          refine g_iald C (pc := 65) (by first | assumption | rfl | omega) (by first | assumption | rfl | omega) (vp_in_nI (show i < 3 by omega) (by decide)) dX11_canTake_65 ?_
          rw [hIt]
          refine g_aload_n C (pc := 66) dX11_canTake_66 3 rfl ?_
          refine g_getR C (pc := 67) fl_RX11_296 (by decide) (by first | assumption | rfl | omega) (by first | assumption | rfl | omega) (by first | assumption | rfl | omega) dX11_canTake_67 ?_
          refine g_callVI C (pc := 70) mf_X8_listMoves lk_RX11_300 (c_X8_listMoves n ρ I (h + 1) r w (h + 5) F b hn9 hp4 hrf hrr hrw hbr hbw hwd hp3 (by omega) (fun i hi => ⟨by omega, by omega⟩)) (by omega) (Nat.le_refl _) rfl (by first | assumption | rfl | omega) rfl (by first | assumption | rfl | omega) (Nat.le_of_ble_eq_true rfl) dX11_canTake_70 (fun v70 I70 h70 => ?_)
          obtain ⟨e70, f70, g70⟩ := h70
          have hcnt : cntM F b w = 1 := by unfold cntM; rw [if_pos hlen]
          refine g_istore C (pc := 73) dX11_canTake_73 (by decide) (fun v73 => [(7, .int v73), (6, .int v8), (0, .ref r), (1, .int (nI sd)), (2, .ref h), (3, .ref t), (4, .int (nI i)), (5, .int (nI m))]) (fun _ => rfl) (fun v73 ev73 => ?_)
          refine g_iconst C (pc := 75) 0 dX11_canTake_75 (by decide) ?_
          refine g_istore C (pc := 76) dX11_canTake_76 (by decide) (fun v76 => [(8, .int v76), (7, .int v73), (6, .int v8), (0, .ref r), (1, .int (nI sd)), (2, .ref h), (3, .ref t), (4, .int (nI i)), (5, .int (nI m))]) (fun _ => rfl) (fun v76 ev76 => ?_)
          have L78 : ∀ (k9 : Nat) (i0 : Nat) (wz8 : Int32) (J : Mem) (hw8 : wz8 = nI i0) (hi0 : i0 ≤ cntM F b w) (hJ : ∀ i, ¬ Sc k h i → J i = I i) (hC : ∀ (q m : Nat), (mvs F b w)[q]? = some m → J (h + 5) q = nI m) (hF : ∀ q, q < i0 → canB F sd ws2 (playB F b w ((mvs F b w)[q]?)) = false), cntM F b w - i0 < k9 → G κ n ρ 78 [(8, .int wz8), (7, .int v73), (0, .ref r), (1, .int (nI sd)), (2, .ref h), (3, .ref t), (4, .int (nI i)), (5, .int (nI m))] [] J := by
            intro k9
            induction k9 with
            | zero => intro i0 wz8 J hw8 hi0 hJ hC hF hm78; exact absurd hm78 (Nat.not_lt_zero _)
            | succ k9 ih78 =>
              intro i0 wz8 J hw8 hi0 hJ hC hF hm78
              subst hw8
              have hrrJ : RR J r F := hrr.cong (fun i hi => hJ _ (by unfold Sc; omega))
              have hbrJ : BR J (h + 1) F b := hbr.cong (fun i hi => hJ _ (by unfold Sc; omega))
              have hJt : J t = I t := hJ t (by unfold Sc; omega)
              refine g_iload C (pc := 78) dX11_canTake_78 0 rfl ?_
              refine g_iload C (pc := 80) dX11_canTake_80 1 rfl ?_
              refine g_icmp_lt C (pc := 82) 90 dX11_canTake_82 (by decide) (fun c82 => ?_) (fun c82 => ?_)
              · rw [ev73, e70, hlen] at c82; exact absurd c82 (nI_pos (by omega))
              · refine g_iload C (pc := 85) dX11_canTake_85 0 rfl ?_
                refine g_if_ne C (pc := 87) 142 dX11_canTake_87 (by decide) (fun c87 => ?_) (fun c87 => ?_)
                · have hend : i0 = cntM F b w := by
                    have h0 : i0 ≠ 0 := fun h9 => c87 (by rw [h9]; rfl)
                    omega
                  refine g_iconst C (pc := 142) 0 dX11_canTake_142 (by decide) ?_
                  refine g_zret C hR (pc := 143) rfl rfl dX11_canTake_143 ?_
                  refine ⟨rfl, _, rfl, ?_⟩
                  exact ⟨by rw [hws, bI_f (by rw [canB_f hnb (fun q hq => hF q (by omega))]; decide)], hJ⟩
                · have hlt : i0 < cntM F b w := by
                    have h0 : i0 = 0 := (nI_eq (b := 0) (by omega) (by decide)).mp c87
                    have := cntM_pos (F := F) (b := b) (w := w)
                    omega
                  refine g_aload_n C (pc := 90) dX11_canTake_90 4 rfl ?_
                  refine g_aload_n C (pc := 91) dX11_canTake_91 2 rfl ?_
                  refine g_aload_n C (pc := 92) dX11_canTake_92 5 rfl ?_
                  refine g_iload C (pc := 93) dX11_canTake_93 6 rfl ?_
                  refine g_iald C (pc := 95) (by first | assumption | rfl | omega) (by first | assumption | rfl | omega) (vp_in_nI (show i < 3 by omega) (by decide)) dX11_canTake_95 ?_
                  rw [hJt, hIt]
                  refine g_iload C (pc := 96) dX11_canTake_96 1 rfl ?_
                  refine g_if_le C (pc := 98) 110 dX11_canTake_98 (by decide) (fun c98 => ?_) (fun c98 => ?_)
                  · refine g_bipush C (pc := 110) (-4) dX11_canTake_110 (by decide) ?_
                    refine g_callVV C (pc := 112) mf_X9_tread lk_RX11_378 (c_X9_tread n ρ J h (h - 6) r w F b ((mvs F b w)[i0]?) _ hn9 hsp hnx hgo.1 (fun i k h1 h2 => by omega) (fun i k h1 h2 => by omega) hrf hrrJ hrw hbrJ hbw hwd (fun m hm => ⟨(mvs_ok hm).1, (mvs_ok hm).2.1⟩) (by rw [List.eq_nil_of_length_eq_zero hlen]; rfl)) (by omega) (Nat.le_refl _) rfl (by first | assumption | rfl | omega) rfl (by first | assumption | rfl | omega) (Nat.le_of_ble_eq_true rfl) dX11_canTake_112 (fun I112 h112 => ?_)
                    obtain ⟨h112, g112⟩ := h112
                    have hrr4 : RR I112 r F := hrrJ.cong (fun i hi => g112 _ (by omega) (by omega) (by omega) (by omega))
                    have hI112t : I112 t = I t := (g112 t (by omega) (by omega) (by omega) (by omega)).trans hJt
                    refine g_aload_n C (pc := 115) dX11_canTake_115 2 rfl ?_
                    refine g_iload_n C (pc := 116) dX11_canTake_116 3 rfl ?_
                    refine g_aload_n C (pc := 117) dX11_canTake_117 4 rfl ?_
                    refine g_getR C (pc := 118) fl_RX11_371 (by decide) (by first | assumption | rfl | omega) (by first | assumption | rfl | omega) (by first | assumption | rfl | omega) dX11_canTake_118 ?_
                    refine g_aload_n C (pc := 121) dX11_canTake_121 5 rfl ?_
                    refine g_iload C (pc := 122) dX11_canTake_122 6 rfl ?_
                    refine g_iconst C (pc := 124) 1 dX11_canTake_124 (by decide) ?_
                    refine g_iadd C (pc := 125) dX11_canTake_125 ?_
                    refine g_iload C (pc := 126) dX11_canTake_126 7 rfl ?_
                    refine g_callSI C (pc := 128) mf_X11_canTake lk_RX11_397 (hCC hk0 n ρ I112 r (h - 6) sd t (i + 1) m ws2 F _ _ _ _ hn9 hrf hgo.2 hrr4 hrw h112 (playB_W hbw (fun m hm => ⟨(mvs_ok hm).1, (mvs_ok hm).2.1⟩)) hsd (by omega) (by omega) hts htn (by omega) hm3 (by rw [hws] at hwl; simp at hwl; omega) (fun q w9 hq => by rw [hI112t, show i + 1 + q = i + (q + 1) by omega]; exact hwt (q + 1) w9 (by rw [hws]; exact hq)) rfl (nI_1 i) rfl) (by omega) (Nat.le_refl _) rfl (Nat.le_of_ble_eq_true rfl) dX11_canTake_128 (fun v128 I128 h128 => ?_)
                    obtain ⟨e128, g128⟩ := h128
                    have hJ4 : ∀ i, ¬ Sc k h i → I128 i = I i := fun i hi => (g128 i (fun e9 => hi (by unfold Sc at e9 ⊢; omega))).trans ((g112 i (fun e9 => hi (by unfold Sc; omega)) (fun e9 => hi (by unfold Sc; omega)) (fun e9 => hi (by unfold Sc; omega)) (fun e9 => hi (by unfold Sc; omega))).trans (hJ i hi))
                    have hC4 : ∀ (q m : Nat), (mvs F b w)[q]? = some m → I128 (h + 5) q = nI m := fun q m hm => by
                      rw [g128 _ (by unfold Sc; omega), g112 _ (by omega) (by omega) (by omega) (by omega)]; exact hC q m hm
                    refine g_if_eq C (pc := 131) 136 dX11_canTake_131 (by decide) (fun c131 => ?_) (fun c131 => ?_)
                    · have hcf : canB F sd ws2 (playB F b w ((mvs F b w)[i0]?)) = false := by
                        rw [e128, bI_0] at c131
                        exact Bool.not_eq_true _ ▸ c131
                      refine g_iinc C (pc := 136) (1) dX11_canTake_136 0 rfl (by decide) (by decide) (fun v136 => [(8, .int v136), (7, .int v73), (0, .ref r), (1, .int (nI sd)), (2, .ref h), (3, .ref t), (4, .int (nI i)), (5, .int (nI m))]) (fun _ => rfl) (fun v136 ev136 => ?_)
                      refine g_goto C (pc := 139) 78 dX11_canTake_139 (by decide) ?_
                      refine g_lv C [0, 1, 2, 3, 4, 5, 6, 7] rfl (ih78 (i0 + 1) _ _ ?_ ?_ ?_ ?_ ?_ (by omega))
                      · subst ev136; exact nI_1 _
                      · omega
                      · exact hJ4
                      · exact hC4
                      · intro q hq
                        rcases Nat.lt_or_ge q i0 with h9 | h9
                        · exact hF q h9
                        · have : q = i0 := by omega
                          subst this; exact hcf
                    · have hct : canB F sd ws2 (playB F b w ((mvs F b w)[i0]?)) = true := by
                        rw [e128] at c131
                        exact bI_1.mp c131
                      refine g_iconst C (pc := 134) 1 dX11_canTake_134 (by decide) ?_
                      refine g_zret C hR (pc := 135) rfl rfl dX11_canTake_135 ?_
                      refine ⟨rfl, _, rfl, ?_⟩
                      exact ⟨by rw [hws, bI_t (canB_t hnb hlt hct)], hJ4⟩
                  · exact absurd c98 (by rw [ev73, e70, hlen]; exact Int32.not_lt.mpr (Int32.le_refl 0))
          refine g_lv C [0, 1, 3, 4, 5, 6, 7, 8] rfl (L78 (_ + 1) 0 _ _ ?_ ?_ ?_ ?_ ?_ (by first | omega | exact Nat.lt_succ_self _))
          · subst ev76; rfl
          · omega
          · intro i hi; exact g70 i (fun e9 => hi (by rw [e9]; unfold Sc; omega))
          · exact f70
          · intro q hq; omega
  · obtain ⟨l, hl⟩ : ∃ l, lostB F b = some l := by
      cases h9 : lostB F b with
      | none => exact absurd (by rw [ev8, e5, h9]; rfl) c14
      | some l => exact ⟨l, rfl⟩
    have hl2 := lostB_lt hrw l hl
    refine g_iload C (pc := 17) dX11_canTake_17 0 rfl ?_
    refine g_iload_n C (pc := 19) dX11_canTake_19 2 rfl ?_
    refine g_icmp_eq C (pc := 20) 27 dX11_canTake_20 (by decide) (fun c20 => ?_) (fun c20 => ?_)
    · have heq : l = sd := by
        rw [ev8, e5, hl] at c20
        exact (nI_eq (by omega) (by omega)).mp c20
      refine g_iconst C (pc := 27) 0 dX11_canTake_27 (by decide) ?_
      refine g_zret C hR (pc := 28) rfl rfl dX11_canTake_28 ?_
      refine ⟨rfl, _, rfl, ?_⟩
      refine ⟨?_, fun _ _ => rfl⟩
      rw [canB_over hl]
      first | (rw [bI_t (by simpa using hne)]; done) | (rw [bI_f (by simp [heq])]; done)
    · have hne : l ≠ sd := fun h9 => c20 (by rw [ev8, e5, hl, h9]; rfl)
      refine g_iconst C (pc := 23) 1 dX11_canTake_23 (by decide) ?_
      refine g_goto C (pc := 24) 28 dX11_canTake_24 (by decide) ?_
      refine g_zret C hR (pc := 28) rfl rfl dX11_canTake_28 ?_
      refine ⟨rfl, _, rfl, ?_⟩
      refine ⟨?_, fun _ _ => rfl⟩
      rw [canB_over hl]
      first | (rw [bI_t (by simpa using hne)]; done) | (rw [bI_f (by simp [heq])]; done)
theorem can_of {k : Nat} (hC : 0 < k → CanC (k - 1)) : CanC k := by
  intro n ρ I r h sd t i m ws F b xs xi xm h1 h2 h3 h4 h5 h6 h7 h8 h9 h10 h11 h12 h13 h14 h15 h16 h17 h18 h19
  cases ws with
  | nil => exact c_X11_canTake_0 n ρ I r h sd t i m k [] F b xs xi xm h1 h2 h3 h4 h5 h6 h7 h8 h9 h10 h11 h12 h13 h14 h15 h16 h17 h18 h19 hC (fun w ws2 e => by cases e)
  | cons w ws2 =>
    by_cases hl : (mvs F b w).length = 0
    · exact c_X11_canTake_1 n ρ I r h sd t i m k (w :: ws2) F b xs xi xm h1 h2 h3 h4 h5 h6 h7 h8 h9 h10 h11 h12 h13 h14 h15 h16 h17 h18 h19 hC (fun w' ws' e => by cases e; exact hl)
    · exact c_X11_canTake_0 n ρ I r h sd t i m k (w :: ws2) F b xs xi xm h1 h2 h3 h4 h5 h6 h7 h8 h9 h10 h11 h12 h13 h14 h15 h16 h17 h18 h19 hC (fun w' ws' e => by cases e; omega)
theorem can_all : ∀ k, CanC k
  | 0 => can_of (fun h => absurd h (Nat.lt_irrefl 0))
  | k + 1 => can_of (fun _ => can_all k)
