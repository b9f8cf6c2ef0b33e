/-- a search keeps all that lies at its depth or deeper -/
def Lw (d : Nat) (I I1 : Mem) : Prop := Kp I I1 ∧ (∀ z, 64 * d ≤ z → I1 108 z = I 108 z) ∧ (∀ z, d ≤ z → I1 109 z = I 109 z) ∧ ∀ z, 13 * d ≤ z → I1 110 z = I 110 z
theorem Lw.rfl' {d : Nat} {I : Mem} : Lw d I I := ⟨Kp.rfl', fun _ _ => rfl, fun _ _ => rfl, fun _ _ => rfl⟩
theorem Lw.trans {d : Nat} {I I1 I2 : Mem} (h : Lw d I I1) (k : Lw d I1 I2) : Lw d I I2 := ⟨h.1.trans k.1, fun z hz => (k.2.1 z hz).trans (h.2.1 z hz), fun z hz => (k.2.2.1 z hz).trans (h.2.2.1 z hz), fun z hz => (k.2.2.2 z hz).trans (h.2.2.2 z hz)⟩
theorem Lw.up {d e : Nat} {I I1 : Mem} (h : Lw d I I1) (hde : d ≤ e) : Lw e I I1 := ⟨h.1, fun z hz => h.2.1 z (by omega), fun z hz => h.2.2.1 z (by omega), fun z hz => h.2.2.2 z (by omega)⟩
theorem Lw.qb {I I1 : Mem} (a : ∀ z, z ≠ 25 → I1 97 z = I 97 z) (g : ∀ i, i ≠ 97 → i ≠ 106 → i ≠ 107 → I1 i = I i) : Lw 0 I I1 := ⟨Kp.qb a g, fun z _ => by rw [g 108 (by decide) (by decide) (by decide)], fun z _ => by rw [g 109 (by decide) (by decide) (by decide)], fun z _ => by rw [g 110 (by decide) (by decide) (by decide)]⟩
theorem Lw.sv {d : Nat} {I I1 : Mem} (a : ∀ z, z < 13 * d ∨ 13 * d + 13 ≤ z → I1 110 z = I 110 z) (g : ∀ i, i ≠ 110 → I1 i = I i) : Lw (d + 1) I I1 := ⟨Kp.sv g, fun z _ => by rw [g 108 (by decide)], fun z _ => by rw [g 109 (by decide)], fun z hz => a z (by omega)⟩
theorem Lw.fm {d : Nat} {I I1 : Mem} (a : ∀ z, z < 64 * d ∨ 64 * d + 24 ≤ z → I1 108 z = I 108 z) (b : ∀ z, z ≠ d → I1 109 z = I 109 z) (g : ∀ i, i ≠ 108 → i ≠ 109 → I1 i = I i) : Lw (d + 1) I I1 := ⟨Kp.fm g, fun z hz => a z (by omega), fun z hz => b z (by omega), fun z _ => by rw [g 110 (by decide) (by decide)]⟩
theorem Lw.sc {k : Nat} {I : Mem} {x : Int32} (h : 25 ≤ k) (h2 : k ≤ 37) : Lw 0 I (wr I 97 k x) := ⟨Kp.sc h h2, fun z _ => by rw [wr_n (by decide)], fun z _ => by rw [wr_n (by decide)], fun z _ => by rw [wr_n (by decide)]⟩
theorem SvB.lw {I I1 : Mem} {F : RT} {d : Nat} {b : BT} (h : SvB I F d b) (k : Lw d I I1) (hn : rN F ≤ 6) : SvB I1 F d b := h.cong (fun z h1 h2 => k.2.2.2 z h1) hn
theorem FMv.lw {I I1 : Mem} {F : RT} {b : BT} {w d : Nat} (h : FMv I F b w d) (k : Lw d I I1) (hn : rN F ≤ 6) : FMv I1 F b w d := h.cong (k.2.2.1 d (Nat.le_refl d)) (fun z h1 h2 => k.2.1 z h1) hn
theorem bst_upd {wants : Bool} {f : Nat → Nat} {j : Nat} {z6 u fl own : Int32} {z4 : Int64} (hf : ∀ i, i ≤ j → f i < 2 ^ 31) (h4 : z4 = lN (((bstK wants f j).map (fun q => q.1)).getD 0)) (h6 : z6 = oI ((bstK wants f j).map (fun q => q.2))) (hfl : fl = bI (j = 0)) (how : own = bI (wants = true)) (hu : u = bI (¬ fl = 0 ∨ (if own = 0 then lN (f j) < z4 else z4 < lN (f j)))) : (¬ u = 0 → lN (f j) = lN (((bstK wants f (j + 1)).map (fun q => q.1)).getD 0) ∧ nI j = oI ((bstK wants f (j + 1)).map (fun q => q.2))) ∧ (u = 0 → z4 = lN (((bstK wants f (j + 1)).map (fun q => q.1)).getD 0) ∧ z6 = oI ((bstK wants f (j + 1)).map (fun q => q.2))) := by
  have hfj := hf j (Nat.le_refl j)
  rcases Nat.eq_zero_or_pos j with h0 | h0
  · subst h0
    have hu1 : ¬ u = 0 := by rw [hu]; exact bI_1.mpr (Or.inl (by rw [hfl]; exact bI_1.mpr rfl))
    exact ⟨fun _ => ⟨rfl, rfl⟩, fun h => absurd h hu1⟩
  · obtain ⟨a, i, e, hi, ha⟩ := bstK_some (wants := wants) (f := f) h0
    have ha31 : a < 2 ^ 31 := by rw [← ha]; exact hf i (by omega)
    have hfl0 : fl = 0 := by rw [hfl]; exact bI_f (by omega)
    rw [e] at h4 h6
    replace h4 : z4 = lN a := h4
    replace h6 : z6 = nI i := h6
    have es : bstK wants f (j + 1) = if (if wants = true then a < f j else f j < a) then some (f j, j) else some (a, i) := by rw [bstK, e]
    have hue : (¬ u = 0) ↔ (if wants = true then a < f j else f j < a) := by
      rw [hu, bI_1, hfl0, h4, how]
      cases wants with
      | true =>
        have e1 : ¬ bI (true = true) = 0 := bI_1.mpr rfl
        rw [if_neg e1, if_pos (rfl : true = true)]
        exact ⟨fun h => (lN_lt ha31 hfj).mp (h.resolve_left (fun h => h rfl)), fun h => Or.inr ((lN_lt ha31 hfj).mpr h)⟩
      | false =>
        have e1 : bI (false = true) = 0 := bI_0.mpr (by decide)
        rw [if_pos e1, if_neg (show ¬ false = true by decide)]
        exact ⟨fun h => (lN_lt hfj ha31).mp (h.resolve_left (fun h => h rfl)), fun h => Or.inr ((lN_lt hfj ha31).mpr h)⟩
    refine ⟨fun h => ?_, fun h => ?_⟩
    · rw [es, if_pos (hue.mp h)]; exact ⟨rfl, rfl⟩
    · rw [es, if_neg (fun h9 => hue.mpr h9 h)]; exact ⟨h4, h6⟩
theorem val_ov {F : RT} {b : BT} {sd k : Nat} (h : lostB F b ≠ none) : val F sd (k + 1) b = val F sd k b * allO F := by
  obtain ⟨l, hl⟩ : ∃ l, lostB F b = some l := by
    cases e : lostB F b with
    | none => exact absurd e h
    | some l => exact ⟨l, rfl⟩
  rw [val_over hl, val_over hl]
  split
  · exact (Nat.zero_mul _).symm
  · rfl
theorem c_X12_findMovesD (n : Nat) (ρ : Rho) (I : Mem) (F : RT) (b : BT) (w d : Nat) (u9 u8 : Int32) (hn9 : n ≤ 999) (hms : MS n ρ) (hqf : QF I F) (hrw : RW F) (hqe : QE I F) (hqb : QB I F b) (hbw : BW F b) (hl1 : L1 F b) (hpw : PW F b) (hw : w < 5) (hd : d < 3) (hxb : u9 = nI w) (hxd : u8 = nI d) : MV yX12_findMoves cX12_findMoves 9 none 3 [.ref 97, .int u9, .int u8] n ρ I (fun I1 => FMv I1 F b w d ∧ (∀ z, z < 64 * d ∨ 64 * d + 24 ≤ z → I1 108 z = I 108 z) ∧ (∀ z, z ≠ d → I1 109 z = I 109 z) ∧ ∀ i, i ≠ 108 → i ≠ 109 → I1 i = I i) := by
  subst hxb hxd
  exact c_X12_findMoves n ρ I F b w d hn9 hms hqf hrw hqe hqb hbw hl1 hpw hw hd
theorem c_X12_savesD (n : Nat) (ρ : Rho) (I : Mem) (F : RT) (b : BT) (d : Nat) (u8 : Int32) (hn9 : n ≤ 999) (hms : MS n ρ) (hqf : QF I F) (hrw : RW F) (hqb : QB I F b) (hbw : BW F b) (hd : d < 3) (hxb : u8 = nI d) : MV yX12_saves cX12_saves 3 none 0 [.ref 97, .int u8] n ρ I (fun I1 => SvB I1 F d b ∧ (∀ z, z < 13 * d ∨ 13 * d + 13 ≤ z → I1 110 z = I 110 z) ∧ ∀ i, i ≠ 110 → I1 i = I i) := by
  subst hxb
  exact c_X12_saves n ρ I F b d hn9 hms hqf hrw hqb hbw hd
theorem c_X12_returnsD (n : Nat) (ρ : Rho) (I : Mem) (F : RT) (b : BT) (d : Nat) (u8 : Int32) (hn9 : n ≤ 999) (hms : MS n ρ) (hqf : QF I F) (hrw : RW F) (hsv : SvB I F d b) (hd : d < 3) (hxb : u8 = nI d) : MV yX12_returns cX12_returns 3 none 0 [.ref 97, .int u8] n ρ I (fun I1 => QB I1 F b ∧ (∀ z, z ≠ 25 → I1 97 z = I 97 z) ∧ ∀ i, i ≠ 97 → i ≠ 106 → i ≠ 107 → I1 i = I i) := by
  subst hxb
  exact c_X12_returns n ρ I F b d hn9 hms hqf hrw hsv hd
set_option maxHeartbeats 1600000 in
theorem c_X12_windOfOne (n : Nat) (ρ : Rho) (I : Mem) (F : RT) (b : BT) (sd w : Nat) (x z : Int32) (hn9 : n ≤ 999) (hms : MS n ρ) (hqf : QF I F) (hrw : RW F) (hqe : QE I F) (hqb : QB I F b) (hbw : BW F b) (hl1 : L1 F b) (hpw : PW F b) (hsd : sd < 2) (hx : x = nI sd) (hw : w < 5) (hz : z = nI w) : ML yX12_windOfOne cX12_windOfOne 12 (some .long) 4 [.ref 97, .int x, .int z] n ρ I (fun v I1 => v = lN (valW F sd 0 b w) ∧ I1 97 29 = oI (chW F sd 0 b w) ∧ QB I1 F b ∧ Lw 1 I I1) := by
  refine MG.of (by decide +kernel) (Nat.le_of_ble_eq_true rfl) hn9 ?_
  intro κ C hR
  show G κ n ρ 0 [(0, .ref 97), (1, .int x), (2, .int z)] [] I
  obtain ⟨mn, ⟨m0, m1, m5, m6, m7, m11, m12, m15⟩, ⟨m23, m24, m26, m27, m28, m30, m31, m32, m33⟩, ⟨m38, m39, m40, m42⟩⟩ := id hms
  obtain ⟨qw, qh, qn, qk⟩ := id hqf
  have hn6 : rN F ≤ 6 := hrw.2.2.2.2.1
  have hm25 := Nat.mul_le_mul hrw.2.1 hrw.2.2.2.1
  have hm4 := Nat.mul_le_mul hrw.1 hrw.2.2.1
  have hAO := allO_le hrw
  refine g_aload_n C (pc := 0) dX12_windOfOne_0 0 rfl ?_
  refine g_iload_n C (pc := 1) dX12_windOfOne_1 2 rfl ?_
  refine g_iconst C (pc := 2) 0 dX12_windOfOne_2 (by decide) ?_
  refine g_callVV C (pc := 3) mf_X12_findMoves lk_RX12_247 (c_X12_findMovesD n ρ I F b w 0 _ _ hn9 hms hqf hrw hqe hqb hbw hl1 hpw hw (by decide) hz rfl) (by decide) (Nat.le_refl _) rfl (by first | assumption | rfl | omega) rfl (by first | assumption | rfl | omega) (Nat.le_of_ble_eq_true rfl) dX12_windOfOne_3 (fun I3 h3 => ?_)
  obtain ⟨f3, a3, b3, g3⟩ := h3
  have hml9 := mvs_len (F := F) (b := b) (w := w) hn6
  refine g_aload_n C (pc := 6) dX12_windOfOne_6 0 rfl ?_
  refine g_iconst C (pc := 7) 0 dX12_windOfOne_7 (by decide) ?_
  refine g_callVV C (pc := 8) mf_X12_saves lk_RX12_254 (c_X12_savesD n ρ I3 F b 0 _ hn9 hms (hqf.kp (Kp.fm g3)) hrw (hqb.cong (fun k _ => by rw [g3 106 (by decide) (by decide)]) (fun k _ => by rw [g3 107 (by decide) (by decide)]) (by rw [g3 97 (by decide) (by decide)]) hn6) hbw (by decide) rfl) (by decide) (Nat.le_refl _) rfl (by first | assumption | rfl | omega) rfl (by first | assumption | rfl | omega) (Nat.le_of_ble_eq_true rfl) dX12_windOfOne_8 (fun I8 h8 => ?_)
  obtain ⟨f8, a8, g8⟩ := h8
  refine g_aload_n C (pc := 11) dX12_windOfOne_11 0 rfl ?_
  refine g_getI C (pc := 12) fl_RX12_204 (by decide) (by first | assumption | rfl | omega) (by first | assumption | rfl | omega) dX12_windOfOne_12 ?_
  refine g_iload_n C (pc := 15) dX12_windOfOne_15 1 rfl ?_
  refine g_icmp_ne C (pc := 16) 23 dX12_windOfOne_16 (by decide) (fun c16 => ?_) (fun c16 => ?_)
  · refine g_iconst C (pc := 23) 0 dX12_windOfOne_23 (by decide) ?_
    refine g_istore_n C (pc := 24) dX12_windOfOne_24 (by decide) (fun v24 => [(3, .int v24), (0, .ref 97), (1, .int x), (2, .int z)]) (fun _ => rfl) (fun v24 ev24 => ?_)
    refine g_lconst C (pc := 25) 0 dX12_windOfOne_25 (by decide) ?_
    have h24 : v24 = bI ((bM b == sd) = true) := by
      have hM2 := hbw.1
      first
      | (rw [bI_t (by have h9 : I8 97 25 = x := c16; rw [g8 97 (by decide), g3 97 (by decide) (by decide), hqb.2, hx] at h9; rw [(nI_eq (by omega) (by omega)).mp h9]; exact beq_self_eq_true _)]; exact ev24)
      | (rw [bI_f (fun h8 => c16 (by show I8 97 25 = x; rw [g8 97 (by decide), g3 97 (by decide) (by decide), hqb.2, hx, eq_of_beq h8]))]; exact ev24)
    refine g_lstore C (pc := 26) dX12_windOfOne_26 (by decide) (fun v26 => [(4, .long v26), (3, .int v24), (0, .ref 97), (1, .int x), (2, .int z)]) (fun _ => rfl) (fun v26 ev26 => ?_)
    refine g_bipush C (pc := 28) (-4) dX12_windOfOne_28 (by decide) ?_
    refine g_istore C (pc := 30) dX12_windOfOne_30 (by decide) (fun v30 => [(6, .int v30), (4, .long v26), (3, .int v24), (0, .ref 97), (1, .int x), (2, .int z)]) (fun _ => rfl) (fun v30 ev30 => ?_)
    refine g_aload_n C (pc := 32) dX12_windOfOne_32 3 rfl ?_
    refine g_getR C (pc := 33) fl_RX12_44 (by decide) (by first | assumption | rfl | omega) (by first | assumption | rfl | omega) (by first | assumption | rfl | omega) dX12_windOfOne_33 ?_
    refine g_iconst C (pc := 36) 0 dX12_windOfOne_36 (by decide) ?_
    refine g_iald C (pc := 37) (by first | assumption | rfl | omega) (by first | assumption | rfl | omega) (vp_in_nI (n := 0) (by decide) (by decide)) dX12_windOfOne_37 ?_
    refine g_if_ne C (pc := 38) 45 dX12_windOfOne_38 (by decide) (fun c38 => ?_) (fun c38 => ?_)
    · refine g_aload_n C (pc := 45) dX12_windOfOne_45 3 rfl ?_
      refine g_getR C (pc := 46) fl_RX12_44 (by decide) (by first | assumption | rfl | omega) (by first | assumption | rfl | omega) (by first | assumption | rfl | omega) dX12_windOfOne_46 ?_
      refine g_iconst C (pc := 49) 0 dX12_windOfOne_49 (by decide) ?_
      refine g_iald C (pc := 50) (by first | assumption | rfl | omega) (by first | assumption | rfl | omega) (vp_in_nI (n := 0) (by decide) (by decide)) dX12_windOfOne_50 ?_
      refine g_istore C (pc := 51) dX12_windOfOne_51 (by decide) (fun v51 => [(7, .int v51), (6, .int v30), (4, .long v26), (3, .int v24), (0, .ref 97), (1, .int x), (2, .int z)]) (fun _ => rfl) (fun v51 ev51 => ?_)
      have h51 : v51 = nI (cntM F b w) := by
        rw [ev51]
        have h9 : I8 109 0 = nI (mvs F b w).length := by rw [g8 109 (by decide)]; exact f3.1
        unfold cntM
        first
        | (rw [if_pos ((nI_eq (b := 0) (by omega) (by decide)).mp (h9.symm.trans c38))]; rfl)
        | (rw [if_neg (fun h8 => c38 (h9.trans (by rw [h8]; rfl)))]; exact h9)
      refine g_iconst C (pc := 53) 0 dX12_windOfOne_53 (by decide) ?_
      refine g_istore C (pc := 54) dX12_windOfOne_54 (by decide) (fun v54 => [(8, .int v54), (7, .int v51), (6, .int v30), (4, .long v26), (3, .int v24), (0, .ref 97), (1, .int x), (2, .int z)]) (fun _ => rfl) (fun v54 ev54 => ?_)
      have L56 : ∀ (k9 : Nat) (j : Nat) (wz8 : Int32) (wz4 : Int64) (wz6 : Int32) (J : Mem) (hw8 : wz8 = nI j) (hj : j ≤ cntM F b w) (h4 : wz4 = lN (((bstK (bM b == sd) (valF F sd 0 b w) j).map (fun q => q.1)).getD 0)) (h6 : wz6 = oI ((bstK (bM b == sd) (valF F sd 0 b w) j).map (fun q => q.2))) (hsv : SvB J F 0 b) (hfm : FMv J F b w 0) (hlw : Lw 1 I J), cntM F b w - j < k9 → G κ n ρ 56 [(8, .int wz8), (4, .long wz4), (6, .int wz6), (3, .int v24), (7, .int v51), (0, .ref 97), (1, .int x), (2, .int z)] [] J := by
        intro k9
        induction k9 with
        | zero => intro j wz8 wz4 wz6 J hw8 hj h4 h6 hsv hfm hlw hm56; exact absurd hm56 (Nat.not_lt_zero _)
        | succ k9 ih56 =>
          intro j wz8 wz4 wz6 J hw8 hj h4 h6 hsv hfm hlw hm56
          subst hw8
          have hcl := cntM_le (F := F) (b := b) (w := w) hn6
          have hml := mvs_len (F := F) (b := b) (w := w) hn6
          have hkJ := hlw.1
          refine g_iload C (pc := 56) dX12_windOfOne_56 0 rfl ?_
          refine g_iload C (pc := 58) dX12_windOfOne_58 4 rfl ?_
          refine g_icmp_ge C (pc := 60) 156 dX12_windOfOne_60 (by decide) (fun c60 => ?_) (fun c60 => ?_)
          · rw [h51, nI_leI (by omega) (by omega)] at c60
            refine g_aload_n C (pc := 156) dX12_windOfOne_156 5 rfl ?_
            refine g_iconst C (pc := 157) 0 dX12_windOfOne_157 (by decide) ?_
            refine g_callVV C (pc := 158) mf_X12_returns lk_RX12_257 (c_X12_returnsD n ρ J F b 0 _ hn9 hms (hqf.kp hkJ) hrw hsv (by decide) rfl) (by decide) (Nat.le_refl _) rfl (by first | assumption | rfl | omega) rfl (by first | assumption | rfl | omega) (Nat.le_of_ble_eq_true rfl) dX12_windOfOne_158 (fun I158 h158 => ?_)
            obtain ⟨f158, a158, g158⟩ := h158
            refine g_aload_n C (pc := 161) dX12_windOfOne_161 5 rfl ?_
            refine g_aload_n C (pc := 162) dX12_windOfOne_162 5 rfl ?_
            refine g_getR C (pc := 163) fl_RX12_44 (by decide) (by first | assumption | rfl | omega) (by first | assumption | rfl | omega) (by first | assumption | rfl | omega) dX12_windOfOne_163 ?_
            refine g_iconst C (pc := 166) 0 dX12_windOfOne_166 (by decide) ?_
            refine g_iald C (pc := 167) (by first | assumption | rfl | omega) (by first | assumption | rfl | omega) (vp_in_nI (n := 0) (by decide) (by decide)) dX12_windOfOne_167 ?_
            refine g_if_ne C (pc := 168) 176 dX12_windOfOne_168 (by decide) (fun c168 => ?_) (fun c168 => ?_)
            · refine g_iload C (pc := 176) dX12_windOfOne_176 2 rfl ?_
              refine g_putI C (pc := 178) fl_RX12_268 (by decide) fp_11_29 (Or.inl rfl) ⟨rfl, rfl⟩ (by first | assumption | rfl | omega) (by first | assumption | rfl | omega) hn9 dX12_windOfOne_178 ?_
              refine g_lload C (pc := 181) dX12_windOfOne_181 1 rfl ?_
              refine g_lret C hR (pc := 183) rfl dX12_windOfOne_183 ?_
              refine ⟨rfl, _, rfl, ?_⟩
              have hjc : j = cntM F b w := by omega
              subst hjc
              have hl5 : Lw 1 I I158 := hlw.trans ((Lw.qb a158 g158).up (by decide))
              refine ⟨h4, ?_, f158.cong (fun _ _ => by rw [wr_n (by decide)]) (fun _ _ => by rw [wr_n (by decide)]) (by rw [wr_sn (by decide)]) hn6, hl5.trans ((Lw.sc (by decide) (by decide)).up (Nat.zero_le _))⟩
              rw [wr_ss]
              have h9 : I158 109 0 = nI (mvs F b w).length := by rw [g158 109 (by decide) (by decide) (by decide)]; exact hfm.1
              unfold chW
              first
              | (rw [if_pos ((nI_eq (b := 0) (by omega) (by decide)).mp (h9.symm.trans c168))]; rfl)
              | (rw [if_neg (fun h8 => c168 (h9.trans (by rw [h8]; rfl)))]; exact h6)
            · refine g_bipush C (pc := 171) (-4) dX12_windOfOne_171 (by decide) ?_
              refine g_goto C (pc := 173) 178 dX12_windOfOne_173 (by decide) ?_
              refine g_putI C (pc := 178) fl_RX12_268 (by decide) fp_11_29 (Or.inl rfl) ⟨rfl, rfl⟩ (by first | assumption | rfl | omega) (by first | assumption | rfl | omega) hn9 dX12_windOfOne_178 ?_
              refine g_lload C (pc := 181) dX12_windOfOne_181 1 rfl ?_
              refine g_lret C hR (pc := 183) rfl dX12_windOfOne_183 ?_
              refine ⟨rfl, _, rfl, ?_⟩
              have hjc : j = cntM F b w := by omega
              subst hjc
              have hl5 : Lw 1 I I158 := hlw.trans ((Lw.qb a158 g158).up (by decide))
              refine ⟨h4, ?_, f158.cong (fun _ _ => by rw [wr_n (by decide)]) (fun _ _ => by rw [wr_n (by decide)]) (by rw [wr_sn (by decide)]) hn6, hl5.trans ((Lw.sc (by decide) (by decide)).up (Nat.zero_le _))⟩
              rw [wr_ss]
              have h9 : I158 109 0 = nI (mvs F b w).length := by rw [g158 109 (by decide) (by decide) (by decide)]; exact hfm.1
              unfold chW
              first
              | (rw [if_pos ((nI_eq (b := 0) (by omega) (by decide)).mp (h9.symm.trans c168))]; rfl)
              | (rw [if_neg (fun h8 => c168 (h9.trans (by rw [h8]; rfl)))]; exact h6)
          · rw [h51, nI_ltI (by omega) (by omega)] at c60
            refine g_aload_n C (pc := 63) dX12_windOfOne_63 5 rfl ?_
            refine g_iconst C (pc := 64) 0 dX12_windOfOne_64 (by decide) ?_
            refine g_callVV C (pc := 65) mf_X12_returns lk_RX12_257 (c_X12_returnsD n ρ J F b 0 _ hn9 hms (hqf.kp hkJ) hrw hsv (by decide) rfl) (by decide) (Nat.le_refl _) rfl (by first | assumption | rfl | omega) rfl (by first | assumption | rfl | omega) (Nat.le_of_ble_eq_true rfl) dX12_windOfOne_65 (fun I65 h65 => ?_)
            obtain ⟨f65, a65, g65⟩ := h65
            have hl2 : Lw 0 J I65 := Lw.qb a65 g65
            have hlw2 : Lw 1 I I65 := hlw.trans (hl2.up (by decide))
            have hsv2 : SvB I65 F 0 b := hsv.lw (hl2.up (by decide)) hn6
            have hfm2 : FMv I65 F b w 0 := hfm.lw (hl2.up (by decide)) hn6
            refine g_aload_n C (pc := 68) dX12_windOfOne_68 5 rfl ?_
            refine g_iload_n C (pc := 69) dX12_windOfOne_69 7 rfl ?_
            refine g_aload_n C (pc := 70) dX12_windOfOne_70 5 rfl ?_
            refine g_getR C (pc := 71) fl_RX12_44 (by decide) (by first | assumption | rfl | omega) (by first | assumption | rfl | omega) (by first | assumption | rfl | omega) dX12_windOfOne_71 ?_
            refine g_iconst C (pc := 74) 0 dX12_windOfOne_74 (by decide) ?_
            refine g_iald C (pc := 75) (by first | assumption | rfl | omega) (by first | assumption | rfl | omega) (vp_in_nI (n := 0) (by decide) (by decide)) dX12_windOfOne_75 ?_
            refine g_if_ne C (pc := 76) 84 dX12_windOfOne_76 (by decide) (fun c76 => ?_) (fun c76 => ?_)
            · have hjl : j < (mvs F b w).length := by
                have h9 : ¬ I65 109 0 = 0 := c76
                rw [hfm2.1] at h9
                have h8 : (mvs F b w).length ≠ 0 := fun h => h9 (by rw [h]; rfl)
                unfold cntM at c60
                rw [if_neg h8] at c60; exact c60
              have hmx9 : I65 108 (nI j).toNatClampNeg = oI ((mvs F b w)[j]?) := by
                have hk9 := List.getElem?_eq_getElem hjl
                have h9 := hfm2.2 j _ hk9
                rw [Nat.mul_zero, Nat.zero_add] at h9
                rw [hk9, nI_clamp (by omega)]; exact h9
              refine g_aload_n C (pc := 84) dX12_windOfOne_84 5 rfl ?_
              refine g_getR C (pc := 85) fl_RX12_41 (by decide) (by first | assumption | rfl | omega) (by first | assumption | rfl | omega) (by first | assumption | rfl | omega) dX12_windOfOne_85 ?_
              refine g_iload C (pc := 88) dX12_windOfOne_88 0 rfl ?_
              refine g_iald C (pc := 90) (by first | assumption | rfl | omega) (by first | assumption | rfl | omega) (vp_in_nI (n := j) (by omega) (by decide)) dX12_windOfOne_90 ?_
              refine g_callVI C (pc := 91) mf_X12_goes lk_RX12_251 (c_X12_goesE n ρ I65 F b w ((mvs F b w)[j]?) _ z hn9 hms (hqf.kp hlw2.1) hrw f65 hbw hw (mvs_K hrw) (hmx9) hz) (by decide) (Nat.le_refl _) rfl (by first | assumption | rfl | omega) rfl (by first | assumption | rfl | omega) (Nat.le_of_ble_eq_true rfl) dX12_windOfOne_91 (fun v91 I91 h91 => ?_)
              obtain ⟨e91, f91, a91, g91⟩ := h91
              have hl3 : Lw 0 I65 I91 := Lw.qb a91 g91
              replace hlw2 := hlw2
              have hbw2 : BW F (playB F b w ((mvs F b w)[j]?)) := (mvs_K hrw).bw hrw hbw
              have hl12 : L1 F (playB F b w ((mvs F b w)[j]?)) := L1_play hl1
              have hpw2 : PW F (playB F b w ((mvs F b w)[j]?)) := PW_play (mvs_K hrw) hrw hpw
              refine g_pop C (pc := 94) dX12_windOfOne_94 rfl ?_
              refine g_aload_n C (pc := 95) dX12_windOfOne_95 5 rfl ?_
              refine g_iload_n C (pc := 96) dX12_windOfOne_96 6 rfl ?_
              refine g_callVL C (pc := 97) mf_X12_wonNow lk_RX12_260 (c_X12_wonNow n ρ I91 F (playB F b w ((mvs F b w)[j]?)) sd x hn9 hms (hqf.kp (hlw2.trans (hl3.up (by decide))).1) hrw f91 hbw2 hl12 hsd hx) (by decide) (Nat.le_refl _) rfl (by first | assumption | rfl | omega) rfl (by first | assumption | rfl | omega) (Nat.le_of_ble_eq_true rfl) dX12_windOfOne_97 (fun v97 I97 h97 => ?_)
              obtain ⟨e97, rfl⟩ := h97
              have hlI : Lw 0 I65 I91 := hl3
              have hvf : v97 = lN ((valF F sd 0 b w) j) := e97
              refine g_lstore C (pc := 100) dX12_windOfOne_100 (by decide) (fun v100 => [(9, .long v100), (8, .int (nI j)), (4, .long wz4), (6, .int wz6), (3, .int v24), (7, .int v51), (0, .ref 97), (1, .int x), (2, .int z)]) (fun _ => rfl) (fun v100 ev100 => ?_)
              refine g_iload C (pc := 102) dX12_windOfOne_102 1 rfl ?_
              refine g_if_ne C (pc := 104) 111 dX12_windOfOne_104 (by decide) (fun c104 => ?_) (fun c104 => ?_)
              · refine g_iconst C (pc := 111) 0 dX12_windOfOne_111 (by decide) ?_
                refine g_iload_n C (pc := 112) dX12_windOfOne_112 4 rfl ?_
                refine g_lload C (pc := 113) dX12_windOfOne_113 0 rfl ?_
                refine g_lload C (pc := 115) dX12_windOfOne_115 2 rfl ?_
                refine g_callSI C (pc := 117) mf_X12_isBetter lk_RX12_264 (c_X12_isBetter n ρ _ _ _ _ _ hn9) (by decide) (Nat.le_refl _) rfl (Nat.le_of_ble_eq_true rfl) dX12_windOfOne_117 (fun v117 I117 h117 => ?_)
                obtain ⟨e117, rfl⟩ := h117
                refine g_istore C (pc := 120) dX12_windOfOne_120 (by decide) (fun v120 => [(11, .int v120), (9, .long v100), (8, .int (nI j)), (4, .long wz4), (6, .int wz6), (3, .int v24), (7, .int v51), (0, .ref 97), (1, .int x), (2, .int z)]) (fun _ => rfl) (fun v120 ev120 => ?_)
                have hup := bst_upd (wants := (bM b == sd)) (f := (valF F sd 0 b w)) (j := j) (z4 := wz4) (z6 := wz6) (fl := bI (j = 0)) (own := v24) (u := v120) (fun i _ => (by show val F sd 0 (playB F b w ((mvs F b w)[i]?)) < 2 ^ 31; have h9 := val_le (F := F) (sd := sd) 0 (playB F b w ((mvs F b w)[i]?)); have h8 := pw3 (a := allO F) (k := 0) hAO (by decide); omega)) h4 h6 rfl h24 (by
                  rw [ev120, e117, ev100, hvf]
                  first
                  | (rw [bI_t (c := j = 0) ((nI_eq (b := 0) (by omega) (by decide)).mp c104)]; done)
                  | (rw [bI_f (c := j = 0) (fun h => c104 (by rw [h]; rfl))]; done))
                refine g_iload C (pc := 122) dX12_windOfOne_122 0 rfl ?_
                refine g_if_eq C (pc := 124) 132 dX12_windOfOne_124 (by decide) (fun c124 => ?_) (fun c124 => ?_)
                · refine g_iload C (pc := 132) dX12_windOfOne_132 4 rfl ?_
                  refine g_istore C (pc := 134) dX12_windOfOne_134 (by decide) (fun v134 => [(6, .int v134), (11, .int v120), (9, .long v100), (8, .int (nI j)), (4, .long wz4), (3, .int v24), (7, .int v51), (0, .ref 97), (1, .int x), (2, .int z)]) (fun _ => rfl) (fun v134 ev134 => ?_)
                  refine g_iload C (pc := 136) dX12_windOfOne_136 1 rfl ?_
                  refine g_if_eq C (pc := 138) 146 dX12_windOfOne_138 (by decide) (fun c138 => ?_) (fun c138 => ?_)
                  · refine g_lload C (pc := 146) dX12_windOfOne_146 4 rfl ?_
                    refine g_lstore C (pc := 148) dX12_windOfOne_148 (by decide) (fun v148 => [(4, .long v148), (6, .int v134), (11, .int v120), (9, .long v100), (8, .int (nI j)), (3, .int v24), (7, .int v51), (0, .ref 97), (1, .int x), (2, .int z)]) (fun _ => rfl) (fun v148 ev148 => ?_)
                    refine g_iinc C (pc := 150) (1) dX12_windOfOne_150 4 rfl (by decide) (by decide) (fun v150 => [(8, .int v150), (4, .long v148), (6, .int v134), (11, .int v120), (9, .long v100), (3, .int v24), (7, .int v51), (0, .ref 97), (1, .int x), (2, .int z)]) (fun _ => rfl) (fun v150 ev150 => ?_)
                    refine g_goto C (pc := 153) 56 dX12_windOfOne_153 (by decide) ?_
                    refine g_lv C [0, 1, 2, 5, 6, 7, 8, 9] rfl (ih56 (j + 1) _ _ _ _ ?_ ?_ ?_ ?_ ?_ ?_ ?_ (by omega))
                    · subst ev150; exact nI_1 _
                    · omega
                    · rw [ev148]; first | exact (ev100.trans hvf).trans (hup.1 c124).1 | exact (hup.2 c124).1
                    · rw [ev134]; first | exact (hup.1 c124).2 | exact (hup.2 c124).2
                    · exact hsv2.lw hlI hn6
                    · exact hfm2.lw hlI hn6
                    · exact hlw2.trans (hlI.up (by decide))
                  · exact absurd c124 c138
                · refine g_iload C (pc := 127) dX12_windOfOne_127 2 rfl ?_
                  refine g_goto C (pc := 129) 134 dX12_windOfOne_129 (by decide) ?_
                  refine g_istore C (pc := 134) dX12_windOfOne_134 (by decide) (fun v134 => [(6, .int v134), (11, .int v120), (9, .long v100), (8, .int (nI j)), (4, .long wz4), (3, .int v24), (7, .int v51), (0, .ref 97), (1, .int x), (2, .int z)]) (fun _ => rfl) (fun v134 ev134 => ?_)
                  refine g_iload C (pc := 136) dX12_windOfOne_136 1 rfl ?_
                  refine g_if_eq C (pc := 138) 146 dX12_windOfOne_138 (by decide) (fun c138 => ?_) (fun c138 => ?_)
                  · exact absurd c138 c124
                  · refine g_lload C (pc := 141) dX12_windOfOne_141 2 rfl ?_
                    refine g_goto C (pc := 143) 148 dX12_windOfOne_143 (by decide) ?_
                    refine g_lstore C (pc := 148) dX12_windOfOne_148 (by decide) (fun v148 => [(4, .long v148), (6, .int v134), (11, .int v120), (9, .long v100), (8, .int (nI j)), (3, .int v24), (7, .int v51), (0, .ref 97), (1, .int x), (2, .int z)]) (fun _ => rfl) (fun v148 ev148 => ?_)
                    refine g_iinc C (pc := 150) (1) dX12_windOfOne_150 4 rfl (by decide) (by decide) (fun v150 => [(8, .int v150), (4, .long v148), (6, .int v134), (11, .int v120), (9, .long v100), (3, .int v24), (7, .int v51), (0, .ref 97), (1, .int x), (2, .int z)]) (fun _ => rfl) (fun v150 ev150 => ?_)
                    refine g_goto C (pc := 153) 56 dX12_windOfOne_153 (by decide) ?_
                    refine g_lv C [0, 1, 2, 5, 6, 7, 8, 9] rfl (ih56 (j + 1) _ _ _ _ ?_ ?_ ?_ ?_ ?_ ?_ ?_ (by omega))
                    · subst ev150; exact nI_1 _
                    · omega
                    · rw [ev148]; first | exact (ev100.trans hvf).trans (hup.1 c124).1 | exact (hup.2 c124).1
                    · rw [ev134]; first | exact (hup.1 c124).2 | exact (hup.2 c124).2
                    · exact hsv2.lw hlI hn6
                    · exact hfm2.lw hlI hn6
                    · exact hlw2.trans (hlI.up (by decide))
              · refine g_iconst C (pc := 107) 1 dX12_windOfOne_107 (by decide) ?_
                refine g_goto C (pc := 108) 112 dX12_windOfOne_108 (by decide) ?_
                refine g_iload_n C (pc := 112) dX12_windOfOne_112 4 rfl ?_
                refine g_lload C (pc := 113) dX12_windOfOne_113 0 rfl ?_
                refine g_lload C (pc := 115) dX12_windOfOne_115 2 rfl ?_
                refine g_callSI C (pc := 117) mf_X12_isBetter lk_RX12_264 (c_X12_isBetter n ρ _ _ _ _ _ hn9) (by decide) (Nat.le_refl _) rfl (Nat.le_of_ble_eq_true rfl) dX12_windOfOne_117 (fun v117 I117 h117 => ?_)
                obtain ⟨e117, rfl⟩ := h117
                refine g_istore C (pc := 120) dX12_windOfOne_120 (by decide) (fun v120 => [(11, .int v120), (9, .long v100), (8, .int (nI j)), (4, .long wz4), (6, .int wz6), (3, .int v24), (7, .int v51), (0, .ref 97), (1, .int x), (2, .int z)]) (fun _ => rfl) (fun v120 ev120 => ?_)
                have hup := bst_upd (wants := (bM b == sd)) (f := (valF F sd 0 b w)) (j := j) (z4 := wz4) (z6 := wz6) (fl := bI (j = 0)) (own := v24) (u := v120) (fun i _ => (by show val F sd 0 (playB F b w ((mvs F b w)[i]?)) < 2 ^ 31; have h9 := val_le (F := F) (sd := sd) 0 (playB F b w ((mvs F b w)[i]?)); have h8 := pw3 (a := allO F) (k := 0) hAO (by decide); omega)) h4 h6 rfl h24 (by
                  rw [ev120, e117, ev100, hvf]
                  first
                  | (rw [bI_t (c := j = 0) ((nI_eq (b := 0) (by omega) (by decide)).mp c104)]; done)
                  | (rw [bI_f (c := j = 0) (fun h => c104 (by rw [h]; rfl))]; done))
                refine g_iload C (pc := 122) dX12_windOfOne_122 0 rfl ?_
                refine g_if_eq C (pc := 124) 132 dX12_windOfOne_124 (by decide) (fun c124 => ?_) (fun c124 => ?_)
                · refine g_iload C (pc := 132) dX12_windOfOne_132 4 rfl ?_
                  refine g_istore C (pc := 134) dX12_windOfOne_134 (by decide) (fun v134 => [(6, .int v134), (11, .int v120), (9, .long v100), (8, .int (nI j)), (4, .long wz4), (3, .int v24), (7, .int v51), (0, .ref 97), (1, .int x), (2, .int z)]) (fun _ => rfl) (fun v134 ev134 => ?_)
                  refine g_iload C (pc := 136) dX12_windOfOne_136 1 rfl ?_
                  refine g_if_eq C (pc := 138) 146 dX12_windOfOne_138 (by decide) (fun c138 => ?_) (fun c138 => ?_)
                  · refine g_lload C (pc := 146) dX12_windOfOne_146 4 rfl ?_
                    refine g_lstore C (pc := 148) dX12_windOfOne_148 (by decide) (fun v148 => [(4, .long v148), (6, .int v134), (11, .int v120), (9, .long v100), (8, .int (nI j)), (3, .int v24), (7, .int v51), (0, .ref 97), (1, .int x), (2, .int z)]) (fun _ => rfl) (fun v148 ev148 => ?_)
                    refine g_iinc C (pc := 150) (1) dX12_windOfOne_150 4 rfl (by decide) (by decide) (fun v150 => [(8, .int v150), (4, .long v148), (6, .int v134), (11, .int v120), (9, .long v100), (3, .int v24), (7, .int v51), (0, .ref 97), (1, .int x), (2, .int z)]) (fun _ => rfl) (fun v150 ev150 => ?_)
                    refine g_goto C (pc := 153) 56 dX12_windOfOne_153 (by decide) ?_
                    refine g_lv C [0, 1, 2, 5, 6, 7, 8, 9] rfl (ih56 (j + 1) _ _ _ _ ?_ ?_ ?_ ?_ ?_ ?_ ?_ (by omega))
                    · subst ev150; exact nI_1 _
                    · omega
                    · rw [ev148]; first | exact (ev100.trans hvf).trans (hup.1 c124).1 | exact (hup.2 c124).1
                    · rw [ev134]; first | exact (hup.1 c124).2 | exact (hup.2 c124).2
                    · exact hsv2.lw hlI hn6
                    · exact hfm2.lw hlI hn6
                    · exact hlw2.trans (hlI.up (by decide))
                  · exact absurd c124 c138
                · refine g_iload C (pc := 127) dX12_windOfOne_127 2 rfl ?_
                  refine g_goto C (pc := 129) 134 dX12_windOfOne_129 (by decide) ?_
                  refine g_istore C (pc := 134) dX12_windOfOne_134 (by decide) (fun v134 => [(6, .int v134), (11, .int v120), (9, .long v100), (8, .int (nI j)), (4, .long wz4), (3, .int v24), (7, .int v51), (0, .ref 97), (1, .int x), (2, .int z)]) (fun _ => rfl) (fun v134 ev134 => ?_)
                  refine g_iload C (pc := 136) dX12_windOfOne_136 1 rfl ?_
                  refine g_if_eq C (pc := 138) 146 dX12_windOfOne_138 (by decide) (fun c138 => ?_) (fun c138 => ?_)
                  · exact absurd c138 c124
                  · refine g_lload C (pc := 141) dX12_windOfOne_141 2 rfl ?_
                    refine g_goto C (pc := 143) 148 dX12_windOfOne_143 (by decide) ?_
                    refine g_lstore C (pc := 148) dX12_windOfOne_148 (by decide) (fun v148 => [(4, .long v148), (6, .int v134), (11, .int v120), (9, .long v100), (8, .int (nI j)), (3, .int v24), (7, .int v51), (0, .ref 97), (1, .int x), (2, .int z)]) (fun _ => rfl) (fun v148 ev148 => ?_)
                    refine g_iinc C (pc := 150) (1) dX12_windOfOne_150 4 rfl (by decide) (by decide) (fun v150 => [(8, .int v150), (4, .long v148), (6, .int v134), (11, .int v120), (9, .long v100), (3, .int v24), (7, .int v51), (0, .ref 97), (1, .int x), (2, .int z)]) (fun _ => rfl) (fun v150 ev150 => ?_)
                    refine g_goto C (pc := 153) 56 dX12_windOfOne_153 (by decide) ?_
                    refine g_lv C [0, 1, 2, 5, 6, 7, 8, 9] rfl (ih56 (j + 1) _ _ _ _ ?_ ?_ ?_ ?_ ?_ ?_ ?_ (by omega))
                    · subst ev150; exact nI_1 _
                    · omega
                    · rw [ev148]; first | exact (ev100.trans hvf).trans (hup.1 c124).1 | exact (hup.2 c124).1
                    · rw [ev134]; first | exact (hup.1 c124).2 | exact (hup.2 c124).2
                    · exact hsv2.lw hlI hn6
                    · exact hfm2.lw hlI hn6
                    · exact hlw2.trans (hlI.up (by decide))
            · have hjl : (mvs F b w).length = 0 := by
                have h9 : I65 109 0 = 0 := c76
                rw [hfm2.1] at h9
                exact (nI_eq (b := 0) (by omega) (by decide)).mp h9
              have hmx9 : (-4 : Int32) = oI ((mvs F b w)[j]?) := by rw [List.getElem?_eq_none (by omega)]; rfl
              refine g_bipush C (pc := 79) (-4) dX12_windOfOne_79 (by decide) ?_
              refine g_goto C (pc := 81) 91 dX12_windOfOne_81 (by decide) ?_
              refine g_callVI C (pc := 91) mf_X12_goes lk_RX12_251 (c_X12_goesE n ρ I65 F b w ((mvs F b w)[j]?) _ z hn9 hms (hqf.kp hlw2.1) hrw f65 hbw hw (mvs_K hrw) (hmx9) hz) (by decide) (Nat.le_refl _) rfl (by first | assumption | rfl | omega) rfl (by first | assumption | rfl | omega) (Nat.le_of_ble_eq_true rfl) dX12_windOfOne_91 (fun v91 I91 h91 => ?_)
              obtain ⟨e91, f91, a91, g91⟩ := h91
              have hl3 : Lw 0 I65 I91 := Lw.qb a91 g91
              replace hlw2 := hlw2
              have hbw2 : BW F (playB F b w ((mvs F b w)[j]?)) := (mvs_K hrw).bw hrw hbw
              have hl12 : L1 F (playB F b w ((mvs F b w)[j]?)) := L1_play hl1
              have hpw2 : PW F (playB F b w ((mvs F b w)[j]?)) := PW_play (mvs_K hrw) hrw hpw
              refine g_pop C (pc := 94) dX12_windOfOne_94 rfl ?_
              refine g_aload_n C (pc := 95) dX12_windOfOne_95 5 rfl ?_
              refine g_iload_n C (pc := 96) dX12_windOfOne_96 6 rfl ?_
              refine g_callVL C (pc := 97) mf_X12_wonNow lk_RX12_260 (c_X12_wonNow n ρ I91 F (playB F b w ((mvs F b w)[j]?)) sd x hn9 hms (hqf.kp (hlw2.trans (hl3.up (by decide))).1) hrw f91 hbw2 hl12 hsd hx) (by decide) (Nat.le_refl _) rfl (by first | assumption | rfl | omega) rfl (by first | assumption | rfl | omega) (Nat.le_of_ble_eq_true rfl) dX12_windOfOne_97 (fun v97 I97 h97 => ?_)
              obtain ⟨e97, rfl⟩ := h97
              have hlI : Lw 0 I65 I91 := hl3
              have hvf : v97 = lN ((valF F sd 0 b w) j) := e97
              refine g_lstore C (pc := 100) dX12_windOfOne_100 (by decide) (fun v100 => [(9, .long v100), (8, .int (nI j)), (4, .long wz4), (6, .int wz6), (3, .int v24), (7, .int v51), (0, .ref 97), (1, .int x), (2, .int z)]) (fun _ => rfl) (fun v100 ev100 => ?_)
              refine g_iload C (pc := 102) dX12_windOfOne_102 1 rfl ?_
              refine g_if_ne C (pc := 104) 111 dX12_windOfOne_104 (by decide) (fun c104 => ?_) (fun c104 => ?_)
              · refine g_iconst C (pc := 111) 0 dX12_windOfOne_111 (by decide) ?_
                refine g_iload_n C (pc := 112) dX12_windOfOne_112 4 rfl ?_
                refine g_lload C (pc := 113) dX12_windOfOne_113 0 rfl ?_
                refine g_lload C (pc := 115) dX12_windOfOne_115 2 rfl ?_
                refine g_callSI C (pc := 117) mf_X12_isBetter lk_RX12_264 (c_X12_isBetter n ρ _ _ _ _ _ hn9) (by decide) (Nat.le_refl _) rfl (Nat.le_of_ble_eq_true rfl) dX12_windOfOne_117 (fun v117 I117 h117 => ?_)
                obtain ⟨e117, rfl⟩ := h117
                refine g_istore C (pc := 120) dX12_windOfOne_120 (by decide) (fun v120 => [(11, .int v120), (9, .long v100), (8, .int (nI j)), (4, .long wz4), (6, .int wz6), (3, .int v24), (7, .int v51), (0, .ref 97), (1, .int x), (2, .int z)]) (fun _ => rfl) (fun v120 ev120 => ?_)
                have hup := bst_upd (wants := (bM b == sd)) (f := (valF F sd 0 b w)) (j := j) (z4 := wz4) (z6 := wz6) (fl := bI (j = 0)) (own := v24) (u := v120) (fun i _ => (by show val F sd 0 (playB F b w ((mvs F b w)[i]?)) < 2 ^ 31; have h9 := val_le (F := F) (sd := sd) 0 (playB F b w ((mvs F b w)[i]?)); have h8 := pw3 (a := allO F) (k := 0) hAO (by decide); omega)) h4 h6 rfl h24 (by
                  rw [ev120, e117, ev100, hvf]
                  first
                  | (rw [bI_t (c := j = 0) ((nI_eq (b := 0) (by omega) (by decide)).mp c104)]; done)
                  | (rw [bI_f (c := j = 0) (fun h => c104 (by rw [h]; rfl))]; done))
                refine g_iload C (pc := 122) dX12_windOfOne_122 0 rfl ?_
                refine g_if_eq C (pc := 124) 132 dX12_windOfOne_124 (by decide) (fun c124 => ?_) (fun c124 => ?_)
                · refine g_iload C (pc := 132) dX12_windOfOne_132 4 rfl ?_
                  refine g_istore C (pc := 134) dX12_windOfOne_134 (by decide) (fun v134 => [(6, .int v134), (11, .int v120), (9, .long v100), (8, .int (nI j)), (4, .long wz4), (3, .int v24), (7, .int v51), (0, .ref 97), (1, .int x), (2, .int z)]) (fun _ => rfl) (fun v134 ev134 => ?_)
                  refine g_iload C (pc := 136) dX12_windOfOne_136 1 rfl ?_
                  refine g_if_eq C (pc := 138) 146 dX12_windOfOne_138 (by decide) (fun c138 => ?_) (fun c138 => ?_)
                  · refine g_lload C (pc := 146) dX12_windOfOne_146 4 rfl ?_
                    refine g_lstore C (pc := 148) dX12_windOfOne_148 (by decide) (fun v148 => [(4, .long v148), (6, .int v134), (11, .int v120), (9, .long v100), (8, .int (nI j)), (3, .int v24), (7, .int v51), (0, .ref 97), (1, .int x), (2, .int z)]) (fun _ => rfl) (fun v148 ev148 => ?_)
                    refine g_iinc C (pc := 150) (1) dX12_windOfOne_150 4 rfl (by decide) (by decide) (fun v150 => [(8, .int v150), (4, .long v148), (6, .int v134), (11, .int v120), (9, .long v100), (3, .int v24), (7, .int v51), (0, .ref 97), (1, .int x), (2, .int z)]) (fun _ => rfl) (fun v150 ev150 => ?_)
                    refine g_goto C (pc := 153) 56 dX12_windOfOne_153 (by decide) ?_
                    refine g_lv C [0, 1, 2, 5, 6, 7, 8, 9] rfl (ih56 (j + 1) _ _ _ _ ?_ ?_ ?_ ?_ ?_ ?_ ?_ (by omega))
                    · subst ev150; exact nI_1 _
                    · omega
                    · rw [ev148]; first | exact (ev100.trans hvf).trans (hup.1 c124).1 | exact (hup.2 c124).1
                    · rw [ev134]; first | exact (hup.1 c124).2 | exact (hup.2 c124).2
                    · exact hsv2.lw hlI hn6
                    · exact hfm2.lw hlI hn6
                    · exact hlw2.trans (hlI.up (by decide))
                  · exact absurd c124 c138
                · refine g_iload C (pc := 127) dX12_windOfOne_127 2 rfl ?_
                  refine g_goto C (pc := 129) 134 dX12_windOfOne_129 (by decide) ?_
                  refine g_istore C (pc := 134) dX12_windOfOne_134 (by decide) (fun v134 => [(6, .int v134), (11, .int v120), (9, .long v100), (8, .int (nI j)), (4, .long wz4), (3, .int v24), (7, .int v51), (0, .ref 97), (1, .int x), (2, .int z)]) (fun _ => rfl) (fun v134 ev134 => ?_)
                  refine g_iload C (pc := 136) dX12_windOfOne_136 1 rfl ?_
                  refine g_if_eq C (pc := 138) 146 dX12_windOfOne_138 (by decide) (fun c138 => ?_) (fun c138 => ?_)
                  · exact absurd c138 c124
                  · refine g_lload C (pc := 141) dX12_windOfOne_141 2 rfl ?_
                    refine g_goto C (pc := 143) 148 dX12_windOfOne_143 (by decide) ?_
                    refine g_lstore C (pc := 148) dX12_windOfOne_148 (by decide) (fun v148 => [(4, .long v148), (6, .int v134), (11, .int v120), (9, .long v100), (8, .int (nI j)), (3, .int v24), (7, .int v51), (0, .ref 97), (1, .int x), (2, .int z)]) (fun _ => rfl) (fun v148 ev148 => ?_)
                    refine g_iinc C (pc := 150) (1) dX12_windOfOne_150 4 rfl (by decide) (by decide) (fun v150 => [(8, .int v150), (4, .long v148), (6, .int v134), (11, .int v120), (9, .long v100), (3, .int v24), (7, .int v51), (0, .ref 97), (1, .int x), (2, .int z)]) (fun _ => rfl) (fun v150 ev150 => ?_)
                    refine g_goto C (pc := 153) 56 dX12_windOfOne_153 (by decide) ?_
                    refine g_lv C [0, 1, 2, 5, 6, 7, 8, 9] rfl (ih56 (j + 1) _ _ _ _ ?_ ?_ ?_ ?_ ?_ ?_ ?_ (by omega))
                    · subst ev150; exact nI_1 _
                    · omega
                    · rw [ev148]; first | exact (ev100.trans hvf).trans (hup.1 c124).1 | exact (hup.2 c124).1
                    · rw [ev134]; first | exact (hup.1 c124).2 | exact (hup.2 c124).2
                    · exact hsv2.lw hlI hn6
                    · exact hfm2.lw hlI hn6
                    · exact hlw2.trans (hlI.up (by decide))
              · refine g_iconst C (pc := 107) 1 dX12_windOfOne_107 (by decide) ?_
                refine g_goto C (pc := 108) 112 dX12_windOfOne_108 (by decide) ?_
                refine g_iload_n C (pc := 112) dX12_windOfOne_112 4 rfl ?_
                refine g_lload C (pc := 113) dX12_windOfOne_113 0 rfl ?_
                refine g_lload C (pc := 115) dX12_windOfOne_115 2 rfl ?_
                refine g_callSI C (pc := 117) mf_X12_isBetter lk_RX12_264 (c_X12_isBetter n ρ _ _ _ _ _ hn9) (by decide) (Nat.le_refl _) rfl (Nat.le_of_ble_eq_true rfl) dX12_windOfOne_117 (fun v117 I117 h117 => ?_)
                obtain ⟨e117, rfl⟩ := h117
                refine g_istore C (pc := 120) dX12_windOfOne_120 (by decide) (fun v120 => [(11, .int v120), (9, .long v100), (8, .int (nI j)), (4, .long wz4), (6, .int wz6), (3, .int v24), (7, .int v51), (0, .ref 97), (1, .int x), (2, .int z)]) (fun _ => rfl) (fun v120 ev120 => ?_)
                have hup := bst_upd (wants := (bM b == sd)) (f := (valF F sd 0 b w)) (j := j) (z4 := wz4) (z6 := wz6) (fl := bI (j = 0)) (own := v24) (u := v120) (fun i _ => (by show val F sd 0 (playB F b w ((mvs F b w)[i]?)) < 2 ^ 31; have h9 := val_le (F := F) (sd := sd) 0 (playB F b w ((mvs F b w)[i]?)); have h8 := pw3 (a := allO F) (k := 0) hAO (by decide); omega)) h4 h6 rfl h24 (by
                  rw [ev120, e117, ev100, hvf]
                  first
                  | (rw [bI_t (c := j = 0) ((nI_eq (b := 0) (by omega) (by decide)).mp c104)]; done)
                  | (rw [bI_f (c := j = 0) (fun h => c104 (by rw [h]; rfl))]; done))
                refine g_iload C (pc := 122) dX12_windOfOne_122 0 rfl ?_
                refine g_if_eq C (pc := 124) 132 dX12_windOfOne_124 (by decide) (fun c124 => ?_) (fun c124 => ?_)
                · refine g_iload C (pc := 132) dX12_windOfOne_132 4 rfl ?_
                  refine g_istore C (pc := 134) dX12_windOfOne_134 (by decide) (fun v134 => [(6, .int v134), (11, .int v120), (9, .long v100), (8, .int (nI j)), (4, .long wz4), (3, .int v24), (7, .int v51), (0, .ref 97), (1, .int x), (2, .int z)]) (fun _ => rfl) (fun v134 ev134 => ?_)
                  refine g_iload C (pc := 136) dX12_windOfOne_136 1 rfl ?_
                  refine g_if_eq C (pc := 138) 146 dX12_windOfOne_138 (by decide) (fun c138 => ?_) (fun c138 => ?_)
                  · refine g_lload C (pc := 146) dX12_windOfOne_146 4 rfl ?_
                    refine g_lstore C (pc := 148) dX12_windOfOne_148 (by decide) (fun v148 => [(4, .long v148), (6, .int v134), (11, .int v120), (9, .long v100), (8, .int (nI j)), (3, .int v24), (7, .int v51), (0, .ref 97), (1, .int x), (2, .int z)]) (fun _ => rfl) (fun v148 ev148 => ?_)
                    refine g_iinc C (pc := 150) (1) dX12_windOfOne_150 4 rfl (by decide) (by decide) (fun v150 => [(8, .int v150), (4, .long v148), (6, .int v134), (11, .int v120), (9, .long v100), (3, .int v24), (7, .int v51), (0, .ref 97), (1, .int x), (2, .int z)]) (fun _ => rfl) (fun v150 ev150 => ?_)
                    refine g_goto C (pc := 153) 56 dX12_windOfOne_153 (by decide) ?_
                    refine g_lv C [0, 1, 2, 5, 6, 7, 8, 9] rfl (ih56 (j + 1) _ _ _ _ ?_ ?_ ?_ ?_ ?_ ?_ ?_ (by omega))
                    · subst ev150; exact nI_1 _
                    · omega
                    · rw [ev148]; first | exact (ev100.trans hvf).trans (hup.1 c124).1 | exact (hup.2 c124).1
                    · rw [ev134]; first | exact (hup.1 c124).2 | exact (hup.2 c124).2
                    · exact hsv2.lw hlI hn6
                    · exact hfm2.lw hlI hn6
                    · exact hlw2.trans (hlI.up (by decide))
                  · exact absurd c124 c138
                · refine g_iload C (pc := 127) dX12_windOfOne_127 2 rfl ?_
                  refine g_goto C (pc := 129) 134 dX12_windOfOne_129 (by decide) ?_
                  refine g_istore C (pc := 134) dX12_windOfOne_134 (by decide) (fun v134 => [(6, .int v134), (11, .int v120), (9, .long v100), (8, .int (nI j)), (4, .long wz4), (3, .int v24), (7, .int v51), (0, .ref 97), (1, .int x), (2, .int z)]) (fun _ => rfl) (fun v134 ev134 => ?_)
                  refine g_iload C (pc := 136) dX12_windOfOne_136 1 rfl ?_
                  refine g_if_eq C (pc := 138) 146 dX12_windOfOne_138 (by decide) (fun c138 => ?_) (fun c138 => ?_)
                  · exact absurd c138 c124
                  · refine g_lload C (pc := 141) dX12_windOfOne_141 2 rfl ?_
                    refine g_goto C (pc := 143) 148 dX12_windOfOne_143 (by decide) ?_
                    refine g_lstore C (pc := 148) dX12_windOfOne_148 (by decide) (fun v148 => [(4, .long v148), (6, .int v134), (11, .int v120), (9, .long v100), (8, .int (nI j)), (3, .int v24), (7, .int v51), (0, .ref 97), (1, .int x), (2, .int z)]) (fun _ => rfl) (fun v148 ev148 => ?_)
                    refine g_iinc C (pc := 150) (1) dX12_windOfOne_150 4 rfl (by decide) (by decide) (fun v150 => [(8, .int v150), (4, .long v148), (6, .int v134), (11, .int v120), (9, .long v100), (3, .int v24), (7, .int v51), (0, .ref 97), (1, .int x), (2, .int z)]) (fun _ => rfl) (fun v150 ev150 => ?_)
                    refine g_goto C (pc := 153) 56 dX12_windOfOne_153 (by decide) ?_
                    refine g_lv C [0, 1, 2, 5, 6, 7, 8, 9] rfl (ih56 (j + 1) _ _ _ _ ?_ ?_ ?_ ?_ ?_ ?_ ?_ (by omega))
                    · subst ev150; exact nI_1 _
                    · omega
                    · rw [ev148]; first | exact (ev100.trans hvf).trans (hup.1 c124).1 | exact (hup.2 c124).1
                    · rw [ev134]; first | exact (hup.1 c124).2 | exact (hup.2 c124).2
                    · exact hsv2.lw hlI hn6
                    · exact hfm2.lw hlI hn6
                    · exact hlw2.trans (hlI.up (by decide))
      refine g_lv C [0, 3, 2, 4, 1, 5, 6, 7] rfl (L56 (_ + 1) 0 _ _ _ _ ?_ ?_ ?_ ?_ ?_ ?_ ?_ (by first | omega | exact Nat.lt_succ_self _))
      · subst ev54; rfl
      · omega
      · subst ev26; rfl
      · subst ev30; rfl
      · exact f8
      · exact f3.cong (by rw [g8 109 (by decide)]) (fun z _ _ => by rw [g8 108 (by decide)]) hn6
      · exact (Lw.fm a3 b3 g3).trans (Lw.sv a8 g8)
    · refine g_iconst C (pc := 41) 1 dX12_windOfOne_41 (by decide) ?_
      refine g_goto C (pc := 42) 51 dX12_windOfOne_42 (by decide) ?_
      refine g_istore C (pc := 51) dX12_windOfOne_51 (by decide) (fun v51 => [(7, .int v51), (6, .int v30), (4, .long v26), (3, .int v24), (0, .ref 97), (1, .int x), (2, .int z)]) (fun _ => rfl) (fun v51 ev51 => ?_)
      have h51 : v51 = nI (cntM F b w) := by
        rw [ev51]
        have h9 : I8 109 0 = nI (mvs F b w).length := by rw [g8 109 (by decide)]; exact f3.1
        unfold cntM
        first
        | (rw [if_pos ((nI_eq (b := 0) (by omega) (by decide)).mp (h9.symm.trans c38))]; rfl)
        | (rw [if_neg (fun h8 => c38 (h9.trans (by rw [h8]; rfl)))]; exact h9)
      refine g_iconst C (pc := 53) 0 dX12_windOfOne_53 (by decide) ?_
      refine g_istore C (pc := 54) dX12_windOfOne_54 (by decide) (fun v54 => [(8, .int v54), (7, .int v51), (6, .int v30), (4, .long v26), (3, .int v24), (0, .ref 97), (1, .int x), (2, .int z)]) (fun _ => rfl) (fun v54 ev54 => ?_)
      have L56 : ∀ (k9 : Nat) (j : Nat) (wz8 : Int32) (wz4 : Int64) (wz6 : Int32) (J : Mem) (hw8 : wz8 = nI j) (hj : j ≤ cntM F b w) (h4 : wz4 = lN (((bstK (bM b == sd) (valF F sd 0 b w) j).map (fun q => q.1)).getD 0)) (h6 : wz6 = oI ((bstK (bM b == sd) (valF F sd 0 b w) j).map (fun q => q.2))) (hsv : SvB J F 0 b) (hfm : FMv J F b w 0) (hlw : Lw 1 I J), cntM F b w - j < k9 → G κ n ρ 56 [(8, .int wz8), (4, .long wz4), (6, .int wz6), (3, .int v24), (7, .int v51), (0, .ref 97), (1, .int x), (2, .int z)] [] J := by
        intro k9
        induction k9 with
        | zero => intro j wz8 wz4 wz6 J hw8 hj h4 h6 hsv hfm hlw hm56; exact absurd hm56 (Nat.not_lt_zero _)
        | succ k9 ih56 =>
          intro j wz8 wz4 wz6 J hw8 hj h4 h6 hsv hfm hlw hm56
          subst hw8
          have hcl := cntM_le (F := F) (b := b) (w := w) hn6
          have hml := mvs_len (F := F) (b := b) (w := w) hn6
          have hkJ := hlw.1
          refine g_iload C (pc := 56) dX12_windOfOne_56 0 rfl ?_
          refine g_iload C (pc := 58) dX12_windOfOne_58 4 rfl ?_
          refine g_icmp_ge C (pc := 60) 156 dX12_windOfOne_60 (by decide) (fun c60 => ?_) (fun c60 => ?_)
          · rw [h51, nI_leI (by omega) (by omega)] at c60
            refine g_aload_n C (pc := 156) dX12_windOfOne_156 5 rfl ?_
            refine g_iconst C (pc := 157) 0 dX12_windOfOne_157 (by decide) ?_
            refine g_callVV C (pc := 158) mf_X12_returns lk_RX12_257 (c_X12_returnsD n ρ J F b 0 _ hn9 hms (hqf.kp hkJ) hrw hsv (by decide) rfl) (by decide) (Nat.le_refl _) rfl (by first | assumption | rfl | omega) rfl (by first | assumption | rfl | omega) (Nat.le_of_ble_eq_true rfl) dX12_windOfOne_158 (fun I158 h158 => ?_)
            obtain ⟨f158, a158, g158⟩ := h158
            refine g_aload_n C (pc := 161) dX12_windOfOne_161 5 rfl ?_
            refine g_aload_n C (pc := 162) dX12_windOfOne_162 5 rfl ?_
            refine g_getR C (pc := 163) fl_RX12_44 (by decide) (by first | assumption | rfl | omega) (by first | assumption | rfl | omega) (by first | assumption | rfl | omega) dX12_windOfOne_163 ?_
            refine g_iconst C (pc := 166) 0 dX12_windOfOne_166 (by decide) ?_
            refine g_iald C (pc := 167) (by first | assumption | rfl | omega) (by first | assumption | rfl | omega) (vp_in_nI (n := 0) (by decide) (by decide)) dX12_windOfOne_167 ?_
            refine g_if_ne C (pc := 168) 176 dX12_windOfOne_168 (by decide) (fun c168 => ?_) (fun c168 => ?_)
            · refine g_iload C (pc := 176) dX12_windOfOne_176 2 rfl ?_
              refine g_putI C (pc := 178) fl_RX12_268 (by decide) fp_11_29 (Or.inl rfl) ⟨rfl, rfl⟩ (by first | assumption | rfl | omega) (by first | assumption | rfl | omega) hn9 dX12_windOfOne_178 ?_
              refine g_lload C (pc := 181) dX12_windOfOne_181 1 rfl ?_
              refine g_lret C hR (pc := 183) rfl dX12_windOfOne_183 ?_
              refine ⟨rfl, _, rfl, ?_⟩
              have hjc : j = cntM F b w := by omega
              subst hjc
              have hl5 : Lw 1 I I158 := hlw.trans ((Lw.qb a158 g158).up (by decide))
              refine ⟨h4, ?_, f158.cong (fun _ _ => by rw [wr_n (by decide)]) (fun _ _ => by rw [wr_n (by decide)]) (by rw [wr_sn (by decide)]) hn6, hl5.trans ((Lw.sc (by decide) (by decide)).up (Nat.zero_le _))⟩
              rw [wr_ss]
              have h9 : I158 109 0 = nI (mvs F b w).length := by rw [g158 109 (by decide) (by decide) (by decide)]; exact hfm.1
              unfold chW
              first
              | (rw [if_pos ((nI_eq (b := 0) (by omega) (by decide)).mp (h9.symm.trans c168))]; rfl)
              | (rw [if_neg (fun h8 => c168 (h9.trans (by rw [h8]; rfl)))]; exact h6)
            · refine g_bipush C (pc := 171) (-4) dX12_windOfOne_171 (by decide) ?_
              refine g_goto C (pc := 173) 178 dX12_windOfOne_173 (by decide) ?_
              refine g_putI C (pc := 178) fl_RX12_268 (by decide) fp_11_29 (Or.inl rfl) ⟨rfl, rfl⟩ (by first | assumption | rfl | omega) (by first | assumption | rfl | omega) hn9 dX12_windOfOne_178 ?_
              refine g_lload C (pc := 181) dX12_windOfOne_181 1 rfl ?_
              refine g_lret C hR (pc := 183) rfl dX12_windOfOne_183 ?_
              refine ⟨rfl, _, rfl, ?_⟩
              have hjc : j = cntM F b w := by omega
              subst hjc
              have hl5 : Lw 1 I I158 := hlw.trans ((Lw.qb a158 g158).up (by decide))
              refine ⟨h4, ?_, f158.cong (fun _ _ => by rw [wr_n (by decide)]) (fun _ _ => by rw [wr_n (by decide)]) (by rw [wr_sn (by decide)]) hn6, hl5.trans ((Lw.sc (by decide) (by decide)).up (Nat.zero_le _))⟩
              rw [wr_ss]
              have h9 : I158 109 0 = nI (mvs F b w).length := by rw [g158 109 (by decide) (by decide) (by decide)]; exact hfm.1
              unfold chW
              first
              | (rw [if_pos ((nI_eq (b := 0) (by omega) (by decide)).mp (h9.symm.trans c168))]; rfl)
              | (rw [if_neg (fun h8 => c168 (h9.trans (by rw [h8]; rfl)))]; exact h6)
          · rw [h51, nI_ltI (by omega) (by omega)] at c60
            refine g_aload_n C (pc := 63) dX12_windOfOne_63 5 rfl ?_
            refine g_iconst C (pc := 64) 0 dX12_windOfOne_64 (by decide) ?_
            refine g_callVV C (pc := 65) mf_X12_returns lk_RX12_257 (c_X12_returnsD n ρ J F b 0 _ hn9 hms (hqf.kp hkJ) hrw hsv (by decide) rfl) (by decide) (Nat.le_refl _) rfl (by first | assumption | rfl | omega) rfl (by first | assumption | rfl | omega) (Nat.le_of_ble_eq_true rfl) dX12_windOfOne_65 (fun I65 h65 => ?_)
            obtain ⟨f65, a65, g65⟩ := h65
            have hl2 : Lw 0 J I65 := Lw.qb a65 g65
            have hlw2 : Lw 1 I I65 := hlw.trans (hl2.up (by decide))
            have hsv2 : SvB I65 F 0 b := hsv.lw (hl2.up (by decide)) hn6
            have hfm2 : FMv I65 F b w 0 := hfm.lw (hl2.up (by decide)) hn6
            refine g_aload_n C (pc := 68) dX12_windOfOne_68 5 rfl ?_
            refine g_iload_n C (pc := 69) dX12_windOfOne_69 7 rfl ?_
            refine g_aload_n C (pc := 70) dX12_windOfOne_70 5 rfl ?_
            refine g_getR C (pc := 71) fl_RX12_44 (by decide) (by first | assumption | rfl | omega) (by first | assumption | rfl | omega) (by first | assumption | rfl | omega) dX12_windOfOne_71 ?_
            refine g_iconst C (pc := 74) 0 dX12_windOfOne_74 (by decide) ?_
            refine g_iald C (pc := 75) (by first | assumption | rfl | omega) (by first | assumption | rfl | omega) (vp_in_nI (n := 0) (by decide) (by decide)) dX12_windOfOne_75 ?_
            refine g_if_ne C (pc := 76) 84 dX12_windOfOne_76 (by decide) (fun c76 => ?_) (fun c76 => ?_)
            · have hjl : j < (mvs F b w).length := by
                have h9 : ¬ I65 109 0 = 0 := c76
                rw [hfm2.1] at h9
                have h8 : (mvs F b w).length ≠ 0 := fun h => h9 (by rw [h]; rfl)
                unfold cntM at c60
                rw [if_neg h8] at c60; exact c60
              have hmx9 : I65 108 (nI j).toNatClampNeg = oI ((mvs F b w)[j]?) := by
                have hk9 := List.getElem?_eq_getElem hjl
                have h9 := hfm2.2 j _ hk9
                rw [Nat.mul_zero, Nat.zero_add] at h9
                rw [hk9, nI_clamp (by omega)]; exact h9
              refine g_aload_n C (pc := 84) dX12_windOfOne_84 5 rfl ?_
              refine g_getR C (pc := 85) fl_RX12_41 (by decide) (by first | assumption | rfl | omega) (by first | assumption | rfl | omega) (by first | assumption | rfl | omega) dX12_windOfOne_85 ?_
              refine g_iload C (pc := 88) dX12_windOfOne_88 0 rfl ?_
              refine g_iald C (pc := 90) (by first | assumption | rfl | omega) (by first | assumption | rfl | omega) (vp_in_nI (n := j) (by omega) (by decide)) dX12_windOfOne_90 ?_
              refine g_callVI C (pc := 91) mf_X12_goes lk_RX12_251 (c_X12_goesE n ρ I65 F b w ((mvs F b w)[j]?) _ z hn9 hms (hqf.kp hlw2.1) hrw f65 hbw hw (mvs_K hrw) (hmx9) hz) (by decide) (Nat.le_refl _) rfl (by first | assumption | rfl | omega) rfl (by first | assumption | rfl | omega) (Nat.le_of_ble_eq_true rfl) dX12_windOfOne_91 (fun v91 I91 h91 => ?_)
              obtain ⟨e91, f91, a91, g91⟩ := h91
              have hl3 : Lw 0 I65 I91 := Lw.qb a91 g91
              replace hlw2 := hlw2
              have hbw2 : BW F (playB F b w ((mvs F b w)[j]?)) := (mvs_K hrw).bw hrw hbw
              have hl12 : L1 F (playB F b w ((mvs F b w)[j]?)) := L1_play hl1
              have hpw2 : PW F (playB F b w ((mvs F b w)[j]?)) := PW_play (mvs_K hrw) hrw hpw
              refine g_pop C (pc := 94) dX12_windOfOne_94 rfl ?_
              refine g_aload_n C (pc := 95) dX12_windOfOne_95 5 rfl ?_
              refine g_iload_n C (pc := 96) dX12_windOfOne_96 6 rfl ?_
              refine g_callVL C (pc := 97) mf_X12_wonNow lk_RX12_260 (c_X12_wonNow n ρ I91 F (playB F b w ((mvs F b w)[j]?)) sd x hn9 hms (hqf.kp (hlw2.trans (hl3.up (by decide))).1) hrw f91 hbw2 hl12 hsd hx) (by decide) (Nat.le_refl _) rfl (by first | assumption | rfl | omega) rfl (by first | assumption | rfl | omega) (Nat.le_of_ble_eq_true rfl) dX12_windOfOne_97 (fun v97 I97 h97 => ?_)
              obtain ⟨e97, rfl⟩ := h97
              have hlI : Lw 0 I65 I91 := hl3
              have hvf : v97 = lN ((valF F sd 0 b w) j) := e97
              refine g_lstore C (pc := 100) dX12_windOfOne_100 (by decide) (fun v100 => [(9, .long v100), (8, .int (nI j)), (4, .long wz4), (6, .int wz6), (3, .int v24), (7, .int v51), (0, .ref 97), (1, .int x), (2, .int z)]) (fun _ => rfl) (fun v100 ev100 => ?_)
              refine g_iload C (pc := 102) dX12_windOfOne_102 1 rfl ?_
              refine g_if_ne C (pc := 104) 111 dX12_windOfOne_104 (by decide) (fun c104 => ?_) (fun c104 => ?_)
              · refine g_iconst C (pc := 111) 0 dX12_windOfOne_111 (by decide) ?_
                refine g_iload_n C (pc := 112) dX12_windOfOne_112 4 rfl ?_
                refine g_lload C (pc := 113) dX12_windOfOne_113 0 rfl ?_
                refine g_lload C (pc := 115) dX12_windOfOne_115 2 rfl ?_
                refine g_callSI C (pc := 117) mf_X12_isBetter lk_RX12_264 (c_X12_isBetter n ρ _ _ _ _ _ hn9) (by decide) (Nat.le_refl _) rfl (Nat.le_of_ble_eq_true rfl) dX12_windOfOne_117 (fun v117 I117 h117 => ?_)
                obtain ⟨e117, rfl⟩ := h117
                refine g_istore C (pc := 120) dX12_windOfOne_120 (by decide) (fun v120 => [(11, .int v120), (9, .long v100), (8, .int (nI j)), (4, .long wz4), (6, .int wz6), (3, .int v24), (7, .int v51), (0, .ref 97), (1, .int x), (2, .int z)]) (fun _ => rfl) (fun v120 ev120 => ?_)
                have hup := bst_upd (wants := (bM b == sd)) (f := (valF F sd 0 b w)) (j := j) (z4 := wz4) (z6 := wz6) (fl := bI (j = 0)) (own := v24) (u := v120) (fun i _ => (by show val F sd 0 (playB F b w ((mvs F b w)[i]?)) < 2 ^ 31; have h9 := val_le (F := F) (sd := sd) 0 (playB F b w ((mvs F b w)[i]?)); have h8 := pw3 (a := allO F) (k := 0) hAO (by decide); omega)) h4 h6 rfl h24 (by
                  rw [ev120, e117, ev100, hvf]
                  first
                  | (rw [bI_t (c := j = 0) ((nI_eq (b := 0) (by omega) (by decide)).mp c104)]; done)
                  | (rw [bI_f (c := j = 0) (fun h => c104 (by rw [h]; rfl))]; done))
                refine g_iload C (pc := 122) dX12_windOfOne_122 0 rfl ?_
                refine g_if_eq C (pc := 124) 132 dX12_windOfOne_124 (by decide) (fun c124 => ?_) (fun c124 => ?_)
                · refine g_iload C (pc := 132) dX12_windOfOne_132 4 rfl ?_
                  refine g_istore C (pc := 134) dX12_windOfOne_134 (by decide) (fun v134 => [(6, .int v134), (11, .int v120), (9, .long v100), (8, .int (nI j)), (4, .long wz4), (3, .int v24), (7, .int v51), (0, .ref 97), (1, .int x), (2, .int z)]) (fun _ => rfl) (fun v134 ev134 => ?_)
                  refine g_iload C (pc := 136) dX12_windOfOne_136 1 rfl ?_
                  refine g_if_eq C (pc := 138) 146 dX12_windOfOne_138 (by decide) (fun c138 => ?_) (fun c138 => ?_)
                  · refine g_lload C (pc := 146) dX12_windOfOne_146 4 rfl ?_
                    refine g_lstore C (pc := 148) dX12_windOfOne_148 (by decide) (fun v148 => [(4, .long v148), (6, .int v134), (11, .int v120), (9, .long v100), (8, .int (nI j)), (3, .int v24), (7, .int v51), (0, .ref 97), (1, .int x), (2, .int z)]) (fun _ => rfl) (fun v148 ev148 => ?_)
                    refine g_iinc C (pc := 150) (1) dX12_windOfOne_150 4 rfl (by decide) (by decide) (fun v150 => [(8, .int v150), (4, .long v148), (6, .int v134), (11, .int v120), (9, .long v100), (3, .int v24), (7, .int v51), (0, .ref 97), (1, .int x), (2, .int z)]) (fun _ => rfl) (fun v150 ev150 => ?_)
                    refine g_goto C (pc := 153) 56 dX12_windOfOne_153 (by decide) ?_
                    refine g_lv C [0, 1, 2, 5, 6, 7, 8, 9] rfl (ih56 (j + 1) _ _ _ _ ?_ ?_ ?_ ?_ ?_ ?_ ?_ (by omega))
                    · subst ev150; exact nI_1 _
                    · omega
                    · rw [ev148]; first | exact (ev100.trans hvf).trans (hup.1 c124).1 | exact (hup.2 c124).1
                    · rw [ev134]; first | exact (hup.1 c124).2 | exact (hup.2 c124).2
                    · exact hsv2.lw hlI hn6
                    · exact hfm2.lw hlI hn6
                    · exact hlw2.trans (hlI.up (by decide))
                  · exact absurd c124 c138
                · refine g_iload C (pc := 127) dX12_windOfOne_127 2 rfl ?_
                  refine g_goto C (pc := 129) 134 dX12_windOfOne_129 (by decide) ?_
                  refine g_istore C (pc := 134) dX12_windOfOne_134 (by decide) (fun v134 => [(6, .int v134), (11, .int v120), (9, .long v100), (8, .int (nI j)), (4, .long wz4), (3, .int v24), (7, .int v51), (0, .ref 97), (1, .int x), (2, .int z)]) (fun _ => rfl) (fun v134 ev134 => ?_)
                  refine g_iload C (pc := 136) dX12_windOfOne_136 1 rfl ?_
                  refine g_if_eq C (pc := 138) 146 dX12_windOfOne_138 (by decide) (fun c138 => ?_) (fun c138 => ?_)
                  · exact absurd c138 c124
                  · refine g_lload C (pc := 141) dX12_windOfOne_141 2 rfl ?_
                    refine g_goto C (pc := 143) 148 dX12_windOfOne_143 (by decide) ?_
                    refine g_lstore C (pc := 148) dX12_windOfOne_148 (by decide) (fun v148 => [(4, .long v148), (6, .int v134), (11, .int v120), (9, .long v100), (8, .int (nI j)), (3, .int v24), (7, .int v51), (0, .ref 97), (1, .int x), (2, .int z)]) (fun _ => rfl) (fun v148 ev148 => ?_)
                    refine g_iinc C (pc := 150) (1) dX12_windOfOne_150 4 rfl (by decide) (by decide) (fun v150 => [(8, .int v150), (4, .long v148), (6, .int v134), (11, .int v120), (9, .long v100), (3, .int v24), (7, .int v51), (0, .ref 97), (1, .int x), (2, .int z)]) (fun _ => rfl) (fun v150 ev150 => ?_)
                    refine g_goto C (pc := 153) 56 dX12_windOfOne_153 (by decide) ?_
                    refine g_lv C [0, 1, 2, 5, 6, 7, 8, 9] rfl (ih56 (j + 1) _ _ _ _ ?_ ?_ ?_ ?_ ?_ ?_ ?_ (by omega))
                    · subst ev150; exact nI_1 _
                    · omega
                    · rw [ev148]; first | exact (ev100.trans hvf).trans (hup.1 c124).1 | exact (hup.2 c124).1
                    · rw [ev134]; first | exact (hup.1 c124).2 | exact (hup.2 c124).2
                    · exact hsv2.lw hlI hn6
                    · exact hfm2.lw hlI hn6
                    · exact hlw2.trans (hlI.up (by decide))
              · refine g_iconst C (pc := 107) 1 dX12_windOfOne_107 (by decide) ?_
                refine g_goto C (pc := 108) 112 dX12_windOfOne_108 (by decide) ?_
                refine g_iload_n C (pc := 112) dX12_windOfOne_112 4 rfl ?_
                refine g_lload C (pc := 113) dX12_windOfOne_113 0 rfl ?_
                refine g_lload C (pc := 115) dX12_windOfOne_115 2 rfl ?_
                refine g_callSI C (pc := 117) mf_X12_isBetter lk_RX12_264 (c_X12_isBetter n ρ _ _ _ _ _ hn9) (by decide) (Nat.le_refl _) rfl (Nat.le_of_ble_eq_true rfl) dX12_windOfOne_117 (fun v117 I117 h117 => ?_)
                obtain ⟨e117, rfl⟩ := h117
                refine g_istore C (pc := 120) dX12_windOfOne_120 (by decide) (fun v120 => [(11, .int v120), (9, .long v100), (8, .int (nI j)), (4, .long wz4), (6, .int wz6), (3, .int v24), (7, .int v51), (0, .ref 97), (1, .int x), (2, .int z)]) (fun _ => rfl) (fun v120 ev120 => ?_)
                have hup := bst_upd (wants := (bM b == sd)) (f := (valF F sd 0 b w)) (j := j) (z4 := wz4) (z6 := wz6) (fl := bI (j = 0)) (own := v24) (u := v120) (fun i _ => (by show val F sd 0 (playB F b w ((mvs F b w)[i]?)) < 2 ^ 31; have h9 := val_le (F := F) (sd := sd) 0 (playB F b w ((mvs F b w)[i]?)); have h8 := pw3 (a := allO F) (k := 0) hAO (by decide); omega)) h4 h6 rfl h24 (by
                  rw [ev120, e117, ev100, hvf]
                  first
                  | (rw [bI_t (c := j = 0) ((nI_eq (b := 0) (by omega) (by decide)).mp c104)]; done)
                  | (rw [bI_f (c := j = 0) (fun h => c104 (by rw [h]; rfl))]; done))
                refine g_iload C (pc := 122) dX12_windOfOne_122 0 rfl ?_
                refine g_if_eq C (pc := 124) 132 dX12_windOfOne_124 (by decide) (fun c124 => ?_) (fun c124 => ?_)
                · refine g_iload C (pc := 132) dX12_windOfOne_132 4 rfl ?_
                  refine g_istore C (pc := 134) dX12_windOfOne_134 (by decide) (fun v134 => [(6, .int v134), (11, .int v120), (9, .long v100), (8, .int (nI j)), (4, .long wz4), (3, .int v24), (7, .int v51), (0, .ref 97), (1, .int x), (2, .int z)]) (fun _ => rfl) (fun v134 ev134 => ?_)
                  refine g_iload C (pc := 136) dX12_windOfOne_136 1 rfl ?_
                  refine g_if_eq C (pc := 138) 146 dX12_windOfOne_138 (by decide) (fun c138 => ?_) (fun c138 => ?_)
                  · refine g_lload C (pc := 146) dX12_windOfOne_146 4 rfl ?_
                    refine g_lstore C (pc := 148) dX12_windOfOne_148 (by decide) (fun v148 => [(4, .long v148), (6, .int v134), (11, .int v120), (9, .long v100), (8, .int (nI j)), (3, .int v24), (7, .int v51), (0, .ref 97), (1, .int x), (2, .int z)]) (fun _ => rfl) (fun v148 ev148 => ?_)
                    refine g_iinc C (pc := 150) (1) dX12_windOfOne_150 4 rfl (by decide) (by decide) (fun v150 => [(8, .int v150), (4, .long v148), (6, .int v134), (11, .int v120), (9, .long v100), (3, .int v24), (7, .int v51), (0, .ref 97), (1, .int x), (2, .int z)]) (fun _ => rfl) (fun v150 ev150 => ?_)
                    refine g_goto C (pc := 153) 56 dX12_windOfOne_153 (by decide) ?_
                    refine g_lv C [0, 1, 2, 5, 6, 7, 8, 9] rfl (ih56 (j + 1) _ _ _ _ ?_ ?_ ?_ ?_ ?_ ?_ ?_ (by omega))
                    · subst ev150; exact nI_1 _
                    · omega
                    · rw [ev148]; first | exact (ev100.trans hvf).trans (hup.1 c124).1 | exact (hup.2 c124).1
                    · rw [ev134]; first | exact (hup.1 c124).2 | exact (hup.2 c124).2
                    · exact hsv2.lw hlI hn6
                    · exact hfm2.lw hlI hn6
                    · exact hlw2.trans (hlI.up (by decide))
                  · exact absurd c124 c138
                · refine g_iload C (pc := 127) dX12_windOfOne_127 2 rfl ?_
                  refine g_goto C (pc := 129) 134 dX12_windOfOne_129 (by decide) ?_
                  refine g_istore C (pc := 134) dX12_windOfOne_134 (by decide) (fun v134 => [(6, .int v134), (11, .int v120), (9, .long v100), (8, .int (nI j)), (4, .long wz4), (3, .int v24), (7, .int v51), (0, .ref 97), (1, .int x), (2, .int z)]) (fun _ => rfl) (fun v134 ev134 => ?_)
                  refine g_iload C (pc := 136) dX12_windOfOne_136 1 rfl ?_
                  refine g_if_eq C (pc := 138) 146 dX12_windOfOne_138 (by decide) (fun c138 => ?_) (fun c138 => ?_)
                  · exact absurd c138 c124
                  · refine g_lload C (pc := 141) dX12_windOfOne_141 2 rfl ?_
                    refine g_goto C (pc := 143) 148 dX12_windOfOne_143 (by decide) ?_
                    refine g_lstore C (pc := 148) dX12_windOfOne_148 (by decide) (fun v148 => [(4, .long v148), (6, .int v134), (11, .int v120), (9, .long v100), (8, .int (nI j)), (3, .int v24), (7, .int v51), (0, .ref 97), (1, .int x), (2, .int z)]) (fun _ => rfl) (fun v148 ev148 => ?_)
                    refine g_iinc C (pc := 150) (1) dX12_windOfOne_150 4 rfl (by decide) (by decide) (fun v150 => [(8, .int v150), (4, .long v148), (6, .int v134), (11, .int v120), (9, .long v100), (3, .int v24), (7, .int v51), (0, .ref 97), (1, .int x), (2, .int z)]) (fun _ => rfl) (fun v150 ev150 => ?_)
                    refine g_goto C (pc := 153) 56 dX12_windOfOne_153 (by decide) ?_
                    refine g_lv C [0, 1, 2, 5, 6, 7, 8, 9] rfl (ih56 (j + 1) _ _ _ _ ?_ ?_ ?_ ?_ ?_ ?_ ?_ (by omega))
                    · subst ev150; exact nI_1 _
                    · omega
                    · rw [ev148]; first | exact (ev100.trans hvf).trans (hup.1 c124).1 | exact (hup.2 c124).1
                    · rw [ev134]; first | exact (hup.1 c124).2 | exact (hup.2 c124).2
                    · exact hsv2.lw hlI hn6
                    · exact hfm2.lw hlI hn6
                    · exact hlw2.trans (hlI.up (by decide))
            · have hjl : (mvs F b w).length = 0 := by
                have h9 : I65 109 0 = 0 := c76
                rw [hfm2.1] at h9
                exact (nI_eq (b := 0) (by omega) (by decide)).mp h9
              have hmx9 : (-4 : Int32) = oI ((mvs F b w)[j]?) := by rw [List.getElem?_eq_none (by omega)]; rfl
              refine g_bipush C (pc := 79) (-4) dX12_windOfOne_79 (by decide) ?_
              refine g_goto C (pc := 81) 91 dX12_windOfOne_81 (by decide) ?_
              refine g_callVI C (pc := 91) mf_X12_goes lk_RX12_251 (c_X12_goesE n ρ I65 F b w ((mvs F b w)[j]?) _ z hn9 hms (hqf.kp hlw2.1) hrw f65 hbw hw (mvs_K hrw) (hmx9) hz) (by decide) (Nat.le_refl _) rfl (by first | assumption | rfl | omega) rfl (by first | assumption | rfl | omega) (Nat.le_of_ble_eq_true rfl) dX12_windOfOne_91 (fun v91 I91 h91 => ?_)
              obtain ⟨e91, f91, a91, g91⟩ := h91
              have hl3 : Lw 0 I65 I91 := Lw.qb a91 g91
              replace hlw2 := hlw2
              have hbw2 : BW F (playB F b w ((mvs F b w)[j]?)) := (mvs_K hrw).bw hrw hbw
              have hl12 : L1 F (playB F b w ((mvs F b w)[j]?)) := L1_play hl1
              have hpw2 : PW F (playB F b w ((mvs F b w)[j]?)) := PW_play (mvs_K hrw) hrw hpw
              refine g_pop C (pc := 94) dX12_windOfOne_94 rfl ?_
              refine g_aload_n C (pc := 95) dX12_windOfOne_95 5 rfl ?_
              refine g_iload_n C (pc := 96) dX12_windOfOne_96 6 rfl ?_
              refine g_callVL C (pc := 97) mf_X12_wonNow lk_RX12_260 (c_X12_wonNow n ρ I91 F (playB F b w ((mvs F b w)[j]?)) sd x hn9 hms (hqf.kp (hlw2.trans (hl3.up (by decide))).1) hrw f91 hbw2 hl12 hsd hx) (by decide) (Nat.le_refl _) rfl (by first | assumption | rfl | omega) rfl (by first | assumption | rfl | omega) (Nat.le_of_ble_eq_true rfl) dX12_windOfOne_97 (fun v97 I97 h97 => ?_)
              obtain ⟨e97, rfl⟩ := h97
              have hlI : Lw 0 I65 I91 := hl3
              have hvf : v97 = lN ((valF F sd 0 b w) j) := e97
              refine g_lstore C (pc := 100) dX12_windOfOne_100 (by decide) (fun v100 => [(9, .long v100), (8, .int (nI j)), (4, .long wz4), (6, .int wz6), (3, .int v24), (7, .int v51), (0, .ref 97), (1, .int x), (2, .int z)]) (fun _ => rfl) (fun v100 ev100 => ?_)
              refine g_iload C (pc := 102) dX12_windOfOne_102 1 rfl ?_
              refine g_if_ne C (pc := 104) 111 dX12_windOfOne_104 (by decide) (fun c104 => ?_) (fun c104 => ?_)
              · refine g_iconst C (pc := 111) 0 dX12_windOfOne_111 (by decide) ?_
                refine g_iload_n C (pc := 112) dX12_windOfOne_112 4 rfl ?_
                refine g_lload C (pc := 113) dX12_windOfOne_113 0 rfl ?_
                refine g_lload C (pc := 115) dX12_windOfOne_115 2 rfl ?_
                refine g_callSI C (pc := 117) mf_X12_isBetter lk_RX12_264 (c_X12_isBetter n ρ _ _ _ _ _ hn9) (by decide) (Nat.le_refl _) rfl (Nat.le_of_ble_eq_true rfl) dX12_windOfOne_117 (fun v117 I117 h117 => ?_)
                obtain ⟨e117, rfl⟩ := h117
                refine g_istore C (pc := 120) dX12_windOfOne_120 (by decide) (fun v120 => [(11, .int v120), (9, .long v100), (8, .int (nI j)), (4, .long wz4), (6, .int wz6), (3, .int v24), (7, .int v51), (0, .ref 97), (1, .int x), (2, .int z)]) (fun _ => rfl) (fun v120 ev120 => ?_)
                have hup := bst_upd (wants := (bM b == sd)) (f := (valF F sd 0 b w)) (j := j) (z4 := wz4) (z6 := wz6) (fl := bI (j = 0)) (own := v24) (u := v120) (fun i _ => (by show val F sd 0 (playB F b w ((mvs F b w)[i]?)) < 2 ^ 31; have h9 := val_le (F := F) (sd := sd) 0 (playB F b w ((mvs F b w)[i]?)); have h8 := pw3 (a := allO F) (k := 0) hAO (by decide); omega)) h4 h6 rfl h24 (by
                  rw [ev120, e117, ev100, hvf]
                  first
                  | (rw [bI_t (c := j = 0) ((nI_eq (b := 0) (by omega) (by decide)).mp c104)]; done)
                  | (rw [bI_f (c := j = 0) (fun h => c104 (by rw [h]; rfl))]; done))
                refine g_iload C (pc := 122) dX12_windOfOne_122 0 rfl ?_
                refine g_if_eq C (pc := 124) 132 dX12_windOfOne_124 (by decide) (fun c124 => ?_) (fun c124 => ?_)
                · refine g_iload C (pc := 132) dX12_windOfOne_132 4 rfl ?_
                  refine g_istore C (pc := 134) dX12_windOfOne_134 (by decide) (fun v134 => [(6, .int v134), (11, .int v120), (9, .long v100), (8, .int (nI j)), (4, .long wz4), (3, .int v24), (7, .int v51), (0, .ref 97), (1, .int x), (2, .int z)]) (fun _ => rfl) (fun v134 ev134 => ?_)
                  refine g_iload C (pc := 136) dX12_windOfOne_136 1 rfl ?_
                  refine g_if_eq C (pc := 138) 146 dX12_windOfOne_138 (by decide) (fun c138 => ?_) (fun c138 => ?_)
                  · refine g_lload C (pc := 146) dX12_windOfOne_146 4 rfl ?_
                    refine g_lstore C (pc := 148) dX12_windOfOne_148 (by decide) (fun v148 => [(4, .long v148), (6, .int v134), (11, .int v120), (9, .long v100), (8, .int (nI j)), (3, .int v24), (7, .int v51), (0, .ref 97), (1, .int x), (2, .int z)]) (fun _ => rfl) (fun v148 ev148 => ?_)
                    refine g_iinc C (pc := 150) (1) dX12_windOfOne_150 4 rfl (by decide) (by decide) (fun v150 => [(8, .int v150), (4, .long v148), (6, .int v134), (11, .int v120), (9, .long v100), (3, .int v24), (7, .int v51), (0, .ref 97), (1, .int x), (2, .int z)]) (fun _ => rfl) (fun v150 ev150 => ?_)
                    refine g_goto C (pc := 153) 56 dX12_windOfOne_153 (by decide) ?_
                    refine g_lv C [0, 1, 2, 5, 6, 7, 8, 9] rfl (ih56 (j + 1) _ _ _ _ ?_ ?_ ?_ ?_ ?_ ?_ ?_ (by omega))
                    · subst ev150; exact nI_1 _
                    · omega
                    · rw [ev148]; first | exact (ev100.trans hvf).trans (hup.1 c124).1 | exact (hup.2 c124).1
                    · rw [ev134]; first | exact (hup.1 c124).2 | exact (hup.2 c124).2
                    · exact hsv2.lw hlI hn6
                    · exact hfm2.lw hlI hn6
                    · exact hlw2.trans (hlI.up (by decide))
                  · exact absurd c124 c138
                · refine g_iload C (pc := 127) dX12_windOfOne_127 2 rfl ?_
                  refine g_goto C (pc := 129) 134 dX12_windOfOne_129 (by decide) ?_
                  refine g_istore C (pc := 134) dX12_windOfOne_134 (by decide) (fun v134 => [(6, .int v134), (11, .int v120), (9, .long v100), (8, .int (nI j)), (4, .long wz4), (3, .int v24), (7, .int v51), (0, .ref 97), (1, .int x), (2, .int z)]) (fun _ => rfl) (fun v134 ev134 => ?_)
                  refine g_iload C (pc := 136) dX12_windOfOne_136 1 rfl ?_
                  refine g_if_eq C (pc := 138) 146 dX12_windOfOne_138 (by decide) (fun c138 => ?_) (fun c138 => ?_)
                  · exact absurd c138 c124
                  · refine g_lload C (pc := 141) dX12_windOfOne_141 2 rfl ?_
                    refine g_goto C (pc := 143) 148 dX12_windOfOne_143 (by decide) ?_
                    refine g_lstore C (pc := 148) dX12_windOfOne_148 (by decide) (fun v148 => [(4, .long v148), (6, .int v134), (11, .int v120), (9, .long v100), (8, .int (nI j)), (3, .int v24), (7, .int v51), (0, .ref 97), (1, .int x), (2, .int z)]) (fun _ => rfl) (fun v148 ev148 => ?_)
                    refine g_iinc C (pc := 150) (1) dX12_windOfOne_150 4 rfl (by decide) (by decide) (fun v150 => [(8, .int v150), (4, .long v148), (6, .int v134), (11, .int v120), (9, .long v100), (3, .int v24), (7, .int v51), (0, .ref 97), (1, .int x), (2, .int z)]) (fun _ => rfl) (fun v150 ev150 => ?_)
                    refine g_goto C (pc := 153) 56 dX12_windOfOne_153 (by decide) ?_
                    refine g_lv C [0, 1, 2, 5, 6, 7, 8, 9] rfl (ih56 (j + 1) _ _ _ _ ?_ ?_ ?_ ?_ ?_ ?_ ?_ (by omega))
                    · subst ev150; exact nI_1 _
                    · omega
                    · rw [ev148]; first | exact (ev100.trans hvf).trans (hup.1 c124).1 | exact (hup.2 c124).1
                    · rw [ev134]; first | exact (hup.1 c124).2 | exact (hup.2 c124).2
                    · exact hsv2.lw hlI hn6
                    · exact hfm2.lw hlI hn6
                    · exact hlw2.trans (hlI.up (by decide))
              · refine g_iconst C (pc := 107) 1 dX12_windOfOne_107 (by decide) ?_
                refine g_goto C (pc := 108) 112 dX12_windOfOne_108 (by decide) ?_
                refine g_iload_n C (pc := 112) dX12_windOfOne_112 4 rfl ?_
                refine g_lload C (pc := 113) dX12_windOfOne_113 0 rfl ?_
                refine g_lload C (pc := 115) dX12_windOfOne_115 2 rfl ?_
                refine g_callSI C (pc := 117) mf_X12_isBetter lk_RX12_264 (c_X12_isBetter n ρ _ _ _ _ _ hn9) (by decide) (Nat.le_refl _) rfl (Nat.le_of_ble_eq_true rfl) dX12_windOfOne_117 (fun v117 I117 h117 => ?_)
                obtain ⟨e117, rfl⟩ := h117
                refine g_istore C (pc := 120) dX12_windOfOne_120 (by decide) (fun v120 => [(11, .int v120), (9, .long v100), (8, .int (nI j)), (4, .long wz4), (6, .int wz6), (3, .int v24), (7, .int v51), (0, .ref 97), (1, .int x), (2, .int z)]) (fun _ => rfl) (fun v120 ev120 => ?_)
                have hup := bst_upd (wants := (bM b == sd)) (f := (valF F sd 0 b w)) (j := j) (z4 := wz4) (z6 := wz6) (fl := bI (j = 0)) (own := v24) (u := v120) (fun i _ => (by show val F sd 0 (playB F b w ((mvs F b w)[i]?)) < 2 ^ 31; have h9 := val_le (F := F) (sd := sd) 0 (playB F b w ((mvs F b w)[i]?)); have h8 := pw3 (a := allO F) (k := 0) hAO (by decide); omega)) h4 h6 rfl h24 (by
                  rw [ev120, e117, ev100, hvf]
                  first
                  | (rw [bI_t (c := j = 0) ((nI_eq (b := 0) (by omega) (by decide)).mp c104)]; done)
                  | (rw [bI_f (c := j = 0) (fun h => c104 (by rw [h]; rfl))]; done))
                refine g_iload C (pc := 122) dX12_windOfOne_122 0 rfl ?_
                refine g_if_eq C (pc := 124) 132 dX12_windOfOne_124 (by decide) (fun c124 => ?_) (fun c124 => ?_)
                · refine g_iload C (pc := 132) dX12_windOfOne_132 4 rfl ?_
                  refine g_istore C (pc := 134) dX12_windOfOne_134 (by decide) (fun v134 => [(6, .int v134), (11, .int v120), (9, .long v100), (8, .int (nI j)), (4, .long wz4), (3, .int v24), (7, .int v51), (0, .ref 97), (1, .int x), (2, .int z)]) (fun _ => rfl) (fun v134 ev134 => ?_)
                  refine g_iload C (pc := 136) dX12_windOfOne_136 1 rfl ?_
                  refine g_if_eq C (pc := 138) 146 dX12_windOfOne_138 (by decide) (fun c138 => ?_) (fun c138 => ?_)
                  · refine g_lload C (pc := 146) dX12_windOfOne_146 4 rfl ?_
                    refine g_lstore C (pc := 148) dX12_windOfOne_148 (by decide) (fun v148 => [(4, .long v148), (6, .int v134), (11, .int v120), (9, .long v100), (8, .int (nI j)), (3, .int v24), (7, .int v51), (0, .ref 97), (1, .int x), (2, .int z)]) (fun _ => rfl) (fun v148 ev148 => ?_)
                    refine g_iinc C (pc := 150) (1) dX12_windOfOne_150 4 rfl (by decide) (by decide) (fun v150 => [(8, .int v150), (4, .long v148), (6, .int v134), (11, .int v120), (9, .long v100), (3, .int v24), (7, .int v51), (0, .ref 97), (1, .int x), (2, .int z)]) (fun _ => rfl) (fun v150 ev150 => ?_)
                    refine g_goto C (pc := 153) 56 dX12_windOfOne_153 (by decide) ?_
                    refine g_lv C [0, 1, 2, 5, 6, 7, 8, 9] rfl (ih56 (j + 1) _ _ _ _ ?_ ?_ ?_ ?_ ?_ ?_ ?_ (by omega))
                    · subst ev150; exact nI_1 _
                    · omega
                    · rw [ev148]; first | exact (ev100.trans hvf).trans (hup.1 c124).1 | exact (hup.2 c124).1
                    · rw [ev134]; first | exact (hup.1 c124).2 | exact (hup.2 c124).2
                    · exact hsv2.lw hlI hn6
                    · exact hfm2.lw hlI hn6
                    · exact hlw2.trans (hlI.up (by decide))
                  · exact absurd c124 c138
                · refine g_iload C (pc := 127) dX12_windOfOne_127 2 rfl ?_
                  refine g_goto C (pc := 129) 134 dX12_windOfOne_129 (by decide) ?_
                  refine g_istore C (pc := 134) dX12_windOfOne_134 (by decide) (fun v134 => [(6, .int v134), (11, .int v120), (9, .long v100), (8, .int (nI j)), (4, .long wz4), (3, .int v24), (7, .int v51), (0, .ref 97), (1, .int x), (2, .int z)]) (fun _ => rfl) (fun v134 ev134 => ?_)
                  refine g_iload C (pc := 136) dX12_windOfOne_136 1 rfl ?_
                  refine g_if_eq C (pc := 138) 146 dX12_windOfOne_138 (by decide) (fun c138 => ?_) (fun c138 => ?_)
                  · exact absurd c138 c124
                  · refine g_lload C (pc := 141) dX12_windOfOne_141 2 rfl ?_
                    refine g_goto C (pc := 143) 148 dX12_windOfOne_143 (by decide) ?_
                    refine g_lstore C (pc := 148) dX12_windOfOne_148 (by decide) (fun v148 => [(4, .long v148), (6, .int v134), (11, .int v120), (9, .long v100), (8, .int (nI j)), (3, .int v24), (7, .int v51), (0, .ref 97), (1, .int x), (2, .int z)]) (fun _ => rfl) (fun v148 ev148 => ?_)
                    refine g_iinc C (pc := 150) (1) dX12_windOfOne_150 4 rfl (by decide) (by decide) (fun v150 => [(8, .int v150), (4, .long v148), (6, .int v134), (11, .int v120), (9, .long v100), (3, .int v24), (7, .int v51), (0, .ref 97), (1, .int x), (2, .int z)]) (fun _ => rfl) (fun v150 ev150 => ?_)
                    refine g_goto C (pc := 153) 56 dX12_windOfOne_153 (by decide) ?_
                    refine g_lv C [0, 1, 2, 5, 6, 7, 8, 9] rfl (ih56 (j + 1) _ _ _ _ ?_ ?_ ?_ ?_ ?_ ?_ ?_ (by omega))
                    · subst ev150; exact nI_1 _
                    · omega
                    · rw [ev148]; first | exact (ev100.trans hvf).trans (hup.1 c124).1 | exact (hup.2 c124).1
                    · rw [ev134]; first | exact (hup.1 c124).2 | exact (hup.2 c124).2
                    · exact hsv2.lw hlI hn6
                    · exact hfm2.lw hlI hn6
                    · exact hlw2.trans (hlI.up (by decide))
      refine g_lv C [0, 3, 2, 4, 1, 5, 6, 7] rfl (L56 (_ + 1) 0 _ _ _ _ ?_ ?_ ?_ ?_ ?_ ?_ ?_ (by first | omega | exact Nat.lt_succ_self _))
      · subst ev54; rfl
      · omega
      · subst ev26; rfl
      · subst ev30; rfl
      · exact f8
      · exact f3.cong (by rw [g8 109 (by decide)]) (fun z _ _ => by rw [g8 108 (by decide)]) hn6
      · exact (Lw.fm a3 b3 g3).trans (Lw.sv a8 g8)
  · refine g_iconst C (pc := 19) 1 dX12_windOfOne_19 (by decide) ?_
    refine g_goto C (pc := 20) 24 dX12_windOfOne_20 (by decide) ?_
    refine g_istore_n C (pc := 24) dX12_windOfOne_24 (by decide) (fun v24 => [(3, .int v24), (0, .ref 97), (1, .int x), (2, .int z)]) (fun _ => rfl) (fun v24 ev24 => ?_)
    refine g_lconst C (pc := 25) 0 dX12_windOfOne_25 (by decide) ?_
    have h24 : v24 = bI ((bM b == sd) = true) := by
      have hM2 := hbw.1
      first
      | (rw [bI_t (by have h9 : I8 97 25 = x := c16; rw [g8 97 (by decide), g3 97 (by decide) (by decide), hqb.2, hx] at h9; rw [(nI_eq (by omega) (by omega)).mp h9]; exact beq_self_eq_true _)]; exact ev24)
      | (rw [bI_f (fun h8 => c16 (by show I8 97 25 = x; rw [g8 97 (by decide), g3 97 (by decide) (by decide), hqb.2, hx, eq_of_beq h8]))]; exact ev24)
    refine g_lstore C (pc := 26) dX12_windOfOne_26 (by decide) (fun v26 => [(4, .long v26), (3, .int v24), (0, .ref 97), (1, .int x), (2, .int z)]) (fun _ => rfl) (fun v26 ev26 => ?_)
    refine g_bipush C (pc := 28) (-4) dX12_windOfOne_28 (by decide) ?_
    refine g_istore C (pc := 30) dX12_windOfOne_30 (by decide) (fun v30 => [(6, .int v30), (4, .long v26), (3, .int v24), (0, .ref 97), (1, .int x), (2, .int z)]) (fun _ => rfl) (fun v30 ev30 => ?_)
    refine g_aload_n C (pc := 32) dX12_windOfOne_32 3 rfl ?_
    refine g_getR C (pc := 33) fl_RX12_44 (by decide) (by first | assumption | rfl | omega) (by first | assumption | rfl | omega) (by first | assumption | rfl | omega) dX12_windOfOne_33 ?_
    refine g_iconst C (pc := 36) 0 dX12_windOfOne_36 (by decide) ?_
    refine g_iald C (pc := 37) (by first | assumption | rfl | omega) (by first | assumption | rfl | omega) (vp_in_nI (n := 0) (by decide) (by decide)) dX12_windOfOne_37 ?_
    refine g_if_ne C (pc := 38) 45 dX12_windOfOne_38 (by decide) (fun c38 => ?_) (fun c38 => ?_)
    · refine g_aload_n C (pc := 45) dX12_windOfOne_45 3 rfl ?_
      refine g_getR C (pc := 46) fl_RX12_44 (by decide) (by first | assumption | rfl | omega) (by first | assumption | rfl | omega) (by first | assumption | rfl | omega) dX12_windOfOne_46 ?_
      refine g_iconst C (pc := 49) 0 dX12_windOfOne_49 (by decide) ?_
      refine g_iald C (pc := 50) (by first | assumption | rfl | omega) (by first | assumption | rfl | omega) (vp_in_nI (n := 0) (by decide) (by decide)) dX12_windOfOne_50 ?_
      refine g_istore C (pc := 51) dX12_windOfOne_51 (by decide) (fun v51 => [(7, .int v51), (6, .int v30), (4, .long v26), (3, .int v24), (0, .ref 97), (1, .int x), (2, .int z)]) (fun _ => rfl) (fun v51 ev51 => ?_)
      have h51 : v51 = nI (cntM F b w) := by
        rw [ev51]
        have h9 : I8 109 0 = nI (mvs F b w).length := by rw [g8 109 (by decide)]; exact f3.1
        unfold cntM
        first
        | (rw [if_pos ((nI_eq (b := 0) (by omega) (by decide)).mp (h9.symm.trans c38))]; rfl)
        | (rw [if_neg (fun h8 => c38 (h9.trans (by rw [h8]; rfl)))]; exact h9)
      refine g_iconst C (pc := 53) 0 dX12_windOfOne_53 (by decide) ?_
      refine g_istore C (pc := 54) dX12_windOfOne_54 (by decide) (fun v54 => [(8, .int v54), (7, .int v51), (6, .int v30), (4, .long v26), (3, .int v24), (0, .ref 97), (1, .int x), (2, .int z)]) (fun _ => rfl) (fun v54 ev54 => ?_)
      have L56 : ∀ (k9 : Nat) (j : Nat) (wz8 : Int32) (wz4 : Int64) (wz6 : Int32) (J : Mem) (hw8 : wz8 = nI j) (hj : j ≤ cntM F b w) (h4 : wz4 = lN (((bstK (bM b == sd) (valF F sd 0 b w) j).map (fun q => q.1)).getD 0)) (h6 : wz6 = oI ((bstK (bM b == sd) (valF F sd 0 b w) j).map (fun q => q.2))) (hsv : SvB J F 0 b) (hfm : FMv J F b w 0) (hlw : Lw 1 I J), cntM F b w - j < k9 → G κ n ρ 56 [(8, .int wz8), (4, .long wz4), (6, .int wz6), (3, .int v24), (7, .int v51), (0, .ref 97), (1, .int x), (2, .int z)] [] J := by
        intro k9
        induction k9 with
        | zero => intro j wz8 wz4 wz6 J hw8 hj h4 h6 hsv hfm hlw hm56; exact absurd hm56 (Nat.not_lt_zero _)
        | succ k9 ih56 =>
          intro j wz8 wz4 wz6 J hw8 hj h4 h6 hsv hfm hlw hm56
          subst hw8
          have hcl := cntM_le (F := F) (b := b) (w := w) hn6
          have hml := mvs_len (F := F) (b := b) (w := w) hn6
          have hkJ := hlw.1
          refine g_iload C (pc := 56) dX12_windOfOne_56 0 rfl ?_
          refine g_iload C (pc := 58) dX12_windOfOne_58 4 rfl ?_
          refine g_icmp_ge C (pc := 60) 156 dX12_windOfOne_60 (by decide) (fun c60 => ?_) (fun c60 => ?_)
          · rw [h51, nI_leI (by omega) (by omega)] at c60
            refine g_aload_n C (pc := 156) dX12_windOfOne_156 5 rfl ?_
            refine g_iconst C (pc := 157) 0 dX12_windOfOne_157 (by decide) ?_
            refine g_callVV C (pc := 158) mf_X12_returns lk_RX12_257 (c_X12_returnsD n ρ J F b 0 _ hn9 hms (hqf.kp hkJ) hrw hsv (by decide) rfl) (by decide) (Nat.le_refl _) rfl (by first | assumption | rfl | omega) rfl (by first | assumption | rfl | omega) (Nat.le_of_ble_eq_true rfl) dX12_windOfOne_158 (fun I158 h158 => ?_)
            obtain ⟨f158, a158, g158⟩ := h158
            refine g_aload_n C (pc := 161) dX12_windOfOne_161 5 rfl ?_
            refine g_aload_n C (pc := 162) dX12_windOfOne_162 5 rfl ?_
            refine g_getR C (pc := 163) fl_RX12_44 (by decide) (by first | assumption | rfl | omega) (by first | assumption | rfl | omega) (by first | assumption | rfl | omega) dX12_windOfOne_163 ?_
            refine g_iconst C (pc := 166) 0 dX12_windOfOne_166 (by decide) ?_
            refine g_iald C (pc := 167) (by first | assumption | rfl | omega) (by first | assumption | rfl | omega) (vp_in_nI (n := 0) (by decide) (by decide)) dX12_windOfOne_167 ?_
            refine g_if_ne C (pc := 168) 176 dX12_windOfOne_168 (by decide) (fun c168 => ?_) (fun c168 => ?_)
            · refine g_iload C (pc := 176) dX12_windOfOne_176 2 rfl ?_
              refine g_putI C (pc := 178) fl_RX12_268 (by decide) fp_11_29 (Or.inl rfl) ⟨rfl, rfl⟩ (by first | assumption | rfl | omega) (by first | assumption | rfl | omega) hn9 dX12_windOfOne_178 ?_
              refine g_lload C (pc := 181) dX12_windOfOne_181 1 rfl ?_
              refine g_lret C hR (pc := 183) rfl dX12_windOfOne_183 ?_
              refine ⟨rfl, _, rfl, ?_⟩
              have hjc : j = cntM F b w := by omega
              subst hjc
              have hl5 : Lw 1 I I158 := hlw.trans ((Lw.qb a158 g158).up (by decide))
              refine ⟨h4, ?_, f158.cong (fun _ _ => by rw [wr_n (by decide)]) (fun _ _ => by rw [wr_n (by decide)]) (by rw [wr_sn (by decide)]) hn6, hl5.trans ((Lw.sc (by decide) (by decide)).up (Nat.zero_le _))⟩
              rw [wr_ss]
              have h9 : I158 109 0 = nI (mvs F b w).length := by rw [g158 109 (by decide) (by decide) (by decide)]; exact hfm.1
              unfold chW
              first
              | (rw [if_pos ((nI_eq (b := 0) (by omega) (by decide)).mp (h9.symm.trans c168))]; rfl)
              | (rw [if_neg (fun h8 => c168 (h9.trans (by rw [h8]; rfl)))]; exact h6)
            · refine g_bipush C (pc := 171) (-4) dX12_windOfOne_171 (by decide) ?_
              refine g_goto C (pc := 173) 178 dX12_windOfOne_173 (by decide) ?_
              refine g_putI C (pc := 178) fl_RX12_268 (by decide) fp_11_29 (Or.inl rfl) ⟨rfl, rfl⟩ (by first | assumption | rfl | omega) (by first | assumption | rfl | omega) hn9 dX12_windOfOne_178 ?_
              refine g_lload C (pc := 181) dX12_windOfOne_181 1 rfl ?_
              refine g_lret C hR (pc := 183) rfl dX12_windOfOne_183 ?_
              refine ⟨rfl, _, rfl, ?_⟩
              have hjc : j = cntM F b w := by omega
              subst hjc
              have hl5 : Lw 1 I I158 := hlw.trans ((Lw.qb a158 g158).up (by decide))
              refine ⟨h4, ?_, f158.cong (fun _ _ => by rw [wr_n (by decide)]) (fun _ _ => by rw [wr_n (by decide)]) (by rw [wr_sn (by decide)]) hn6, hl5.trans ((Lw.sc (by decide) (by decide)).up (Nat.zero_le _))⟩
              rw [wr_ss]
              have h9 : I158 109 0 = nI (mvs F b w).length := by rw [g158 109 (by decide) (by decide) (by decide)]; exact hfm.1
              unfold chW
              first
              | (rw [if_pos ((nI_eq (b := 0) (by omega) (by decide)).mp (h9.symm.trans c168))]; rfl)
              | (rw [if_neg (fun h8 => c168 (h9.trans (by rw [h8]; rfl)))]; exact h6)
          · rw [h51, nI_ltI (by omega) (by omega)] at c60
            refine g_aload_n C (pc := 63) dX12_windOfOne_63 5 rfl ?_
            refine g_iconst C (pc := 64) 0 dX12_windOfOne_64 (by decide) ?_
            refine g_callVV C (pc := 65) mf_X12_returns lk_RX12_257 (c_X12_returnsD n ρ J F b 0 _ hn9 hms (hqf.kp hkJ) hrw hsv (by decide) rfl) (by decide) (Nat.le_refl _) rfl (by first | assumption | rfl | omega) rfl (by first | assumption | rfl | omega) (Nat.le_of_ble_eq_true rfl) dX12_windOfOne_65 (fun I65 h65 => ?_)
            obtain ⟨f65, a65, g65⟩ := h65
            have hl2 : Lw 0 J I65 := Lw.qb a65 g65
            have hlw2 : Lw 1 I I65 := hlw.trans (hl2.up (by decide))
            have hsv2 : SvB I65 F 0 b := hsv.lw (hl2.up (by decide)) hn6
            have hfm2 : FMv I65 F b w 0 := hfm.lw (hl2.up (by decide)) hn6
            refine g_aload_n C (pc := 68) dX12_windOfOne_68 5 rfl ?_
            refine g_iload_n C (pc := 69) dX12_windOfOne_69 7 rfl ?_
            refine g_aload_n C (pc := 70) dX12_windOfOne_70 5 rfl ?_
            refine g_getR C (pc := 71) fl_RX12_44 (by decide) (by first | assumption | rfl | omega) (by first | assumption | rfl | omega) (by first | assumption | rfl | omega) dX12_windOfOne_71 ?_
            refine g_iconst C (pc := 74) 0 dX12_windOfOne_74 (by decide) ?_
            refine g_iald C (pc := 75) (by first | assumption | rfl | omega) (by first | assumption | rfl | omega) (vp_in_nI (n := 0) (by decide) (by decide)) dX12_windOfOne_75 ?_
            refine g_if_ne C (pc := 76) 84 dX12_windOfOne_76 (by decide) (fun c76 => ?_) (fun c76 => ?_)
            · have hjl : j < (mvs F b w).length := by
                have h9 : ¬ I65 109 0 = 0 := c76
                rw [hfm2.1] at h9
                have h8 : (mvs F b w).length ≠ 0 := fun h => h9 (by rw [h]; rfl)
                unfold cntM at c60
                rw [if_neg h8] at c60; exact c60
              have hmx9 : I65 108 (nI j).toNatClampNeg = oI ((mvs F b w)[j]?) := by
                have hk9 := List.getElem?_eq_getElem hjl
                have h9 := hfm2.2 j _ hk9
                rw [Nat.mul_zero, Nat.zero_add] at h9
                rw [hk9, nI_clamp (by omega)]; exact h9
              refine g_aload_n C (pc := 84) dX12_windOfOne_84 5 rfl ?_
              refine g_getR C (pc := 85) fl_RX12_41 (by decide) (by first | assumption | rfl | omega) (by first | assumption | rfl | omega) (by first | assumption | rfl | omega) dX12_windOfOne_85 ?_
              refine g_iload C (pc := 88) dX12_windOfOne_88 0 rfl ?_
              refine g_iald C (pc := 90) (by first | assumption | rfl | omega) (by first | assumption | rfl | omega) (vp_in_nI (n := j) (by omega) (by decide)) dX12_windOfOne_90 ?_
              refine g_callVI C (pc := 91) mf_X12_goes lk_RX12_251 (c_X12_goesE n ρ I65 F b w ((mvs F b w)[j]?) _ z hn9 hms (hqf.kp hlw2.1) hrw f65 hbw hw (mvs_K hrw) (hmx9) hz) (by decide) (Nat.le_refl _) rfl (by first | assumption | rfl | omega) rfl (by first | assumption | rfl | omega) (Nat.le_of_ble_eq_true rfl) dX12_windOfOne_91 (fun v91 I91 h91 => ?_)
              obtain ⟨e91, f91, a91, g91⟩ := h91
              have hl3 : Lw 0 I65 I91 := Lw.qb a91 g91
              replace hlw2 := hlw2
              have hbw2 : BW F (playB F b w ((mvs F b w)[j]?)) := (mvs_K hrw).bw hrw hbw
              have hl12 : L1 F (playB F b w ((mvs F b w)[j]?)) := L1_play hl1
              have hpw2 : PW F (playB F b w ((mvs F b w)[j]?)) := PW_play (mvs_K hrw) hrw hpw
              refine g_pop C (pc := 94) dX12_windOfOne_94 rfl ?_
              refine g_aload_n C (pc := 95) dX12_windOfOne_95 5 rfl ?_
              refine g_iload_n C (pc := 96) dX12_windOfOne_96 6 rfl ?_
              refine g_callVL C (pc := 97) mf_X12_wonNow lk_RX12_260 (c_X12_wonNow n ρ I91 F (playB F b w ((mvs F b w)[j]?)) sd x hn9 hms (hqf.kp (hlw2.trans (hl3.up (by decide))).1) hrw f91 hbw2 hl12 hsd hx) (by decide) (Nat.le_refl _) rfl (by first | assumption | rfl | omega) rfl (by first | assumption | rfl | omega) (Nat.le_of_ble_eq_true rfl) dX12_windOfOne_97 (fun v97 I97 h97 => ?_)
              obtain ⟨e97, rfl⟩ := h97
              have hlI : Lw 0 I65 I91 := hl3
              have hvf : v97 = lN ((valF F sd 0 b w) j) := e97
              refine g_lstore C (pc := 100) dX12_windOfOne_100 (by decide) (fun v100 => [(9, .long v100), (8, .int (nI j)), (4, .long wz4), (6, .int wz6), (3, .int v24), (7, .int v51), (0, .ref 97), (1, .int x), (2, .int z)]) (fun _ => rfl) (fun v100 ev100 => ?_)
              refine g_iload C (pc := 102) dX12_windOfOne_102 1 rfl ?_
              refine g_if_ne C (pc := 104) 111 dX12_windOfOne_104 (by decide) (fun c104 => ?_) (fun c104 => ?_)
              · refine g_iconst C (pc := 111) 0 dX12_windOfOne_111 (by decide) ?_
                refine g_iload_n C (pc := 112) dX12_windOfOne_112 4 rfl ?_
                refine g_lload C (pc := 113) dX12_windOfOne_113 0 rfl ?_
                refine g_lload C (pc := 115) dX12_windOfOne_115 2 rfl ?_
                refine g_callSI C (pc := 117) mf_X12_isBetter lk_RX12_264 (c_X12_isBetter n ρ _ _ _ _ _ hn9) (by decide) (Nat.le_refl _) rfl (Nat.le_of_ble_eq_true rfl) dX12_windOfOne_117 (fun v117 I117 h117 => ?_)
                obtain ⟨e117, rfl⟩ := h117
                refine g_istore C (pc := 120) dX12_windOfOne_120 (by decide) (fun v120 => [(11, .int v120), (9, .long v100), (8, .int (nI j)), (4, .long wz4), (6, .int wz6), (3, .int v24), (7, .int v51), (0, .ref 97), (1, .int x), (2, .int z)]) (fun _ => rfl) (fun v120 ev120 => ?_)
                have hup := bst_upd (wants := (bM b == sd)) (f := (valF F sd 0 b w)) (j := j) (z4 := wz4) (z6 := wz6) (fl := bI (j = 0)) (own := v24) (u := v120) (fun i _ => (by show val F sd 0 (playB F b w ((mvs F b w)[i]?)) < 2 ^ 31; have h9 := val_le (F := F) (sd := sd) 0 (playB F b w ((mvs F b w)[i]?)); have h8 := pw3 (a := allO F) (k := 0) hAO (by decide); omega)) h4 h6 rfl h24 (by
                  rw [ev120, e117, ev100, hvf]
                  first
                  | (rw [bI_t (c := j = 0) ((nI_eq (b := 0) (by omega) (by decide)).mp c104)]; done)
                  | (rw [bI_f (c := j = 0) (fun h => c104 (by rw [h]; rfl))]; done))
                refine g_iload C (pc := 122) dX12_windOfOne_122 0 rfl ?_
                refine g_if_eq C (pc := 124) 132 dX12_windOfOne_124 (by decide) (fun c124 => ?_) (fun c124 => ?_)
                · refine g_iload C (pc := 132) dX12_windOfOne_132 4 rfl ?_
                  refine g_istore C (pc := 134) dX12_windOfOne_134 (by decide) (fun v134 => [(6, .int v134), (11, .int v120), (9, .long v100), (8, .int (nI j)), (4, .long wz4), (3, .int v24), (7, .int v51), (0, .ref 97), (1, .int x), (2, .int z)]) (fun _ => rfl) (fun v134 ev134 => ?_)
                  refine g_iload C (pc := 136) dX12_windOfOne_136 1 rfl ?_
                  refine g_if_eq C (pc := 138) 146 dX12_windOfOne_138 (by decide) (fun c138 => ?_) (fun c138 => ?_)
                  · refine g_lload C (pc := 146) dX12_windOfOne_146 4 rfl ?_
                    refine g_lstore C (pc := 148) dX12_windOfOne_148 (by decide) (fun v148 => [(4, .long v148), (6, .int v134), (11, .int v120), (9, .long v100), (8, .int (nI j)), (3, .int v24), (7, .int v51), (0, .ref 97), (1, .int x), (2, .int z)]) (fun _ => rfl) (fun v148 ev148 => ?_)
                    refine g_iinc C (pc := 150) (1) dX12_windOfOne_150 4 rfl (by decide) (by decide) (fun v150 => [(8, .int v150), (4, .long v148), (6, .int v134), (11, .int v120), (9, .long v100), (3, .int v24), (7, .int v51), (0, .ref 97), (1, .int x), (2, .int z)]) (fun _ => rfl) (fun v150 ev150 => ?_)
                    refine g_goto C (pc := 153) 56 dX12_windOfOne_153 (by decide) ?_
                    refine g_lv C [0, 1, 2, 5, 6, 7, 8, 9] rfl (ih56 (j + 1) _ _ _ _ ?_ ?_ ?_ ?_ ?_ ?_ ?_ (by omega))
                    · subst ev150; exact nI_1 _
                    · omega
                    · rw [ev148]; first | exact (ev100.trans hvf).trans (hup.1 c124).1 | exact (hup.2 c124).1
                    · rw [ev134]; first | exact (hup.1 c124).2 | exact (hup.2 c124).2
                    · exact hsv2.lw hlI hn6
                    · exact hfm2.lw hlI hn6
                    · exact hlw2.trans (hlI.up (by decide))
                  · exact absurd c124 c138
                · refine g_iload C (pc := 127) dX12_windOfOne_127 2 rfl ?_
                  refine g_goto C (pc := 129) 134 dX12_windOfOne_129 (by decide) ?_
                  refine g_istore C (pc := 134) dX12_windOfOne_134 (by decide) (fun v134 => [(6, .int v134), (11, .int v120), (9, .long v100), (8, .int (nI j)), (4, .long wz4), (3, .int v24), (7, .int v51), (0, .ref 97), (1, .int x), (2, .int z)]) (fun _ => rfl) (fun v134 ev134 => ?_)
                  refine g_iload C (pc := 136) dX12_windOfOne_136 1 rfl ?_
                  refine g_if_eq C (pc := 138) 146 dX12_windOfOne_138 (by decide) (fun c138 => ?_) (fun c138 => ?_)
                  · exact absurd c138 c124
                  · refine g_lload C (pc := 141) dX12_windOfOne_141 2 rfl ?_
                    refine g_goto C (pc := 143) 148 dX12_windOfOne_143 (by decide) ?_
                    refine g_lstore C (pc := 148) dX12_windOfOne_148 (by decide) (fun v148 => [(4, .long v148), (6, .int v134), (11, .int v120), (9, .long v100), (8, .int (nI j)), (3, .int v24), (7, .int v51), (0, .ref 97), (1, .int x), (2, .int z)]) (fun _ => rfl) (fun v148 ev148 => ?_)
                    refine g_iinc C (pc := 150) (1) dX12_windOfOne_150 4 rfl (by decide) (by decide) (fun v150 => [(8, .int v150), (4, .long v148), (6, .int v134), (11, .int v120), (9, .long v100), (3, .int v24), (7, .int v51), (0, .ref 97), (1, .int x), (2, .int z)]) (fun _ => rfl) (fun v150 ev150 => ?_)
                    refine g_goto C (pc := 153) 56 dX12_windOfOne_153 (by decide) ?_
                    refine g_lv C [0, 1, 2, 5, 6, 7, 8, 9] rfl (ih56 (j + 1) _ _ _ _ ?_ ?_ ?_ ?_ ?_ ?_ ?_ (by omega))
                    · subst ev150; exact nI_1 _
                    · omega
                    · rw [ev148]; first | exact (ev100.trans hvf).trans (hup.1 c124).1 | exact (hup.2 c124).1
                    · rw [ev134]; first | exact (hup.1 c124).2 | exact (hup.2 c124).2
                    · exact hsv2.lw hlI hn6
                    · exact hfm2.lw hlI hn6
                    · exact hlw2.trans (hlI.up (by decide))
              · refine g_iconst C (pc := 107) 1 dX12_windOfOne_107 (by decide) ?_
                refine g_goto C (pc := 108) 112 dX12_windOfOne_108 (by decide) ?_
                refine g_iload_n C (pc := 112) dX12_windOfOne_112 4 rfl ?_
                refine g_lload C (pc := 113) dX12_windOfOne_113 0 rfl ?_
                refine g_lload C (pc := 115) dX12_windOfOne_115 2 rfl ?_
                refine g_callSI C (pc := 117) mf_X12_isBetter lk_RX12_264 (c_X12_isBetter n ρ _ _ _ _ _ hn9) (by decide) (Nat.le_refl _) rfl (Nat.le_of_ble_eq_true rfl) dX12_windOfOne_117 (fun v117 I117 h117 => ?_)
                obtain ⟨e117, rfl⟩ := h117
                refine g_istore C (pc := 120) dX12_windOfOne_120 (by decide) (fun v120 => [(11, .int v120), (9, .long v100), (8, .int (nI j)), (4, .long wz4), (6, .int wz6), (3, .int v24), (7, .int v51), (0, .ref 97), (1, .int x), (2, .int z)]) (fun _ => rfl) (fun v120 ev120 => ?_)
                have hup := bst_upd (wants := (bM b == sd)) (f := (valF F sd 0 b w)) (j := j) (z4 := wz4) (z6 := wz6) (fl := bI (j = 0)) (own := v24) (u := v120) (fun i _ => (by show val F sd 0 (playB F b w ((mvs F b w)[i]?)) < 2 ^ 31; have h9 := val_le (F := F) (sd := sd) 0 (playB F b w ((mvs F b w)[i]?)); have h8 := pw3 (a := allO F) (k := 0) hAO (by decide); omega)) h4 h6 rfl h24 (by
                  rw [ev120, e117, ev100, hvf]
                  first
                  | (rw [bI_t (c := j = 0) ((nI_eq (b := 0) (by omega) (by decide)).mp c104)]; done)
                  | (rw [bI_f (c := j = 0) (fun h => c104 (by rw [h]; rfl))]; done))
                refine g_iload C (pc := 122) dX12_windOfOne_122 0 rfl ?_
                refine g_if_eq C (pc := 124) 132 dX12_windOfOne_124 (by decide) (fun c124 => ?_) (fun c124 => ?_)
                · refine g_iload C (pc := 132) dX12_windOfOne_132 4 rfl ?_
                  refine g_istore C (pc := 134) dX12_windOfOne_134 (by decide) (fun v134 => [(6, .int v134), (11, .int v120), (9, .long v100), (8, .int (nI j)), (4, .long wz4), (3, .int v24), (7, .int v51), (0, .ref 97), (1, .int x), (2, .int z)]) (fun _ => rfl) (fun v134 ev134 => ?_)
                  refine g_iload C (pc := 136) dX12_windOfOne_136 1 rfl ?_
                  refine g_if_eq C (pc := 138) 146 dX12_windOfOne_138 (by decide) (fun c138 => ?_) (fun c138 => ?_)
                  · refine g_lload C (pc := 146) dX12_windOfOne_146 4 rfl ?_
                    refine g_lstore C (pc := 148) dX12_windOfOne_148 (by decide) (fun v148 => [(4, .long v148), (6, .int v134), (11, .int v120), (9, .long v100), (8, .int (nI j)), (3, .int v24), (7, .int v51), (0, .ref 97), (1, .int x), (2, .int z)]) (fun _ => rfl) (fun v148 ev148 => ?_)
                    refine g_iinc C (pc := 150) (1) dX12_windOfOne_150 4 rfl (by decide) (by decide) (fun v150 => [(8, .int v150), (4, .long v148), (6, .int v134), (11, .int v120), (9, .long v100), (3, .int v24), (7, .int v51), (0, .ref 97), (1, .int x), (2, .int z)]) (fun _ => rfl) (fun v150 ev150 => ?_)
                    refine g_goto C (pc := 153) 56 dX12_windOfOne_153 (by decide) ?_
                    refine g_lv C [0, 1, 2, 5, 6, 7, 8, 9] rfl (ih56 (j + 1) _ _ _ _ ?_ ?_ ?_ ?_ ?_ ?_ ?_ (by omega))
                    · subst ev150; exact nI_1 _
                    · omega
                    · rw [ev148]; first | exact (ev100.trans hvf).trans (hup.1 c124).1 | exact (hup.2 c124).1
                    · rw [ev134]; first | exact (hup.1 c124).2 | exact (hup.2 c124).2
                    · exact hsv2.lw hlI hn6
                    · exact hfm2.lw hlI hn6
                    · exact hlw2.trans (hlI.up (by decide))
                  · exact absurd c124 c138
                · refine g_iload C (pc := 127) dX12_windOfOne_127 2 rfl ?_
                  refine g_goto C (pc := 129) 134 dX12_windOfOne_129 (by decide) ?_
                  refine g_istore C (pc := 134) dX12_windOfOne_134 (by decide) (fun v134 => [(6, .int v134), (11, .int v120), (9, .long v100), (8, .int (nI j)), (4, .long wz4), (3, .int v24), (7, .int v51), (0, .ref 97), (1, .int x), (2, .int z)]) (fun _ => rfl) (fun v134 ev134 => ?_)
                  refine g_iload C (pc := 136) dX12_windOfOne_136 1 rfl ?_
                  refine g_if_eq C (pc := 138) 146 dX12_windOfOne_138 (by decide) (fun c138 => ?_) (fun c138 => ?_)
                  · exact absurd c138 c124
                  · refine g_lload C (pc := 141) dX12_windOfOne_141 2 rfl ?_
                    refine g_goto C (pc := 143) 148 dX12_windOfOne_143 (by decide) ?_
                    refine g_lstore C (pc := 148) dX12_windOfOne_148 (by decide) (fun v148 => [(4, .long v148), (6, .int v134), (11, .int v120), (9, .long v100), (8, .int (nI j)), (3, .int v24), (7, .int v51), (0, .ref 97), (1, .int x), (2, .int z)]) (fun _ => rfl) (fun v148 ev148 => ?_)
                    refine g_iinc C (pc := 150) (1) dX12_windOfOne_150 4 rfl (by decide) (by decide) (fun v150 => [(8, .int v150), (4, .long v148), (6, .int v134), (11, .int v120), (9, .long v100), (3, .int v24), (7, .int v51), (0, .ref 97), (1, .int x), (2, .int z)]) (fun _ => rfl) (fun v150 ev150 => ?_)
                    refine g_goto C (pc := 153) 56 dX12_windOfOne_153 (by decide) ?_
                    refine g_lv C [0, 1, 2, 5, 6, 7, 8, 9] rfl (ih56 (j + 1) _ _ _ _ ?_ ?_ ?_ ?_ ?_ ?_ ?_ (by omega))
                    · subst ev150; exact nI_1 _
                    · omega
                    · rw [ev148]; first | exact (ev100.trans hvf).trans (hup.1 c124).1 | exact (hup.2 c124).1
                    · rw [ev134]; first | exact (hup.1 c124).2 | exact (hup.2 c124).2
                    · exact hsv2.lw hlI hn6
                    · exact hfm2.lw hlI hn6
                    · exact hlw2.trans (hlI.up (by decide))
            · have hjl : (mvs F b w).length = 0 := by
                have h9 : I65 109 0 = 0 := c76
                rw [hfm2.1] at h9
                exact (nI_eq (b := 0) (by omega) (by decide)).mp h9
              have hmx9 : (-4 : Int32) = oI ((mvs F b w)[j]?) := by rw [List.getElem?_eq_none (by omega)]; rfl
              refine g_bipush C (pc := 79) (-4) dX12_windOfOne_79 (by decide) ?_
              refine g_goto C (pc := 81) 91 dX12_windOfOne_81 (by decide) ?_
              refine g_callVI C (pc := 91) mf_X12_goes lk_RX12_251 (c_X12_goesE n ρ I65 F b w ((mvs F b w)[j]?) _ z hn9 hms (hqf.kp hlw2.1) hrw f65 hbw hw (mvs_K hrw) (hmx9) hz) (by decide) (Nat.le_refl _) rfl (by first | assumption | rfl | omega) rfl (by first | assumption | rfl | omega) (Nat.le_of_ble_eq_true rfl) dX12_windOfOne_91 (fun v91 I91 h91 => ?_)
              obtain ⟨e91, f91, a91, g91⟩ := h91
              have hl3 : Lw 0 I65 I91 := Lw.qb a91 g91
              replace hlw2 := hlw2
              have hbw2 : BW F (playB F b w ((mvs F b w)[j]?)) := (mvs_K hrw).bw hrw hbw
              have hl12 : L1 F (playB F b w ((mvs F b w)[j]?)) := L1_play hl1
              have hpw2 : PW F (playB F b w ((mvs F b w)[j]?)) := PW_play (mvs_K hrw) hrw hpw
              refine g_pop C (pc := 94) dX12_windOfOne_94 rfl ?_
              refine g_aload_n C (pc := 95) dX12_windOfOne_95 5 rfl ?_
              refine g_iload_n C (pc := 96) dX12_windOfOne_96 6 rfl ?_
              refine g_callVL C (pc := 97) mf_X12_wonNow lk_RX12_260 (c_X12_wonNow n ρ I91 F (playB F b w ((mvs F b w)[j]?)) sd x hn9 hms (hqf.kp (hlw2.trans (hl3.up (by decide))).1) hrw f91 hbw2 hl12 hsd hx) (by decide) (Nat.le_refl _) rfl (by first | assumption | rfl | omega) rfl (by first | assumption | rfl | omega) (Nat.le_of_ble_eq_true rfl) dX12_windOfOne_97 (fun v97 I97 h97 => ?_)
              obtain ⟨e97, rfl⟩ := h97
              have hlI : Lw 0 I65 I91 := hl3
              have hvf : v97 = lN ((valF F sd 0 b w) j) := e97
              refine g_lstore C (pc := 100) dX12_windOfOne_100 (by decide) (fun v100 => [(9, .long v100), (8, .int (nI j)), (4, .long wz4), (6, .int wz6), (3, .int v24), (7, .int v51), (0, .ref 97), (1, .int x), (2, .int z)]) (fun _ => rfl) (fun v100 ev100 => ?_)
              refine g_iload C (pc := 102) dX12_windOfOne_102 1 rfl ?_
              refine g_if_ne C (pc := 104) 111 dX12_windOfOne_104 (by decide) (fun c104 => ?_) (fun c104 => ?_)
              · refine g_iconst C (pc := 111) 0 dX12_windOfOne_111 (by decide) ?_
                refine g_iload_n C (pc := 112) dX12_windOfOne_112 4 rfl ?_
                refine g_lload C (pc := 113) dX12_windOfOne_113 0 rfl ?_
                refine g_lload C (pc := 115) dX12_windOfOne_115 2 rfl ?_
                refine g_callSI C (pc := 117) mf_X12_isBetter lk_RX12_264 (c_X12_isBetter n ρ _ _ _ _ _ hn9) (by decide) (Nat.le_refl _) rfl (Nat.le_of_ble_eq_true rfl) dX12_windOfOne_117 (fun v117 I117 h117 => ?_)
                obtain ⟨e117, rfl⟩ := h117
                refine g_istore C (pc := 120) dX12_windOfOne_120 (by decide) (fun v120 => [(11, .int v120), (9, .long v100), (8, .int (nI j)), (4, .long wz4), (6, .int wz6), (3, .int v24), (7, .int v51), (0, .ref 97), (1, .int x), (2, .int z)]) (fun _ => rfl) (fun v120 ev120 => ?_)
                have hup := bst_upd (wants := (bM b == sd)) (f := (valF F sd 0 b w)) (j := j) (z4 := wz4) (z6 := wz6) (fl := bI (j = 0)) (own := v24) (u := v120) (fun i _ => (by show val F sd 0 (playB F b w ((mvs F b w)[i]?)) < 2 ^ 31; have h9 := val_le (F := F) (sd := sd) 0 (playB F b w ((mvs F b w)[i]?)); have h8 := pw3 (a := allO F) (k := 0) hAO (by decide); omega)) h4 h6 rfl h24 (by
                  rw [ev120, e117, ev100, hvf]
                  first
                  | (rw [bI_t (c := j = 0) ((nI_eq (b := 0) (by omega) (by decide)).mp c104)]; done)
                  | (rw [bI_f (c := j = 0) (fun h => c104 (by rw [h]; rfl))]; done))
                refine g_iload C (pc := 122) dX12_windOfOne_122 0 rfl ?_
                refine g_if_eq C (pc := 124) 132 dX12_windOfOne_124 (by decide) (fun c124 => ?_) (fun c124 => ?_)
                · refine g_iload C (pc := 132) dX12_windOfOne_132 4 rfl ?_
                  refine g_istore C (pc := 134) dX12_windOfOne_134 (by decide) (fun v134 => [(6, .int v134), (11, .int v120), (9, .long v100), (8, .int (nI j)), (4, .long wz4), (3, .int v24), (7, .int v51), (0, .ref 97), (1, .int x), (2, .int z)]) (fun _ => rfl) (fun v134 ev134 => ?_)
                  refine g_iload C (pc := 136) dX12_windOfOne_136 1 rfl ?_
                  refine g_if_eq C (pc := 138) 146 dX12_windOfOne_138 (by decide) (fun c138 => ?_) (fun c138 => ?_)
                  · refine g_lload C (pc := 146) dX12_windOfOne_146 4 rfl ?_
                    refine g_lstore C (pc := 148) dX12_windOfOne_148 (by decide) (fun v148 => [(4, .long v148), (6, .int v134), (11, .int v120), (9, .long v100), (8, .int (nI j)), (3, .int v24), (7, .int v51), (0, .ref 97), (1, .int x), (2, .int z)]) (fun _ => rfl) (fun v148 ev148 => ?_)
                    refine g_iinc C (pc := 150) (1) dX12_windOfOne_150 4 rfl (by decide) (by decide) (fun v150 => [(8, .int v150), (4, .long v148), (6, .int v134), (11, .int v120), (9, .long v100), (3, .int v24), (7, .int v51), (0, .ref 97), (1, .int x), (2, .int z)]) (fun _ => rfl) (fun v150 ev150 => ?_)
                    refine g_goto C (pc := 153) 56 dX12_windOfOne_153 (by decide) ?_
                    refine g_lv C [0, 1, 2, 5, 6, 7, 8, 9] rfl (ih56 (j + 1) _ _ _ _ ?_ ?_ ?_ ?_ ?_ ?_ ?_ (by omega))
                    · subst ev150; exact nI_1 _
                    · omega
                    · rw [ev148]; first | exact (ev100.trans hvf).trans (hup.1 c124).1 | exact (hup.2 c124).1
                    · rw [ev134]; first | exact (hup.1 c124).2 | exact (hup.2 c124).2
                    · exact hsv2.lw hlI hn6
                    · exact hfm2.lw hlI hn6
                    · exact hlw2.trans (hlI.up (by decide))
                  · exact absurd c124 c138
                · refine g_iload C (pc := 127) dX12_windOfOne_127 2 rfl ?_
                  refine g_goto C (pc := 129) 134 dX12_windOfOne_129 (by decide) ?_
                  refine g_istore C (pc := 134) dX12_windOfOne_134 (by decide) (fun v134 => [(6, .int v134), (11, .int v120), (9, .long v100), (8, .int (nI j)), (4, .long wz4), (3, .int v24), (7, .int v51), (0, .ref 97), (1, .int x), (2, .int z)]) (fun _ => rfl) (fun v134 ev134 => ?_)
                  refine g_iload C (pc := 136) dX12_windOfOne_136 1 rfl ?_
                  refine g_if_eq C (pc := 138) 146 dX12_windOfOne_138 (by decide) (fun c138 => ?_) (fun c138 => ?_)
                  · exact absurd c138 c124
                  · refine g_lload C (pc := 141) dX12_windOfOne_141 2 rfl ?_
                    refine g_goto C (pc := 143) 148 dX12_windOfOne_143 (by decide) ?_
                    refine g_lstore C (pc := 148) dX12_windOfOne_148 (by decide) (fun v148 => [(4, .long v148), (6, .int v134), (11, .int v120), (9, .long v100), (8, .int (nI j)), (3, .int v24), (7, .int v51), (0, .ref 97), (1, .int x), (2, .int z)]) (fun _ => rfl) (fun v148 ev148 => ?_)
                    refine g_iinc C (pc := 150) (1) dX12_windOfOne_150 4 rfl (by decide) (by decide) (fun v150 => [(8, .int v150), (4, .long v148), (6, .int v134), (11, .int v120), (9, .long v100), (3, .int v24), (7, .int v51), (0, .ref 97), (1, .int x), (2, .int z)]) (fun _ => rfl) (fun v150 ev150 => ?_)
                    refine g_goto C (pc := 153) 56 dX12_windOfOne_153 (by decide) ?_
                    refine g_lv C [0, 1, 2, 5, 6, 7, 8, 9] rfl (ih56 (j + 1) _ _ _ _ ?_ ?_ ?_ ?_ ?_ ?_ ?_ (by omega))
                    · subst ev150; exact nI_1 _
                    · omega
                    · rw [ev148]; first | exact (ev100.trans hvf).trans (hup.1 c124).1 | exact (hup.2 c124).1
                    · rw [ev134]; first | exact (hup.1 c124).2 | exact (hup.2 c124).2
                    · exact hsv2.lw hlI hn6
                    · exact hfm2.lw hlI hn6
                    · exact hlw2.trans (hlI.up (by decide))
              · refine g_iconst C (pc := 107) 1 dX12_windOfOne_107 (by decide) ?_
                refine g_goto C (pc := 108) 112 dX12_windOfOne_108 (by decide) ?_
                refine g_iload_n C (pc := 112) dX12_windOfOne_112 4 rfl ?_
                refine g_lload C (pc := 113) dX12_windOfOne_113 0 rfl ?_
                refine g_lload C (pc := 115) dX12_windOfOne_115 2 rfl ?_
                refine g_callSI C (pc := 117) mf_X12_isBetter lk_RX12_264 (c_X12_isBetter n ρ _ _ _ _ _ hn9) (by decide) (Nat.le_refl _) rfl (Nat.le_of_ble_eq_true rfl) dX12_windOfOne_117 (fun v117 I117 h117 => ?_)
                obtain ⟨e117, rfl⟩ := h117
                refine g_istore C (pc := 120) dX12_windOfOne_120 (by decide) (fun v120 => [(11, .int v120), (9, .long v100), (8, .int (nI j)), (4, .long wz4), (6, .int wz6), (3, .int v24), (7, .int v51), (0, .ref 97), (1, .int x), (2, .int z)]) (fun _ => rfl) (fun v120 ev120 => ?_)
                have hup := bst_upd (wants := (bM b == sd)) (f := (valF F sd 0 b w)) (j := j) (z4 := wz4) (z6 := wz6) (fl := bI (j = 0)) (own := v24) (u := v120) (fun i _ => (by show val F sd 0 (playB F b w ((mvs F b w)[i]?)) < 2 ^ 31; have h9 := val_le (F := F) (sd := sd) 0 (playB F b w ((mvs F b w)[i]?)); have h8 := pw3 (a := allO F) (k := 0) hAO (by decide); omega)) h4 h6 rfl h24 (by
                  rw [ev120, e117, ev100, hvf]
                  first
                  | (rw [bI_t (c := j = 0) ((nI_eq (b := 0) (by omega) (by decide)).mp c104)]; done)
                  | (rw [bI_f (c := j = 0) (fun h => c104 (by rw [h]; rfl))]; done))
                refine g_iload C (pc := 122) dX12_windOfOne_122 0 rfl ?_
                refine g_if_eq C (pc := 124) 132 dX12_windOfOne_124 (by decide) (fun c124 => ?_) (fun c124 => ?_)
                · refine g_iload C (pc := 132) dX12_windOfOne_132 4 rfl ?_
                  refine g_istore C (pc := 134) dX12_windOfOne_134 (by decide) (fun v134 => [(6, .int v134), (11, .int v120), (9, .long v100), (8, .int (nI j)), (4, .long wz4), (3, .int v24), (7, .int v51), (0, .ref 97), (1, .int x), (2, .int z)]) (fun _ => rfl) (fun v134 ev134 => ?_)
                  refine g_iload C (pc := 136) dX12_windOfOne_136 1 rfl ?_
                  refine g_if_eq C (pc := 138) 146 dX12_windOfOne_138 (by decide) (fun c138 => ?_) (fun c138 => ?_)
                  · refine g_lload C (pc := 146) dX12_windOfOne_146 4 rfl ?_
                    refine g_lstore C (pc := 148) dX12_windOfOne_148 (by decide) (fun v148 => [(4, .long v148), (6, .int v134), (11, .int v120), (9, .long v100), (8, .int (nI j)), (3, .int v24), (7, .int v51), (0, .ref 97), (1, .int x), (2, .int z)]) (fun _ => rfl) (fun v148 ev148 => ?_)
                    refine g_iinc C (pc := 150) (1) dX12_windOfOne_150 4 rfl (by decide) (by decide) (fun v150 => [(8, .int v150), (4, .long v148), (6, .int v134), (11, .int v120), (9, .long v100), (3, .int v24), (7, .int v51), (0, .ref 97), (1, .int x), (2, .int z)]) (fun _ => rfl) (fun v150 ev150 => ?_)
                    refine g_goto C (pc := 153) 56 dX12_windOfOne_153 (by decide) ?_
                    refine g_lv C [0, 1, 2, 5, 6, 7, 8, 9] rfl (ih56 (j + 1) _ _ _ _ ?_ ?_ ?_ ?_ ?_ ?_ ?_ (by omega))
                    · subst ev150; exact nI_1 _
                    · omega
                    · rw [ev148]; first | exact (ev100.trans hvf).trans (hup.1 c124).1 | exact (hup.2 c124).1
                    · rw [ev134]; first | exact (hup.1 c124).2 | exact (hup.2 c124).2
                    · exact hsv2.lw hlI hn6
                    · exact hfm2.lw hlI hn6
                    · exact hlw2.trans (hlI.up (by decide))
                  · exact absurd c124 c138
                · refine g_iload C (pc := 127) dX12_windOfOne_127 2 rfl ?_
                  refine g_goto C (pc := 129) 134 dX12_windOfOne_129 (by decide) ?_
                  refine g_istore C (pc := 134) dX12_windOfOne_134 (by decide) (fun v134 => [(6, .int v134), (11, .int v120), (9, .long v100), (8, .int (nI j)), (4, .long wz4), (3, .int v24), (7, .int v51), (0, .ref 97), (1, .int x), (2, .int z)]) (fun _ => rfl) (fun v134 ev134 => ?_)
                  refine g_iload C (pc := 136) dX12_windOfOne_136 1 rfl ?_
                  refine g_if_eq C (pc := 138) 146 dX12_windOfOne_138 (by decide) (fun c138 => ?_) (fun c138 => ?_)
                  · exact absurd c138 c124
                  · refine g_lload C (pc := 141) dX12_windOfOne_141 2 rfl ?_
                    refine g_goto C (pc := 143) 148 dX12_windOfOne_143 (by decide) ?_
                    refine g_lstore C (pc := 148) dX12_windOfOne_148 (by decide) (fun v148 => [(4, .long v148), (6, .int v134), (11, .int v120), (9, .long v100), (8, .int (nI j)), (3, .int v24), (7, .int v51), (0, .ref 97), (1, .int x), (2, .int z)]) (fun _ => rfl) (fun v148 ev148 => ?_)
                    refine g_iinc C (pc := 150) (1) dX12_windOfOne_150 4 rfl (by decide) (by decide) (fun v150 => [(8, .int v150), (4, .long v148), (6, .int v134), (11, .int v120), (9, .long v100), (3, .int v24), (7, .int v51), (0, .ref 97), (1, .int x), (2, .int z)]) (fun _ => rfl) (fun v150 ev150 => ?_)
                    refine g_goto C (pc := 153) 56 dX12_windOfOne_153 (by decide) ?_
                    refine g_lv C [0, 1, 2, 5, 6, 7, 8, 9] rfl (ih56 (j + 1) _ _ _ _ ?_ ?_ ?_ ?_ ?_ ?_ ?_ (by omega))
                    · subst ev150; exact nI_1 _
                    · omega
                    · rw [ev148]; first | exact (ev100.trans hvf).trans (hup.1 c124).1 | exact (hup.2 c124).1
                    · rw [ev134]; first | exact (hup.1 c124).2 | exact (hup.2 c124).2
                    · exact hsv2.lw hlI hn6
                    · exact hfm2.lw hlI hn6
                    · exact hlw2.trans (hlI.up (by decide))
      refine g_lv C [0, 3, 2, 4, 1, 5, 6, 7] rfl (L56 (_ + 1) 0 _ _ _ _ ?_ ?_ ?_ ?_ ?_ ?_ ?_ (by first | omega | exact Nat.lt_succ_self _))
      · subst ev54; rfl
      · omega
      · subst ev26; rfl
      · subst ev30; rfl
      · exact f8
      · exact f3.cong (by rw [g8 109 (by decide)]) (fun z _ _ => by rw [g8 108 (by decide)]) hn6
      · exact (Lw.fm a3 b3 g3).trans (Lw.sv a8 g8)
    · refine g_iconst C (pc := 41) 1 dX12_windOfOne_41 (by decide) ?_
      refine g_goto C (pc := 42) 51 dX12_windOfOne_42 (by decide) ?_
      refine g_istore C (pc := 51) dX12_windOfOne_51 (by decide) (fun v51 => [(7, .int v51), (6, .int v30), (4, .long v26), (3, .int v24), (0, .ref 97), (1, .int x), (2, .int z)]) (fun _ => rfl) (fun v51 ev51 => ?_)
      have h51 : v51 = nI (cntM F b w) := by
        rw [ev51]
        have h9 : I8 109 0 = nI (mvs F b w).length := by rw [g8 109 (by decide)]; exact f3.1
        unfold cntM
        first
        | (rw [if_pos ((nI_eq (b := 0) (by omega) (by decide)).mp (h9.symm.trans c38))]; rfl)
        | (rw [if_neg (fun h8 => c38 (h9.trans (by rw [h8]; rfl)))]; exact h9)
      refine g_iconst C (pc := 53) 0 dX12_windOfOne_53 (by decide) ?_
      refine g_istore C (pc := 54) dX12_windOfOne_54 (by decide) (fun v54 => [(8, .int v54), (7, .int v51), (6, .int v30), (4, .long v26), (3, .int v24), (0, .ref 97), (1, .int x), (2, .int z)]) (fun _ => rfl) (fun v54 ev54 => ?_)
      have L56 : ∀ (k9 : Nat) (j : Nat) (wz8 : Int32) (wz4 : Int64) (wz6 : Int32) (J : Mem) (hw8 : wz8 = nI j) (hj : j ≤ cntM F b w) (h4 : wz4 = lN (((bstK (bM b == sd) (valF F sd 0 b w) j).map (fun q => q.1)).getD 0)) (h6 : wz6 = oI ((bstK (bM b == sd) (valF F sd 0 b w) j).map (fun q => q.2))) (hsv : SvB J F 0 b) (hfm : FMv J F b w 0) (hlw : Lw 1 I J), cntM F b w - j < k9 → G κ n ρ 56 [(8, .int wz8), (4, .long wz4), (6, .int wz6), (3, .int v24), (7, .int v51), (0, .ref 97), (1, .int x), (2, .int z)] [] J := by
        intro k9
        induction k9 with
        | zero => intro j wz8 wz4 wz6 J hw8 hj h4 h6 hsv hfm hlw hm56; exact absurd hm56 (Nat.not_lt_zero _)
        | succ k9 ih56 =>
          intro j wz8 wz4 wz6 J hw8 hj h4 h6 hsv hfm hlw hm56
          subst hw8
          have hcl := cntM_le (F := F) (b := b) (w := w) hn6
          have hml := mvs_len (F := F) (b := b) (w := w) hn6
          have hkJ := hlw.1
          refine g_iload C (pc := 56) dX12_windOfOne_56 0 rfl ?_
          refine g_iload C (pc := 58) dX12_windOfOne_58 4 rfl ?_
          refine g_icmp_ge C (pc := 60) 156 dX12_windOfOne_60 (by decide) (fun c60 => ?_) (fun c60 => ?_)
          · rw [h51, nI_leI (by omega) (by omega)] at c60
            refine g_aload_n C (pc := 156) dX12_windOfOne_156 5 rfl ?_
            refine g_iconst C (pc := 157) 0 dX12_windOfOne_157 (by decide) ?_
            refine g_callVV C (pc := 158) mf_X12_returns lk_RX12_257 (c_X12_returnsD n ρ J F b 0 _ hn9 hms (hqf.kp hkJ) hrw hsv (by decide) rfl) (by decide) (Nat.le_refl _) rfl (by first | assumption | rfl | omega) rfl (by first | assumption | rfl | omega) (Nat.le_of_ble_eq_true rfl) dX12_windOfOne_158 (fun I158 h158 => ?_)
            obtain ⟨f158, a158, g158⟩ := h158
            refine g_aload_n C (pc := 161) dX12_windOfOne_161 5 rfl ?_
            refine g_aload_n C (pc := 162) dX12_windOfOne_162 5 rfl ?_
            refine g_getR C (pc := 163) fl_RX12_44 (by decide) (by first | assumption | rfl | omega) (by first | assumption | rfl | omega) (by first | assumption | rfl | omega) dX12_windOfOne_163 ?_
            refine g_iconst C (pc := 166) 0 dX12_windOfOne_166 (by decide) ?_
            refine g_iald C (pc := 167) (by first | assumption | rfl | omega) (by first | assumption | rfl | omega) (vp_in_nI (n := 0) (by decide) (by decide)) dX12_windOfOne_167 ?_
            refine g_if_ne C (pc := 168) 176 dX12_windOfOne_168 (by decide) (fun c168 => ?_) (fun c168 => ?_)
            · refine g_iload C (pc := 176) dX12_windOfOne_176 2 rfl ?_
              refine g_putI C (pc := 178) fl_RX12_268 (by decide) fp_11_29 (Or.inl rfl) ⟨rfl, rfl⟩ (by first | assumption | rfl | omega) (by first | assumption | rfl | omega) hn9 dX12_windOfOne_178 ?_
              refine g_lload C (pc := 181) dX12_windOfOne_181 1 rfl ?_
              refine g_lret C hR (pc := 183) rfl dX12_windOfOne_183 ?_
              refine ⟨rfl, _, rfl, ?_⟩
              have hjc : j = cntM F b w := by omega
              subst hjc
              have hl5 : Lw 1 I I158 := hlw.trans ((Lw.qb a158 g158).up (by decide))
              refine ⟨h4, ?_, f158.cong (fun _ _ => by rw [wr_n (by decide)]) (fun _ _ => by rw [wr_n (by decide)]) (by rw [wr_sn (by decide)]) hn6, hl5.trans ((Lw.sc (by decide) (by decide)).up (Nat.zero_le _))⟩
              rw [wr_ss]
              have h9 : I158 109 0 = nI (mvs F b w).length := by rw [g158 109 (by decide) (by decide) (by decide)]; exact hfm.1
              unfold chW
              first
              | (rw [if_pos ((nI_eq (b := 0) (by omega) (by decide)).mp (h9.symm.trans c168))]; rfl)
              | (rw [if_neg (fun h8 => c168 (h9.trans (by rw [h8]; rfl)))]; exact h6)
            · refine g_bipush C (pc := 171) (-4) dX12_windOfOne_171 (by decide) ?_
              refine g_goto C (pc := 173) 178 dX12_windOfOne_173 (by decide) ?_
              refine g_putI C (pc := 178) fl_RX12_268 (by decide) fp_11_29 (Or.inl rfl) ⟨rfl, rfl⟩ (by first | assumption | rfl | omega) (by first | assumption | rfl | omega) hn9 dX12_windOfOne_178 ?_
              refine g_lload C (pc := 181) dX12_windOfOne_181 1 rfl ?_
              refine g_lret C hR (pc := 183) rfl dX12_windOfOne_183 ?_
              refine ⟨rfl, _, rfl, ?_⟩
              have hjc : j = cntM F b w := by omega
              subst hjc
              have hl5 : Lw 1 I I158 := hlw.trans ((Lw.qb a158 g158).up (by decide))
              refine ⟨h4, ?_, f158.cong (fun _ _ => by rw [wr_n (by decide)]) (fun _ _ => by rw [wr_n (by decide)]) (by rw [wr_sn (by decide)]) hn6, hl5.trans ((Lw.sc (by decide) (by decide)).up (Nat.zero_le _))⟩
              rw [wr_ss]
              have h9 : I158 109 0 = nI (mvs F b w).length := by rw [g158 109 (by decide) (by decide) (by decide)]; exact hfm.1
              unfold chW
              first
              | (rw [if_pos ((nI_eq (b := 0) (by omega) (by decide)).mp (h9.symm.trans c168))]; rfl)
              | (rw [if_neg (fun h8 => c168 (h9.trans (by rw [h8]; rfl)))]; exact h6)
          · rw [h51, nI_ltI (by omega) (by omega)] at c60
            refine g_aload_n C (pc := 63) dX12_windOfOne_63 5 rfl ?_
            refine g_iconst C (pc := 64) 0 dX12_windOfOne_64 (by decide) ?_
            refine g_callVV C (pc := 65) mf_X12_returns lk_RX12_257 (c_X12_returnsD n ρ J F b 0 _ hn9 hms (hqf.kp hkJ) hrw hsv (by decide) rfl) (by decide) (Nat.le_refl _) rfl (by first | assumption | rfl | omega) rfl (by first | assumption | rfl | omega) (Nat.le_of_ble_eq_true rfl) dX12_windOfOne_65 (fun I65 h65 => ?_)
            obtain ⟨f65, a65, g65⟩ := h65
            have hl2 : Lw 0 J I65 := Lw.qb a65 g65
            have hlw2 : Lw 1 I I65 := hlw.trans (hl2.up (by decide))
            have hsv2 : SvB I65 F 0 b := hsv.lw (hl2.up (by decide)) hn6
            have hfm2 : FMv I65 F b w 0 := hfm.lw (hl2.up (by decide)) hn6
            refine g_aload_n C (pc := 68) dX12_windOfOne_68 5 rfl ?_
            refine g_iload_n C (pc := 69) dX12_windOfOne_69 7 rfl ?_
            refine g_aload_n C (pc := 70) dX12_windOfOne_70 5 rfl ?_
            refine g_getR C (pc := 71) fl_RX12_44 (by decide) (by first | assumption | rfl | omega) (by first | assumption | rfl | omega) (by first | assumption | rfl | omega) dX12_windOfOne_71 ?_
            refine g_iconst C (pc := 74) 0 dX12_windOfOne_74 (by decide) ?_
            refine g_iald C (pc := 75) (by first | assumption | rfl | omega) (by first | assumption | rfl | omega) (vp_in_nI (n := 0) (by decide) (by decide)) dX12_windOfOne_75 ?_
            refine g_if_ne C (pc := 76) 84 dX12_windOfOne_76 (by decide) (fun c76 => ?_) (fun c76 => ?_)
            · have hjl : j < (mvs F b w).length := by
                have h9 : ¬ I65 109 0 = 0 := c76
                rw [hfm2.1] at h9
                have h8 : (mvs F b w).length ≠ 0 := fun h => h9 (by rw [h]; rfl)
                unfold cntM at c60
                rw [if_neg h8] at c60; exact c60
              have hmx9 : I65 108 (nI j).toNatClampNeg = oI ((mvs F b w)[j]?) := by
                have hk9 := List.getElem?_eq_getElem hjl
                have h9 := hfm2.2 j _ hk9
                rw [Nat.mul_zero, Nat.zero_add] at h9
                rw [hk9, nI_clamp (by omega)]; exact h9
              refine g_aload_n C (pc := 84) dX12_windOfOne_84 5 rfl ?_
              refine g_getR C (pc := 85) fl_RX12_41 (by decide) (by first | assumption | rfl | omega) (by first | assumption | rfl | omega) (by first | assumption | rfl | omega) dX12_windOfOne_85 ?_
              refine g_iload C (pc := 88) dX12_windOfOne_88 0 rfl ?_
              refine g_iald C (pc := 90) (by first | assumption | rfl | omega) (by first | assumption | rfl | omega) (vp_in_nI (n := j) (by omega) (by decide)) dX12_windOfOne_90 ?_
              refine g_callVI C (pc := 91) mf_X12_goes lk_RX12_251 (c_X12_goesE n ρ I65 F b w ((mvs F b w)[j]?) _ z hn9 hms (hqf.kp hlw2.1) hrw f65 hbw hw (mvs_K hrw) (hmx9) hz) (by decide) (Nat.le_refl _) rfl (by first | assumption | rfl | omega) rfl (by first | assumption | rfl | omega) (Nat.le_of_ble_eq_true rfl) dX12_windOfOne_91 (fun v91 I91 h91 => ?_)
              obtain ⟨e91, f91, a91, g91⟩ := h91
              have hl3 : Lw 0 I65 I91 := Lw.qb a91 g91
              replace hlw2 := hlw2
              have hbw2 : BW F (playB F b w ((mvs F b w)[j]?)) := (mvs_K hrw).bw hrw hbw
              have hl12 : L1 F (playB F b w ((mvs F b w)[j]?)) := L1_play hl1
              have hpw2 : PW F (playB F b w ((mvs F b w)[j]?)) := PW_play (mvs_K hrw) hrw hpw
              refine g_pop C (pc := 94) dX12_windOfOne_94 rfl ?_
              refine g_aload_n C (pc := 95) dX12_windOfOne_95 5 rfl ?_
              refine g_iload_n C (pc := 96) dX12_windOfOne_96 6 rfl ?_
              refine g_callVL C (pc := 97) mf_X12_wonNow lk_RX12_260 (c_X12_wonNow n ρ I91 F (playB F b w ((mvs F b w)[j]?)) sd x hn9 hms (hqf.kp (hlw2.trans (hl3.up (by decide))).1) hrw f91 hbw2 hl12 hsd hx) (by decide) (Nat.le_refl _) rfl (by first | assumption | rfl | omega) rfl (by first | assumption | rfl | omega) (Nat.le_of_ble_eq_true rfl) dX12_windOfOne_97 (fun v97 I97 h97 => ?_)
              obtain ⟨e97, rfl⟩ := h97
              have hlI : Lw 0 I65 I91 := hl3
              have hvf : v97 = lN ((valF F sd 0 b w) j) := e97
              refine g_lstore C (pc := 100) dX12_windOfOne_100 (by decide) (fun v100 => [(9, .long v100), (8, .int (nI j)), (4, .long wz4), (6, .int wz6), (3, .int v24), (7, .int v51), (0, .ref 97), (1, .int x), (2, .int z)]) (fun _ => rfl) (fun v100 ev100 => ?_)
              refine g_iload C (pc := 102) dX12_windOfOne_102 1 rfl ?_
              refine g_if_ne C (pc := 104) 111 dX12_windOfOne_104 (by decide) (fun c104 => ?_) (fun c104 => ?_)
              · refine g_iconst C (pc := 111) 0 dX12_windOfOne_111 (by decide) ?_
                refine g_iload_n C (pc := 112) dX12_windOfOne_112 4 rfl ?_
                refine g_lload C (pc := 113) dX12_windOfOne_113 0 rfl ?_
                refine g_lload C (pc := 115) dX12_windOfOne_115 2 rfl ?_
                refine g_callSI C (pc := 117) mf_X12_isBetter lk_RX12_264 (c_X12_isBetter n ρ _ _ _ _ _ hn9) (by decide) (Nat.le_refl _) rfl (Nat.le_of_ble_eq_true rfl) dX12_windOfOne_117 (fun v117 I117 h117 => ?_)
                obtain ⟨e117, rfl⟩ := h117
                refine g_istore C (pc := 120) dX12_windOfOne_120 (by decide) (fun v120 => [(11, .int v120), (9, .long v100), (8, .int (nI j)), (4, .long wz4), (6, .int wz6), (3, .int v24), (7, .int v51), (0, .ref 97), (1, .int x), (2, .int z)]) (fun _ => rfl) (fun v120 ev120 => ?_)
                have hup := bst_upd (wants := (bM b == sd)) (f := (valF F sd 0 b w)) (j := j) (z4 := wz4) (z6 := wz6) (fl := bI (j = 0)) (own := v24) (u := v120) (fun i _ => (by show val F sd 0 (playB F b w ((mvs F b w)[i]?)) < 2 ^ 31; have h9 := val_le (F := F) (sd := sd) 0 (playB F b w ((mvs F b w)[i]?)); have h8 := pw3 (a := allO F) (k := 0) hAO (by decide); omega)) h4 h6 rfl h24 (by
                  rw [ev120, e117, ev100, hvf]
                  first
                  | (rw [bI_t (c := j = 0) ((nI_eq (b := 0) (by omega) (by decide)).mp c104)]; done)
                  | (rw [bI_f (c := j = 0) (fun h => c104 (by rw [h]; rfl))]; done))
                refine g_iload C (pc := 122) dX12_windOfOne_122 0 rfl ?_
                refine g_if_eq C (pc := 124) 132 dX12_windOfOne_124 (by decide) (fun c124 => ?_) (fun c124 => ?_)
                · refine g_iload C (pc := 132) dX12_windOfOne_132 4 rfl ?_
                  refine g_istore C (pc := 134) dX12_windOfOne_134 (by decide) (fun v134 => [(6, .int v134), (11, .int v120), (9, .long v100), (8, .int (nI j)), (4, .long wz4), (3, .int v24), (7, .int v51), (0, .ref 97), (1, .int x), (2, .int z)]) (fun _ => rfl) (fun v134 ev134 => ?_)
                  refine g_iload C (pc := 136) dX12_windOfOne_136 1 rfl ?_
                  refine g_if_eq C (pc := 138) 146 dX12_windOfOne_138 (by decide) (fun c138 => ?_) (fun c138 => ?_)
                  · refine g_lload C (pc := 146) dX12_windOfOne_146 4 rfl ?_
                    refine g_lstore C (pc := 148) dX12_windOfOne_148 (by decide) (fun v148 => [(4, .long v148), (6, .int v134), (11, .int v120), (9, .long v100), (8, .int (nI j)), (3, .int v24), (7, .int v51), (0, .ref 97), (1, .int x), (2, .int z)]) (fun _ => rfl) (fun v148 ev148 => ?_)
                    refine g_iinc C (pc := 150) (1) dX12_windOfOne_150 4 rfl (by decide) (by decide) (fun v150 => [(8, .int v150), (4, .long v148), (6, .int v134), (11, .int v120), (9, .long v100), (3, .int v24), (7, .int v51), (0, .ref 97), (1, .int x), (2, .int z)]) (fun _ => rfl) (fun v150 ev150 => ?_)
                    refine g_goto C (pc := 153) 56 dX12_windOfOne_153 (by decide) ?_
                    refine g_lv C [0, 1, 2, 5, 6, 7, 8, 9] rfl (ih56 (j + 1) _ _ _ _ ?_ ?_ ?_ ?_ ?_ ?_ ?_ (by omega))
                    · subst ev150; exact nI_1 _
                    · omega
                    · rw [ev148]; first | exact (ev100.trans hvf).trans (hup.1 c124).1 | exact (hup.2 c124).1
                    · rw [ev134]; first | exact (hup.1 c124).2 | exact (hup.2 c124).2
                    · exact hsv2.lw hlI hn6
                    · exact hfm2.lw hlI hn6
                    · exact hlw2.trans (hlI.up (by decide))
                  · exact absurd c124 c138
                · refine g_iload C (pc := 127) dX12_windOfOne_127 2 rfl ?_
                  refine g_goto C (pc := 129) 134 dX12_windOfOne_129 (by decide) ?_
                  refine g_istore C (pc := 134) dX12_windOfOne_134 (by decide) (fun v134 => [(6, .int v134), (11, .int v120), (9, .long v100), (8, .int (nI j)), (4, .long wz4), (3, .int v24), (7, .int v51), (0, .ref 97), (1, .int x), (2, .int z)]) (fun _ => rfl) (fun v134 ev134 => ?_)
                  refine g_iload C (pc := 136) dX12_windOfOne_136 1 rfl ?_
                  refine g_if_eq C (pc := 138) 146 dX12_windOfOne_138 (by decide) (fun c138 => ?_) (fun c138 => ?_)
                  · exact absurd c138 c124
                  · refine g_lload C (pc := 141) dX12_windOfOne_141 2 rfl ?_
                    refine g_goto C (pc := 143) 148 dX12_windOfOne_143 (by decide) ?_
                    refine g_lstore C (pc := 148) dX12_windOfOne_148 (by decide) (fun v148 => [(4, .long v148), (6, .int v134), (11, .int v120), (9, .long v100), (8, .int (nI j)), (3, .int v24), (7, .int v51), (0, .ref 97), (1, .int x), (2, .int z)]) (fun _ => rfl) (fun v148 ev148 => ?_)
                    refine g_iinc C (pc := 150) (1) dX12_windOfOne_150 4 rfl (by decide) (by decide) (fun v150 => [(8, .int v150), (4, .long v148), (6, .int v134), (11, .int v120), (9, .long v100), (3, .int v24), (7, .int v51), (0, .ref 97), (1, .int x), (2, .int z)]) (fun _ => rfl) (fun v150 ev150 => ?_)
                    refine g_goto C (pc := 153) 56 dX12_windOfOne_153 (by decide) ?_
                    refine g_lv C [0, 1, 2, 5, 6, 7, 8, 9] rfl (ih56 (j + 1) _ _ _ _ ?_ ?_ ?_ ?_ ?_ ?_ ?_ (by omega))
                    · subst ev150; exact nI_1 _
                    · omega
                    · rw [ev148]; first | exact (ev100.trans hvf).trans (hup.1 c124).1 | exact (hup.2 c124).1
                    · rw [ev134]; first | exact (hup.1 c124).2 | exact (hup.2 c124).2
                    · exact hsv2.lw hlI hn6
                    · exact hfm2.lw hlI hn6
                    · exact hlw2.trans (hlI.up (by decide))
              · refine g_iconst C (pc := 107) 1 dX12_windOfOne_107 (by decide) ?_
                refine g_goto C (pc := 108) 112 dX12_windOfOne_108 (by decide) ?_
                refine g_iload_n C (pc := 112) dX12_windOfOne_112 4 rfl ?_
                refine g_lload C (pc := 113) dX12_windOfOne_113 0 rfl ?_
                refine g_lload C (pc := 115) dX12_windOfOne_115 2 rfl ?_
                refine g_callSI C (pc := 117) mf_X12_isBetter lk_RX12_264 (c_X12_isBetter n ρ _ _ _ _ _ hn9) (by decide) (Nat.le_refl _) rfl (Nat.le_of_ble_eq_true rfl) dX12_windOfOne_117 (fun v117 I117 h117 => ?_)
                obtain ⟨e117, rfl⟩ := h117
                refine g_istore C (pc := 120) dX12_windOfOne_120 (by decide) (fun v120 => [(11, .int v120), (9, .long v100), (8, .int (nI j)), (4, .long wz4), (6, .int wz6), (3, .int v24), (7, .int v51), (0, .ref 97), (1, .int x), (2, .int z)]) (fun _ => rfl) (fun v120 ev120 => ?_)
                have hup := bst_upd (wants := (bM b == sd)) (f := (valF F sd 0 b w)) (j := j) (z4 := wz4) (z6 := wz6) (fl := bI (j = 0)) (own := v24) (u := v120) (fun i _ => (by show val F sd 0 (playB F b w ((mvs F b w)[i]?)) < 2 ^ 31; have h9 := val_le (F := F) (sd := sd) 0 (playB F b w ((mvs F b w)[i]?)); have h8 := pw3 (a := allO F) (k := 0) hAO (by decide); omega)) h4 h6 rfl h24 (by
                  rw [ev120, e117, ev100, hvf]
                  first
                  | (rw [bI_t (c := j = 0) ((nI_eq (b := 0) (by omega) (by decide)).mp c104)]; done)
                  | (rw [bI_f (c := j = 0) (fun h => c104 (by rw [h]; rfl))]; done))
                refine g_iload C (pc := 122) dX12_windOfOne_122 0 rfl ?_
                refine g_if_eq C (pc := 124) 132 dX12_windOfOne_124 (by decide) (fun c124 => ?_) (fun c124 => ?_)
                · refine g_iload C (pc := 132) dX12_windOfOne_132 4 rfl ?_
                  refine g_istore C (pc := 134) dX12_windOfOne_134 (by decide) (fun v134 => [(6, .int v134), (11, .int v120), (9, .long v100), (8, .int (nI j)), (4, .long wz4), (3, .int v24), (7, .int v51), (0, .ref 97), (1, .int x), (2, .int z)]) (fun _ => rfl) (fun v134 ev134 => ?_)
                  refine g_iload C (pc := 136) dX12_windOfOne_136 1 rfl ?_
                  refine g_if_eq C (pc := 138) 146 dX12_windOfOne_138 (by decide) (fun c138 => ?_) (fun c138 => ?_)
                  · refine g_lload C (pc := 146) dX12_windOfOne_146 4 rfl ?_
                    refine g_lstore C (pc := 148) dX12_windOfOne_148 (by decide) (fun v148 => [(4, .long v148), (6, .int v134), (11, .int v120), (9, .long v100), (8, .int (nI j)), (3, .int v24), (7, .int v51), (0, .ref 97), (1, .int x), (2, .int z)]) (fun _ => rfl) (fun v148 ev148 => ?_)
                    refine g_iinc C (pc := 150) (1) dX12_windOfOne_150 4 rfl (by decide) (by decide) (fun v150 => [(8, .int v150), (4, .long v148), (6, .int v134), (11, .int v120), (9, .long v100), (3, .int v24), (7, .int v51), (0, .ref 97), (1, .int x), (2, .int z)]) (fun _ => rfl) (fun v150 ev150 => ?_)
                    refine g_goto C (pc := 153) 56 dX12_windOfOne_153 (by decide) ?_
                    refine g_lv C [0, 1, 2, 5, 6, 7, 8, 9] rfl (ih56 (j + 1) _ _ _ _ ?_ ?_ ?_ ?_ ?_ ?_ ?_ (by omega))
                    · subst ev150; exact nI_1 _
                    · omega
                    · rw [ev148]; first | exact (ev100.trans hvf).trans (hup.1 c124).1 | exact (hup.2 c124).1
                    · rw [ev134]; first | exact (hup.1 c124).2 | exact (hup.2 c124).2
                    · exact hsv2.lw hlI hn6
                    · exact hfm2.lw hlI hn6
                    · exact hlw2.trans (hlI.up (by decide))
                  · exact absurd c124 c138
                · refine g_iload C (pc := 127) dX12_windOfOne_127 2 rfl ?_
                  refine g_goto C (pc := 129) 134 dX12_windOfOne_129 (by decide) ?_
                  refine g_istore C (pc := 134) dX12_windOfOne_134 (by decide) (fun v134 => [(6, .int v134), (11, .int v120), (9, .long v100), (8, .int (nI j)), (4, .long wz4), (3, .int v24), (7, .int v51), (0, .ref 97), (1, .int x), (2, .int z)]) (fun _ => rfl) (fun v134 ev134 => ?_)
                  refine g_iload C (pc := 136) dX12_windOfOne_136 1 rfl ?_
                  refine g_if_eq C (pc := 138) 146 dX12_windOfOne_138 (by decide) (fun c138 => ?_) (fun c138 => ?_)
                  · exact absurd c138 c124
                  · refine g_lload C (pc := 141) dX12_windOfOne_141 2 rfl ?_
                    refine g_goto C (pc := 143) 148 dX12_windOfOne_143 (by decide) ?_
                    refine g_lstore C (pc := 148) dX12_windOfOne_148 (by decide) (fun v148 => [(4, .long v148), (6, .int v134), (11, .int v120), (9, .long v100), (8, .int (nI j)), (3, .int v24), (7, .int v51), (0, .ref 97), (1, .int x), (2, .int z)]) (fun _ => rfl) (fun v148 ev148 => ?_)
                    refine g_iinc C (pc := 150) (1) dX12_windOfOne_150 4 rfl (by decide) (by decide) (fun v150 => [(8, .int v150), (4, .long v148), (6, .int v134), (11, .int v120), (9, .long v100), (3, .int v24), (7, .int v51), (0, .ref 97), (1, .int x), (2, .int z)]) (fun _ => rfl) (fun v150 ev150 => ?_)
                    refine g_goto C (pc := 153) 56 dX12_windOfOne_153 (by decide) ?_
                    refine g_lv C [0, 1, 2, 5, 6, 7, 8, 9] rfl (ih56 (j + 1) _ _ _ _ ?_ ?_ ?_ ?_ ?_ ?_ ?_ (by omega))
                    · subst ev150; exact nI_1 _
                    · omega
                    · rw [ev148]; first | exact (ev100.trans hvf).trans (hup.1 c124).1 | exact (hup.2 c124).1
                    · rw [ev134]; first | exact (hup.1 c124).2 | exact (hup.2 c124).2
                    · exact hsv2.lw hlI hn6
                    · exact hfm2.lw hlI hn6
                    · exact hlw2.trans (hlI.up (by decide))
            · have hjl : (mvs F b w).length = 0 := by
                have h9 : I65 109 0 = 0 := c76
                rw [hfm2.1] at h9
                exact (nI_eq (b := 0) (by omega) (by decide)).mp h9
              have hmx9 : (-4 : Int32) = oI ((mvs F b w)[j]?) := by rw [List.getElem?_eq_none (by omega)]; rfl
              refine g_bipush C (pc := 79) (-4) dX12_windOfOne_79 (by decide) ?_
              refine g_goto C (pc := 81) 91 dX12_windOfOne_81 (by decide) ?_
              refine g_callVI C (pc := 91) mf_X12_goes lk_RX12_251 (c_X12_goesE n ρ I65 F b w ((mvs F b w)[j]?) _ z hn9 hms (hqf.kp hlw2.1) hrw f65 hbw hw (mvs_K hrw) (hmx9) hz) (by decide) (Nat.le_refl _) rfl (by first | assumption | rfl | omega) rfl (by first | assumption | rfl | omega) (Nat.le_of_ble_eq_true rfl) dX12_windOfOne_91 (fun v91 I91 h91 => ?_)
              obtain ⟨e91, f91, a91, g91⟩ := h91
              have hl3 : Lw 0 I65 I91 := Lw.qb a91 g91
              replace hlw2 := hlw2
              have hbw2 : BW F (playB F b w ((mvs F b w)[j]?)) := (mvs_K hrw).bw hrw hbw
              have hl12 : L1 F (playB F b w ((mvs F b w)[j]?)) := L1_play hl1
              have hpw2 : PW F (playB F b w ((mvs F b w)[j]?)) := PW_play (mvs_K hrw) hrw hpw
              refine g_pop C (pc := 94) dX12_windOfOne_94 rfl ?_
              refine g_aload_n C (pc := 95) dX12_windOfOne_95 5 rfl ?_
              refine g_iload_n C (pc := 96) dX12_windOfOne_96 6 rfl ?_
              refine g_callVL C (pc := 97) mf_X12_wonNow lk_RX12_260 (c_X12_wonNow n ρ I91 F (playB F b w ((mvs F b w)[j]?)) sd x hn9 hms (hqf.kp (hlw2.trans (hl3.up (by decide))).1) hrw f91 hbw2 hl12 hsd hx) (by decide) (Nat.le_refl _) rfl (by first | assumption | rfl | omega) rfl (by first | assumption | rfl | omega) (Nat.le_of_ble_eq_true rfl) dX12_windOfOne_97 (fun v97 I97 h97 => ?_)
              obtain ⟨e97, rfl⟩ := h97
              have hlI : Lw 0 I65 I91 := hl3
              have hvf : v97 = lN ((valF F sd 0 b w) j) := e97
              refine g_lstore C (pc := 100) dX12_windOfOne_100 (by decide) (fun v100 => [(9, .long v100), (8, .int (nI j)), (4, .long wz4), (6, .int wz6), (3, .int v24), (7, .int v51), (0, .ref 97), (1, .int x), (2, .int z)]) (fun _ => rfl) (fun v100 ev100 => ?_)
              refine g_iload C (pc := 102) dX12_windOfOne_102 1 rfl ?_
              refine g_if_ne C (pc := 104) 111 dX12_windOfOne_104 (by decide) (fun c104 => ?_) (fun c104 => ?_)
              · refine g_iconst C (pc := 111) 0 dX12_windOfOne_111 (by decide) ?_
                refine g_iload_n C (pc := 112) dX12_windOfOne_112 4 rfl ?_
                refine g_lload C (pc := 113) dX12_windOfOne_113 0 rfl ?_
                refine g_lload C (pc := 115) dX12_windOfOne_115 2 rfl ?_
                refine g_callSI C (pc := 117) mf_X12_isBetter lk_RX12_264 (c_X12_isBetter n ρ _ _ _ _ _ hn9) (by decide) (Nat.le_refl _) rfl (Nat.le_of_ble_eq_true rfl) dX12_windOfOne_117 (fun v117 I117 h117 => ?_)
                obtain ⟨e117, rfl⟩ := h117
                refine g_istore C (pc := 120) dX12_windOfOne_120 (by decide) (fun v120 => [(11, .int v120), (9, .long v100), (8, .int (nI j)), (4, .long wz4), (6, .int wz6), (3, .int v24), (7, .int v51), (0, .ref 97), (1, .int x), (2, .int z)]) (fun _ => rfl) (fun v120 ev120 => ?_)
                have hup := bst_upd (wants := (bM b == sd)) (f := (valF F sd 0 b w)) (j := j) (z4 := wz4) (z6 := wz6) (fl := bI (j = 0)) (own := v24) (u := v120) (fun i _ => (by show val F sd 0 (playB F b w ((mvs F b w)[i]?)) < 2 ^ 31; have h9 := val_le (F := F) (sd := sd) 0 (playB F b w ((mvs F b w)[i]?)); have h8 := pw3 (a := allO F) (k := 0) hAO (by decide); omega)) h4 h6 rfl h24 (by
                  rw [ev120, e117, ev100, hvf]
                  first
                  | (rw [bI_t (c := j = 0) ((nI_eq (b := 0) (by omega) (by decide)).mp c104)]; done)
                  | (rw [bI_f (c := j = 0) (fun h => c104 (by rw [h]; rfl))]; done))
                refine g_iload C (pc := 122) dX12_windOfOne_122 0 rfl ?_
                refine g_if_eq C (pc := 124) 132 dX12_windOfOne_124 (by decide) (fun c124 => ?_) (fun c124 => ?_)
                · refine g_iload C (pc := 132) dX12_windOfOne_132 4 rfl ?_
                  refine g_istore C (pc := 134) dX12_windOfOne_134 (by decide) (fun v134 => [(6, .int v134), (11, .int v120), (9, .long v100), (8, .int (nI j)), (4, .long wz4), (3, .int v24), (7, .int v51), (0, .ref 97), (1, .int x), (2, .int z)]) (fun _ => rfl) (fun v134 ev134 => ?_)
                  refine g_iload C (pc := 136) dX12_windOfOne_136 1 rfl ?_
                  refine g_if_eq C (pc := 138) 146 dX12_windOfOne_138 (by decide) (fun c138 => ?_) (fun c138 => ?_)
                  · refine g_lload C (pc := 146) dX12_windOfOne_146 4 rfl ?_
                    refine g_lstore C (pc := 148) dX12_windOfOne_148 (by decide) (fun v148 => [(4, .long v148), (6, .int v134), (11, .int v120), (9, .long v100), (8, .int (nI j)), (3, .int v24), (7, .int v51), (0, .ref 97), (1, .int x), (2, .int z)]) (fun _ => rfl) (fun v148 ev148 => ?_)
                    refine g_iinc C (pc := 150) (1) dX12_windOfOne_150 4 rfl (by decide) (by decide) (fun v150 => [(8, .int v150), (4, .long v148), (6, .int v134), (11, .int v120), (9, .long v100), (3, .int v24), (7, .int v51), (0, .ref 97), (1, .int x), (2, .int z)]) (fun _ => rfl) (fun v150 ev150 => ?_)
                    refine g_goto C (pc := 153) 56 dX12_windOfOne_153 (by decide) ?_
                    refine g_lv C [0, 1, 2, 5, 6, 7, 8, 9] rfl (ih56 (j + 1) _ _ _ _ ?_ ?_ ?_ ?_ ?_ ?_ ?_ (by omega))
                    · subst ev150; exact nI_1 _
                    · omega
                    · rw [ev148]; first | exact (ev100.trans hvf).trans (hup.1 c124).1 | exact (hup.2 c124).1
                    · rw [ev134]; first | exact (hup.1 c124).2 | exact (hup.2 c124).2
                    · exact hsv2.lw hlI hn6
                    · exact hfm2.lw hlI hn6
                    · exact hlw2.trans (hlI.up (by decide))
                  · exact absurd c124 c138
                · refine g_iload C (pc := 127) dX12_windOfOne_127 2 rfl ?_
                  refine g_goto C (pc := 129) 134 dX12_windOfOne_129 (by decide) ?_
                  refine g_istore C (pc := 134) dX12_windOfOne_134 (by decide) (fun v134 => [(6, .int v134), (11, .int v120), (9, .long v100), (8, .int (nI j)), (4, .long wz4), (3, .int v24), (7, .int v51), (0, .ref 97), (1, .int x), (2, .int z)]) (fun _ => rfl) (fun v134 ev134 => ?_)
                  refine g_iload C (pc := 136) dX12_windOfOne_136 1 rfl ?_
                  refine g_if_eq C (pc := 138) 146 dX12_windOfOne_138 (by decide) (fun c138 => ?_) (fun c138 => ?_)
                  · exact absurd c138 c124
                  · refine g_lload C (pc := 141) dX12_windOfOne_141 2 rfl ?_
                    refine g_goto C (pc := 143) 148 dX12_windOfOne_143 (by decide) ?_
                    refine g_lstore C (pc := 148) dX12_windOfOne_148 (by decide) (fun v148 => [(4, .long v148), (6, .int v134), (11, .int v120), (9, .long v100), (8, .int (nI j)), (3, .int v24), (7, .int v51), (0, .ref 97), (1, .int x), (2, .int z)]) (fun _ => rfl) (fun v148 ev148 => ?_)
                    refine g_iinc C (pc := 150) (1) dX12_windOfOne_150 4 rfl (by decide) (by decide) (fun v150 => [(8, .int v150), (4, .long v148), (6, .int v134), (11, .int v120), (9, .long v100), (3, .int v24), (7, .int v51), (0, .ref 97), (1, .int x), (2, .int z)]) (fun _ => rfl) (fun v150 ev150 => ?_)
                    refine g_goto C (pc := 153) 56 dX12_windOfOne_153 (by decide) ?_
                    refine g_lv C [0, 1, 2, 5, 6, 7, 8, 9] rfl (ih56 (j + 1) _ _ _ _ ?_ ?_ ?_ ?_ ?_ ?_ ?_ (by omega))
                    · subst ev150; exact nI_1 _
                    · omega
                    · rw [ev148]; first | exact (ev100.trans hvf).trans (hup.1 c124).1 | exact (hup.2 c124).1
                    · rw [ev134]; first | exact (hup.1 c124).2 | exact (hup.2 c124).2
                    · exact hsv2.lw hlI hn6
                    · exact hfm2.lw hlI hn6
                    · exact hlw2.trans (hlI.up (by decide))
              · refine g_iconst C (pc := 107) 1 dX12_windOfOne_107 (by decide) ?_
                refine g_goto C (pc := 108) 112 dX12_windOfOne_108 (by decide) ?_
                refine g_iload_n C (pc := 112) dX12_windOfOne_112 4 rfl ?_
                refine g_lload C (pc := 113) dX12_windOfOne_113 0 rfl ?_
                refine g_lload C (pc := 115) dX12_windOfOne_115 2 rfl ?_
                refine g_callSI C (pc := 117) mf_X12_isBetter lk_RX12_264 (c_X12_isBetter n ρ _ _ _ _ _ hn9) (by decide) (Nat.le_refl _) rfl (Nat.le_of_ble_eq_true rfl) dX12_windOfOne_117 (fun v117 I117 h117 => ?_)
                obtain ⟨e117, rfl⟩ := h117
                refine g_istore C (pc := 120) dX12_windOfOne_120 (by decide) (fun v120 => [(11, .int v120), (9, .long v100), (8, .int (nI j)), (4, .long wz4), (6, .int wz6), (3, .int v24), (7, .int v51), (0, .ref 97), (1, .int x), (2, .int z)]) (fun _ => rfl) (fun v120 ev120 => ?_)
                have hup := bst_upd (wants := (bM b == sd)) (f := (valF F sd 0 b w)) (j := j) (z4 := wz4) (z6 := wz6) (fl := bI (j = 0)) (own := v24) (u := v120) (fun i _ => (by show val F sd 0 (playB F b w ((mvs F b w)[i]?)) < 2 ^ 31; have h9 := val_le (F := F) (sd := sd) 0 (playB F b w ((mvs F b w)[i]?)); have h8 := pw3 (a := allO F) (k := 0) hAO (by decide); omega)) h4 h6 rfl h24 (by
                  rw [ev120, e117, ev100, hvf]
                  first
                  | (rw [bI_t (c := j = 0) ((nI_eq (b := 0) (by omega) (by decide)).mp c104)]; done)
                  | (rw [bI_f (c := j = 0) (fun h => c104 (by rw [h]; rfl))]; done))
                refine g_iload C (pc := 122) dX12_windOfOne_122 0 rfl ?_
                refine g_if_eq C (pc := 124) 132 dX12_windOfOne_124 (by decide) (fun c124 => ?_) (fun c124 => ?_)
                · refine g_iload C (pc := 132) dX12_windOfOne_132 4 rfl ?_
                  refine g_istore C (pc := 134) dX12_windOfOne_134 (by decide) (fun v134 => [(6, .int v134), (11, .int v120), (9, .long v100), (8, .int (nI j)), (4, .long wz4), (3, .int v24), (7, .int v51), (0, .ref 97), (1, .int x), (2, .int z)]) (fun _ => rfl) (fun v134 ev134 => ?_)
                  refine g_iload C (pc := 136) dX12_windOfOne_136 1 rfl ?_
                  refine g_if_eq C (pc := 138) 146 dX12_windOfOne_138 (by decide) (fun c138 => ?_) (fun c138 => ?_)
                  · refine g_lload C (pc := 146) dX12_windOfOne_146 4 rfl ?_
                    refine g_lstore C (pc := 148) dX12_windOfOne_148 (by decide) (fun v148 => [(4, .long v148), (6, .int v134), (11, .int v120), (9, .long v100), (8, .int (nI j)), (3, .int v24), (7, .int v51), (0, .ref 97), (1, .int x), (2, .int z)]) (fun _ => rfl) (fun v148 ev148 => ?_)
                    refine g_iinc C (pc := 150) (1) dX12_windOfOne_150 4 rfl (by decide) (by decide) (fun v150 => [(8, .int v150), (4, .long v148), (6, .int v134), (11, .int v120), (9, .long v100), (3, .int v24), (7, .int v51), (0, .ref 97), (1, .int x), (2, .int z)]) (fun _ => rfl) (fun v150 ev150 => ?_)
                    refine g_goto C (pc := 153) 56 dX12_windOfOne_153 (by decide) ?_
                    refine g_lv C [0, 1, 2, 5, 6, 7, 8, 9] rfl (ih56 (j + 1) _ _ _ _ ?_ ?_ ?_ ?_ ?_ ?_ ?_ (by omega))
                    · subst ev150; exact nI_1 _
                    · omega
                    · rw [ev148]; first | exact (ev100.trans hvf).trans (hup.1 c124).1 | exact (hup.2 c124).1
                    · rw [ev134]; first | exact (hup.1 c124).2 | exact (hup.2 c124).2
                    · exact hsv2.lw hlI hn6
                    · exact hfm2.lw hlI hn6
                    · exact hlw2.trans (hlI.up (by decide))
                  · exact absurd c124 c138
                · refine g_iload C (pc := 127) dX12_windOfOne_127 2 rfl ?_
                  refine g_goto C (pc := 129) 134 dX12_windOfOne_129 (by decide) ?_
                  refine g_istore C (pc := 134) dX12_windOfOne_134 (by decide) (fun v134 => [(6, .int v134), (11, .int v120), (9, .long v100), (8, .int (nI j)), (4, .long wz4), (3, .int v24), (7, .int v51), (0, .ref 97), (1, .int x), (2, .int z)]) (fun _ => rfl) (fun v134 ev134 => ?_)
                  refine g_iload C (pc := 136) dX12_windOfOne_136 1 rfl ?_
                  refine g_if_eq C (pc := 138) 146 dX12_windOfOne_138 (by decide) (fun c138 => ?_) (fun c138 => ?_)
                  · exact absurd c138 c124
                  · refine g_lload C (pc := 141) dX12_windOfOne_141 2 rfl ?_
                    refine g_goto C (pc := 143) 148 dX12_windOfOne_143 (by decide) ?_
                    refine g_lstore C (pc := 148) dX12_windOfOne_148 (by decide) (fun v148 => [(4, .long v148), (6, .int v134), (11, .int v120), (9, .long v100), (8, .int (nI j)), (3, .int v24), (7, .int v51), (0, .ref 97), (1, .int x), (2, .int z)]) (fun _ => rfl) (fun v148 ev148 => ?_)
                    refine g_iinc C (pc := 150) (1) dX12_windOfOne_150 4 rfl (by decide) (by decide) (fun v150 => [(8, .int v150), (4, .long v148), (6, .int v134), (11, .int v120), (9, .long v100), (3, .int v24), (7, .int v51), (0, .ref 97), (1, .int x), (2, .int z)]) (fun _ => rfl) (fun v150 ev150 => ?_)
                    refine g_goto C (pc := 153) 56 dX12_windOfOne_153 (by decide) ?_
                    refine g_lv C [0, 1, 2, 5, 6, 7, 8, 9] rfl (ih56 (j + 1) _ _ _ _ ?_ ?_ ?_ ?_ ?_ ?_ ?_ (by omega))
                    · subst ev150; exact nI_1 _
                    · omega
                    · rw [ev148]; first | exact (ev100.trans hvf).trans (hup.1 c124).1 | exact (hup.2 c124).1
                    · rw [ev134]; first | exact (hup.1 c124).2 | exact (hup.2 c124).2
                    · exact hsv2.lw hlI hn6
                    · exact hfm2.lw hlI hn6
                    · exact hlw2.trans (hlI.up (by decide))
      refine g_lv C [0, 3, 2, 4, 1, 5, 6, 7] rfl (L56 (_ + 1) 0 _ _ _ _ ?_ ?_ ?_ ?_ ?_ ?_ ?_ (by first | omega | exact Nat.lt_succ_self _))
      · subst ev54; rfl
      · omega
      · subst ev26; rfl
      · subst ev30; rfl
      · exact f8
      · exact f3.cong (by rw [g8 109 (by decide)]) (fun z _ _ => by rw [g8 108 (by decide)]) hn6
      · exact (Lw.fm a3 b3 g3).trans (Lw.sv a8 g8)
set_option maxHeartbeats 800000 in
theorem c_X12_one (n : Nat) (ρ : Rho) (I : Mem) (F : RT) (b : BT) (sd : Nat) (x : Int32) (hn9 : n ≤ 999) (hms : MS n ρ) (hqf : QF I F) (hrw : RW F) (hqe : QE I F) (hqb : QB I F b) (hbw : BW F b) (hl1 : L1 F b) (hpw : PW F b) (hsd : sd < 2) (hx : x = nI sd) : ML yX12_one cX12_one 7 (some .long) 5 [.ref 97, .int x] n ρ I (fun v I1 => v = lN (val F sd 1 b) ∧ Lw 1 I I1) := by
  refine MG.of (by decide +kernel) (Nat.le_of_ble_eq_true rfl) hn9 ?_
  intro κ C hR
  show G κ n ρ 0 [(0, .ref 97), (1, .int x)] [] I
  obtain ⟨mn, ⟨m0, m1, m5, m6, m7, m11, m12, m15⟩, ⟨m23, m24, m26, m27, m28, m30, m31, m32, m33⟩, ⟨m38, m39, m40, m42⟩⟩ := id hms
  obtain ⟨qw, qh, qn, qk⟩ := id hqf
  have hn6 : rN F ≤ 6 := hrw.2.2.2.2.1
  have hm25 := Nat.mul_le_mul hrw.2.1 hrw.2.2.2.1
  have hm4 := Nat.mul_le_mul hrw.1 hrw.2.2.1
  have hAO := allO_le hrw
  refine g_aload_n C (pc := 0) dX12_one_0 0 rfl ?_
  refine g_callVI C (pc := 1) mf_X12_allOdds lk_RX12_244 (c_X12_allOdds n ρ I F hn9 hms hqe) (by decide) (Nat.le_refl _) rfl (by first | assumption | rfl | omega) rfl (by first | assumption | rfl | omega) (Nat.le_of_ble_eq_true rfl) dX12_one_1 (fun v1 I1 h1 => ?_)
  obtain ⟨e1, rfl⟩ := h1
  refine g_i2l C (pc := 4) dX12_one_4 ?_
  refine g_lstore_n C (pc := 5) dX12_one_5 (by decide) (fun v5 => [(2, .long v5), (0, .ref 97), (1, .int x)]) (fun _ => rfl) (fun v5 ev5 => ?_)
  refine g_aload_n C (pc := 6) dX12_one_6 1 rfl ?_
  refine g_callVI C (pc := 7) mf_X12_lost lk_RX12_221 (c_X12_lost n ρ I F b hn9 hms hqf hrw hqb hbw hl1) (by decide) (Nat.le_refl _) rfl (by first | assumption | rfl | omega) rfl (by first | assumption | rfl | omega) (Nat.le_of_ble_eq_true rfl) dX12_one_7 (fun v7 I7 h7 => ?_)
  obtain ⟨e7, rfl⟩ := h7
  refine g_bipush C (pc := 10) (-4) dX12_one_10 (by decide) ?_
  refine g_icmp_eq C (pc := 12) 23 dX12_one_12 (by decide) (fun c12 => ?_) (fun c12 => ?_)
  · have hnb : lostB F b = none := (oI_none (lostB_lt2 hrw)).mp (e7.symm.trans c12)
    refine g_lconst C (pc := 23) 0 dX12_one_23 (by decide) ?_
    refine g_lstore C (pc := 24) dX12_one_24 (by decide) (fun v24 => [(4, .long v24), (2, .long v5), (0, .ref 97), (1, .int x)]) (fun _ => rfl) (fun v24 ev24 => ?_)
    refine g_iconst C (pc := 26) 0 dX12_one_26 (by decide) ?_
    refine g_istore C (pc := 27) dX12_one_27 (by decide) (fun v27 => [(6, .int v27), (4, .long v24), (2, .long v5), (0, .ref 97), (1, .int x)]) (fun _ => rfl) (fun v27 ev27 => ?_)
    have L29 : ∀ (k9 : Nat) (j : Nat) (wz6 : Int32) (wz4 : Int64) (J : Mem) (hw6 : wz6 = nI j) (hj : j ≤ 5) (hS : wz4 = lN (smP (fun w => rOd F w * valW F sd 0 b w) j)) (hqJ : QB J F b) (hlw : Lw 1 I J), 5 - j < k9 → G κ n ρ 29 [(6, .int wz6), (4, .long wz4), (0, .ref 97), (1, .int x), (2, .long v5)] [] J := by
      intro k9
      induction k9 with
      | zero => intro j wz6 wz4 J hw6 hj hS hqJ hlw hm29; exact absurd hm29 (Nat.not_lt_zero _)
      | succ k9 ih29 =>
        intro j wz6 wz4 J hw6 hj hS hqJ hlw hm29
        subst hw6
        have hkJ := hlw.1
        refine g_iload C (pc := 29) dX12_one_29 0 rfl ?_
        refine g_iconst C (pc := 31) 5 dX12_one_31 (by decide) ?_
        refine g_icmp_ge C (pc := 32) 82 dX12_one_32 (by decide) (fun c32 => ?_) (fun c32 => ?_)
        · replace c32 := (nI_leI (a := 5) (b := j) (by decide) (by omega)).mp c32
          refine g_lload C (pc := 82) dX12_one_82 1 rfl ?_
          refine g_lret C hR (pc := 84) rfl dX12_one_84 ?_
          refine ⟨rfl, _, rfl, ?_⟩
          have hj5 : j = 5 := by omega
          subst hj5
          exact ⟨by rw [val_succ hnb]; exact hS, hlw⟩
        · replace c32 := (nI_ltI (a := j) (b := 5) (by omega) (by decide)).mp c32
          have hod : J 98 (13 + nI j).toNatClampNeg = nI (rOd F j) := by rw [show (13 : Int32) = nI 13 from rfl, nI_add, nI_clamp (by omega)]; exact (hqe.kp hkJ).2 j c32
          have ho9 := hrw.2.2.2.2.2.2.1 j c32
          refine g_lload C (pc := 35) dX12_one_35 1 rfl ?_
          refine g_aload_n C (pc := 37) dX12_one_37 2 rfl ?_
          refine g_getR C (pc := 38) fl_RX12_7 (by decide) (by first | assumption | rfl | omega) (by first | assumption | rfl | omega) (by first | assumption | rfl | omega) dX12_one_38 ?_
          refine g_bipush C (pc := 41) 13 dX12_one_41 (by decide) ?_
          refine g_iload C (pc := 43) dX12_one_43 0 rfl ?_
          refine g_iadd C (pc := 45) dX12_one_45 ?_
          refine g_iald C (pc := 46) (by first | assumption | rfl | omega) (by first | assumption | rfl | omega) (by rw [show (13 : Int32) = nI 13 from rfl, nI_add]; exact vp_in_nI (by omega) (by decide)) dX12_one_46 ?_
          refine g_if_ne C (pc := 47) 54 dX12_one_47 (by decide) (fun c47 => ?_) (fun c47 => ?_)
          · refine g_aload_n C (pc := 54) dX12_one_54 2 rfl ?_
            refine g_getR C (pc := 55) fl_RX12_7 (by decide) (by first | assumption | rfl | omega) (by first | assumption | rfl | omega) (by first | assumption | rfl | omega) dX12_one_55 ?_
            refine g_bipush C (pc := 58) 13 dX12_one_58 (by decide) ?_
            refine g_iload C (pc := 60) dX12_one_60 0 rfl ?_
            refine g_iadd C (pc := 62) dX12_one_62 ?_
            refine g_iald C (pc := 63) (by first | assumption | rfl | omega) (by first | assumption | rfl | omega) (by rw [show (13 : Int32) = nI 13 from rfl, nI_add]; exact vp_in_nI (by omega) (by decide)) dX12_one_63 ?_
            refine g_i2l C (pc := 64) dX12_one_64 ?_
            refine g_aload_n C (pc := 65) dX12_one_65 2 rfl ?_
            refine g_iload_n C (pc := 66) dX12_one_66 3 rfl ?_
            refine g_iload C (pc := 67) dX12_one_67 0 rfl ?_
            refine g_callVL C (pc := 69) mf_X12_windOfOne lk_RX12_271 (c_X12_windOfOne n ρ J F b sd j x _ hn9 hms (hqf.kp hkJ) hrw (hqe.kp hkJ) hqJ hbw hl1 hpw hsd hx (by omega) rfl) (by decide) (Nat.le_refl _) rfl (by first | assumption | rfl | omega) rfl (by first | assumption | rfl | omega) (Nat.le_of_ble_eq_true rfl) dX12_one_69 (fun v69 I69 h69 => ?_)
            obtain ⟨e69, m69, q69, k69⟩ := h69
            refine g_lmul C (pc := 72) dX12_one_72 ?_
            refine g_ladd C (pc := 73) dX12_one_73 ?_
            refine g_lstore C (pc := 74) dX12_one_74 (by decide) (fun v74 => [(4, .long v74), (6, .int (nI j)), (0, .ref 97), (1, .int x), (2, .long v5)]) (fun _ => rfl) (fun v74 ev74 => ?_)
            refine g_iinc C (pc := 76) (1) dX12_one_76 1 rfl (by decide) (by decide) (fun v76 => [(6, .int v76), (4, .long v74), (0, .ref 97), (1, .int x), (2, .long v5)]) (fun _ => rfl) (fun v76 ev76 => ?_)
            refine g_goto C (pc := 79) 29 dX12_one_79 (by decide) ?_
            refine g_lv C [0, 1, 2, 3, 4] rfl (ih29 (j + 1) _ _ _ ?_ ?_ ?_ ?_ ?_ (by omega))
            · subst ev76; exact nI_1 _
            · omega
            · rw [ev74]
              first
              | (rw [hS, e69, hod, nI_l (by omega), lN_mul, lN_add, smP]; done)
              | (rw [hS, smP, ho0, Nat.zero_mul, Nat.add_zero]; exact Int64.add_zero _)
            · first | exact q69 | exact hqJ
            · first | exact hlw.trans k69 | exact hlw
          · have ho0 : rOd F j = 0 := by
              rw [hod] at c47
              exact (nI_eq (b := 0) (by omega) (by decide)).mp c47
            refine g_lconst C (pc := 50) 0 dX12_one_50 (by decide) ?_
            refine g_goto C (pc := 51) 73 dX12_one_51 (by decide) ?_
            refine g_ladd C (pc := 73) dX12_one_73 ?_
            refine g_lstore C (pc := 74) dX12_one_74 (by decide) (fun v74 => [(4, .long v74), (6, .int (nI j)), (0, .ref 97), (1, .int x), (2, .long v5)]) (fun _ => rfl) (fun v74 ev74 => ?_)
            refine g_iinc C (pc := 76) (1) dX12_one_76 1 rfl (by decide) (by decide) (fun v76 => [(6, .int v76), (4, .long v74), (0, .ref 97), (1, .int x), (2, .long v5)]) (fun _ => rfl) (fun v76 ev76 => ?_)
            refine g_goto C (pc := 79) 29 dX12_one_79 (by decide) ?_
            refine g_lv C [0, 1, 2, 3, 4] rfl (ih29 (j + 1) _ _ _ ?_ ?_ ?_ ?_ ?_ (by omega))
            · subst ev76; exact nI_1 _
            · omega
            · rw [ev74]
              first
              | (rw [hS, e69, hod, nI_l (by omega), lN_mul, lN_add, smP]; done)
              | (rw [hS, smP, ho0, Nat.zero_mul, Nat.add_zero]; exact Int64.add_zero _)
            · first | exact q69 | exact hqJ
            · first | exact hlw.trans k69 | exact hlw
    refine g_lv C [0, 1, 3, 4, 2] rfl (L29 (_ + 1) 0 _ _ _ ?_ ?_ ?_ ?_ ?_ (by first | omega | exact Nat.lt_succ_self _))
    · subst ev27; rfl
    · omega
    · subst ev24; rfl
    · exact hqb
    · exact Lw.rfl'
  · have hov : lostB F b ≠ none := fun h9 => c12 (by rw [e7, h9]; rfl)
    refine g_aload_n C (pc := 15) dX12_one_15 1 rfl ?_
    refine g_iload_n C (pc := 16) dX12_one_16 2 rfl ?_
    refine g_callVL C (pc := 17) mf_X12_wonNow lk_RX12_260 (c_X12_wonNow n ρ I F b sd x hn9 hms hqf hrw hqb hbw hl1 hsd hx) (by decide) (Nat.le_refl _) rfl (by first | assumption | rfl | omega) rfl (by first | assumption | rfl | omega) (Nat.le_of_ble_eq_true rfl) dX12_one_17 (fun v17 I17 h17 => ?_)
    obtain ⟨e17, rfl⟩ := h17
    refine g_lload_n C (pc := 20) dX12_one_20 0 rfl ?_
    refine g_lmul C (pc := 21) dX12_one_21 ?_
    refine g_lret C hR (pc := 22) rfl dX12_one_22 ?_
    refine ⟨rfl, _, rfl, ?_⟩
    refine ⟨?_, Lw.rfl'⟩
    rw [val_ov hov, ← lN_mul, e17, ev5, e1, nI_l (by omega)]
set_option maxHeartbeats 1600000 in
theorem c_X12_windOfTwo (n : Nat) (ρ : Rho) (I : Mem) (F : RT) (b : BT) (sd w : Nat) (x z : Int32) (hn9 : n ≤ 999) (hms : MS n ρ) (hqf : QF I F) (hrw : RW F) (hqe : QE I F) (hqb : QB I F b) (hbw : BW F b) (hl1 : L1 F b) (hpw : PW F b) (hsd : sd < 2) (hx : x = nI sd) (hw : w < 5) (hz : z = nI w) : ML yX12_windOfTwo cX12_windOfTwo 12 (some .long) 6 [.ref 97, .int x, .int z] n ρ I (fun v I1 => v = lN (valW F sd 1 b w) ∧ I1 97 29 = oI (chW F sd 1 b w) ∧ QB I1 F b ∧ Lw 2 I I1) := by
  refine MG.of (by decide +kernel) (Nat.le_of_ble_eq_true rfl) hn9 ?_
  intro κ C hR
  show G κ n ρ 0 [(0, .ref 97), (1, .int x), (2, .int z)] [] I
  obtain ⟨mn, ⟨m0, m1, m5, m6, m7, m11, m12, m15⟩, ⟨m23, m24, m26, m27, m28, m30, m31, m32, m33⟩, ⟨m38, m39, m40, m42⟩⟩ := id hms
  obtain ⟨qw, qh, qn, qk⟩ := id hqf
  have hn6 : rN F ≤ 6 := hrw.2.2.2.2.1
  have hm25 := Nat.mul_le_mul hrw.2.1 hrw.2.2.2.1
  have hm4 := Nat.mul_le_mul hrw.1 hrw.2.2.1
  have hAO := allO_le hrw
  refine g_aload_n C (pc := 0) dX12_windOfTwo_0 0 rfl ?_
  refine g_iload_n C (pc := 1) dX12_windOfTwo_1 2 rfl ?_
  refine g_iconst C (pc := 2) 1 dX12_windOfTwo_2 (by decide) ?_
  refine g_callVV C (pc := 3) mf_X12_findMoves lk_RX12_247 (c_X12_findMovesD n ρ I F b w 1 _ _ hn9 hms hqf hrw hqe hqb hbw hl1 hpw hw (by decide) hz rfl) (by decide) (Nat.le_refl _) rfl (by first | assumption | rfl | omega) rfl (by first | assumption | rfl | omega) (Nat.le_of_ble_eq_true rfl) dX12_windOfTwo_3 (fun I3 h3 => ?_)
  obtain ⟨f3, a3, b3, g3⟩ := h3
  have hml9 := mvs_len (F := F) (b := b) (w := w) hn6
  refine g_aload_n C (pc := 6) dX12_windOfTwo_6 0 rfl ?_
  refine g_iconst C (pc := 7) 1 dX12_windOfTwo_7 (by decide) ?_
  refine g_callVV C (pc := 8) mf_X12_saves lk_RX12_254 (c_X12_savesD n ρ I3 F b 1 _ hn9 hms (hqf.kp (Kp.fm g3)) hrw (hqb.cong (fun k _ => by rw [g3 106 (by decide) (by decide)]) (fun k _ => by rw [g3 107 (by decide) (by decide)]) (by rw [g3 97 (by decide) (by decide)]) hn6) hbw (by decide) rfl) (by decide) (Nat.le_refl _) rfl (by first | assumption | rfl | omega) rfl (by first | assumption | rfl | omega) (Nat.le_of_ble_eq_true rfl) dX12_windOfTwo_8 (fun I8 h8 => ?_)
  obtain ⟨f8, a8, g8⟩ := h8
  refine g_aload_n C (pc := 11) dX12_windOfTwo_11 0 rfl ?_
  refine g_getI C (pc := 12) fl_RX12_204 (by decide) (by first | assumption | rfl | omega) (by first | assumption | rfl | omega) dX12_windOfTwo_12 ?_
  refine g_iload_n C (pc := 15) dX12_windOfTwo_15 1 rfl ?_
  refine g_icmp_ne C (pc := 16) 23 dX12_windOfTwo_16 (by decide) (fun c16 => ?_) (fun c16 => ?_)
  · refine g_iconst C (pc := 23) 0 dX12_windOfTwo_23 (by decide) ?_
    refine g_istore_n C (pc := 24) dX12_windOfTwo_24 (by decide) (fun v24 => [(3, .int v24), (0, .ref 97), (1, .int x), (2, .int z)]) (fun _ => rfl) (fun v24 ev24 => ?_)
    refine g_lconst C (pc := 25) 0 dX12_windOfTwo_25 (by decide) ?_
    have h24 : v24 = bI ((bM b == sd) = true) := by
      have hM2 := hbw.1
      first
      | (rw [bI_t (by have h9 : I8 97 25 = x := c16; rw [g8 97 (by decide), g3 97 (by decide) (by decide), hqb.2, hx] at h9; rw [(nI_eq (by omega) (by omega)).mp h9]; exact beq_self_eq_true _)]; exact ev24)
      | (rw [bI_f (fun h8 => c16 (by show I8 97 25 = x; rw [g8 97 (by decide), g3 97 (by decide) (by decide), hqb.2, hx, eq_of_beq h8]))]; exact ev24)
    refine g_lstore C (pc := 26) dX12_windOfTwo_26 (by decide) (fun v26 => [(4, .long v26), (3, .int v24), (0, .ref 97), (1, .int x), (2, .int z)]) (fun _ => rfl) (fun v26 ev26 => ?_)
    refine g_bipush C (pc := 28) (-4) dX12_windOfTwo_28 (by decide) ?_
    refine g_istore C (pc := 30) dX12_windOfTwo_30 (by decide) (fun v30 => [(6, .int v30), (4, .long v26), (3, .int v24), (0, .ref 97), (1, .int x), (2, .int z)]) (fun _ => rfl) (fun v30 ev30 => ?_)
    refine g_aload_n C (pc := 32) dX12_windOfTwo_32 3 rfl ?_
    refine g_getR C (pc := 33) fl_RX12_44 (by decide) (by first | assumption | rfl | omega) (by first | assumption | rfl | omega) (by first | assumption | rfl | omega) dX12_windOfTwo_33 ?_
    refine g_iconst C (pc := 36) 1 dX12_windOfTwo_36 (by decide) ?_
    refine g_iald C (pc := 37) (by first | assumption | rfl | omega) (by first | assumption | rfl | omega) (vp_in_nI (n := 1) (by decide) (by decide)) dX12_windOfTwo_37 ?_
    refine g_if_ne C (pc := 38) 45 dX12_windOfTwo_38 (by decide) (fun c38 => ?_) (fun c38 => ?_)
    · refine g_aload_n C (pc := 45) dX12_windOfTwo_45 3 rfl ?_
      refine g_getR C (pc := 46) fl_RX12_44 (by decide) (by first | assumption | rfl | omega) (by first | assumption | rfl | omega) (by first | assumption | rfl | omega) dX12_windOfTwo_46 ?_
      refine g_iconst C (pc := 49) 1 dX12_windOfTwo_49 (by decide) ?_
      refine g_iald C (pc := 50) (by first | assumption | rfl | omega) (by first | assumption | rfl | omega) (vp_in_nI (n := 1) (by decide) (by decide)) dX12_windOfTwo_50 ?_
      refine g_istore C (pc := 51) dX12_windOfTwo_51 (by decide) (fun v51 => [(7, .int v51), (6, .int v30), (4, .long v26), (3, .int v24), (0, .ref 97), (1, .int x), (2, .int z)]) (fun _ => rfl) (fun v51 ev51 => ?_)
      have h51 : v51 = nI (cntM F b w) := by
        rw [ev51]
        have h9 : I8 109 1 = nI (mvs F b w).length := by rw [g8 109 (by decide)]; exact f3.1
        unfold cntM
        first
        | (rw [if_pos ((nI_eq (b := 0) (by omega) (by decide)).mp (h9.symm.trans c38))]; rfl)
        | (rw [if_neg (fun h8 => c38 (h9.trans (by rw [h8]; rfl)))]; exact h9)
      refine g_iconst C (pc := 53) 0 dX12_windOfTwo_53 (by decide) ?_
      refine g_istore C (pc := 54) dX12_windOfTwo_54 (by decide) (fun v54 => [(8, .int v54), (7, .int v51), (6, .int v30), (4, .long v26), (3, .int v24), (0, .ref 97), (1, .int x), (2, .int z)]) (fun _ => rfl) (fun v54 ev54 => ?_)
      have L56 : ∀ (k9 : Nat) (j : Nat) (wz8 : Int32) (wz4 : Int64) (wz6 : Int32) (J : Mem) (hw8 : wz8 = nI j) (hj : j ≤ cntM F b w) (h4 : wz4 = lN (((bstK (bM b == sd) (valF F sd 1 b w) j).map (fun q => q.1)).getD 0)) (h6 : wz6 = oI ((bstK (bM b == sd) (valF F sd 1 b w) j).map (fun q => q.2))) (hsv : SvB J F 1 b) (hfm : FMv J F b w 1) (hlw : Lw 2 I J), cntM F b w - j < k9 → G κ n ρ 56 [(8, .int wz8), (4, .long wz4), (6, .int wz6), (3, .int v24), (7, .int v51), (0, .ref 97), (1, .int x), (2, .int z)] [] J := by
        intro k9
        induction k9 with
        | zero => intro j wz8 wz4 wz6 J hw8 hj h4 h6 hsv hfm hlw hm56; exact absurd hm56 (Nat.not_lt_zero _)
        | succ k9 ih56 =>
          intro j wz8 wz4 wz6 J hw8 hj h4 h6 hsv hfm hlw hm56
          subst hw8
          have hcl := cntM_le (F := F) (b := b) (w := w) hn6
          have hml := mvs_len (F := F) (b := b) (w := w) hn6
          have hkJ := hlw.1
          refine g_iload C (pc := 56) dX12_windOfTwo_56 0 rfl ?_
          refine g_iload C (pc := 58) dX12_windOfTwo_58 4 rfl ?_
          refine g_icmp_ge C (pc := 60) 159 dX12_windOfTwo_60 (by decide) (fun c60 => ?_) (fun c60 => ?_)
          · rw [h51, nI_leI (by omega) (by omega)] at c60
            refine g_aload_n C (pc := 159) dX12_windOfTwo_159 5 rfl ?_
            refine g_iconst C (pc := 160) 1 dX12_windOfTwo_160 (by decide) ?_
            refine g_callVV C (pc := 161) mf_X12_returns lk_RX12_257 (c_X12_returnsD n ρ J F b 1 _ hn9 hms (hqf.kp hkJ) hrw hsv (by decide) rfl) (by decide) (Nat.le_refl _) rfl (by first | assumption | rfl | omega) rfl (by first | assumption | rfl | omega) (Nat.le_of_ble_eq_true rfl) dX12_windOfTwo_161 (fun I161 h161 => ?_)
            obtain ⟨f161, a161, g161⟩ := h161
            refine g_aload_n C (pc := 164) dX12_windOfTwo_164 5 rfl ?_
            refine g_aload_n C (pc := 165) dX12_windOfTwo_165 5 rfl ?_
            refine g_getR C (pc := 166) fl_RX12_44 (by decide) (by first | assumption | rfl | omega) (by first | assumption | rfl | omega) (by first | assumption | rfl | omega) dX12_windOfTwo_166 ?_
            refine g_iconst C (pc := 169) 1 dX12_windOfTwo_169 (by decide) ?_
            refine g_iald C (pc := 170) (by first | assumption | rfl | omega) (by first | assumption | rfl | omega) (vp_in_nI (n := 1) (by decide) (by decide)) dX12_windOfTwo_170 ?_
            refine g_if_ne C (pc := 171) 179 dX12_windOfTwo_171 (by decide) (fun c171 => ?_) (fun c171 => ?_)
            · refine g_iload C (pc := 179) dX12_windOfTwo_179 2 rfl ?_
              refine g_putI C (pc := 181) fl_RX12_268 (by decide) fp_11_29 (Or.inl rfl) ⟨rfl, rfl⟩ (by first | assumption | rfl | omega) (by first | assumption | rfl | omega) hn9 dX12_windOfTwo_181 ?_
              refine g_lload C (pc := 184) dX12_windOfTwo_184 1 rfl ?_
              refine g_lret C hR (pc := 186) rfl dX12_windOfTwo_186 ?_
              refine ⟨rfl, _, rfl, ?_⟩
              have hjc : j = cntM F b w := by omega
              subst hjc
              have hl5 : Lw 2 I I161 := hlw.trans ((Lw.qb a161 g161).up (by decide))
              refine ⟨h4, ?_, f161.cong (fun _ _ => by rw [wr_n (by decide)]) (fun _ _ => by rw [wr_n (by decide)]) (by rw [wr_sn (by decide)]) hn6, hl5.trans ((Lw.sc (by decide) (by decide)).up (Nat.zero_le _))⟩
              rw [wr_ss]
              have h9 : I161 109 1 = nI (mvs F b w).length := by rw [g161 109 (by decide) (by decide) (by decide)]; exact hfm.1
              unfold chW
              first
              | (rw [if_pos ((nI_eq (b := 0) (by omega) (by decide)).mp (h9.symm.trans c171))]; rfl)
              | (rw [if_neg (fun h8 => c171 (h9.trans (by rw [h8]; rfl)))]; exact h6)
            · refine g_bipush C (pc := 174) (-4) dX12_windOfTwo_174 (by decide) ?_
              refine g_goto C (pc := 176) 181 dX12_windOfTwo_176 (by decide) ?_
              refine g_putI C (pc := 181) fl_RX12_268 (by decide) fp_11_29 (Or.inl rfl) ⟨rfl, rfl⟩ (by first | assumption | rfl | omega) (by first | assumption | rfl | omega) hn9 dX12_windOfTwo_181 ?_
              refine g_lload C (pc := 184) dX12_windOfTwo_184 1 rfl ?_
              refine g_lret C hR (pc := 186) rfl dX12_windOfTwo_186 ?_
              refine ⟨rfl, _, rfl, ?_⟩
              have hjc : j = cntM F b w := by omega
              subst hjc
              have hl5 : Lw 2 I I161 := hlw.trans ((Lw.qb a161 g161).up (by decide))
              refine ⟨h4, ?_, f161.cong (fun _ _ => by rw [wr_n (by decide)]) (fun _ _ => by rw [wr_n (by decide)]) (by rw [wr_sn (by decide)]) hn6, hl5.trans ((Lw.sc (by decide) (by decide)).up (Nat.zero_le _))⟩
              rw [wr_ss]
              have h9 : I161 109 1 = nI (mvs F b w).length := by rw [g161 109 (by decide) (by decide) (by decide)]; exact hfm.1
              unfold chW
              first
              | (rw [if_pos ((nI_eq (b := 0) (by omega) (by decide)).mp (h9.symm.trans c171))]; rfl)
              | (rw [if_neg (fun h8 => c171 (h9.trans (by rw [h8]; rfl)))]; exact h6)
          · rw [h51, nI_ltI (by omega) (by omega)] at c60
            refine g_aload_n C (pc := 63) dX12_windOfTwo_63 5 rfl ?_
            refine g_iconst C (pc := 64) 1 dX12_windOfTwo_64 (by decide) ?_
            refine g_callVV C (pc := 65) mf_X12_returns lk_RX12_257 (c_X12_returnsD n ρ J F b 1 _ hn9 hms (hqf.kp hkJ) hrw hsv (by decide) rfl) (by decide) (Nat.le_refl _) rfl (by first | assumption | rfl | omega) rfl (by first | assumption | rfl | omega) (Nat.le_of_ble_eq_true rfl) dX12_windOfTwo_65 (fun I65 h65 => ?_)
            obtain ⟨f65, a65, g65⟩ := h65
            have hl2 : Lw 0 J I65 := Lw.qb a65 g65
            have hlw2 : Lw 2 I I65 := hlw.trans (hl2.up (by decide))
            have hsv2 : SvB I65 F 1 b := hsv.lw (hl2.up (by decide)) hn6
            have hfm2 : FMv I65 F b w 1 := hfm.lw (hl2.up (by decide)) hn6
            refine g_aload_n C (pc := 68) dX12_windOfTwo_68 5 rfl ?_
            refine g_iload_n C (pc := 69) dX12_windOfTwo_69 7 rfl ?_
            refine g_aload_n C (pc := 70) dX12_windOfTwo_70 5 rfl ?_
            refine g_getR C (pc := 71) fl_RX12_44 (by decide) (by first | assumption | rfl | omega) (by first | assumption | rfl | omega) (by first | assumption | rfl | omega) dX12_windOfTwo_71 ?_
            refine g_iconst C (pc := 74) 1 dX12_windOfTwo_74 (by decide) ?_
            refine g_iald C (pc := 75) (by first | assumption | rfl | omega) (by first | assumption | rfl | omega) (vp_in_nI (n := 1) (by decide) (by decide)) dX12_windOfTwo_75 ?_
            refine g_if_ne C (pc := 76) 84 dX12_windOfTwo_76 (by decide) (fun c76 => ?_) (fun c76 => ?_)
            · have hjl : j < (mvs F b w).length := by
                have h9 : ¬ I65 109 1 = 0 := c76
                rw [hfm2.1] at h9
                have h8 : (mvs F b w).length ≠ 0 := fun h => h9 (by rw [h]; rfl)
                unfold cntM at c60
                rw [if_neg h8] at c60; exact c60
              have hmx9 : I65 108 (64 + nI j).toNatClampNeg = oI ((mvs F b w)[j]?) := by
                have hk9 := List.getElem?_eq_getElem hjl
                have h9 := hfm2.2 j _ hk9
                rw [hk9, show (64 : Int32) = nI 64 from rfl, nI_add, nI_clamp (by omega)]; exact h9
              refine g_aload_n C (pc := 84) dX12_windOfTwo_84 5 rfl ?_
              refine g_getR C (pc := 85) fl_RX12_41 (by decide) (by first | assumption | rfl | omega) (by first | assumption | rfl | omega) (by first | assumption | rfl | omega) dX12_windOfTwo_85 ?_
              refine g_bipush C (pc := 88) 64 dX12_windOfTwo_88 (by decide) ?_
              refine g_iload C (pc := 90) dX12_windOfTwo_90 0 rfl ?_
              refine g_iadd C (pc := 92) dX12_windOfTwo_92 ?_
              refine g_iald C (pc := 93) (by first | assumption | rfl | omega) (by first | assumption | rfl | omega) (by rw [show (64 : Int32) = nI 64 from rfl, nI_add]; exact vp_in_nI (by omega) (by decide)) dX12_windOfTwo_93 ?_
              refine g_callVI C (pc := 94) mf_X12_goes lk_RX12_251 (c_X12_goesE n ρ I65 F b w ((mvs F b w)[j]?) _ z hn9 hms (hqf.kp hlw2.1) hrw f65 hbw hw (mvs_K hrw) (hmx9) hz) (by decide) (Nat.le_refl _) rfl (by first | assumption | rfl | omega) rfl (by first | assumption | rfl | omega) (Nat.le_of_ble_eq_true rfl) dX12_windOfTwo_94 (fun v94 I94 h94 => ?_)
              obtain ⟨e94, f94, a94, g94⟩ := h94
              have hl3 : Lw 0 I65 I94 := Lw.qb a94 g94
              replace hlw2 := hlw2
              have hbw2 : BW F (playB F b w ((mvs F b w)[j]?)) := (mvs_K hrw).bw hrw hbw
              have hl12 : L1 F (playB F b w ((mvs F b w)[j]?)) := L1_play hl1
              have hpw2 : PW F (playB F b w ((mvs F b w)[j]?)) := PW_play (mvs_K hrw) hrw hpw
              refine g_pop C (pc := 97) dX12_windOfTwo_97 rfl ?_
              refine g_aload_n C (pc := 98) dX12_windOfTwo_98 5 rfl ?_
              refine g_iload_n C (pc := 99) dX12_windOfTwo_99 6 rfl ?_
              refine g_callVL C (pc := 100) mf_X12_one lk_RX12_275 (c_X12_one n ρ I94 F (playB F b w ((mvs F b w)[j]?)) sd x hn9 hms (hqf.kp (hlw2.trans (hl3.up (by decide))).1) hrw (hqe.kp (hlw2.trans (hl3.up (by decide))).1) f94 hbw2 hl12 hpw2 hsd hx) (by decide) (Nat.le_refl _) rfl (by first | assumption | rfl | omega) rfl (by first | assumption | rfl | omega) (Nat.le_of_ble_eq_true rfl) dX12_windOfTwo_100 (fun v100 I100 h100 => ?_)
              obtain ⟨e100, k100⟩ := h100
              have hlI : Lw 1 I65 I100 := (hl3.up (by decide)).trans k100
              have hvf : v100 = lN ((valF F sd 1 b w) j) := e100
              refine g_lstore C (pc := 103) dX12_windOfTwo_103 (by decide) (fun v103 => [(9, .long v103), (8, .int (nI j)), (4, .long wz4), (6, .int wz6), (3, .int v24), (7, .int v51), (0, .ref 97), (1, .int x), (2, .int z)]) (fun _ => rfl) (fun v103 ev103 => ?_)
              refine g_iload C (pc := 105) dX12_windOfTwo_105 1 rfl ?_
              refine g_if_ne C (pc := 107) 114 dX12_windOfTwo_107 (by decide) (fun c107 => ?_) (fun c107 => ?_)
              · refine g_iconst C (pc := 114) 0 dX12_windOfTwo_114 (by decide) ?_
                refine g_iload_n C (pc := 115) dX12_windOfTwo_115 4 rfl ?_
                refine g_lload C (pc := 116) dX12_windOfTwo_116 0 rfl ?_
                refine g_lload C (pc := 118) dX12_windOfTwo_118 2 rfl ?_
                refine g_callSI C (pc := 120) mf_X12_isBetter lk_RX12_264 (c_X12_isBetter n ρ _ _ _ _ _ hn9) (by decide) (Nat.le_refl _) rfl (Nat.le_of_ble_eq_true rfl) dX12_windOfTwo_120 (fun v120 I120 h120 => ?_)
                obtain ⟨e120, rfl⟩ := h120
                refine g_istore C (pc := 123) dX12_windOfTwo_123 (by decide) (fun v123 => [(11, .int v123), (9, .long v103), (8, .int (nI j)), (4, .long wz4), (6, .int wz6), (3, .int v24), (7, .int v51), (0, .ref 97), (1, .int x), (2, .int z)]) (fun _ => rfl) (fun v123 ev123 => ?_)
                have hup := bst_upd (wants := (bM b == sd)) (f := (valF F sd 1 b w)) (j := j) (z4 := wz4) (z6 := wz6) (fl := bI (j = 0)) (own := v24) (u := v123) (fun i _ => (by show val F sd 1 (playB F b w ((mvs F b w)[i]?)) < 2 ^ 31; have h9 := val_le (F := F) (sd := sd) 1 (playB F b w ((mvs F b w)[i]?)); have h8 := pw3 (a := allO F) (k := 1) hAO (by decide); omega)) h4 h6 rfl h24 (by
                  rw [ev123, e120, ev103, hvf]
                  first
                  | (rw [bI_t (c := j = 0) ((nI_eq (b := 0) (by omega) (by decide)).mp c107)]; done)
                  | (rw [bI_f (c := j = 0) (fun h => c107 (by rw [h]; rfl))]; done))
                refine g_iload C (pc := 125) dX12_windOfTwo_125 0 rfl ?_
                refine g_if_eq C (pc := 127) 135 dX12_windOfTwo_127 (by decide) (fun c127 => ?_) (fun c127 => ?_)
                · refine g_iload C (pc := 135) dX12_windOfTwo_135 4 rfl ?_
                  refine g_istore C (pc := 137) dX12_windOfTwo_137 (by decide) (fun v137 => [(6, .int v137), (11, .int v123), (9, .long v103), (8, .int (nI j)), (4, .long wz4), (3, .int v24), (7, .int v51), (0, .ref 97), (1, .int x), (2, .int z)]) (fun _ => rfl) (fun v137 ev137 => ?_)
                  refine g_iload C (pc := 139) dX12_windOfTwo_139 1 rfl ?_
                  refine g_if_eq C (pc := 141) 149 dX12_windOfTwo_141 (by decide) (fun c141 => ?_) (fun c141 => ?_)
                  · refine g_lload C (pc := 149) dX12_windOfTwo_149 4 rfl ?_
                    refine g_lstore C (pc := 151) dX12_windOfTwo_151 (by decide) (fun v151 => [(4, .long v151), (6, .int v137), (11, .int v123), (9, .long v103), (8, .int (nI j)), (3, .int v24), (7, .int v51), (0, .ref 97), (1, .int x), (2, .int z)]) (fun _ => rfl) (fun v151 ev151 => ?_)
                    refine g_iinc C (pc := 153) (1) dX12_windOfTwo_153 4 rfl (by decide) (by decide) (fun v153 => [(8, .int v153), (4, .long v151), (6, .int v137), (11, .int v123), (9, .long v103), (3, .int v24), (7, .int v51), (0, .ref 97), (1, .int x), (2, .int z)]) (fun _ => rfl) (fun v153 ev153 => ?_)
                    refine g_goto C (pc := 156) 56 dX12_windOfTwo_156 (by decide) ?_
                    refine g_lv C [0, 1, 2, 5, 6, 7, 8, 9] rfl (ih56 (j + 1) _ _ _ _ ?_ ?_ ?_ ?_ ?_ ?_ ?_ (by omega))
                    · subst ev153; exact nI_1 _
                    · omega
                    · rw [ev151]; first | exact (ev103.trans hvf).trans (hup.1 c127).1 | exact (hup.2 c127).1
                    · rw [ev137]; first | exact (hup.1 c127).2 | exact (hup.2 c127).2
                    · exact hsv2.lw hlI hn6
                    · exact hfm2.lw hlI hn6
                    · exact hlw2.trans (hlI.up (by decide))
                  · exact absurd c127 c141
                · refine g_iload C (pc := 130) dX12_windOfTwo_130 2 rfl ?_
                  refine g_goto C (pc := 132) 137 dX12_windOfTwo_132 (by decide) ?_
                  refine g_istore C (pc := 137) dX12_windOfTwo_137 (by decide) (fun v137 => [(6, .int v137), (11, .int v123), (9, .long v103), (8, .int (nI j)), (4, .long wz4), (3, .int v24), (7, .int v51), (0, .ref 97), (1, .int x), (2, .int z)]) (fun _ => rfl) (fun v137 ev137 => ?_)
                  refine g_iload C (pc := 139) dX12_windOfTwo_139 1 rfl ?_
                  refine g_if_eq C (pc := 141) 149 dX12_windOfTwo_141 (by decide) (fun c141 => ?_) (fun c141 => ?_)
                  · exact absurd c141 c127
                  · refine g_lload C (pc := 144) dX12_windOfTwo_144 2 rfl ?_
                    refine g_goto C (pc := 146) 151 dX12_windOfTwo_146 (by decide) ?_
                    refine g_lstore C (pc := 151) dX12_windOfTwo_151 (by decide) (fun v151 => [(4, .long v151), (6, .int v137), (11, .int v123), (9, .long v103), (8, .int (nI j)), (3, .int v24), (7, .int v51), (0, .ref 97), (1, .int x), (2, .int z)]) (fun _ => rfl) (fun v151 ev151 => ?_)
                    refine g_iinc C (pc := 153) (1) dX12_windOfTwo_153 4 rfl (by decide) (by decide) (fun v153 => [(8, .int v153), (4, .long v151), (6, .int v137), (11, .int v123), (9, .long v103), (3, .int v24), (7, .int v51), (0, .ref 97), (1, .int x), (2, .int z)]) (fun _ => rfl) (fun v153 ev153 => ?_)
                    refine g_goto C (pc := 156) 56 dX12_windOfTwo_156 (by decide) ?_
                    refine g_lv C [0, 1, 2, 5, 6, 7, 8, 9] rfl (ih56 (j + 1) _ _ _ _ ?_ ?_ ?_ ?_ ?_ ?_ ?_ (by omega))
                    · subst ev153; exact nI_1 _
                    · omega
                    · rw [ev151]; first | exact (ev103.trans hvf).trans (hup.1 c127).1 | exact (hup.2 c127).1
                    · rw [ev137]; first | exact (hup.1 c127).2 | exact (hup.2 c127).2
                    · exact hsv2.lw hlI hn6
                    · exact hfm2.lw hlI hn6
                    · exact hlw2.trans (hlI.up (by decide))
              · refine g_iconst C (pc := 110) 1 dX12_windOfTwo_110 (by decide) ?_
                refine g_goto C (pc := 111) 115 dX12_windOfTwo_111 (by decide) ?_
                refine g_iload_n C (pc := 115) dX12_windOfTwo_115 4 rfl ?_
                refine g_lload C (pc := 116) dX12_windOfTwo_116 0 rfl ?_
                refine g_lload C (pc := 118) dX12_windOfTwo_118 2 rfl ?_
                refine g_callSI C (pc := 120) mf_X12_isBetter lk_RX12_264 (c_X12_isBetter n ρ _ _ _ _ _ hn9) (by decide) (Nat.le_refl _) rfl (Nat.le_of_ble_eq_true rfl) dX12_windOfTwo_120 (fun v120 I120 h120 => ?_)
                obtain ⟨e120, rfl⟩ := h120
                refine g_istore C (pc := 123) dX12_windOfTwo_123 (by decide) (fun v123 => [(11, .int v123), (9, .long v103), (8, .int (nI j)), (4, .long wz4), (6, .int wz6), (3, .int v24), (7, .int v51), (0, .ref 97), (1, .int x), (2, .int z)]) (fun _ => rfl) (fun v123 ev123 => ?_)
                have hup := bst_upd (wants := (bM b == sd)) (f := (valF F sd 1 b w)) (j := j) (z4 := wz4) (z6 := wz6) (fl := bI (j = 0)) (own := v24) (u := v123) (fun i _ => (by show val F sd 1 (playB F b w ((mvs F b w)[i]?)) < 2 ^ 31; have h9 := val_le (F := F) (sd := sd) 1 (playB F b w ((mvs F b w)[i]?)); have h8 := pw3 (a := allO F) (k := 1) hAO (by decide); omega)) h4 h6 rfl h24 (by
                  rw [ev123, e120, ev103, hvf]
                  first
                  | (rw [bI_t (c := j = 0) ((nI_eq (b := 0) (by omega) (by decide)).mp c107)]; done)
                  | (rw [bI_f (c := j = 0) (fun h => c107 (by rw [h]; rfl))]; done))
                refine g_iload C (pc := 125) dX12_windOfTwo_125 0 rfl ?_
                refine g_if_eq C (pc := 127) 135 dX12_windOfTwo_127 (by decide) (fun c127 => ?_) (fun c127 => ?_)
                · refine g_iload C (pc := 135) dX12_windOfTwo_135 4 rfl ?_
                  refine g_istore C (pc := 137) dX12_windOfTwo_137 (by decide) (fun v137 => [(6, .int v137), (11, .int v123), (9, .long v103), (8, .int (nI j)), (4, .long wz4), (3, .int v24), (7, .int v51), (0, .ref 97), (1, .int x), (2, .int z)]) (fun _ => rfl) (fun v137 ev137 => ?_)
                  refine g_iload C (pc := 139) dX12_windOfTwo_139 1 rfl ?_
                  refine g_if_eq C (pc := 141) 149 dX12_windOfTwo_141 (by decide) (fun c141 => ?_) (fun c141 => ?_)
                  · refine g_lload C (pc := 149) dX12_windOfTwo_149 4 rfl ?_
                    refine g_lstore C (pc := 151) dX12_windOfTwo_151 (by decide) (fun v151 => [(4, .long v151), (6, .int v137), (11, .int v123), (9, .long v103), (8, .int (nI j)), (3, .int v24), (7, .int v51), (0, .ref 97), (1, .int x), (2, .int z)]) (fun _ => rfl) (fun v151 ev151 => ?_)
                    refine g_iinc C (pc := 153) (1) dX12_windOfTwo_153 4 rfl (by decide) (by decide) (fun v153 => [(8, .int v153), (4, .long v151), (6, .int v137), (11, .int v123), (9, .long v103), (3, .int v24), (7, .int v51), (0, .ref 97), (1, .int x), (2, .int z)]) (fun _ => rfl) (fun v153 ev153 => ?_)
                    refine g_goto C (pc := 156) 56 dX12_windOfTwo_156 (by decide) ?_
                    refine g_lv C [0, 1, 2, 5, 6, 7, 8, 9] rfl (ih56 (j + 1) _ _ _ _ ?_ ?_ ?_ ?_ ?_ ?_ ?_ (by omega))
                    · subst ev153; exact nI_1 _
                    · omega
                    · rw [ev151]; first | exact (ev103.trans hvf).trans (hup.1 c127).1 | exact (hup.2 c127).1
                    · rw [ev137]; first | exact (hup.1 c127).2 | exact (hup.2 c127).2
                    · exact hsv2.lw hlI hn6
                    · exact hfm2.lw hlI hn6
                    · exact hlw2.trans (hlI.up (by decide))
                  · exact absurd c127 c141
                · refine g_iload C (pc := 130) dX12_windOfTwo_130 2 rfl ?_
                  refine g_goto C (pc := 132) 137 dX12_windOfTwo_132 (by decide) ?_
                  refine g_istore C (pc := 137) dX12_windOfTwo_137 (by decide) (fun v137 => [(6, .int v137), (11, .int v123), (9, .long v103), (8, .int (nI j)), (4, .long wz4), (3, .int v24), (7, .int v51), (0, .ref 97), (1, .int x), (2, .int z)]) (fun _ => rfl) (fun v137 ev137 => ?_)
                  refine g_iload C (pc := 139) dX12_windOfTwo_139 1 rfl ?_
                  refine g_if_eq C (pc := 141) 149 dX12_windOfTwo_141 (by decide) (fun c141 => ?_) (fun c141 => ?_)
                  · exact absurd c141 c127
                  · refine g_lload C (pc := 144) dX12_windOfTwo_144 2 rfl ?_
                    refine g_goto C (pc := 146) 151 dX12_windOfTwo_146 (by decide) ?_
                    refine g_lstore C (pc := 151) dX12_windOfTwo_151 (by decide) (fun v151 => [(4, .long v151), (6, .int v137), (11, .int v123), (9, .long v103), (8, .int (nI j)), (3, .int v24), (7, .int v51), (0, .ref 97), (1, .int x), (2, .int z)]) (fun _ => rfl) (fun v151 ev151 => ?_)
                    refine g_iinc C (pc := 153) (1) dX12_windOfTwo_153 4 rfl (by decide) (by decide) (fun v153 => [(8, .int v153), (4, .long v151), (6, .int v137), (11, .int v123), (9, .long v103), (3, .int v24), (7, .int v51), (0, .ref 97), (1, .int x), (2, .int z)]) (fun _ => rfl) (fun v153 ev153 => ?_)
                    refine g_goto C (pc := 156) 56 dX12_windOfTwo_156 (by decide) ?_
                    refine g_lv C [0, 1, 2, 5, 6, 7, 8, 9] rfl (ih56 (j + 1) _ _ _ _ ?_ ?_ ?_ ?_ ?_ ?_ ?_ (by omega))
                    · subst ev153; exact nI_1 _
                    · omega
                    · rw [ev151]; first | exact (ev103.trans hvf).trans (hup.1 c127).1 | exact (hup.2 c127).1
                    · rw [ev137]; first | exact (hup.1 c127).2 | exact (hup.2 c127).2
                    · exact hsv2.lw hlI hn6
                    · exact hfm2.lw hlI hn6
                    · exact hlw2.trans (hlI.up (by decide))
            · have hjl : (mvs F b w).length = 0 := by
                have h9 : I65 109 1 = 0 := c76
                rw [hfm2.1] at h9
                exact (nI_eq (b := 0) (by omega) (by decide)).mp h9
              have hmx9 : (-4 : Int32) = oI ((mvs F b w)[j]?) := by rw [List.getElem?_eq_none (by omega)]; rfl
              refine g_bipush C (pc := 79) (-4) dX12_windOfTwo_79 (by decide) ?_
              refine g_goto C (pc := 81) 94 dX12_windOfTwo_81 (by decide) ?_
              refine g_callVI C (pc := 94) mf_X12_goes lk_RX12_251 (c_X12_goesE n ρ I65 F b w ((mvs F b w)[j]?) _ z hn9 hms (hqf.kp hlw2.1) hrw f65 hbw hw (mvs_K hrw) (hmx9) hz) (by decide) (Nat.le_refl _) rfl (by first | assumption | rfl | omega) rfl (by first | assumption | rfl | omega) (Nat.le_of_ble_eq_true rfl) dX12_windOfTwo_94 (fun v94 I94 h94 => ?_)
              obtain ⟨e94, f94, a94, g94⟩ := h94
              have hl3 : Lw 0 I65 I94 := Lw.qb a94 g94
              replace hlw2 := hlw2
              have hbw2 : BW F (playB F b w ((mvs F b w)[j]?)) := (mvs_K hrw).bw hrw hbw
              have hl12 : L1 F (playB F b w ((mvs F b w)[j]?)) := L1_play hl1
              have hpw2 : PW F (playB F b w ((mvs F b w)[j]?)) := PW_play (mvs_K hrw) hrw hpw
              refine g_pop C (pc := 97) dX12_windOfTwo_97 rfl ?_
              refine g_aload_n C (pc := 98) dX12_windOfTwo_98 5 rfl ?_
              refine g_iload_n C (pc := 99) dX12_windOfTwo_99 6 rfl ?_
              refine g_callVL C (pc := 100) mf_X12_one lk_RX12_275 (c_X12_one n ρ I94 F (playB F b w ((mvs F b w)[j]?)) sd x hn9 hms (hqf.kp (hlw2.trans (hl3.up (by decide))).1) hrw (hqe.kp (hlw2.trans (hl3.up (by decide))).1) f94 hbw2 hl12 hpw2 hsd hx) (by decide) (Nat.le_refl _) rfl (by first | assumption | rfl | omega) rfl (by first | assumption | rfl | omega) (Nat.le_of_ble_eq_true rfl) dX12_windOfTwo_100 (fun v100 I100 h100 => ?_)
              obtain ⟨e100, k100⟩ := h100
              have hlI : Lw 1 I65 I100 := (hl3.up (by decide)).trans k100
              have hvf : v100 = lN ((valF F sd 1 b w) j) := e100
              refine g_lstore C (pc := 103) dX12_windOfTwo_103 (by decide) (fun v103 => [(9, .long v103), (8, .int (nI j)), (4, .long wz4), (6, .int wz6), (3, .int v24), (7, .int v51), (0, .ref 97), (1, .int x), (2, .int z)]) (fun _ => rfl) (fun v103 ev103 => ?_)
              refine g_iload C (pc := 105) dX12_windOfTwo_105 1 rfl ?_
              refine g_if_ne C (pc := 107) 114 dX12_windOfTwo_107 (by decide) (fun c107 => ?_) (fun c107 => ?_)
              · refine g_iconst C (pc := 114) 0 dX12_windOfTwo_114 (by decide) ?_
                refine g_iload_n C (pc := 115) dX12_windOfTwo_115 4 rfl ?_
                refine g_lload C (pc := 116) dX12_windOfTwo_116 0 rfl ?_
                refine g_lload C (pc := 118) dX12_windOfTwo_118 2 rfl ?_
                refine g_callSI C (pc := 120) mf_X12_isBetter lk_RX12_264 (c_X12_isBetter n ρ _ _ _ _ _ hn9) (by decide) (Nat.le_refl _) rfl (Nat.le_of_ble_eq_true rfl) dX12_windOfTwo_120 (fun v120 I120 h120 => ?_)
                obtain ⟨e120, rfl⟩ := h120
                refine g_istore C (pc := 123) dX12_windOfTwo_123 (by decide) (fun v123 => [(11, .int v123), (9, .long v103), (8, .int (nI j)), (4, .long wz4), (6, .int wz6), (3, .int v24), (7, .int v51), (0, .ref 97), (1, .int x), (2, .int z)]) (fun _ => rfl) (fun v123 ev123 => ?_)
                have hup := bst_upd (wants := (bM b == sd)) (f := (valF F sd 1 b w)) (j := j) (z4 := wz4) (z6 := wz6) (fl := bI (j = 0)) (own := v24) (u := v123) (fun i _ => (by show val F sd 1 (playB F b w ((mvs F b w)[i]?)) < 2 ^ 31; have h9 := val_le (F := F) (sd := sd) 1 (playB F b w ((mvs F b w)[i]?)); have h8 := pw3 (a := allO F) (k := 1) hAO (by decide); omega)) h4 h6 rfl h24 (by
                  rw [ev123, e120, ev103, hvf]
                  first
                  | (rw [bI_t (c := j = 0) ((nI_eq (b := 0) (by omega) (by decide)).mp c107)]; done)
                  | (rw [bI_f (c := j = 0) (fun h => c107 (by rw [h]; rfl))]; done))
                refine g_iload C (pc := 125) dX12_windOfTwo_125 0 rfl ?_
                refine g_if_eq C (pc := 127) 135 dX12_windOfTwo_127 (by decide) (fun c127 => ?_) (fun c127 => ?_)
                · refine g_iload C (pc := 135) dX12_windOfTwo_135 4 rfl ?_
                  refine g_istore C (pc := 137) dX12_windOfTwo_137 (by decide) (fun v137 => [(6, .int v137), (11, .int v123), (9, .long v103), (8, .int (nI j)), (4, .long wz4), (3, .int v24), (7, .int v51), (0, .ref 97), (1, .int x), (2, .int z)]) (fun _ => rfl) (fun v137 ev137 => ?_)
                  refine g_iload C (pc := 139) dX12_windOfTwo_139 1 rfl ?_
                  refine g_if_eq C (pc := 141) 149 dX12_windOfTwo_141 (by decide) (fun c141 => ?_) (fun c141 => ?_)
                  · refine g_lload C (pc := 149) dX12_windOfTwo_149 4 rfl ?_
                    refine g_lstore C (pc := 151) dX12_windOfTwo_151 (by decide) (fun v151 => [(4, .long v151), (6, .int v137), (11, .int v123), (9, .long v103), (8, .int (nI j)), (3, .int v24), (7, .int v51), (0, .ref 97), (1, .int x), (2, .int z)]) (fun _ => rfl) (fun v151 ev151 => ?_)
                    refine g_iinc C (pc := 153) (1) dX12_windOfTwo_153 4 rfl (by decide) (by decide) (fun v153 => [(8, .int v153), (4, .long v151), (6, .int v137), (11, .int v123), (9, .long v103), (3, .int v24), (7, .int v51), (0, .ref 97), (1, .int x), (2, .int z)]) (fun _ => rfl) (fun v153 ev153 => ?_)
                    refine g_goto C (pc := 156) 56 dX12_windOfTwo_156 (by decide) ?_
                    refine g_lv C [0, 1, 2, 5, 6, 7, 8, 9] rfl (ih56 (j + 1) _ _ _ _ ?_ ?_ ?_ ?_ ?_ ?_ ?_ (by omega))
                    · subst ev153; exact nI_1 _
                    · omega
                    · rw [ev151]; first | exact (ev103.trans hvf).trans (hup.1 c127).1 | exact (hup.2 c127).1
                    · rw [ev137]; first | exact (hup.1 c127).2 | exact (hup.2 c127).2
                    · exact hsv2.lw hlI hn6
                    · exact hfm2.lw hlI hn6
                    · exact hlw2.trans (hlI.up (by decide))
                  · exact absurd c127 c141
                · refine g_iload C (pc := 130) dX12_windOfTwo_130 2 rfl ?_
                  refine g_goto C (pc := 132) 137 dX12_windOfTwo_132 (by decide) ?_
                  refine g_istore C (pc := 137) dX12_windOfTwo_137 (by decide) (fun v137 => [(6, .int v137), (11, .int v123), (9, .long v103), (8, .int (nI j)), (4, .long wz4), (3, .int v24), (7, .int v51), (0, .ref 97), (1, .int x), (2, .int z)]) (fun _ => rfl) (fun v137 ev137 => ?_)
                  refine g_iload C (pc := 139) dX12_windOfTwo_139 1 rfl ?_
                  refine g_if_eq C (pc := 141) 149 dX12_windOfTwo_141 (by decide) (fun c141 => ?_) (fun c141 => ?_)
                  · exact absurd c141 c127
                  · refine g_lload C (pc := 144) dX12_windOfTwo_144 2 rfl ?_
                    refine g_goto C (pc := 146) 151 dX12_windOfTwo_146 (by decide) ?_
                    refine g_lstore C (pc := 151) dX12_windOfTwo_151 (by decide) (fun v151 => [(4, .long v151), (6, .int v137), (11, .int v123), (9, .long v103), (8, .int (nI j)), (3, .int v24), (7, .int v51), (0, .ref 97), (1, .int x), (2, .int z)]) (fun _ => rfl) (fun v151 ev151 => ?_)
                    refine g_iinc C (pc := 153) (1) dX12_windOfTwo_153 4 rfl (by decide) (by decide) (fun v153 => [(8, .int v153), (4, .long v151), (6, .int v137), (11, .int v123), (9, .long v103), (3, .int v24), (7, .int v51), (0, .ref 97), (1, .int x), (2, .int z)]) (fun _ => rfl) (fun v153 ev153 => ?_)
                    refine g_goto C (pc := 156) 56 dX12_windOfTwo_156 (by decide) ?_
                    refine g_lv C [0, 1, 2, 5, 6, 7, 8, 9] rfl (ih56 (j + 1) _ _ _ _ ?_ ?_ ?_ ?_ ?_ ?_ ?_ (by omega))
                    · subst ev153; exact nI_1 _
                    · omega
                    · rw [ev151]; first | exact (ev103.trans hvf).trans (hup.1 c127).1 | exact (hup.2 c127).1
                    · rw [ev137]; first | exact (hup.1 c127).2 | exact (hup.2 c127).2
                    · exact hsv2.lw hlI hn6
                    · exact hfm2.lw hlI hn6
                    · exact hlw2.trans (hlI.up (by decide))
              · refine g_iconst C (pc := 110) 1 dX12_windOfTwo_110 (by decide) ?_
                refine g_goto C (pc := 111) 115 dX12_windOfTwo_111 (by decide) ?_
                refine g_iload_n C (pc := 115) dX12_windOfTwo_115 4 rfl ?_
                refine g_lload C (pc := 116) dX12_windOfTwo_116 0 rfl ?_
                refine g_lload C (pc := 118) dX12_windOfTwo_118 2 rfl ?_
                refine g_callSI C (pc := 120) mf_X12_isBetter lk_RX12_264 (c_X12_isBetter n ρ _ _ _ _ _ hn9) (by decide) (Nat.le_refl _) rfl (Nat.le_of_ble_eq_true rfl) dX12_windOfTwo_120 (fun v120 I120 h120 => ?_)
                obtain ⟨e120, rfl⟩ := h120
                refine g_istore C (pc := 123) dX12_windOfTwo_123 (by decide) (fun v123 => [(11, .int v123), (9, .long v103), (8, .int (nI j)), (4, .long wz4), (6, .int wz6), (3, .int v24), (7, .int v51), (0, .ref 97), (1, .int x), (2, .int z)]) (fun _ => rfl) (fun v123 ev123 => ?_)
                have hup := bst_upd (wants := (bM b == sd)) (f := (valF F sd 1 b w)) (j := j) (z4 := wz4) (z6 := wz6) (fl := bI (j = 0)) (own := v24) (u := v123) (fun i _ => (by show val F sd 1 (playB F b w ((mvs F b w)[i]?)) < 2 ^ 31; have h9 := val_le (F := F) (sd := sd) 1 (playB F b w ((mvs F b w)[i]?)); have h8 := pw3 (a := allO F) (k := 1) hAO (by decide); omega)) h4 h6 rfl h24 (by
                  rw [ev123, e120, ev103, hvf]
                  first
                  | (rw [bI_t (c := j = 0) ((nI_eq (b := 0) (by omega) (by decide)).mp c107)]; done)
                  | (rw [bI_f (c := j = 0) (fun h => c107 (by rw [h]; rfl))]; done))
                refine g_iload C (pc := 125) dX12_windOfTwo_125 0 rfl ?_
                refine g_if_eq C (pc := 127) 135 dX12_windOfTwo_127 (by decide) (fun c127 => ?_) (fun c127 => ?_)
                · refine g_iload C (pc := 135) dX12_windOfTwo_135 4 rfl ?_
                  refine g_istore C (pc := 137) dX12_windOfTwo_137 (by decide) (fun v137 => [(6, .int v137), (11, .int v123), (9, .long v103), (8, .int (nI j)), (4, .long wz4), (3, .int v24), (7, .int v51), (0, .ref 97), (1, .int x), (2, .int z)]) (fun _ => rfl) (fun v137 ev137 => ?_)
                  refine g_iload C (pc := 139) dX12_windOfTwo_139 1 rfl ?_
                  refine g_if_eq C (pc := 141) 149 dX12_windOfTwo_141 (by decide) (fun c141 => ?_) (fun c141 => ?_)
                  · refine g_lload C (pc := 149) dX12_windOfTwo_149 4 rfl ?_
                    refine g_lstore C (pc := 151) dX12_windOfTwo_151 (by decide) (fun v151 => [(4, .long v151), (6, .int v137), (11, .int v123), (9, .long v103), (8, .int (nI j)), (3, .int v24), (7, .int v51), (0, .ref 97), (1, .int x), (2, .int z)]) (fun _ => rfl) (fun v151 ev151 => ?_)
                    refine g_iinc C (pc := 153) (1) dX12_windOfTwo_153 4 rfl (by decide) (by decide) (fun v153 => [(8, .int v153), (4, .long v151), (6, .int v137), (11, .int v123), (9, .long v103), (3, .int v24), (7, .int v51), (0, .ref 97), (1, .int x), (2, .int z)]) (fun _ => rfl) (fun v153 ev153 => ?_)
                    refine g_goto C (pc := 156) 56 dX12_windOfTwo_156 (by decide) ?_
                    refine g_lv C [0, 1, 2, 5, 6, 7, 8, 9] rfl (ih56 (j + 1) _ _ _ _ ?_ ?_ ?_ ?_ ?_ ?_ ?_ (by omega))
                    · subst ev153; exact nI_1 _
                    · omega
                    · rw [ev151]; first | exact (ev103.trans hvf).trans (hup.1 c127).1 | exact (hup.2 c127).1
                    · rw [ev137]; first | exact (hup.1 c127).2 | exact (hup.2 c127).2
                    · exact hsv2.lw hlI hn6
                    · exact hfm2.lw hlI hn6
                    · exact hlw2.trans (hlI.up (by decide))
                  · exact absurd c127 c141
                · refine g_iload C (pc := 130) dX12_windOfTwo_130 2 rfl ?_
                  refine g_goto C (pc := 132) 137 dX12_windOfTwo_132 (by decide) ?_
                  refine g_istore C (pc := 137) dX12_windOfTwo_137 (by decide) (fun v137 => [(6, .int v137), (11, .int v123), (9, .long v103), (8, .int (nI j)), (4, .long wz4), (3, .int v24), (7, .int v51), (0, .ref 97), (1, .int x), (2, .int z)]) (fun _ => rfl) (fun v137 ev137 => ?_)
                  refine g_iload C (pc := 139) dX12_windOfTwo_139 1 rfl ?_
                  refine g_if_eq C (pc := 141) 149 dX12_windOfTwo_141 (by decide) (fun c141 => ?_) (fun c141 => ?_)
                  · exact absurd c141 c127
                  · refine g_lload C (pc := 144) dX12_windOfTwo_144 2 rfl ?_
                    refine g_goto C (pc := 146) 151 dX12_windOfTwo_146 (by decide) ?_
                    refine g_lstore C (pc := 151) dX12_windOfTwo_151 (by decide) (fun v151 => [(4, .long v151), (6, .int v137), (11, .int v123), (9, .long v103), (8, .int (nI j)), (3, .int v24), (7, .int v51), (0, .ref 97), (1, .int x), (2, .int z)]) (fun _ => rfl) (fun v151 ev151 => ?_)
                    refine g_iinc C (pc := 153) (1) dX12_windOfTwo_153 4 rfl (by decide) (by decide) (fun v153 => [(8, .int v153), (4, .long v151), (6, .int v137), (11, .int v123), (9, .long v103), (3, .int v24), (7, .int v51), (0, .ref 97), (1, .int x), (2, .int z)]) (fun _ => rfl) (fun v153 ev153 => ?_)
                    refine g_goto C (pc := 156) 56 dX12_windOfTwo_156 (by decide) ?_
                    refine g_lv C [0, 1, 2, 5, 6, 7, 8, 9] rfl (ih56 (j + 1) _ _ _ _ ?_ ?_ ?_ ?_ ?_ ?_ ?_ (by omega))
                    · subst ev153; exact nI_1 _
                    · omega
                    · rw [ev151]; first | exact (ev103.trans hvf).trans (hup.1 c127).1 | exact (hup.2 c127).1
                    · rw [ev137]; first | exact (hup.1 c127).2 | exact (hup.2 c127).2
                    · exact hsv2.lw hlI hn6
                    · exact hfm2.lw hlI hn6
                    · exact hlw2.trans (hlI.up (by decide))
      refine g_lv C [0, 3, 2, 4, 1, 5, 6, 7] rfl (L56 (_ + 1) 0 _ _ _ _ ?_ ?_ ?_ ?_ ?_ ?_ ?_ (by first | omega | exact Nat.lt_succ_self _))
      · subst ev54; rfl
      · omega
      · subst ev26; rfl
      · subst ev30; rfl
      · exact f8
      · exact f3.cong (by rw [g8 109 (by decide)]) (fun z _ _ => by rw [g8 108 (by decide)]) hn6
      · exact (Lw.fm a3 b3 g3).trans (Lw.sv a8 g8)
    · refine g_iconst C (pc := 41) 1 dX12_windOfTwo_41 (by decide) ?_
      refine g_goto C (pc := 42) 51 dX12_windOfTwo_42 (by decide) ?_
      refine g_istore C (pc := 51) dX12_windOfTwo_51 (by decide) (fun v51 => [(7, .int v51), (6, .int v30), (4, .long v26), (3, .int v24), (0, .ref 97), (1, .int x), (2, .int z)]) (fun _ => rfl) (fun v51 ev51 => ?_)
      have h51 : v51 = nI (cntM F b w) := by
        rw [ev51]
        have h9 : I8 109 1 = nI (mvs F b w).length := by rw [g8 109 (by decide)]; exact f3.1
        unfold cntM
        first
        | (rw [if_pos ((nI_eq (b := 0) (by omega) (by decide)).mp (h9.symm.trans c38))]; rfl)
        | (rw [if_neg (fun h8 => c38 (h9.trans (by rw [h8]; rfl)))]; exact h9)
      refine g_iconst C (pc := 53) 0 dX12_windOfTwo_53 (by decide) ?_
      refine g_istore C (pc := 54) dX12_windOfTwo_54 (by decide) (fun v54 => [(8, .int v54), (7, .int v51), (6, .int v30), (4, .long v26), (3, .int v24), (0, .ref 97), (1, .int x), (2, .int z)]) (fun _ => rfl) (fun v54 ev54 => ?_)
      have L56 : ∀ (k9 : Nat) (j : Nat) (wz8 : Int32) (wz4 : Int64) (wz6 : Int32) (J : Mem) (hw8 : wz8 = nI j) (hj : j ≤ cntM F b w) (h4 : wz4 = lN (((bstK (bM b == sd) (valF F sd 1 b w) j).map (fun q => q.1)).getD 0)) (h6 : wz6 = oI ((bstK (bM b == sd) (valF F sd 1 b w) j).map (fun q => q.2))) (hsv : SvB J F 1 b) (hfm : FMv J F b w 1) (hlw : Lw 2 I J), cntM F b w - j < k9 → G κ n ρ 56 [(8, .int wz8), (4, .long wz4), (6, .int wz6), (3, .int v24), (7, .int v51), (0, .ref 97), (1, .int x), (2, .int z)] [] J := by
        intro k9
        induction k9 with
        | zero => intro j wz8 wz4 wz6 J hw8 hj h4 h6 hsv hfm hlw hm56; exact absurd hm56 (Nat.not_lt_zero _)
        | succ k9 ih56 =>
          intro j wz8 wz4 wz6 J hw8 hj h4 h6 hsv hfm hlw hm56
          subst hw8
          have hcl := cntM_le (F := F) (b := b) (w := w) hn6
          have hml := mvs_len (F := F) (b := b) (w := w) hn6
          have hkJ := hlw.1
          refine g_iload C (pc := 56) dX12_windOfTwo_56 0 rfl ?_
          refine g_iload C (pc := 58) dX12_windOfTwo_58 4 rfl ?_
          refine g_icmp_ge C (pc := 60) 159 dX12_windOfTwo_60 (by decide) (fun c60 => ?_) (fun c60 => ?_)
          · rw [h51, nI_leI (by omega) (by omega)] at c60
            refine g_aload_n C (pc := 159) dX12_windOfTwo_159 5 rfl ?_
            refine g_iconst C (pc := 160) 1 dX12_windOfTwo_160 (by decide) ?_
            refine g_callVV C (pc := 161) mf_X12_returns lk_RX12_257 (c_X12_returnsD n ρ J F b 1 _ hn9 hms (hqf.kp hkJ) hrw hsv (by decide) rfl) (by decide) (Nat.le_refl _) rfl (by first | assumption | rfl | omega) rfl (by first | assumption | rfl | omega) (Nat.le_of_ble_eq_true rfl) dX12_windOfTwo_161 (fun I161 h161 => ?_)
            obtain ⟨f161, a161, g161⟩ := h161
            refine g_aload_n C (pc := 164) dX12_windOfTwo_164 5 rfl ?_
            refine g_aload_n C (pc := 165) dX12_windOfTwo_165 5 rfl ?_
            refine g_getR C (pc := 166) fl_RX12_44 (by decide) (by first | assumption | rfl | omega) (by first | assumption | rfl | omega) (by first | assumption | rfl | omega) dX12_windOfTwo_166 ?_
            refine g_iconst C (pc := 169) 1 dX12_windOfTwo_169 (by decide) ?_
            refine g_iald C (pc := 170) (by first | assumption | rfl | omega) (by first | assumption | rfl | omega) (vp_in_nI (n := 1) (by decide) (by decide)) dX12_windOfTwo_170 ?_
            refine g_if_ne C (pc := 171) 179 dX12_windOfTwo_171 (by decide) (fun c171 => ?_) (fun c171 => ?_)
            · refine g_iload C (pc := 179) dX12_windOfTwo_179 2 rfl ?_
              refine g_putI C (pc := 181) fl_RX12_268 (by decide) fp_11_29 (Or.inl rfl) ⟨rfl, rfl⟩ (by first | assumption | rfl | omega) (by first | assumption | rfl | omega) hn9 dX12_windOfTwo_181 ?_
              refine g_lload C (pc := 184) dX12_windOfTwo_184 1 rfl ?_
              refine g_lret C hR (pc := 186) rfl dX12_windOfTwo_186 ?_
              refine ⟨rfl, _, rfl, ?_⟩
              have hjc : j = cntM F b w := by omega
              subst hjc
              have hl5 : Lw 2 I I161 := hlw.trans ((Lw.qb a161 g161).up (by decide))
              refine ⟨h4, ?_, f161.cong (fun _ _ => by rw [wr_n (by decide)]) (fun _ _ => by rw [wr_n (by decide)]) (by rw [wr_sn (by decide)]) hn6, hl5.trans ((Lw.sc (by decide) (by decide)).up (Nat.zero_le _))⟩
              rw [wr_ss]
              have h9 : I161 109 1 = nI (mvs F b w).length := by rw [g161 109 (by decide) (by decide) (by decide)]; exact hfm.1
              unfold chW
              first
              | (rw [if_pos ((nI_eq (b := 0) (by omega) (by decide)).mp (h9.symm.trans c171))]; rfl)
              | (rw [if_neg (fun h8 => c171 (h9.trans (by rw [h8]; rfl)))]; exact h6)
            · refine g_bipush C (pc := 174) (-4) dX12_windOfTwo_174 (by decide) ?_
              refine g_goto C (pc := 176) 181 dX12_windOfTwo_176 (by decide) ?_
              refine g_putI C (pc := 181) fl_RX12_268 (by decide) fp_11_29 (Or.inl rfl) ⟨rfl, rfl⟩ (by first | assumption | rfl | omega) (by first | assumption | rfl | omega) hn9 dX12_windOfTwo_181 ?_
              refine g_lload C (pc := 184) dX12_windOfTwo_184 1 rfl ?_
              refine g_lret C hR (pc := 186) rfl dX12_windOfTwo_186 ?_
              refine ⟨rfl, _, rfl, ?_⟩
              have hjc : j = cntM F b w := by omega
              subst hjc
              have hl5 : Lw 2 I I161 := hlw.trans ((Lw.qb a161 g161).up (by decide))
              refine ⟨h4, ?_, f161.cong (fun _ _ => by rw [wr_n (by decide)]) (fun _ _ => by rw [wr_n (by decide)]) (by rw [wr_sn (by decide)]) hn6, hl5.trans ((Lw.sc (by decide) (by decide)).up (Nat.zero_le _))⟩
              rw [wr_ss]
              have h9 : I161 109 1 = nI (mvs F b w).length := by rw [g161 109 (by decide) (by decide) (by decide)]; exact hfm.1
              unfold chW
              first
              | (rw [if_pos ((nI_eq (b := 0) (by omega) (by decide)).mp (h9.symm.trans c171))]; rfl)
              | (rw [if_neg (fun h8 => c171 (h9.trans (by rw [h8]; rfl)))]; exact h6)
          · rw [h51, nI_ltI (by omega) (by omega)] at c60
            refine g_aload_n C (pc := 63) dX12_windOfTwo_63 5 rfl ?_
            refine g_iconst C (pc := 64) 1 dX12_windOfTwo_64 (by decide) ?_
            refine g_callVV C (pc := 65) mf_X12_returns lk_RX12_257 (c_X12_returnsD n ρ J F b 1 _ hn9 hms (hqf.kp hkJ) hrw hsv (by decide) rfl) (by decide) (Nat.le_refl _) rfl (by first | assumption | rfl | omega) rfl (by first | assumption | rfl | omega) (Nat.le_of_ble_eq_true rfl) dX12_windOfTwo_65 (fun I65 h65 => ?_)
            obtain ⟨f65, a65, g65⟩ := h65
            have hl2 : Lw 0 J I65 := Lw.qb a65 g65
            have hlw2 : Lw 2 I I65 := hlw.trans (hl2.up (by decide))
            have hsv2 : SvB I65 F 1 b := hsv.lw (hl2.up (by decide)) hn6
            have hfm2 : FMv I65 F b w 1 := hfm.lw (hl2.up (by decide)) hn6
            refine g_aload_n C (pc := 68) dX12_windOfTwo_68 5 rfl ?_
            refine g_iload_n C (pc := 69) dX12_windOfTwo_69 7 rfl ?_
            refine g_aload_n C (pc := 70) dX12_windOfTwo_70 5 rfl ?_
            refine g_getR C (pc := 71) fl_RX12_44 (by decide) (by first | assumption | rfl | omega) (by first | assumption | rfl | omega) (by first | assumption | rfl | omega) dX12_windOfTwo_71 ?_
            refine g_iconst C (pc := 74) 1 dX12_windOfTwo_74 (by decide) ?_
            refine g_iald C (pc := 75) (by first | assumption | rfl | omega) (by first | assumption | rfl | omega) (vp_in_nI (n := 1) (by decide) (by decide)) dX12_windOfTwo_75 ?_
            refine g_if_ne C (pc := 76) 84 dX12_windOfTwo_76 (by decide) (fun c76 => ?_) (fun c76 => ?_)
            · have hjl : j < (mvs F b w).length := by
                have h9 : ¬ I65 109 1 = 0 := c76
                rw [hfm2.1] at h9
                have h8 : (mvs F b w).length ≠ 0 := fun h => h9 (by rw [h]; rfl)
                unfold cntM at c60
                rw [if_neg h8] at c60; exact c60
              have hmx9 : I65 108 (64 + nI j).toNatClampNeg = oI ((mvs F b w)[j]?) := by
                have hk9 := List.getElem?_eq_getElem hjl
                have h9 := hfm2.2 j _ hk9
                rw [hk9, show (64 : Int32) = nI 64 from rfl, nI_add, nI_clamp (by omega)]; exact h9
              refine g_aload_n C (pc := 84) dX12_windOfTwo_84 5 rfl ?_
              refine g_getR C (pc := 85) fl_RX12_41 (by decide) (by first | assumption | rfl | omega) (by first | assumption | rfl | omega) (by first | assumption | rfl | omega) dX12_windOfTwo_85 ?_
              refine g_bipush C (pc := 88) 64 dX12_windOfTwo_88 (by decide) ?_
              refine g_iload C (pc := 90) dX12_windOfTwo_90 0 rfl ?_
              refine g_iadd C (pc := 92) dX12_windOfTwo_92 ?_
              refine g_iald C (pc := 93) (by first | assumption | rfl | omega) (by first | assumption | rfl | omega) (by rw [show (64 : Int32) = nI 64 from rfl, nI_add]; exact vp_in_nI (by omega) (by decide)) dX12_windOfTwo_93 ?_
              refine g_callVI C (pc := 94) mf_X12_goes lk_RX12_251 (c_X12_goesE n ρ I65 F b w ((mvs F b w)[j]?) _ z hn9 hms (hqf.kp hlw2.1) hrw f65 hbw hw (mvs_K hrw) (hmx9) hz) (by decide) (Nat.le_refl _) rfl (by first | assumption | rfl | omega) rfl (by first | assumption | rfl | omega) (Nat.le_of_ble_eq_true rfl) dX12_windOfTwo_94 (fun v94 I94 h94 => ?_)
              obtain ⟨e94, f94, a94, g94⟩ := h94
              have hl3 : Lw 0 I65 I94 := Lw.qb a94 g94
              replace hlw2 := hlw2
              have hbw2 : BW F (playB F b w ((mvs F b w)[j]?)) := (mvs_K hrw).bw hrw hbw
              have hl12 : L1 F (playB F b w ((mvs F b w)[j]?)) := L1_play hl1
              have hpw2 : PW F (playB F b w ((mvs F b w)[j]?)) := PW_play (mvs_K hrw) hrw hpw
              refine g_pop C (pc := 97) dX12_windOfTwo_97 rfl ?_
              refine g_aload_n C (pc := 98) dX12_windOfTwo_98 5 rfl ?_
              refine g_iload_n C (pc := 99) dX12_windOfTwo_99 6 rfl ?_
              refine g_callVL C (pc := 100) mf_X12_one lk_RX12_275 (c_X12_one n ρ I94 F (playB F b w ((mvs F b w)[j]?)) sd x hn9 hms (hqf.kp (hlw2.trans (hl3.up (by decide))).1) hrw (hqe.kp (hlw2.trans (hl3.up (by decide))).1) f94 hbw2 hl12 hpw2 hsd hx) (by decide) (Nat.le_refl _) rfl (by first | assumption | rfl | omega) rfl (by first | assumption | rfl | omega) (Nat.le_of_ble_eq_true rfl) dX12_windOfTwo_100 (fun v100 I100 h100 => ?_)
              obtain ⟨e100, k100⟩ := h100
              have hlI : Lw 1 I65 I100 := (hl3.up (by decide)).trans k100
              have hvf : v100 = lN ((valF F sd 1 b w) j) := e100
              refine g_lstore C (pc := 103) dX12_windOfTwo_103 (by decide) (fun v103 => [(9, .long v103), (8, .int (nI j)), (4, .long wz4), (6, .int wz6), (3, .int v24), (7, .int v51), (0, .ref 97), (1, .int x), (2, .int z)]) (fun _ => rfl) (fun v103 ev103 => ?_)
              refine g_iload C (pc := 105) dX12_windOfTwo_105 1 rfl ?_
              refine g_if_ne C (pc := 107) 114 dX12_windOfTwo_107 (by decide) (fun c107 => ?_) (fun c107 => ?_)
              · refine g_iconst C (pc := 114) 0 dX12_windOfTwo_114 (by decide) ?_
                refine g_iload_n C (pc := 115) dX12_windOfTwo_115 4 rfl ?_
                refine g_lload C (pc := 116) dX12_windOfTwo_116 0 rfl ?_
                refine g_lload C (pc := 118) dX12_windOfTwo_118 2 rfl ?_
                refine g_callSI C (pc := 120) mf_X12_isBetter lk_RX12_264 (c_X12_isBetter n ρ _ _ _ _ _ hn9) (by decide) (Nat.le_refl _) rfl (Nat.le_of_ble_eq_true rfl) dX12_windOfTwo_120 (fun v120 I120 h120 => ?_)
                obtain ⟨e120, rfl⟩ := h120
                refine g_istore C (pc := 123) dX12_windOfTwo_123 (by decide) (fun v123 => [(11, .int v123), (9, .long v103), (8, .int (nI j)), (4, .long wz4), (6, .int wz6), (3, .int v24), (7, .int v51), (0, .ref 97), (1, .int x), (2, .int z)]) (fun _ => rfl) (fun v123 ev123 => ?_)
                have hup := bst_upd (wants := (bM b == sd)) (f := (valF F sd 1 b w)) (j := j) (z4 := wz4) (z6 := wz6) (fl := bI (j = 0)) (own := v24) (u := v123) (fun i _ => (by show val F sd 1 (playB F b w ((mvs F b w)[i]?)) < 2 ^ 31; have h9 := val_le (F := F) (sd := sd) 1 (playB F b w ((mvs F b w)[i]?)); have h8 := pw3 (a := allO F) (k := 1) hAO (by decide); omega)) h4 h6 rfl h24 (by
                  rw [ev123, e120, ev103, hvf]
                  first
                  | (rw [bI_t (c := j = 0) ((nI_eq (b := 0) (by omega) (by decide)).mp c107)]; done)
                  | (rw [bI_f (c := j = 0) (fun h => c107 (by rw [h]; rfl))]; done))
                refine g_iload C (pc := 125) dX12_windOfTwo_125 0 rfl ?_
                refine g_if_eq C (pc := 127) 135 dX12_windOfTwo_127 (by decide) (fun c127 => ?_) (fun c127 => ?_)
                · refine g_iload C (pc := 135) dX12_windOfTwo_135 4 rfl ?_
                  refine g_istore C (pc := 137) dX12_windOfTwo_137 (by decide) (fun v137 => [(6, .int v137), (11, .int v123), (9, .long v103), (8, .int (nI j)), (4, .long wz4), (3, .int v24), (7, .int v51), (0, .ref 97), (1, .int x), (2, .int z)]) (fun _ => rfl) (fun v137 ev137 => ?_)
                  refine g_iload C (pc := 139) dX12_windOfTwo_139 1 rfl ?_
                  refine g_if_eq C (pc := 141) 149 dX12_windOfTwo_141 (by decide) (fun c141 => ?_) (fun c141 => ?_)
                  · refine g_lload C (pc := 149) dX12_windOfTwo_149 4 rfl ?_
                    refine g_lstore C (pc := 151) dX12_windOfTwo_151 (by decide) (fun v151 => [(4, .long v151), (6, .int v137), (11, .int v123), (9, .long v103), (8, .int (nI j)), (3, .int v24), (7, .int v51), (0, .ref 97), (1, .int x), (2, .int z)]) (fun _ => rfl) (fun v151 ev151 => ?_)
                    refine g_iinc C (pc := 153) (1) dX12_windOfTwo_153 4 rfl (by decide) (by decide) (fun v153 => [(8, .int v153), (4, .long v151), (6, .int v137), (11, .int v123), (9, .long v103), (3, .int v24), (7, .int v51), (0, .ref 97), (1, .int x), (2, .int z)]) (fun _ => rfl) (fun v153 ev153 => ?_)
                    refine g_goto C (pc := 156) 56 dX12_windOfTwo_156 (by decide) ?_
                    refine g_lv C [0, 1, 2, 5, 6, 7, 8, 9] rfl (ih56 (j + 1) _ _ _ _ ?_ ?_ ?_ ?_ ?_ ?_ ?_ (by omega))
                    · subst ev153; exact nI_1 _
                    · omega
                    · rw [ev151]; first | exact (ev103.trans hvf).trans (hup.1 c127).1 | exact (hup.2 c127).1
                    · rw [ev137]; first | exact (hup.1 c127).2 | exact (hup.2 c127).2
                    · exact hsv2.lw hlI hn6
                    · exact hfm2.lw hlI hn6
                    · exact hlw2.trans (hlI.up (by decide))
                  · exact absurd c127 c141
                · refine g_iload C (pc := 130) dX12_windOfTwo_130 2 rfl ?_
                  refine g_goto C (pc := 132) 137 dX12_windOfTwo_132 (by decide) ?_
                  refine g_istore C (pc := 137) dX12_windOfTwo_137 (by decide) (fun v137 => [(6, .int v137), (11, .int v123), (9, .long v103), (8, .int (nI j)), (4, .long wz4), (3, .int v24), (7, .int v51), (0, .ref 97), (1, .int x), (2, .int z)]) (fun _ => rfl) (fun v137 ev137 => ?_)
                  refine g_iload C (pc := 139) dX12_windOfTwo_139 1 rfl ?_
                  refine g_if_eq C (pc := 141) 149 dX12_windOfTwo_141 (by decide) (fun c141 => ?_) (fun c141 => ?_)
                  · exact absurd c141 c127
                  · refine g_lload C (pc := 144) dX12_windOfTwo_144 2 rfl ?_
                    refine g_goto C (pc := 146) 151 dX12_windOfTwo_146 (by decide) ?_
                    refine g_lstore C (pc := 151) dX12_windOfTwo_151 (by decide) (fun v151 => [(4, .long v151), (6, .int v137), (11, .int v123), (9, .long v103), (8, .int (nI j)), (3, .int v24), (7, .int v51), (0, .ref 97), (1, .int x), (2, .int z)]) (fun _ => rfl) (fun v151 ev151 => ?_)
                    refine g_iinc C (pc := 153) (1) dX12_windOfTwo_153 4 rfl (by decide) (by decide) (fun v153 => [(8, .int v153), (4, .long v151), (6, .int v137), (11, .int v123), (9, .long v103), (3, .int v24), (7, .int v51), (0, .ref 97), (1, .int x), (2, .int z)]) (fun _ => rfl) (fun v153 ev153 => ?_)
                    refine g_goto C (pc := 156) 56 dX12_windOfTwo_156 (by decide) ?_
                    refine g_lv C [0, 1, 2, 5, 6, 7, 8, 9] rfl (ih56 (j + 1) _ _ _ _ ?_ ?_ ?_ ?_ ?_ ?_ ?_ (by omega))
                    · subst ev153; exact nI_1 _
                    · omega
                    · rw [ev151]; first | exact (ev103.trans hvf).trans (hup.1 c127).1 | exact (hup.2 c127).1
                    · rw [ev137]; first | exact (hup.1 c127).2 | exact (hup.2 c127).2
                    · exact hsv2.lw hlI hn6
                    · exact hfm2.lw hlI hn6
                    · exact hlw2.trans (hlI.up (by decide))
              · refine g_iconst C (pc := 110) 1 dX12_windOfTwo_110 (by decide) ?_
                refine g_goto C (pc := 111) 115 dX12_windOfTwo_111 (by decide) ?_
                refine g_iload_n C (pc := 115) dX12_windOfTwo_115 4 rfl ?_
                refine g_lload C (pc := 116) dX12_windOfTwo_116 0 rfl ?_
                refine g_lload C (pc := 118) dX12_windOfTwo_118 2 rfl ?_
                refine g_callSI C (pc := 120) mf_X12_isBetter lk_RX12_264 (c_X12_isBetter n ρ _ _ _ _ _ hn9) (by decide) (Nat.le_refl _) rfl (Nat.le_of_ble_eq_true rfl) dX12_windOfTwo_120 (fun v120 I120 h120 => ?_)
                obtain ⟨e120, rfl⟩ := h120
                refine g_istore C (pc := 123) dX12_windOfTwo_123 (by decide) (fun v123 => [(11, .int v123), (9, .long v103), (8, .int (nI j)), (4, .long wz4), (6, .int wz6), (3, .int v24), (7, .int v51), (0, .ref 97), (1, .int x), (2, .int z)]) (fun _ => rfl) (fun v123 ev123 => ?_)
                have hup := bst_upd (wants := (bM b == sd)) (f := (valF F sd 1 b w)) (j := j) (z4 := wz4) (z6 := wz6) (fl := bI (j = 0)) (own := v24) (u := v123) (fun i _ => (by show val F sd 1 (playB F b w ((mvs F b w)[i]?)) < 2 ^ 31; have h9 := val_le (F := F) (sd := sd) 1 (playB F b w ((mvs F b w)[i]?)); have h8 := pw3 (a := allO F) (k := 1) hAO (by decide); omega)) h4 h6 rfl h24 (by
                  rw [ev123, e120, ev103, hvf]
                  first
                  | (rw [bI_t (c := j = 0) ((nI_eq (b := 0) (by omega) (by decide)).mp c107)]; done)
                  | (rw [bI_f (c := j = 0) (fun h => c107 (by rw [h]; rfl))]; done))
                refine g_iload C (pc := 125) dX12_windOfTwo_125 0 rfl ?_
                refine g_if_eq C (pc := 127) 135 dX12_windOfTwo_127 (by decide) (fun c127 => ?_) (fun c127 => ?_)
                · refine g_iload C (pc := 135) dX12_windOfTwo_135 4 rfl ?_
                  refine g_istore C (pc := 137) dX12_windOfTwo_137 (by decide) (fun v137 => [(6, .int v137), (11, .int v123), (9, .long v103), (8, .int (nI j)), (4, .long wz4), (3, .int v24), (7, .int v51), (0, .ref 97), (1, .int x), (2, .int z)]) (fun _ => rfl) (fun v137 ev137 => ?_)
                  refine g_iload C (pc := 139) dX12_windOfTwo_139 1 rfl ?_
                  refine g_if_eq C (pc := 141) 149 dX12_windOfTwo_141 (by decide) (fun c141 => ?_) (fun c141 => ?_)
                  · refine g_lload C (pc := 149) dX12_windOfTwo_149 4 rfl ?_
                    refine g_lstore C (pc := 151) dX12_windOfTwo_151 (by decide) (fun v151 => [(4, .long v151), (6, .int v137), (11, .int v123), (9, .long v103), (8, .int (nI j)), (3, .int v24), (7, .int v51), (0, .ref 97), (1, .int x), (2, .int z)]) (fun _ => rfl) (fun v151 ev151 => ?_)
                    refine g_iinc C (pc := 153) (1) dX12_windOfTwo_153 4 rfl (by decide) (by decide) (fun v153 => [(8, .int v153), (4, .long v151), (6, .int v137), (11, .int v123), (9, .long v103), (3, .int v24), (7, .int v51), (0, .ref 97), (1, .int x), (2, .int z)]) (fun _ => rfl) (fun v153 ev153 => ?_)
                    refine g_goto C (pc := 156) 56 dX12_windOfTwo_156 (by decide) ?_
                    refine g_lv C [0, 1, 2, 5, 6, 7, 8, 9] rfl (ih56 (j + 1) _ _ _ _ ?_ ?_ ?_ ?_ ?_ ?_ ?_ (by omega))
                    · subst ev153; exact nI_1 _
                    · omega
                    · rw [ev151]; first | exact (ev103.trans hvf).trans (hup.1 c127).1 | exact (hup.2 c127).1
                    · rw [ev137]; first | exact (hup.1 c127).2 | exact (hup.2 c127).2
                    · exact hsv2.lw hlI hn6
                    · exact hfm2.lw hlI hn6
                    · exact hlw2.trans (hlI.up (by decide))
                  · exact absurd c127 c141
                · refine g_iload C (pc := 130) dX12_windOfTwo_130 2 rfl ?_
                  refine g_goto C (pc := 132) 137 dX12_windOfTwo_132 (by decide) ?_
                  refine g_istore C (pc := 137) dX12_windOfTwo_137 (by decide) (fun v137 => [(6, .int v137), (11, .int v123), (9, .long v103), (8, .int (nI j)), (4, .long wz4), (3, .int v24), (7, .int v51), (0, .ref 97), (1, .int x), (2, .int z)]) (fun _ => rfl) (fun v137 ev137 => ?_)
                  refine g_iload C (pc := 139) dX12_windOfTwo_139 1 rfl ?_
                  refine g_if_eq C (pc := 141) 149 dX12_windOfTwo_141 (by decide) (fun c141 => ?_) (fun c141 => ?_)
                  · exact absurd c141 c127
                  · refine g_lload C (pc := 144) dX12_windOfTwo_144 2 rfl ?_
                    refine g_goto C (pc := 146) 151 dX12_windOfTwo_146 (by decide) ?_
                    refine g_lstore C (pc := 151) dX12_windOfTwo_151 (by decide) (fun v151 => [(4, .long v151), (6, .int v137), (11, .int v123), (9, .long v103), (8, .int (nI j)), (3, .int v24), (7, .int v51), (0, .ref 97), (1, .int x), (2, .int z)]) (fun _ => rfl) (fun v151 ev151 => ?_)
                    refine g_iinc C (pc := 153) (1) dX12_windOfTwo_153 4 rfl (by decide) (by decide) (fun v153 => [(8, .int v153), (4, .long v151), (6, .int v137), (11, .int v123), (9, .long v103), (3, .int v24), (7, .int v51), (0, .ref 97), (1, .int x), (2, .int z)]) (fun _ => rfl) (fun v153 ev153 => ?_)
                    refine g_goto C (pc := 156) 56 dX12_windOfTwo_156 (by decide) ?_
                    refine g_lv C [0, 1, 2, 5, 6, 7, 8, 9] rfl (ih56 (j + 1) _ _ _ _ ?_ ?_ ?_ ?_ ?_ ?_ ?_ (by omega))
                    · subst ev153; exact nI_1 _
                    · omega
                    · rw [ev151]; first | exact (ev103.trans hvf).trans (hup.1 c127).1 | exact (hup.2 c127).1
                    · rw [ev137]; first | exact (hup.1 c127).2 | exact (hup.2 c127).2
                    · exact hsv2.lw hlI hn6
                    · exact hfm2.lw hlI hn6
                    · exact hlw2.trans (hlI.up (by decide))
            · have hjl : (mvs F b w).length = 0 := by
                have h9 : I65 109 1 = 0 := c76
                rw [hfm2.1] at h9
                exact (nI_eq (b := 0) (by omega) (by decide)).mp h9
              have hmx9 : (-4 : Int32) = oI ((mvs F b w)[j]?) := by rw [List.getElem?_eq_none (by omega)]; rfl
              refine g_bipush C (pc := 79) (-4) dX12_windOfTwo_79 (by decide) ?_
              refine g_goto C (pc := 81) 94 dX12_windOfTwo_81 (by decide) ?_
              refine g_callVI C (pc := 94) mf_X12_goes lk_RX12_251 (c_X12_goesE n ρ I65 F b w ((mvs F b w)[j]?) _ z hn9 hms (hqf.kp hlw2.1) hrw f65 hbw hw (mvs_K hrw) (hmx9) hz) (by decide) (Nat.le_refl _) rfl (by first | assumption | rfl | omega) rfl (by first | assumption | rfl | omega) (Nat.le_of_ble_eq_true rfl) dX12_windOfTwo_94 (fun v94 I94 h94 => ?_)
              obtain ⟨e94, f94, a94, g94⟩ := h94
              have hl3 : Lw 0 I65 I94 := Lw.qb a94 g94
              replace hlw2 := hlw2
              have hbw2 : BW F (playB F b w ((mvs F b w)[j]?)) := (mvs_K hrw).bw hrw hbw
              have hl12 : L1 F (playB F b w ((mvs F b w)[j]?)) := L1_play hl1
              have hpw2 : PW F (playB F b w ((mvs F b w)[j]?)) := PW_play (mvs_K hrw) hrw hpw
              refine g_pop C (pc := 97) dX12_windOfTwo_97 rfl ?_
              refine g_aload_n C (pc := 98) dX12_windOfTwo_98 5 rfl ?_
              refine g_iload_n C (pc := 99) dX12_windOfTwo_99 6 rfl ?_
              refine g_callVL C (pc := 100) mf_X12_one lk_RX12_275 (c_X12_one n ρ I94 F (playB F b w ((mvs F b w)[j]?)) sd x hn9 hms (hqf.kp (hlw2.trans (hl3.up (by decide))).1) hrw (hqe.kp (hlw2.trans (hl3.up (by decide))).1) f94 hbw2 hl12 hpw2 hsd hx) (by decide) (Nat.le_refl _) rfl (by first | assumption | rfl | omega) rfl (by first | assumption | rfl | omega) (Nat.le_of_ble_eq_true rfl) dX12_windOfTwo_100 (fun v100 I100 h100 => ?_)
              obtain ⟨e100, k100⟩ := h100
              have hlI : Lw 1 I65 I100 := (hl3.up (by decide)).trans k100
              have hvf : v100 = lN ((valF F sd 1 b w) j) := e100
              refine g_lstore C (pc := 103) dX12_windOfTwo_103 (by decide) (fun v103 => [(9, .long v103), (8, .int (nI j)), (4, .long wz4), (6, .int wz6), (3, .int v24), (7, .int v51), (0, .ref 97), (1, .int x), (2, .int z)]) (fun _ => rfl) (fun v103 ev103 => ?_)
              refine g_iload C (pc := 105) dX12_windOfTwo_105 1 rfl ?_
              refine g_if_ne C (pc := 107) 114 dX12_windOfTwo_107 (by decide) (fun c107 => ?_) (fun c107 => ?_)
              · refine g_iconst C (pc := 114) 0 dX12_windOfTwo_114 (by decide) ?_
                refine g_iload_n C (pc := 115) dX12_windOfTwo_115 4 rfl ?_
                refine g_lload C (pc := 116) dX12_windOfTwo_116 0 rfl ?_
                refine g_lload C (pc := 118) dX12_windOfTwo_118 2 rfl ?_
                refine g_callSI C (pc := 120) mf_X12_isBetter lk_RX12_264 (c_X12_isBetter n ρ _ _ _ _ _ hn9) (by decide) (Nat.le_refl _) rfl (Nat.le_of_ble_eq_true rfl) dX12_windOfTwo_120 (fun v120 I120 h120 => ?_)
                obtain ⟨e120, rfl⟩ := h120
                refine g_istore C (pc := 123) dX12_windOfTwo_123 (by decide) (fun v123 => [(11, .int v123), (9, .long v103), (8, .int (nI j)), (4, .long wz4), (6, .int wz6), (3, .int v24), (7, .int v51), (0, .ref 97), (1, .int x), (2, .int z)]) (fun _ => rfl) (fun v123 ev123 => ?_)
                have hup := bst_upd (wants := (bM b == sd)) (f := (valF F sd 1 b w)) (j := j) (z4 := wz4) (z6 := wz6) (fl := bI (j = 0)) (own := v24) (u := v123) (fun i _ => (by show val F sd 1 (playB F b w ((mvs F b w)[i]?)) < 2 ^ 31; have h9 := val_le (F := F) (sd := sd) 1 (playB F b w ((mvs F b w)[i]?)); have h8 := pw3 (a := allO F) (k := 1) hAO (by decide); omega)) h4 h6 rfl h24 (by
                  rw [ev123, e120, ev103, hvf]
                  first
                  | (rw [bI_t (c := j = 0) ((nI_eq (b := 0) (by omega) (by decide)).mp c107)]; done)
                  | (rw [bI_f (c := j = 0) (fun h => c107 (by rw [h]; rfl))]; done))
                refine g_iload C (pc := 125) dX12_windOfTwo_125 0 rfl ?_
                refine g_if_eq C (pc := 127) 135 dX12_windOfTwo_127 (by decide) (fun c127 => ?_) (fun c127 => ?_)
                · refine g_iload C (pc := 135) dX12_windOfTwo_135 4 rfl ?_
                  refine g_istore C (pc := 137) dX12_windOfTwo_137 (by decide) (fun v137 => [(6, .int v137), (11, .int v123), (9, .long v103), (8, .int (nI j)), (4, .long wz4), (3, .int v24), (7, .int v51), (0, .ref 97), (1, .int x), (2, .int z)]) (fun _ => rfl) (fun v137 ev137 => ?_)
                  refine g_iload C (pc := 139) dX12_windOfTwo_139 1 rfl ?_
                  refine g_if_eq C (pc := 141) 149 dX12_windOfTwo_141 (by decide) (fun c141 => ?_) (fun c141 => ?_)
                  · refine g_lload C (pc := 149) dX12_windOfTwo_149 4 rfl ?_
                    refine g_lstore C (pc := 151) dX12_windOfTwo_151 (by decide) (fun v151 => [(4, .long v151), (6, .int v137), (11, .int v123), (9, .long v103), (8, .int (nI j)), (3, .int v24), (7, .int v51), (0, .ref 97), (1, .int x), (2, .int z)]) (fun _ => rfl) (fun v151 ev151 => ?_)
                    refine g_iinc C (pc := 153) (1) dX12_windOfTwo_153 4 rfl (by decide) (by decide) (fun v153 => [(8, .int v153), (4, .long v151), (6, .int v137), (11, .int v123), (9, .long v103), (3, .int v24), (7, .int v51), (0, .ref 97), (1, .int x), (2, .int z)]) (fun _ => rfl) (fun v153 ev153 => ?_)
                    refine g_goto C (pc := 156) 56 dX12_windOfTwo_156 (by decide) ?_
                    refine g_lv C [0, 1, 2, 5, 6, 7, 8, 9] rfl (ih56 (j + 1) _ _ _ _ ?_ ?_ ?_ ?_ ?_ ?_ ?_ (by omega))
                    · subst ev153; exact nI_1 _
                    · omega
                    · rw [ev151]; first | exact (ev103.trans hvf).trans (hup.1 c127).1 | exact (hup.2 c127).1
                    · rw [ev137]; first | exact (hup.1 c127).2 | exact (hup.2 c127).2
                    · exact hsv2.lw hlI hn6
                    · exact hfm2.lw hlI hn6
                    · exact hlw2.trans (hlI.up (by decide))
                  · exact absurd c127 c141
                · refine g_iload C (pc := 130) dX12_windOfTwo_130 2 rfl ?_
                  refine g_goto C (pc := 132) 137 dX12_windOfTwo_132 (by decide) ?_
                  refine g_istore C (pc := 137) dX12_windOfTwo_137 (by decide) (fun v137 => [(6, .int v137), (11, .int v123), (9, .long v103), (8, .int (nI j)), (4, .long wz4), (3, .int v24), (7, .int v51), (0, .ref 97), (1, .int x), (2, .int z)]) (fun _ => rfl) (fun v137 ev137 => ?_)
                  refine g_iload C (pc := 139) dX12_windOfTwo_139 1 rfl ?_
                  refine g_if_eq C (pc := 141) 149 dX12_windOfTwo_141 (by decide) (fun c141 => ?_) (fun c141 => ?_)
                  · exact absurd c141 c127
                  · refine g_lload C (pc := 144) dX12_windOfTwo_144 2 rfl ?_
                    refine g_goto C (pc := 146) 151 dX12_windOfTwo_146 (by decide) ?_
                    refine g_lstore C (pc := 151) dX12_windOfTwo_151 (by decide) (fun v151 => [(4, .long v151), (6, .int v137), (11, .int v123), (9, .long v103), (8, .int (nI j)), (3, .int v24), (7, .int v51), (0, .ref 97), (1, .int x), (2, .int z)]) (fun _ => rfl) (fun v151 ev151 => ?_)
                    refine g_iinc C (pc := 153) (1) dX12_windOfTwo_153 4 rfl (by decide) (by decide) (fun v153 => [(8, .int v153), (4, .long v151), (6, .int v137), (11, .int v123), (9, .long v103), (3, .int v24), (7, .int v51), (0, .ref 97), (1, .int x), (2, .int z)]) (fun _ => rfl) (fun v153 ev153 => ?_)
                    refine g_goto C (pc := 156) 56 dX12_windOfTwo_156 (by decide) ?_
                    refine g_lv C [0, 1, 2, 5, 6, 7, 8, 9] rfl (ih56 (j + 1) _ _ _ _ ?_ ?_ ?_ ?_ ?_ ?_ ?_ (by omega))
                    · subst ev153; exact nI_1 _
                    · omega
                    · rw [ev151]; first | exact (ev103.trans hvf).trans (hup.1 c127).1 | exact (hup.2 c127).1
                    · rw [ev137]; first | exact (hup.1 c127).2 | exact (hup.2 c127).2
                    · exact hsv2.lw hlI hn6
                    · exact hfm2.lw hlI hn6
                    · exact hlw2.trans (hlI.up (by decide))
              · refine g_iconst C (pc := 110) 1 dX12_windOfTwo_110 (by decide) ?_
                refine g_goto C (pc := 111) 115 dX12_windOfTwo_111 (by decide) ?_
                refine g_iload_n C (pc := 115) dX12_windOfTwo_115 4 rfl ?_
                refine g_lload C (pc := 116) dX12_windOfTwo_116 0 rfl ?_
                refine g_lload C (pc := 118) dX12_windOfTwo_118 2 rfl ?_
                refine g_callSI C (pc := 120) mf_X12_isBetter lk_RX12_264 (c_X12_isBetter n ρ _ _ _ _ _ hn9) (by decide) (Nat.le_refl _) rfl (Nat.le_of_ble_eq_true rfl) dX12_windOfTwo_120 (fun v120 I120 h120 => ?_)
                obtain ⟨e120, rfl⟩ := h120
                refine g_istore C (pc := 123) dX12_windOfTwo_123 (by decide) (fun v123 => [(11, .int v123), (9, .long v103), (8, .int (nI j)), (4, .long wz4), (6, .int wz6), (3, .int v24), (7, .int v51), (0, .ref 97), (1, .int x), (2, .int z)]) (fun _ => rfl) (fun v123 ev123 => ?_)
                have hup := bst_upd (wants := (bM b == sd)) (f := (valF F sd 1 b w)) (j := j) (z4 := wz4) (z6 := wz6) (fl := bI (j = 0)) (own := v24) (u := v123) (fun i _ => (by show val F sd 1 (playB F b w ((mvs F b w)[i]?)) < 2 ^ 31; have h9 := val_le (F := F) (sd := sd) 1 (playB F b w ((mvs F b w)[i]?)); have h8 := pw3 (a := allO F) (k := 1) hAO (by decide); omega)) h4 h6 rfl h24 (by
                  rw [ev123, e120, ev103, hvf]
                  first
                  | (rw [bI_t (c := j = 0) ((nI_eq (b := 0) (by omega) (by decide)).mp c107)]; done)
                  | (rw [bI_f (c := j = 0) (fun h => c107 (by rw [h]; rfl))]; done))
                refine g_iload C (pc := 125) dX12_windOfTwo_125 0 rfl ?_
                refine g_if_eq C (pc := 127) 135 dX12_windOfTwo_127 (by decide) (fun c127 => ?_) (fun c127 => ?_)
                · refine g_iload C (pc := 135) dX12_windOfTwo_135 4 rfl ?_
                  refine g_istore C (pc := 137) dX12_windOfTwo_137 (by decide) (fun v137 => [(6, .int v137), (11, .int v123), (9, .long v103), (8, .int (nI j)), (4, .long wz4), (3, .int v24), (7, .int v51), (0, .ref 97), (1, .int x), (2, .int z)]) (fun _ => rfl) (fun v137 ev137 => ?_)
                  refine g_iload C (pc := 139) dX12_windOfTwo_139 1 rfl ?_
                  refine g_if_eq C (pc := 141) 149 dX12_windOfTwo_141 (by decide) (fun c141 => ?_) (fun c141 => ?_)
                  · refine g_lload C (pc := 149) dX12_windOfTwo_149 4 rfl ?_
                    refine g_lstore C (pc := 151) dX12_windOfTwo_151 (by decide) (fun v151 => [(4, .long v151), (6, .int v137), (11, .int v123), (9, .long v103), (8, .int (nI j)), (3, .int v24), (7, .int v51), (0, .ref 97), (1, .int x), (2, .int z)]) (fun _ => rfl) (fun v151 ev151 => ?_)
                    refine g_iinc C (pc := 153) (1) dX12_windOfTwo_153 4 rfl (by decide) (by decide) (fun v153 => [(8, .int v153), (4, .long v151), (6, .int v137), (11, .int v123), (9, .long v103), (3, .int v24), (7, .int v51), (0, .ref 97), (1, .int x), (2, .int z)]) (fun _ => rfl) (fun v153 ev153 => ?_)
                    refine g_goto C (pc := 156) 56 dX12_windOfTwo_156 (by decide) ?_
                    refine g_lv C [0, 1, 2, 5, 6, 7, 8, 9] rfl (ih56 (j + 1) _ _ _ _ ?_ ?_ ?_ ?_ ?_ ?_ ?_ (by omega))
                    · subst ev153; exact nI_1 _
                    · omega
                    · rw [ev151]; first | exact (ev103.trans hvf).trans (hup.1 c127).1 | exact (hup.2 c127).1
                    · rw [ev137]; first | exact (hup.1 c127).2 | exact (hup.2 c127).2
                    · exact hsv2.lw hlI hn6
                    · exact hfm2.lw hlI hn6
                    · exact hlw2.trans (hlI.up (by decide))
                  · exact absurd c127 c141
                · refine g_iload C (pc := 130) dX12_windOfTwo_130 2 rfl ?_
                  refine g_goto C (pc := 132) 137 dX12_windOfTwo_132 (by decide) ?_
                  refine g_istore C (pc := 137) dX12_windOfTwo_137 (by decide) (fun v137 => [(6, .int v137), (11, .int v123), (9, .long v103), (8, .int (nI j)), (4, .long wz4), (3, .int v24), (7, .int v51), (0, .ref 97), (1, .int x), (2, .int z)]) (fun _ => rfl) (fun v137 ev137 => ?_)
                  refine g_iload C (pc := 139) dX12_windOfTwo_139 1 rfl ?_
                  refine g_if_eq C (pc := 141) 149 dX12_windOfTwo_141 (by decide) (fun c141 => ?_) (fun c141 => ?_)
                  · exact absurd c141 c127
                  · refine g_lload C (pc := 144) dX12_windOfTwo_144 2 rfl ?_
                    refine g_goto C (pc := 146) 151 dX12_windOfTwo_146 (by decide) ?_
                    refine g_lstore C (pc := 151) dX12_windOfTwo_151 (by decide) (fun v151 => [(4, .long v151), (6, .int v137), (11, .int v123), (9, .long v103), (8, .int (nI j)), (3, .int v24), (7, .int v51), (0, .ref 97), (1, .int x), (2, .int z)]) (fun _ => rfl) (fun v151 ev151 => ?_)
                    refine g_iinc C (pc := 153) (1) dX12_windOfTwo_153 4 rfl (by decide) (by decide) (fun v153 => [(8, .int v153), (4, .long v151), (6, .int v137), (11, .int v123), (9, .long v103), (3, .int v24), (7, .int v51), (0, .ref 97), (1, .int x), (2, .int z)]) (fun _ => rfl) (fun v153 ev153 => ?_)
                    refine g_goto C (pc := 156) 56 dX12_windOfTwo_156 (by decide) ?_
                    refine g_lv C [0, 1, 2, 5, 6, 7, 8, 9] rfl (ih56 (j + 1) _ _ _ _ ?_ ?_ ?_ ?_ ?_ ?_ ?_ (by omega))
                    · subst ev153; exact nI_1 _
                    · omega
                    · rw [ev151]; first | exact (ev103.trans hvf).trans (hup.1 c127).1 | exact (hup.2 c127).1
                    · rw [ev137]; first | exact (hup.1 c127).2 | exact (hup.2 c127).2
                    · exact hsv2.lw hlI hn6
                    · exact hfm2.lw hlI hn6
                    · exact hlw2.trans (hlI.up (by decide))
      refine g_lv C [0, 3, 2, 4, 1, 5, 6, 7] rfl (L56 (_ + 1) 0 _ _ _ _ ?_ ?_ ?_ ?_ ?_ ?_ ?_ (by first | omega | exact Nat.lt_succ_self _))
      · subst ev54; rfl
      · omega
      · subst ev26; rfl
      · subst ev30; rfl
      · exact f8
      · exact f3.cong (by rw [g8 109 (by decide)]) (fun z _ _ => by rw [g8 108 (by decide)]) hn6
      · exact (Lw.fm a3 b3 g3).trans (Lw.sv a8 g8)
  · refine g_iconst C (pc := 19) 1 dX12_windOfTwo_19 (by decide) ?_
    refine g_goto C (pc := 20) 24 dX12_windOfTwo_20 (by decide) ?_
    refine g_istore_n C (pc := 24) dX12_windOfTwo_24 (by decide) (fun v24 => [(3, .int v24), (0, .ref 97), (1, .int x), (2, .int z)]) (fun _ => rfl) (fun v24 ev24 => ?_)
    refine g_lconst C (pc := 25) 0 dX12_windOfTwo_25 (by decide) ?_
    have h24 : v24 = bI ((bM b == sd) = true) := by
      have hM2 := hbw.1
      first
      | (rw [bI_t (by have h9 : I8 97 25 = x := c16; rw [g8 97 (by decide), g3 97 (by decide) (by decide), hqb.2, hx] at h9; rw [(nI_eq (by omega) (by omega)).mp h9]; exact beq_self_eq_true _)]; exact ev24)
      | (rw [bI_f (fun h8 => c16 (by show I8 97 25 = x; rw [g8 97 (by decide), g3 97 (by decide) (by decide), hqb.2, hx, eq_of_beq h8]))]; exact ev24)
    refine g_lstore C (pc := 26) dX12_windOfTwo_26 (by decide) (fun v26 => [(4, .long v26), (3, .int v24), (0, .ref 97), (1, .int x), (2, .int z)]) (fun _ => rfl) (fun v26 ev26 => ?_)
    refine g_bipush C (pc := 28) (-4) dX12_windOfTwo_28 (by decide) ?_
    refine g_istore C (pc := 30) dX12_windOfTwo_30 (by decide) (fun v30 => [(6, .int v30), (4, .long v26), (3, .int v24), (0, .ref 97), (1, .int x), (2, .int z)]) (fun _ => rfl) (fun v30 ev30 => ?_)
    refine g_aload_n C (pc := 32) dX12_windOfTwo_32 3 rfl ?_
    refine g_getR C (pc := 33) fl_RX12_44 (by decide) (by first | assumption | rfl | omega) (by first | assumption | rfl | omega) (by first | assumption | rfl | omega) dX12_windOfTwo_33 ?_
    refine g_iconst C (pc := 36) 1 dX12_windOfTwo_36 (by decide) ?_
    refine g_iald C (pc := 37) (by first | assumption | rfl | omega) (by first | assumption | rfl | omega) (vp_in_nI (n := 1) (by decide) (by decide)) dX12_windOfTwo_37 ?_
    refine g_if_ne C (pc := 38) 45 dX12_windOfTwo_38 (by decide) (fun c38 => ?_) (fun c38 => ?_)
    · refine g_aload_n C (pc := 45) dX12_windOfTwo_45 3 rfl ?_
      refine g_getR C (pc := 46) fl_RX12_44 (by decide) (by first | assumption | rfl | omega) (by first | assumption | rfl | omega) (by first | assumption | rfl | omega) dX12_windOfTwo_46 ?_
      refine g_iconst C (pc := 49) 1 dX12_windOfTwo_49 (by decide) ?_
      refine g_iald C (pc := 50) (by first | assumption | rfl | omega) (by first | assumption | rfl | omega) (vp_in_nI (n := 1) (by decide) (by decide)) dX12_windOfTwo_50 ?_
      refine g_istore C (pc := 51) dX12_windOfTwo_51 (by decide) (fun v51 => [(7, .int v51), (6, .int v30), (4, .long v26), (3, .int v24), (0, .ref 97), (1, .int x), (2, .int z)]) (fun _ => rfl) (fun v51 ev51 => ?_)
      have h51 : v51 = nI (cntM F b w) := by
        rw [ev51]
        have h9 : I8 109 1 = nI (mvs F b w).length := by rw [g8 109 (by decide)]; exact f3.1
        unfold cntM
        first
        | (rw [if_pos ((nI_eq (b := 0) (by omega) (by decide)).mp (h9.symm.trans c38))]; rfl)
        | (rw [if_neg (fun h8 => c38 (h9.trans (by rw [h8]; rfl)))]; exact h9)
      refine g_iconst C (pc := 53) 0 dX12_windOfTwo_53 (by decide) ?_
      refine g_istore C (pc := 54) dX12_windOfTwo_54 (by decide) (fun v54 => [(8, .int v54), (7, .int v51), (6, .int v30), (4, .long v26), (3, .int v24), (0, .ref 97), (1, .int x), (2, .int z)]) (fun _ => rfl) (fun v54 ev54 => ?_)
      have L56 : ∀ (k9 : Nat) (j : Nat) (wz8 : Int32) (wz4 : Int64) (wz6 : Int32) (J : Mem) (hw8 : wz8 = nI j) (hj : j ≤ cntM F b w) (h4 : wz4 = lN (((bstK (bM b == sd) (valF F sd 1 b w) j).map (fun q => q.1)).getD 0)) (h6 : wz6 = oI ((bstK (bM b == sd) (valF F sd 1 b w) j).map (fun q => q.2))) (hsv : SvB J F 1 b) (hfm : FMv J F b w 1) (hlw : Lw 2 I J), cntM F b w - j < k9 → G κ n ρ 56 [(8, .int wz8), (4, .long wz4), (6, .int wz6), (3, .int v24), (7, .int v51), (0, .ref 97), (1, .int x), (2, .int z)] [] J := by
        intro k9
        induction k9 with
        | zero => intro j wz8 wz4 wz6 J hw8 hj h4 h6 hsv hfm hlw hm56; exact absurd hm56 (Nat.not_lt_zero _)
        | succ k9 ih56 =>
          intro j wz8 wz4 wz6 J hw8 hj h4 h6 hsv hfm hlw hm56
          subst hw8
          have hcl := cntM_le (F := F) (b := b) (w := w) hn6
          have hml := mvs_len (F := F) (b := b) (w := w) hn6
          have hkJ := hlw.1
          refine g_iload C (pc := 56) dX12_windOfTwo_56 0 rfl ?_
          refine g_iload C (pc := 58) dX12_windOfTwo_58 4 rfl ?_
          refine g_icmp_ge C (pc := 60) 159 dX12_windOfTwo_60 (by decide) (fun c60 => ?_) (fun c60 => ?_)
          · rw [h51, nI_leI (by omega) (by omega)] at c60
            refine g_aload_n C (pc := 159) dX12_windOfTwo_159 5 rfl ?_
            refine g_iconst C (pc := 160) 1 dX12_windOfTwo_160 (by decide) ?_
            refine g_callVV C (pc := 161) mf_X12_returns lk_RX12_257 (c_X12_returnsD n ρ J F b 1 _ hn9 hms (hqf.kp hkJ) hrw hsv (by decide) rfl) (by decide) (Nat.le_refl _) rfl (by first | assumption | rfl | omega) rfl (by first | assumption | rfl | omega) (Nat.le_of_ble_eq_true rfl) dX12_windOfTwo_161 (fun I161 h161 => ?_)
            obtain ⟨f161, a161, g161⟩ := h161
            refine g_aload_n C (pc := 164) dX12_windOfTwo_164 5 rfl ?_
            refine g_aload_n C (pc := 165) dX12_windOfTwo_165 5 rfl ?_
            refine g_getR C (pc := 166) fl_RX12_44 (by decide) (by first | assumption | rfl | omega) (by first | assumption | rfl | omega) (by first | assumption | rfl | omega) dX12_windOfTwo_166 ?_
            refine g_iconst C (pc := 169) 1 dX12_windOfTwo_169 (by decide) ?_
            refine g_iald C (pc := 170) (by first | assumption | rfl | omega) (by first | assumption | rfl | omega) (vp_in_nI (n := 1) (by decide) (by decide)) dX12_windOfTwo_170 ?_
            refine g_if_ne C (pc := 171) 179 dX12_windOfTwo_171 (by decide) (fun c171 => ?_) (fun c171 => ?_)
            · refine g_iload C (pc := 179) dX12_windOfTwo_179 2 rfl ?_
              refine g_putI C (pc := 181) fl_RX12_268 (by decide) fp_11_29 (Or.inl rfl) ⟨rfl, rfl⟩ (by first | assumption | rfl | omega) (by first | assumption | rfl | omega) hn9 dX12_windOfTwo_181 ?_
              refine g_lload C (pc := 184) dX12_windOfTwo_184 1 rfl ?_
              refine g_lret C hR (pc := 186) rfl dX12_windOfTwo_186 ?_
              refine ⟨rfl, _, rfl, ?_⟩
              have hjc : j = cntM F b w := by omega
              subst hjc
              have hl5 : Lw 2 I I161 := hlw.trans ((Lw.qb a161 g161).up (by decide))
              refine ⟨h4, ?_, f161.cong (fun _ _ => by rw [wr_n (by decide)]) (fun _ _ => by rw [wr_n (by decide)]) (by rw [wr_sn (by decide)]) hn6, hl5.trans ((Lw.sc (by decide) (by decide)).up (Nat.zero_le _))⟩
              rw [wr_ss]
              have h9 : I161 109 1 = nI (mvs F b w).length := by rw [g161 109 (by decide) (by decide) (by decide)]; exact hfm.1
              unfold chW
              first
              | (rw [if_pos ((nI_eq (b := 0) (by omega) (by decide)).mp (h9.symm.trans c171))]; rfl)
              | (rw [if_neg (fun h8 => c171 (h9.trans (by rw [h8]; rfl)))]; exact h6)
            · refine g_bipush C (pc := 174) (-4) dX12_windOfTwo_174 (by decide) ?_
              refine g_goto C (pc := 176) 181 dX12_windOfTwo_176 (by decide) ?_
              refine g_putI C (pc := 181) fl_RX12_268 (by decide) fp_11_29 (Or.inl rfl) ⟨rfl, rfl⟩ (by first | assumption | rfl | omega) (by first | assumption | rfl | omega) hn9 dX12_windOfTwo_181 ?_
              refine g_lload C (pc := 184) dX12_windOfTwo_184 1 rfl ?_
              refine g_lret C hR (pc := 186) rfl dX12_windOfTwo_186 ?_
              refine ⟨rfl, _, rfl, ?_⟩
              have hjc : j = cntM F b w := by omega
              subst hjc
              have hl5 : Lw 2 I I161 := hlw.trans ((Lw.qb a161 g161).up (by decide))
              refine ⟨h4, ?_, f161.cong (fun _ _ => by rw [wr_n (by decide)]) (fun _ _ => by rw [wr_n (by decide)]) (by rw [wr_sn (by decide)]) hn6, hl5.trans ((Lw.sc (by decide) (by decide)).up (Nat.zero_le _))⟩
              rw [wr_ss]
              have h9 : I161 109 1 = nI (mvs F b w).length := by rw [g161 109 (by decide) (by decide) (by decide)]; exact hfm.1
              unfold chW
              first
              | (rw [if_pos ((nI_eq (b := 0) (by omega) (by decide)).mp (h9.symm.trans c171))]; rfl)
              | (rw [if_neg (fun h8 => c171 (h9.trans (by rw [h8]; rfl)))]; exact h6)
          · rw [h51, nI_ltI (by omega) (by omega)] at c60
            refine g_aload_n C (pc := 63) dX12_windOfTwo_63 5 rfl ?_
            refine g_iconst C (pc := 64) 1 dX12_windOfTwo_64 (by decide) ?_
            refine g_callVV C (pc := 65) mf_X12_returns lk_RX12_257 (c_X12_returnsD n ρ J F b 1 _ hn9 hms (hqf.kp hkJ) hrw hsv (by decide) rfl) (by decide) (Nat.le_refl _) rfl (by first | assumption | rfl | omega) rfl (by first | assumption | rfl | omega) (Nat.le_of_ble_eq_true rfl) dX12_windOfTwo_65 (fun I65 h65 => ?_)
            obtain ⟨f65, a65, g65⟩ := h65
            have hl2 : Lw 0 J I65 := Lw.qb a65 g65
            have hlw2 : Lw 2 I I65 := hlw.trans (hl2.up (by decide))
            have hsv2 : SvB I65 F 1 b := hsv.lw (hl2.up (by decide)) hn6
            have hfm2 : FMv I65 F b w 1 := hfm.lw (hl2.up (by decide)) hn6
            refine g_aload_n C (pc := 68) dX12_windOfTwo_68 5 rfl ?_
            refine g_iload_n C (pc := 69) dX12_windOfTwo_69 7 rfl ?_
            refine g_aload_n C (pc := 70) dX12_windOfTwo_70 5 rfl ?_
            refine g_getR C (pc := 71) fl_RX12_44 (by decide) (by first | assumption | rfl | omega) (by first | assumption | rfl | omega) (by first | assumption | rfl | omega) dX12_windOfTwo_71 ?_
            refine g_iconst C (pc := 74) 1 dX12_windOfTwo_74 (by decide) ?_
            refine g_iald C (pc := 75) (by first | assumption | rfl | omega) (by first | assumption | rfl | omega) (vp_in_nI (n := 1) (by decide) (by decide)) dX12_windOfTwo_75 ?_
            refine g_if_ne C (pc := 76) 84 dX12_windOfTwo_76 (by decide) (fun c76 => ?_) (fun c76 => ?_)
            · have hjl : j < (mvs F b w).length := by
                have h9 : ¬ I65 109 1 = 0 := c76
                rw [hfm2.1] at h9
                have h8 : (mvs F b w).length ≠ 0 := fun h => h9 (by rw [h]; rfl)
                unfold cntM at c60
                rw [if_neg h8] at c60; exact c60
              have hmx9 : I65 108 (64 + nI j).toNatClampNeg = oI ((mvs F b w)[j]?) := by
                have hk9 := List.getElem?_eq_getElem hjl
                have h9 := hfm2.2 j _ hk9
                rw [hk9, show (64 : Int32) = nI 64 from rfl, nI_add, nI_clamp (by omega)]; exact h9
              refine g_aload_n C (pc := 84) dX12_windOfTwo_84 5 rfl ?_
              refine g_getR C (pc := 85) fl_RX12_41 (by decide) (by first | assumption | rfl | omega) (by first | assumption | rfl | omega) (by first | assumption | rfl | omega) dX12_windOfTwo_85 ?_
              refine g_bipush C (pc := 88) 64 dX12_windOfTwo_88 (by decide) ?_
              refine g_iload C (pc := 90) dX12_windOfTwo_90 0 rfl ?_
              refine g_iadd C (pc := 92) dX12_windOfTwo_92 ?_
              refine g_iald C (pc := 93) (by first | assumption | rfl | omega) (by first | assumption | rfl | omega) (by rw [show (64 : Int32) = nI 64 from rfl, nI_add]; exact vp_in_nI (by omega) (by decide)) dX12_windOfTwo_93 ?_
              refine g_callVI C (pc := 94) mf_X12_goes lk_RX12_251 (c_X12_goesE n ρ I65 F b w ((mvs F b w)[j]?) _ z hn9 hms (hqf.kp hlw2.1) hrw f65 hbw hw (mvs_K hrw) (hmx9) hz) (by decide) (Nat.le_refl _) rfl (by first | assumption | rfl | omega) rfl (by first | assumption | rfl | omega) (Nat.le_of_ble_eq_true rfl) dX12_windOfTwo_94 (fun v94 I94 h94 => ?_)
              obtain ⟨e94, f94, a94, g94⟩ := h94
              have hl3 : Lw 0 I65 I94 := Lw.qb a94 g94
              replace hlw2 := hlw2
              have hbw2 : BW F (playB F b w ((mvs F b w)[j]?)) := (mvs_K hrw).bw hrw hbw
              have hl12 : L1 F (playB F b w ((mvs F b w)[j]?)) := L1_play hl1
              have hpw2 : PW F (playB F b w ((mvs F b w)[j]?)) := PW_play (mvs_K hrw) hrw hpw
              refine g_pop C (pc := 97) dX12_windOfTwo_97 rfl ?_
              refine g_aload_n C (pc := 98) dX12_windOfTwo_98 5 rfl ?_
              refine g_iload_n C (pc := 99) dX12_windOfTwo_99 6 rfl ?_
              refine g_callVL C (pc := 100) mf_X12_one lk_RX12_275 (c_X12_one n ρ I94 F (playB F b w ((mvs F b w)[j]?)) sd x hn9 hms (hqf.kp (hlw2.trans (hl3.up (by decide))).1) hrw (hqe.kp (hlw2.trans (hl3.up (by decide))).1) f94 hbw2 hl12 hpw2 hsd hx) (by decide) (Nat.le_refl _) rfl (by first | assumption | rfl | omega) rfl (by first | assumption | rfl | omega) (Nat.le_of_ble_eq_true rfl) dX12_windOfTwo_100 (fun v100 I100 h100 => ?_)
              obtain ⟨e100, k100⟩ := h100
              have hlI : Lw 1 I65 I100 := (hl3.up (by decide)).trans k100
              have hvf : v100 = lN ((valF F sd 1 b w) j) := e100
              refine g_lstore C (pc := 103) dX12_windOfTwo_103 (by decide) (fun v103 => [(9, .long v103), (8, .int (nI j)), (4, .long wz4), (6, .int wz6), (3, .int v24), (7, .int v51), (0, .ref 97), (1, .int x), (2, .int z)]) (fun _ => rfl) (fun v103 ev103 => ?_)
              refine g_iload C (pc := 105) dX12_windOfTwo_105 1 rfl ?_
              refine g_if_ne C (pc := 107) 114 dX12_windOfTwo_107 (by decide) (fun c107 => ?_) (fun c107 => ?_)
              · refine g_iconst C (pc := 114) 0 dX12_windOfTwo_114 (by decide) ?_
                refine g_iload_n C (pc := 115) dX12_windOfTwo_115 4 rfl ?_
                refine g_lload C (pc := 116) dX12_windOfTwo_116 0 rfl ?_
                refine g_lload C (pc := 118) dX12_windOfTwo_118 2 rfl ?_
                refine g_callSI C (pc := 120) mf_X12_isBetter lk_RX12_264 (c_X12_isBetter n ρ _ _ _ _ _ hn9) (by decide) (Nat.le_refl _) rfl (Nat.le_of_ble_eq_true rfl) dX12_windOfTwo_120 (fun v120 I120 h120 => ?_)
                obtain ⟨e120, rfl⟩ := h120
                refine g_istore C (pc := 123) dX12_windOfTwo_123 (by decide) (fun v123 => [(11, .int v123), (9, .long v103), (8, .int (nI j)), (4, .long wz4), (6, .int wz6), (3, .int v24), (7, .int v51), (0, .ref 97), (1, .int x), (2, .int z)]) (fun _ => rfl) (fun v123 ev123 => ?_)
                have hup := bst_upd (wants := (bM b == sd)) (f := (valF F sd 1 b w)) (j := j) (z4 := wz4) (z6 := wz6) (fl := bI (j = 0)) (own := v24) (u := v123) (fun i _ => (by show val F sd 1 (playB F b w ((mvs F b w)[i]?)) < 2 ^ 31; have h9 := val_le (F := F) (sd := sd) 1 (playB F b w ((mvs F b w)[i]?)); have h8 := pw3 (a := allO F) (k := 1) hAO (by decide); omega)) h4 h6 rfl h24 (by
                  rw [ev123, e120, ev103, hvf]
                  first
                  | (rw [bI_t (c := j = 0) ((nI_eq (b := 0) (by omega) (by decide)).mp c107)]; done)
                  | (rw [bI_f (c := j = 0) (fun h => c107 (by rw [h]; rfl))]; done))
                refine g_iload C (pc := 125) dX12_windOfTwo_125 0 rfl ?_
                refine g_if_eq C (pc := 127) 135 dX12_windOfTwo_127 (by decide) (fun c127 => ?_) (fun c127 => ?_)
                · refine g_iload C (pc := 135) dX12_windOfTwo_135 4 rfl ?_
                  refine g_istore C (pc := 137) dX12_windOfTwo_137 (by decide) (fun v137 => [(6, .int v137), (11, .int v123), (9, .long v103), (8, .int (nI j)), (4, .long wz4), (3, .int v24), (7, .int v51), (0, .ref 97), (1, .int x), (2, .int z)]) (fun _ => rfl) (fun v137 ev137 => ?_)
                  refine g_iload C (pc := 139) dX12_windOfTwo_139 1 rfl ?_
                  refine g_if_eq C (pc := 141) 149 dX12_windOfTwo_141 (by decide) (fun c141 => ?_) (fun c141 => ?_)
                  · refine g_lload C (pc := 149) dX12_windOfTwo_149 4 rfl ?_
                    refine g_lstore C (pc := 151) dX12_windOfTwo_151 (by decide) (fun v151 => [(4, .long v151), (6, .int v137), (11, .int v123), (9, .long v103), (8, .int (nI j)), (3, .int v24), (7, .int v51), (0, .ref 97), (1, .int x), (2, .int z)]) (fun _ => rfl) (fun v151 ev151 => ?_)
                    refine g_iinc C (pc := 153) (1) dX12_windOfTwo_153 4 rfl (by decide) (by decide) (fun v153 => [(8, .int v153), (4, .long v151), (6, .int v137), (11, .int v123), (9, .long v103), (3, .int v24), (7, .int v51), (0, .ref 97), (1, .int x), (2, .int z)]) (fun _ => rfl) (fun v153 ev153 => ?_)
                    refine g_goto C (pc := 156) 56 dX12_windOfTwo_156 (by decide) ?_
                    refine g_lv C [0, 1, 2, 5, 6, 7, 8, 9] rfl (ih56 (j + 1) _ _ _ _ ?_ ?_ ?_ ?_ ?_ ?_ ?_ (by omega))
                    · subst ev153; exact nI_1 _
                    · omega
                    · rw [ev151]; first | exact (ev103.trans hvf).trans (hup.1 c127).1 | exact (hup.2 c127).1
                    · rw [ev137]; first | exact (hup.1 c127).2 | exact (hup.2 c127).2
                    · exact hsv2.lw hlI hn6
                    · exact hfm2.lw hlI hn6
                    · exact hlw2.trans (hlI.up (by decide))
                  · exact absurd c127 c141
                · refine g_iload C (pc := 130) dX12_windOfTwo_130 2 rfl ?_
                  refine g_goto C (pc := 132) 137 dX12_windOfTwo_132 (by decide) ?_
                  refine g_istore C (pc := 137) dX12_windOfTwo_137 (by decide) (fun v137 => [(6, .int v137), (11, .int v123), (9, .long v103), (8, .int (nI j)), (4, .long wz4), (3, .int v24), (7, .int v51), (0, .ref 97), (1, .int x), (2, .int z)]) (fun _ => rfl) (fun v137 ev137 => ?_)
                  refine g_iload C (pc := 139) dX12_windOfTwo_139 1 rfl ?_
                  refine g_if_eq C (pc := 141) 149 dX12_windOfTwo_141 (by decide) (fun c141 => ?_) (fun c141 => ?_)
                  · exact absurd c141 c127
                  · refine g_lload C (pc := 144) dX12_windOfTwo_144 2 rfl ?_
                    refine g_goto C (pc := 146) 151 dX12_windOfTwo_146 (by decide) ?_
                    refine g_lstore C (pc := 151) dX12_windOfTwo_151 (by decide) (fun v151 => [(4, .long v151), (6, .int v137), (11, .int v123), (9, .long v103), (8, .int (nI j)), (3, .int v24), (7, .int v51), (0, .ref 97), (1, .int x), (2, .int z)]) (fun _ => rfl) (fun v151 ev151 => ?_)
                    refine g_iinc C (pc := 153) (1) dX12_windOfTwo_153 4 rfl (by decide) (by decide) (fun v153 => [(8, .int v153), (4, .long v151), (6, .int v137), (11, .int v123), (9, .long v103), (3, .int v24), (7, .int v51), (0, .ref 97), (1, .int x), (2, .int z)]) (fun _ => rfl) (fun v153 ev153 => ?_)
                    refine g_goto C (pc := 156) 56 dX12_windOfTwo_156 (by decide) ?_
                    refine g_lv C [0, 1, 2, 5, 6, 7, 8, 9] rfl (ih56 (j + 1) _ _ _ _ ?_ ?_ ?_ ?_ ?_ ?_ ?_ (by omega))
                    · subst ev153; exact nI_1 _
                    · omega
                    · rw [ev151]; first | exact (ev103.trans hvf).trans (hup.1 c127).1 | exact (hup.2 c127).1
                    · rw [ev137]; first | exact (hup.1 c127).2 | exact (hup.2 c127).2
                    · exact hsv2.lw hlI hn6
                    · exact hfm2.lw hlI hn6
                    · exact hlw2.trans (hlI.up (by decide))
              · refine g_iconst C (pc := 110) 1 dX12_windOfTwo_110 (by decide) ?_
                refine g_goto C (pc := 111) 115 dX12_windOfTwo_111 (by decide) ?_
                refine g_iload_n C (pc := 115) dX12_windOfTwo_115 4 rfl ?_
                refine g_lload C (pc := 116) dX12_windOfTwo_116 0 rfl ?_
                refine g_lload C (pc := 118) dX12_windOfTwo_118 2 rfl ?_
                refine g_callSI C (pc := 120) mf_X12_isBetter lk_RX12_264 (c_X12_isBetter n ρ _ _ _ _ _ hn9) (by decide) (Nat.le_refl _) rfl (Nat.le_of_ble_eq_true rfl) dX12_windOfTwo_120 (fun v120 I120 h120 => ?_)
                obtain ⟨e120, rfl⟩ := h120
                refine g_istore C (pc := 123) dX12_windOfTwo_123 (by decide) (fun v123 => [(11, .int v123), (9, .long v103), (8, .int (nI j)), (4, .long wz4), (6, .int wz6), (3, .int v24), (7, .int v51), (0, .ref 97), (1, .int x), (2, .int z)]) (fun _ => rfl) (fun v123 ev123 => ?_)
                have hup := bst_upd (wants := (bM b == sd)) (f := (valF F sd 1 b w)) (j := j) (z4 := wz4) (z6 := wz6) (fl := bI (j = 0)) (own := v24) (u := v123) (fun i _ => (by show val F sd 1 (playB F b w ((mvs F b w)[i]?)) < 2 ^ 31; have h9 := val_le (F := F) (sd := sd) 1 (playB F b w ((mvs F b w)[i]?)); have h8 := pw3 (a := allO F) (k := 1) hAO (by decide); omega)) h4 h6 rfl h24 (by
                  rw [ev123, e120, ev103, hvf]
                  first
                  | (rw [bI_t (c := j = 0) ((nI_eq (b := 0) (by omega) (by decide)).mp c107)]; done)
                  | (rw [bI_f (c := j = 0) (fun h => c107 (by rw [h]; rfl))]; done))
                refine g_iload C (pc := 125) dX12_windOfTwo_125 0 rfl ?_
                refine g_if_eq C (pc := 127) 135 dX12_windOfTwo_127 (by decide) (fun c127 => ?_) (fun c127 => ?_)
                · refine g_iload C (pc := 135) dX12_windOfTwo_135 4 rfl ?_
                  refine g_istore C (pc := 137) dX12_windOfTwo_137 (by decide) (fun v137 => [(6, .int v137), (11, .int v123), (9, .long v103), (8, .int (nI j)), (4, .long wz4), (3, .int v24), (7, .int v51), (0, .ref 97), (1, .int x), (2, .int z)]) (fun _ => rfl) (fun v137 ev137 => ?_)
                  refine g_iload C (pc := 139) dX12_windOfTwo_139 1 rfl ?_
                  refine g_if_eq C (pc := 141) 149 dX12_windOfTwo_141 (by decide) (fun c141 => ?_) (fun c141 => ?_)
                  · refine g_lload C (pc := 149) dX12_windOfTwo_149 4 rfl ?_
                    refine g_lstore C (pc := 151) dX12_windOfTwo_151 (by decide) (fun v151 => [(4, .long v151), (6, .int v137), (11, .int v123), (9, .long v103), (8, .int (nI j)), (3, .int v24), (7, .int v51), (0, .ref 97), (1, .int x), (2, .int z)]) (fun _ => rfl) (fun v151 ev151 => ?_)
                    refine g_iinc C (pc := 153) (1) dX12_windOfTwo_153 4 rfl (by decide) (by decide) (fun v153 => [(8, .int v153), (4, .long v151), (6, .int v137), (11, .int v123), (9, .long v103), (3, .int v24), (7, .int v51), (0, .ref 97), (1, .int x), (2, .int z)]) (fun _ => rfl) (fun v153 ev153 => ?_)
                    refine g_goto C (pc := 156) 56 dX12_windOfTwo_156 (by decide) ?_
                    refine g_lv C [0, 1, 2, 5, 6, 7, 8, 9] rfl (ih56 (j + 1) _ _ _ _ ?_ ?_ ?_ ?_ ?_ ?_ ?_ (by omega))
                    · subst ev153; exact nI_1 _
                    · omega
                    · rw [ev151]; first | exact (ev103.trans hvf).trans (hup.1 c127).1 | exact (hup.2 c127).1
                    · rw [ev137]; first | exact (hup.1 c127).2 | exact (hup.2 c127).2
                    · exact hsv2.lw hlI hn6
                    · exact hfm2.lw hlI hn6
                    · exact hlw2.trans (hlI.up (by decide))
                  · exact absurd c127 c141
                · refine g_iload C (pc := 130) dX12_windOfTwo_130 2 rfl ?_
                  refine g_goto C (pc := 132) 137 dX12_windOfTwo_132 (by decide) ?_
                  refine g_istore C (pc := 137) dX12_windOfTwo_137 (by decide) (fun v137 => [(6, .int v137), (11, .int v123), (9, .long v103), (8, .int (nI j)), (4, .long wz4), (3, .int v24), (7, .int v51), (0, .ref 97), (1, .int x), (2, .int z)]) (fun _ => rfl) (fun v137 ev137 => ?_)
                  refine g_iload C (pc := 139) dX12_windOfTwo_139 1 rfl ?_
                  refine g_if_eq C (pc := 141) 149 dX12_windOfTwo_141 (by decide) (fun c141 => ?_) (fun c141 => ?_)
                  · exact absurd c141 c127
                  · refine g_lload C (pc := 144) dX12_windOfTwo_144 2 rfl ?_
                    refine g_goto C (pc := 146) 151 dX12_windOfTwo_146 (by decide) ?_
                    refine g_lstore C (pc := 151) dX12_windOfTwo_151 (by decide) (fun v151 => [(4, .long v151), (6, .int v137), (11, .int v123), (9, .long v103), (8, .int (nI j)), (3, .int v24), (7, .int v51), (0, .ref 97), (1, .int x), (2, .int z)]) (fun _ => rfl) (fun v151 ev151 => ?_)
                    refine g_iinc C (pc := 153) (1) dX12_windOfTwo_153 4 rfl (by decide) (by decide) (fun v153 => [(8, .int v153), (4, .long v151), (6, .int v137), (11, .int v123), (9, .long v103), (3, .int v24), (7, .int v51), (0, .ref 97), (1, .int x), (2, .int z)]) (fun _ => rfl) (fun v153 ev153 => ?_)
                    refine g_goto C (pc := 156) 56 dX12_windOfTwo_156 (by decide) ?_
                    refine g_lv C [0, 1, 2, 5, 6, 7, 8, 9] rfl (ih56 (j + 1) _ _ _ _ ?_ ?_ ?_ ?_ ?_ ?_ ?_ (by omega))
                    · subst ev153; exact nI_1 _
                    · omega
                    · rw [ev151]; first | exact (ev103.trans hvf).trans (hup.1 c127).1 | exact (hup.2 c127).1
                    · rw [ev137]; first | exact (hup.1 c127).2 | exact (hup.2 c127).2
                    · exact hsv2.lw hlI hn6
                    · exact hfm2.lw hlI hn6
                    · exact hlw2.trans (hlI.up (by decide))
            · have hjl : (mvs F b w).length = 0 := by
                have h9 : I65 109 1 = 0 := c76
                rw [hfm2.1] at h9
                exact (nI_eq (b := 0) (by omega) (by decide)).mp h9
              have hmx9 : (-4 : Int32) = oI ((mvs F b w)[j]?) := by rw [List.getElem?_eq_none (by omega)]; rfl
              refine g_bipush C (pc := 79) (-4) dX12_windOfTwo_79 (by decide) ?_
              refine g_goto C (pc := 81) 94 dX12_windOfTwo_81 (by decide) ?_
              refine g_callVI C (pc := 94) mf_X12_goes lk_RX12_251 (c_X12_goesE n ρ I65 F b w ((mvs F b w)[j]?) _ z hn9 hms (hqf.kp hlw2.1) hrw f65 hbw hw (mvs_K hrw) (hmx9) hz) (by decide) (Nat.le_refl _) rfl (by first | assumption | rfl | omega) rfl (by first | assumption | rfl | omega) (Nat.le_of_ble_eq_true rfl) dX12_windOfTwo_94 (fun v94 I94 h94 => ?_)
              obtain ⟨e94, f94, a94, g94⟩ := h94
              have hl3 : Lw 0 I65 I94 := Lw.qb a94 g94
              replace hlw2 := hlw2
              have hbw2 : BW F (playB F b w ((mvs F b w)[j]?)) := (mvs_K hrw).bw hrw hbw
              have hl12 : L1 F (playB F b w ((mvs F b w)[j]?)) := L1_play hl1
              have hpw2 : PW F (playB F b w ((mvs F b w)[j]?)) := PW_play (mvs_K hrw) hrw hpw
              refine g_pop C (pc := 97) dX12_windOfTwo_97 rfl ?_
              refine g_aload_n C (pc := 98) dX12_windOfTwo_98 5 rfl ?_
              refine g_iload_n C (pc := 99) dX12_windOfTwo_99 6 rfl ?_
              refine g_callVL C (pc := 100) mf_X12_one lk_RX12_275 (c_X12_one n ρ I94 F (playB F b w ((mvs F b w)[j]?)) sd x hn9 hms (hqf.kp (hlw2.trans (hl3.up (by decide))).1) hrw (hqe.kp (hlw2.trans (hl3.up (by decide))).1) f94 hbw2 hl12 hpw2 hsd hx) (by decide) (Nat.le_refl _) rfl (by first | assumption | rfl | omega) rfl (by first | assumption | rfl | omega) (Nat.le_of_ble_eq_true rfl) dX12_windOfTwo_100 (fun v100 I100 h100 => ?_)
              obtain ⟨e100, k100⟩ := h100
              have hlI : Lw 1 I65 I100 := (hl3.up (by decide)).trans k100
              have hvf : v100 = lN ((valF F sd 1 b w) j) := e100
              refine g_lstore C (pc := 103) dX12_windOfTwo_103 (by decide) (fun v103 => [(9, .long v103), (8, .int (nI j)), (4, .long wz4), (6, .int wz6), (3, .int v24), (7, .int v51), (0, .ref 97), (1, .int x), (2, .int z)]) (fun _ => rfl) (fun v103 ev103 => ?_)
              refine g_iload C (pc := 105) dX12_windOfTwo_105 1 rfl ?_
              refine g_if_ne C (pc := 107) 114 dX12_windOfTwo_107 (by decide) (fun c107 => ?_) (fun c107 => ?_)
              · refine g_iconst C (pc := 114) 0 dX12_windOfTwo_114 (by decide) ?_
                refine g_iload_n C (pc := 115) dX12_windOfTwo_115 4 rfl ?_
                refine g_lload C (pc := 116) dX12_windOfTwo_116 0 rfl ?_
                refine g_lload C (pc := 118) dX12_windOfTwo_118 2 rfl ?_
                refine g_callSI C (pc := 120) mf_X12_isBetter lk_RX12_264 (c_X12_isBetter n ρ _ _ _ _ _ hn9) (by decide) (Nat.le_refl _) rfl (Nat.le_of_ble_eq_true rfl) dX12_windOfTwo_120 (fun v120 I120 h120 => ?_)
                obtain ⟨e120, rfl⟩ := h120
                refine g_istore C (pc := 123) dX12_windOfTwo_123 (by decide) (fun v123 => [(11, .int v123), (9, .long v103), (8, .int (nI j)), (4, .long wz4), (6, .int wz6), (3, .int v24), (7, .int v51), (0, .ref 97), (1, .int x), (2, .int z)]) (fun _ => rfl) (fun v123 ev123 => ?_)
                have hup := bst_upd (wants := (bM b == sd)) (f := (valF F sd 1 b w)) (j := j) (z4 := wz4) (z6 := wz6) (fl := bI (j = 0)) (own := v24) (u := v123) (fun i _ => (by show val F sd 1 (playB F b w ((mvs F b w)[i]?)) < 2 ^ 31; have h9 := val_le (F := F) (sd := sd) 1 (playB F b w ((mvs F b w)[i]?)); have h8 := pw3 (a := allO F) (k := 1) hAO (by decide); omega)) h4 h6 rfl h24 (by
                  rw [ev123, e120, ev103, hvf]
                  first
                  | (rw [bI_t (c := j = 0) ((nI_eq (b := 0) (by omega) (by decide)).mp c107)]; done)
                  | (rw [bI_f (c := j = 0) (fun h => c107 (by rw [h]; rfl))]; done))
                refine g_iload C (pc := 125) dX12_windOfTwo_125 0 rfl ?_
                refine g_if_eq C (pc := 127) 135 dX12_windOfTwo_127 (by decide) (fun c127 => ?_) (fun c127 => ?_)
                · refine g_iload C (pc := 135) dX12_windOfTwo_135 4 rfl ?_
                  refine g_istore C (pc := 137) dX12_windOfTwo_137 (by decide) (fun v137 => [(6, .int v137), (11, .int v123), (9, .long v103), (8, .int (nI j)), (4, .long wz4), (3, .int v24), (7, .int v51), (0, .ref 97), (1, .int x), (2, .int z)]) (fun _ => rfl) (fun v137 ev137 => ?_)
                  refine g_iload C (pc := 139) dX12_windOfTwo_139 1 rfl ?_
                  refine g_if_eq C (pc := 141) 149 dX12_windOfTwo_141 (by decide) (fun c141 => ?_) (fun c141 => ?_)
                  · refine g_lload C (pc := 149) dX12_windOfTwo_149 4 rfl ?_
                    refine g_lstore C (pc := 151) dX12_windOfTwo_151 (by decide) (fun v151 => [(4, .long v151), (6, .int v137), (11, .int v123), (9, .long v103), (8, .int (nI j)), (3, .int v24), (7, .int v51), (0, .ref 97), (1, .int x), (2, .int z)]) (fun _ => rfl) (fun v151 ev151 => ?_)
                    refine g_iinc C (pc := 153) (1) dX12_windOfTwo_153 4 rfl (by decide) (by decide) (fun v153 => [(8, .int v153), (4, .long v151), (6, .int v137), (11, .int v123), (9, .long v103), (3, .int v24), (7, .int v51), (0, .ref 97), (1, .int x), (2, .int z)]) (fun _ => rfl) (fun v153 ev153 => ?_)
                    refine g_goto C (pc := 156) 56 dX12_windOfTwo_156 (by decide) ?_
                    refine g_lv C [0, 1, 2, 5, 6, 7, 8, 9] rfl (ih56 (j + 1) _ _ _ _ ?_ ?_ ?_ ?_ ?_ ?_ ?_ (by omega))
                    · subst ev153; exact nI_1 _
                    · omega
                    · rw [ev151]; first | exact (ev103.trans hvf).trans (hup.1 c127).1 | exact (hup.2 c127).1
                    · rw [ev137]; first | exact (hup.1 c127).2 | exact (hup.2 c127).2
                    · exact hsv2.lw hlI hn6
                    · exact hfm2.lw hlI hn6
                    · exact hlw2.trans (hlI.up (by decide))
                  · exact absurd c127 c141
                · refine g_iload C (pc := 130) dX12_windOfTwo_130 2 rfl ?_
                  refine g_goto C (pc := 132) 137 dX12_windOfTwo_132 (by decide) ?_
                  refine g_istore C (pc := 137) dX12_windOfTwo_137 (by decide) (fun v137 => [(6, .int v137), (11, .int v123), (9, .long v103), (8, .int (nI j)), (4, .long wz4), (3, .int v24), (7, .int v51), (0, .ref 97), (1, .int x), (2, .int z)]) (fun _ => rfl) (fun v137 ev137 => ?_)
                  refine g_iload C (pc := 139) dX12_windOfTwo_139 1 rfl ?_
                  refine g_if_eq C (pc := 141) 149 dX12_windOfTwo_141 (by decide) (fun c141 => ?_) (fun c141 => ?_)
                  · exact absurd c141 c127
                  · refine g_lload C (pc := 144) dX12_windOfTwo_144 2 rfl ?_
                    refine g_goto C (pc := 146) 151 dX12_windOfTwo_146 (by decide) ?_
                    refine g_lstore C (pc := 151) dX12_windOfTwo_151 (by decide) (fun v151 => [(4, .long v151), (6, .int v137), (11, .int v123), (9, .long v103), (8, .int (nI j)), (3, .int v24), (7, .int v51), (0, .ref 97), (1, .int x), (2, .int z)]) (fun _ => rfl) (fun v151 ev151 => ?_)
                    refine g_iinc C (pc := 153) (1) dX12_windOfTwo_153 4 rfl (by decide) (by decide) (fun v153 => [(8, .int v153), (4, .long v151), (6, .int v137), (11, .int v123), (9, .long v103), (3, .int v24), (7, .int v51), (0, .ref 97), (1, .int x), (2, .int z)]) (fun _ => rfl) (fun v153 ev153 => ?_)
                    refine g_goto C (pc := 156) 56 dX12_windOfTwo_156 (by decide) ?_
                    refine g_lv C [0, 1, 2, 5, 6, 7, 8, 9] rfl (ih56 (j + 1) _ _ _ _ ?_ ?_ ?_ ?_ ?_ ?_ ?_ (by omega))
                    · subst ev153; exact nI_1 _
                    · omega
                    · rw [ev151]; first | exact (ev103.trans hvf).trans (hup.1 c127).1 | exact (hup.2 c127).1
                    · rw [ev137]; first | exact (hup.1 c127).2 | exact (hup.2 c127).2
                    · exact hsv2.lw hlI hn6
                    · exact hfm2.lw hlI hn6
                    · exact hlw2.trans (hlI.up (by decide))
              · refine g_iconst C (pc := 110) 1 dX12_windOfTwo_110 (by decide) ?_
                refine g_goto C (pc := 111) 115 dX12_windOfTwo_111 (by decide) ?_
                refine g_iload_n C (pc := 115) dX12_windOfTwo_115 4 rfl ?_
                refine g_lload C (pc := 116) dX12_windOfTwo_116 0 rfl ?_
                refine g_lload C (pc := 118) dX12_windOfTwo_118 2 rfl ?_
                refine g_callSI C (pc := 120) mf_X12_isBetter lk_RX12_264 (c_X12_isBetter n ρ _ _ _ _ _ hn9) (by decide) (Nat.le_refl _) rfl (Nat.le_of_ble_eq_true rfl) dX12_windOfTwo_120 (fun v120 I120 h120 => ?_)
                obtain ⟨e120, rfl⟩ := h120
                refine g_istore C (pc := 123) dX12_windOfTwo_123 (by decide) (fun v123 => [(11, .int v123), (9, .long v103), (8, .int (nI j)), (4, .long wz4), (6, .int wz6), (3, .int v24), (7, .int v51), (0, .ref 97), (1, .int x), (2, .int z)]) (fun _ => rfl) (fun v123 ev123 => ?_)
                have hup := bst_upd (wants := (bM b == sd)) (f := (valF F sd 1 b w)) (j := j) (z4 := wz4) (z6 := wz6) (fl := bI (j = 0)) (own := v24) (u := v123) (fun i _ => (by show val F sd 1 (playB F b w ((mvs F b w)[i]?)) < 2 ^ 31; have h9 := val_le (F := F) (sd := sd) 1 (playB F b w ((mvs F b w)[i]?)); have h8 := pw3 (a := allO F) (k := 1) hAO (by decide); omega)) h4 h6 rfl h24 (by
                  rw [ev123, e120, ev103, hvf]
                  first
                  | (rw [bI_t (c := j = 0) ((nI_eq (b := 0) (by omega) (by decide)).mp c107)]; done)
                  | (rw [bI_f (c := j = 0) (fun h => c107 (by rw [h]; rfl))]; done))
                refine g_iload C (pc := 125) dX12_windOfTwo_125 0 rfl ?_
                refine g_if_eq C (pc := 127) 135 dX12_windOfTwo_127 (by decide) (fun c127 => ?_) (fun c127 => ?_)
                · refine g_iload C (pc := 135) dX12_windOfTwo_135 4 rfl ?_
                  refine g_istore C (pc := 137) dX12_windOfTwo_137 (by decide) (fun v137 => [(6, .int v137), (11, .int v123), (9, .long v103), (8, .int (nI j)), (4, .long wz4), (3, .int v24), (7, .int v51), (0, .ref 97), (1, .int x), (2, .int z)]) (fun _ => rfl) (fun v137 ev137 => ?_)
                  refine g_iload C (pc := 139) dX12_windOfTwo_139 1 rfl ?_
                  refine g_if_eq C (pc := 141) 149 dX12_windOfTwo_141 (by decide) (fun c141 => ?_) (fun c141 => ?_)
                  · refine g_lload C (pc := 149) dX12_windOfTwo_149 4 rfl ?_
                    refine g_lstore C (pc := 151) dX12_windOfTwo_151 (by decide) (fun v151 => [(4, .long v151), (6, .int v137), (11, .int v123), (9, .long v103), (8, .int (nI j)), (3, .int v24), (7, .int v51), (0, .ref 97), (1, .int x), (2, .int z)]) (fun _ => rfl) (fun v151 ev151 => ?_)
                    refine g_iinc C (pc := 153) (1) dX12_windOfTwo_153 4 rfl (by decide) (by decide) (fun v153 => [(8, .int v153), (4, .long v151), (6, .int v137), (11, .int v123), (9, .long v103), (3, .int v24), (7, .int v51), (0, .ref 97), (1, .int x), (2, .int z)]) (fun _ => rfl) (fun v153 ev153 => ?_)
                    refine g_goto C (pc := 156) 56 dX12_windOfTwo_156 (by decide) ?_
                    refine g_lv C [0, 1, 2, 5, 6, 7, 8, 9] rfl (ih56 (j + 1) _ _ _ _ ?_ ?_ ?_ ?_ ?_ ?_ ?_ (by omega))
                    · subst ev153; exact nI_1 _
                    · omega
                    · rw [ev151]; first | exact (ev103.trans hvf).trans (hup.1 c127).1 | exact (hup.2 c127).1
                    · rw [ev137]; first | exact (hup.1 c127).2 | exact (hup.2 c127).2
                    · exact hsv2.lw hlI hn6
                    · exact hfm2.lw hlI hn6
                    · exact hlw2.trans (hlI.up (by decide))
                  · exact absurd c127 c141
                · refine g_iload C (pc := 130) dX12_windOfTwo_130 2 rfl ?_
                  refine g_goto C (pc := 132) 137 dX12_windOfTwo_132 (by decide) ?_
                  refine g_istore C (pc := 137) dX12_windOfTwo_137 (by decide) (fun v137 => [(6, .int v137), (11, .int v123), (9, .long v103), (8, .int (nI j)), (4, .long wz4), (3, .int v24), (7, .int v51), (0, .ref 97), (1, .int x), (2, .int z)]) (fun _ => rfl) (fun v137 ev137 => ?_)
                  refine g_iload C (pc := 139) dX12_windOfTwo_139 1 rfl ?_
                  refine g_if_eq C (pc := 141) 149 dX12_windOfTwo_141 (by decide) (fun c141 => ?_) (fun c141 => ?_)
                  · exact absurd c141 c127
                  · refine g_lload C (pc := 144) dX12_windOfTwo_144 2 rfl ?_
                    refine g_goto C (pc := 146) 151 dX12_windOfTwo_146 (by decide) ?_
                    refine g_lstore C (pc := 151) dX12_windOfTwo_151 (by decide) (fun v151 => [(4, .long v151), (6, .int v137), (11, .int v123), (9, .long v103), (8, .int (nI j)), (3, .int v24), (7, .int v51), (0, .ref 97), (1, .int x), (2, .int z)]) (fun _ => rfl) (fun v151 ev151 => ?_)
                    refine g_iinc C (pc := 153) (1) dX12_windOfTwo_153 4 rfl (by decide) (by decide) (fun v153 => [(8, .int v153), (4, .long v151), (6, .int v137), (11, .int v123), (9, .long v103), (3, .int v24), (7, .int v51), (0, .ref 97), (1, .int x), (2, .int z)]) (fun _ => rfl) (fun v153 ev153 => ?_)
                    refine g_goto C (pc := 156) 56 dX12_windOfTwo_156 (by decide) ?_
                    refine g_lv C [0, 1, 2, 5, 6, 7, 8, 9] rfl (ih56 (j + 1) _ _ _ _ ?_ ?_ ?_ ?_ ?_ ?_ ?_ (by omega))
                    · subst ev153; exact nI_1 _
                    · omega
                    · rw [ev151]; first | exact (ev103.trans hvf).trans (hup.1 c127).1 | exact (hup.2 c127).1
                    · rw [ev137]; first | exact (hup.1 c127).2 | exact (hup.2 c127).2
                    · exact hsv2.lw hlI hn6
                    · exact hfm2.lw hlI hn6
                    · exact hlw2.trans (hlI.up (by decide))
      refine g_lv C [0, 3, 2, 4, 1, 5, 6, 7] rfl (L56 (_ + 1) 0 _ _ _ _ ?_ ?_ ?_ ?_ ?_ ?_ ?_ (by first | omega | exact Nat.lt_succ_self _))
      · subst ev54; rfl
      · omega
      · subst ev26; rfl
      · subst ev30; rfl
      · exact f8
      · exact f3.cong (by rw [g8 109 (by decide)]) (fun z _ _ => by rw [g8 108 (by decide)]) hn6
      · exact (Lw.fm a3 b3 g3).trans (Lw.sv a8 g8)
    · refine g_iconst C (pc := 41) 1 dX12_windOfTwo_41 (by decide) ?_
      refine g_goto C (pc := 42) 51 dX12_windOfTwo_42 (by decide) ?_
      refine g_istore C (pc := 51) dX12_windOfTwo_51 (by decide) (fun v51 => [(7, .int v51), (6, .int v30), (4, .long v26), (3, .int v24), (0, .ref 97), (1, .int x), (2, .int z)]) (fun _ => rfl) (fun v51 ev51 => ?_)
      have h51 : v51 = nI (cntM F b w) := by
        rw [ev51]
        have h9 : I8 109 1 = nI (mvs F b w).length := by rw [g8 109 (by decide)]; exact f3.1
        unfold cntM
        first
        | (rw [if_pos ((nI_eq (b := 0) (by omega) (by decide)).mp (h9.symm.trans c38))]; rfl)
        | (rw [if_neg (fun h8 => c38 (h9.trans (by rw [h8]; rfl)))]; exact h9)
      refine g_iconst C (pc := 53) 0 dX12_windOfTwo_53 (by decide) ?_
      refine g_istore C (pc := 54) dX12_windOfTwo_54 (by decide) (fun v54 => [(8, .int v54), (7, .int v51), (6, .int v30), (4, .long v26), (3, .int v24), (0, .ref 97), (1, .int x), (2, .int z)]) (fun _ => rfl) (fun v54 ev54 => ?_)
      have L56 : ∀ (k9 : Nat) (j : Nat) (wz8 : Int32) (wz4 : Int64) (wz6 : Int32) (J : Mem) (hw8 : wz8 = nI j) (hj : j ≤ cntM F b w) (h4 : wz4 = lN (((bstK (bM b == sd) (valF F sd 1 b w) j).map (fun q => q.1)).getD 0)) (h6 : wz6 = oI ((bstK (bM b == sd) (valF F sd 1 b w) j).map (fun q => q.2))) (hsv : SvB J F 1 b) (hfm : FMv J F b w 1) (hlw : Lw 2 I J), cntM F b w - j < k9 → G κ n ρ 56 [(8, .int wz8), (4, .long wz4), (6, .int wz6), (3, .int v24), (7, .int v51), (0, .ref 97), (1, .int x), (2, .int z)] [] J := by
        intro k9
        induction k9 with
        | zero => intro j wz8 wz4 wz6 J hw8 hj h4 h6 hsv hfm hlw hm56; exact absurd hm56 (Nat.not_lt_zero _)
        | succ k9 ih56 =>
          intro j wz8 wz4 wz6 J hw8 hj h4 h6 hsv hfm hlw hm56
          subst hw8
          have hcl := cntM_le (F := F) (b := b) (w := w) hn6
          have hml := mvs_len (F := F) (b := b) (w := w) hn6
          have hkJ := hlw.1
          refine g_iload C (pc := 56) dX12_windOfTwo_56 0 rfl ?_
          refine g_iload C (pc := 58) dX12_windOfTwo_58 4 rfl ?_
          refine g_icmp_ge C (pc := 60) 159 dX12_windOfTwo_60 (by decide) (fun c60 => ?_) (fun c60 => ?_)
          · rw [h51, nI_leI (by omega) (by omega)] at c60
            refine g_aload_n C (pc := 159) dX12_windOfTwo_159 5 rfl ?_
            refine g_iconst C (pc := 160) 1 dX12_windOfTwo_160 (by decide) ?_
            refine g_callVV C (pc := 161) mf_X12_returns lk_RX12_257 (c_X12_returnsD n ρ J F b 1 _ hn9 hms (hqf.kp hkJ) hrw hsv (by decide) rfl) (by decide) (Nat.le_refl _) rfl (by first | assumption | rfl | omega) rfl (by first | assumption | rfl | omega) (Nat.le_of_ble_eq_true rfl) dX12_windOfTwo_161 (fun I161 h161 => ?_)
            obtain ⟨f161, a161, g161⟩ := h161
            refine g_aload_n C (pc := 164) dX12_windOfTwo_164 5 rfl ?_
            refine g_aload_n C (pc := 165) dX12_windOfTwo_165 5 rfl ?_
            refine g_getR C (pc := 166) fl_RX12_44 (by decide) (by first | assumption | rfl | omega) (by first | assumption | rfl | omega) (by first | assumption | rfl | omega) dX12_windOfTwo_166 ?_
            refine g_iconst C (pc := 169) 1 dX12_windOfTwo_169 (by decide) ?_
            refine g_iald C (pc := 170) (by first | assumption | rfl | omega) (by first | assumption | rfl | omega) (vp_in_nI (n := 1) (by decide) (by decide)) dX12_windOfTwo_170 ?_
            refine g_if_ne C (pc := 171) 179 dX12_windOfTwo_171 (by decide) (fun c171 => ?_) (fun c171 => ?_)
            · refine g_iload C (pc := 179) dX12_windOfTwo_179 2 rfl ?_
              refine g_putI C (pc := 181) fl_RX12_268 (by decide) fp_11_29 (Or.inl rfl) ⟨rfl, rfl⟩ (by first | assumption | rfl | omega) (by first | assumption | rfl | omega) hn9 dX12_windOfTwo_181 ?_
              refine g_lload C (pc := 184) dX12_windOfTwo_184 1 rfl ?_
              refine g_lret C hR (pc := 186) rfl dX12_windOfTwo_186 ?_
              refine ⟨rfl, _, rfl, ?_⟩
              have hjc : j = cntM F b w := by omega
              subst hjc
              have hl5 : Lw 2 I I161 := hlw.trans ((Lw.qb a161 g161).up (by decide))
              refine ⟨h4, ?_, f161.cong (fun _ _ => by rw [wr_n (by decide)]) (fun _ _ => by rw [wr_n (by decide)]) (by rw [wr_sn (by decide)]) hn6, hl5.trans ((Lw.sc (by decide) (by decide)).up (Nat.zero_le _))⟩
              rw [wr_ss]
              have h9 : I161 109 1 = nI (mvs F b w).length := by rw [g161 109 (by decide) (by decide) (by decide)]; exact hfm.1
              unfold chW
              first
              | (rw [if_pos ((nI_eq (b := 0) (by omega) (by decide)).mp (h9.symm.trans c171))]; rfl)
              | (rw [if_neg (fun h8 => c171 (h9.trans (by rw [h8]; rfl)))]; exact h6)
            · refine g_bipush C (pc := 174) (-4) dX12_windOfTwo_174 (by decide) ?_
              refine g_goto C (pc := 176) 181 dX12_windOfTwo_176 (by decide) ?_
              refine g_putI C (pc := 181) fl_RX12_268 (by decide) fp_11_29 (Or.inl rfl) ⟨rfl, rfl⟩ (by first | assumption | rfl | omega) (by first | assumption | rfl | omega) hn9 dX12_windOfTwo_181 ?_
              refine g_lload C (pc := 184) dX12_windOfTwo_184 1 rfl ?_
              refine g_lret C hR (pc := 186) rfl dX12_windOfTwo_186 ?_
              refine ⟨rfl, _, rfl, ?_⟩
              have hjc : j = cntM F b w := by omega
              subst hjc
              have hl5 : Lw 2 I I161 := hlw.trans ((Lw.qb a161 g161).up (by decide))
              refine ⟨h4, ?_, f161.cong (fun _ _ => by rw [wr_n (by decide)]) (fun _ _ => by rw [wr_n (by decide)]) (by rw [wr_sn (by decide)]) hn6, hl5.trans ((Lw.sc (by decide) (by decide)).up (Nat.zero_le _))⟩
              rw [wr_ss]
              have h9 : I161 109 1 = nI (mvs F b w).length := by rw [g161 109 (by decide) (by decide) (by decide)]; exact hfm.1
              unfold chW
              first
              | (rw [if_pos ((nI_eq (b := 0) (by omega) (by decide)).mp (h9.symm.trans c171))]; rfl)
              | (rw [if_neg (fun h8 => c171 (h9.trans (by rw [h8]; rfl)))]; exact h6)
          · rw [h51, nI_ltI (by omega) (by omega)] at c60
            refine g_aload_n C (pc := 63) dX12_windOfTwo_63 5 rfl ?_
            refine g_iconst C (pc := 64) 1 dX12_windOfTwo_64 (by decide) ?_
            refine g_callVV C (pc := 65) mf_X12_returns lk_RX12_257 (c_X12_returnsD n ρ J F b 1 _ hn9 hms (hqf.kp hkJ) hrw hsv (by decide) rfl) (by decide) (Nat.le_refl _) rfl (by first | assumption | rfl | omega) rfl (by first | assumption | rfl | omega) (Nat.le_of_ble_eq_true rfl) dX12_windOfTwo_65 (fun I65 h65 => ?_)
            obtain ⟨f65, a65, g65⟩ := h65
            have hl2 : Lw 0 J I65 := Lw.qb a65 g65
            have hlw2 : Lw 2 I I65 := hlw.trans (hl2.up (by decide))
            have hsv2 : SvB I65 F 1 b := hsv.lw (hl2.up (by decide)) hn6
            have hfm2 : FMv I65 F b w 1 := hfm.lw (hl2.up (by decide)) hn6
            refine g_aload_n C (pc := 68) dX12_windOfTwo_68 5 rfl ?_
            refine g_iload_n C (pc := 69) dX12_windOfTwo_69 7 rfl ?_
            refine g_aload_n C (pc := 70) dX12_windOfTwo_70 5 rfl ?_
            refine g_getR C (pc := 71) fl_RX12_44 (by decide) (by first | assumption | rfl | omega) (by first | assumption | rfl | omega) (by first | assumption | rfl | omega) dX12_windOfTwo_71 ?_
            refine g_iconst C (pc := 74) 1 dX12_windOfTwo_74 (by decide) ?_
            refine g_iald C (pc := 75) (by first | assumption | rfl | omega) (by first | assumption | rfl | omega) (vp_in_nI (n := 1) (by decide) (by decide)) dX12_windOfTwo_75 ?_
            refine g_if_ne C (pc := 76) 84 dX12_windOfTwo_76 (by decide) (fun c76 => ?_) (fun c76 => ?_)
            · have hjl : j < (mvs F b w).length := by
                have h9 : ¬ I65 109 1 = 0 := c76
                rw [hfm2.1] at h9
                have h8 : (mvs F b w).length ≠ 0 := fun h => h9 (by rw [h]; rfl)
                unfold cntM at c60
                rw [if_neg h8] at c60; exact c60
              have hmx9 : I65 108 (64 + nI j).toNatClampNeg = oI ((mvs F b w)[j]?) := by
                have hk9 := List.getElem?_eq_getElem hjl
                have h9 := hfm2.2 j _ hk9
                rw [hk9, show (64 : Int32) = nI 64 from rfl, nI_add, nI_clamp (by omega)]; exact h9
              refine g_aload_n C (pc := 84) dX12_windOfTwo_84 5 rfl ?_
              refine g_getR C (pc := 85) fl_RX12_41 (by decide) (by first | assumption | rfl | omega) (by first | assumption | rfl | omega) (by first | assumption | rfl | omega) dX12_windOfTwo_85 ?_
              refine g_bipush C (pc := 88) 64 dX12_windOfTwo_88 (by decide) ?_
              refine g_iload C (pc := 90) dX12_windOfTwo_90 0 rfl ?_
              refine g_iadd C (pc := 92) dX12_windOfTwo_92 ?_
              refine g_iald C (pc := 93) (by first | assumption | rfl | omega) (by first | assumption | rfl | omega) (by rw [show (64 : Int32) = nI 64 from rfl, nI_add]; exact vp_in_nI (by omega) (by decide)) dX12_windOfTwo_93 ?_
              refine g_callVI C (pc := 94) mf_X12_goes lk_RX12_251 (c_X12_goesE n ρ I65 F b w ((mvs F b w)[j]?) _ z hn9 hms (hqf.kp hlw2.1) hrw f65 hbw hw (mvs_K hrw) (hmx9) hz) (by decide) (Nat.le_refl _) rfl (by first | assumption | rfl | omega) rfl (by first | assumption | rfl | omega) (Nat.le_of_ble_eq_true rfl) dX12_windOfTwo_94 (fun v94 I94 h94 => ?_)
              obtain ⟨e94, f94, a94, g94⟩ := h94
              have hl3 : Lw 0 I65 I94 := Lw.qb a94 g94
              replace hlw2 := hlw2
              have hbw2 : BW F (playB F b w ((mvs F b w)[j]?)) := (mvs_K hrw).bw hrw hbw
              have hl12 : L1 F (playB F b w ((mvs F b w)[j]?)) := L1_play hl1
              have hpw2 : PW F (playB F b w ((mvs F b w)[j]?)) := PW_play (mvs_K hrw) hrw hpw
              refine g_pop C (pc := 97) dX12_windOfTwo_97 rfl ?_
              refine g_aload_n C (pc := 98) dX12_windOfTwo_98 5 rfl ?_
              refine g_iload_n C (pc := 99) dX12_windOfTwo_99 6 rfl ?_
              refine g_callVL C (pc := 100) mf_X12_one lk_RX12_275 (c_X12_one n ρ I94 F (playB F b w ((mvs F b w)[j]?)) sd x hn9 hms (hqf.kp (hlw2.trans (hl3.up (by decide))).1) hrw (hqe.kp (hlw2.trans (hl3.up (by decide))).1) f94 hbw2 hl12 hpw2 hsd hx) (by decide) (Nat.le_refl _) rfl (by first | assumption | rfl | omega) rfl (by first | assumption | rfl | omega) (Nat.le_of_ble_eq_true rfl) dX12_windOfTwo_100 (fun v100 I100 h100 => ?_)
              obtain ⟨e100, k100⟩ := h100
              have hlI : Lw 1 I65 I100 := (hl3.up (by decide)).trans k100
              have hvf : v100 = lN ((valF F sd 1 b w) j) := e100
              refine g_lstore C (pc := 103) dX12_windOfTwo_103 (by decide) (fun v103 => [(9, .long v103), (8, .int (nI j)), (4, .long wz4), (6, .int wz6), (3, .int v24), (7, .int v51), (0, .ref 97), (1, .int x), (2, .int z)]) (fun _ => rfl) (fun v103 ev103 => ?_)
              refine g_iload C (pc := 105) dX12_windOfTwo_105 1 rfl ?_
              refine g_if_ne C (pc := 107) 114 dX12_windOfTwo_107 (by decide) (fun c107 => ?_) (fun c107 => ?_)
              · refine g_iconst C (pc := 114) 0 dX12_windOfTwo_114 (by decide) ?_
                refine g_iload_n C (pc := 115) dX12_windOfTwo_115 4 rfl ?_
                refine g_lload C (pc := 116) dX12_windOfTwo_116 0 rfl ?_
                refine g_lload C (pc := 118) dX12_windOfTwo_118 2 rfl ?_
                refine g_callSI C (pc := 120) mf_X12_isBetter lk_RX12_264 (c_X12_isBetter n ρ _ _ _ _ _ hn9) (by decide) (Nat.le_refl _) rfl (Nat.le_of_ble_eq_true rfl) dX12_windOfTwo_120 (fun v120 I120 h120 => ?_)
                obtain ⟨e120, rfl⟩ := h120
                refine g_istore C (pc := 123) dX12_windOfTwo_123 (by decide) (fun v123 => [(11, .int v123), (9, .long v103), (8, .int (nI j)), (4, .long wz4), (6, .int wz6), (3, .int v24), (7, .int v51), (0, .ref 97), (1, .int x), (2, .int z)]) (fun _ => rfl) (fun v123 ev123 => ?_)
                have hup := bst_upd (wants := (bM b == sd)) (f := (valF F sd 1 b w)) (j := j) (z4 := wz4) (z6 := wz6) (fl := bI (j = 0)) (own := v24) (u := v123) (fun i _ => (by show val F sd 1 (playB F b w ((mvs F b w)[i]?)) < 2 ^ 31; have h9 := val_le (F := F) (sd := sd) 1 (playB F b w ((mvs F b w)[i]?)); have h8 := pw3 (a := allO F) (k := 1) hAO (by decide); omega)) h4 h6 rfl h24 (by
                  rw [ev123, e120, ev103, hvf]
                  first
                  | (rw [bI_t (c := j = 0) ((nI_eq (b := 0) (by omega) (by decide)).mp c107)]; done)
                  | (rw [bI_f (c := j = 0) (fun h => c107 (by rw [h]; rfl))]; done))
                refine g_iload C (pc := 125) dX12_windOfTwo_125 0 rfl ?_
                refine g_if_eq C (pc := 127) 135 dX12_windOfTwo_127 (by decide) (fun c127 => ?_) (fun c127 => ?_)
                · refine g_iload C (pc := 135) dX12_windOfTwo_135 4 rfl ?_
                  refine g_istore C (pc := 137) dX12_windOfTwo_137 (by decide) (fun v137 => [(6, .int v137), (11, .int v123), (9, .long v103), (8, .int (nI j)), (4, .long wz4), (3, .int v24), (7, .int v51), (0, .ref 97), (1, .int x), (2, .int z)]) (fun _ => rfl) (fun v137 ev137 => ?_)
                  refine g_iload C (pc := 139) dX12_windOfTwo_139 1 rfl ?_
                  refine g_if_eq C (pc := 141) 149 dX12_windOfTwo_141 (by decide) (fun c141 => ?_) (fun c141 => ?_)
                  · refine g_lload C (pc := 149) dX12_windOfTwo_149 4 rfl ?_
                    refine g_lstore C (pc := 151) dX12_windOfTwo_151 (by decide) (fun v151 => [(4, .long v151), (6, .int v137), (11, .int v123), (9, .long v103), (8, .int (nI j)), (3, .int v24), (7, .int v51), (0, .ref 97), (1, .int x), (2, .int z)]) (fun _ => rfl) (fun v151 ev151 => ?_)
                    refine g_iinc C (pc := 153) (1) dX12_windOfTwo_153 4 rfl (by decide) (by decide) (fun v153 => [(8, .int v153), (4, .long v151), (6, .int v137), (11, .int v123), (9, .long v103), (3, .int v24), (7, .int v51), (0, .ref 97), (1, .int x), (2, .int z)]) (fun _ => rfl) (fun v153 ev153 => ?_)
                    refine g_goto C (pc := 156) 56 dX12_windOfTwo_156 (by decide) ?_
                    refine g_lv C [0, 1, 2, 5, 6, 7, 8, 9] rfl (ih56 (j + 1) _ _ _ _ ?_ ?_ ?_ ?_ ?_ ?_ ?_ (by omega))
                    · subst ev153; exact nI_1 _
                    · omega
                    · rw [ev151]; first | exact (ev103.trans hvf).trans (hup.1 c127).1 | exact (hup.2 c127).1
                    · rw [ev137]; first | exact (hup.1 c127).2 | exact (hup.2 c127).2
                    · exact hsv2.lw hlI hn6
                    · exact hfm2.lw hlI hn6
                    · exact hlw2.trans (hlI.up (by decide))
                  · exact absurd c127 c141
                · refine g_iload C (pc := 130) dX12_windOfTwo_130 2 rfl ?_
                  refine g_goto C (pc := 132) 137 dX12_windOfTwo_132 (by decide) ?_
                  refine g_istore C (pc := 137) dX12_windOfTwo_137 (by decide) (fun v137 => [(6, .int v137), (11, .int v123), (9, .long v103), (8, .int (nI j)), (4, .long wz4), (3, .int v24), (7, .int v51), (0, .ref 97), (1, .int x), (2, .int z)]) (fun _ => rfl) (fun v137 ev137 => ?_)
                  refine g_iload C (pc := 139) dX12_windOfTwo_139 1 rfl ?_
                  refine g_if_eq C (pc := 141) 149 dX12_windOfTwo_141 (by decide) (fun c141 => ?_) (fun c141 => ?_)
                  · exact absurd c141 c127
                  · refine g_lload C (pc := 144) dX12_windOfTwo_144 2 rfl ?_
                    refine g_goto C (pc := 146) 151 dX12_windOfTwo_146 (by decide) ?_
                    refine g_lstore C (pc := 151) dX12_windOfTwo_151 (by decide) (fun v151 => [(4, .long v151), (6, .int v137), (11, .int v123), (9, .long v103), (8, .int (nI j)), (3, .int v24), (7, .int v51), (0, .ref 97), (1, .int x), (2, .int z)]) (fun _ => rfl) (fun v151 ev151 => ?_)
                    refine g_iinc C (pc := 153) (1) dX12_windOfTwo_153 4 rfl (by decide) (by decide) (fun v153 => [(8, .int v153), (4, .long v151), (6, .int v137), (11, .int v123), (9, .long v103), (3, .int v24), (7, .int v51), (0, .ref 97), (1, .int x), (2, .int z)]) (fun _ => rfl) (fun v153 ev153 => ?_)
                    refine g_goto C (pc := 156) 56 dX12_windOfTwo_156 (by decide) ?_
                    refine g_lv C [0, 1, 2, 5, 6, 7, 8, 9] rfl (ih56 (j + 1) _ _ _ _ ?_ ?_ ?_ ?_ ?_ ?_ ?_ (by omega))
                    · subst ev153; exact nI_1 _
                    · omega
                    · rw [ev151]; first | exact (ev103.trans hvf).trans (hup.1 c127).1 | exact (hup.2 c127).1
                    · rw [ev137]; first | exact (hup.1 c127).2 | exact (hup.2 c127).2
                    · exact hsv2.lw hlI hn6
                    · exact hfm2.lw hlI hn6
                    · exact hlw2.trans (hlI.up (by decide))
              · refine g_iconst C (pc := 110) 1 dX12_windOfTwo_110 (by decide) ?_
                refine g_goto C (pc := 111) 115 dX12_windOfTwo_111 (by decide) ?_
                refine g_iload_n C (pc := 115) dX12_windOfTwo_115 4 rfl ?_
                refine g_lload C (pc := 116) dX12_windOfTwo_116 0 rfl ?_
                refine g_lload C (pc := 118) dX12_windOfTwo_118 2 rfl ?_
                refine g_callSI C (pc := 120) mf_X12_isBetter lk_RX12_264 (c_X12_isBetter n ρ _ _ _ _ _ hn9) (by decide) (Nat.le_refl _) rfl (Nat.le_of_ble_eq_true rfl) dX12_windOfTwo_120 (fun v120 I120 h120 => ?_)
                obtain ⟨e120, rfl⟩ := h120
                refine g_istore C (pc := 123) dX12_windOfTwo_123 (by decide) (fun v123 => [(11, .int v123), (9, .long v103), (8, .int (nI j)), (4, .long wz4), (6, .int wz6), (3, .int v24), (7, .int v51), (0, .ref 97), (1, .int x), (2, .int z)]) (fun _ => rfl) (fun v123 ev123 => ?_)
                have hup := bst_upd (wants := (bM b == sd)) (f := (valF F sd 1 b w)) (j := j) (z4 := wz4) (z6 := wz6) (fl := bI (j = 0)) (own := v24) (u := v123) (fun i _ => (by show val F sd 1 (playB F b w ((mvs F b w)[i]?)) < 2 ^ 31; have h9 := val_le (F := F) (sd := sd) 1 (playB F b w ((mvs F b w)[i]?)); have h8 := pw3 (a := allO F) (k := 1) hAO (by decide); omega)) h4 h6 rfl h24 (by
                  rw [ev123, e120, ev103, hvf]
                  first
                  | (rw [bI_t (c := j = 0) ((nI_eq (b := 0) (by omega) (by decide)).mp c107)]; done)
                  | (rw [bI_f (c := j = 0) (fun h => c107 (by rw [h]; rfl))]; done))
                refine g_iload C (pc := 125) dX12_windOfTwo_125 0 rfl ?_
                refine g_if_eq C (pc := 127) 135 dX12_windOfTwo_127 (by decide) (fun c127 => ?_) (fun c127 => ?_)
                · refine g_iload C (pc := 135) dX12_windOfTwo_135 4 rfl ?_
                  refine g_istore C (pc := 137) dX12_windOfTwo_137 (by decide) (fun v137 => [(6, .int v137), (11, .int v123), (9, .long v103), (8, .int (nI j)), (4, .long wz4), (3, .int v24), (7, .int v51), (0, .ref 97), (1, .int x), (2, .int z)]) (fun _ => rfl) (fun v137 ev137 => ?_)
                  refine g_iload C (pc := 139) dX12_windOfTwo_139 1 rfl ?_
                  refine g_if_eq C (pc := 141) 149 dX12_windOfTwo_141 (by decide) (fun c141 => ?_) (fun c141 => ?_)
                  · refine g_lload C (pc := 149) dX12_windOfTwo_149 4 rfl ?_
                    refine g_lstore C (pc := 151) dX12_windOfTwo_151 (by decide) (fun v151 => [(4, .long v151), (6, .int v137), (11, .int v123), (9, .long v103), (8, .int (nI j)), (3, .int v24), (7, .int v51), (0, .ref 97), (1, .int x), (2, .int z)]) (fun _ => rfl) (fun v151 ev151 => ?_)
                    refine g_iinc C (pc := 153) (1) dX12_windOfTwo_153 4 rfl (by decide) (by decide) (fun v153 => [(8, .int v153), (4, .long v151), (6, .int v137), (11, .int v123), (9, .long v103), (3, .int v24), (7, .int v51), (0, .ref 97), (1, .int x), (2, .int z)]) (fun _ => rfl) (fun v153 ev153 => ?_)
                    refine g_goto C (pc := 156) 56 dX12_windOfTwo_156 (by decide) ?_
                    refine g_lv C [0, 1, 2, 5, 6, 7, 8, 9] rfl (ih56 (j + 1) _ _ _ _ ?_ ?_ ?_ ?_ ?_ ?_ ?_ (by omega))
                    · subst ev153; exact nI_1 _
                    · omega
                    · rw [ev151]; first | exact (ev103.trans hvf).trans (hup.1 c127).1 | exact (hup.2 c127).1
                    · rw [ev137]; first | exact (hup.1 c127).2 | exact (hup.2 c127).2
                    · exact hsv2.lw hlI hn6
                    · exact hfm2.lw hlI hn6
                    · exact hlw2.trans (hlI.up (by decide))
                  · exact absurd c127 c141
                · refine g_iload C (pc := 130) dX12_windOfTwo_130 2 rfl ?_
                  refine g_goto C (pc := 132) 137 dX12_windOfTwo_132 (by decide) ?_
                  refine g_istore C (pc := 137) dX12_windOfTwo_137 (by decide) (fun v137 => [(6, .int v137), (11, .int v123), (9, .long v103), (8, .int (nI j)), (4, .long wz4), (3, .int v24), (7, .int v51), (0, .ref 97), (1, .int x), (2, .int z)]) (fun _ => rfl) (fun v137 ev137 => ?_)
                  refine g_iload C (pc := 139) dX12_windOfTwo_139 1 rfl ?_
                  refine g_if_eq C (pc := 141) 149 dX12_windOfTwo_141 (by decide) (fun c141 => ?_) (fun c141 => ?_)
                  · exact absurd c141 c127
                  · refine g_lload C (pc := 144) dX12_windOfTwo_144 2 rfl ?_
                    refine g_goto C (pc := 146) 151 dX12_windOfTwo_146 (by decide) ?_
                    refine g_lstore C (pc := 151) dX12_windOfTwo_151 (by decide) (fun v151 => [(4, .long v151), (6, .int v137), (11, .int v123), (9, .long v103), (8, .int (nI j)), (3, .int v24), (7, .int v51), (0, .ref 97), (1, .int x), (2, .int z)]) (fun _ => rfl) (fun v151 ev151 => ?_)
                    refine g_iinc C (pc := 153) (1) dX12_windOfTwo_153 4 rfl (by decide) (by decide) (fun v153 => [(8, .int v153), (4, .long v151), (6, .int v137), (11, .int v123), (9, .long v103), (3, .int v24), (7, .int v51), (0, .ref 97), (1, .int x), (2, .int z)]) (fun _ => rfl) (fun v153 ev153 => ?_)
                    refine g_goto C (pc := 156) 56 dX12_windOfTwo_156 (by decide) ?_
                    refine g_lv C [0, 1, 2, 5, 6, 7, 8, 9] rfl (ih56 (j + 1) _ _ _ _ ?_ ?_ ?_ ?_ ?_ ?_ ?_ (by omega))
                    · subst ev153; exact nI_1 _
                    · omega
                    · rw [ev151]; first | exact (ev103.trans hvf).trans (hup.1 c127).1 | exact (hup.2 c127).1
                    · rw [ev137]; first | exact (hup.1 c127).2 | exact (hup.2 c127).2
                    · exact hsv2.lw hlI hn6
                    · exact hfm2.lw hlI hn6
                    · exact hlw2.trans (hlI.up (by decide))
            · have hjl : (mvs F b w).length = 0 := by
                have h9 : I65 109 1 = 0 := c76
                rw [hfm2.1] at h9
                exact (nI_eq (b := 0) (by omega) (by decide)).mp h9
              have hmx9 : (-4 : Int32) = oI ((mvs F b w)[j]?) := by rw [List.getElem?_eq_none (by omega)]; rfl
              refine g_bipush C (pc := 79) (-4) dX12_windOfTwo_79 (by decide) ?_
              refine g_goto C (pc := 81) 94 dX12_windOfTwo_81 (by decide) ?_
              refine g_callVI C (pc := 94) mf_X12_goes lk_RX12_251 (c_X12_goesE n ρ I65 F b w ((mvs F b w)[j]?) _ z hn9 hms (hqf.kp hlw2.1) hrw f65 hbw hw (mvs_K hrw) (hmx9) hz) (by decide) (Nat.le_refl _) rfl (by first | assumption | rfl | omega) rfl (by first | assumption | rfl | omega) (Nat.le_of_ble_eq_true rfl) dX12_windOfTwo_94 (fun v94 I94 h94 => ?_)
              obtain ⟨e94, f94, a94, g94⟩ := h94
              have hl3 : Lw 0 I65 I94 := Lw.qb a94 g94
              replace hlw2 := hlw2
              have hbw2 : BW F (playB F b w ((mvs F b w)[j]?)) := (mvs_K hrw).bw hrw hbw
              have hl12 : L1 F (playB F b w ((mvs F b w)[j]?)) := L1_play hl1
              have hpw2 : PW F (playB F b w ((mvs F b w)[j]?)) := PW_play (mvs_K hrw) hrw hpw
              refine g_pop C (pc := 97) dX12_windOfTwo_97 rfl ?_
              refine g_aload_n C (pc := 98) dX12_windOfTwo_98 5 rfl ?_
              refine g_iload_n C (pc := 99) dX12_windOfTwo_99 6 rfl ?_
              refine g_callVL C (pc := 100) mf_X12_one lk_RX12_275 (c_X12_one n ρ I94 F (playB F b w ((mvs F b w)[j]?)) sd x hn9 hms (hqf.kp (hlw2.trans (hl3.up (by decide))).1) hrw (hqe.kp (hlw2.trans (hl3.up (by decide))).1) f94 hbw2 hl12 hpw2 hsd hx) (by decide) (Nat.le_refl _) rfl (by first | assumption | rfl | omega) rfl (by first | assumption | rfl | omega) (Nat.le_of_ble_eq_true rfl) dX12_windOfTwo_100 (fun v100 I100 h100 => ?_)
              obtain ⟨e100, k100⟩ := h100
              have hlI : Lw 1 I65 I100 := (hl3.up (by decide)).trans k100
              have hvf : v100 = lN ((valF F sd 1 b w) j) := e100
              refine g_lstore C (pc := 103) dX12_windOfTwo_103 (by decide) (fun v103 => [(9, .long v103), (8, .int (nI j)), (4, .long wz4), (6, .int wz6), (3, .int v24), (7, .int v51), (0, .ref 97), (1, .int x), (2, .int z)]) (fun _ => rfl) (fun v103 ev103 => ?_)
              refine g_iload C (pc := 105) dX12_windOfTwo_105 1 rfl ?_
              refine g_if_ne C (pc := 107) 114 dX12_windOfTwo_107 (by decide) (fun c107 => ?_) (fun c107 => ?_)
              · refine g_iconst C (pc := 114) 0 dX12_windOfTwo_114 (by decide) ?_
                refine g_iload_n C (pc := 115) dX12_windOfTwo_115 4 rfl ?_
                refine g_lload C (pc := 116) dX12_windOfTwo_116 0 rfl ?_
                refine g_lload C (pc := 118) dX12_windOfTwo_118 2 rfl ?_
                refine g_callSI C (pc := 120) mf_X12_isBetter lk_RX12_264 (c_X12_isBetter n ρ _ _ _ _ _ hn9) (by decide) (Nat.le_refl _) rfl (Nat.le_of_ble_eq_true rfl) dX12_windOfTwo_120 (fun v120 I120 h120 => ?_)
                obtain ⟨e120, rfl⟩ := h120
                refine g_istore C (pc := 123) dX12_windOfTwo_123 (by decide) (fun v123 => [(11, .int v123), (9, .long v103), (8, .int (nI j)), (4, .long wz4), (6, .int wz6), (3, .int v24), (7, .int v51), (0, .ref 97), (1, .int x), (2, .int z)]) (fun _ => rfl) (fun v123 ev123 => ?_)
                have hup := bst_upd (wants := (bM b == sd)) (f := (valF F sd 1 b w)) (j := j) (z4 := wz4) (z6 := wz6) (fl := bI (j = 0)) (own := v24) (u := v123) (fun i _ => (by show val F sd 1 (playB F b w ((mvs F b w)[i]?)) < 2 ^ 31; have h9 := val_le (F := F) (sd := sd) 1 (playB F b w ((mvs F b w)[i]?)); have h8 := pw3 (a := allO F) (k := 1) hAO (by decide); omega)) h4 h6 rfl h24 (by
                  rw [ev123, e120, ev103, hvf]
                  first
                  | (rw [bI_t (c := j = 0) ((nI_eq (b := 0) (by omega) (by decide)).mp c107)]; done)
                  | (rw [bI_f (c := j = 0) (fun h => c107 (by rw [h]; rfl))]; done))
                refine g_iload C (pc := 125) dX12_windOfTwo_125 0 rfl ?_
                refine g_if_eq C (pc := 127) 135 dX12_windOfTwo_127 (by decide) (fun c127 => ?_) (fun c127 => ?_)
                · refine g_iload C (pc := 135) dX12_windOfTwo_135 4 rfl ?_
                  refine g_istore C (pc := 137) dX12_windOfTwo_137 (by decide) (fun v137 => [(6, .int v137), (11, .int v123), (9, .long v103), (8, .int (nI j)), (4, .long wz4), (3, .int v24), (7, .int v51), (0, .ref 97), (1, .int x), (2, .int z)]) (fun _ => rfl) (fun v137 ev137 => ?_)
                  refine g_iload C (pc := 139) dX12_windOfTwo_139 1 rfl ?_
                  refine g_if_eq C (pc := 141) 149 dX12_windOfTwo_141 (by decide) (fun c141 => ?_) (fun c141 => ?_)
                  · refine g_lload C (pc := 149) dX12_windOfTwo_149 4 rfl ?_
                    refine g_lstore C (pc := 151) dX12_windOfTwo_151 (by decide) (fun v151 => [(4, .long v151), (6, .int v137), (11, .int v123), (9, .long v103), (8, .int (nI j)), (3, .int v24), (7, .int v51), (0, .ref 97), (1, .int x), (2, .int z)]) (fun _ => rfl) (fun v151 ev151 => ?_)
                    refine g_iinc C (pc := 153) (1) dX12_windOfTwo_153 4 rfl (by decide) (by decide) (fun v153 => [(8, .int v153), (4, .long v151), (6, .int v137), (11, .int v123), (9, .long v103), (3, .int v24), (7, .int v51), (0, .ref 97), (1, .int x), (2, .int z)]) (fun _ => rfl) (fun v153 ev153 => ?_)
                    refine g_goto C (pc := 156) 56 dX12_windOfTwo_156 (by decide) ?_
                    refine g_lv C [0, 1, 2, 5, 6, 7, 8, 9] rfl (ih56 (j + 1) _ _ _ _ ?_ ?_ ?_ ?_ ?_ ?_ ?_ (by omega))
                    · subst ev153; exact nI_1 _
                    · omega
                    · rw [ev151]; first | exact (ev103.trans hvf).trans (hup.1 c127).1 | exact (hup.2 c127).1
                    · rw [ev137]; first | exact (hup.1 c127).2 | exact (hup.2 c127).2
                    · exact hsv2.lw hlI hn6
                    · exact hfm2.lw hlI hn6
                    · exact hlw2.trans (hlI.up (by decide))
                  · exact absurd c127 c141
                · refine g_iload C (pc := 130) dX12_windOfTwo_130 2 rfl ?_
                  refine g_goto C (pc := 132) 137 dX12_windOfTwo_132 (by decide) ?_
                  refine g_istore C (pc := 137) dX12_windOfTwo_137 (by decide) (fun v137 => [(6, .int v137), (11, .int v123), (9, .long v103), (8, .int (nI j)), (4, .long wz4), (3, .int v24), (7, .int v51), (0, .ref 97), (1, .int x), (2, .int z)]) (fun _ => rfl) (fun v137 ev137 => ?_)
                  refine g_iload C (pc := 139) dX12_windOfTwo_139 1 rfl ?_
                  refine g_if_eq C (pc := 141) 149 dX12_windOfTwo_141 (by decide) (fun c141 => ?_) (fun c141 => ?_)
                  · exact absurd c141 c127
                  · refine g_lload C (pc := 144) dX12_windOfTwo_144 2 rfl ?_
                    refine g_goto C (pc := 146) 151 dX12_windOfTwo_146 (by decide) ?_
                    refine g_lstore C (pc := 151) dX12_windOfTwo_151 (by decide) (fun v151 => [(4, .long v151), (6, .int v137), (11, .int v123), (9, .long v103), (8, .int (nI j)), (3, .int v24), (7, .int v51), (0, .ref 97), (1, .int x), (2, .int z)]) (fun _ => rfl) (fun v151 ev151 => ?_)
                    refine g_iinc C (pc := 153) (1) dX12_windOfTwo_153 4 rfl (by decide) (by decide) (fun v153 => [(8, .int v153), (4, .long v151), (6, .int v137), (11, .int v123), (9, .long v103), (3, .int v24), (7, .int v51), (0, .ref 97), (1, .int x), (2, .int z)]) (fun _ => rfl) (fun v153 ev153 => ?_)
                    refine g_goto C (pc := 156) 56 dX12_windOfTwo_156 (by decide) ?_
                    refine g_lv C [0, 1, 2, 5, 6, 7, 8, 9] rfl (ih56 (j + 1) _ _ _ _ ?_ ?_ ?_ ?_ ?_ ?_ ?_ (by omega))
                    · subst ev153; exact nI_1 _
                    · omega
                    · rw [ev151]; first | exact (ev103.trans hvf).trans (hup.1 c127).1 | exact (hup.2 c127).1
                    · rw [ev137]; first | exact (hup.1 c127).2 | exact (hup.2 c127).2
                    · exact hsv2.lw hlI hn6
                    · exact hfm2.lw hlI hn6
                    · exact hlw2.trans (hlI.up (by decide))
              · refine g_iconst C (pc := 110) 1 dX12_windOfTwo_110 (by decide) ?_
                refine g_goto C (pc := 111) 115 dX12_windOfTwo_111 (by decide) ?_
                refine g_iload_n C (pc := 115) dX12_windOfTwo_115 4 rfl ?_
                refine g_lload C (pc := 116) dX12_windOfTwo_116 0 rfl ?_
                refine g_lload C (pc := 118) dX12_windOfTwo_118 2 rfl ?_
                refine g_callSI C (pc := 120) mf_X12_isBetter lk_RX12_264 (c_X12_isBetter n ρ _ _ _ _ _ hn9) (by decide) (Nat.le_refl _) rfl (Nat.le_of_ble_eq_true rfl) dX12_windOfTwo_120 (fun v120 I120 h120 => ?_)
                obtain ⟨e120, rfl⟩ := h120
                refine g_istore C (pc := 123) dX12_windOfTwo_123 (by decide) (fun v123 => [(11, .int v123), (9, .long v103), (8, .int (nI j)), (4, .long wz4), (6, .int wz6), (3, .int v24), (7, .int v51), (0, .ref 97), (1, .int x), (2, .int z)]) (fun _ => rfl) (fun v123 ev123 => ?_)
                have hup := bst_upd (wants := (bM b == sd)) (f := (valF F sd 1 b w)) (j := j) (z4 := wz4) (z6 := wz6) (fl := bI (j = 0)) (own := v24) (u := v123) (fun i _ => (by show val F sd 1 (playB F b w ((mvs F b w)[i]?)) < 2 ^ 31; have h9 := val_le (F := F) (sd := sd) 1 (playB F b w ((mvs F b w)[i]?)); have h8 := pw3 (a := allO F) (k := 1) hAO (by decide); omega)) h4 h6 rfl h24 (by
                  rw [ev123, e120, ev103, hvf]
                  first
                  | (rw [bI_t (c := j = 0) ((nI_eq (b := 0) (by omega) (by decide)).mp c107)]; done)
                  | (rw [bI_f (c := j = 0) (fun h => c107 (by rw [h]; rfl))]; done))
                refine g_iload C (pc := 125) dX12_windOfTwo_125 0 rfl ?_
                refine g_if_eq C (pc := 127) 135 dX12_windOfTwo_127 (by decide) (fun c127 => ?_) (fun c127 => ?_)
                · refine g_iload C (pc := 135) dX12_windOfTwo_135 4 rfl ?_
                  refine g_istore C (pc := 137) dX12_windOfTwo_137 (by decide) (fun v137 => [(6, .int v137), (11, .int v123), (9, .long v103), (8, .int (nI j)), (4, .long wz4), (3, .int v24), (7, .int v51), (0, .ref 97), (1, .int x), (2, .int z)]) (fun _ => rfl) (fun v137 ev137 => ?_)
                  refine g_iload C (pc := 139) dX12_windOfTwo_139 1 rfl ?_
                  refine g_if_eq C (pc := 141) 149 dX12_windOfTwo_141 (by decide) (fun c141 => ?_) (fun c141 => ?_)
                  · refine g_lload C (pc := 149) dX12_windOfTwo_149 4 rfl ?_
                    refine g_lstore C (pc := 151) dX12_windOfTwo_151 (by decide) (fun v151 => [(4, .long v151), (6, .int v137), (11, .int v123), (9, .long v103), (8, .int (nI j)), (3, .int v24), (7, .int v51), (0, .ref 97), (1, .int x), (2, .int z)]) (fun _ => rfl) (fun v151 ev151 => ?_)
                    refine g_iinc C (pc := 153) (1) dX12_windOfTwo_153 4 rfl (by decide) (by decide) (fun v153 => [(8, .int v153), (4, .long v151), (6, .int v137), (11, .int v123), (9, .long v103), (3, .int v24), (7, .int v51), (0, .ref 97), (1, .int x), (2, .int z)]) (fun _ => rfl) (fun v153 ev153 => ?_)
                    refine g_goto C (pc := 156) 56 dX12_windOfTwo_156 (by decide) ?_
                    refine g_lv C [0, 1, 2, 5, 6, 7, 8, 9] rfl (ih56 (j + 1) _ _ _ _ ?_ ?_ ?_ ?_ ?_ ?_ ?_ (by omega))
                    · subst ev153; exact nI_1 _
                    · omega
                    · rw [ev151]; first | exact (ev103.trans hvf).trans (hup.1 c127).1 | exact (hup.2 c127).1
                    · rw [ev137]; first | exact (hup.1 c127).2 | exact (hup.2 c127).2
                    · exact hsv2.lw hlI hn6
                    · exact hfm2.lw hlI hn6
                    · exact hlw2.trans (hlI.up (by decide))
                  · exact absurd c127 c141
                · refine g_iload C (pc := 130) dX12_windOfTwo_130 2 rfl ?_
                  refine g_goto C (pc := 132) 137 dX12_windOfTwo_132 (by decide) ?_
                  refine g_istore C (pc := 137) dX12_windOfTwo_137 (by decide) (fun v137 => [(6, .int v137), (11, .int v123), (9, .long v103), (8, .int (nI j)), (4, .long wz4), (3, .int v24), (7, .int v51), (0, .ref 97), (1, .int x), (2, .int z)]) (fun _ => rfl) (fun v137 ev137 => ?_)
                  refine g_iload C (pc := 139) dX12_windOfTwo_139 1 rfl ?_
                  refine g_if_eq C (pc := 141) 149 dX12_windOfTwo_141 (by decide) (fun c141 => ?_) (fun c141 => ?_)
                  · exact absurd c141 c127
                  · refine g_lload C (pc := 144) dX12_windOfTwo_144 2 rfl ?_
                    refine g_goto C (pc := 146) 151 dX12_windOfTwo_146 (by decide) ?_
                    refine g_lstore C (pc := 151) dX12_windOfTwo_151 (by decide) (fun v151 => [(4, .long v151), (6, .int v137), (11, .int v123), (9, .long v103), (8, .int (nI j)), (3, .int v24), (7, .int v51), (0, .ref 97), (1, .int x), (2, .int z)]) (fun _ => rfl) (fun v151 ev151 => ?_)
                    refine g_iinc C (pc := 153) (1) dX12_windOfTwo_153 4 rfl (by decide) (by decide) (fun v153 => [(8, .int v153), (4, .long v151), (6, .int v137), (11, .int v123), (9, .long v103), (3, .int v24), (7, .int v51), (0, .ref 97), (1, .int x), (2, .int z)]) (fun _ => rfl) (fun v153 ev153 => ?_)
                    refine g_goto C (pc := 156) 56 dX12_windOfTwo_156 (by decide) ?_
                    refine g_lv C [0, 1, 2, 5, 6, 7, 8, 9] rfl (ih56 (j + 1) _ _ _ _ ?_ ?_ ?_ ?_ ?_ ?_ ?_ (by omega))
                    · subst ev153; exact nI_1 _
                    · omega
                    · rw [ev151]; first | exact (ev103.trans hvf).trans (hup.1 c127).1 | exact (hup.2 c127).1
                    · rw [ev137]; first | exact (hup.1 c127).2 | exact (hup.2 c127).2
                    · exact hsv2.lw hlI hn6
                    · exact hfm2.lw hlI hn6
                    · exact hlw2.trans (hlI.up (by decide))
      refine g_lv C [0, 3, 2, 4, 1, 5, 6, 7] rfl (L56 (_ + 1) 0 _ _ _ _ ?_ ?_ ?_ ?_ ?_ ?_ ?_ (by first | omega | exact Nat.lt_succ_self _))
      · subst ev54; rfl
      · omega
      · subst ev26; rfl
      · subst ev30; rfl
      · exact f8
      · exact f3.cong (by rw [g8 109 (by decide)]) (fun z _ _ => by rw [g8 108 (by decide)]) hn6
      · exact (Lw.fm a3 b3 g3).trans (Lw.sv a8 g8)
set_option maxHeartbeats 800000 in
theorem c_X12_two (n : Nat) (ρ : Rho) (I : Mem) (F : RT) (b : BT) (sd : Nat) (x : Int32) (hn9 : n ≤ 999) (hms : MS n ρ) (hqf : QF I F) (hrw : RW F) (hqe : QE I F) (hqb : QB I F b) (hbw : BW F b) (hl1 : L1 F b) (hpw : PW F b) (hsd : sd < 2) (hx : x = nI sd) : ML yX12_two cX12_two 7 (some .long) 7 [.ref 97, .int x] n ρ I (fun v I1 => v = lN (val F sd 2 b) ∧ Lw 2 I I1) := by
  refine MG.of (by decide +kernel) (Nat.le_of_ble_eq_true rfl) hn9 ?_
  intro κ C hR
  show G κ n ρ 0 [(0, .ref 97), (1, .int x)] [] I
  obtain ⟨mn, ⟨m0, m1, m5, m6, m7, m11, m12, m15⟩, ⟨m23, m24, m26, m27, m28, m30, m31, m32, m33⟩, ⟨m38, m39, m40, m42⟩⟩ := id hms
  obtain ⟨qw, qh, qn, qk⟩ := id hqf
  have hn6 : rN F ≤ 6 := hrw.2.2.2.2.1
  have hm25 := Nat.mul_le_mul hrw.2.1 hrw.2.2.2.1
  have hm4 := Nat.mul_le_mul hrw.1 hrw.2.2.1
  have hAO := allO_le hrw
  refine g_aload_n C (pc := 0) dX12_two_0 0 rfl ?_
  refine g_callVI C (pc := 1) mf_X12_allOdds lk_RX12_244 (c_X12_allOdds n ρ I F hn9 hms hqe) (by decide) (Nat.le_refl _) rfl (by first | assumption | rfl | omega) rfl (by first | assumption | rfl | omega) (Nat.le_of_ble_eq_true rfl) dX12_two_1 (fun v1 I1 h1 => ?_)
  obtain ⟨e1, rfl⟩ := h1
  refine g_i2l C (pc := 4) dX12_two_4 ?_
  refine g_lstore_n C (pc := 5) dX12_two_5 (by decide) (fun v5 => [(2, .long v5), (0, .ref 97), (1, .int x)]) (fun _ => rfl) (fun v5 ev5 => ?_)
  refine g_aload_n C (pc := 6) dX12_two_6 1 rfl ?_
  refine g_callVI C (pc := 7) mf_X12_lost lk_RX12_221 (c_X12_lost n ρ I F b hn9 hms hqf hrw hqb hbw hl1) (by decide) (Nat.le_refl _) rfl (by first | assumption | rfl | omega) rfl (by first | assumption | rfl | omega) (Nat.le_of_ble_eq_true rfl) dX12_two_7 (fun v7 I7 h7 => ?_)
  obtain ⟨e7, rfl⟩ := h7
  refine g_bipush C (pc := 10) (-4) dX12_two_10 (by decide) ?_
  refine g_icmp_eq C (pc := 12) 25 dX12_two_12 (by decide) (fun c12 => ?_) (fun c12 => ?_)
  · have hnb : lostB F b = none := (oI_none (lostB_lt2 hrw)).mp (e7.symm.trans c12)
    refine g_lconst C (pc := 25) 0 dX12_two_25 (by decide) ?_
    refine g_lstore C (pc := 26) dX12_two_26 (by decide) (fun v26 => [(4, .long v26), (2, .long v5), (0, .ref 97), (1, .int x)]) (fun _ => rfl) (fun v26 ev26 => ?_)
    refine g_iconst C (pc := 28) 0 dX12_two_28 (by decide) ?_
    refine g_istore C (pc := 29) dX12_two_29 (by decide) (fun v29 => [(6, .int v29), (4, .long v26), (2, .long v5), (0, .ref 97), (1, .int x)]) (fun _ => rfl) (fun v29 ev29 => ?_)
    have L31 : ∀ (k9 : Nat) (j : Nat) (wz6 : Int32) (wz4 : Int64) (J : Mem) (hw6 : wz6 = nI j) (hj : j ≤ 5) (hS : wz4 = lN (smP (fun w => rOd F w * valW F sd 1 b w) j)) (hqJ : QB J F b) (hlw : Lw 2 I J), 5 - j < k9 → G κ n ρ 31 [(6, .int wz6), (4, .long wz4), (0, .ref 97), (1, .int x), (2, .long v5)] [] J := by
      intro k9
      induction k9 with
      | zero => intro j wz6 wz4 J hw6 hj hS hqJ hlw hm31; exact absurd hm31 (Nat.not_lt_zero _)
      | succ k9 ih31 =>
        intro j wz6 wz4 J hw6 hj hS hqJ hlw hm31
        subst hw6
        have hkJ := hlw.1
        refine g_iload C (pc := 31) dX12_two_31 0 rfl ?_
        refine g_iconst C (pc := 33) 5 dX12_two_33 (by decide) ?_
        refine g_icmp_ge C (pc := 34) 84 dX12_two_34 (by decide) (fun c34 => ?_) (fun c34 => ?_)
        · replace c34 := (nI_leI (a := 5) (b := j) (by decide) (by omega)).mp c34
          refine g_lload C (pc := 84) dX12_two_84 1 rfl ?_
          refine g_lret C hR (pc := 86) rfl dX12_two_86 ?_
          refine ⟨rfl, _, rfl, ?_⟩
          have hj5 : j = 5 := by omega
          subst hj5
          exact ⟨by rw [val_succ hnb]; exact hS, hlw⟩
        · replace c34 := (nI_ltI (a := j) (b := 5) (by omega) (by decide)).mp c34
          have hod : J 98 (13 + nI j).toNatClampNeg = nI (rOd F j) := by rw [show (13 : Int32) = nI 13 from rfl, nI_add, nI_clamp (by omega)]; exact (hqe.kp hkJ).2 j c34
          have ho9 := hrw.2.2.2.2.2.2.1 j c34
          refine g_lload C (pc := 37) dX12_two_37 1 rfl ?_
          refine g_aload_n C (pc := 39) dX12_two_39 2 rfl ?_
          refine g_getR C (pc := 40) fl_RX12_7 (by decide) (by first | assumption | rfl | omega) (by first | assumption | rfl | omega) (by first | assumption | rfl | omega) dX12_two_40 ?_
          refine g_bipush C (pc := 43) 13 dX12_two_43 (by decide) ?_
          refine g_iload C (pc := 45) dX12_two_45 0 rfl ?_
          refine g_iadd C (pc := 47) dX12_two_47 ?_
          refine g_iald C (pc := 48) (by first | assumption | rfl | omega) (by first | assumption | rfl | omega) (by rw [show (13 : Int32) = nI 13 from rfl, nI_add]; exact vp_in_nI (by omega) (by decide)) dX12_two_48 ?_
          refine g_if_ne C (pc := 49) 56 dX12_two_49 (by decide) (fun c49 => ?_) (fun c49 => ?_)
          · refine g_aload_n C (pc := 56) dX12_two_56 2 rfl ?_
            refine g_getR C (pc := 57) fl_RX12_7 (by decide) (by first | assumption | rfl | omega) (by first | assumption | rfl | omega) (by first | assumption | rfl | omega) dX12_two_57 ?_
            refine g_bipush C (pc := 60) 13 dX12_two_60 (by decide) ?_
            refine g_iload C (pc := 62) dX12_two_62 0 rfl ?_
            refine g_iadd C (pc := 64) dX12_two_64 ?_
            refine g_iald C (pc := 65) (by first | assumption | rfl | omega) (by first | assumption | rfl | omega) (by rw [show (13 : Int32) = nI 13 from rfl, nI_add]; exact vp_in_nI (by omega) (by decide)) dX12_two_65 ?_
            refine g_i2l C (pc := 66) dX12_two_66 ?_
            refine g_aload_n C (pc := 67) dX12_two_67 2 rfl ?_
            refine g_iload_n C (pc := 68) dX12_two_68 3 rfl ?_
            refine g_iload C (pc := 69) dX12_two_69 0 rfl ?_
            refine g_callVL C (pc := 71) mf_X12_windOfTwo lk_RX12_278 (c_X12_windOfTwo n ρ J F b sd j x _ hn9 hms (hqf.kp hkJ) hrw (hqe.kp hkJ) hqJ hbw hl1 hpw hsd hx (by omega) rfl) (by decide) (Nat.le_refl _) rfl (by first | assumption | rfl | omega) rfl (by first | assumption | rfl | omega) (Nat.le_of_ble_eq_true rfl) dX12_two_71 (fun v71 I71 h71 => ?_)
            obtain ⟨e71, m71, q71, k71⟩ := h71
            refine g_lmul C (pc := 74) dX12_two_74 ?_
            refine g_ladd C (pc := 75) dX12_two_75 ?_
            refine g_lstore C (pc := 76) dX12_two_76 (by decide) (fun v76 => [(4, .long v76), (6, .int (nI j)), (0, .ref 97), (1, .int x), (2, .long v5)]) (fun _ => rfl) (fun v76 ev76 => ?_)
            refine g_iinc C (pc := 78) (1) dX12_two_78 1 rfl (by decide) (by decide) (fun v78 => [(6, .int v78), (4, .long v76), (0, .ref 97), (1, .int x), (2, .long v5)]) (fun _ => rfl) (fun v78 ev78 => ?_)
            refine g_goto C (pc := 81) 31 dX12_two_81 (by decide) ?_
            refine g_lv C [0, 1, 2, 3, 4] rfl (ih31 (j + 1) _ _ _ ?_ ?_ ?_ ?_ ?_ (by omega))
            · subst ev78; exact nI_1 _
            · omega
            · rw [ev76]
              first
              | (rw [hS, e71, hod, nI_l (by omega), lN_mul, lN_add, smP]; done)
              | (rw [hS, smP, ho0, Nat.zero_mul, Nat.add_zero]; exact Int64.add_zero _)
            · first | exact q71 | exact hqJ
            · first | exact hlw.trans k71 | exact hlw
          · have ho0 : rOd F j = 0 := by
              rw [hod] at c49
              exact (nI_eq (b := 0) (by omega) (by decide)).mp c49
            refine g_lconst C (pc := 52) 0 dX12_two_52 (by decide) ?_
            refine g_goto C (pc := 53) 75 dX12_two_53 (by decide) ?_
            refine g_ladd C (pc := 75) dX12_two_75 ?_
            refine g_lstore C (pc := 76) dX12_two_76 (by decide) (fun v76 => [(4, .long v76), (6, .int (nI j)), (0, .ref 97), (1, .int x), (2, .long v5)]) (fun _ => rfl) (fun v76 ev76 => ?_)
            refine g_iinc C (pc := 78) (1) dX12_two_78 1 rfl (by decide) (by decide) (fun v78 => [(6, .int v78), (4, .long v76), (0, .ref 97), (1, .int x), (2, .long v5)]) (fun _ => rfl) (fun v78 ev78 => ?_)
            refine g_goto C (pc := 81) 31 dX12_two_81 (by decide) ?_
            refine g_lv C [0, 1, 2, 3, 4] rfl (ih31 (j + 1) _ _ _ ?_ ?_ ?_ ?_ ?_ (by omega))
            · subst ev78; exact nI_1 _
            · omega
            · rw [ev76]
              first
              | (rw [hS, e71, hod, nI_l (by omega), lN_mul, lN_add, smP]; done)
              | (rw [hS, smP, ho0, Nat.zero_mul, Nat.add_zero]; exact Int64.add_zero _)
            · first | exact q71 | exact hqJ
            · first | exact hlw.trans k71 | exact hlw
    refine g_lv C [0, 1, 3, 4, 2] rfl (L31 (_ + 1) 0 _ _ _ ?_ ?_ ?_ ?_ ?_ (by first | omega | exact Nat.lt_succ_self _))
    · subst ev29; rfl
    · omega
    · subst ev26; rfl
    · exact hqb
    · exact Lw.rfl'
  · have hov : lostB F b ≠ none := fun h9 => c12 (by rw [e7, h9]; rfl)
    refine g_aload_n C (pc := 15) dX12_two_15 1 rfl ?_
    refine g_iload_n C (pc := 16) dX12_two_16 2 rfl ?_
    refine g_callVL C (pc := 17) mf_X12_wonNow lk_RX12_260 (c_X12_wonNow n ρ I F b sd x hn9 hms hqf hrw hqb hbw hl1 hsd hx) (by decide) (Nat.le_refl _) rfl (by first | assumption | rfl | omega) rfl (by first | assumption | rfl | omega) (Nat.le_of_ble_eq_true rfl) dX12_two_17 (fun v17 I17 h17 => ?_)
    obtain ⟨e17, rfl⟩ := h17
    refine g_lload_n C (pc := 20) dX12_two_20 0 rfl ?_
    refine g_lmul C (pc := 21) dX12_two_21 ?_
    refine g_lload_n C (pc := 22) dX12_two_22 0 rfl ?_
    refine g_lmul C (pc := 23) dX12_two_23 ?_
    refine g_lret C hR (pc := 24) rfl dX12_two_24 ?_
    refine ⟨rfl, _, rfl, ?_⟩
    refine ⟨?_, Lw.rfl'⟩
    rw [val_ov hov, val_ov hov, ← lN_mul, ← lN_mul, e17, ev5, e1, nI_l (by omega)]
set_option maxHeartbeats 1600000 in
theorem c_X12_windOfThree (n : Nat) (ρ : Rho) (I : Mem) (F : RT) (b : BT) (sd w : Nat) (x z : Int32) (hn9 : n ≤ 999) (hms : MS n ρ) (hqf : QF I F) (hrw : RW F) (hqe : QE I F) (hqb : QB I F b) (hbw : BW F b) (hl1 : L1 F b) (hpw : PW F b) (hsd : sd < 2) (hx : x = nI sd) (hw : w < 5) (hz : z = nI w) : ML yX12_windOfThree cX12_windOfThree 12 (some .long) 8 [.ref 97, .int x, .int z] n ρ I (fun v I1 => v = lN (valW F sd 2 b w) ∧ I1 97 29 = oI (chW F sd 2 b w) ∧ QB I1 F b ∧ Lw 3 I I1) := by
  refine MG.of (by decide +kernel) (Nat.le_of_ble_eq_true rfl) hn9 ?_
  intro κ C hR
  show G κ n ρ 0 [(0, .ref 97), (1, .int x), (2, .int z)] [] I
  obtain ⟨mn, ⟨m0, m1, m5, m6, m7, m11, m12, m15⟩, ⟨m23, m24, m26, m27, m28, m30, m31, m32, m33⟩, ⟨m38, m39, m40, m42⟩⟩ := id hms
  obtain ⟨qw, qh, qn, qk⟩ := id hqf
  have hn6 : rN F ≤ 6 := hrw.2.2.2.2.1
  have hm25 := Nat.mul_le_mul hrw.2.1 hrw.2.2.2.1
  have hm4 := Nat.mul_le_mul hrw.1 hrw.2.2.1
  have hAO := allO_le hrw
  refine g_aload_n C (pc := 0) dX12_windOfThree_0 0 rfl ?_
  refine g_iload_n C (pc := 1) dX12_windOfThree_1 2 rfl ?_
  refine g_iconst C (pc := 2) 2 dX12_windOfThree_2 (by decide) ?_
  refine g_callVV C (pc := 3) mf_X12_findMoves lk_RX12_247 (c_X12_findMovesD n ρ I F b w 2 _ _ hn9 hms hqf hrw hqe hqb hbw hl1 hpw hw (by decide) hz rfl) (by decide) (Nat.le_refl _) rfl (by first | assumption | rfl | omega) rfl (by first | assumption | rfl | omega) (Nat.le_of_ble_eq_true rfl) dX12_windOfThree_3 (fun I3 h3 => ?_)
  obtain ⟨f3, a3, b3, g3⟩ := h3
  have hml9 := mvs_len (F := F) (b := b) (w := w) hn6
  refine g_aload_n C (pc := 6) dX12_windOfThree_6 0 rfl ?_
  refine g_iconst C (pc := 7) 2 dX12_windOfThree_7 (by decide) ?_
  refine g_callVV C (pc := 8) mf_X12_saves lk_RX12_254 (c_X12_savesD n ρ I3 F b 2 _ hn9 hms (hqf.kp (Kp.fm g3)) hrw (hqb.cong (fun k _ => by rw [g3 106 (by decide) (by decide)]) (fun k _ => by rw [g3 107 (by decide) (by decide)]) (by rw [g3 97 (by decide) (by decide)]) hn6) hbw (by decide) rfl) (by decide) (Nat.le_refl _) rfl (by first | assumption | rfl | omega) rfl (by first | assumption | rfl | omega) (Nat.le_of_ble_eq_true rfl) dX12_windOfThree_8 (fun I8 h8 => ?_)
  obtain ⟨f8, a8, g8⟩ := h8
  refine g_aload_n C (pc := 11) dX12_windOfThree_11 0 rfl ?_
  refine g_getI C (pc := 12) fl_RX12_204 (by decide) (by first | assumption | rfl | omega) (by first | assumption | rfl | omega) dX12_windOfThree_12 ?_
  refine g_iload_n C (pc := 15) dX12_windOfThree_15 1 rfl ?_
  refine g_icmp_ne C (pc := 16) 23 dX12_windOfThree_16 (by decide) (fun c16 => ?_) (fun c16 => ?_)
  · refine g_iconst C (pc := 23) 0 dX12_windOfThree_23 (by decide) ?_
    refine g_istore_n C (pc := 24) dX12_windOfThree_24 (by decide) (fun v24 => [(3, .int v24), (0, .ref 97), (1, .int x), (2, .int z)]) (fun _ => rfl) (fun v24 ev24 => ?_)
    refine g_lconst C (pc := 25) 0 dX12_windOfThree_25 (by decide) ?_
    have h24 : v24 = bI ((bM b == sd) = true) := by
      have hM2 := hbw.1
      first
      | (rw [bI_t (by have h9 : I8 97 25 = x := c16; rw [g8 97 (by decide), g3 97 (by decide) (by decide), hqb.2, hx] at h9; rw [(nI_eq (by omega) (by omega)).mp h9]; exact beq_self_eq_true _)]; exact ev24)
      | (rw [bI_f (fun h8 => c16 (by show I8 97 25 = x; rw [g8 97 (by decide), g3 97 (by decide) (by decide), hqb.2, hx, eq_of_beq h8]))]; exact ev24)
    refine g_lstore C (pc := 26) dX12_windOfThree_26 (by decide) (fun v26 => [(4, .long v26), (3, .int v24), (0, .ref 97), (1, .int x), (2, .int z)]) (fun _ => rfl) (fun v26 ev26 => ?_)
    refine g_bipush C (pc := 28) (-4) dX12_windOfThree_28 (by decide) ?_
    refine g_istore C (pc := 30) dX12_windOfThree_30 (by decide) (fun v30 => [(6, .int v30), (4, .long v26), (3, .int v24), (0, .ref 97), (1, .int x), (2, .int z)]) (fun _ => rfl) (fun v30 ev30 => ?_)
    refine g_aload_n C (pc := 32) dX12_windOfThree_32 3 rfl ?_
    refine g_getR C (pc := 33) fl_RX12_44 (by decide) (by first | assumption | rfl | omega) (by first | assumption | rfl | omega) (by first | assumption | rfl | omega) dX12_windOfThree_33 ?_
    refine g_iconst C (pc := 36) 2 dX12_windOfThree_36 (by decide) ?_
    refine g_iald C (pc := 37) (by first | assumption | rfl | omega) (by first | assumption | rfl | omega) (vp_in_nI (n := 2) (by decide) (by decide)) dX12_windOfThree_37 ?_
    refine g_if_ne C (pc := 38) 45 dX12_windOfThree_38 (by decide) (fun c38 => ?_) (fun c38 => ?_)
    · refine g_aload_n C (pc := 45) dX12_windOfThree_45 3 rfl ?_
      refine g_getR C (pc := 46) fl_RX12_44 (by decide) (by first | assumption | rfl | omega) (by first | assumption | rfl | omega) (by first | assumption | rfl | omega) dX12_windOfThree_46 ?_
      refine g_iconst C (pc := 49) 2 dX12_windOfThree_49 (by decide) ?_
      refine g_iald C (pc := 50) (by first | assumption | rfl | omega) (by first | assumption | rfl | omega) (vp_in_nI (n := 2) (by decide) (by decide)) dX12_windOfThree_50 ?_
      refine g_istore C (pc := 51) dX12_windOfThree_51 (by decide) (fun v51 => [(7, .int v51), (6, .int v30), (4, .long v26), (3, .int v24), (0, .ref 97), (1, .int x), (2, .int z)]) (fun _ => rfl) (fun v51 ev51 => ?_)
      have h51 : v51 = nI (cntM F b w) := by
        rw [ev51]
        have h9 : I8 109 2 = nI (mvs F b w).length := by rw [g8 109 (by decide)]; exact f3.1
        unfold cntM
        first
        | (rw [if_pos ((nI_eq (b := 0) (by omega) (by decide)).mp (h9.symm.trans c38))]; rfl)
        | (rw [if_neg (fun h8 => c38 (h9.trans (by rw [h8]; rfl)))]; exact h9)
      refine g_iconst C (pc := 53) 0 dX12_windOfThree_53 (by decide) ?_
      refine g_istore C (pc := 54) dX12_windOfThree_54 (by decide) (fun v54 => [(8, .int v54), (7, .int v51), (6, .int v30), (4, .long v26), (3, .int v24), (0, .ref 97), (1, .int x), (2, .int z)]) (fun _ => rfl) (fun v54 ev54 => ?_)
      have L56 : ∀ (k9 : Nat) (j : Nat) (wz8 : Int32) (wz4 : Int64) (wz6 : Int32) (J : Mem) (hw8 : wz8 = nI j) (hj : j ≤ cntM F b w) (h4 : wz4 = lN (((bstK (bM b == sd) (valF F sd 2 b w) j).map (fun q => q.1)).getD 0)) (h6 : wz6 = oI ((bstK (bM b == sd) (valF F sd 2 b w) j).map (fun q => q.2))) (hsv : SvB J F 2 b) (hfm : FMv J F b w 2) (hlw : Lw 3 I J), cntM F b w - j < k9 → G κ n ρ 56 [(8, .int wz8), (4, .long wz4), (6, .int wz6), (3, .int v24), (7, .int v51), (0, .ref 97), (1, .int x), (2, .int z)] [] J := by
        intro k9
        induction k9 with
        | zero => intro j wz8 wz4 wz6 J hw8 hj h4 h6 hsv hfm hlw hm56; exact absurd hm56 (Nat.not_lt_zero _)
        | succ k9 ih56 =>
          intro j wz8 wz4 wz6 J hw8 hj h4 h6 hsv hfm hlw hm56
          subst hw8
          have hcl := cntM_le (F := F) (b := b) (w := w) hn6
          have hml := mvs_len (F := F) (b := b) (w := w) hn6
          have hkJ := hlw.1
          refine g_iload C (pc := 56) dX12_windOfThree_56 0 rfl ?_
          refine g_iload C (pc := 58) dX12_windOfThree_58 4 rfl ?_
          refine g_icmp_ge C (pc := 60) 160 dX12_windOfThree_60 (by decide) (fun c60 => ?_) (fun c60 => ?_)
          · rw [h51, nI_leI (by omega) (by omega)] at c60
            refine g_aload_n C (pc := 160) dX12_windOfThree_160 5 rfl ?_
            refine g_iconst C (pc := 161) 2 dX12_windOfThree_161 (by decide) ?_
            refine g_callVV C (pc := 162) mf_X12_returns lk_RX12_257 (c_X12_returnsD n ρ J F b 2 _ hn9 hms (hqf.kp hkJ) hrw hsv (by decide) rfl) (by decide) (Nat.le_refl _) rfl (by first | assumption | rfl | omega) rfl (by first | assumption | rfl | omega) (Nat.le_of_ble_eq_true rfl) dX12_windOfThree_162 (fun I162 h162 => ?_)
            obtain ⟨f162, a162, g162⟩ := h162
            refine g_aload_n C (pc := 165) dX12_windOfThree_165 5 rfl ?_
            refine g_aload_n C (pc := 166) dX12_windOfThree_166 5 rfl ?_
            refine g_getR C (pc := 167) fl_RX12_44 (by decide) (by first | assumption | rfl | omega) (by first | assumption | rfl | omega) (by first | assumption | rfl | omega) dX12_windOfThree_167 ?_
            refine g_iconst C (pc := 170) 2 dX12_windOfThree_170 (by decide) ?_
            refine g_iald C (pc := 171) (by first | assumption | rfl | omega) (by first | assumption | rfl | omega) (vp_in_nI (n := 2) (by decide) (by decide)) dX12_windOfThree_171 ?_
            refine g_if_ne C (pc := 172) 180 dX12_windOfThree_172 (by decide) (fun c172 => ?_) (fun c172 => ?_)
            · refine g_iload C (pc := 180) dX12_windOfThree_180 2 rfl ?_
              refine g_putI C (pc := 182) fl_RX12_268 (by decide) fp_11_29 (Or.inl rfl) ⟨rfl, rfl⟩ (by first | assumption | rfl | omega) (by first | assumption | rfl | omega) hn9 dX12_windOfThree_182 ?_
              refine g_lload C (pc := 185) dX12_windOfThree_185 1 rfl ?_
              refine g_lret C hR (pc := 187) rfl dX12_windOfThree_187 ?_
              refine ⟨rfl, _, rfl, ?_⟩
              have hjc : j = cntM F b w := by omega
              subst hjc
              have hl5 : Lw 3 I I162 := hlw.trans ((Lw.qb a162 g162).up (by decide))
              refine ⟨h4, ?_, f162.cong (fun _ _ => by rw [wr_n (by decide)]) (fun _ _ => by rw [wr_n (by decide)]) (by rw [wr_sn (by decide)]) hn6, hl5.trans ((Lw.sc (by decide) (by decide)).up (Nat.zero_le _))⟩
              rw [wr_ss]
              have h9 : I162 109 2 = nI (mvs F b w).length := by rw [g162 109 (by decide) (by decide) (by decide)]; exact hfm.1
              unfold chW
              first
              | (rw [if_pos ((nI_eq (b := 0) (by omega) (by decide)).mp (h9.symm.trans c172))]; rfl)
              | (rw [if_neg (fun h8 => c172 (h9.trans (by rw [h8]; rfl)))]; exact h6)
            · refine g_bipush C (pc := 175) (-4) dX12_windOfThree_175 (by decide) ?_
              refine g_goto C (pc := 177) 182 dX12_windOfThree_177 (by decide) ?_
              refine g_putI C (pc := 182) fl_RX12_268 (by decide) fp_11_29 (Or.inl rfl) ⟨rfl, rfl⟩ (by first | assumption | rfl | omega) (by first | assumption | rfl | omega) hn9 dX12_windOfThree_182 ?_
              refine g_lload C (pc := 185) dX12_windOfThree_185 1 rfl ?_
              refine g_lret C hR (pc := 187) rfl dX12_windOfThree_187 ?_
              refine ⟨rfl, _, rfl, ?_⟩
              have hjc : j = cntM F b w := by omega
              subst hjc
              have hl5 : Lw 3 I I162 := hlw.trans ((Lw.qb a162 g162).up (by decide))
              refine ⟨h4, ?_, f162.cong (fun _ _ => by rw [wr_n (by decide)]) (fun _ _ => by rw [wr_n (by decide)]) (by rw [wr_sn (by decide)]) hn6, hl5.trans ((Lw.sc (by decide) (by decide)).up (Nat.zero_le _))⟩
              rw [wr_ss]
              have h9 : I162 109 2 = nI (mvs F b w).length := by rw [g162 109 (by decide) (by decide) (by decide)]; exact hfm.1
              unfold chW
              first
              | (rw [if_pos ((nI_eq (b := 0) (by omega) (by decide)).mp (h9.symm.trans c172))]; rfl)
              | (rw [if_neg (fun h8 => c172 (h9.trans (by rw [h8]; rfl)))]; exact h6)
          · rw [h51, nI_ltI (by omega) (by omega)] at c60
            refine g_aload_n C (pc := 63) dX12_windOfThree_63 5 rfl ?_
            refine g_iconst C (pc := 64) 2 dX12_windOfThree_64 (by decide) ?_
            refine g_callVV C (pc := 65) mf_X12_returns lk_RX12_257 (c_X12_returnsD n ρ J F b 2 _ hn9 hms (hqf.kp hkJ) hrw hsv (by decide) rfl) (by decide) (Nat.le_refl _) rfl (by first | assumption | rfl | omega) rfl (by first | assumption | rfl | omega) (Nat.le_of_ble_eq_true rfl) dX12_windOfThree_65 (fun I65 h65 => ?_)
            obtain ⟨f65, a65, g65⟩ := h65
            have hl2 : Lw 0 J I65 := Lw.qb a65 g65
            have hlw2 : Lw 3 I I65 := hlw.trans (hl2.up (by decide))
            have hsv2 : SvB I65 F 2 b := hsv.lw (hl2.up (by decide)) hn6
            have hfm2 : FMv I65 F b w 2 := hfm.lw (hl2.up (by decide)) hn6
            refine g_aload_n C (pc := 68) dX12_windOfThree_68 5 rfl ?_
            refine g_iload_n C (pc := 69) dX12_windOfThree_69 7 rfl ?_
            refine g_aload_n C (pc := 70) dX12_windOfThree_70 5 rfl ?_
            refine g_getR C (pc := 71) fl_RX12_44 (by decide) (by first | assumption | rfl | omega) (by first | assumption | rfl | omega) (by first | assumption | rfl | omega) dX12_windOfThree_71 ?_
            refine g_iconst C (pc := 74) 2 dX12_windOfThree_74 (by decide) ?_
            refine g_iald C (pc := 75) (by first | assumption | rfl | omega) (by first | assumption | rfl | omega) (vp_in_nI (n := 2) (by decide) (by decide)) dX12_windOfThree_75 ?_
            refine g_if_ne C (pc := 76) 84 dX12_windOfThree_76 (by decide) (fun c76 => ?_) (fun c76 => ?_)
            · have hjl : j < (mvs F b w).length := by
                have h9 : ¬ I65 109 2 = 0 := c76
                rw [hfm2.1] at h9
                have h8 : (mvs F b w).length ≠ 0 := fun h => h9 (by rw [h]; rfl)
                unfold cntM at c60
                rw [if_neg h8] at c60; exact c60
              have hmx9 : I65 108 (128 + nI j).toNatClampNeg = oI ((mvs F b w)[j]?) := by
                have hk9 := List.getElem?_eq_getElem hjl
                have h9 := hfm2.2 j _ hk9
                rw [hk9, show (128 : Int32) = nI 128 from rfl, nI_add, nI_clamp (by omega)]; exact h9
              refine g_aload_n C (pc := 84) dX12_windOfThree_84 5 rfl ?_
              refine g_getR C (pc := 85) fl_RX12_41 (by decide) (by first | assumption | rfl | omega) (by first | assumption | rfl | omega) (by first | assumption | rfl | omega) dX12_windOfThree_85 ?_
              refine g_sipush C (pc := 88) 128 dX12_windOfThree_88 (by decide) ?_
              refine g_iload C (pc := 91) dX12_windOfThree_91 0 rfl ?_
              refine g_iadd C (pc := 93) dX12_windOfThree_93 ?_
              refine g_iald C (pc := 94) (by first | assumption | rfl | omega) (by first | assumption | rfl | omega) (by rw [show (128 : Int32) = nI 128 from rfl, nI_add]; exact vp_in_nI (by omega) (by decide)) dX12_windOfThree_94 ?_
              refine g_callVI C (pc := 95) mf_X12_goes lk_RX12_251 (c_X12_goesE n ρ I65 F b w ((mvs F b w)[j]?) _ z hn9 hms (hqf.kp hlw2.1) hrw f65 hbw hw (mvs_K hrw) (hmx9) hz) (by decide) (Nat.le_refl _) rfl (by first | assumption | rfl | omega) rfl (by first | assumption | rfl | omega) (Nat.le_of_ble_eq_true rfl) dX12_windOfThree_95 (fun v95 I95 h95 => ?_)
              obtain ⟨e95, f95, a95, g95⟩ := h95
              have hl3 : Lw 0 I65 I95 := Lw.qb a95 g95
              replace hlw2 := hlw2
              have hbw2 : BW F (playB F b w ((mvs F b w)[j]?)) := (mvs_K hrw).bw hrw hbw
              have hl12 : L1 F (playB F b w ((mvs F b w)[j]?)) := L1_play hl1
              have hpw2 : PW F (playB F b w ((mvs F b w)[j]?)) := PW_play (mvs_K hrw) hrw hpw
              refine g_pop C (pc := 98) dX12_windOfThree_98 rfl ?_
              refine g_aload_n C (pc := 99) dX12_windOfThree_99 5 rfl ?_
              refine g_iload_n C (pc := 100) dX12_windOfThree_100 6 rfl ?_
              refine g_callVL C (pc := 101) mf_X12_two lk_RX12_281 (c_X12_two n ρ I95 F (playB F b w ((mvs F b w)[j]?)) sd x hn9 hms (hqf.kp (hlw2.trans (hl3.up (by decide))).1) hrw (hqe.kp (hlw2.trans (hl3.up (by decide))).1) f95 hbw2 hl12 hpw2 hsd hx) (by decide) (Nat.le_refl _) rfl (by first | assumption | rfl | omega) rfl (by first | assumption | rfl | omega) (Nat.le_of_ble_eq_true rfl) dX12_windOfThree_101 (fun v101 I101 h101 => ?_)
              obtain ⟨e101, k101⟩ := h101
              have hlI : Lw 2 I65 I101 := (hl3.up (by decide)).trans k101
              have hvf : v101 = lN ((valF F sd 2 b w) j) := e101
              refine g_lstore C (pc := 104) dX12_windOfThree_104 (by decide) (fun v104 => [(9, .long v104), (8, .int (nI j)), (4, .long wz4), (6, .int wz6), (3, .int v24), (7, .int v51), (0, .ref 97), (1, .int x), (2, .int z)]) (fun _ => rfl) (fun v104 ev104 => ?_)
              refine g_iload C (pc := 106) dX12_windOfThree_106 1 rfl ?_
              refine g_if_ne C (pc := 108) 115 dX12_windOfThree_108 (by decide) (fun c108 => ?_) (fun c108 => ?_)
              · refine g_iconst C (pc := 115) 0 dX12_windOfThree_115 (by decide) ?_
                refine g_iload_n C (pc := 116) dX12_windOfThree_116 4 rfl ?_
                refine g_lload C (pc := 117) dX12_windOfThree_117 0 rfl ?_
                refine g_lload C (pc := 119) dX12_windOfThree_119 2 rfl ?_
                refine g_callSI C (pc := 121) mf_X12_isBetter lk_RX12_264 (c_X12_isBetter n ρ _ _ _ _ _ hn9) (by decide) (Nat.le_refl _) rfl (Nat.le_of_ble_eq_true rfl) dX12_windOfThree_121 (fun v121 I121 h121 => ?_)
                obtain ⟨e121, rfl⟩ := h121
                refine g_istore C (pc := 124) dX12_windOfThree_124 (by decide) (fun v124 => [(11, .int v124), (9, .long v104), (8, .int (nI j)), (4, .long wz4), (6, .int wz6), (3, .int v24), (7, .int v51), (0, .ref 97), (1, .int x), (2, .int z)]) (fun _ => rfl) (fun v124 ev124 => ?_)
                have hup := bst_upd (wants := (bM b == sd)) (f := (valF F sd 2 b w)) (j := j) (z4 := wz4) (z6 := wz6) (fl := bI (j = 0)) (own := v24) (u := v124) (fun i _ => (by show val F sd 2 (playB F b w ((mvs F b w)[i]?)) < 2 ^ 31; have h9 := val_le (F := F) (sd := sd) 2 (playB F b w ((mvs F b w)[i]?)); have h8 := pw3 (a := allO F) (k := 2) hAO (by decide); omega)) h4 h6 rfl h24 (by
                  rw [ev124, e121, ev104, hvf]
                  first
                  | (rw [bI_t (c := j = 0) ((nI_eq (b := 0) (by omega) (by decide)).mp c108)]; done)
                  | (rw [bI_f (c := j = 0) (fun h => c108 (by rw [h]; rfl))]; done))
                refine g_iload C (pc := 126) dX12_windOfThree_126 0 rfl ?_
                refine g_if_eq C (pc := 128) 136 dX12_windOfThree_128 (by decide) (fun c128 => ?_) (fun c128 => ?_)
                · refine g_iload C (pc := 136) dX12_windOfThree_136 4 rfl ?_
                  refine g_istore C (pc := 138) dX12_windOfThree_138 (by decide) (fun v138 => [(6, .int v138), (11, .int v124), (9, .long v104), (8, .int (nI j)), (4, .long wz4), (3, .int v24), (7, .int v51), (0, .ref 97), (1, .int x), (2, .int z)]) (fun _ => rfl) (fun v138 ev138 => ?_)
                  refine g_iload C (pc := 140) dX12_windOfThree_140 1 rfl ?_
                  refine g_if_eq C (pc := 142) 150 dX12_windOfThree_142 (by decide) (fun c142 => ?_) (fun c142 => ?_)
                  · refine g_lload C (pc := 150) dX12_windOfThree_150 4 rfl ?_
                    refine g_lstore C (pc := 152) dX12_windOfThree_152 (by decide) (fun v152 => [(4, .long v152), (6, .int v138), (11, .int v124), (9, .long v104), (8, .int (nI j)), (3, .int v24), (7, .int v51), (0, .ref 97), (1, .int x), (2, .int z)]) (fun _ => rfl) (fun v152 ev152 => ?_)
                    refine g_iinc C (pc := 154) (1) dX12_windOfThree_154 4 rfl (by decide) (by decide) (fun v154 => [(8, .int v154), (4, .long v152), (6, .int v138), (11, .int v124), (9, .long v104), (3, .int v24), (7, .int v51), (0, .ref 97), (1, .int x), (2, .int z)]) (fun _ => rfl) (fun v154 ev154 => ?_)
                    refine g_goto C (pc := 157) 56 dX12_windOfThree_157 (by decide) ?_
                    refine g_lv C [0, 1, 2, 5, 6, 7, 8, 9] rfl (ih56 (j + 1) _ _ _ _ ?_ ?_ ?_ ?_ ?_ ?_ ?_ (by omega))
                    · subst ev154; exact nI_1 _
                    · omega
                    · rw [ev152]; first | exact (ev104.trans hvf).trans (hup.1 c128).1 | exact (hup.2 c128).1
                    · rw [ev138]; first | exact (hup.1 c128).2 | exact (hup.2 c128).2
                    · exact hsv2.lw hlI hn6
                    · exact hfm2.lw hlI hn6
                    · exact hlw2.trans (hlI.up (by decide))
                  · exact absurd c128 c142
                · refine g_iload C (pc := 131) dX12_windOfThree_131 2 rfl ?_
                  refine g_goto C (pc := 133) 138 dX12_windOfThree_133 (by decide) ?_
                  refine g_istore C (pc := 138) dX12_windOfThree_138 (by decide) (fun v138 => [(6, .int v138), (11, .int v124), (9, .long v104), (8, .int (nI j)), (4, .long wz4), (3, .int v24), (7, .int v51), (0, .ref 97), (1, .int x), (2, .int z)]) (fun _ => rfl) (fun v138 ev138 => ?_)
                  refine g_iload C (pc := 140) dX12_windOfThree_140 1 rfl ?_
                  refine g_if_eq C (pc := 142) 150 dX12_windOfThree_142 (by decide) (fun c142 => ?_) (fun c142 => ?_)
                  · exact absurd c142 c128
                  · refine g_lload C (pc := 145) dX12_windOfThree_145 2 rfl ?_
                    refine g_goto C (pc := 147) 152 dX12_windOfThree_147 (by decide) ?_
                    refine g_lstore C (pc := 152) dX12_windOfThree_152 (by decide) (fun v152 => [(4, .long v152), (6, .int v138), (11, .int v124), (9, .long v104), (8, .int (nI j)), (3, .int v24), (7, .int v51), (0, .ref 97), (1, .int x), (2, .int z)]) (fun _ => rfl) (fun v152 ev152 => ?_)
                    refine g_iinc C (pc := 154) (1) dX12_windOfThree_154 4 rfl (by decide) (by decide) (fun v154 => [(8, .int v154), (4, .long v152), (6, .int v138), (11, .int v124), (9, .long v104), (3, .int v24), (7, .int v51), (0, .ref 97), (1, .int x), (2, .int z)]) (fun _ => rfl) (fun v154 ev154 => ?_)
                    refine g_goto C (pc := 157) 56 dX12_windOfThree_157 (by decide) ?_
                    refine g_lv C [0, 1, 2, 5, 6, 7, 8, 9] rfl (ih56 (j + 1) _ _ _ _ ?_ ?_ ?_ ?_ ?_ ?_ ?_ (by omega))
                    · subst ev154; exact nI_1 _
                    · omega
                    · rw [ev152]; first | exact (ev104.trans hvf).trans (hup.1 c128).1 | exact (hup.2 c128).1
                    · rw [ev138]; first | exact (hup.1 c128).2 | exact (hup.2 c128).2
                    · exact hsv2.lw hlI hn6
                    · exact hfm2.lw hlI hn6
                    · exact hlw2.trans (hlI.up (by decide))
              · refine g_iconst C (pc := 111) 1 dX12_windOfThree_111 (by decide) ?_
                refine g_goto C (pc := 112) 116 dX12_windOfThree_112 (by decide) ?_
                refine g_iload_n C (pc := 116) dX12_windOfThree_116 4 rfl ?_
                refine g_lload C (pc := 117) dX12_windOfThree_117 0 rfl ?_
                refine g_lload C (pc := 119) dX12_windOfThree_119 2 rfl ?_
                refine g_callSI C (pc := 121) mf_X12_isBetter lk_RX12_264 (c_X12_isBetter n ρ _ _ _ _ _ hn9) (by decide) (Nat.le_refl _) rfl (Nat.le_of_ble_eq_true rfl) dX12_windOfThree_121 (fun v121 I121 h121 => ?_)
                obtain ⟨e121, rfl⟩ := h121
                refine g_istore C (pc := 124) dX12_windOfThree_124 (by decide) (fun v124 => [(11, .int v124), (9, .long v104), (8, .int (nI j)), (4, .long wz4), (6, .int wz6), (3, .int v24), (7, .int v51), (0, .ref 97), (1, .int x), (2, .int z)]) (fun _ => rfl) (fun v124 ev124 => ?_)
                have hup := bst_upd (wants := (bM b == sd)) (f := (valF F sd 2 b w)) (j := j) (z4 := wz4) (z6 := wz6) (fl := bI (j = 0)) (own := v24) (u := v124) (fun i _ => (by show val F sd 2 (playB F b w ((mvs F b w)[i]?)) < 2 ^ 31; have h9 := val_le (F := F) (sd := sd) 2 (playB F b w ((mvs F b w)[i]?)); have h8 := pw3 (a := allO F) (k := 2) hAO (by decide); omega)) h4 h6 rfl h24 (by
                  rw [ev124, e121, ev104, hvf]
                  first
                  | (rw [bI_t (c := j = 0) ((nI_eq (b := 0) (by omega) (by decide)).mp c108)]; done)
                  | (rw [bI_f (c := j = 0) (fun h => c108 (by rw [h]; rfl))]; done))
                refine g_iload C (pc := 126) dX12_windOfThree_126 0 rfl ?_
                refine g_if_eq C (pc := 128) 136 dX12_windOfThree_128 (by decide) (fun c128 => ?_) (fun c128 => ?_)
                · refine g_iload C (pc := 136) dX12_windOfThree_136 4 rfl ?_
                  refine g_istore C (pc := 138) dX12_windOfThree_138 (by decide) (fun v138 => [(6, .int v138), (11, .int v124), (9, .long v104), (8, .int (nI j)), (4, .long wz4), (3, .int v24), (7, .int v51), (0, .ref 97), (1, .int x), (2, .int z)]) (fun _ => rfl) (fun v138 ev138 => ?_)
                  refine g_iload C (pc := 140) dX12_windOfThree_140 1 rfl ?_
                  refine g_if_eq C (pc := 142) 150 dX12_windOfThree_142 (by decide) (fun c142 => ?_) (fun c142 => ?_)
                  · refine g_lload C (pc := 150) dX12_windOfThree_150 4 rfl ?_
                    refine g_lstore C (pc := 152) dX12_windOfThree_152 (by decide) (fun v152 => [(4, .long v152), (6, .int v138), (11, .int v124), (9, .long v104), (8, .int (nI j)), (3, .int v24), (7, .int v51), (0, .ref 97), (1, .int x), (2, .int z)]) (fun _ => rfl) (fun v152 ev152 => ?_)
                    refine g_iinc C (pc := 154) (1) dX12_windOfThree_154 4 rfl (by decide) (by decide) (fun v154 => [(8, .int v154), (4, .long v152), (6, .int v138), (11, .int v124), (9, .long v104), (3, .int v24), (7, .int v51), (0, .ref 97), (1, .int x), (2, .int z)]) (fun _ => rfl) (fun v154 ev154 => ?_)
                    refine g_goto C (pc := 157) 56 dX12_windOfThree_157 (by decide) ?_
                    refine g_lv C [0, 1, 2, 5, 6, 7, 8, 9] rfl (ih56 (j + 1) _ _ _ _ ?_ ?_ ?_ ?_ ?_ ?_ ?_ (by omega))
                    · subst ev154; exact nI_1 _
                    · omega
                    · rw [ev152]; first | exact (ev104.trans hvf).trans (hup.1 c128).1 | exact (hup.2 c128).1
                    · rw [ev138]; first | exact (hup.1 c128).2 | exact (hup.2 c128).2
                    · exact hsv2.lw hlI hn6
                    · exact hfm2.lw hlI hn6
                    · exact hlw2.trans (hlI.up (by decide))
                  · exact absurd c128 c142
                · refine g_iload C (pc := 131) dX12_windOfThree_131 2 rfl ?_
                  refine g_goto C (pc := 133) 138 dX12_windOfThree_133 (by decide) ?_
                  refine g_istore C (pc := 138) dX12_windOfThree_138 (by decide) (fun v138 => [(6, .int v138), (11, .int v124), (9, .long v104), (8, .int (nI j)), (4, .long wz4), (3, .int v24), (7, .int v51), (0, .ref 97), (1, .int x), (2, .int z)]) (fun _ => rfl) (fun v138 ev138 => ?_)
                  refine g_iload C (pc := 140) dX12_windOfThree_140 1 rfl ?_
                  refine g_if_eq C (pc := 142) 150 dX12_windOfThree_142 (by decide) (fun c142 => ?_) (fun c142 => ?_)
                  · exact absurd c142 c128
                  · refine g_lload C (pc := 145) dX12_windOfThree_145 2 rfl ?_
                    refine g_goto C (pc := 147) 152 dX12_windOfThree_147 (by decide) ?_
                    refine g_lstore C (pc := 152) dX12_windOfThree_152 (by decide) (fun v152 => [(4, .long v152), (6, .int v138), (11, .int v124), (9, .long v104), (8, .int (nI j)), (3, .int v24), (7, .int v51), (0, .ref 97), (1, .int x), (2, .int z)]) (fun _ => rfl) (fun v152 ev152 => ?_)
                    refine g_iinc C (pc := 154) (1) dX12_windOfThree_154 4 rfl (by decide) (by decide) (fun v154 => [(8, .int v154), (4, .long v152), (6, .int v138), (11, .int v124), (9, .long v104), (3, .int v24), (7, .int v51), (0, .ref 97), (1, .int x), (2, .int z)]) (fun _ => rfl) (fun v154 ev154 => ?_)
                    refine g_goto C (pc := 157) 56 dX12_windOfThree_157 (by decide) ?_
                    refine g_lv C [0, 1, 2, 5, 6, 7, 8, 9] rfl (ih56 (j + 1) _ _ _ _ ?_ ?_ ?_ ?_ ?_ ?_ ?_ (by omega))
                    · subst ev154; exact nI_1 _
                    · omega
                    · rw [ev152]; first | exact (ev104.trans hvf).trans (hup.1 c128).1 | exact (hup.2 c128).1
                    · rw [ev138]; first | exact (hup.1 c128).2 | exact (hup.2 c128).2
                    · exact hsv2.lw hlI hn6
                    · exact hfm2.lw hlI hn6
                    · exact hlw2.trans (hlI.up (by decide))
            · have hjl : (mvs F b w).length = 0 := by
                have h9 : I65 109 2 = 0 := c76
                rw [hfm2.1] at h9
                exact (nI_eq (b := 0) (by omega) (by decide)).mp h9
              have hmx9 : (-4 : Int32) = oI ((mvs F b w)[j]?) := by rw [List.getElem?_eq_none (by omega)]; rfl
              refine g_bipush C (pc := 79) (-4) dX12_windOfThree_79 (by decide) ?_
              refine g_goto C (pc := 81) 95 dX12_windOfThree_81 (by decide) ?_
              refine g_callVI C (pc := 95) mf_X12_goes lk_RX12_251 (c_X12_goesE n ρ I65 F b w ((mvs F b w)[j]?) _ z hn9 hms (hqf.kp hlw2.1) hrw f65 hbw hw (mvs_K hrw) (hmx9) hz) (by decide) (Nat.le_refl _) rfl (by first | assumption | rfl | omega) rfl (by first | assumption | rfl | omega) (Nat.le_of_ble_eq_true rfl) dX12_windOfThree_95 (fun v95 I95 h95 => ?_)
              obtain ⟨e95, f95, a95, g95⟩ := h95
              have hl3 : Lw 0 I65 I95 := Lw.qb a95 g95
              replace hlw2 := hlw2
              have hbw2 : BW F (playB F b w ((mvs F b w)[j]?)) := (mvs_K hrw).bw hrw hbw
              have hl12 : L1 F (playB F b w ((mvs F b w)[j]?)) := L1_play hl1
              have hpw2 : PW F (playB F b w ((mvs F b w)[j]?)) := PW_play (mvs_K hrw) hrw hpw
              refine g_pop C (pc := 98) dX12_windOfThree_98 rfl ?_
              refine g_aload_n C (pc := 99) dX12_windOfThree_99 5 rfl ?_
              refine g_iload_n C (pc := 100) dX12_windOfThree_100 6 rfl ?_
              refine g_callVL C (pc := 101) mf_X12_two lk_RX12_281 (c_X12_two n ρ I95 F (playB F b w ((mvs F b w)[j]?)) sd x hn9 hms (hqf.kp (hlw2.trans (hl3.up (by decide))).1) hrw (hqe.kp (hlw2.trans (hl3.up (by decide))).1) f95 hbw2 hl12 hpw2 hsd hx) (by decide) (Nat.le_refl _) rfl (by first | assumption | rfl | omega) rfl (by first | assumption | rfl | omega) (Nat.le_of_ble_eq_true rfl) dX12_windOfThree_101 (fun v101 I101 h101 => ?_)
              obtain ⟨e101, k101⟩ := h101
              have hlI : Lw 2 I65 I101 := (hl3.up (by decide)).trans k101
              have hvf : v101 = lN ((valF F sd 2 b w) j) := e101
              refine g_lstore C (pc := 104) dX12_windOfThree_104 (by decide) (fun v104 => [(9, .long v104), (8, .int (nI j)), (4, .long wz4), (6, .int wz6), (3, .int v24), (7, .int v51), (0, .ref 97), (1, .int x), (2, .int z)]) (fun _ => rfl) (fun v104 ev104 => ?_)
              refine g_iload C (pc := 106) dX12_windOfThree_106 1 rfl ?_
              refine g_if_ne C (pc := 108) 115 dX12_windOfThree_108 (by decide) (fun c108 => ?_) (fun c108 => ?_)
              · refine g_iconst C (pc := 115) 0 dX12_windOfThree_115 (by decide) ?_
                refine g_iload_n C (pc := 116) dX12_windOfThree_116 4 rfl ?_
                refine g_lload C (pc := 117) dX12_windOfThree_117 0 rfl ?_
                refine g_lload C (pc := 119) dX12_windOfThree_119 2 rfl ?_
                refine g_callSI C (pc := 121) mf_X12_isBetter lk_RX12_264 (c_X12_isBetter n ρ _ _ _ _ _ hn9) (by decide) (Nat.le_refl _) rfl (Nat.le_of_ble_eq_true rfl) dX12_windOfThree_121 (fun v121 I121 h121 => ?_)
                obtain ⟨e121, rfl⟩ := h121
                refine g_istore C (pc := 124) dX12_windOfThree_124 (by decide) (fun v124 => [(11, .int v124), (9, .long v104), (8, .int (nI j)), (4, .long wz4), (6, .int wz6), (3, .int v24), (7, .int v51), (0, .ref 97), (1, .int x), (2, .int z)]) (fun _ => rfl) (fun v124 ev124 => ?_)
                have hup := bst_upd (wants := (bM b == sd)) (f := (valF F sd 2 b w)) (j := j) (z4 := wz4) (z6 := wz6) (fl := bI (j = 0)) (own := v24) (u := v124) (fun i _ => (by show val F sd 2 (playB F b w ((mvs F b w)[i]?)) < 2 ^ 31; have h9 := val_le (F := F) (sd := sd) 2 (playB F b w ((mvs F b w)[i]?)); have h8 := pw3 (a := allO F) (k := 2) hAO (by decide); omega)) h4 h6 rfl h24 (by
                  rw [ev124, e121, ev104, hvf]
                  first
                  | (rw [bI_t (c := j = 0) ((nI_eq (b := 0) (by omega) (by decide)).mp c108)]; done)
                  | (rw [bI_f (c := j = 0) (fun h => c108 (by rw [h]; rfl))]; done))
                refine g_iload C (pc := 126) dX12_windOfThree_126 0 rfl ?_
                refine g_if_eq C (pc := 128) 136 dX12_windOfThree_128 (by decide) (fun c128 => ?_) (fun c128 => ?_)
                · refine g_iload C (pc := 136) dX12_windOfThree_136 4 rfl ?_
                  refine g_istore C (pc := 138) dX12_windOfThree_138 (by decide) (fun v138 => [(6, .int v138), (11, .int v124), (9, .long v104), (8, .int (nI j)), (4, .long wz4), (3, .int v24), (7, .int v51), (0, .ref 97), (1, .int x), (2, .int z)]) (fun _ => rfl) (fun v138 ev138 => ?_)
                  refine g_iload C (pc := 140) dX12_windOfThree_140 1 rfl ?_
                  refine g_if_eq C (pc := 142) 150 dX12_windOfThree_142 (by decide) (fun c142 => ?_) (fun c142 => ?_)
                  · refine g_lload C (pc := 150) dX12_windOfThree_150 4 rfl ?_
                    refine g_lstore C (pc := 152) dX12_windOfThree_152 (by decide) (fun v152 => [(4, .long v152), (6, .int v138), (11, .int v124), (9, .long v104), (8, .int (nI j)), (3, .int v24), (7, .int v51), (0, .ref 97), (1, .int x), (2, .int z)]) (fun _ => rfl) (fun v152 ev152 => ?_)
                    refine g_iinc C (pc := 154) (1) dX12_windOfThree_154 4 rfl (by decide) (by decide) (fun v154 => [(8, .int v154), (4, .long v152), (6, .int v138), (11, .int v124), (9, .long v104), (3, .int v24), (7, .int v51), (0, .ref 97), (1, .int x), (2, .int z)]) (fun _ => rfl) (fun v154 ev154 => ?_)
                    refine g_goto C (pc := 157) 56 dX12_windOfThree_157 (by decide) ?_
                    refine g_lv C [0, 1, 2, 5, 6, 7, 8, 9] rfl (ih56 (j + 1) _ _ _ _ ?_ ?_ ?_ ?_ ?_ ?_ ?_ (by omega))
                    · subst ev154; exact nI_1 _
                    · omega
                    · rw [ev152]; first | exact (ev104.trans hvf).trans (hup.1 c128).1 | exact (hup.2 c128).1
                    · rw [ev138]; first | exact (hup.1 c128).2 | exact (hup.2 c128).2
                    · exact hsv2.lw hlI hn6
                    · exact hfm2.lw hlI hn6
                    · exact hlw2.trans (hlI.up (by decide))
                  · exact absurd c128 c142
                · refine g_iload C (pc := 131) dX12_windOfThree_131 2 rfl ?_
                  refine g_goto C (pc := 133) 138 dX12_windOfThree_133 (by decide) ?_
                  refine g_istore C (pc := 138) dX12_windOfThree_138 (by decide) (fun v138 => [(6, .int v138), (11, .int v124), (9, .long v104), (8, .int (nI j)), (4, .long wz4), (3, .int v24), (7, .int v51), (0, .ref 97), (1, .int x), (2, .int z)]) (fun _ => rfl) (fun v138 ev138 => ?_)
                  refine g_iload C (pc := 140) dX12_windOfThree_140 1 rfl ?_
                  refine g_if_eq C (pc := 142) 150 dX12_windOfThree_142 (by decide) (fun c142 => ?_) (fun c142 => ?_)
                  · exact absurd c142 c128
                  · refine g_lload C (pc := 145) dX12_windOfThree_145 2 rfl ?_
                    refine g_goto C (pc := 147) 152 dX12_windOfThree_147 (by decide) ?_
                    refine g_lstore C (pc := 152) dX12_windOfThree_152 (by decide) (fun v152 => [(4, .long v152), (6, .int v138), (11, .int v124), (9, .long v104), (8, .int (nI j)), (3, .int v24), (7, .int v51), (0, .ref 97), (1, .int x), (2, .int z)]) (fun _ => rfl) (fun v152 ev152 => ?_)
                    refine g_iinc C (pc := 154) (1) dX12_windOfThree_154 4 rfl (by decide) (by decide) (fun v154 => [(8, .int v154), (4, .long v152), (6, .int v138), (11, .int v124), (9, .long v104), (3, .int v24), (7, .int v51), (0, .ref 97), (1, .int x), (2, .int z)]) (fun _ => rfl) (fun v154 ev154 => ?_)
                    refine g_goto C (pc := 157) 56 dX12_windOfThree_157 (by decide) ?_
                    refine g_lv C [0, 1, 2, 5, 6, 7, 8, 9] rfl (ih56 (j + 1) _ _ _ _ ?_ ?_ ?_ ?_ ?_ ?_ ?_ (by omega))
                    · subst ev154; exact nI_1 _
                    · omega
                    · rw [ev152]; first | exact (ev104.trans hvf).trans (hup.1 c128).1 | exact (hup.2 c128).1
                    · rw [ev138]; first | exact (hup.1 c128).2 | exact (hup.2 c128).2
                    · exact hsv2.lw hlI hn6
                    · exact hfm2.lw hlI hn6
                    · exact hlw2.trans (hlI.up (by decide))
              · refine g_iconst C (pc := 111) 1 dX12_windOfThree_111 (by decide) ?_
                refine g_goto C (pc := 112) 116 dX12_windOfThree_112 (by decide) ?_
                refine g_iload_n C (pc := 116) dX12_windOfThree_116 4 rfl ?_
                refine g_lload C (pc := 117) dX12_windOfThree_117 0 rfl ?_
                refine g_lload C (pc := 119) dX12_windOfThree_119 2 rfl ?_
                refine g_callSI C (pc := 121) mf_X12_isBetter lk_RX12_264 (c_X12_isBetter n ρ _ _ _ _ _ hn9) (by decide) (Nat.le_refl _) rfl (Nat.le_of_ble_eq_true rfl) dX12_windOfThree_121 (fun v121 I121 h121 => ?_)
                obtain ⟨e121, rfl⟩ := h121
                refine g_istore C (pc := 124) dX12_windOfThree_124 (by decide) (fun v124 => [(11, .int v124), (9, .long v104), (8, .int (nI j)), (4, .long wz4), (6, .int wz6), (3, .int v24), (7, .int v51), (0, .ref 97), (1, .int x), (2, .int z)]) (fun _ => rfl) (fun v124 ev124 => ?_)
                have hup := bst_upd (wants := (bM b == sd)) (f := (valF F sd 2 b w)) (j := j) (z4 := wz4) (z6 := wz6) (fl := bI (j = 0)) (own := v24) (u := v124) (fun i _ => (by show val F sd 2 (playB F b w ((mvs F b w)[i]?)) < 2 ^ 31; have h9 := val_le (F := F) (sd := sd) 2 (playB F b w ((mvs F b w)[i]?)); have h8 := pw3 (a := allO F) (k := 2) hAO (by decide); omega)) h4 h6 rfl h24 (by
                  rw [ev124, e121, ev104, hvf]
                  first
                  | (rw [bI_t (c := j = 0) ((nI_eq (b := 0) (by omega) (by decide)).mp c108)]; done)
                  | (rw [bI_f (c := j = 0) (fun h => c108 (by rw [h]; rfl))]; done))
                refine g_iload C (pc := 126) dX12_windOfThree_126 0 rfl ?_
                refine g_if_eq C (pc := 128) 136 dX12_windOfThree_128 (by decide) (fun c128 => ?_) (fun c128 => ?_)
                · refine g_iload C (pc := 136) dX12_windOfThree_136 4 rfl ?_
                  refine g_istore C (pc := 138) dX12_windOfThree_138 (by decide) (fun v138 => [(6, .int v138), (11, .int v124), (9, .long v104), (8, .int (nI j)), (4, .long wz4), (3, .int v24), (7, .int v51), (0, .ref 97), (1, .int x), (2, .int z)]) (fun _ => rfl) (fun v138 ev138 => ?_)
                  refine g_iload C (pc := 140) dX12_windOfThree_140 1 rfl ?_
                  refine g_if_eq C (pc := 142) 150 dX12_windOfThree_142 (by decide) (fun c142 => ?_) (fun c142 => ?_)
                  · refine g_lload C (pc := 150) dX12_windOfThree_150 4 rfl ?_
                    refine g_lstore C (pc := 152) dX12_windOfThree_152 (by decide) (fun v152 => [(4, .long v152), (6, .int v138), (11, .int v124), (9, .long v104), (8, .int (nI j)), (3, .int v24), (7, .int v51), (0, .ref 97), (1, .int x), (2, .int z)]) (fun _ => rfl) (fun v152 ev152 => ?_)
                    refine g_iinc C (pc := 154) (1) dX12_windOfThree_154 4 rfl (by decide) (by decide) (fun v154 => [(8, .int v154), (4, .long v152), (6, .int v138), (11, .int v124), (9, .long v104), (3, .int v24), (7, .int v51), (0, .ref 97), (1, .int x), (2, .int z)]) (fun _ => rfl) (fun v154 ev154 => ?_)
                    refine g_goto C (pc := 157) 56 dX12_windOfThree_157 (by decide) ?_
                    refine g_lv C [0, 1, 2, 5, 6, 7, 8, 9] rfl (ih56 (j + 1) _ _ _ _ ?_ ?_ ?_ ?_ ?_ ?_ ?_ (by omega))
                    · subst ev154; exact nI_1 _
                    · omega
                    · rw [ev152]; first | exact (ev104.trans hvf).trans (hup.1 c128).1 | exact (hup.2 c128).1
                    · rw [ev138]; first | exact (hup.1 c128).2 | exact (hup.2 c128).2
                    · exact hsv2.lw hlI hn6
                    · exact hfm2.lw hlI hn6
                    · exact hlw2.trans (hlI.up (by decide))
                  · exact absurd c128 c142
                · refine g_iload C (pc := 131) dX12_windOfThree_131 2 rfl ?_
                  refine g_goto C (pc := 133) 138 dX12_windOfThree_133 (by decide) ?_
                  refine g_istore C (pc := 138) dX12_windOfThree_138 (by decide) (fun v138 => [(6, .int v138), (11, .int v124), (9, .long v104), (8, .int (nI j)), (4, .long wz4), (3, .int v24), (7, .int v51), (0, .ref 97), (1, .int x), (2, .int z)]) (fun _ => rfl) (fun v138 ev138 => ?_)
                  refine g_iload C (pc := 140) dX12_windOfThree_140 1 rfl ?_
                  refine g_if_eq C (pc := 142) 150 dX12_windOfThree_142 (by decide) (fun c142 => ?_) (fun c142 => ?_)
                  · exact absurd c142 c128
                  · refine g_lload C (pc := 145) dX12_windOfThree_145 2 rfl ?_
                    refine g_goto C (pc := 147) 152 dX12_windOfThree_147 (by decide) ?_
                    refine g_lstore C (pc := 152) dX12_windOfThree_152 (by decide) (fun v152 => [(4, .long v152), (6, .int v138), (11, .int v124), (9, .long v104), (8, .int (nI j)), (3, .int v24), (7, .int v51), (0, .ref 97), (1, .int x), (2, .int z)]) (fun _ => rfl) (fun v152 ev152 => ?_)
                    refine g_iinc C (pc := 154) (1) dX12_windOfThree_154 4 rfl (by decide) (by decide) (fun v154 => [(8, .int v154), (4, .long v152), (6, .int v138), (11, .int v124), (9, .long v104), (3, .int v24), (7, .int v51), (0, .ref 97), (1, .int x), (2, .int z)]) (fun _ => rfl) (fun v154 ev154 => ?_)
                    refine g_goto C (pc := 157) 56 dX12_windOfThree_157 (by decide) ?_
                    refine g_lv C [0, 1, 2, 5, 6, 7, 8, 9] rfl (ih56 (j + 1) _ _ _ _ ?_ ?_ ?_ ?_ ?_ ?_ ?_ (by omega))
                    · subst ev154; exact nI_1 _
                    · omega
                    · rw [ev152]; first | exact (ev104.trans hvf).trans (hup.1 c128).1 | exact (hup.2 c128).1
                    · rw [ev138]; first | exact (hup.1 c128).2 | exact (hup.2 c128).2
                    · exact hsv2.lw hlI hn6
                    · exact hfm2.lw hlI hn6
                    · exact hlw2.trans (hlI.up (by decide))
      refine g_lv C [0, 3, 2, 4, 1, 5, 6, 7] rfl (L56 (_ + 1) 0 _ _ _ _ ?_ ?_ ?_ ?_ ?_ ?_ ?_ (by first | omega | exact Nat.lt_succ_self _))
      · subst ev54; rfl
      · omega
      · subst ev26; rfl
      · subst ev30; rfl
      · exact f8
      · exact f3.cong (by rw [g8 109 (by decide)]) (fun z _ _ => by rw [g8 108 (by decide)]) hn6
      · exact (Lw.fm a3 b3 g3).trans (Lw.sv a8 g8)
    · refine g_iconst C (pc := 41) 1 dX12_windOfThree_41 (by decide) ?_
      refine g_goto C (pc := 42) 51 dX12_windOfThree_42 (by decide) ?_
      refine g_istore C (pc := 51) dX12_windOfThree_51 (by decide) (fun v51 => [(7, .int v51), (6, .int v30), (4, .long v26), (3, .int v24), (0, .ref 97), (1, .int x), (2, .int z)]) (fun _ => rfl) (fun v51 ev51 => ?_)
      have h51 : v51 = nI (cntM F b w) := by
        rw [ev51]
        have h9 : I8 109 2 = nI (mvs F b w).length := by rw [g8 109 (by decide)]; exact f3.1
        unfold cntM
        first
        | (rw [if_pos ((nI_eq (b := 0) (by omega) (by decide)).mp (h9.symm.trans c38))]; rfl)
        | (rw [if_neg (fun h8 => c38 (h9.trans (by rw [h8]; rfl)))]; exact h9)
      refine g_iconst C (pc := 53) 0 dX12_windOfThree_53 (by decide) ?_
      refine g_istore C (pc := 54) dX12_windOfThree_54 (by decide) (fun v54 => [(8, .int v54), (7, .int v51), (6, .int v30), (4, .long v26), (3, .int v24), (0, .ref 97), (1, .int x), (2, .int z)]) (fun _ => rfl) (fun v54 ev54 => ?_)
      have L56 : ∀ (k9 : Nat) (j : Nat) (wz8 : Int32) (wz4 : Int64) (wz6 : Int32) (J : Mem) (hw8 : wz8 = nI j) (hj : j ≤ cntM F b w) (h4 : wz4 = lN (((bstK (bM b == sd) (valF F sd 2 b w) j).map (fun q => q.1)).getD 0)) (h6 : wz6 = oI ((bstK (bM b == sd) (valF F sd 2 b w) j).map (fun q => q.2))) (hsv : SvB J F 2 b) (hfm : FMv J F b w 2) (hlw : Lw 3 I J), cntM F b w - j < k9 → G κ n ρ 56 [(8, .int wz8), (4, .long wz4), (6, .int wz6), (3, .int v24), (7, .int v51), (0, .ref 97), (1, .int x), (2, .int z)] [] J := by
        intro k9
        induction k9 with
        | zero => intro j wz8 wz4 wz6 J hw8 hj h4 h6 hsv hfm hlw hm56; exact absurd hm56 (Nat.not_lt_zero _)
        | succ k9 ih56 =>
          intro j wz8 wz4 wz6 J hw8 hj h4 h6 hsv hfm hlw hm56
          subst hw8
          have hcl := cntM_le (F := F) (b := b) (w := w) hn6
          have hml := mvs_len (F := F) (b := b) (w := w) hn6
          have hkJ := hlw.1
          refine g_iload C (pc := 56) dX12_windOfThree_56 0 rfl ?_
          refine g_iload C (pc := 58) dX12_windOfThree_58 4 rfl ?_
          refine g_icmp_ge C (pc := 60) 160 dX12_windOfThree_60 (by decide) (fun c60 => ?_) (fun c60 => ?_)
          · rw [h51, nI_leI (by omega) (by omega)] at c60
            refine g_aload_n C (pc := 160) dX12_windOfThree_160 5 rfl ?_
            refine g_iconst C (pc := 161) 2 dX12_windOfThree_161 (by decide) ?_
            refine g_callVV C (pc := 162) mf_X12_returns lk_RX12_257 (c_X12_returnsD n ρ J F b 2 _ hn9 hms (hqf.kp hkJ) hrw hsv (by decide) rfl) (by decide) (Nat.le_refl _) rfl (by first | assumption | rfl | omega) rfl (by first | assumption | rfl | omega) (Nat.le_of_ble_eq_true rfl) dX12_windOfThree_162 (fun I162 h162 => ?_)
            obtain ⟨f162, a162, g162⟩ := h162
            refine g_aload_n C (pc := 165) dX12_windOfThree_165 5 rfl ?_
            refine g_aload_n C (pc := 166) dX12_windOfThree_166 5 rfl ?_
            refine g_getR C (pc := 167) fl_RX12_44 (by decide) (by first | assumption | rfl | omega) (by first | assumption | rfl | omega) (by first | assumption | rfl | omega) dX12_windOfThree_167 ?_
            refine g_iconst C (pc := 170) 2 dX12_windOfThree_170 (by decide) ?_
            refine g_iald C (pc := 171) (by first | assumption | rfl | omega) (by first | assumption | rfl | omega) (vp_in_nI (n := 2) (by decide) (by decide)) dX12_windOfThree_171 ?_
            refine g_if_ne C (pc := 172) 180 dX12_windOfThree_172 (by decide) (fun c172 => ?_) (fun c172 => ?_)
            · refine g_iload C (pc := 180) dX12_windOfThree_180 2 rfl ?_
              refine g_putI C (pc := 182) fl_RX12_268 (by decide) fp_11_29 (Or.inl rfl) ⟨rfl, rfl⟩ (by first | assumption | rfl | omega) (by first | assumption | rfl | omega) hn9 dX12_windOfThree_182 ?_
              refine g_lload C (pc := 185) dX12_windOfThree_185 1 rfl ?_
              refine g_lret C hR (pc := 187) rfl dX12_windOfThree_187 ?_
              refine ⟨rfl, _, rfl, ?_⟩
              have hjc : j = cntM F b w := by omega
              subst hjc
              have hl5 : Lw 3 I I162 := hlw.trans ((Lw.qb a162 g162).up (by decide))
              refine ⟨h4, ?_, f162.cong (fun _ _ => by rw [wr_n (by decide)]) (fun _ _ => by rw [wr_n (by decide)]) (by rw [wr_sn (by decide)]) hn6, hl5.trans ((Lw.sc (by decide) (by decide)).up (Nat.zero_le _))⟩
              rw [wr_ss]
              have h9 : I162 109 2 = nI (mvs F b w).length := by rw [g162 109 (by decide) (by decide) (by decide)]; exact hfm.1
              unfold chW
              first
              | (rw [if_pos ((nI_eq (b := 0) (by omega) (by decide)).mp (h9.symm.trans c172))]; rfl)
              | (rw [if_neg (fun h8 => c172 (h9.trans (by rw [h8]; rfl)))]; exact h6)
            · refine g_bipush C (pc := 175) (-4) dX12_windOfThree_175 (by decide) ?_
              refine g_goto C (pc := 177) 182 dX12_windOfThree_177 (by decide) ?_
              refine g_putI C (pc := 182) fl_RX12_268 (by decide) fp_11_29 (Or.inl rfl) ⟨rfl, rfl⟩ (by first | assumption | rfl | omega) (by first | assumption | rfl | omega) hn9 dX12_windOfThree_182 ?_
              refine g_lload C (pc := 185) dX12_windOfThree_185 1 rfl ?_
              refine g_lret C hR (pc := 187) rfl dX12_windOfThree_187 ?_
              refine ⟨rfl, _, rfl, ?_⟩
              have hjc : j = cntM F b w := by omega
              subst hjc
              have hl5 : Lw 3 I I162 := hlw.trans ((Lw.qb a162 g162).up (by decide))
              refine ⟨h4, ?_, f162.cong (fun _ _ => by rw [wr_n (by decide)]) (fun _ _ => by rw [wr_n (by decide)]) (by rw [wr_sn (by decide)]) hn6, hl5.trans ((Lw.sc (by decide) (by decide)).up (Nat.zero_le _))⟩
              rw [wr_ss]
              have h9 : I162 109 2 = nI (mvs F b w).length := by rw [g162 109 (by decide) (by decide) (by decide)]; exact hfm.1
              unfold chW
              first
              | (rw [if_pos ((nI_eq (b := 0) (by omega) (by decide)).mp (h9.symm.trans c172))]; rfl)
              | (rw [if_neg (fun h8 => c172 (h9.trans (by rw [h8]; rfl)))]; exact h6)
          · rw [h51, nI_ltI (by omega) (by omega)] at c60
            refine g_aload_n C (pc := 63) dX12_windOfThree_63 5 rfl ?_
            refine g_iconst C (pc := 64) 2 dX12_windOfThree_64 (by decide) ?_
            refine g_callVV C (pc := 65) mf_X12_returns lk_RX12_257 (c_X12_returnsD n ρ J F b 2 _ hn9 hms (hqf.kp hkJ) hrw hsv (by decide) rfl) (by decide) (Nat.le_refl _) rfl (by first | assumption | rfl | omega) rfl (by first | assumption | rfl | omega) (Nat.le_of_ble_eq_true rfl) dX12_windOfThree_65 (fun I65 h65 => ?_)
            obtain ⟨f65, a65, g65⟩ := h65
            have hl2 : Lw 0 J I65 := Lw.qb a65 g65
            have hlw2 : Lw 3 I I65 := hlw.trans (hl2.up (by decide))
            have hsv2 : SvB I65 F 2 b := hsv.lw (hl2.up (by decide)) hn6
            have hfm2 : FMv I65 F b w 2 := hfm.lw (hl2.up (by decide)) hn6
            refine g_aload_n C (pc := 68) dX12_windOfThree_68 5 rfl ?_
            refine g_iload_n C (pc := 69) dX12_windOfThree_69 7 rfl ?_
            refine g_aload_n C (pc := 70) dX12_windOfThree_70 5 rfl ?_
            refine g_getR C (pc := 71) fl_RX12_44 (by decide) (by first | assumption | rfl | omega) (by first | assumption | rfl | omega) (by first | assumption | rfl | omega) dX12_windOfThree_71 ?_
            refine g_iconst C (pc := 74) 2 dX12_windOfThree_74 (by decide) ?_
            refine g_iald C (pc := 75) (by first | assumption | rfl | omega) (by first | assumption | rfl | omega) (vp_in_nI (n := 2) (by decide) (by decide)) dX12_windOfThree_75 ?_
            refine g_if_ne C (pc := 76) 84 dX12_windOfThree_76 (by decide) (fun c76 => ?_) (fun c76 => ?_)
            · have hjl : j < (mvs F b w).length := by
                have h9 : ¬ I65 109 2 = 0 := c76
                rw [hfm2.1] at h9
                have h8 : (mvs F b w).length ≠ 0 := fun h => h9 (by rw [h]; rfl)
                unfold cntM at c60
                rw [if_neg h8] at c60; exact c60
              have hmx9 : I65 108 (128 + nI j).toNatClampNeg = oI ((mvs F b w)[j]?) := by
                have hk9 := List.getElem?_eq_getElem hjl
                have h9 := hfm2.2 j _ hk9
                rw [hk9, show (128 : Int32) = nI 128 from rfl, nI_add, nI_clamp (by omega)]; exact h9
              refine g_aload_n C (pc := 84) dX12_windOfThree_84 5 rfl ?_
              refine g_getR C (pc := 85) fl_RX12_41 (by decide) (by first | assumption | rfl | omega) (by first | assumption | rfl | omega) (by first | assumption | rfl | omega) dX12_windOfThree_85 ?_
              refine g_sipush C (pc := 88) 128 dX12_windOfThree_88 (by decide) ?_
              refine g_iload C (pc := 91) dX12_windOfThree_91 0 rfl ?_
              refine g_iadd C (pc := 93) dX12_windOfThree_93 ?_
              refine g_iald C (pc := 94) (by first | assumption | rfl | omega) (by first | assumption | rfl | omega) (by rw [show (128 : Int32) = nI 128 from rfl, nI_add]; exact vp_in_nI (by omega) (by decide)) dX12_windOfThree_94 ?_
              refine g_callVI C (pc := 95) mf_X12_goes lk_RX12_251 (c_X12_goesE n ρ I65 F b w ((mvs F b w)[j]?) _ z hn9 hms (hqf.kp hlw2.1) hrw f65 hbw hw (mvs_K hrw) (hmx9) hz) (by decide) (Nat.le_refl _) rfl (by first | assumption | rfl | omega) rfl (by first | assumption | rfl | omega) (Nat.le_of_ble_eq_true rfl) dX12_windOfThree_95 (fun v95 I95 h95 => ?_)
              obtain ⟨e95, f95, a95, g95⟩ := h95
              have hl3 : Lw 0 I65 I95 := Lw.qb a95 g95
              replace hlw2 := hlw2
              have hbw2 : BW F (playB F b w ((mvs F b w)[j]?)) := (mvs_K hrw).bw hrw hbw
              have hl12 : L1 F (playB F b w ((mvs F b w)[j]?)) := L1_play hl1
              have hpw2 : PW F (playB F b w ((mvs F b w)[j]?)) := PW_play (mvs_K hrw) hrw hpw
              refine g_pop C (pc := 98) dX12_windOfThree_98 rfl ?_
              refine g_aload_n C (pc := 99) dX12_windOfThree_99 5 rfl ?_
              refine g_iload_n C (pc := 100) dX12_windOfThree_100 6 rfl ?_
              refine g_callVL C (pc := 101) mf_X12_two lk_RX12_281 (c_X12_two n ρ I95 F (playB F b w ((mvs F b w)[j]?)) sd x hn9 hms (hqf.kp (hlw2.trans (hl3.up (by decide))).1) hrw (hqe.kp (hlw2.trans (hl3.up (by decide))).1) f95 hbw2 hl12 hpw2 hsd hx) (by decide) (Nat.le_refl _) rfl (by first | assumption | rfl | omega) rfl (by first | assumption | rfl | omega) (Nat.le_of_ble_eq_true rfl) dX12_windOfThree_101 (fun v101 I101 h101 => ?_)
              obtain ⟨e101, k101⟩ := h101
              have hlI : Lw 2 I65 I101 := (hl3.up (by decide)).trans k101
              have hvf : v101 = lN ((valF F sd 2 b w) j) := e101
              refine g_lstore C (pc := 104) dX12_windOfThree_104 (by decide) (fun v104 => [(9, .long v104), (8, .int (nI j)), (4, .long wz4), (6, .int wz6), (3, .int v24), (7, .int v51), (0, .ref 97), (1, .int x), (2, .int z)]) (fun _ => rfl) (fun v104 ev104 => ?_)
              refine g_iload C (pc := 106) dX12_windOfThree_106 1 rfl ?_
              refine g_if_ne C (pc := 108) 115 dX12_windOfThree_108 (by decide) (fun c108 => ?_) (fun c108 => ?_)
              · refine g_iconst C (pc := 115) 0 dX12_windOfThree_115 (by decide) ?_
                refine g_iload_n C (pc := 116) dX12_windOfThree_116 4 rfl ?_
                refine g_lload C (pc := 117) dX12_windOfThree_117 0 rfl ?_
                refine g_lload C (pc := 119) dX12_windOfThree_119 2 rfl ?_
                refine g_callSI C (pc := 121) mf_X12_isBetter lk_RX12_264 (c_X12_isBetter n ρ _ _ _ _ _ hn9) (by decide) (Nat.le_refl _) rfl (Nat.le_of_ble_eq_true rfl) dX12_windOfThree_121 (fun v121 I121 h121 => ?_)
                obtain ⟨e121, rfl⟩ := h121
                refine g_istore C (pc := 124) dX12_windOfThree_124 (by decide) (fun v124 => [(11, .int v124), (9, .long v104), (8, .int (nI j)), (4, .long wz4), (6, .int wz6), (3, .int v24), (7, .int v51), (0, .ref 97), (1, .int x), (2, .int z)]) (fun _ => rfl) (fun v124 ev124 => ?_)
                have hup := bst_upd (wants := (bM b == sd)) (f := (valF F sd 2 b w)) (j := j) (z4 := wz4) (z6 := wz6) (fl := bI (j = 0)) (own := v24) (u := v124) (fun i _ => (by show val F sd 2 (playB F b w ((mvs F b w)[i]?)) < 2 ^ 31; have h9 := val_le (F := F) (sd := sd) 2 (playB F b w ((mvs F b w)[i]?)); have h8 := pw3 (a := allO F) (k := 2) hAO (by decide); omega)) h4 h6 rfl h24 (by
                  rw [ev124, e121, ev104, hvf]
                  first
                  | (rw [bI_t (c := j = 0) ((nI_eq (b := 0) (by omega) (by decide)).mp c108)]; done)
                  | (rw [bI_f (c := j = 0) (fun h => c108 (by rw [h]; rfl))]; done))
                refine g_iload C (pc := 126) dX12_windOfThree_126 0 rfl ?_
                refine g_if_eq C (pc := 128) 136 dX12_windOfThree_128 (by decide) (fun c128 => ?_) (fun c128 => ?_)
                · refine g_iload C (pc := 136) dX12_windOfThree_136 4 rfl ?_
                  refine g_istore C (pc := 138) dX12_windOfThree_138 (by decide) (fun v138 => [(6, .int v138), (11, .int v124), (9, .long v104), (8, .int (nI j)), (4, .long wz4), (3, .int v24), (7, .int v51), (0, .ref 97), (1, .int x), (2, .int z)]) (fun _ => rfl) (fun v138 ev138 => ?_)
                  refine g_iload C (pc := 140) dX12_windOfThree_140 1 rfl ?_
                  refine g_if_eq C (pc := 142) 150 dX12_windOfThree_142 (by decide) (fun c142 => ?_) (fun c142 => ?_)
                  · refine g_lload C (pc := 150) dX12_windOfThree_150 4 rfl ?_
                    refine g_lstore C (pc := 152) dX12_windOfThree_152 (by decide) (fun v152 => [(4, .long v152), (6, .int v138), (11, .int v124), (9, .long v104), (8, .int (nI j)), (3, .int v24), (7, .int v51), (0, .ref 97), (1, .int x), (2, .int z)]) (fun _ => rfl) (fun v152 ev152 => ?_)
                    refine g_iinc C (pc := 154) (1) dX12_windOfThree_154 4 rfl (by decide) (by decide) (fun v154 => [(8, .int v154), (4, .long v152), (6, .int v138), (11, .int v124), (9, .long v104), (3, .int v24), (7, .int v51), (0, .ref 97), (1, .int x), (2, .int z)]) (fun _ => rfl) (fun v154 ev154 => ?_)
                    refine g_goto C (pc := 157) 56 dX12_windOfThree_157 (by decide) ?_
                    refine g_lv C [0, 1, 2, 5, 6, 7, 8, 9] rfl (ih56 (j + 1) _ _ _ _ ?_ ?_ ?_ ?_ ?_ ?_ ?_ (by omega))
                    · subst ev154; exact nI_1 _
                    · omega
                    · rw [ev152]; first | exact (ev104.trans hvf).trans (hup.1 c128).1 | exact (hup.2 c128).1
                    · rw [ev138]; first | exact (hup.1 c128).2 | exact (hup.2 c128).2
                    · exact hsv2.lw hlI hn6
                    · exact hfm2.lw hlI hn6
                    · exact hlw2.trans (hlI.up (by decide))
                  · exact absurd c128 c142
                · refine g_iload C (pc := 131) dX12_windOfThree_131 2 rfl ?_
                  refine g_goto C (pc := 133) 138 dX12_windOfThree_133 (by decide) ?_
                  refine g_istore C (pc := 138) dX12_windOfThree_138 (by decide) (fun v138 => [(6, .int v138), (11, .int v124), (9, .long v104), (8, .int (nI j)), (4, .long wz4), (3, .int v24), (7, .int v51), (0, .ref 97), (1, .int x), (2, .int z)]) (fun _ => rfl) (fun v138 ev138 => ?_)
                  refine g_iload C (pc := 140) dX12_windOfThree_140 1 rfl ?_
                  refine g_if_eq C (pc := 142) 150 dX12_windOfThree_142 (by decide) (fun c142 => ?_) (fun c142 => ?_)
                  · exact absurd c142 c128
                  · refine g_lload C (pc := 145) dX12_windOfThree_145 2 rfl ?_
                    refine g_goto C (pc := 147) 152 dX12_windOfThree_147 (by decide) ?_
                    refine g_lstore C (pc := 152) dX12_windOfThree_152 (by decide) (fun v152 => [(4, .long v152), (6, .int v138), (11, .int v124), (9, .long v104), (8, .int (nI j)), (3, .int v24), (7, .int v51), (0, .ref 97), (1, .int x), (2, .int z)]) (fun _ => rfl) (fun v152 ev152 => ?_)
                    refine g_iinc C (pc := 154) (1) dX12_windOfThree_154 4 rfl (by decide) (by decide) (fun v154 => [(8, .int v154), (4, .long v152), (6, .int v138), (11, .int v124), (9, .long v104), (3, .int v24), (7, .int v51), (0, .ref 97), (1, .int x), (2, .int z)]) (fun _ => rfl) (fun v154 ev154 => ?_)
                    refine g_goto C (pc := 157) 56 dX12_windOfThree_157 (by decide) ?_
                    refine g_lv C [0, 1, 2, 5, 6, 7, 8, 9] rfl (ih56 (j + 1) _ _ _ _ ?_ ?_ ?_ ?_ ?_ ?_ ?_ (by omega))
                    · subst ev154; exact nI_1 _
                    · omega
                    · rw [ev152]; first | exact (ev104.trans hvf).trans (hup.1 c128).1 | exact (hup.2 c128).1
                    · rw [ev138]; first | exact (hup.1 c128).2 | exact (hup.2 c128).2
                    · exact hsv2.lw hlI hn6
                    · exact hfm2.lw hlI hn6
                    · exact hlw2.trans (hlI.up (by decide))
              · refine g_iconst C (pc := 111) 1 dX12_windOfThree_111 (by decide) ?_
                refine g_goto C (pc := 112) 116 dX12_windOfThree_112 (by decide) ?_
                refine g_iload_n C (pc := 116) dX12_windOfThree_116 4 rfl ?_
                refine g_lload C (pc := 117) dX12_windOfThree_117 0 rfl ?_
                refine g_lload C (pc := 119) dX12_windOfThree_119 2 rfl ?_
                refine g_callSI C (pc := 121) mf_X12_isBetter lk_RX12_264 (c_X12_isBetter n ρ _ _ _ _ _ hn9) (by decide) (Nat.le_refl _) rfl (Nat.le_of_ble_eq_true rfl) dX12_windOfThree_121 (fun v121 I121 h121 => ?_)
                obtain ⟨e121, rfl⟩ := h121
                refine g_istore C (pc := 124) dX12_windOfThree_124 (by decide) (fun v124 => [(11, .int v124), (9, .long v104), (8, .int (nI j)), (4, .long wz4), (6, .int wz6), (3, .int v24), (7, .int v51), (0, .ref 97), (1, .int x), (2, .int z)]) (fun _ => rfl) (fun v124 ev124 => ?_)
                have hup := bst_upd (wants := (bM b == sd)) (f := (valF F sd 2 b w)) (j := j) (z4 := wz4) (z6 := wz6) (fl := bI (j = 0)) (own := v24) (u := v124) (fun i _ => (by show val F sd 2 (playB F b w ((mvs F b w)[i]?)) < 2 ^ 31; have h9 := val_le (F := F) (sd := sd) 2 (playB F b w ((mvs F b w)[i]?)); have h8 := pw3 (a := allO F) (k := 2) hAO (by decide); omega)) h4 h6 rfl h24 (by
                  rw [ev124, e121, ev104, hvf]
                  first
                  | (rw [bI_t (c := j = 0) ((nI_eq (b := 0) (by omega) (by decide)).mp c108)]; done)
                  | (rw [bI_f (c := j = 0) (fun h => c108 (by rw [h]; rfl))]; done))
                refine g_iload C (pc := 126) dX12_windOfThree_126 0 rfl ?_
                refine g_if_eq C (pc := 128) 136 dX12_windOfThree_128 (by decide) (fun c128 => ?_) (fun c128 => ?_)
                · refine g_iload C (pc := 136) dX12_windOfThree_136 4 rfl ?_
                  refine g_istore C (pc := 138) dX12_windOfThree_138 (by decide) (fun v138 => [(6, .int v138), (11, .int v124), (9, .long v104), (8, .int (nI j)), (4, .long wz4), (3, .int v24), (7, .int v51), (0, .ref 97), (1, .int x), (2, .int z)]) (fun _ => rfl) (fun v138 ev138 => ?_)
                  refine g_iload C (pc := 140) dX12_windOfThree_140 1 rfl ?_
                  refine g_if_eq C (pc := 142) 150 dX12_windOfThree_142 (by decide) (fun c142 => ?_) (fun c142 => ?_)
                  · refine g_lload C (pc := 150) dX12_windOfThree_150 4 rfl ?_
                    refine g_lstore C (pc := 152) dX12_windOfThree_152 (by decide) (fun v152 => [(4, .long v152), (6, .int v138), (11, .int v124), (9, .long v104), (8, .int (nI j)), (3, .int v24), (7, .int v51), (0, .ref 97), (1, .int x), (2, .int z)]) (fun _ => rfl) (fun v152 ev152 => ?_)
                    refine g_iinc C (pc := 154) (1) dX12_windOfThree_154 4 rfl (by decide) (by decide) (fun v154 => [(8, .int v154), (4, .long v152), (6, .int v138), (11, .int v124), (9, .long v104), (3, .int v24), (7, .int v51), (0, .ref 97), (1, .int x), (2, .int z)]) (fun _ => rfl) (fun v154 ev154 => ?_)
                    refine g_goto C (pc := 157) 56 dX12_windOfThree_157 (by decide) ?_
                    refine g_lv C [0, 1, 2, 5, 6, 7, 8, 9] rfl (ih56 (j + 1) _ _ _ _ ?_ ?_ ?_ ?_ ?_ ?_ ?_ (by omega))
                    · subst ev154; exact nI_1 _
                    · omega
                    · rw [ev152]; first | exact (ev104.trans hvf).trans (hup.1 c128).1 | exact (hup.2 c128).1
                    · rw [ev138]; first | exact (hup.1 c128).2 | exact (hup.2 c128).2
                    · exact hsv2.lw hlI hn6
                    · exact hfm2.lw hlI hn6
                    · exact hlw2.trans (hlI.up (by decide))
                  · exact absurd c128 c142
                · refine g_iload C (pc := 131) dX12_windOfThree_131 2 rfl ?_
                  refine g_goto C (pc := 133) 138 dX12_windOfThree_133 (by decide) ?_
                  refine g_istore C (pc := 138) dX12_windOfThree_138 (by decide) (fun v138 => [(6, .int v138), (11, .int v124), (9, .long v104), (8, .int (nI j)), (4, .long wz4), (3, .int v24), (7, .int v51), (0, .ref 97), (1, .int x), (2, .int z)]) (fun _ => rfl) (fun v138 ev138 => ?_)
                  refine g_iload C (pc := 140) dX12_windOfThree_140 1 rfl ?_
                  refine g_if_eq C (pc := 142) 150 dX12_windOfThree_142 (by decide) (fun c142 => ?_) (fun c142 => ?_)
                  · exact absurd c142 c128
                  · refine g_lload C (pc := 145) dX12_windOfThree_145 2 rfl ?_
                    refine g_goto C (pc := 147) 152 dX12_windOfThree_147 (by decide) ?_
                    refine g_lstore C (pc := 152) dX12_windOfThree_152 (by decide) (fun v152 => [(4, .long v152), (6, .int v138), (11, .int v124), (9, .long v104), (8, .int (nI j)), (3, .int v24), (7, .int v51), (0, .ref 97), (1, .int x), (2, .int z)]) (fun _ => rfl) (fun v152 ev152 => ?_)
                    refine g_iinc C (pc := 154) (1) dX12_windOfThree_154 4 rfl (by decide) (by decide) (fun v154 => [(8, .int v154), (4, .long v152), (6, .int v138), (11, .int v124), (9, .long v104), (3, .int v24), (7, .int v51), (0, .ref 97), (1, .int x), (2, .int z)]) (fun _ => rfl) (fun v154 ev154 => ?_)
                    refine g_goto C (pc := 157) 56 dX12_windOfThree_157 (by decide) ?_
                    refine g_lv C [0, 1, 2, 5, 6, 7, 8, 9] rfl (ih56 (j + 1) _ _ _ _ ?_ ?_ ?_ ?_ ?_ ?_ ?_ (by omega))
                    · subst ev154; exact nI_1 _
                    · omega
                    · rw [ev152]; first | exact (ev104.trans hvf).trans (hup.1 c128).1 | exact (hup.2 c128).1
                    · rw [ev138]; first | exact (hup.1 c128).2 | exact (hup.2 c128).2
                    · exact hsv2.lw hlI hn6
                    · exact hfm2.lw hlI hn6
                    · exact hlw2.trans (hlI.up (by decide))
            · have hjl : (mvs F b w).length = 0 := by
                have h9 : I65 109 2 = 0 := c76
                rw [hfm2.1] at h9
                exact (nI_eq (b := 0) (by omega) (by decide)).mp h9
              have hmx9 : (-4 : Int32) = oI ((mvs F b w)[j]?) := by rw [List.getElem?_eq_none (by omega)]; rfl
              refine g_bipush C (pc := 79) (-4) dX12_windOfThree_79 (by decide) ?_
              refine g_goto C (pc := 81) 95 dX12_windOfThree_81 (by decide) ?_
              refine g_callVI C (pc := 95) mf_X12_goes lk_RX12_251 (c_X12_goesE n ρ I65 F b w ((mvs F b w)[j]?) _ z hn9 hms (hqf.kp hlw2.1) hrw f65 hbw hw (mvs_K hrw) (hmx9) hz) (by decide) (Nat.le_refl _) rfl (by first | assumption | rfl | omega) rfl (by first | assumption | rfl | omega) (Nat.le_of_ble_eq_true rfl) dX12_windOfThree_95 (fun v95 I95 h95 => ?_)
              obtain ⟨e95, f95, a95, g95⟩ := h95
              have hl3 : Lw 0 I65 I95 := Lw.qb a95 g95
              replace hlw2 := hlw2
              have hbw2 : BW F (playB F b w ((mvs F b w)[j]?)) := (mvs_K hrw).bw hrw hbw
              have hl12 : L1 F (playB F b w ((mvs F b w)[j]?)) := L1_play hl1
              have hpw2 : PW F (playB F b w ((mvs F b w)[j]?)) := PW_play (mvs_K hrw) hrw hpw
              refine g_pop C (pc := 98) dX12_windOfThree_98 rfl ?_
              refine g_aload_n C (pc := 99) dX12_windOfThree_99 5 rfl ?_
              refine g_iload_n C (pc := 100) dX12_windOfThree_100 6 rfl ?_
              refine g_callVL C (pc := 101) mf_X12_two lk_RX12_281 (c_X12_two n ρ I95 F (playB F b w ((mvs F b w)[j]?)) sd x hn9 hms (hqf.kp (hlw2.trans (hl3.up (by decide))).1) hrw (hqe.kp (hlw2.trans (hl3.up (by decide))).1) f95 hbw2 hl12 hpw2 hsd hx) (by decide) (Nat.le_refl _) rfl (by first | assumption | rfl | omega) rfl (by first | assumption | rfl | omega) (Nat.le_of_ble_eq_true rfl) dX12_windOfThree_101 (fun v101 I101 h101 => ?_)
              obtain ⟨e101, k101⟩ := h101
              have hlI : Lw 2 I65 I101 := (hl3.up (by decide)).trans k101
              have hvf : v101 = lN ((valF F sd 2 b w) j) := e101
              refine g_lstore C (pc := 104) dX12_windOfThree_104 (by decide) (fun v104 => [(9, .long v104), (8, .int (nI j)), (4, .long wz4), (6, .int wz6), (3, .int v24), (7, .int v51), (0, .ref 97), (1, .int x), (2, .int z)]) (fun _ => rfl) (fun v104 ev104 => ?_)
              refine g_iload C (pc := 106) dX12_windOfThree_106 1 rfl ?_
              refine g_if_ne C (pc := 108) 115 dX12_windOfThree_108 (by decide) (fun c108 => ?_) (fun c108 => ?_)
              · refine g_iconst C (pc := 115) 0 dX12_windOfThree_115 (by decide) ?_
                refine g_iload_n C (pc := 116) dX12_windOfThree_116 4 rfl ?_
                refine g_lload C (pc := 117) dX12_windOfThree_117 0 rfl ?_
                refine g_lload C (pc := 119) dX12_windOfThree_119 2 rfl ?_
                refine g_callSI C (pc := 121) mf_X12_isBetter lk_RX12_264 (c_X12_isBetter n ρ _ _ _ _ _ hn9) (by decide) (Nat.le_refl _) rfl (Nat.le_of_ble_eq_true rfl) dX12_windOfThree_121 (fun v121 I121 h121 => ?_)
                obtain ⟨e121, rfl⟩ := h121
                refine g_istore C (pc := 124) dX12_windOfThree_124 (by decide) (fun v124 => [(11, .int v124), (9, .long v104), (8, .int (nI j)), (4, .long wz4), (6, .int wz6), (3, .int v24), (7, .int v51), (0, .ref 97), (1, .int x), (2, .int z)]) (fun _ => rfl) (fun v124 ev124 => ?_)
                have hup := bst_upd (wants := (bM b == sd)) (f := (valF F sd 2 b w)) (j := j) (z4 := wz4) (z6 := wz6) (fl := bI (j = 0)) (own := v24) (u := v124) (fun i _ => (by show val F sd 2 (playB F b w ((mvs F b w)[i]?)) < 2 ^ 31; have h9 := val_le (F := F) (sd := sd) 2 (playB F b w ((mvs F b w)[i]?)); have h8 := pw3 (a := allO F) (k := 2) hAO (by decide); omega)) h4 h6 rfl h24 (by
                  rw [ev124, e121, ev104, hvf]
                  first
                  | (rw [bI_t (c := j = 0) ((nI_eq (b := 0) (by omega) (by decide)).mp c108)]; done)
                  | (rw [bI_f (c := j = 0) (fun h => c108 (by rw [h]; rfl))]; done))
                refine g_iload C (pc := 126) dX12_windOfThree_126 0 rfl ?_
                refine g_if_eq C (pc := 128) 136 dX12_windOfThree_128 (by decide) (fun c128 => ?_) (fun c128 => ?_)
                · refine g_iload C (pc := 136) dX12_windOfThree_136 4 rfl ?_
                  refine g_istore C (pc := 138) dX12_windOfThree_138 (by decide) (fun v138 => [(6, .int v138), (11, .int v124), (9, .long v104), (8, .int (nI j)), (4, .long wz4), (3, .int v24), (7, .int v51), (0, .ref 97), (1, .int x), (2, .int z)]) (fun _ => rfl) (fun v138 ev138 => ?_)
                  refine g_iload C (pc := 140) dX12_windOfThree_140 1 rfl ?_
                  refine g_if_eq C (pc := 142) 150 dX12_windOfThree_142 (by decide) (fun c142 => ?_) (fun c142 => ?_)
                  · refine g_lload C (pc := 150) dX12_windOfThree_150 4 rfl ?_
                    refine g_lstore C (pc := 152) dX12_windOfThree_152 (by decide) (fun v152 => [(4, .long v152), (6, .int v138), (11, .int v124), (9, .long v104), (8, .int (nI j)), (3, .int v24), (7, .int v51), (0, .ref 97), (1, .int x), (2, .int z)]) (fun _ => rfl) (fun v152 ev152 => ?_)
                    refine g_iinc C (pc := 154) (1) dX12_windOfThree_154 4 rfl (by decide) (by decide) (fun v154 => [(8, .int v154), (4, .long v152), (6, .int v138), (11, .int v124), (9, .long v104), (3, .int v24), (7, .int v51), (0, .ref 97), (1, .int x), (2, .int z)]) (fun _ => rfl) (fun v154 ev154 => ?_)
                    refine g_goto C (pc := 157) 56 dX12_windOfThree_157 (by decide) ?_
                    refine g_lv C [0, 1, 2, 5, 6, 7, 8, 9] rfl (ih56 (j + 1) _ _ _ _ ?_ ?_ ?_ ?_ ?_ ?_ ?_ (by omega))
                    · subst ev154; exact nI_1 _
                    · omega
                    · rw [ev152]; first | exact (ev104.trans hvf).trans (hup.1 c128).1 | exact (hup.2 c128).1
                    · rw [ev138]; first | exact (hup.1 c128).2 | exact (hup.2 c128).2
                    · exact hsv2.lw hlI hn6
                    · exact hfm2.lw hlI hn6
                    · exact hlw2.trans (hlI.up (by decide))
                  · exact absurd c128 c142
                · refine g_iload C (pc := 131) dX12_windOfThree_131 2 rfl ?_
                  refine g_goto C (pc := 133) 138 dX12_windOfThree_133 (by decide) ?_
                  refine g_istore C (pc := 138) dX12_windOfThree_138 (by decide) (fun v138 => [(6, .int v138), (11, .int v124), (9, .long v104), (8, .int (nI j)), (4, .long wz4), (3, .int v24), (7, .int v51), (0, .ref 97), (1, .int x), (2, .int z)]) (fun _ => rfl) (fun v138 ev138 => ?_)
                  refine g_iload C (pc := 140) dX12_windOfThree_140 1 rfl ?_
                  refine g_if_eq C (pc := 142) 150 dX12_windOfThree_142 (by decide) (fun c142 => ?_) (fun c142 => ?_)
                  · exact absurd c142 c128
                  · refine g_lload C (pc := 145) dX12_windOfThree_145 2 rfl ?_
                    refine g_goto C (pc := 147) 152 dX12_windOfThree_147 (by decide) ?_
                    refine g_lstore C (pc := 152) dX12_windOfThree_152 (by decide) (fun v152 => [(4, .long v152), (6, .int v138), (11, .int v124), (9, .long v104), (8, .int (nI j)), (3, .int v24), (7, .int v51), (0, .ref 97), (1, .int x), (2, .int z)]) (fun _ => rfl) (fun v152 ev152 => ?_)
                    refine g_iinc C (pc := 154) (1) dX12_windOfThree_154 4 rfl (by decide) (by decide) (fun v154 => [(8, .int v154), (4, .long v152), (6, .int v138), (11, .int v124), (9, .long v104), (3, .int v24), (7, .int v51), (0, .ref 97), (1, .int x), (2, .int z)]) (fun _ => rfl) (fun v154 ev154 => ?_)
                    refine g_goto C (pc := 157) 56 dX12_windOfThree_157 (by decide) ?_
                    refine g_lv C [0, 1, 2, 5, 6, 7, 8, 9] rfl (ih56 (j + 1) _ _ _ _ ?_ ?_ ?_ ?_ ?_ ?_ ?_ (by omega))
                    · subst ev154; exact nI_1 _
                    · omega
                    · rw [ev152]; first | exact (ev104.trans hvf).trans (hup.1 c128).1 | exact (hup.2 c128).1
                    · rw [ev138]; first | exact (hup.1 c128).2 | exact (hup.2 c128).2
                    · exact hsv2.lw hlI hn6
                    · exact hfm2.lw hlI hn6
                    · exact hlw2.trans (hlI.up (by decide))
              · refine g_iconst C (pc := 111) 1 dX12_windOfThree_111 (by decide) ?_
                refine g_goto C (pc := 112) 116 dX12_windOfThree_112 (by decide) ?_
                refine g_iload_n C (pc := 116) dX12_windOfThree_116 4 rfl ?_
                refine g_lload C (pc := 117) dX12_windOfThree_117 0 rfl ?_
                refine g_lload C (pc := 119) dX12_windOfThree_119 2 rfl ?_
                refine g_callSI C (pc := 121) mf_X12_isBetter lk_RX12_264 (c_X12_isBetter n ρ _ _ _ _ _ hn9) (by decide) (Nat.le_refl _) rfl (Nat.le_of_ble_eq_true rfl) dX12_windOfThree_121 (fun v121 I121 h121 => ?_)
                obtain ⟨e121, rfl⟩ := h121
                refine g_istore C (pc := 124) dX12_windOfThree_124 (by decide) (fun v124 => [(11, .int v124), (9, .long v104), (8, .int (nI j)), (4, .long wz4), (6, .int wz6), (3, .int v24), (7, .int v51), (0, .ref 97), (1, .int x), (2, .int z)]) (fun _ => rfl) (fun v124 ev124 => ?_)
                have hup := bst_upd (wants := (bM b == sd)) (f := (valF F sd 2 b w)) (j := j) (z4 := wz4) (z6 := wz6) (fl := bI (j = 0)) (own := v24) (u := v124) (fun i _ => (by show val F sd 2 (playB F b w ((mvs F b w)[i]?)) < 2 ^ 31; have h9 := val_le (F := F) (sd := sd) 2 (playB F b w ((mvs F b w)[i]?)); have h8 := pw3 (a := allO F) (k := 2) hAO (by decide); omega)) h4 h6 rfl h24 (by
                  rw [ev124, e121, ev104, hvf]
                  first
                  | (rw [bI_t (c := j = 0) ((nI_eq (b := 0) (by omega) (by decide)).mp c108)]; done)
                  | (rw [bI_f (c := j = 0) (fun h => c108 (by rw [h]; rfl))]; done))
                refine g_iload C (pc := 126) dX12_windOfThree_126 0 rfl ?_
                refine g_if_eq C (pc := 128) 136 dX12_windOfThree_128 (by decide) (fun c128 => ?_) (fun c128 => ?_)
                · refine g_iload C (pc := 136) dX12_windOfThree_136 4 rfl ?_
                  refine g_istore C (pc := 138) dX12_windOfThree_138 (by decide) (fun v138 => [(6, .int v138), (11, .int v124), (9, .long v104), (8, .int (nI j)), (4, .long wz4), (3, .int v24), (7, .int v51), (0, .ref 97), (1, .int x), (2, .int z)]) (fun _ => rfl) (fun v138 ev138 => ?_)
                  refine g_iload C (pc := 140) dX12_windOfThree_140 1 rfl ?_
                  refine g_if_eq C (pc := 142) 150 dX12_windOfThree_142 (by decide) (fun c142 => ?_) (fun c142 => ?_)
                  · refine g_lload C (pc := 150) dX12_windOfThree_150 4 rfl ?_
                    refine g_lstore C (pc := 152) dX12_windOfThree_152 (by decide) (fun v152 => [(4, .long v152), (6, .int v138), (11, .int v124), (9, .long v104), (8, .int (nI j)), (3, .int v24), (7, .int v51), (0, .ref 97), (1, .int x), (2, .int z)]) (fun _ => rfl) (fun v152 ev152 => ?_)
                    refine g_iinc C (pc := 154) (1) dX12_windOfThree_154 4 rfl (by decide) (by decide) (fun v154 => [(8, .int v154), (4, .long v152), (6, .int v138), (11, .int v124), (9, .long v104), (3, .int v24), (7, .int v51), (0, .ref 97), (1, .int x), (2, .int z)]) (fun _ => rfl) (fun v154 ev154 => ?_)
                    refine g_goto C (pc := 157) 56 dX12_windOfThree_157 (by decide) ?_
                    refine g_lv C [0, 1, 2, 5, 6, 7, 8, 9] rfl (ih56 (j + 1) _ _ _ _ ?_ ?_ ?_ ?_ ?_ ?_ ?_ (by omega))
                    · subst ev154; exact nI_1 _
                    · omega
                    · rw [ev152]; first | exact (ev104.trans hvf).trans (hup.1 c128).1 | exact (hup.2 c128).1
                    · rw [ev138]; first | exact (hup.1 c128).2 | exact (hup.2 c128).2
                    · exact hsv2.lw hlI hn6
                    · exact hfm2.lw hlI hn6
                    · exact hlw2.trans (hlI.up (by decide))
                  · exact absurd c128 c142
                · refine g_iload C (pc := 131) dX12_windOfThree_131 2 rfl ?_
                  refine g_goto C (pc := 133) 138 dX12_windOfThree_133 (by decide) ?_
                  refine g_istore C (pc := 138) dX12_windOfThree_138 (by decide) (fun v138 => [(6, .int v138), (11, .int v124), (9, .long v104), (8, .int (nI j)), (4, .long wz4), (3, .int v24), (7, .int v51), (0, .ref 97), (1, .int x), (2, .int z)]) (fun _ => rfl) (fun v138 ev138 => ?_)
                  refine g_iload C (pc := 140) dX12_windOfThree_140 1 rfl ?_
                  refine g_if_eq C (pc := 142) 150 dX12_windOfThree_142 (by decide) (fun c142 => ?_) (fun c142 => ?_)
                  · exact absurd c142 c128
                  · refine g_lload C (pc := 145) dX12_windOfThree_145 2 rfl ?_
                    refine g_goto C (pc := 147) 152 dX12_windOfThree_147 (by decide) ?_
                    refine g_lstore C (pc := 152) dX12_windOfThree_152 (by decide) (fun v152 => [(4, .long v152), (6, .int v138), (11, .int v124), (9, .long v104), (8, .int (nI j)), (3, .int v24), (7, .int v51), (0, .ref 97), (1, .int x), (2, .int z)]) (fun _ => rfl) (fun v152 ev152 => ?_)
                    refine g_iinc C (pc := 154) (1) dX12_windOfThree_154 4 rfl (by decide) (by decide) (fun v154 => [(8, .int v154), (4, .long v152), (6, .int v138), (11, .int v124), (9, .long v104), (3, .int v24), (7, .int v51), (0, .ref 97), (1, .int x), (2, .int z)]) (fun _ => rfl) (fun v154 ev154 => ?_)
                    refine g_goto C (pc := 157) 56 dX12_windOfThree_157 (by decide) ?_
                    refine g_lv C [0, 1, 2, 5, 6, 7, 8, 9] rfl (ih56 (j + 1) _ _ _ _ ?_ ?_ ?_ ?_ ?_ ?_ ?_ (by omega))
                    · subst ev154; exact nI_1 _
                    · omega
                    · rw [ev152]; first | exact (ev104.trans hvf).trans (hup.1 c128).1 | exact (hup.2 c128).1
                    · rw [ev138]; first | exact (hup.1 c128).2 | exact (hup.2 c128).2
                    · exact hsv2.lw hlI hn6
                    · exact hfm2.lw hlI hn6
                    · exact hlw2.trans (hlI.up (by decide))
      refine g_lv C [0, 3, 2, 4, 1, 5, 6, 7] rfl (L56 (_ + 1) 0 _ _ _ _ ?_ ?_ ?_ ?_ ?_ ?_ ?_ (by first | omega | exact Nat.lt_succ_self _))
      · subst ev54; rfl
      · omega
      · subst ev26; rfl
      · subst ev30; rfl
      · exact f8
      · exact f3.cong (by rw [g8 109 (by decide)]) (fun z _ _ => by rw [g8 108 (by decide)]) hn6
      · exact (Lw.fm a3 b3 g3).trans (Lw.sv a8 g8)
  · refine g_iconst C (pc := 19) 1 dX12_windOfThree_19 (by decide) ?_
    refine g_goto C (pc := 20) 24 dX12_windOfThree_20 (by decide) ?_
    refine g_istore_n C (pc := 24) dX12_windOfThree_24 (by decide) (fun v24 => [(3, .int v24), (0, .ref 97), (1, .int x), (2, .int z)]) (fun _ => rfl) (fun v24 ev24 => ?_)
    refine g_lconst C (pc := 25) 0 dX12_windOfThree_25 (by decide) ?_
    have h24 : v24 = bI ((bM b == sd) = true) := by
      have hM2 := hbw.1
      first
      | (rw [bI_t (by have h9 : I8 97 25 = x := c16; rw [g8 97 (by decide), g3 97 (by decide) (by decide), hqb.2, hx] at h9; rw [(nI_eq (by omega) (by omega)).mp h9]; exact beq_self_eq_true _)]; exact ev24)
      | (rw [bI_f (fun h8 => c16 (by show I8 97 25 = x; rw [g8 97 (by decide), g3 97 (by decide) (by decide), hqb.2, hx, eq_of_beq h8]))]; exact ev24)
    refine g_lstore C (pc := 26) dX12_windOfThree_26 (by decide) (fun v26 => [(4, .long v26), (3, .int v24), (0, .ref 97), (1, .int x), (2, .int z)]) (fun _ => rfl) (fun v26 ev26 => ?_)
    refine g_bipush C (pc := 28) (-4) dX12_windOfThree_28 (by decide) ?_
    refine g_istore C (pc := 30) dX12_windOfThree_30 (by decide) (fun v30 => [(6, .int v30), (4, .long v26), (3, .int v24), (0, .ref 97), (1, .int x), (2, .int z)]) (fun _ => rfl) (fun v30 ev30 => ?_)
    refine g_aload_n C (pc := 32) dX12_windOfThree_32 3 rfl ?_
    refine g_getR C (pc := 33) fl_RX12_44 (by decide) (by first | assumption | rfl | omega) (by first | assumption | rfl | omega) (by first | assumption | rfl | omega) dX12_windOfThree_33 ?_
    refine g_iconst C (pc := 36) 2 dX12_windOfThree_36 (by decide) ?_
    refine g_iald C (pc := 37) (by first | assumption | rfl | omega) (by first | assumption | rfl | omega) (vp_in_nI (n := 2) (by decide) (by decide)) dX12_windOfThree_37 ?_
    refine g_if_ne C (pc := 38) 45 dX12_windOfThree_38 (by decide) (fun c38 => ?_) (fun c38 => ?_)
    · refine g_aload_n C (pc := 45) dX12_windOfThree_45 3 rfl ?_
      refine g_getR C (pc := 46) fl_RX12_44 (by decide) (by first | assumption | rfl | omega) (by first | assumption | rfl | omega) (by first | assumption | rfl | omega) dX12_windOfThree_46 ?_
      refine g_iconst C (pc := 49) 2 dX12_windOfThree_49 (by decide) ?_
      refine g_iald C (pc := 50) (by first | assumption | rfl | omega) (by first | assumption | rfl | omega) (vp_in_nI (n := 2) (by decide) (by decide)) dX12_windOfThree_50 ?_
      refine g_istore C (pc := 51) dX12_windOfThree_51 (by decide) (fun v51 => [(7, .int v51), (6, .int v30), (4, .long v26), (3, .int v24), (0, .ref 97), (1, .int x), (2, .int z)]) (fun _ => rfl) (fun v51 ev51 => ?_)
      have h51 : v51 = nI (cntM F b w) := by
        rw [ev51]
        have h9 : I8 109 2 = nI (mvs F b w).length := by rw [g8 109 (by decide)]; exact f3.1
        unfold cntM
        first
        | (rw [if_pos ((nI_eq (b := 0) (by omega) (by decide)).mp (h9.symm.trans c38))]; rfl)
        | (rw [if_neg (fun h8 => c38 (h9.trans (by rw [h8]; rfl)))]; exact h9)
      refine g_iconst C (pc := 53) 0 dX12_windOfThree_53 (by decide) ?_
      refine g_istore C (pc := 54) dX12_windOfThree_54 (by decide) (fun v54 => [(8, .int v54), (7, .int v51), (6, .int v30), (4, .long v26), (3, .int v24), (0, .ref 97), (1, .int x), (2, .int z)]) (fun _ => rfl) (fun v54 ev54 => ?_)
      have L56 : ∀ (k9 : Nat) (j : Nat) (wz8 : Int32) (wz4 : Int64) (wz6 : Int32) (J : Mem) (hw8 : wz8 = nI j) (hj : j ≤ cntM F b w) (h4 : wz4 = lN (((bstK (bM b == sd) (valF F sd 2 b w) j).map (fun q => q.1)).getD 0)) (h6 : wz6 = oI ((bstK (bM b == sd) (valF F sd 2 b w) j).map (fun q => q.2))) (hsv : SvB J F 2 b) (hfm : FMv J F b w 2) (hlw : Lw 3 I J), cntM F b w - j < k9 → G κ n ρ 56 [(8, .int wz8), (4, .long wz4), (6, .int wz6), (3, .int v24), (7, .int v51), (0, .ref 97), (1, .int x), (2, .int z)] [] J := by
        intro k9
        induction k9 with
        | zero => intro j wz8 wz4 wz6 J hw8 hj h4 h6 hsv hfm hlw hm56; exact absurd hm56 (Nat.not_lt_zero _)
        | succ k9 ih56 =>
          intro j wz8 wz4 wz6 J hw8 hj h4 h6 hsv hfm hlw hm56
          subst hw8
          have hcl := cntM_le (F := F) (b := b) (w := w) hn6
          have hml := mvs_len (F := F) (b := b) (w := w) hn6
          have hkJ := hlw.1
          refine g_iload C (pc := 56) dX12_windOfThree_56 0 rfl ?_
          refine g_iload C (pc := 58) dX12_windOfThree_58 4 rfl ?_
          refine g_icmp_ge C (pc := 60) 160 dX12_windOfThree_60 (by decide) (fun c60 => ?_) (fun c60 => ?_)
          · rw [h51, nI_leI (by omega) (by omega)] at c60
            refine g_aload_n C (pc := 160) dX12_windOfThree_160 5 rfl ?_
            refine g_iconst C (pc := 161) 2 dX12_windOfThree_161 (by decide) ?_
            refine g_callVV C (pc := 162) mf_X12_returns lk_RX12_257 (c_X12_returnsD n ρ J F b 2 _ hn9 hms (hqf.kp hkJ) hrw hsv (by decide) rfl) (by decide) (Nat.le_refl _) rfl (by first | assumption | rfl | omega) rfl (by first | assumption | rfl | omega) (Nat.le_of_ble_eq_true rfl) dX12_windOfThree_162 (fun I162 h162 => ?_)
            obtain ⟨f162, a162, g162⟩ := h162
            refine g_aload_n C (pc := 165) dX12_windOfThree_165 5 rfl ?_
            refine g_aload_n C (pc := 166) dX12_windOfThree_166 5 rfl ?_
            refine g_getR C (pc := 167) fl_RX12_44 (by decide) (by first | assumption | rfl | omega) (by first | assumption | rfl | omega) (by first | assumption | rfl | omega) dX12_windOfThree_167 ?_
            refine g_iconst C (pc := 170) 2 dX12_windOfThree_170 (by decide) ?_
            refine g_iald C (pc := 171) (by first | assumption | rfl | omega) (by first | assumption | rfl | omega) (vp_in_nI (n := 2) (by decide) (by decide)) dX12_windOfThree_171 ?_
            refine g_if_ne C (pc := 172) 180 dX12_windOfThree_172 (by decide) (fun c172 => ?_) (fun c172 => ?_)
            · refine g_iload C (pc := 180) dX12_windOfThree_180 2 rfl ?_
              refine g_putI C (pc := 182) fl_RX12_268 (by decide) fp_11_29 (Or.inl rfl) ⟨rfl, rfl⟩ (by first | assumption | rfl | omega) (by first | assumption | rfl | omega) hn9 dX12_windOfThree_182 ?_
              refine g_lload C (pc := 185) dX12_windOfThree_185 1 rfl ?_
              refine g_lret C hR (pc := 187) rfl dX12_windOfThree_187 ?_
              refine ⟨rfl, _, rfl, ?_⟩
              have hjc : j = cntM F b w := by omega
              subst hjc
              have hl5 : Lw 3 I I162 := hlw.trans ((Lw.qb a162 g162).up (by decide))
              refine ⟨h4, ?_, f162.cong (fun _ _ => by rw [wr_n (by decide)]) (fun _ _ => by rw [wr_n (by decide)]) (by rw [wr_sn (by decide)]) hn6, hl5.trans ((Lw.sc (by decide) (by decide)).up (Nat.zero_le _))⟩
              rw [wr_ss]
              have h9 : I162 109 2 = nI (mvs F b w).length := by rw [g162 109 (by decide) (by decide) (by decide)]; exact hfm.1
              unfold chW
              first
              | (rw [if_pos ((nI_eq (b := 0) (by omega) (by decide)).mp (h9.symm.trans c172))]; rfl)
              | (rw [if_neg (fun h8 => c172 (h9.trans (by rw [h8]; rfl)))]; exact h6)
            · refine g_bipush C (pc := 175) (-4) dX12_windOfThree_175 (by decide) ?_
              refine g_goto C (pc := 177) 182 dX12_windOfThree_177 (by decide) ?_
              refine g_putI C (pc := 182) fl_RX12_268 (by decide) fp_11_29 (Or.inl rfl) ⟨rfl, rfl⟩ (by first | assumption | rfl | omega) (by first | assumption | rfl | omega) hn9 dX12_windOfThree_182 ?_
              refine g_lload C (pc := 185) dX12_windOfThree_185 1 rfl ?_
              refine g_lret C hR (pc := 187) rfl dX12_windOfThree_187 ?_
              refine ⟨rfl, _, rfl, ?_⟩
              have hjc : j = cntM F b w := by omega
              subst hjc
              have hl5 : Lw 3 I I162 := hlw.trans ((Lw.qb a162 g162).up (by decide))
              refine ⟨h4, ?_, f162.cong (fun _ _ => by rw [wr_n (by decide)]) (fun _ _ => by rw [wr_n (by decide)]) (by rw [wr_sn (by decide)]) hn6, hl5.trans ((Lw.sc (by decide) (by decide)).up (Nat.zero_le _))⟩
              rw [wr_ss]
              have h9 : I162 109 2 = nI (mvs F b w).length := by rw [g162 109 (by decide) (by decide) (by decide)]; exact hfm.1
              unfold chW
              first
              | (rw [if_pos ((nI_eq (b := 0) (by omega) (by decide)).mp (h9.symm.trans c172))]; rfl)
              | (rw [if_neg (fun h8 => c172 (h9.trans (by rw [h8]; rfl)))]; exact h6)
          · rw [h51, nI_ltI (by omega) (by omega)] at c60
            refine g_aload_n C (pc := 63) dX12_windOfThree_63 5 rfl ?_
            refine g_iconst C (pc := 64) 2 dX12_windOfThree_64 (by decide) ?_
            refine g_callVV C (pc := 65) mf_X12_returns lk_RX12_257 (c_X12_returnsD n ρ J F b 2 _ hn9 hms (hqf.kp hkJ) hrw hsv (by decide) rfl) (by decide) (Nat.le_refl _) rfl (by first | assumption | rfl | omega) rfl (by first | assumption | rfl | omega) (Nat.le_of_ble_eq_true rfl) dX12_windOfThree_65 (fun I65 h65 => ?_)
            obtain ⟨f65, a65, g65⟩ := h65
            have hl2 : Lw 0 J I65 := Lw.qb a65 g65
            have hlw2 : Lw 3 I I65 := hlw.trans (hl2.up (by decide))
            have hsv2 : SvB I65 F 2 b := hsv.lw (hl2.up (by decide)) hn6
            have hfm2 : FMv I65 F b w 2 := hfm.lw (hl2.up (by decide)) hn6
            refine g_aload_n C (pc := 68) dX12_windOfThree_68 5 rfl ?_
            refine g_iload_n C (pc := 69) dX12_windOfThree_69 7 rfl ?_
            refine g_aload_n C (pc := 70) dX12_windOfThree_70 5 rfl ?_
            refine g_getR C (pc := 71) fl_RX12_44 (by decide) (by first | assumption | rfl | omega) (by first | assumption | rfl | omega) (by first | assumption | rfl | omega) dX12_windOfThree_71 ?_
            refine g_iconst C (pc := 74) 2 dX12_windOfThree_74 (by decide) ?_
            refine g_iald C (pc := 75) (by first | assumption | rfl | omega) (by first | assumption | rfl | omega) (vp_in_nI (n := 2) (by decide) (by decide)) dX12_windOfThree_75 ?_
            refine g_if_ne C (pc := 76) 84 dX12_windOfThree_76 (by decide) (fun c76 => ?_) (fun c76 => ?_)
            · have hjl : j < (mvs F b w).length := by
                have h9 : ¬ I65 109 2 = 0 := c76
                rw [hfm2.1] at h9
                have h8 : (mvs F b w).length ≠ 0 := fun h => h9 (by rw [h]; rfl)
                unfold cntM at c60
                rw [if_neg h8] at c60; exact c60
              have hmx9 : I65 108 (128 + nI j).toNatClampNeg = oI ((mvs F b w)[j]?) := by
                have hk9 := List.getElem?_eq_getElem hjl
                have h9 := hfm2.2 j _ hk9
                rw [hk9, show (128 : Int32) = nI 128 from rfl, nI_add, nI_clamp (by omega)]; exact h9
              refine g_aload_n C (pc := 84) dX12_windOfThree_84 5 rfl ?_
              refine g_getR C (pc := 85) fl_RX12_41 (by decide) (by first | assumption | rfl | omega) (by first | assumption | rfl | omega) (by first | assumption | rfl | omega) dX12_windOfThree_85 ?_
              refine g_sipush C (pc := 88) 128 dX12_windOfThree_88 (by decide) ?_
              refine g_iload C (pc := 91) dX12_windOfThree_91 0 rfl ?_
              refine g_iadd C (pc := 93) dX12_windOfThree_93 ?_
              refine g_iald C (pc := 94) (by first | assumption | rfl | omega) (by first | assumption | rfl | omega) (by rw [show (128 : Int32) = nI 128 from rfl, nI_add]; exact vp_in_nI (by omega) (by decide)) dX12_windOfThree_94 ?_
              refine g_callVI C (pc := 95) mf_X12_goes lk_RX12_251 (c_X12_goesE n ρ I65 F b w ((mvs F b w)[j]?) _ z hn9 hms (hqf.kp hlw2.1) hrw f65 hbw hw (mvs_K hrw) (hmx9) hz) (by decide) (Nat.le_refl _) rfl (by first | assumption | rfl | omega) rfl (by first | assumption | rfl | omega) (Nat.le_of_ble_eq_true rfl) dX12_windOfThree_95 (fun v95 I95 h95 => ?_)
              obtain ⟨e95, f95, a95, g95⟩ := h95
              have hl3 : Lw 0 I65 I95 := Lw.qb a95 g95
              replace hlw2 := hlw2
              have hbw2 : BW F (playB F b w ((mvs F b w)[j]?)) := (mvs_K hrw).bw hrw hbw
              have hl12 : L1 F (playB F b w ((mvs F b w)[j]?)) := L1_play hl1
              have hpw2 : PW F (playB F b w ((mvs F b w)[j]?)) := PW_play (mvs_K hrw) hrw hpw
              refine g_pop C (pc := 98) dX12_windOfThree_98 rfl ?_
              refine g_aload_n C (pc := 99) dX12_windOfThree_99 5 rfl ?_
              refine g_iload_n C (pc := 100) dX12_windOfThree_100 6 rfl ?_
              refine g_callVL C (pc := 101) mf_X12_two lk_RX12_281 (c_X12_two n ρ I95 F (playB F b w ((mvs F b w)[j]?)) sd x hn9 hms (hqf.kp (hlw2.trans (hl3.up (by decide))).1) hrw (hqe.kp (hlw2.trans (hl3.up (by decide))).1) f95 hbw2 hl12 hpw2 hsd hx) (by decide) (Nat.le_refl _) rfl (by first | assumption | rfl | omega) rfl (by first | assumption | rfl | omega) (Nat.le_of_ble_eq_true rfl) dX12_windOfThree_101 (fun v101 I101 h101 => ?_)
              obtain ⟨e101, k101⟩ := h101
              have hlI : Lw 2 I65 I101 := (hl3.up (by decide)).trans k101
              have hvf : v101 = lN ((valF F sd 2 b w) j) := e101
              refine g_lstore C (pc := 104) dX12_windOfThree_104 (by decide) (fun v104 => [(9, .long v104), (8, .int (nI j)), (4, .long wz4), (6, .int wz6), (3, .int v24), (7, .int v51), (0, .ref 97), (1, .int x), (2, .int z)]) (fun _ => rfl) (fun v104 ev104 => ?_)
              refine g_iload C (pc := 106) dX12_windOfThree_106 1 rfl ?_
              refine g_if_ne C (pc := 108) 115 dX12_windOfThree_108 (by decide) (fun c108 => ?_) (fun c108 => ?_)
              · refine g_iconst C (pc := 115) 0 dX12_windOfThree_115 (by decide) ?_
                refine g_iload_n C (pc := 116) dX12_windOfThree_116 4 rfl ?_
                refine g_lload C (pc := 117) dX12_windOfThree_117 0 rfl ?_
                refine g_lload C (pc := 119) dX12_windOfThree_119 2 rfl ?_
                refine g_callSI C (pc := 121) mf_X12_isBetter lk_RX12_264 (c_X12_isBetter n ρ _ _ _ _ _ hn9) (by decide) (Nat.le_refl _) rfl (Nat.le_of_ble_eq_true rfl) dX12_windOfThree_121 (fun v121 I121 h121 => ?_)
                obtain ⟨e121, rfl⟩ := h121
                refine g_istore C (pc := 124) dX12_windOfThree_124 (by decide) (fun v124 => [(11, .int v124), (9, .long v104), (8, .int (nI j)), (4, .long wz4), (6, .int wz6), (3, .int v24), (7, .int v51), (0, .ref 97), (1, .int x), (2, .int z)]) (fun _ => rfl) (fun v124 ev124 => ?_)
                have hup := bst_upd (wants := (bM b == sd)) (f := (valF F sd 2 b w)) (j := j) (z4 := wz4) (z6 := wz6) (fl := bI (j = 0)) (own := v24) (u := v124) (fun i _ => (by show val F sd 2 (playB F b w ((mvs F b w)[i]?)) < 2 ^ 31; have h9 := val_le (F := F) (sd := sd) 2 (playB F b w ((mvs F b w)[i]?)); have h8 := pw3 (a := allO F) (k := 2) hAO (by decide); omega)) h4 h6 rfl h24 (by
                  rw [ev124, e121, ev104, hvf]
                  first
                  | (rw [bI_t (c := j = 0) ((nI_eq (b := 0) (by omega) (by decide)).mp c108)]; done)
                  | (rw [bI_f (c := j = 0) (fun h => c108 (by rw [h]; rfl))]; done))
                refine g_iload C (pc := 126) dX12_windOfThree_126 0 rfl ?_
                refine g_if_eq C (pc := 128) 136 dX12_windOfThree_128 (by decide) (fun c128 => ?_) (fun c128 => ?_)
                · refine g_iload C (pc := 136) dX12_windOfThree_136 4 rfl ?_
                  refine g_istore C (pc := 138) dX12_windOfThree_138 (by decide) (fun v138 => [(6, .int v138), (11, .int v124), (9, .long v104), (8, .int (nI j)), (4, .long wz4), (3, .int v24), (7, .int v51), (0, .ref 97), (1, .int x), (2, .int z)]) (fun _ => rfl) (fun v138 ev138 => ?_)
                  refine g_iload C (pc := 140) dX12_windOfThree_140 1 rfl ?_
                  refine g_if_eq C (pc := 142) 150 dX12_windOfThree_142 (by decide) (fun c142 => ?_) (fun c142 => ?_)
                  · refine g_lload C (pc := 150) dX12_windOfThree_150 4 rfl ?_
                    refine g_lstore C (pc := 152) dX12_windOfThree_152 (by decide) (fun v152 => [(4, .long v152), (6, .int v138), (11, .int v124), (9, .long v104), (8, .int (nI j)), (3, .int v24), (7, .int v51), (0, .ref 97), (1, .int x), (2, .int z)]) (fun _ => rfl) (fun v152 ev152 => ?_)
                    refine g_iinc C (pc := 154) (1) dX12_windOfThree_154 4 rfl (by decide) (by decide) (fun v154 => [(8, .int v154), (4, .long v152), (6, .int v138), (11, .int v124), (9, .long v104), (3, .int v24), (7, .int v51), (0, .ref 97), (1, .int x), (2, .int z)]) (fun _ => rfl) (fun v154 ev154 => ?_)
                    refine g_goto C (pc := 157) 56 dX12_windOfThree_157 (by decide) ?_
                    refine g_lv C [0, 1, 2, 5, 6, 7, 8, 9] rfl (ih56 (j + 1) _ _ _ _ ?_ ?_ ?_ ?_ ?_ ?_ ?_ (by omega))
                    · subst ev154; exact nI_1 _
                    · omega
                    · rw [ev152]; first | exact (ev104.trans hvf).trans (hup.1 c128).1 | exact (hup.2 c128).1
                    · rw [ev138]; first | exact (hup.1 c128).2 | exact (hup.2 c128).2
                    · exact hsv2.lw hlI hn6
                    · exact hfm2.lw hlI hn6
                    · exact hlw2.trans (hlI.up (by decide))
                  · exact absurd c128 c142
                · refine g_iload C (pc := 131) dX12_windOfThree_131 2 rfl ?_
                  refine g_goto C (pc := 133) 138 dX12_windOfThree_133 (by decide) ?_
                  refine g_istore C (pc := 138) dX12_windOfThree_138 (by decide) (fun v138 => [(6, .int v138), (11, .int v124), (9, .long v104), (8, .int (nI j)), (4, .long wz4), (3, .int v24), (7, .int v51), (0, .ref 97), (1, .int x), (2, .int z)]) (fun _ => rfl) (fun v138 ev138 => ?_)
                  refine g_iload C (pc := 140) dX12_windOfThree_140 1 rfl ?_
                  refine g_if_eq C (pc := 142) 150 dX12_windOfThree_142 (by decide) (fun c142 => ?_) (fun c142 => ?_)
                  · exact absurd c142 c128
                  · refine g_lload C (pc := 145) dX12_windOfThree_145 2 rfl ?_
                    refine g_goto C (pc := 147) 152 dX12_windOfThree_147 (by decide) ?_
                    refine g_lstore C (pc := 152) dX12_windOfThree_152 (by decide) (fun v152 => [(4, .long v152), (6, .int v138), (11, .int v124), (9, .long v104), (8, .int (nI j)), (3, .int v24), (7, .int v51), (0, .ref 97), (1, .int x), (2, .int z)]) (fun _ => rfl) (fun v152 ev152 => ?_)
                    refine g_iinc C (pc := 154) (1) dX12_windOfThree_154 4 rfl (by decide) (by decide) (fun v154 => [(8, .int v154), (4, .long v152), (6, .int v138), (11, .int v124), (9, .long v104), (3, .int v24), (7, .int v51), (0, .ref 97), (1, .int x), (2, .int z)]) (fun _ => rfl) (fun v154 ev154 => ?_)
                    refine g_goto C (pc := 157) 56 dX12_windOfThree_157 (by decide) ?_
                    refine g_lv C [0, 1, 2, 5, 6, 7, 8, 9] rfl (ih56 (j + 1) _ _ _ _ ?_ ?_ ?_ ?_ ?_ ?_ ?_ (by omega))
                    · subst ev154; exact nI_1 _
                    · omega
                    · rw [ev152]; first | exact (ev104.trans hvf).trans (hup.1 c128).1 | exact (hup.2 c128).1
                    · rw [ev138]; first | exact (hup.1 c128).2 | exact (hup.2 c128).2
                    · exact hsv2.lw hlI hn6
                    · exact hfm2.lw hlI hn6
                    · exact hlw2.trans (hlI.up (by decide))
              · refine g_iconst C (pc := 111) 1 dX12_windOfThree_111 (by decide) ?_
                refine g_goto C (pc := 112) 116 dX12_windOfThree_112 (by decide) ?_
                refine g_iload_n C (pc := 116) dX12_windOfThree_116 4 rfl ?_
                refine g_lload C (pc := 117) dX12_windOfThree_117 0 rfl ?_
                refine g_lload C (pc := 119) dX12_windOfThree_119 2 rfl ?_
                refine g_callSI C (pc := 121) mf_X12_isBetter lk_RX12_264 (c_X12_isBetter n ρ _ _ _ _ _ hn9) (by decide) (Nat.le_refl _) rfl (Nat.le_of_ble_eq_true rfl) dX12_windOfThree_121 (fun v121 I121 h121 => ?_)
                obtain ⟨e121, rfl⟩ := h121
                refine g_istore C (pc := 124) dX12_windOfThree_124 (by decide) (fun v124 => [(11, .int v124), (9, .long v104), (8, .int (nI j)), (4, .long wz4), (6, .int wz6), (3, .int v24), (7, .int v51), (0, .ref 97), (1, .int x), (2, .int z)]) (fun _ => rfl) (fun v124 ev124 => ?_)
                have hup := bst_upd (wants := (bM b == sd)) (f := (valF F sd 2 b w)) (j := j) (z4 := wz4) (z6 := wz6) (fl := bI (j = 0)) (own := v24) (u := v124) (fun i _ => (by show val F sd 2 (playB F b w ((mvs F b w)[i]?)) < 2 ^ 31; have h9 := val_le (F := F) (sd := sd) 2 (playB F b w ((mvs F b w)[i]?)); have h8 := pw3 (a := allO F) (k := 2) hAO (by decide); omega)) h4 h6 rfl h24 (by
                  rw [ev124, e121, ev104, hvf]
                  first
                  | (rw [bI_t (c := j = 0) ((nI_eq (b := 0) (by omega) (by decide)).mp c108)]; done)
                  | (rw [bI_f (c := j = 0) (fun h => c108 (by rw [h]; rfl))]; done))
                refine g_iload C (pc := 126) dX12_windOfThree_126 0 rfl ?_
                refine g_if_eq C (pc := 128) 136 dX12_windOfThree_128 (by decide) (fun c128 => ?_) (fun c128 => ?_)
                · refine g_iload C (pc := 136) dX12_windOfThree_136 4 rfl ?_
                  refine g_istore C (pc := 138) dX12_windOfThree_138 (by decide) (fun v138 => [(6, .int v138), (11, .int v124), (9, .long v104), (8, .int (nI j)), (4, .long wz4), (3, .int v24), (7, .int v51), (0, .ref 97), (1, .int x), (2, .int z)]) (fun _ => rfl) (fun v138 ev138 => ?_)
                  refine g_iload C (pc := 140) dX12_windOfThree_140 1 rfl ?_
                  refine g_if_eq C (pc := 142) 150 dX12_windOfThree_142 (by decide) (fun c142 => ?_) (fun c142 => ?_)
                  · refine g_lload C (pc := 150) dX12_windOfThree_150 4 rfl ?_
                    refine g_lstore C (pc := 152) dX12_windOfThree_152 (by decide) (fun v152 => [(4, .long v152), (6, .int v138), (11, .int v124), (9, .long v104), (8, .int (nI j)), (3, .int v24), (7, .int v51), (0, .ref 97), (1, .int x), (2, .int z)]) (fun _ => rfl) (fun v152 ev152 => ?_)
                    refine g_iinc C (pc := 154) (1) dX12_windOfThree_154 4 rfl (by decide) (by decide) (fun v154 => [(8, .int v154), (4, .long v152), (6, .int v138), (11, .int v124), (9, .long v104), (3, .int v24), (7, .int v51), (0, .ref 97), (1, .int x), (2, .int z)]) (fun _ => rfl) (fun v154 ev154 => ?_)
                    refine g_goto C (pc := 157) 56 dX12_windOfThree_157 (by decide) ?_
                    refine g_lv C [0, 1, 2, 5, 6, 7, 8, 9] rfl (ih56 (j + 1) _ _ _ _ ?_ ?_ ?_ ?_ ?_ ?_ ?_ (by omega))
                    · subst ev154; exact nI_1 _
                    · omega
                    · rw [ev152]; first | exact (ev104.trans hvf).trans (hup.1 c128).1 | exact (hup.2 c128).1
                    · rw [ev138]; first | exact (hup.1 c128).2 | exact (hup.2 c128).2
                    · exact hsv2.lw hlI hn6
                    · exact hfm2.lw hlI hn6
                    · exact hlw2.trans (hlI.up (by decide))
                  · exact absurd c128 c142
                · refine g_iload C (pc := 131) dX12_windOfThree_131 2 rfl ?_
                  refine g_goto C (pc := 133) 138 dX12_windOfThree_133 (by decide) ?_
                  refine g_istore C (pc := 138) dX12_windOfThree_138 (by decide) (fun v138 => [(6, .int v138), (11, .int v124), (9, .long v104), (8, .int (nI j)), (4, .long wz4), (3, .int v24), (7, .int v51), (0, .ref 97), (1, .int x), (2, .int z)]) (fun _ => rfl) (fun v138 ev138 => ?_)
                  refine g_iload C (pc := 140) dX12_windOfThree_140 1 rfl ?_
                  refine g_if_eq C (pc := 142) 150 dX12_windOfThree_142 (by decide) (fun c142 => ?_) (fun c142 => ?_)
                  · exact absurd c142 c128
                  · refine g_lload C (pc := 145) dX12_windOfThree_145 2 rfl ?_
                    refine g_goto C (pc := 147) 152 dX12_windOfThree_147 (by decide) ?_
                    refine g_lstore C (pc := 152) dX12_windOfThree_152 (by decide) (fun v152 => [(4, .long v152), (6, .int v138), (11, .int v124), (9, .long v104), (8, .int (nI j)), (3, .int v24), (7, .int v51), (0, .ref 97), (1, .int x), (2, .int z)]) (fun _ => rfl) (fun v152 ev152 => ?_)
                    refine g_iinc C (pc := 154) (1) dX12_windOfThree_154 4 rfl (by decide) (by decide) (fun v154 => [(8, .int v154), (4, .long v152), (6, .int v138), (11, .int v124), (9, .long v104), (3, .int v24), (7, .int v51), (0, .ref 97), (1, .int x), (2, .int z)]) (fun _ => rfl) (fun v154 ev154 => ?_)
                    refine g_goto C (pc := 157) 56 dX12_windOfThree_157 (by decide) ?_
                    refine g_lv C [0, 1, 2, 5, 6, 7, 8, 9] rfl (ih56 (j + 1) _ _ _ _ ?_ ?_ ?_ ?_ ?_ ?_ ?_ (by omega))
                    · subst ev154; exact nI_1 _
                    · omega
                    · rw [ev152]; first | exact (ev104.trans hvf).trans (hup.1 c128).1 | exact (hup.2 c128).1
                    · rw [ev138]; first | exact (hup.1 c128).2 | exact (hup.2 c128).2
                    · exact hsv2.lw hlI hn6
                    · exact hfm2.lw hlI hn6
                    · exact hlw2.trans (hlI.up (by decide))
            · have hjl : (mvs F b w).length = 0 := by
                have h9 : I65 109 2 = 0 := c76
                rw [hfm2.1] at h9
                exact (nI_eq (b := 0) (by omega) (by decide)).mp h9
              have hmx9 : (-4 : Int32) = oI ((mvs F b w)[j]?) := by rw [List.getElem?_eq_none (by omega)]; rfl
              refine g_bipush C (pc := 79) (-4) dX12_windOfThree_79 (by decide) ?_
              refine g_goto C (pc := 81) 95 dX12_windOfThree_81 (by decide) ?_
              refine g_callVI C (pc := 95) mf_X12_goes lk_RX12_251 (c_X12_goesE n ρ I65 F b w ((mvs F b w)[j]?) _ z hn9 hms (hqf.kp hlw2.1) hrw f65 hbw hw (mvs_K hrw) (hmx9) hz) (by decide) (Nat.le_refl _) rfl (by first | assumption | rfl | omega) rfl (by first | assumption | rfl | omega) (Nat.le_of_ble_eq_true rfl) dX12_windOfThree_95 (fun v95 I95 h95 => ?_)
              obtain ⟨e95, f95, a95, g95⟩ := h95
              have hl3 : Lw 0 I65 I95 := Lw.qb a95 g95
              replace hlw2 := hlw2
              have hbw2 : BW F (playB F b w ((mvs F b w)[j]?)) := (mvs_K hrw).bw hrw hbw
              have hl12 : L1 F (playB F b w ((mvs F b w)[j]?)) := L1_play hl1
              have hpw2 : PW F (playB F b w ((mvs F b w)[j]?)) := PW_play (mvs_K hrw) hrw hpw
              refine g_pop C (pc := 98) dX12_windOfThree_98 rfl ?_
              refine g_aload_n C (pc := 99) dX12_windOfThree_99 5 rfl ?_
              refine g_iload_n C (pc := 100) dX12_windOfThree_100 6 rfl ?_
              refine g_callVL C (pc := 101) mf_X12_two lk_RX12_281 (c_X12_two n ρ I95 F (playB F b w ((mvs F b w)[j]?)) sd x hn9 hms (hqf.kp (hlw2.trans (hl3.up (by decide))).1) hrw (hqe.kp (hlw2.trans (hl3.up (by decide))).1) f95 hbw2 hl12 hpw2 hsd hx) (by decide) (Nat.le_refl _) rfl (by first | assumption | rfl | omega) rfl (by first | assumption | rfl | omega) (Nat.le_of_ble_eq_true rfl) dX12_windOfThree_101 (fun v101 I101 h101 => ?_)
              obtain ⟨e101, k101⟩ := h101
              have hlI : Lw 2 I65 I101 := (hl3.up (by decide)).trans k101
              have hvf : v101 = lN ((valF F sd 2 b w) j) := e101
              refine g_lstore C (pc := 104) dX12_windOfThree_104 (by decide) (fun v104 => [(9, .long v104), (8, .int (nI j)), (4, .long wz4), (6, .int wz6), (3, .int v24), (7, .int v51), (0, .ref 97), (1, .int x), (2, .int z)]) (fun _ => rfl) (fun v104 ev104 => ?_)
              refine g_iload C (pc := 106) dX12_windOfThree_106 1 rfl ?_
              refine g_if_ne C (pc := 108) 115 dX12_windOfThree_108 (by decide) (fun c108 => ?_) (fun c108 => ?_)
              · refine g_iconst C (pc := 115) 0 dX12_windOfThree_115 (by decide) ?_
                refine g_iload_n C (pc := 116) dX12_windOfThree_116 4 rfl ?_
                refine g_lload C (pc := 117) dX12_windOfThree_117 0 rfl ?_
                refine g_lload C (pc := 119) dX12_windOfThree_119 2 rfl ?_
                refine g_callSI C (pc := 121) mf_X12_isBetter lk_RX12_264 (c_X12_isBetter n ρ _ _ _ _ _ hn9) (by decide) (Nat.le_refl _) rfl (Nat.le_of_ble_eq_true rfl) dX12_windOfThree_121 (fun v121 I121 h121 => ?_)
                obtain ⟨e121, rfl⟩ := h121
                refine g_istore C (pc := 124) dX12_windOfThree_124 (by decide) (fun v124 => [(11, .int v124), (9, .long v104), (8, .int (nI j)), (4, .long wz4), (6, .int wz6), (3, .int v24), (7, .int v51), (0, .ref 97), (1, .int x), (2, .int z)]) (fun _ => rfl) (fun v124 ev124 => ?_)
                have hup := bst_upd (wants := (bM b == sd)) (f := (valF F sd 2 b w)) (j := j) (z4 := wz4) (z6 := wz6) (fl := bI (j = 0)) (own := v24) (u := v124) (fun i _ => (by show val F sd 2 (playB F b w ((mvs F b w)[i]?)) < 2 ^ 31; have h9 := val_le (F := F) (sd := sd) 2 (playB F b w ((mvs F b w)[i]?)); have h8 := pw3 (a := allO F) (k := 2) hAO (by decide); omega)) h4 h6 rfl h24 (by
                  rw [ev124, e121, ev104, hvf]
                  first
                  | (rw [bI_t (c := j = 0) ((nI_eq (b := 0) (by omega) (by decide)).mp c108)]; done)
                  | (rw [bI_f (c := j = 0) (fun h => c108 (by rw [h]; rfl))]; done))
                refine g_iload C (pc := 126) dX12_windOfThree_126 0 rfl ?_
                refine g_if_eq C (pc := 128) 136 dX12_windOfThree_128 (by decide) (fun c128 => ?_) (fun c128 => ?_)
                · refine g_iload C (pc := 136) dX12_windOfThree_136 4 rfl ?_
                  refine g_istore C (pc := 138) dX12_windOfThree_138 (by decide) (fun v138 => [(6, .int v138), (11, .int v124), (9, .long v104), (8, .int (nI j)), (4, .long wz4), (3, .int v24), (7, .int v51), (0, .ref 97), (1, .int x), (2, .int z)]) (fun _ => rfl) (fun v138 ev138 => ?_)
                  refine g_iload C (pc := 140) dX12_windOfThree_140 1 rfl ?_
                  refine g_if_eq C (pc := 142) 150 dX12_windOfThree_142 (by decide) (fun c142 => ?_) (fun c142 => ?_)
                  · refine g_lload C (pc := 150) dX12_windOfThree_150 4 rfl ?_
                    refine g_lstore C (pc := 152) dX12_windOfThree_152 (by decide) (fun v152 => [(4, .long v152), (6, .int v138), (11, .int v124), (9, .long v104), (8, .int (nI j)), (3, .int v24), (7, .int v51), (0, .ref 97), (1, .int x), (2, .int z)]) (fun _ => rfl) (fun v152 ev152 => ?_)
                    refine g_iinc C (pc := 154) (1) dX12_windOfThree_154 4 rfl (by decide) (by decide) (fun v154 => [(8, .int v154), (4, .long v152), (6, .int v138), (11, .int v124), (9, .long v104), (3, .int v24), (7, .int v51), (0, .ref 97), (1, .int x), (2, .int z)]) (fun _ => rfl) (fun v154 ev154 => ?_)
                    refine g_goto C (pc := 157) 56 dX12_windOfThree_157 (by decide) ?_
                    refine g_lv C [0, 1, 2, 5, 6, 7, 8, 9] rfl (ih56 (j + 1) _ _ _ _ ?_ ?_ ?_ ?_ ?_ ?_ ?_ (by omega))
                    · subst ev154; exact nI_1 _
                    · omega
                    · rw [ev152]; first | exact (ev104.trans hvf).trans (hup.1 c128).1 | exact (hup.2 c128).1
                    · rw [ev138]; first | exact (hup.1 c128).2 | exact (hup.2 c128).2
                    · exact hsv2.lw hlI hn6
                    · exact hfm2.lw hlI hn6
                    · exact hlw2.trans (hlI.up (by decide))
                  · exact absurd c128 c142
                · refine g_iload C (pc := 131) dX12_windOfThree_131 2 rfl ?_
                  refine g_goto C (pc := 133) 138 dX12_windOfThree_133 (by decide) ?_
                  refine g_istore C (pc := 138) dX12_windOfThree_138 (by decide) (fun v138 => [(6, .int v138), (11, .int v124), (9, .long v104), (8, .int (nI j)), (4, .long wz4), (3, .int v24), (7, .int v51), (0, .ref 97), (1, .int x), (2, .int z)]) (fun _ => rfl) (fun v138 ev138 => ?_)
                  refine g_iload C (pc := 140) dX12_windOfThree_140 1 rfl ?_
                  refine g_if_eq C (pc := 142) 150 dX12_windOfThree_142 (by decide) (fun c142 => ?_) (fun c142 => ?_)
                  · exact absurd c142 c128
                  · refine g_lload C (pc := 145) dX12_windOfThree_145 2 rfl ?_
                    refine g_goto C (pc := 147) 152 dX12_windOfThree_147 (by decide) ?_
                    refine g_lstore C (pc := 152) dX12_windOfThree_152 (by decide) (fun v152 => [(4, .long v152), (6, .int v138), (11, .int v124), (9, .long v104), (8, .int (nI j)), (3, .int v24), (7, .int v51), (0, .ref 97), (1, .int x), (2, .int z)]) (fun _ => rfl) (fun v152 ev152 => ?_)
                    refine g_iinc C (pc := 154) (1) dX12_windOfThree_154 4 rfl (by decide) (by decide) (fun v154 => [(8, .int v154), (4, .long v152), (6, .int v138), (11, .int v124), (9, .long v104), (3, .int v24), (7, .int v51), (0, .ref 97), (1, .int x), (2, .int z)]) (fun _ => rfl) (fun v154 ev154 => ?_)
                    refine g_goto C (pc := 157) 56 dX12_windOfThree_157 (by decide) ?_
                    refine g_lv C [0, 1, 2, 5, 6, 7, 8, 9] rfl (ih56 (j + 1) _ _ _ _ ?_ ?_ ?_ ?_ ?_ ?_ ?_ (by omega))
                    · subst ev154; exact nI_1 _
                    · omega
                    · rw [ev152]; first | exact (ev104.trans hvf).trans (hup.1 c128).1 | exact (hup.2 c128).1
                    · rw [ev138]; first | exact (hup.1 c128).2 | exact (hup.2 c128).2
                    · exact hsv2.lw hlI hn6
                    · exact hfm2.lw hlI hn6
                    · exact hlw2.trans (hlI.up (by decide))
              · refine g_iconst C (pc := 111) 1 dX12_windOfThree_111 (by decide) ?_
                refine g_goto C (pc := 112) 116 dX12_windOfThree_112 (by decide) ?_
                refine g_iload_n C (pc := 116) dX12_windOfThree_116 4 rfl ?_
                refine g_lload C (pc := 117) dX12_windOfThree_117 0 rfl ?_
                refine g_lload C (pc := 119) dX12_windOfThree_119 2 rfl ?_
                refine g_callSI C (pc := 121) mf_X12_isBetter lk_RX12_264 (c_X12_isBetter n ρ _ _ _ _ _ hn9) (by decide) (Nat.le_refl _) rfl (Nat.le_of_ble_eq_true rfl) dX12_windOfThree_121 (fun v121 I121 h121 => ?_)
                obtain ⟨e121, rfl⟩ := h121
                refine g_istore C (pc := 124) dX12_windOfThree_124 (by decide) (fun v124 => [(11, .int v124), (9, .long v104), (8, .int (nI j)), (4, .long wz4), (6, .int wz6), (3, .int v24), (7, .int v51), (0, .ref 97), (1, .int x), (2, .int z)]) (fun _ => rfl) (fun v124 ev124 => ?_)
                have hup := bst_upd (wants := (bM b == sd)) (f := (valF F sd 2 b w)) (j := j) (z4 := wz4) (z6 := wz6) (fl := bI (j = 0)) (own := v24) (u := v124) (fun i _ => (by show val F sd 2 (playB F b w ((mvs F b w)[i]?)) < 2 ^ 31; have h9 := val_le (F := F) (sd := sd) 2 (playB F b w ((mvs F b w)[i]?)); have h8 := pw3 (a := allO F) (k := 2) hAO (by decide); omega)) h4 h6 rfl h24 (by
                  rw [ev124, e121, ev104, hvf]
                  first
                  | (rw [bI_t (c := j = 0) ((nI_eq (b := 0) (by omega) (by decide)).mp c108)]; done)
                  | (rw [bI_f (c := j = 0) (fun h => c108 (by rw [h]; rfl))]; done))
                refine g_iload C (pc := 126) dX12_windOfThree_126 0 rfl ?_
                refine g_if_eq C (pc := 128) 136 dX12_windOfThree_128 (by decide) (fun c128 => ?_) (fun c128 => ?_)
                · refine g_iload C (pc := 136) dX12_windOfThree_136 4 rfl ?_
                  refine g_istore C (pc := 138) dX12_windOfThree_138 (by decide) (fun v138 => [(6, .int v138), (11, .int v124), (9, .long v104), (8, .int (nI j)), (4, .long wz4), (3, .int v24), (7, .int v51), (0, .ref 97), (1, .int x), (2, .int z)]) (fun _ => rfl) (fun v138 ev138 => ?_)
                  refine g_iload C (pc := 140) dX12_windOfThree_140 1 rfl ?_
                  refine g_if_eq C (pc := 142) 150 dX12_windOfThree_142 (by decide) (fun c142 => ?_) (fun c142 => ?_)
                  · refine g_lload C (pc := 150) dX12_windOfThree_150 4 rfl ?_
                    refine g_lstore C (pc := 152) dX12_windOfThree_152 (by decide) (fun v152 => [(4, .long v152), (6, .int v138), (11, .int v124), (9, .long v104), (8, .int (nI j)), (3, .int v24), (7, .int v51), (0, .ref 97), (1, .int x), (2, .int z)]) (fun _ => rfl) (fun v152 ev152 => ?_)
                    refine g_iinc C (pc := 154) (1) dX12_windOfThree_154 4 rfl (by decide) (by decide) (fun v154 => [(8, .int v154), (4, .long v152), (6, .int v138), (11, .int v124), (9, .long v104), (3, .int v24), (7, .int v51), (0, .ref 97), (1, .int x), (2, .int z)]) (fun _ => rfl) (fun v154 ev154 => ?_)
                    refine g_goto C (pc := 157) 56 dX12_windOfThree_157 (by decide) ?_
                    refine g_lv C [0, 1, 2, 5, 6, 7, 8, 9] rfl (ih56 (j + 1) _ _ _ _ ?_ ?_ ?_ ?_ ?_ ?_ ?_ (by omega))
                    · subst ev154; exact nI_1 _
                    · omega
                    · rw [ev152]; first | exact (ev104.trans hvf).trans (hup.1 c128).1 | exact (hup.2 c128).1
                    · rw [ev138]; first | exact (hup.1 c128).2 | exact (hup.2 c128).2
                    · exact hsv2.lw hlI hn6
                    · exact hfm2.lw hlI hn6
                    · exact hlw2.trans (hlI.up (by decide))
                  · exact absurd c128 c142
                · refine g_iload C (pc := 131) dX12_windOfThree_131 2 rfl ?_
                  refine g_goto C (pc := 133) 138 dX12_windOfThree_133 (by decide) ?_
                  refine g_istore C (pc := 138) dX12_windOfThree_138 (by decide) (fun v138 => [(6, .int v138), (11, .int v124), (9, .long v104), (8, .int (nI j)), (4, .long wz4), (3, .int v24), (7, .int v51), (0, .ref 97), (1, .int x), (2, .int z)]) (fun _ => rfl) (fun v138 ev138 => ?_)
                  refine g_iload C (pc := 140) dX12_windOfThree_140 1 rfl ?_
                  refine g_if_eq C (pc := 142) 150 dX12_windOfThree_142 (by decide) (fun c142 => ?_) (fun c142 => ?_)
                  · exact absurd c142 c128
                  · refine g_lload C (pc := 145) dX12_windOfThree_145 2 rfl ?_
                    refine g_goto C (pc := 147) 152 dX12_windOfThree_147 (by decide) ?_
                    refine g_lstore C (pc := 152) dX12_windOfThree_152 (by decide) (fun v152 => [(4, .long v152), (6, .int v138), (11, .int v124), (9, .long v104), (8, .int (nI j)), (3, .int v24), (7, .int v51), (0, .ref 97), (1, .int x), (2, .int z)]) (fun _ => rfl) (fun v152 ev152 => ?_)
                    refine g_iinc C (pc := 154) (1) dX12_windOfThree_154 4 rfl (by decide) (by decide) (fun v154 => [(8, .int v154), (4, .long v152), (6, .int v138), (11, .int v124), (9, .long v104), (3, .int v24), (7, .int v51), (0, .ref 97), (1, .int x), (2, .int z)]) (fun _ => rfl) (fun v154 ev154 => ?_)
                    refine g_goto C (pc := 157) 56 dX12_windOfThree_157 (by decide) ?_
                    refine g_lv C [0, 1, 2, 5, 6, 7, 8, 9] rfl (ih56 (j + 1) _ _ _ _ ?_ ?_ ?_ ?_ ?_ ?_ ?_ (by omega))
                    · subst ev154; exact nI_1 _
                    · omega
                    · rw [ev152]; first | exact (ev104.trans hvf).trans (hup.1 c128).1 | exact (hup.2 c128).1
                    · rw [ev138]; first | exact (hup.1 c128).2 | exact (hup.2 c128).2
                    · exact hsv2.lw hlI hn6
                    · exact hfm2.lw hlI hn6
                    · exact hlw2.trans (hlI.up (by decide))
      refine g_lv C [0, 3, 2, 4, 1, 5, 6, 7] rfl (L56 (_ + 1) 0 _ _ _ _ ?_ ?_ ?_ ?_ ?_ ?_ ?_ (by first | omega | exact Nat.lt_succ_self _))
      · subst ev54; rfl
      · omega
      · subst ev26; rfl
      · subst ev30; rfl
      · exact f8
      · exact f3.cong (by rw [g8 109 (by decide)]) (fun z _ _ => by rw [g8 108 (by decide)]) hn6
      · exact (Lw.fm a3 b3 g3).trans (Lw.sv a8 g8)
    · refine g_iconst C (pc := 41) 1 dX12_windOfThree_41 (by decide) ?_
      refine g_goto C (pc := 42) 51 dX12_windOfThree_42 (by decide) ?_
      refine g_istore C (pc := 51) dX12_windOfThree_51 (by decide) (fun v51 => [(7, .int v51), (6, .int v30), (4, .long v26), (3, .int v24), (0, .ref 97), (1, .int x), (2, .int z)]) (fun _ => rfl) (fun v51 ev51 => ?_)
      have h51 : v51 = nI (cntM F b w) := by
        rw [ev51]
        have h9 : I8 109 2 = nI (mvs F b w).length := by rw [g8 109 (by decide)]; exact f3.1
        unfold cntM
        first
        | (rw [if_pos ((nI_eq (b := 0) (by omega) (by decide)).mp (h9.symm.trans c38))]; rfl)
        | (rw [if_neg (fun h8 => c38 (h9.trans (by rw [h8]; rfl)))]; exact h9)
      refine g_iconst C (pc := 53) 0 dX12_windOfThree_53 (by decide) ?_
      refine g_istore C (pc := 54) dX12_windOfThree_54 (by decide) (fun v54 => [(8, .int v54), (7, .int v51), (6, .int v30), (4, .long v26), (3, .int v24), (0, .ref 97), (1, .int x), (2, .int z)]) (fun _ => rfl) (fun v54 ev54 => ?_)
      have L56 : ∀ (k9 : Nat) (j : Nat) (wz8 : Int32) (wz4 : Int64) (wz6 : Int32) (J : Mem) (hw8 : wz8 = nI j) (hj : j ≤ cntM F b w) (h4 : wz4 = lN (((bstK (bM b == sd) (valF F sd 2 b w) j).map (fun q => q.1)).getD 0)) (h6 : wz6 = oI ((bstK (bM b == sd) (valF F sd 2 b w) j).map (fun q => q.2))) (hsv : SvB J F 2 b) (hfm : FMv J F b w 2) (hlw : Lw 3 I J), cntM F b w - j < k9 → G κ n ρ 56 [(8, .int wz8), (4, .long wz4), (6, .int wz6), (3, .int v24), (7, .int v51), (0, .ref 97), (1, .int x), (2, .int z)] [] J := by
        intro k9
        induction k9 with
        | zero => intro j wz8 wz4 wz6 J hw8 hj h4 h6 hsv hfm hlw hm56; exact absurd hm56 (Nat.not_lt_zero _)
        | succ k9 ih56 =>
          intro j wz8 wz4 wz6 J hw8 hj h4 h6 hsv hfm hlw hm56
          subst hw8
          have hcl := cntM_le (F := F) (b := b) (w := w) hn6
          have hml := mvs_len (F := F) (b := b) (w := w) hn6
          have hkJ := hlw.1
          refine g_iload C (pc := 56) dX12_windOfThree_56 0 rfl ?_
          refine g_iload C (pc := 58) dX12_windOfThree_58 4 rfl ?_
          refine g_icmp_ge C (pc := 60) 160 dX12_windOfThree_60 (by decide) (fun c60 => ?_) (fun c60 => ?_)
          · rw [h51, nI_leI (by omega) (by omega)] at c60
            refine g_aload_n C (pc := 160) dX12_windOfThree_160 5 rfl ?_
            refine g_iconst C (pc := 161) 2 dX12_windOfThree_161 (by decide) ?_
            refine g_callVV C (pc := 162) mf_X12_returns lk_RX12_257 (c_X12_returnsD n ρ J F b 2 _ hn9 hms (hqf.kp hkJ) hrw hsv (by decide) rfl) (by decide) (Nat.le_refl _) rfl (by first | assumption | rfl | omega) rfl (by first | assumption | rfl | omega) (Nat.le_of_ble_eq_true rfl) dX12_windOfThree_162 (fun I162 h162 => ?_)
            obtain ⟨f162, a162, g162⟩ := h162
            refine g_aload_n C (pc := 165) dX12_windOfThree_165 5 rfl ?_
            refine g_aload_n C (pc := 166) dX12_windOfThree_166 5 rfl ?_
            refine g_getR C (pc := 167) fl_RX12_44 (by decide) (by first | assumption | rfl | omega) (by first | assumption | rfl | omega) (by first | assumption | rfl | omega) dX12_windOfThree_167 ?_
            refine g_iconst C (pc := 170) 2 dX12_windOfThree_170 (by decide) ?_
            refine g_iald C (pc := 171) (by first | assumption | rfl | omega) (by first | assumption | rfl | omega) (vp_in_nI (n := 2) (by decide) (by decide)) dX12_windOfThree_171 ?_
            refine g_if_ne C (pc := 172) 180 dX12_windOfThree_172 (by decide) (fun c172 => ?_) (fun c172 => ?_)
            · refine g_iload C (pc := 180) dX12_windOfThree_180 2 rfl ?_
              refine g_putI C (pc := 182) fl_RX12_268 (by decide) fp_11_29 (Or.inl rfl) ⟨rfl, rfl⟩ (by first | assumption | rfl | omega) (by first | assumption | rfl | omega) hn9 dX12_windOfThree_182 ?_
              refine g_lload C (pc := 185) dX12_windOfThree_185 1 rfl ?_
              refine g_lret C hR (pc := 187) rfl dX12_windOfThree_187 ?_
              refine ⟨rfl, _, rfl, ?_⟩
              have hjc : j = cntM F b w := by omega
              subst hjc
              have hl5 : Lw 3 I I162 := hlw.trans ((Lw.qb a162 g162).up (by decide))
              refine ⟨h4, ?_, f162.cong (fun _ _ => by rw [wr_n (by decide)]) (fun _ _ => by rw [wr_n (by decide)]) (by rw [wr_sn (by decide)]) hn6, hl5.trans ((Lw.sc (by decide) (by decide)).up (Nat.zero_le _))⟩
              rw [wr_ss]
              have h9 : I162 109 2 = nI (mvs F b w).length := by rw [g162 109 (by decide) (by decide) (by decide)]; exact hfm.1
              unfold chW
              first
              | (rw [if_pos ((nI_eq (b := 0) (by omega) (by decide)).mp (h9.symm.trans c172))]; rfl)
              | (rw [if_neg (fun h8 => c172 (h9.trans (by rw [h8]; rfl)))]; exact h6)
            · refine g_bipush C (pc := 175) (-4) dX12_windOfThree_175 (by decide) ?_
              refine g_goto C (pc := 177) 182 dX12_windOfThree_177 (by decide) ?_
              refine g_putI C (pc := 182) fl_RX12_268 (by decide) fp_11_29 (Or.inl rfl) ⟨rfl, rfl⟩ (by first | assumption | rfl | omega) (by first | assumption | rfl | omega) hn9 dX12_windOfThree_182 ?_
              refine g_lload C (pc := 185) dX12_windOfThree_185 1 rfl ?_
              refine g_lret C hR (pc := 187) rfl dX12_windOfThree_187 ?_
              refine ⟨rfl, _, rfl, ?_⟩
              have hjc : j = cntM F b w := by omega
              subst hjc
              have hl5 : Lw 3 I I162 := hlw.trans ((Lw.qb a162 g162).up (by decide))
              refine ⟨h4, ?_, f162.cong (fun _ _ => by rw [wr_n (by decide)]) (fun _ _ => by rw [wr_n (by decide)]) (by rw [wr_sn (by decide)]) hn6, hl5.trans ((Lw.sc (by decide) (by decide)).up (Nat.zero_le _))⟩
              rw [wr_ss]
              have h9 : I162 109 2 = nI (mvs F b w).length := by rw [g162 109 (by decide) (by decide) (by decide)]; exact hfm.1
              unfold chW
              first
              | (rw [if_pos ((nI_eq (b := 0) (by omega) (by decide)).mp (h9.symm.trans c172))]; rfl)
              | (rw [if_neg (fun h8 => c172 (h9.trans (by rw [h8]; rfl)))]; exact h6)
          · rw [h51, nI_ltI (by omega) (by omega)] at c60
            refine g_aload_n C (pc := 63) dX12_windOfThree_63 5 rfl ?_
            refine g_iconst C (pc := 64) 2 dX12_windOfThree_64 (by decide) ?_
            refine g_callVV C (pc := 65) mf_X12_returns lk_RX12_257 (c_X12_returnsD n ρ J F b 2 _ hn9 hms (hqf.kp hkJ) hrw hsv (by decide) rfl) (by decide) (Nat.le_refl _) rfl (by first | assumption | rfl | omega) rfl (by first | assumption | rfl | omega) (Nat.le_of_ble_eq_true rfl) dX12_windOfThree_65 (fun I65 h65 => ?_)
            obtain ⟨f65, a65, g65⟩ := h65
            have hl2 : Lw 0 J I65 := Lw.qb a65 g65
            have hlw2 : Lw 3 I I65 := hlw.trans (hl2.up (by decide))
            have hsv2 : SvB I65 F 2 b := hsv.lw (hl2.up (by decide)) hn6
            have hfm2 : FMv I65 F b w 2 := hfm.lw (hl2.up (by decide)) hn6
            refine g_aload_n C (pc := 68) dX12_windOfThree_68 5 rfl ?_
            refine g_iload_n C (pc := 69) dX12_windOfThree_69 7 rfl ?_
            refine g_aload_n C (pc := 70) dX12_windOfThree_70 5 rfl ?_
            refine g_getR C (pc := 71) fl_RX12_44 (by decide) (by first | assumption | rfl | omega) (by first | assumption | rfl | omega) (by first | assumption | rfl | omega) dX12_windOfThree_71 ?_
            refine g_iconst C (pc := 74) 2 dX12_windOfThree_74 (by decide) ?_
            refine g_iald C (pc := 75) (by first | assumption | rfl | omega) (by first | assumption | rfl | omega) (vp_in_nI (n := 2) (by decide) (by decide)) dX12_windOfThree_75 ?_
            refine g_if_ne C (pc := 76) 84 dX12_windOfThree_76 (by decide) (fun c76 => ?_) (fun c76 => ?_)
            · have hjl : j < (mvs F b w).length := by
                have h9 : ¬ I65 109 2 = 0 := c76
                rw [hfm2.1] at h9
                have h8 : (mvs F b w).length ≠ 0 := fun h => h9 (by rw [h]; rfl)
                unfold cntM at c60
                rw [if_neg h8] at c60; exact c60
              have hmx9 : I65 108 (128 + nI j).toNatClampNeg = oI ((mvs F b w)[j]?) := by
                have hk9 := List.getElem?_eq_getElem hjl
                have h9 := hfm2.2 j _ hk9
                rw [hk9, show (128 : Int32) = nI 128 from rfl, nI_add, nI_clamp (by omega)]; exact h9
              refine g_aload_n C (pc := 84) dX12_windOfThree_84 5 rfl ?_
              refine g_getR C (pc := 85) fl_RX12_41 (by decide) (by first | assumption | rfl | omega) (by first | assumption | rfl | omega) (by first | assumption | rfl | omega) dX12_windOfThree_85 ?_
              refine g_sipush C (pc := 88) 128 dX12_windOfThree_88 (by decide) ?_
              refine g_iload C (pc := 91) dX12_windOfThree_91 0 rfl ?_
              refine g_iadd C (pc := 93) dX12_windOfThree_93 ?_
              refine g_iald C (pc := 94) (by first | assumption | rfl | omega) (by first | assumption | rfl | omega) (by rw [show (128 : Int32) = nI 128 from rfl, nI_add]; exact vp_in_nI (by omega) (by decide)) dX12_windOfThree_94 ?_
              refine g_callVI C (pc := 95) mf_X12_goes lk_RX12_251 (c_X12_goesE n ρ I65 F b w ((mvs F b w)[j]?) _ z hn9 hms (hqf.kp hlw2.1) hrw f65 hbw hw (mvs_K hrw) (hmx9) hz) (by decide) (Nat.le_refl _) rfl (by first | assumption | rfl | omega) rfl (by first | assumption | rfl | omega) (Nat.le_of_ble_eq_true rfl) dX12_windOfThree_95 (fun v95 I95 h95 => ?_)
              obtain ⟨e95, f95, a95, g95⟩ := h95
              have hl3 : Lw 0 I65 I95 := Lw.qb a95 g95
              replace hlw2 := hlw2
              have hbw2 : BW F (playB F b w ((mvs F b w)[j]?)) := (mvs_K hrw).bw hrw hbw
              have hl12 : L1 F (playB F b w ((mvs F b w)[j]?)) := L1_play hl1
              have hpw2 : PW F (playB F b w ((mvs F b w)[j]?)) := PW_play (mvs_K hrw) hrw hpw
              refine g_pop C (pc := 98) dX12_windOfThree_98 rfl ?_
              refine g_aload_n C (pc := 99) dX12_windOfThree_99 5 rfl ?_
              refine g_iload_n C (pc := 100) dX12_windOfThree_100 6 rfl ?_
              refine g_callVL C (pc := 101) mf_X12_two lk_RX12_281 (c_X12_two n ρ I95 F (playB F b w ((mvs F b w)[j]?)) sd x hn9 hms (hqf.kp (hlw2.trans (hl3.up (by decide))).1) hrw (hqe.kp (hlw2.trans (hl3.up (by decide))).1) f95 hbw2 hl12 hpw2 hsd hx) (by decide) (Nat.le_refl _) rfl (by first | assumption | rfl | omega) rfl (by first | assumption | rfl | omega) (Nat.le_of_ble_eq_true rfl) dX12_windOfThree_101 (fun v101 I101 h101 => ?_)
              obtain ⟨e101, k101⟩ := h101
              have hlI : Lw 2 I65 I101 := (hl3.up (by decide)).trans k101
              have hvf : v101 = lN ((valF F sd 2 b w) j) := e101
              refine g_lstore C (pc := 104) dX12_windOfThree_104 (by decide) (fun v104 => [(9, .long v104), (8, .int (nI j)), (4, .long wz4), (6, .int wz6), (3, .int v24), (7, .int v51), (0, .ref 97), (1, .int x), (2, .int z)]) (fun _ => rfl) (fun v104 ev104 => ?_)
              refine g_iload C (pc := 106) dX12_windOfThree_106 1 rfl ?_
              refine g_if_ne C (pc := 108) 115 dX12_windOfThree_108 (by decide) (fun c108 => ?_) (fun c108 => ?_)
              · refine g_iconst C (pc := 115) 0 dX12_windOfThree_115 (by decide) ?_
                refine g_iload_n C (pc := 116) dX12_windOfThree_116 4 rfl ?_
                refine g_lload C (pc := 117) dX12_windOfThree_117 0 rfl ?_
                refine g_lload C (pc := 119) dX12_windOfThree_119 2 rfl ?_
                refine g_callSI C (pc := 121) mf_X12_isBetter lk_RX12_264 (c_X12_isBetter n ρ _ _ _ _ _ hn9) (by decide) (Nat.le_refl _) rfl (Nat.le_of_ble_eq_true rfl) dX12_windOfThree_121 (fun v121 I121 h121 => ?_)
                obtain ⟨e121, rfl⟩ := h121
                refine g_istore C (pc := 124) dX12_windOfThree_124 (by decide) (fun v124 => [(11, .int v124), (9, .long v104), (8, .int (nI j)), (4, .long wz4), (6, .int wz6), (3, .int v24), (7, .int v51), (0, .ref 97), (1, .int x), (2, .int z)]) (fun _ => rfl) (fun v124 ev124 => ?_)
                have hup := bst_upd (wants := (bM b == sd)) (f := (valF F sd 2 b w)) (j := j) (z4 := wz4) (z6 := wz6) (fl := bI (j = 0)) (own := v24) (u := v124) (fun i _ => (by show val F sd 2 (playB F b w ((mvs F b w)[i]?)) < 2 ^ 31; have h9 := val_le (F := F) (sd := sd) 2 (playB F b w ((mvs F b w)[i]?)); have h8 := pw3 (a := allO F) (k := 2) hAO (by decide); omega)) h4 h6 rfl h24 (by
                  rw [ev124, e121, ev104, hvf]
                  first
                  | (rw [bI_t (c := j = 0) ((nI_eq (b := 0) (by omega) (by decide)).mp c108)]; done)
                  | (rw [bI_f (c := j = 0) (fun h => c108 (by rw [h]; rfl))]; done))
                refine g_iload C (pc := 126) dX12_windOfThree_126 0 rfl ?_
                refine g_if_eq C (pc := 128) 136 dX12_windOfThree_128 (by decide) (fun c128 => ?_) (fun c128 => ?_)
                · refine g_iload C (pc := 136) dX12_windOfThree_136 4 rfl ?_
                  refine g_istore C (pc := 138) dX12_windOfThree_138 (by decide) (fun v138 => [(6, .int v138), (11, .int v124), (9, .long v104), (8, .int (nI j)), (4, .long wz4), (3, .int v24), (7, .int v51), (0, .ref 97), (1, .int x), (2, .int z)]) (fun _ => rfl) (fun v138 ev138 => ?_)
                  refine g_iload C (pc := 140) dX12_windOfThree_140 1 rfl ?_
                  refine g_if_eq C (pc := 142) 150 dX12_windOfThree_142 (by decide) (fun c142 => ?_) (fun c142 => ?_)
                  · refine g_lload C (pc := 150) dX12_windOfThree_150 4 rfl ?_
                    refine g_lstore C (pc := 152) dX12_windOfThree_152 (by decide) (fun v152 => [(4, .long v152), (6, .int v138), (11, .int v124), (9, .long v104), (8, .int (nI j)), (3, .int v24), (7, .int v51), (0, .ref 97), (1, .int x), (2, .int z)]) (fun _ => rfl) (fun v152 ev152 => ?_)
                    refine g_iinc C (pc := 154) (1) dX12_windOfThree_154 4 rfl (by decide) (by decide) (fun v154 => [(8, .int v154), (4, .long v152), (6, .int v138), (11, .int v124), (9, .long v104), (3, .int v24), (7, .int v51), (0, .ref 97), (1, .int x), (2, .int z)]) (fun _ => rfl) (fun v154 ev154 => ?_)
                    refine g_goto C (pc := 157) 56 dX12_windOfThree_157 (by decide) ?_
                    refine g_lv C [0, 1, 2, 5, 6, 7, 8, 9] rfl (ih56 (j + 1) _ _ _ _ ?_ ?_ ?_ ?_ ?_ ?_ ?_ (by omega))
                    · subst ev154; exact nI_1 _
                    · omega
                    · rw [ev152]; first | exact (ev104.trans hvf).trans (hup.1 c128).1 | exact (hup.2 c128).1
                    · rw [ev138]; first | exact (hup.1 c128).2 | exact (hup.2 c128).2
                    · exact hsv2.lw hlI hn6
                    · exact hfm2.lw hlI hn6
                    · exact hlw2.trans (hlI.up (by decide))
                  · exact absurd c128 c142
                · refine g_iload C (pc := 131) dX12_windOfThree_131 2 rfl ?_
                  refine g_goto C (pc := 133) 138 dX12_windOfThree_133 (by decide) ?_
                  refine g_istore C (pc := 138) dX12_windOfThree_138 (by decide) (fun v138 => [(6, .int v138), (11, .int v124), (9, .long v104), (8, .int (nI j)), (4, .long wz4), (3, .int v24), (7, .int v51), (0, .ref 97), (1, .int x), (2, .int z)]) (fun _ => rfl) (fun v138 ev138 => ?_)
                  refine g_iload C (pc := 140) dX12_windOfThree_140 1 rfl ?_
                  refine g_if_eq C (pc := 142) 150 dX12_windOfThree_142 (by decide) (fun c142 => ?_) (fun c142 => ?_)
                  · exact absurd c142 c128
                  · refine g_lload C (pc := 145) dX12_windOfThree_145 2 rfl ?_
                    refine g_goto C (pc := 147) 152 dX12_windOfThree_147 (by decide) ?_
                    refine g_lstore C (pc := 152) dX12_windOfThree_152 (by decide) (fun v152 => [(4, .long v152), (6, .int v138), (11, .int v124), (9, .long v104), (8, .int (nI j)), (3, .int v24), (7, .int v51), (0, .ref 97), (1, .int x), (2, .int z)]) (fun _ => rfl) (fun v152 ev152 => ?_)
                    refine g_iinc C (pc := 154) (1) dX12_windOfThree_154 4 rfl (by decide) (by decide) (fun v154 => [(8, .int v154), (4, .long v152), (6, .int v138), (11, .int v124), (9, .long v104), (3, .int v24), (7, .int v51), (0, .ref 97), (1, .int x), (2, .int z)]) (fun _ => rfl) (fun v154 ev154 => ?_)
                    refine g_goto C (pc := 157) 56 dX12_windOfThree_157 (by decide) ?_
                    refine g_lv C [0, 1, 2, 5, 6, 7, 8, 9] rfl (ih56 (j + 1) _ _ _ _ ?_ ?_ ?_ ?_ ?_ ?_ ?_ (by omega))
                    · subst ev154; exact nI_1 _
                    · omega
                    · rw [ev152]; first | exact (ev104.trans hvf).trans (hup.1 c128).1 | exact (hup.2 c128).1
                    · rw [ev138]; first | exact (hup.1 c128).2 | exact (hup.2 c128).2
                    · exact hsv2.lw hlI hn6
                    · exact hfm2.lw hlI hn6
                    · exact hlw2.trans (hlI.up (by decide))
              · refine g_iconst C (pc := 111) 1 dX12_windOfThree_111 (by decide) ?_
                refine g_goto C (pc := 112) 116 dX12_windOfThree_112 (by decide) ?_
                refine g_iload_n C (pc := 116) dX12_windOfThree_116 4 rfl ?_
                refine g_lload C (pc := 117) dX12_windOfThree_117 0 rfl ?_
                refine g_lload C (pc := 119) dX12_windOfThree_119 2 rfl ?_
                refine g_callSI C (pc := 121) mf_X12_isBetter lk_RX12_264 (c_X12_isBetter n ρ _ _ _ _ _ hn9) (by decide) (Nat.le_refl _) rfl (Nat.le_of_ble_eq_true rfl) dX12_windOfThree_121 (fun v121 I121 h121 => ?_)
                obtain ⟨e121, rfl⟩ := h121
                refine g_istore C (pc := 124) dX12_windOfThree_124 (by decide) (fun v124 => [(11, .int v124), (9, .long v104), (8, .int (nI j)), (4, .long wz4), (6, .int wz6), (3, .int v24), (7, .int v51), (0, .ref 97), (1, .int x), (2, .int z)]) (fun _ => rfl) (fun v124 ev124 => ?_)
                have hup := bst_upd (wants := (bM b == sd)) (f := (valF F sd 2 b w)) (j := j) (z4 := wz4) (z6 := wz6) (fl := bI (j = 0)) (own := v24) (u := v124) (fun i _ => (by show val F sd 2 (playB F b w ((mvs F b w)[i]?)) < 2 ^ 31; have h9 := val_le (F := F) (sd := sd) 2 (playB F b w ((mvs F b w)[i]?)); have h8 := pw3 (a := allO F) (k := 2) hAO (by decide); omega)) h4 h6 rfl h24 (by
                  rw [ev124, e121, ev104, hvf]
                  first
                  | (rw [bI_t (c := j = 0) ((nI_eq (b := 0) (by omega) (by decide)).mp c108)]; done)
                  | (rw [bI_f (c := j = 0) (fun h => c108 (by rw [h]; rfl))]; done))
                refine g_iload C (pc := 126) dX12_windOfThree_126 0 rfl ?_
                refine g_if_eq C (pc := 128) 136 dX12_windOfThree_128 (by decide) (fun c128 => ?_) (fun c128 => ?_)
                · refine g_iload C (pc := 136) dX12_windOfThree_136 4 rfl ?_
                  refine g_istore C (pc := 138) dX12_windOfThree_138 (by decide) (fun v138 => [(6, .int v138), (11, .int v124), (9, .long v104), (8, .int (nI j)), (4, .long wz4), (3, .int v24), (7, .int v51), (0, .ref 97), (1, .int x), (2, .int z)]) (fun _ => rfl) (fun v138 ev138 => ?_)
                  refine g_iload C (pc := 140) dX12_windOfThree_140 1 rfl ?_
                  refine g_if_eq C (pc := 142) 150 dX12_windOfThree_142 (by decide) (fun c142 => ?_) (fun c142 => ?_)
                  · refine g_lload C (pc := 150) dX12_windOfThree_150 4 rfl ?_
                    refine g_lstore C (pc := 152) dX12_windOfThree_152 (by decide) (fun v152 => [(4, .long v152), (6, .int v138), (11, .int v124), (9, .long v104), (8, .int (nI j)), (3, .int v24), (7, .int v51), (0, .ref 97), (1, .int x), (2, .int z)]) (fun _ => rfl) (fun v152 ev152 => ?_)
                    refine g_iinc C (pc := 154) (1) dX12_windOfThree_154 4 rfl (by decide) (by decide) (fun v154 => [(8, .int v154), (4, .long v152), (6, .int v138), (11, .int v124), (9, .long v104), (3, .int v24), (7, .int v51), (0, .ref 97), (1, .int x), (2, .int z)]) (fun _ => rfl) (fun v154 ev154 => ?_)
                    refine g_goto C (pc := 157) 56 dX12_windOfThree_157 (by decide) ?_
                    refine g_lv C [0, 1, 2, 5, 6, 7, 8, 9] rfl (ih56 (j + 1) _ _ _ _ ?_ ?_ ?_ ?_ ?_ ?_ ?_ (by omega))
                    · subst ev154; exact nI_1 _
                    · omega
                    · rw [ev152]; first | exact (ev104.trans hvf).trans (hup.1 c128).1 | exact (hup.2 c128).1
                    · rw [ev138]; first | exact (hup.1 c128).2 | exact (hup.2 c128).2
                    · exact hsv2.lw hlI hn6
                    · exact hfm2.lw hlI hn6
                    · exact hlw2.trans (hlI.up (by decide))
                  · exact absurd c128 c142
                · refine g_iload C (pc := 131) dX12_windOfThree_131 2 rfl ?_
                  refine g_goto C (pc := 133) 138 dX12_windOfThree_133 (by decide) ?_
                  refine g_istore C (pc := 138) dX12_windOfThree_138 (by decide) (fun v138 => [(6, .int v138), (11, .int v124), (9, .long v104), (8, .int (nI j)), (4, .long wz4), (3, .int v24), (7, .int v51), (0, .ref 97), (1, .int x), (2, .int z)]) (fun _ => rfl) (fun v138 ev138 => ?_)
                  refine g_iload C (pc := 140) dX12_windOfThree_140 1 rfl ?_
                  refine g_if_eq C (pc := 142) 150 dX12_windOfThree_142 (by decide) (fun c142 => ?_) (fun c142 => ?_)
                  · exact absurd c142 c128
                  · refine g_lload C (pc := 145) dX12_windOfThree_145 2 rfl ?_
                    refine g_goto C (pc := 147) 152 dX12_windOfThree_147 (by decide) ?_
                    refine g_lstore C (pc := 152) dX12_windOfThree_152 (by decide) (fun v152 => [(4, .long v152), (6, .int v138), (11, .int v124), (9, .long v104), (8, .int (nI j)), (3, .int v24), (7, .int v51), (0, .ref 97), (1, .int x), (2, .int z)]) (fun _ => rfl) (fun v152 ev152 => ?_)
                    refine g_iinc C (pc := 154) (1) dX12_windOfThree_154 4 rfl (by decide) (by decide) (fun v154 => [(8, .int v154), (4, .long v152), (6, .int v138), (11, .int v124), (9, .long v104), (3, .int v24), (7, .int v51), (0, .ref 97), (1, .int x), (2, .int z)]) (fun _ => rfl) (fun v154 ev154 => ?_)
                    refine g_goto C (pc := 157) 56 dX12_windOfThree_157 (by decide) ?_
                    refine g_lv C [0, 1, 2, 5, 6, 7, 8, 9] rfl (ih56 (j + 1) _ _ _ _ ?_ ?_ ?_ ?_ ?_ ?_ ?_ (by omega))
                    · subst ev154; exact nI_1 _
                    · omega
                    · rw [ev152]; first | exact (ev104.trans hvf).trans (hup.1 c128).1 | exact (hup.2 c128).1
                    · rw [ev138]; first | exact (hup.1 c128).2 | exact (hup.2 c128).2
                    · exact hsv2.lw hlI hn6
                    · exact hfm2.lw hlI hn6
                    · exact hlw2.trans (hlI.up (by decide))
            · have hjl : (mvs F b w).length = 0 := by
                have h9 : I65 109 2 = 0 := c76
                rw [hfm2.1] at h9
                exact (nI_eq (b := 0) (by omega) (by decide)).mp h9
              have hmx9 : (-4 : Int32) = oI ((mvs F b w)[j]?) := by rw [List.getElem?_eq_none (by omega)]; rfl
              refine g_bipush C (pc := 79) (-4) dX12_windOfThree_79 (by decide) ?_
              refine g_goto C (pc := 81) 95 dX12_windOfThree_81 (by decide) ?_
              refine g_callVI C (pc := 95) mf_X12_goes lk_RX12_251 (c_X12_goesE n ρ I65 F b w ((mvs F b w)[j]?) _ z hn9 hms (hqf.kp hlw2.1) hrw f65 hbw hw (mvs_K hrw) (hmx9) hz) (by decide) (Nat.le_refl _) rfl (by first | assumption | rfl | omega) rfl (by first | assumption | rfl | omega) (Nat.le_of_ble_eq_true rfl) dX12_windOfThree_95 (fun v95 I95 h95 => ?_)
              obtain ⟨e95, f95, a95, g95⟩ := h95
              have hl3 : Lw 0 I65 I95 := Lw.qb a95 g95
              replace hlw2 := hlw2
              have hbw2 : BW F (playB F b w ((mvs F b w)[j]?)) := (mvs_K hrw).bw hrw hbw
              have hl12 : L1 F (playB F b w ((mvs F b w)[j]?)) := L1_play hl1
              have hpw2 : PW F (playB F b w ((mvs F b w)[j]?)) := PW_play (mvs_K hrw) hrw hpw
              refine g_pop C (pc := 98) dX12_windOfThree_98 rfl ?_
              refine g_aload_n C (pc := 99) dX12_windOfThree_99 5 rfl ?_
              refine g_iload_n C (pc := 100) dX12_windOfThree_100 6 rfl ?_
              refine g_callVL C (pc := 101) mf_X12_two lk_RX12_281 (c_X12_two n ρ I95 F (playB F b w ((mvs F b w)[j]?)) sd x hn9 hms (hqf.kp (hlw2.trans (hl3.up (by decide))).1) hrw (hqe.kp (hlw2.trans (hl3.up (by decide))).1) f95 hbw2 hl12 hpw2 hsd hx) (by decide) (Nat.le_refl _) rfl (by first | assumption | rfl | omega) rfl (by first | assumption | rfl | omega) (Nat.le_of_ble_eq_true rfl) dX12_windOfThree_101 (fun v101 I101 h101 => ?_)
              obtain ⟨e101, k101⟩ := h101
              have hlI : Lw 2 I65 I101 := (hl3.up (by decide)).trans k101
              have hvf : v101 = lN ((valF F sd 2 b w) j) := e101
              refine g_lstore C (pc := 104) dX12_windOfThree_104 (by decide) (fun v104 => [(9, .long v104), (8, .int (nI j)), (4, .long wz4), (6, .int wz6), (3, .int v24), (7, .int v51), (0, .ref 97), (1, .int x), (2, .int z)]) (fun _ => rfl) (fun v104 ev104 => ?_)
              refine g_iload C (pc := 106) dX12_windOfThree_106 1 rfl ?_
              refine g_if_ne C (pc := 108) 115 dX12_windOfThree_108 (by decide) (fun c108 => ?_) (fun c108 => ?_)
              · refine g_iconst C (pc := 115) 0 dX12_windOfThree_115 (by decide) ?_
                refine g_iload_n C (pc := 116) dX12_windOfThree_116 4 rfl ?_
                refine g_lload C (pc := 117) dX12_windOfThree_117 0 rfl ?_
                refine g_lload C (pc := 119) dX12_windOfThree_119 2 rfl ?_
                refine g_callSI C (pc := 121) mf_X12_isBetter lk_RX12_264 (c_X12_isBetter n ρ _ _ _ _ _ hn9) (by decide) (Nat.le_refl _) rfl (Nat.le_of_ble_eq_true rfl) dX12_windOfThree_121 (fun v121 I121 h121 => ?_)
                obtain ⟨e121, rfl⟩ := h121
                refine g_istore C (pc := 124) dX12_windOfThree_124 (by decide) (fun v124 => [(11, .int v124), (9, .long v104), (8, .int (nI j)), (4, .long wz4), (6, .int wz6), (3, .int v24), (7, .int v51), (0, .ref 97), (1, .int x), (2, .int z)]) (fun _ => rfl) (fun v124 ev124 => ?_)
                have hup := bst_upd (wants := (bM b == sd)) (f := (valF F sd 2 b w)) (j := j) (z4 := wz4) (z6 := wz6) (fl := bI (j = 0)) (own := v24) (u := v124) (fun i _ => (by show val F sd 2 (playB F b w ((mvs F b w)[i]?)) < 2 ^ 31; have h9 := val_le (F := F) (sd := sd) 2 (playB F b w ((mvs F b w)[i]?)); have h8 := pw3 (a := allO F) (k := 2) hAO (by decide); omega)) h4 h6 rfl h24 (by
                  rw [ev124, e121, ev104, hvf]
                  first
                  | (rw [bI_t (c := j = 0) ((nI_eq (b := 0) (by omega) (by decide)).mp c108)]; done)
                  | (rw [bI_f (c := j = 0) (fun h => c108 (by rw [h]; rfl))]; done))
                refine g_iload C (pc := 126) dX12_windOfThree_126 0 rfl ?_
                refine g_if_eq C (pc := 128) 136 dX12_windOfThree_128 (by decide) (fun c128 => ?_) (fun c128 => ?_)
                · refine g_iload C (pc := 136) dX12_windOfThree_136 4 rfl ?_
                  refine g_istore C (pc := 138) dX12_windOfThree_138 (by decide) (fun v138 => [(6, .int v138), (11, .int v124), (9, .long v104), (8, .int (nI j)), (4, .long wz4), (3, .int v24), (7, .int v51), (0, .ref 97), (1, .int x), (2, .int z)]) (fun _ => rfl) (fun v138 ev138 => ?_)
                  refine g_iload C (pc := 140) dX12_windOfThree_140 1 rfl ?_
                  refine g_if_eq C (pc := 142) 150 dX12_windOfThree_142 (by decide) (fun c142 => ?_) (fun c142 => ?_)
                  · refine g_lload C (pc := 150) dX12_windOfThree_150 4 rfl ?_
                    refine g_lstore C (pc := 152) dX12_windOfThree_152 (by decide) (fun v152 => [(4, .long v152), (6, .int v138), (11, .int v124), (9, .long v104), (8, .int (nI j)), (3, .int v24), (7, .int v51), (0, .ref 97), (1, .int x), (2, .int z)]) (fun _ => rfl) (fun v152 ev152 => ?_)
                    refine g_iinc C (pc := 154) (1) dX12_windOfThree_154 4 rfl (by decide) (by decide) (fun v154 => [(8, .int v154), (4, .long v152), (6, .int v138), (11, .int v124), (9, .long v104), (3, .int v24), (7, .int v51), (0, .ref 97), (1, .int x), (2, .int z)]) (fun _ => rfl) (fun v154 ev154 => ?_)
                    refine g_goto C (pc := 157) 56 dX12_windOfThree_157 (by decide) ?_
                    refine g_lv C [0, 1, 2, 5, 6, 7, 8, 9] rfl (ih56 (j + 1) _ _ _ _ ?_ ?_ ?_ ?_ ?_ ?_ ?_ (by omega))
                    · subst ev154; exact nI_1 _
                    · omega
                    · rw [ev152]; first | exact (ev104.trans hvf).trans (hup.1 c128).1 | exact (hup.2 c128).1
                    · rw [ev138]; first | exact (hup.1 c128).2 | exact (hup.2 c128).2
                    · exact hsv2.lw hlI hn6
                    · exact hfm2.lw hlI hn6
                    · exact hlw2.trans (hlI.up (by decide))
                  · exact absurd c128 c142
                · refine g_iload C (pc := 131) dX12_windOfThree_131 2 rfl ?_
                  refine g_goto C (pc := 133) 138 dX12_windOfThree_133 (by decide) ?_
                  refine g_istore C (pc := 138) dX12_windOfThree_138 (by decide) (fun v138 => [(6, .int v138), (11, .int v124), (9, .long v104), (8, .int (nI j)), (4, .long wz4), (3, .int v24), (7, .int v51), (0, .ref 97), (1, .int x), (2, .int z)]) (fun _ => rfl) (fun v138 ev138 => ?_)
                  refine g_iload C (pc := 140) dX12_windOfThree_140 1 rfl ?_
                  refine g_if_eq C (pc := 142) 150 dX12_windOfThree_142 (by decide) (fun c142 => ?_) (fun c142 => ?_)
                  · exact absurd c142 c128
                  · refine g_lload C (pc := 145) dX12_windOfThree_145 2 rfl ?_
                    refine g_goto C (pc := 147) 152 dX12_windOfThree_147 (by decide) ?_
                    refine g_lstore C (pc := 152) dX12_windOfThree_152 (by decide) (fun v152 => [(4, .long v152), (6, .int v138), (11, .int v124), (9, .long v104), (8, .int (nI j)), (3, .int v24), (7, .int v51), (0, .ref 97), (1, .int x), (2, .int z)]) (fun _ => rfl) (fun v152 ev152 => ?_)
                    refine g_iinc C (pc := 154) (1) dX12_windOfThree_154 4 rfl (by decide) (by decide) (fun v154 => [(8, .int v154), (4, .long v152), (6, .int v138), (11, .int v124), (9, .long v104), (3, .int v24), (7, .int v51), (0, .ref 97), (1, .int x), (2, .int z)]) (fun _ => rfl) (fun v154 ev154 => ?_)
                    refine g_goto C (pc := 157) 56 dX12_windOfThree_157 (by decide) ?_
                    refine g_lv C [0, 1, 2, 5, 6, 7, 8, 9] rfl (ih56 (j + 1) _ _ _ _ ?_ ?_ ?_ ?_ ?_ ?_ ?_ (by omega))
                    · subst ev154; exact nI_1 _
                    · omega
                    · rw [ev152]; first | exact (ev104.trans hvf).trans (hup.1 c128).1 | exact (hup.2 c128).1
                    · rw [ev138]; first | exact (hup.1 c128).2 | exact (hup.2 c128).2
                    · exact hsv2.lw hlI hn6
                    · exact hfm2.lw hlI hn6
                    · exact hlw2.trans (hlI.up (by decide))
              · refine g_iconst C (pc := 111) 1 dX12_windOfThree_111 (by decide) ?_
                refine g_goto C (pc := 112) 116 dX12_windOfThree_112 (by decide) ?_
                refine g_iload_n C (pc := 116) dX12_windOfThree_116 4 rfl ?_
                refine g_lload C (pc := 117) dX12_windOfThree_117 0 rfl ?_
                refine g_lload C (pc := 119) dX12_windOfThree_119 2 rfl ?_
                refine g_callSI C (pc := 121) mf_X12_isBetter lk_RX12_264 (c_X12_isBetter n ρ _ _ _ _ _ hn9) (by decide) (Nat.le_refl _) rfl (Nat.le_of_ble_eq_true rfl) dX12_windOfThree_121 (fun v121 I121 h121 => ?_)
                obtain ⟨e121, rfl⟩ := h121
                refine g_istore C (pc := 124) dX12_windOfThree_124 (by decide) (fun v124 => [(11, .int v124), (9, .long v104), (8, .int (nI j)), (4, .long wz4), (6, .int wz6), (3, .int v24), (7, .int v51), (0, .ref 97), (1, .int x), (2, .int z)]) (fun _ => rfl) (fun v124 ev124 => ?_)
                have hup := bst_upd (wants := (bM b == sd)) (f := (valF F sd 2 b w)) (j := j) (z4 := wz4) (z6 := wz6) (fl := bI (j = 0)) (own := v24) (u := v124) (fun i _ => (by show val F sd 2 (playB F b w ((mvs F b w)[i]?)) < 2 ^ 31; have h9 := val_le (F := F) (sd := sd) 2 (playB F b w ((mvs F b w)[i]?)); have h8 := pw3 (a := allO F) (k := 2) hAO (by decide); omega)) h4 h6 rfl h24 (by
                  rw [ev124, e121, ev104, hvf]
                  first
                  | (rw [bI_t (c := j = 0) ((nI_eq (b := 0) (by omega) (by decide)).mp c108)]; done)
                  | (rw [bI_f (c := j = 0) (fun h => c108 (by rw [h]; rfl))]; done))
                refine g_iload C (pc := 126) dX12_windOfThree_126 0 rfl ?_
                refine g_if_eq C (pc := 128) 136 dX12_windOfThree_128 (by decide) (fun c128 => ?_) (fun c128 => ?_)
                · refine g_iload C (pc := 136) dX12_windOfThree_136 4 rfl ?_
                  refine g_istore C (pc := 138) dX12_windOfThree_138 (by decide) (fun v138 => [(6, .int v138), (11, .int v124), (9, .long v104), (8, .int (nI j)), (4, .long wz4), (3, .int v24), (7, .int v51), (0, .ref 97), (1, .int x), (2, .int z)]) (fun _ => rfl) (fun v138 ev138 => ?_)
                  refine g_iload C (pc := 140) dX12_windOfThree_140 1 rfl ?_
                  refine g_if_eq C (pc := 142) 150 dX12_windOfThree_142 (by decide) (fun c142 => ?_) (fun c142 => ?_)
                  · refine g_lload C (pc := 150) dX12_windOfThree_150 4 rfl ?_
                    refine g_lstore C (pc := 152) dX12_windOfThree_152 (by decide) (fun v152 => [(4, .long v152), (6, .int v138), (11, .int v124), (9, .long v104), (8, .int (nI j)), (3, .int v24), (7, .int v51), (0, .ref 97), (1, .int x), (2, .int z)]) (fun _ => rfl) (fun v152 ev152 => ?_)
                    refine g_iinc C (pc := 154) (1) dX12_windOfThree_154 4 rfl (by decide) (by decide) (fun v154 => [(8, .int v154), (4, .long v152), (6, .int v138), (11, .int v124), (9, .long v104), (3, .int v24), (7, .int v51), (0, .ref 97), (1, .int x), (2, .int z)]) (fun _ => rfl) (fun v154 ev154 => ?_)
                    refine g_goto C (pc := 157) 56 dX12_windOfThree_157 (by decide) ?_
                    refine g_lv C [0, 1, 2, 5, 6, 7, 8, 9] rfl (ih56 (j + 1) _ _ _ _ ?_ ?_ ?_ ?_ ?_ ?_ ?_ (by omega))
                    · subst ev154; exact nI_1 _
                    · omega
                    · rw [ev152]; first | exact (ev104.trans hvf).trans (hup.1 c128).1 | exact (hup.2 c128).1
                    · rw [ev138]; first | exact (hup.1 c128).2 | exact (hup.2 c128).2
                    · exact hsv2.lw hlI hn6
                    · exact hfm2.lw hlI hn6
                    · exact hlw2.trans (hlI.up (by decide))
                  · exact absurd c128 c142
                · refine g_iload C (pc := 131) dX12_windOfThree_131 2 rfl ?_
                  refine g_goto C (pc := 133) 138 dX12_windOfThree_133 (by decide) ?_
                  refine g_istore C (pc := 138) dX12_windOfThree_138 (by decide) (fun v138 => [(6, .int v138), (11, .int v124), (9, .long v104), (8, .int (nI j)), (4, .long wz4), (3, .int v24), (7, .int v51), (0, .ref 97), (1, .int x), (2, .int z)]) (fun _ => rfl) (fun v138 ev138 => ?_)
                  refine g_iload C (pc := 140) dX12_windOfThree_140 1 rfl ?_
                  refine g_if_eq C (pc := 142) 150 dX12_windOfThree_142 (by decide) (fun c142 => ?_) (fun c142 => ?_)
                  · exact absurd c142 c128
                  · refine g_lload C (pc := 145) dX12_windOfThree_145 2 rfl ?_
                    refine g_goto C (pc := 147) 152 dX12_windOfThree_147 (by decide) ?_
                    refine g_lstore C (pc := 152) dX12_windOfThree_152 (by decide) (fun v152 => [(4, .long v152), (6, .int v138), (11, .int v124), (9, .long v104), (8, .int (nI j)), (3, .int v24), (7, .int v51), (0, .ref 97), (1, .int x), (2, .int z)]) (fun _ => rfl) (fun v152 ev152 => ?_)
                    refine g_iinc C (pc := 154) (1) dX12_windOfThree_154 4 rfl (by decide) (by decide) (fun v154 => [(8, .int v154), (4, .long v152), (6, .int v138), (11, .int v124), (9, .long v104), (3, .int v24), (7, .int v51), (0, .ref 97), (1, .int x), (2, .int z)]) (fun _ => rfl) (fun v154 ev154 => ?_)
                    refine g_goto C (pc := 157) 56 dX12_windOfThree_157 (by decide) ?_
                    refine g_lv C [0, 1, 2, 5, 6, 7, 8, 9] rfl (ih56 (j + 1) _ _ _ _ ?_ ?_ ?_ ?_ ?_ ?_ ?_ (by omega))
                    · subst ev154; exact nI_1 _
                    · omega
                    · rw [ev152]; first | exact (ev104.trans hvf).trans (hup.1 c128).1 | exact (hup.2 c128).1
                    · rw [ev138]; first | exact (hup.1 c128).2 | exact (hup.2 c128).2
                    · exact hsv2.lw hlI hn6
                    · exact hfm2.lw hlI hn6
                    · exact hlw2.trans (hlI.up (by decide))
      refine g_lv C [0, 3, 2, 4, 1, 5, 6, 7] rfl (L56 (_ + 1) 0 _ _ _ _ ?_ ?_ ?_ ?_ ?_ ?_ ?_ (by first | omega | exact Nat.lt_succ_self _))
      · subst ev54; rfl
      · omega
      · subst ev26; rfl
      · subst ev30; rfl
      · exact f8
      · exact f3.cong (by rw [g8 109 (by decide)]) (fun z _ _ => by rw [g8 108 (by decide)]) hn6
      · exact (Lw.fm a3 b3 g3).trans (Lw.sv a8 g8)
