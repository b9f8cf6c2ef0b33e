theorem c_X8_listMovesE (n : Nat) (ρ : Rho) (I : Mem) (s r wd t : Nat) (F : RT) (b : BT) (x : Int32) (hn9 : n ≤ 999) (hst : St n ρ s) (hrf : Rf n ρ r) (hrr : RR I r F) (hrw : RW F) (hbr : BR I s F b) (hbw : BW F b) (hwd : wd < 5) (hts : shp t = (0, 24)) (htn : t < n) (htd : ∀ i, i ≤ 3 → t ≠ s + i ∧ t ≠ r + i) (hx : x = nI wd) : MI yX8_listMoves cX8_listMoves 8 (some .int) 3 [.ref s, .ref r, .int x, .ref t] n ρ I (fun v I1 => v = nI (mvs F b wd).length ∧ (∀ k m, (mvs F b wd)[k]? = some m → I1 t k = nI m) ∧ ∀ i, i ≠ t → I1 i = I i) := by
  subst hx
  exact c_X8_listMoves n ρ I s r wd t F b hn9 hst hrf hrr hrw hbr hbw hwd hts htn htd
theorem c_X8_playE (n : Nat) (ρ : Rho) (I : Mem) (s r wd : Nat) (F : RT) (b : BT) (mv : Option Nat) (z x : Int32) (hn9 : n ≤ 999) (hst : St n ρ s) (hrf : Rf n ρ r) (hrr : RR I r F) (hrw : RW F) (hbr : BR I s F b) (hbw : BW F b) (hdis : Dis r s) (hwd : wd < 5) (hm : ∀ m, mv = some m → m / 100 < rN F ∧ m % 100 < 25) (hx : x = oI mv) (hz : z = nI wd) : MI yX8_play cX8_play 6 (some .int) 2 [.ref s, .ref r, .int z, .int x] n ρ I (fun v I1 => v = oI (mv.bind (fun m => pon F b (m % 100))) ∧ BR I1 s F (playB F b wd mv) ∧ ∀ i, i ≠ s → i ≠ s + 1 → i ≠ s + 2 → i ≠ s + 3 → I1 i = I i) := by
  subst hz
  exact c_X8_play n ρ I s r wd F b mv x hn9 hst hrf hrr hrw hbr hbw hdis hwd hm hx
/-- games by a seed -/
def galN (s : Int32) : Nat := vU s / 65536 % 32768
theorem galN_lt (s : Int32) : galN s < 32768 := Nat.mod_lt _ (by decide)
theorem gal_n (s : Int32) : (s.toUInt32 >>> ((16 : Int32).toUInt32 &&& Int32.toUInt32 31)).toInt32 &&& 32767 = nI (galN s) := by
  apply vU_inj
  have h := galN_lt s
  have h1 : vU ((s.toUInt32 >>> ((16 : Int32).toUInt32 &&& Int32.toUInt32 31)).toInt32) = vU s / 65536 := vU_shr 16 (by decide) s
  have h2 : vU (32767 : Int32) = 2 ^ 15 - 1 := by decide +kernel
  rw [vU_and, h1, h2, Nat.and_two_pow_sub_one_eq_mod, vU_nI (by omega)]
  rfl
def galS (F : RT) : Nat → Int32 → BT → Nat × BT
  | 0, _, b => (0, b)
  | k + 1, s, b => if lostP F b = none then (fun q : Nat × BT => (q.1 + 1, q.2)) (galS F k (s * 1103515245 + 12345) (playB F b (windN (rOd F) 5 0 (galN (s * 1103515245 + 12345) % allO F)) ((mvs F b (windN (rOd F) 5 0 (galN (s * 1103515245 + 12345) % allO F)))[0]?))) else (0, b)
theorem galS_over {F : RT} {b : BT} {s : Int32} (h : lostP F b ≠ none) : ∀ k, galS F k s b = (0, b)
  | 0 => rfl
  | k + 1 => by rw [galS, if_neg h]
theorem wind5 {F : RT} (h : RW F) {z : Nat} (hp : 0 < allO F) : windN (rOd F) 5 0 (z % allO F) < 5 := by
  rcases Nat.lt_or_ge (windN (rOd F) 5 0 (z % allO F)) 5 with h1 | h1
  · exact h1
  · exact (windN_no h hp h1).elim
/-- what is blown -/
def blwA (F : RT) (b : BT) (tn : Nat) (tl : Nat → Nat) (u : Int32) : Int32 := match blowF F b tn tl (pw 5 tn) with
  | none => -4
  | some (f, k) => if u = 0 then nI f else if (u - 10).toNatClampNeg < tn then nI (dig5 tn k (u - 10).toNatClampNeg) else -4
/-- a Game's contents come to another -/
def CpG (I I1 : Mem) (g o : Nat) : Prop := ((∀ k, k < 6 → I1 (g + 2) k = I (o + 2) k) ∧ (∀ k, k < 6 → I1 (g + 3) k = I (o + 3) k) ∧ (∀ k, k < 5 → I1 (g + 4) k = I (o + 4) k) ∧ (∀ k, 3 ≤ k → k < 7 → I1 (g + 1) k = I (o + 1) k)) ∧ ((∀ k, k < 6 → I1 (g + 6) k = I (o + 6) k) ∧ (∀ k, k < 6 → I1 (g + 7) k = I (o + 7) k) ∧ (∀ k, k < 2 → I1 (g + 8) k = I (o + 8) k) ∧ I1 (g + 5) 3 = I (o + 5) 3) ∧ ((∀ k, k < 8 → I1 (g + 9) k = I (o + 9) k) ∧ (∀ k, k < 8 → I1 (g + 10) k = I (o + 10) k) ∧ (∀ k, k < 3 → I1 (g + 11) k = I (o + 11) k) ∧ I1 g 5 = I o 5 ∧ I1 g 6 = I o 6 ∧ I1 g 7 = I o 7) ∧ ∀ i, ¬ (g ≤ i ∧ i ≤ g + 11) → I1 i = I i
/-- the sheets, as the heap holds them: lanes, sizes, cells from these objects on -/
def ShR (I : Mem) (q : Nat) (ln : Nat → Option Nat) (sz : Nat → Nat) (cl : Nat → Nat → Int32) : Prop := ∀ k, k < 4 → I (q + 1) k = oI (ln k) ∧ I (q + 2) k = nI (sz k) ∧ sz k ≤ 40 ∧ (∀ l, ln k = some l → l < 3) ∧ ∀ i, i < sz k → I (q + 4 + k) i = cl k i
theorem sz_at {I : Mem} {q k : Nat} {ln : Nat → Option Nat} {sz : Nat → Nat} {cl : Nat → Nat → Int32} (h : ShR I q ln sz cl) (hk : k < 4) : (if 0 ≤ nI k ∧ nI k < 4 ∧ I (q + 1) (nI k).toNatClampNeg ≠ -4 then I (q + 2) (nI k).toNatClampNeg else -4) = oI ((ln k).map (fun _ => sz k)) := by
  obtain ⟨h1, h2, h3, h4, -⟩ := h k hk
  rw [nI_clamp (by omega), h1, h2]
  cases e : ln k with
  | none => rw [if_neg (fun h => h.2.2 rfl)]; rfl
  | some l => rw [if_pos ⟨nI_pos' (by omega), nI_lt (b := 4) hk (by decide), nI_ne4 (by have := h4 l e; omega)⟩]; rfl
def cutL (l : Nat) (w : Int32) : Int32 := if l = 0 then w.toInt8.toInt32 else if l = 1 then w.toInt16.toInt32 else w
theorem lt61 {x : Int32} (h : x ≤ 60) : x < nI 61 := by
  have := Int32.le_iff_toInt_le.mp h
  rw [Int32.lt_iff_toInt_lt]
  have h1 : (60 : Int32).toInt = 60 := by decide
  have h2 : (nI 61).toInt = 61 := by decide
  omega
set_option maxHeartbeats 400000 in
theorem c_X11_blow (n : Nat) (ρ : Rho) (I : Mem) (F : RT) (b : BT) (tn : Nat) (tl : Nat → Nat) (u : Int32) (hn9 : n ≤ 999) (hxs : XS n ρ) (hrr : RR I (1 + 1) F) (hrw : RW F) (hbr : BR I (1 + 5) F b) (hbw : BW F b) (htn : I 1 7 = nI tn) (ht3 : tn ≤ 3) (htl : ∀ x, x < tn → I 12 x = nI (tl x) ∧ tl x < 5) : MI yX11_blow cX11_blow 3 (some .int) 22 [.ref 0, .int u] n ρ I (fun v I1 => ((¬ (u = 0 ∨ (10 ≤ u ∧ u ≤ 12)) ∧ v = -1) ∨ ((u = 0 ∨ (10 ≤ u ∧ u ≤ 12)) ∧ ((¬ lostB F b = none ∧ v = -2) ∨ (lostB F b = none ∧ v = blwA F b tn tl u)))) ∧ ∀ i, ¬ (29 ≤ i ∧ i ≤ 60) → I1 i = I i) := by
  refine MG.of (by decide +kernel) (Nat.le_of_ble_eq_true rfl) hn9 ?_
  intro κ C hR
  show G κ n ρ 0 [(0, .ref 0), (1, .int u)] [] I
  obtain ⟨hxc, ⟨xb1, xb2, xb3, xb4, xb5, xb6, xb8⟩, ⟨xi0, xi1, xga, xgb⟩, ⟨xt0, xt1, xgd⟩, hch, ⟨xr0, xr1, xr2⟩, xa0, ⟨xw0, xw1⟩, xst⟩ := id hxs
  obtain ⟨xc0, xcn, xc1, hga, xc7, hss⟩ := id hxc
  have xcz : 0 < n := by omega
  obtain ⟨ga0, ga1, ga2, ga3, ga4, ga5, ga6, ga7, ga8, gan, hrf, hst⟩ := id hga
  have hrf0 := hrf.1
  have hst0 := hst.1
  have hsp := hch.sp
  obtain ⟨hp0, hpn, hp1, hp2, hp3, hp4⟩ := id hsp
  have hnp : rN F ≤ 6 := hrw.2.2.2.2.1
  have hN := hrr.2.2.1
  refine g_iload_n C (pc := 0) dX11_blow_0 1 rfl ?_
  refine g_callSI C (pc := 1) mf_X11_isAsked lk_RX11_240 (c_X11_isAsked n ρ I u hn9) (by decide) (Nat.le_refl _) rfl (Nat.le_of_ble_eq_true rfl) dX11_blow_1 (fun v1 I1 h1 => ?_)
  obtain ⟨e1, rfl⟩ := h1
  refine g_if_ne C (pc := 4) 9 dX11_blow_4 (by decide) (fun c4 => ?_) (fun c4 => ?_)
  · have hu := bI_1.mp (fun h => c4 (e1.trans h))
    refine g_aload_n C (pc := 9) dX11_blow_9 0 rfl ?_
    refine g_callVI C (pc := 10) mf_X11_isOver lk_RX11_226 (c_X11_isOver n ρ I F b hn9 hxs hrr hrw hbr hbw) (by decide) (Nat.le_refl _) rfl (by first | assumption | rfl | omega) rfl (by first | assumption | rfl | omega) (Nat.le_of_ble_eq_true rfl) dX11_blow_10 (fun v10 I10 h10 => ?_)
    obtain ⟨e10, rfl⟩ := h10
    refine g_if_eq C (pc := 13) 19 dX11_blow_13 (by decide) (fun c13 => ?_) (fun c13 => ?_)
    · have hov : lostB F b = none := Decidable.not_not.mp (bI_0.mp (e10.symm.trans c13))
      have hno := lostB_none.mp hov
      refine g_aload_n C (pc := 19) dX11_blow_19 0 rfl ?_
      refine g_getR C (pc := 20) fl_RX11_49 (by decide) (by first | assumption | rfl | omega) (by first | assumption | rfl | omega) (by first | assumption | rfl | omega) dX11_blow_20 ?_
      refine g_aload_n C (pc := 23) dX11_blow_23 0 rfl ?_
      refine g_getR C (pc := 24) fl_RX11_10 (by decide) (by first | assumption | rfl | omega) (by first | assumption | rfl | omega) (by first | assumption | rfl | omega) dX11_blow_24 ?_
      refine g_aload_n C (pc := 27) dX11_blow_27 0 rfl ?_
      refine g_getR C (pc := 28) fl_RX11_35 (by decide) (by first | assumption | rfl | omega) (by first | assumption | rfl | omega) (by first | assumption | rfl | omega) dX11_blow_28 ?_
      refine g_callVV C (pc := 31) mf_X1_find lk_RX11_283 (c_X1_find n ρ I 58 1 47 tn tl F b hn9 rfl xw0 xw1 rfl rfl (by omega) rfl ga5 rfl (by omega) ga1 ga2 hrf hst (hch.of3 ht3) hrr hrw hbr hbw ht3 htn htl (by omega) (by omega)) (by decide) (Nat.le_refl _) rfl (by first | assumption | rfl | omega) rfl (by first | assumption | rfl | omega) (Nat.le_of_ble_eq_true rfl) dX11_blow_31 (fun I31 h31 => ?_)
      obtain ⟨a31, b31, g31⟩ := h31
      have hfr : ∀ i, ¬ (29 ≤ i ∧ i ≤ 60) → I31 i = I i := fun i hi => g31 i (by omega) (by omega) (by omega) (by omega)
      have hfl : ∀ f k, (blowF F b tn tl (pw 5 tn)) = some (f, k) → f ≤ tn := fun f k h => (blowF_le h).1
      refine g_aload_n C (pc := 34) dX11_blow_34 0 rfl ?_
      refine g_getR C (pc := 35) fl_RX11_49 (by decide) (by first | assumption | rfl | omega) (by first | assumption | rfl | omega) (by first | assumption | rfl | omega) dX11_blow_35 ?_
      refine g_getI C (pc := 38) fl_RX11_286 (by decide) (by first | assumption | rfl | omega) (by first | assumption | rfl | omega) dX11_blow_38 ?_
      refine g_bipush C (pc := 41) (-4) dX11_blow_41 (by decide) ?_
      refine g_icmp_eq C (pc := 43) 50 dX11_blow_43 (by decide) (fun c43 => ?_) (fun c43 => ?_)
      · have hRz : (blowF F b tn tl (pw 5 tn)) = none := by
          rw [a31] at c43
          cases h9 : (blowF F b tn tl (pw 5 tn)) with
          | none => rfl
          | some q => rw [h9] at c43; exact absurd c43 (nI_ne4 (by have := hfl q.1 q.2 h9; omega))
        refine g_aload_n C (pc := 50) dX11_blow_50 0 rfl ?_
        refine g_getR C (pc := 51) fl_RX11_49 (by decide) (by first | assumption | rfl | omega) (by first | assumption | rfl | omega) (by first | assumption | rfl | omega) dX11_blow_51 ?_
        refine g_getI C (pc := 54) fl_RX11_286 (by decide) (by first | assumption | rfl | omega) (by first | assumption | rfl | omega) dX11_blow_54 ?_
        refine g_iret C hR (pc := 57) rfl dX11_blow_57 ?_
        refine ⟨rfl, _, rfl, ?_⟩
        refine ⟨Or.inr ⟨hu, Or.inr ⟨hov, ?_⟩⟩, hfr⟩
        unfold blwA
        first | (rw [a31, hRz]; done) | (rw [a31, hRz]; exact (if_pos hu0).symm) | (rw [a31, hRz]; rfl)
      · obtain ⟨f, kk, hRz⟩ : ∃ f k, (blowF F b tn tl (pw 5 tn)) = some (f, k) := by
          cases h9 : (blowF F b tn tl (pw 5 tn)) with
          | none => exact absurd (by rw [a31, h9]; rfl) c43
          | some q => exact ⟨q.1, q.2, rfl⟩
        refine g_iload_n C (pc := 46) dX11_blow_46 1 rfl ?_
        refine g_if_ne C (pc := 47) 58 dX11_blow_47 (by decide) (fun c47 => ?_) (fun c47 => ?_)
        · have hu0 : ¬ u = 0 := c47
          obtain ⟨i9, hi9, hu9⟩ := asked_of hu hu0
          refine g_iload_n C (pc := 58) dX11_blow_58 1 rfl ?_
          refine g_bipush C (pc := 59) 10 dX11_blow_59 (by decide) ?_
          refine g_isub C (pc := 61) dX11_blow_61 ?_
          refine g_istore_n C (pc := 62) dX11_blow_62 (by decide) (fun v62 => [(2, .int v62), (0, .ref 0), (1, .int u)]) (fun _ => rfl) (fun v62 ev62 => ?_)
          refine g_iload_n C (pc := 63) dX11_blow_63 0 rfl ?_
          refine g_aload_n C (pc := 64) dX11_blow_64 1 rfl ?_
          refine g_getR C (pc := 65) fl_RX11_10 (by decide) (by first | assumption | rfl | omega) (by first | assumption | rfl | omega) (by first | assumption | rfl | omega) dX11_blow_65 ?_
          refine g_getI C (pc := 68) fl_RX11_280 (by decide) (by first | assumption | rfl | omega) (by first | assumption | rfl | omega) dX11_blow_68 ?_
          refine g_icmp_ge C (pc := 71) 85 dX11_blow_71 (by decide) (fun c71 => ?_) (fun c71 => ?_)
          · have hge : tn ≤ i9 := by
              rw [hfr 1 (by decide), htn, ev62, hu9, nI_leI (by omega) (by omega)] at c71
              exact c71
            refine g_bipush C (pc := 85) (-4) dX11_blow_85 (by decide) ?_
            refine g_iret C hR (pc := 87) rfl dX11_blow_87 ?_
            refine ⟨rfl, _, rfl, ?_⟩
            refine ⟨Or.inr ⟨hu, Or.inr ⟨hov, ?_⟩⟩, hfr⟩
            unfold blwA
            rw [hRz]
            show _ = (if u = 0 then _ else _)
            rw [if_neg hu0, hu9, nI_clamp (by omega)]
            first | (rw [if_neg (by omega)]; done) | (rw [if_pos hlt, e79, b31 f kk hRz i9 hlt])
          · have hlt : i9 < tn := by
              rw [hfr 1 (by decide), htn, ev62, hu9, nI_ltI (by omega) (by omega)] at c71
              exact c71
            have hui : v62 = nI i9 := ev62.trans hu9
            refine g_aload_n C (pc := 74) dX11_blow_74 1 rfl ?_
            refine g_getR C (pc := 75) fl_RX11_49 (by decide) (by first | assumption | rfl | omega) (by first | assumption | rfl | omega) (by first | assumption | rfl | omega) dX11_blow_75 ?_
            refine g_iload_n C (pc := 78) dX11_blow_78 0 rfl ?_
            refine g_callVI C (pc := 79) mf_X1_windAt lk_RX11_289 (c_X1_windAt n ρ I31 58 i9 _ hn9 rfl xw0 xw1 rfl rfl (by omega) hi9 hui) (by decide) (Nat.le_refl _) rfl (by first | assumption | rfl | omega) rfl (by first | assumption | rfl | omega) (Nat.le_of_ble_eq_true rfl) dX11_blow_79 (fun v79 I79 h79 => ?_)
            obtain ⟨e79, rfl⟩ := h79
            refine g_goto C (pc := 82) 87 dX11_blow_82 (by decide) ?_
            refine g_iret C hR (pc := 87) rfl dX11_blow_87 ?_
            refine ⟨rfl, _, rfl, ?_⟩
            refine ⟨Or.inr ⟨hu, Or.inr ⟨hov, ?_⟩⟩, hfr⟩
            unfold blwA
            rw [hRz]
            show _ = (if u = 0 then _ else _)
            rw [if_neg hu0, hu9, nI_clamp (by omega)]
            first | (rw [if_neg (by omega)]; done) | (rw [if_pos hlt, e79, b31 f kk hRz i9 hlt])
        · have hu0 : u = 0 := c47
          refine g_aload_n C (pc := 50) dX11_blow_50 0 rfl ?_
          refine g_getR C (pc := 51) fl_RX11_49 (by decide) (by first | assumption | rfl | omega) (by first | assumption | rfl | omega) (by first | assumption | rfl | omega) dX11_blow_51 ?_
          refine g_getI C (pc := 54) fl_RX11_286 (by decide) (by first | assumption | rfl | omega) (by first | assumption | rfl | omega) dX11_blow_54 ?_
          refine g_iret C hR (pc := 57) rfl dX11_blow_57 ?_
          refine ⟨rfl, _, rfl, ?_⟩
          refine ⟨Or.inr ⟨hu, Or.inr ⟨hov, ?_⟩⟩, hfr⟩
          unfold blwA
          first | (rw [a31, hRz]; done) | (rw [a31, hRz]; exact (if_pos hu0).symm) | (rw [a31, hRz]; rfl)
    · have hov : ¬ lostB F b = none := bI_1.mp (fun h => c13 (e10.trans h))
      refine g_bipush C (pc := 16) (-2) dX11_blow_16 (by decide) ?_
      refine g_iret C hR (pc := 18) rfl dX11_blow_18 ?_
      refine ⟨rfl, _, rfl, ?_⟩
      exact ⟨Or.inr ⟨hu, Or.inl ⟨hov, rfl⟩⟩, fun _ _ => rfl⟩
  · have hu := bI_0.mp (e1.symm.trans c4)
    refine g_iconst C (pc := 7) (-1) dX11_blow_7 (by decide) ?_
    refine g_iret C hR (pc := 8) rfl dX11_blow_8 ?_
    refine ⟨rfl, _, rfl, ?_⟩
    exact ⟨Or.inl ⟨hu, rfl⟩, fun _ _ => rfl⟩
set_option maxHeartbeats 400000 in
theorem c_X11_gale (n : Nat) (ρ : Rho) (I : Mem) (F : RT) (b : BT) (x z u : Int32) (hn9 : n ≤ 999) (hxs : XS n ρ) (hrr : RR I (1 + 1) F) (hrw : RW F) (hbr : BR I (1 + 5) F b) (hbw : BW F b) (hao : 0 < allO F) : MI yX11_gale cX11_gale 9 (some .int) 4 [.ref 0, .int x, .int z, .int u] n ρ I (fun v I1 => ((∃ m, (1 ≤ m ∧ m ≤ 60 ∧ z = nI m ∧ (u = 0 ∨ u = 1)) ∧ v = (if u = 0 then nI (galS F m x b).1 else oI (lostB F (galS F m x b).2))) ∨ (¬ (∃ m, (1 ≤ m ∧ m ≤ 60 ∧ z = nI m ∧ (u = 0 ∨ u = 1))) ∧ v = -1)) ∧ ∀ i, ¬ (29 ≤ i ∧ i ≤ 52) → I1 i = I i) := by
  refine MG.of (by decide +kernel) (Nat.le_of_ble_eq_true rfl) hn9 ?_
  intro κ C hR
  show G κ n ρ 0 [(0, .ref 0), (1, .int x), (2, .int z), (3, .int u)] [] I
  obtain ⟨hxc, ⟨xb1, xb2, xb3, xb4, xb5, xb6, xb8⟩, ⟨xi0, xi1, xga, xgb⟩, ⟨xt0, xt1, xgd⟩, hch, ⟨xr0, xr1, xr2⟩, xa0, ⟨xw0, xw1⟩, xst⟩ := id hxs
  obtain ⟨xc0, xcn, xc1, hga, xc7, hss⟩ := id hxc
  have xcz : 0 < n := by omega
  obtain ⟨ga0, ga1, ga2, ga3, ga4, ga5, ga6, ga7, ga8, gan, hrf, hst⟩ := id hga
  have hrf0 := hrf.1
  have hst0 := hst.1
  have hsp := hch.sp
  obtain ⟨hp0, hpn, hp1, hp2, hp3, hp4⟩ := id hsp
  have hnp : rN F ≤ 6 := hrw.2.2.2.2.1
  have hN := hrr.2.2.1
  refine g_iload_n C (pc := 0) dX11_gale_0 2 rfl ?_
  refine g_iconst C (pc := 1) 1 dX11_gale_1 (by decide) ?_
  refine g_icmp_lt C (pc := 2) 18 dX11_gale_2 (by decide) (fun c2 => ?_) (fun c2 => ?_)
  · refine g_iconst C (pc := 18) (-1) dX11_gale_18 (by decide) ?_
    refine g_iret C hR (pc := 19) rfl dX11_gale_19 ?_
    refine ⟨rfl, _, rfl, ?_⟩
    refine ⟨Or.inr ⟨?_, rfl⟩, fun _ _ => rfl⟩
    rintro ⟨m9, h1, h2, h3, h4⟩
    first | exact hu h4 | (rw [h3, show (1 : Int32) = nI 1 from rfl, nI_ltI (by omega) (by decide)] at c2; omega) | (rw [h3, show (60 : Int32) = nI 60 from rfl, nI_ltI (by decide) (by omega)] at c8; omega)
  · refine g_iload_n C (pc := 5) dX11_gale_5 2 rfl ?_
    refine g_bipush C (pc := 6) 60 dX11_gale_6 (by decide) ?_
    refine g_icmp_gt C (pc := 8) 18 dX11_gale_8 (by decide) (fun c8 => ?_) (fun c8 => ?_)
    · refine g_iconst C (pc := 18) (-1) dX11_gale_18 (by decide) ?_
      refine g_iret C hR (pc := 19) rfl dX11_gale_19 ?_
      refine ⟨rfl, _, rfl, ?_⟩
      refine ⟨Or.inr ⟨?_, rfl⟩, fun _ _ => rfl⟩
      rintro ⟨m9, h1, h2, h3, h4⟩
      first | exact hu h4 | (rw [h3, show (1 : Int32) = nI 1 from rfl, nI_ltI (by omega) (by decide)] at c2; omega) | (rw [h3, show (60 : Int32) = nI 60 from rfl, nI_ltI (by decide) (by omega)] at c8; omega)
    · refine g_iload_n C (pc := 11) dX11_gale_11 3 rfl ?_
      refine g_callSI C (pc := 12) mf_X11_isPart lk_RX11_205 (c_X11_isPart n ρ I u hn9) (by decide) (Nat.le_refl _) rfl (Nat.le_of_ble_eq_true rfl) dX11_gale_12 (fun v12 I12 h12 => ?_)
      obtain ⟨e12, rfl⟩ := h12
      refine g_if_ne C (pc := 15) 20 dX11_gale_15 (by decide) (fun c15 => ?_) (fun c15 => ?_)
      · have hu := bI_1.mp (fun h => c15 (e12.trans h))
        obtain ⟨m, hm, hzm⟩ := ix_of (x := z) (n := 61) (by decide) ⟨Int32.le_trans (show (0 : Int32) ≤ 1 by decide) c2, lt61 c8⟩
        have hm1 : 1 ≤ m := by
          rw [hzm, show (1 : Int32) = nI 1 from rfl, nI_leI (by decide) (by omega)] at c2
          exact c2
        refine g_aload_n C (pc := 20) dX11_gale_20 0 rfl ?_
        refine g_getR C (pc := 21) fl_RX11_35 (by decide) (by first | assumption | rfl | omega) (by first | assumption | rfl | omega) (by first | assumption | rfl | omega) dX11_gale_21 ?_
        refine g_getR C (pc := 24) fl_RX11_210 (by decide) (by first | assumption | rfl | omega) (by first | assumption | rfl | omega) (by first | assumption | rfl | omega) dX11_gale_24 ?_
        refine g_astore C (pc := 27) dX11_gale_27 (by decide) (lv' := [(4, .ref 48), (0, .ref 0), (1, .int x), (2, .int z), (3, .int u)]) rfl ?_
        refine g_aload C (pc := 29) dX11_gale_29 0 rfl ?_
        refine g_aload_n C (pc := 31) dX11_gale_31 1 rfl ?_
        refine g_getR C (pc := 32) fl_RX11_10 (by decide) (by first | assumption | rfl | omega) (by first | assumption | rfl | omega) (by first | assumption | rfl | omega) dX11_gale_32 ?_
        refine g_getR C (pc := 35) fl_RX11_122 (by decide) (by first | assumption | rfl | omega) (by first | assumption | rfl | omega) (by first | assumption | rfl | omega) dX11_gale_35 ?_
        refine g_callVV C (pc := 38) mf_X8_copyFrom lk_RX11_211 (c_X8_copyFrom n ρ I (47 + 1) (1 + 5) hn9 hp4 hst (fun i k h1 h2 => by omega)) (by decide) (Nat.le_refl _) rfl (by first | assumption | rfl | omega) rfl (by first | assumption | rfl | omega) (Nat.le_of_ble_eq_true rfl) dX11_gale_38 (fun I38 h38 => ?_)
        obtain ⟨a38, b38, d38, f38, g38⟩ := h38
        refine g_iload_n C (pc := 41) dX11_gale_41 2 rfl ?_
        refine g_istore C (pc := 42) dX11_gale_42 (by decide) (fun v42 => [(5, .int v42), (4, .ref 48), (0, .ref 0), (1, .int x), (2, .int z), (3, .int u)]) (fun _ => rfl) (fun v42 ev42 => ?_)
        refine g_iconst C (pc := 44) 0 dX11_gale_44 (by decide) ?_
        refine g_istore C (pc := 45) dX11_gale_45 (by decide) (fun v45 => [(6, .int v45), (5, .int v42), (4, .ref 48), (0, .ref 0), (1, .int x), (2, .int z), (3, .int u)]) (fun _ => rfl) (fun v45 ev45 => ?_)
        have L47 : ∀ (k9 : Nat) (j : Nat) (bj : BT) (wz6 : Int32) (wz5 : Int32) (J : Mem) (hw6 : wz6 = nI j) (hj : j ≤ m) (hG : galS F m x b = (j + (galS F (m - j) wz5 bj).1, (galS F (m - j) wz5 bj).2)) (hB : BR J 48 F bj) (hW : BW F bj) (hJ : ∀ i, ¬ (29 ≤ i ∧ i ≤ 52) → J i = I i), m - j < k9 → G κ n ρ 47 [(6, .int wz6), (5, .int wz5), (0, .ref 0), (2, .int z), (3, .int u), (4, .ref 48)] [] J := by
          intro k9
          induction k9 with
          | zero => intro j bj wz6 wz5 J hw6 hj hG hB hW hJ hm47; exact absurd hm47 (Nat.not_lt_zero _)
          | succ k9 ih47 =>
            intro j bj wz6 wz5 J hw6 hj hG hB hW hJ hm47
            subst hw6
            have hrrJ : RR J (1 + 1) F := hrr.cong (fun i hi => hJ _ (by omega))
            refine g_iload C (pc := 47) dX11_gale_47 0 rfl ?_
            refine g_iload_n C (pc := 49) dX11_gale_49 3 rfl ?_
            refine g_icmp_ge C (pc := 50) 165 dX11_gale_50 (by decide) (fun c50 => ?_) (fun c50 => ?_)
            · have hend : galS F m x b = (j, bj) := by
                rw [hzm, nI_leI (by omega) (by omega)] at c50
                rw [hG, show m - j = 0 by omega]; rfl
              refine g_iload_n C (pc := 165) dX11_gale_165 4 rfl ?_
              refine g_if_ne C (pc := 166) 174 dX11_gale_166 (by decide) (fun c166 => ?_) (fun c166 => ?_)
              · refine g_aload C (pc := 174) dX11_gale_174 5 rfl ?_
                refine g_aload_n C (pc := 176) dX11_gale_176 2 rfl ?_
                refine g_getR C (pc := 177) fl_RX11_10 (by decide) (by first | assumption | rfl | omega) (by first | assumption | rfl | omega) (by first | assumption | rfl | omega) dX11_gale_177 ?_
                refine g_getR C (pc := 180) fl_RX11_104 (by decide) (by first | assumption | rfl | omega) (by first | assumption | rfl | omega) (by first | assumption | rfl | omega) dX11_gale_180 ?_
                refine g_callVI C (pc := 183) mf_X8_lostSide lk_RX11_131 (c_X8_lostSide n ρ J 48 (1 + 1) (rN F) hn9 hp4 hrf hrrJ.2.2.1 hnp) (by decide) (Nat.le_refl _) rfl (by first | assumption | rfl | omega) rfl (by first | assumption | rfl | omega) (Nat.le_of_ble_eq_true rfl) dX11_gale_183 (fun v183 I183 h183 => ?_)
                obtain ⟨e183, rfl⟩ := h183
                replace e183 := e183.trans (lostI hrrJ hrw hB hW)
                refine g_iret C hR (pc := 186) rfl dX11_gale_186 ?_
                refine ⟨rfl, _, rfl, ?_⟩
                refine ⟨Or.inl ⟨m, ⟨hm1, by omega, hzm, hu⟩, ?_⟩, hJ⟩
                rw [hend]
                first | (rw [if_pos c166]; done) | (rw [if_neg c166, e183])
              · refine g_iload C (pc := 169) dX11_gale_169 0 rfl ?_
                refine g_goto C (pc := 171) 186 dX11_gale_171 (by decide) ?_
                refine g_iret C hR (pc := 186) rfl dX11_gale_186 ?_
                refine ⟨rfl, _, rfl, ?_⟩
                refine ⟨Or.inl ⟨m, ⟨hm1, by omega, hzm, hu⟩, ?_⟩, hJ⟩
                rw [hend]
                first | (rw [if_pos c166]; done) | (rw [if_neg c166, e183])
            · have hjm : j < m := by
                rw [hzm, nI_ltI (by omega) (by omega)] at c50
                exact c50
              refine g_aload C (pc := 53) dX11_gale_53 5 rfl ?_
              refine g_aload_n C (pc := 55) dX11_gale_55 2 rfl ?_
              refine g_getR C (pc := 56) fl_RX11_10 (by decide) (by first | assumption | rfl | omega) (by first | assumption | rfl | omega) (by first | assumption | rfl | omega) dX11_gale_56 ?_
              refine g_getR C (pc := 59) fl_RX11_104 (by decide) (by first | assumption | rfl | omega) (by first | assumption | rfl | omega) (by first | assumption | rfl | omega) dX11_gale_59 ?_
              refine g_callVI C (pc := 62) mf_X8_lostSide lk_RX11_131 (c_X8_lostSide n ρ J 48 (1 + 1) (rN F) hn9 hp4 hrf hrrJ.2.2.1 hnp) (by decide) (Nat.le_refl _) rfl (by first | assumption | rfl | omega) rfl (by first | assumption | rfl | omega) (Nat.le_of_ble_eq_true rfl) dX11_gale_62 (fun v62 I62 h62 => ?_)
              obtain ⟨e62, rfl⟩ := h62
              replace e62 := e62.trans (lostI hrrJ hrw hB hW)
              refine g_bipush C (pc := 65) (-4) dX11_gale_65 (by decide) ?_
              refine g_icmp_ne C (pc := 67) 165 dX11_gale_67 (by decide) (fun c67 => ?_) (fun c67 => ?_)
              · have hlo : lostP F bj ≠ none := fun h9 => c67 (by rw [e62, lostB_none.mpr h9]; rfl)
                have hend : galS F m x b = (j, bj) := by rw [hG, galS_over hlo]; rfl
                refine g_iload_n C (pc := 165) dX11_gale_165 4 rfl ?_
                refine g_if_ne C (pc := 166) 174 dX11_gale_166 (by decide) (fun c166 => ?_) (fun c166 => ?_)
                · refine g_aload C (pc := 174) dX11_gale_174 5 rfl ?_
                  refine g_aload_n C (pc := 176) dX11_gale_176 2 rfl ?_
                  refine g_getR C (pc := 177) fl_RX11_10 (by decide) (by first | assumption | rfl | omega) (by first | assumption | rfl | omega) (by first | assumption | rfl | omega) dX11_gale_177 ?_
                  refine g_getR C (pc := 180) fl_RX11_104 (by decide) (by first | assumption | rfl | omega) (by first | assumption | rfl | omega) (by first | assumption | rfl | omega) dX11_gale_180 ?_
                  refine g_callVI C (pc := 183) mf_X8_lostSide lk_RX11_131 (c_X8_lostSide n ρ J 48 (1 + 1) (rN F) hn9 hp4 hrf hrrJ.2.2.1 hnp) (by decide) (Nat.le_refl _) rfl (by first | assumption | rfl | omega) rfl (by first | assumption | rfl | omega) (Nat.le_of_ble_eq_true rfl) dX11_gale_183 (fun v183 I183 h183 => ?_)
                  obtain ⟨e183, rfl⟩ := h183
                  replace e183 := e183.trans (lostI hrrJ hrw hB hW)
                  refine g_iret C hR (pc := 186) rfl dX11_gale_186 ?_
                  refine ⟨rfl, _, rfl, ?_⟩
                  refine ⟨Or.inl ⟨m, ⟨hm1, by omega, hzm, hu⟩, ?_⟩, hJ⟩
                  rw [hend]
                  first | (rw [if_pos c166]; done) | (rw [if_neg c166, e183])
                · refine g_iload C (pc := 169) dX11_gale_169 0 rfl ?_
                  refine g_goto C (pc := 171) 186 dX11_gale_171 (by decide) ?_
                  refine g_iret C hR (pc := 186) rfl dX11_gale_186 ?_
                  refine ⟨rfl, _, rfl, ?_⟩
                  refine ⟨Or.inl ⟨m, ⟨hm1, by omega, hzm, hu⟩, ?_⟩, hJ⟩
                  rw [hend]
                  first | (rw [if_pos c166]; done) | (rw [if_neg c166, e183])
              · have hno : lostP F bj = none := by
                  rw [e62] at c67
                  exact lostB_none.mp ((oI_none (fun z hz => by have := lostB_lt hrw z hz; omega)).mp c67)
                refine g_iload C (pc := 70) dX11_gale_70 1 rfl ?_
                refine g_ldc_w C (pc := 72) _ gk_RX11_292 dX11_gale_72 ?_
                refine g_imul C (pc := 75) dX11_gale_75 ?_
                refine g_sipush C (pc := 76) 12345 dX11_gale_76 (by decide) ?_
                refine g_iadd C (pc := 79) dX11_gale_79 ?_
                refine g_istore C (pc := 80) dX11_gale_80 (by decide) (fun v80 => [(5, .int v80), (6, .int (nI j)), (0, .ref 0), (2, .int z), (3, .int u), (4, .ref 48)]) (fun _ => rfl) (fun v80 ev80 => ?_)
                refine g_aload_n C (pc := 82) dX11_gale_82 2 rfl ?_
                refine g_getR C (pc := 83) fl_RX11_10 (by decide) (by first | assumption | rfl | omega) (by first | assumption | rfl | omega) (by first | assumption | rfl | omega) dX11_gale_83 ?_
                refine g_getR C (pc := 86) fl_RX11_104 (by decide) (by first | assumption | rfl | omega) (by first | assumption | rfl | omega) (by first | assumption | rfl | omega) dX11_gale_86 ?_
                refine g_iload C (pc := 89) dX11_gale_89 0 rfl ?_
                refine g_bipush C (pc := 91) 16 dX11_gale_91 (by decide) ?_
                refine g_iushr C (pc := 93) dX11_gale_93 ?_
                refine g_sipush C (pc := 94) 32767 dX11_gale_94 (by decide) ?_
                refine g_iand C (pc := 97) dX11_gale_97 ?_
                refine g_callVI C (pc := 98) mf_X5_windBy lk_RX11_293 (c_X5_windBy n ρ J (1 + 1) (galN v80) F _ hn9 hrf hrrJ hrw (Nat.lt_trans (galN_lt v80) (by decide)) (gal_n v80) hao) (by decide) (Nat.le_refl _) rfl (by first | assumption | rfl | omega) rfl (by first | assumption | rfl | omega) (Nat.le_of_ble_eq_true rfl) dX11_gale_98 (fun v98 I98 h98 => ?_)
                obtain ⟨e98, rfl⟩ := h98
                obtain ⟨w, hwE⟩ : ∃ w, windN (rOd F) 5 0 (galN v80 % allO F) = w := ⟨_, rfl⟩
                have hw5 : w < 5 := by rw [← hwE]; exact wind5 hrw hao
                refine g_istore C (pc := 101) dX11_gale_101 (by decide) (fun v101 => [(7, .int v101), (5, .int v80), (6, .int (nI j)), (0, .ref 0), (2, .int z), (3, .int u), (4, .ref 48)]) (fun _ => rfl) (fun v101 ev101 => ?_)
                have hv101 : v101 = nI w := by rw [ev101, e98, hwE]
                refine g_aload C (pc := 103) dX11_gale_103 6 rfl ?_
                refine g_aload_n C (pc := 105) dX11_gale_105 3 rfl ?_
                refine g_getR C (pc := 106) fl_RX11_10 (by decide) (by first | assumption | rfl | omega) (by first | assumption | rfl | omega) (by first | assumption | rfl | omega) dX11_gale_106 ?_
                refine g_getR C (pc := 109) fl_RX11_104 (by decide) (by first | assumption | rfl | omega) (by first | assumption | rfl | omega) (by first | assumption | rfl | omega) dX11_gale_109 ?_
                refine g_iload C (pc := 112) dX11_gale_112 0 rfl ?_
                refine g_aload_n C (pc := 114) dX11_gale_114 3 rfl ?_
                refine g_getR C (pc := 115) fl_RX11_35 (by decide) (by first | assumption | rfl | omega) (by first | assumption | rfl | omega) (by first | assumption | rfl | omega) dX11_gale_115 ?_
                refine g_getR C (pc := 118) fl_RX11_296 (by decide) (by first | assumption | rfl | omega) (by first | assumption | rfl | omega) (by first | assumption | rfl | omega) dX11_gale_118 ?_
                refine g_callVI C (pc := 121) mf_X8_listMoves lk_RX11_300 (c_X8_listMovesE n ρ J 48 (1 + 1) w 52 F bj _ hn9 hp4 hrf hrrJ hrw hB hW hw5 rfl (by omega) (fun i hi => ⟨by omega, by omega⟩) hv101) (by decide) (Nat.le_refl _) rfl (by first | assumption | rfl | omega) rfl (by first | assumption | rfl | omega) (Nat.le_of_ble_eq_true rfl) dX11_gale_121 (fun v121 I121 h121 => ?_)
                obtain ⟨e121, f121, g121⟩ := h121
                have hml := mvs_len (F := F) (b := bj) (w := w) hnp
                refine g_istore C (pc := 124) dX11_gale_124 (by decide) (fun v124 => [(8, .int v124), (7, .int v101), (5, .int v80), (6, .int (nI j)), (0, .ref 0), (2, .int z), (3, .int u), (4, .ref 48)]) (fun _ => rfl) (fun v124 ev124 => ?_)
                refine g_aload C (pc := 126) dX11_gale_126 7 rfl ?_
                refine g_aload_n C (pc := 128) dX11_gale_128 4 rfl ?_
                refine g_getR C (pc := 129) fl_RX11_10 (by decide) (by first | assumption | rfl | omega) (by first | assumption | rfl | omega) (by first | assumption | rfl | omega) dX11_gale_129 ?_
                refine g_getR C (pc := 132) fl_RX11_104 (by decide) (by first | assumption | rfl | omega) (by first | assumption | rfl | omega) (by first | assumption | rfl | omega) dX11_gale_132 ?_
                refine g_iload C (pc := 135) dX11_gale_135 1 rfl ?_
                refine g_iload C (pc := 137) dX11_gale_137 0 rfl ?_
                refine g_if_le C (pc := 139) 153 dX11_gale_139 (by decide) (fun c139 => ?_) (fun c139 => ?_)
                · have hl0 : (mvs F bj w).length = 0 := by
                    rw [ev124, e121] at c139
                    have := (nI_leI (b := 0) (by omega) (by decide)).mp c139
                    omega
                  refine g_bipush C (pc := 153) (-4) dX11_gale_153 (by decide) ?_
                  refine g_callVI C (pc := 155) mf_X8_play lk_RX11_304 (c_X8_playE n ρ I121 48 (1 + 1) w F bj ((mvs F bj w)[0]?) _ _ hn9 hp4 hrf (hrrJ.cong (fun i hi => g121 _ (by omega))) hrw (hB.cong (fun i hi => g121 _ (by omega))) hW (fun i k h1 h2 => by omega) hw5 (fun m hm => ⟨(mvs_ok hm).1, (mvs_ok hm).2.1⟩) (by first | (rw [List.eq_nil_of_length_eq_zero hl0]; rfl) | (rw [e147, List.getElem?_eq_getElem hl1]; exact f121 0 _ (List.getElem?_eq_getElem hl1))) hv101) (by decide) (Nat.le_refl _) rfl (by first | assumption | rfl | omega) rfl (by first | assumption | rfl | omega) (Nat.le_of_ble_eq_true rfl) dX11_gale_155 (fun v155 I155 h155 => ?_)
                  obtain ⟨e155, h155, g155⟩ := h155
                  refine g_pop C (pc := 158) dX11_gale_158 rfl ?_
                  refine g_iinc C (pc := 159) (1) dX11_gale_159 3 rfl (by decide) (by decide) (fun v159 => [(6, .int v159), (8, .int v124), (7, .int v101), (5, .int v80), (0, .ref 0), (2, .int z), (3, .int u), (4, .ref 48)]) (fun _ => rfl) (fun v159 ev159 => ?_)
                  refine g_goto C (pc := 162) 47 dX11_gale_162 (by decide) ?_
                  refine g_lv C [0, 3, 4, 5, 6, 7] rfl (ih47 (j + 1) (playB F bj w ((mvs F bj w)[0]?)) _ _ _ ?_ ?_ ?_ ?_ ?_ ?_ (by omega))
                  · subst_vars; exact nI_1 _
                  · omega
                  · rw [hG, show m - j = (m - (j + 1)) + 1 by omega, galS, if_pos hno, ← ev80]; show (j + (_ + 1), _) = (j + 1 + _, _); rw [hwE, Nat.add_right_comm, Nat.add_assoc]
                  · exact h155
                  · exact playB_W hW (fun m hm => ⟨(mvs_ok hm).1, (mvs_ok hm).2.1⟩)
                  · intro i hi; rw [g155 i (by omega) (by omega) (by omega) (by omega), g121 i (by omega)]; exact hJ i hi
                · have hl1 : 0 < (mvs F bj w).length := by
                    rw [ev124, e121] at c139
                    exact (nI_ltI (a := 0) (by decide) (by omega)).mp c139
                  refine g_aload_n C (pc := 142) dX11_gale_142 4 rfl ?_
                  refine g_getR C (pc := 143) fl_RX11_35 (by decide) (by first | assumption | rfl | omega) (by first | assumption | rfl | omega) (by first | assumption | rfl | omega) dX11_gale_143 ?_
                  refine g_iconst C (pc := 146) 0 dX11_gale_146 (by decide) ?_
                  refine g_callVI C (pc := 147) mf_X9_moveAt lk_RX11_193 (c_X9_moveAt n ρ I121 47 0 _ hn9 hsp (by decide) rfl) (by decide) (Nat.le_refl _) rfl (by first | assumption | rfl | omega) rfl (by first | assumption | rfl | omega) (Nat.le_of_ble_eq_true rfl) dX11_gale_147 (fun v147 I147 h147 => ?_)
                  obtain ⟨e147, rfl⟩ := h147
                  refine g_goto C (pc := 150) 155 dX11_gale_150 (by decide) ?_
                  refine g_callVI C (pc := 155) mf_X8_play lk_RX11_304 (c_X8_playE n ρ I121 48 (1 + 1) w F bj ((mvs F bj w)[0]?) _ _ hn9 hp4 hrf (hrrJ.cong (fun i hi => g121 _ (by omega))) hrw (hB.cong (fun i hi => g121 _ (by omega))) hW (fun i k h1 h2 => by omega) hw5 (fun m hm => ⟨(mvs_ok hm).1, (mvs_ok hm).2.1⟩) (by first | (rw [List.eq_nil_of_length_eq_zero hl0]; rfl) | (rw [e147, List.getElem?_eq_getElem hl1]; exact f121 0 _ (List.getElem?_eq_getElem hl1))) hv101) (by decide) (Nat.le_refl _) rfl (by first | assumption | rfl | omega) rfl (by first | assumption | rfl | omega) (Nat.le_of_ble_eq_true rfl) dX11_gale_155 (fun v155 I155 h155 => ?_)
                  obtain ⟨e155, h155, g155⟩ := h155
                  refine g_pop C (pc := 158) dX11_gale_158 rfl ?_
                  refine g_iinc C (pc := 159) (1) dX11_gale_159 3 rfl (by decide) (by decide) (fun v159 => [(6, .int v159), (8, .int v124), (7, .int v101), (5, .int v80), (0, .ref 0), (2, .int z), (3, .int u), (4, .ref 48)]) (fun _ => rfl) (fun v159 ev159 => ?_)
                  refine g_goto C (pc := 162) 47 dX11_gale_162 (by decide) ?_
                  refine g_lv C [0, 3, 4, 5, 6, 7] rfl (ih47 (j + 1) (playB F bj w ((mvs F bj w)[0]?)) _ _ _ ?_ ?_ ?_ ?_ ?_ ?_ (by omega))
                  · subst_vars; exact nI_1 _
                  · omega
                  · rw [hG, show m - j = (m - (j + 1)) + 1 by omega, galS, if_pos hno, ← ev80]; show (j + (_ + 1), _) = (j + 1 + _, _); rw [hwE, Nat.add_right_comm, Nat.add_assoc]
                  · exact h155
                  · exact playB_W hW (fun m hm => ⟨(mvs_ok hm).1, (mvs_ok hm).2.1⟩)
                  · intro i hi; rw [g155 i (by omega) (by omega) (by omega) (by omega), g121 i (by omega)]; exact hJ i hi
        refine g_lv C [0, 1, 3, 5, 6, 2] rfl (L47 (_ + 1) 0 b _ _ _ ?_ ?_ ?_ ?_ ?_ ?_ (by first | omega | exact Nat.lt_succ_self _))
        · subst_vars; rfl
        · omega
        · subst ev42; rw [Nat.zero_add, Nat.sub_zero]
        · exact hbr.copy hrw a38 b38 d38 f38
        · exact hbw
        · intro i hi; exact g38 i (by omega) (by omega) (by omega) (by omega)
      · have hu := bI_0.mp (e12.symm.trans c15)
        refine g_iconst C (pc := 18) (-1) dX11_gale_18 (by decide) ?_
        refine g_iret C hR (pc := 19) rfl dX11_gale_19 ?_
        refine ⟨rfl, _, rfl, ?_⟩
        refine ⟨Or.inr ⟨?_, rfl⟩, fun _ _ => rfl⟩
        rintro ⟨m9, h1, h2, h3, h4⟩
        first | exact hu h4 | (rw [h3, show (1 : Int32) = nI 1 from rfl, nI_ltI (by omega) (by decide)] at c2; omega) | (rw [h3, show (60 : Int32) = nI 60 from rfl, nI_ltI (by decide) (by omega)] at c8; omega)
set_option maxHeartbeats 400000 in
theorem c_X11_keep (n : Nat) (ρ : Rho) (I : Mem) (kp : Nat → Bool) (x : Int32) (hn9 : n ≤ 999) (hxs : XS n ρ) (him : ∀ k, k < 2 → I 14 k = bI (kp k = true)) : MI yX11_keep cX11_keep 4 (some .int) 3 [.ref 0, .int x] n ρ I (fun v I1 => (∃ k, (k < 2 ∧ x = nI k) ∧ v = bI (kp k = true) ∧ ∃ J, CpG I J (73 + 12 * k) 1 ∧ wr J 14 k 1 = I1) ∨ (¬ (∃ k, (k < 2 ∧ x = nI k)) ∧ v = -1 ∧ I = I1)) := by
  refine MG.of (by decide +kernel) (Nat.le_of_ble_eq_true rfl) hn9 ?_
  intro κ C hR
  show G κ n ρ 0 [(0, .ref 0), (1, .int x)] [] I
  obtain ⟨hxc, ⟨xb1, xb2, xb3, xb4, xb5, xb6, xb8⟩, ⟨xi0, xi1, xga, xgb⟩, ⟨xt0, xt1, xgd⟩, hch, ⟨xr0, xr1, xr2⟩, xa0, ⟨xw0, xw1⟩, xst⟩ := id hxs
  obtain ⟨xc0, xcn, xc1, hga, xc7, hss⟩ := id hxc
  have xcz : 0 < n := by omega
  obtain ⟨ga0, ga1, ga2, ga3, ga4, ga5, ga6, ga7, ga8, gan, hrf, hst⟩ := id hga
  have hrf0 := hrf.1
  have hst0 := hst.1
  have hsp := hch.sp
  obtain ⟨hp0, hpn, hp1, hp2, hp3, hp4⟩ := id hsp
  refine g_iload_n C (pc := 0) dX11_keep_0 1 rfl ?_
  refine g_callSI C (pc := 1) mf_X11_isImage lk_RX11_237 (c_X11_isImage n ρ I x hn9) (by decide) (Nat.le_refl _) rfl (Nat.le_of_ble_eq_true rfl) dX11_keep_1 (fun v1 I1 h1 => ?_)
  obtain ⟨e1, rfl⟩ := h1
  refine g_if_ne C (pc := 4) 9 dX11_keep_4 (by decide) (fun c4 => ?_) (fun c4 => ?_)
  · have hx := bI_1.mp (fun h => c4 (e1.trans h))
    obtain ⟨k, hk2, hxk⟩ := ix_of (n := 2) (by decide) hx
    have hcl : x.toNatClampNeg = k := by rw [hxk]; exact nI_clamp (by omega)
    have hgi : GaS n ρ (73 + 12 * k) := by
      have : k = 0 ∨ k = 1 := by omega
      rcases this with rfl | rfl
      · exact xga
      · exact xgb
    have hik : ρ 13 k = some (73 + 12 * k) := by
      have : k = 0 ∨ k = 1 := by omega
      rcases this with rfl | rfl
      · exact xi0
      · exact xi1
    have hin : vp_in x 2 := by rw [hxk]; exact vp_in_nI hk2 (by decide)
    have hgi0 := hgi.1
    refine g_aload_n C (pc := 9) dX11_keep_9 0 rfl ?_
    refine g_getR C (pc := 10) fl_RX11_20 (by decide) (by first | assumption | rfl | omega) (by first | assumption | rfl | omega) (by first | assumption | rfl | omega) dX11_keep_10 ?_
    refine g_iload_n C (pc := 13) dX11_keep_13 1 rfl ?_
    refine g_zald C (pc := 14) (by first | assumption | rfl | omega) (by first | assumption | rfl | omega) hin dX11_keep_14 ?_
    refine g_if_eq C (pc := 15) 22 dX11_keep_15 (by decide) (fun c15 => ?_) (fun c15 => ?_)
    · have hkp : kp k = false := by
        rw [hcl, him k hk2] at c15
        exact Bool.not_eq_true _ ▸ bI_0.mp c15
      refine g_iconst C (pc := 22) 0 dX11_keep_22 (by decide) ?_
      refine g_istore_n C (pc := 23) dX11_keep_23 (by decide) (fun v23 => [(2, .int v23), (0, .ref 0), (1, .int x)]) (fun _ => rfl) (fun v23 ev23 => ?_)
      refine g_aload_n C (pc := 24) dX11_keep_24 1 rfl ?_
      refine g_getR C (pc := 25) fl_RX11_16 (by decide) (by first | assumption | rfl | omega) (by first | assumption | rfl | omega) (by first | assumption | rfl | omega) dX11_keep_25 ?_
      refine g_iload_n C (pc := 28) dX11_keep_28 2 rfl ?_
      refine g_aald C (pc := 29) (by first | exact Or.inl rfl | exact Or.inr rfl) (k := 3) (N := 2) rfl (by first | assumption | rfl | omega) hin (by rw [hcl]; exact hik) dX11_keep_29 ?_
      refine g_astore_n C (pc := 30) dX11_keep_30 (by decide) (lv' := [(3, .ref (73 + 12 * k)), (2, .int v23), (0, .ref 0), (1, .int x)]) rfl ?_
      refine g_aload_n C (pc := 31) dX11_keep_31 0 rfl ?_
      refine g_ifnonnull C (pc := 32) 37 dX11_keep_32 (by decide) ?_
      refine g_aload_n C (pc := 37) dX11_keep_37 0 rfl ?_
      refine g_aload_n C (pc := 38) dX11_keep_38 2 rfl ?_
      refine g_getR C (pc := 39) fl_RX11_10 (by decide) (by first | assumption | rfl | omega) (by first | assumption | rfl | omega) (by first | assumption | rfl | omega) dX11_keep_39 ?_
      refine g_callVV C (pc := 42) mf_X3_copyFrom lk_RX11_97 (c_X3_copyFrom n ρ I (73 + 12 * k) 1 hn9 hgi hga (fun i q h1 h2 => by omega)) (by decide) (Nat.le_refl _) rfl (by first | assumption | rfl | omega) rfl (by first | assumption | rfl | omega) (Nat.le_of_ble_eq_true rfl) dX11_keep_42 (fun I42 h42 => ?_)
      obtain h42 := h42
      refine g_aload_n C (pc := 45) dX11_keep_45 2 rfl ?_
      refine g_getR C (pc := 46) fl_RX11_20 (by decide) (by first | assumption | rfl | omega) (by first | assumption | rfl | omega) (by first | assumption | rfl | omega) dX11_keep_46 ?_
      refine g_iload_n C (pc := 49) dX11_keep_49 3 rfl ?_
      refine g_iconst C (pc := 50) 1 dX11_keep_50 (by decide) ?_
      refine g_zast C (pc := 51) (by first | assumption | rfl | omega) (by first | assumption | rfl | omega) hn9 hin rfl dX11_keep_51 ?_
      refine g_iload_n C (pc := 52) dX11_keep_52 1 rfl ?_
      refine g_iret C hR (pc := 53) rfl dX11_keep_53 ?_
      refine ⟨rfl, _, rfl, ?_⟩
      rw [hcl]
      refine Or.inl ⟨k, ⟨hk2, hxk⟩, ?_, I42, h42, rfl⟩
      first | (rw [bI_f (fun h9 => by rw [hkp] at h9; cases h9)]; assumption) | (rw [bI_t hkp]; assumption)
    · have hkp : kp k = true := by
        rw [hcl, him k hk2] at c15
        exact bI_1.mp c15
      refine g_iconst C (pc := 18) 1 dX11_keep_18 (by decide) ?_
      refine g_goto C (pc := 19) 23 dX11_keep_19 (by decide) ?_
      refine g_istore_n C (pc := 23) dX11_keep_23 (by decide) (fun v23 => [(2, .int v23), (0, .ref 0), (1, .int x)]) (fun _ => rfl) (fun v23 ev23 => ?_)
      refine g_aload_n C (pc := 24) dX11_keep_24 1 rfl ?_
      refine g_getR C (pc := 25) fl_RX11_16 (by decide) (by first | assumption | rfl | omega) (by first | assumption | rfl | omega) (by first | assumption | rfl | omega) dX11_keep_25 ?_
      refine g_iload_n C (pc := 28) dX11_keep_28 2 rfl ?_
      refine g_aald C (pc := 29) (by first | exact Or.inl rfl | exact Or.inr rfl) (k := 3) (N := 2) rfl (by first | assumption | rfl | omega) hin (by rw [hcl]; exact hik) dX11_keep_29 ?_
      refine g_astore_n C (pc := 30) dX11_keep_30 (by decide) (lv' := [(3, .ref (73 + 12 * k)), (2, .int v23), (0, .ref 0), (1, .int x)]) rfl ?_
      refine g_aload_n C (pc := 31) dX11_keep_31 0 rfl ?_
      refine g_ifnonnull C (pc := 32) 37 dX11_keep_32 (by decide) ?_
      refine g_aload_n C (pc := 37) dX11_keep_37 0 rfl ?_
      refine g_aload_n C (pc := 38) dX11_keep_38 2 rfl ?_
      refine g_getR C (pc := 39) fl_RX11_10 (by decide) (by first | assumption | rfl | omega) (by first | assumption | rfl | omega) (by first | assumption | rfl | omega) dX11_keep_39 ?_
      refine g_callVV C (pc := 42) mf_X3_copyFrom lk_RX11_97 (c_X3_copyFrom n ρ I (73 + 12 * k) 1 hn9 hgi hga (fun i q h1 h2 => by omega)) (by decide) (Nat.le_refl _) rfl (by first | assumption | rfl | omega) rfl (by first | assumption | rfl | omega) (Nat.le_of_ble_eq_true rfl) dX11_keep_42 (fun I42 h42 => ?_)
      obtain h42 := h42
      refine g_aload_n C (pc := 45) dX11_keep_45 2 rfl ?_
      refine g_getR C (pc := 46) fl_RX11_20 (by decide) (by first | assumption | rfl | omega) (by first | assumption | rfl | omega) (by first | assumption | rfl | omega) dX11_keep_46 ?_
      refine g_iload_n C (pc := 49) dX11_keep_49 3 rfl ?_
      refine g_iconst C (pc := 50) 1 dX11_keep_50 (by decide) ?_
      refine g_zast C (pc := 51) (by first | assumption | rfl | omega) (by first | assumption | rfl | omega) hn9 hin rfl dX11_keep_51 ?_
      refine g_iload_n C (pc := 52) dX11_keep_52 1 rfl ?_
      refine g_iret C hR (pc := 53) rfl dX11_keep_53 ?_
      refine ⟨rfl, _, rfl, ?_⟩
      rw [hcl]
      refine Or.inl ⟨k, ⟨hk2, hxk⟩, ?_, I42, h42, rfl⟩
      first | (rw [bI_f (fun h9 => by rw [hkp] at h9; cases h9)]; assumption) | (rw [bI_t hkp]; assumption)
  · have hx := bI_0.mp (e1.symm.trans c4)
    refine g_iconst C (pc := 7) (-1) dX11_keep_7 (by decide) ?_
    refine g_iret C hR (pc := 8) rfl dX11_keep_8 ?_
    refine ⟨rfl, _, rfl, ?_⟩
    refine Or.inr ⟨?_, rfl, rfl⟩
    rintro ⟨k9, h1, h2⟩
    exact hx (by rw [h2]; exact ⟨nI_pos' (by omega), nI_lt (b := 2) h1 (by decide)⟩)
set_option maxHeartbeats 400000 in
theorem c_X11_back_y (n : Nat) (ρ : Rho) (I : Mem) (kp : Nat → Bool) (x : Int32) (hn9 : n ≤ 999) (hxs : XS n ρ) (him : ∀ k, k < 2 → I 14 k = bI (kp k = true)) (hkpv : ∀ k, x = nI k → kp k = true) : MI yX11_back cX11_back 3 (some .int) 3 [.ref 0, .int x] n ρ I (fun v I1 => (∃ k, (k < 2 ∧ x = nI k) ∧ ((kp k = false ∧ v = -2 ∧ I = I1) ∨ (kp k = true ∧ v = I (73 + 12 * k) 5 ∧ CpG I I1 1 (73 + 12 * k)))) ∨ (¬ (∃ k, (k < 2 ∧ x = nI k)) ∧ v = -1 ∧ I = I1)) := by
  refine MG.of (by decide +kernel) (Nat.le_of_ble_eq_true rfl) hn9 ?_
  intro κ C hR
  show G κ n ρ 0 [(0, .ref 0), (1, .int x)] [] I
  obtain ⟨hxc, ⟨xb1, xb2, xb3, xb4, xb5, xb6, xb8⟩, ⟨xi0, xi1, xga, xgb⟩, ⟨xt0, xt1, xgd⟩, hch, ⟨xr0, xr1, xr2⟩, xa0, ⟨xw0, xw1⟩, xst⟩ := id hxs
  obtain ⟨xc0, xcn, xc1, hga, xc7, hss⟩ := id hxc
  have xcz : 0 < n := by omega
  obtain ⟨ga0, ga1, ga2, ga3, ga4, ga5, ga6, ga7, ga8, gan, hrf, hst⟩ := id hga
  have hrf0 := hrf.1
  have hst0 := hst.1
  have hsp := hch.sp
  obtain ⟨hp0, hpn, hp1, hp2, hp3, hp4⟩ := id hsp
  refine g_iload_n C (pc := 0) dX11_back_0 1 rfl ?_
  refine g_callSI C (pc := 1) mf_X11_isImage lk_RX11_237 (c_X11_isImage n ρ I x hn9) (by decide) (Nat.le_refl _) rfl (Nat.le_of_ble_eq_true rfl) dX11_back_1 (fun v1 I1 h1 => ?_)
  obtain ⟨e1, rfl⟩ := h1
  refine g_if_ne C (pc := 4) 9 dX11_back_4 (by decide) (fun c4 => ?_) (fun c4 => ?_)
  · have hx := bI_1.mp (fun h => c4 (e1.trans h))
    obtain ⟨k, hk2, hxk⟩ := ix_of (n := 2) (by decide) hx
    have hcl : x.toNatClampNeg = k := by rw [hxk]; exact nI_clamp (by omega)
    have hgi : GaS n ρ (73 + 12 * k) := by
      have : k = 0 ∨ k = 1 := by omega
      rcases this with rfl | rfl
      · exact xga
      · exact xgb
    have hik : ρ 13 k = some (73 + 12 * k) := by
      have : k = 0 ∨ k = 1 := by omega
      rcases this with rfl | rfl
      · exact xi0
      · exact xi1
    have hin : vp_in x 2 := by rw [hxk]; exact vp_in_nI hk2 (by decide)
    have hgi0 := hgi.1
    refine g_aload_n C (pc := 9) dX11_back_9 0 rfl ?_
    refine g_iload_n C (pc := 10) dX11_back_10 1 rfl ?_
    refine g_callV C (pc := 11) mf_X11_imageAt lk_RX11_243 (k := 0) (c_X11_imageAt_a n ρ I k (kp k) x hn9 hxs (him k hk2) hk2 hxk (hkpv k hxk)) (by decide) (Nat.le_refl _) rfl (by first | assumption | rfl | omega) rfl (by first | assumption | rfl | omega) (Nat.le_of_ble_eq_true rfl) dX11_back_11 ?_
    rintro _ ρ I11 ⟨rfl, rfl, rfl⟩
    refine g_astore_n C (pc := 14) dX11_back_14 (by decide) (lv' := [(2, .ref (73 + 12 * k)), (0, .ref 0), (1, .int x)]) rfl ?_
    refine g_aload_n C (pc := 15) dX11_back_15 0 rfl ?_
    refine g_ifnonnull C (pc := 16) 22 dX11_back_16 (by decide) ?_
    refine g_aload_n C (pc := 22) dX11_back_22 1 rfl ?_
    refine g_getR C (pc := 23) fl_RX11_10 (by decide) (by first | assumption | rfl | omega) (by first | assumption | rfl | omega) (by first | assumption | rfl | omega) dX11_back_23 ?_
    refine g_aload_n C (pc := 26) dX11_back_26 0 rfl ?_
    refine g_callVV C (pc := 27) mf_X3_copyFrom lk_RX11_97 (c_X3_copyFrom n ρ I 1 (73 + 12 * k) hn9 hga hgi (fun i q h1 h2 => by omega)) (by decide) (Nat.le_refl _) rfl (by first | assumption | rfl | omega) rfl (by first | assumption | rfl | omega) (Nat.le_of_ble_eq_true rfl) dX11_back_27 (fun I27 h27 => ?_)
    obtain h27 := h27
    refine g_aload_n C (pc := 30) dX11_back_30 1 rfl ?_
    refine g_getR C (pc := 31) fl_RX11_10 (by decide) (by first | assumption | rfl | omega) (by first | assumption | rfl | omega) (by first | assumption | rfl | omega) dX11_back_31 ?_
    refine g_getI C (pc := 34) fl_RX11_128 (by decide) (by first | assumption | rfl | omega) (by first | assumption | rfl | omega) dX11_back_34 ?_
    refine g_iret C hR (pc := 37) rfl dX11_back_37 ?_
    refine ⟨rfl, _, rfl, ?_⟩
    exact Or.inl ⟨k, ⟨hk2, hxk⟩, Or.inr ⟨hkpv k hxk, h27.2.2.1.2.2.2.1, h27⟩⟩
  · have hx := bI_0.mp (e1.symm.trans c4)
    refine g_iconst C (pc := 7) (-1) dX11_back_7 (by decide) ?_
    refine g_iret C hR (pc := 8) rfl dX11_back_8 ?_
    refine ⟨rfl, _, rfl, ?_⟩
    refine Or.inr ⟨?_, rfl, rfl⟩
    rintro ⟨k9, h1, h2⟩
    exact hx (by rw [h2]; exact ⟨nI_pos' (by omega), nI_lt (b := 2) h1 (by decide)⟩)
set_option maxHeartbeats 400000 in
theorem c_X11_back_n (n : Nat) (ρ : Rho) (I : Mem) (kp : Nat → Bool) (x : Int32) (hn9 : n ≤ 999) (hxs : XS n ρ) (him : ∀ k, k < 2 → I 14 k = bI (kp k = true)) (hkpv : ∀ k, x = nI k → kp k = false) : MI yX11_back cX11_back 3 (some .int) 3 [.ref 0, .int x] n ρ I (fun v I1 => (∃ k, (k < 2 ∧ x = nI k) ∧ ((kp k = false ∧ v = -2 ∧ I = I1) ∨ (kp k = true ∧ v = I (73 + 12 * k) 5 ∧ CpG I I1 1 (73 + 12 * k)))) ∨ (¬ (∃ k, (k < 2 ∧ x = nI k)) ∧ v = -1 ∧ I = I1)) := by
  refine MG.of (by decide +kernel) (Nat.le_of_ble_eq_true rfl) hn9 ?_
  intro κ C hR
  show G κ n ρ 0 [(0, .ref 0), (1, .int x)] [] I
  obtain ⟨hxc, ⟨xb1, xb2, xb3, xb4, xb5, xb6, xb8⟩, ⟨xi0, xi1, xga, xgb⟩, ⟨xt0, xt1, xgd⟩, hch, ⟨xr0, xr1, xr2⟩, xa0, ⟨xw0, xw1⟩, xst⟩ := id hxs
  obtain ⟨xc0, xcn, xc1, hga, xc7, hss⟩ := id hxc
  have xcz : 0 < n := by omega
  obtain ⟨ga0, ga1, ga2, ga3, ga4, ga5, ga6, ga7, ga8, gan, hrf, hst⟩ := id hga
  have hrf0 := hrf.1
  have hst0 := hst.1
  have hsp := hch.sp
  obtain ⟨hp0, hpn, hp1, hp2, hp3, hp4⟩ := id hsp
  refine g_iload_n C (pc := 0) dX11_back_0 1 rfl ?_
  refine g_callSI C (pc := 1) mf_X11_isImage lk_RX11_237 (c_X11_isImage n ρ I x hn9) (by decide) (Nat.le_refl _) rfl (Nat.le_of_ble_eq_true rfl) dX11_back_1 (fun v1 I1 h1 => ?_)
  obtain ⟨e1, rfl⟩ := h1
  refine g_if_ne C (pc := 4) 9 dX11_back_4 (by decide) (fun c4 => ?_) (fun c4 => ?_)
  · have hx := bI_1.mp (fun h => c4 (e1.trans h))
    obtain ⟨k, hk2, hxk⟩ := ix_of (n := 2) (by decide) hx
    have hcl : x.toNatClampNeg = k := by rw [hxk]; exact nI_clamp (by omega)
    have hgi : GaS n ρ (73 + 12 * k) := by
      have : k = 0 ∨ k = 1 := by omega
      rcases this with rfl | rfl
      · exact xga
      · exact xgb
    have hik : ρ 13 k = some (73 + 12 * k) := by
      have : k = 0 ∨ k = 1 := by omega
      rcases this with rfl | rfl
      · exact xi0
      · exact xi1
    have hin : vp_in x 2 := by rw [hxk]; exact vp_in_nI hk2 (by decide)
    have hgi0 := hgi.1
    refine g_aload_n C (pc := 9) dX11_back_9 0 rfl ?_
    refine g_iload_n C (pc := 10) dX11_back_10 1 rfl ?_
    refine g_callV C (pc := 11) mf_X11_imageAt lk_RX11_243 (k := 0) (c_X11_imageAt_N n ρ I k (kp k) x hn9 hxs (him k hk2) hk2 hxk (hkpv k hxk)) (by decide) (Nat.le_refl _) rfl (by first | assumption | rfl | omega) rfl (by first | assumption | rfl | omega) (Nat.le_of_ble_eq_true rfl) dX11_back_11 ?_
    rintro _ ρ I11 ⟨rfl, rfl, rfl⟩
    refine g_astore_nN C (pc := 14) dX11_back_14 (by decide) (lv' := [(2, .null), (0, .ref 0), (1, .int x)]) rfl ?_
    refine g_aload_nN C (pc := 15) dX11_back_15 0 rfl ?_
    refine g_ifnonnullN C (pc := 16) dX11_back_16 ?_
    refine g_bipush C (pc := 19) (-2) dX11_back_19 (by decide) ?_
    refine g_iret C hR (pc := 21) rfl dX11_back_21 ?_
    refine ⟨rfl, _, rfl, ?_⟩
    exact Or.inl ⟨k, ⟨hk2, hxk⟩, Or.inl ⟨hkpv k hxk, rfl, rfl⟩⟩
  · have hx := bI_0.mp (e1.symm.trans c4)
    refine g_iconst C (pc := 7) (-1) dX11_back_7 (by decide) ?_
    refine g_iret C hR (pc := 8) rfl dX11_back_8 ?_
    refine ⟨rfl, _, rfl, ?_⟩
    refine Or.inr ⟨?_, rfl, rfl⟩
    rintro ⟨k9, h1, h2⟩
    exact hx (by rw [h2]; exact ⟨nI_pos' (by omega), nI_lt (b := 2) h1 (by decide)⟩)
