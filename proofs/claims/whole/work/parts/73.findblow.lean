set_option maxHeartbeats 3200000 in
theorem fr_blow (n : Nat) (ρ : Rho) (I0 : Mem) (F : RT) (sd : Nat) (wd : Nat → Nat) (N : Nat) (z oth : Int32) (κ : Kap) (hn9 : n ≤ 999) (C : Cx κ yX12_findRows cX12_findRows 5 5 (n + 0)) (hms : MS n ρ) (hqf : QF I0 F) (hqe : QE I0 F) (hrw : RW F) (hN3 : N ≤ 3) (hz : z = 2) (hsd : sd < 2) (hoth : oth = nI (1 - sd)) (hwd : ∀ q, q < N → I0 113 q = nI (wd q) ∧ wd q < 5) : ∀ (e d : Nat) (b : BT) (T : Bool) (J0 : Mem), d + e + 1 = N → BW F b → L1 F b → PW F b → lostP F b = none → LvR J0 F b d (wd d) 0 → J0 97 37 = bI (T = true) → Kp I0 J0 → J0 113 = I0 113 → (∀ J1, Ky d J0 J1 → J1 97 37 = bI ((T || canB F sd (wdL wd d (e + 1)) b) = true) → G κ n ρ 52 [(4, .int (nI d - 1)), (3, .int oth), (0, .ref 97), (1, .int (nI N)), (2, .int z)] [] J1) → G κ n ρ 52 [(4, .int (nI d)), (3, .int oth), (0, .ref 97), (1, .int (nI N)), (2, .int z)] [] J0 := by
  obtain ⟨mn, ⟨m0, m1, m5, m6, m7, m11, m12, m15⟩, ⟨m23, m24, m26, m27, m28, m30, m31, m32, m33⟩, ⟨m38, m39, m40, m42⟩⟩ := id hms
  obtain ⟨qw, qh, qn, qk⟩ := id hqf
  have hn6 : rN F ≤ 6 := hrw.2.2.2.2.1
  have hm25 := Nat.mul_le_mul hrw.2.1 hrw.2.2.2.1
  have hm4 := Nat.mul_le_mul hrw.1 hrw.2.2.1
  intro e
  induction e using Nat.strongRecOn with
  | _ e ihE =>
  intro d b T J0 hde hbw hl1 hpw hlo0 hlv0 hct0 hkp0 h360 K
  have hd3 : d < 3 := by omega
  have hcd : (nI d).toNatClampNeg = d := nI_clamp (by omega)
  have hN1 : nI N - 1 = nI (N - 1) := pk_sub (b := 1) (by omega)
  obtain ⟨w, hwE⟩ : ∃ w, w = wd d := ⟨_, rfl⟩
  have hw : w < 5 := by rw [hwE]; exact (hwd d (by omega)).2
  rw [← hwE] at hlv0
  have inner : ∀ (k9 i : Nat) (J : Mem), i ≤ cntM F b w → LvR J F b d w i → Ky d J0 J → J 97 37 = bI ((T || (List.range i).any (fun j => canB F sd (wdL wd (d + 1) e) (playB F b w ((mvs F b w)[j]?)))) = true) → 25 - i < k9 → G κ n ρ 52 [(4, .int (nI d)), (3, .int oth), (0, .ref 97), (1, .int (nI N)), (2, .int z)] [] J := by
    intro k9
    induction k9 with
    | zero => intro i J _ _ _ _ hm; exact absurd hm (Nat.not_lt_zero _)
    | succ k9 ih =>
    intro i J hi hlv hky hct hm
    obtain ⟨hsv, hfm, h111, h112⟩ := hlv
    have hcm := cntM_le (F := F) (b := b) (w := w) hn6
    have hml := mvs_len (F := F) (b := b) (w := w) hn6
    have hkp := hkp0.trans hky.1
    have hi9 : J 112 d + 1 = nI i := by rw [h112]; exact Int32.sub_add_cancel _ _
    refine g_iload C (pc := 52) dX12_findRows_52 0 rfl ?_
    refine g_if_lt C (pc := 54) 270 dX12_findRows_54 (by decide) (fun c54 => ?_) (fun c54 => ?_)
    · exact absurd c54 (nI_pos (by omega))
    · refine g_aload_n C (pc := 57) dX12_findRows_57 2 rfl ?_
      refine g_getR C (pc := 58) fl_RX12_53 (by decide) (by first | assumption | rfl | omega) (by first | assumption | rfl | omega) (by first | assumption | rfl | omega) dX12_findRows_58 ?_
      refine g_iload C (pc := 61) dX12_findRows_61 0 rfl ?_
      refine g_dup2 C (pc := 63) dX12_findRows_63 rfl rfl ?_
      refine g_iald C (pc := 64) (by first | assumption | rfl | omega) (by first | assumption | rfl | omega) (vp_in_nI (n := d) (by omega) (by decide)) dX12_findRows_64 ?_
      refine g_iconst C (pc := 65) 1 dX12_findRows_65 (by decide) ?_
      refine g_iadd C (pc := 66) dX12_findRows_66 ?_
      refine g_iast C (pc := 67) (by first | assumption | rfl | omega) (by first | assumption | rfl | omega) hn9 (vp_in_nI (n := d) (by omega) (by decide)) dX12_findRows_67 ?_
      rw [hcd, hi9]
      obtain ⟨JA, hJA⟩ : ∃ JA, JA = wr J 112 d (nI i) := ⟨_, rfl⟩
      rw [← hJA]
      have kA0 : Ky d J JA := by rw [hJA]; exact Ky.w2
      have kA := hky.trans kA0
      have svA : SvB JA F d b := hsv.cong (fun k _ _ => by rw [hJA, wr_n (by decide)]) hn6
      have fmA : FMv JA F b w d := hfm.cong (by rw [hJA, wr_n (by decide)]) (fun k _ _ => by rw [hJA, wr_n (by decide)]) hn6
      have a111 : JA 111 d = nI w := by rw [hJA, wr_n (by decide)]; exact h111
      have a112 : JA 112 d = nI i := by rw [hJA, wr_ss]
      have kpA := hkp0.trans kA.1
      have ctA : JA 97 37 = bI ((T || (List.range i).any (fun j => canB F sd (wdL wd (d + 1) e) (playB F b w ((mvs F b w)[j]?)))) = true) := by rw [hJA, wr_n (by decide)]; exact hct
      refine g_aload_n C (pc := 68) dX12_findRows_68 2 rfl ?_
      refine g_iload C (pc := 69) dX12_findRows_69 0 rfl ?_
      refine g_callVV C (pc := 71) mf_X12_returns lk_RX12_257 (c_X12_returnsD n ρ JA F b d _ hn9 hms (hqf.kp kpA) hrw svA (by omega) rfl) (by decide) (Nat.le_refl _) rfl (by first | assumption | rfl | omega) rfl (by first | assumption | rfl | omega) (Nat.le_of_ble_eq_true rfl) dX12_findRows_71 (fun I71 h71 => ?_)
      obtain ⟨f71, a71, g71⟩ := h71
      have k71 : Ky d J0 I71 := kA.trans (Ky.qb a71 g71)
      have kp71 := hkp0.trans k71.1
      have sv71 : SvB I71 F d b := svA.cong (fun k _ _ => by rw [g71 110 (by decide) (by decide) (by decide)]) hn6
      have fm71 : FMv I71 F b w d := fmA.cong (by rw [g71 109 (by decide) (by decide) (by decide)]) (fun k _ _ => by rw [g71 108 (by decide) (by decide) (by decide)]) hn6
      have b111 : I71 111 d = nI w := by rw [g71 111 (by decide) (by decide) (by decide)]; exact a111
      have b112 : I71 112 d = nI i := by rw [g71 112 (by decide) (by decide) (by decide)]; exact a112
      have b109 : I71 109 d = nI (mvs F b w).length := fm71.1
      have ct71 : I71 97 37 = bI ((T || (List.range i).any (fun j => canB F sd (wdL wd (d + 1) e) (playB F b w ((mvs F b w)[j]?)))) = true) := (a71 37 (by decide)).trans ctA
      refine g_aload_n C (pc := 74) dX12_findRows_74 2 rfl ?_
      refine g_getR C (pc := 75) fl_RX12_53 (by decide) (by first | assumption | rfl | omega) (by first | assumption | rfl | omega) (by first | assumption | rfl | omega) dX12_findRows_75 ?_
      refine g_iload C (pc := 78) dX12_findRows_78 0 rfl ?_
      refine g_iald C (pc := 80) (by first | assumption | rfl | omega) (by first | assumption | rfl | omega) (vp_in_nI (n := d) (by omega) (by decide)) dX12_findRows_80 ?_
      rw [hcd, b112]
      refine g_aload_n C (pc := 81) dX12_findRows_81 2 rfl ?_
      refine g_getR C (pc := 82) fl_RX12_44 (by decide) (by first | assumption | rfl | omega) (by first | assumption | rfl | omega) (by first | assumption | rfl | omega) dX12_findRows_82 ?_
      refine g_iload C (pc := 85) dX12_findRows_85 0 rfl ?_
      refine g_iald C (pc := 87) (by first | assumption | rfl | omega) (by first | assumption | rfl | omega) (vp_in_nI (n := d) (by omega) (by decide)) dX12_findRows_87 ?_
      rw [hcd, b109]
      refine g_if_ne C (pc := 88) 95 dX12_findRows_88 (by decide) (fun c88 => ?_) (fun c88 => ?_)
      · have hl0 : (mvs F b w).length ≠ 0 := fun h => c88 (by rw [h]; rfl)
        refine g_aload_n C (pc := 95) dX12_findRows_95 2 rfl ?_
        refine g_getR C (pc := 96) fl_RX12_44 (by decide) (by first | assumption | rfl | omega) (by first | assumption | rfl | omega) (by first | assumption | rfl | omega) dX12_findRows_96 ?_
        refine g_iload C (pc := 99) dX12_findRows_99 0 rfl ?_
        refine g_iald C (pc := 101) (by first | assumption | rfl | omega) (by first | assumption | rfl | omega) (vp_in_nI (n := d) (by omega) (by decide)) dX12_findRows_101 ?_
        first
        | rw [hcd, b109]
        | skip
        refine g_icmp_ge C (pc := 102) 213 dX12_findRows_102 (by decide) (fun c102 => ?_) (fun c102 => ?_)
        · have hic : i = cntM F b w := by
            have h9 : cntM F b w ≤ i := by
              unfold cntM
              first
              | (rw [if_neg hl0]; exact (nI_leI (by omega) (by omega)).mp c102)
              | (rw [if_pos hl0]; exact (nI_leI (a := 1) (by omega) (by omega)).mp c102)
            omega
          refine g_iload_n C (pc := 213) dX12_findRows_213 4 rfl ?_
          refine g_iconst C (pc := 214) 2 dX12_findRows_214 (by decide) ?_
          refine g_icmp_eq C (pc := 215) 264 dX12_findRows_215 (by decide) (fun c215 => ?_) (fun c215 => ?_)
          · refine g_iinc C (pc := 264) (-1) dX12_findRows_264 0 rfl (by decide) (by decide) (fun v264 => [(4, .int v264), (3, .int oth), (0, .ref 97), (1, .int (nI N)), (2, .int z)]) (fun _ => rfl) (fun v264 ev264 => ?_)
            refine g_goto C (pc := 267) 52 dX12_findRows_267 (by decide) ?_
            refine g_lv C [0, 1, 2, 3, 4] rfl ?_
            replace ev264 : v264 = nI d - 1 := by rw [ev264]; exact (Int32.sub_eq_add_neg _ _).symm
            subst ev264
            refine K I71 k71 ?_
            rw [hic] at ct71
            rw [wdL, ← hwE, canB_lv hlo0]
            exact ct71
          · exact absurd hz c215
        · have hic : i < cntM F b w := by
            unfold cntM
            first
            | (rw [if_neg hl0]; exact (nI_ltI (by omega) (by omega)).mp c102)
            | (rw [if_pos hl0]; exact (nI_ltI (b := 1) (by omega) (by omega)).mp c102)
          have hmlc : (mvs F b w).length ≠ 0 → i < (mvs F b w).length := fun h9 => by
            unfold cntM at hic; rw [if_neg h9] at hic; exact hic
          refine g_aload_n C (pc := 105) dX12_findRows_105 2 rfl ?_
          refine g_aload_n C (pc := 106) dX12_findRows_106 2 rfl ?_
          refine g_getR C (pc := 107) fl_RX12_50 (by decide) (by first | assumption | rfl | omega) (by first | assumption | rfl | omega) (by first | assumption | rfl | omega) dX12_findRows_107 ?_
          refine g_iload C (pc := 110) dX12_findRows_110 0 rfl ?_
          refine g_iald C (pc := 112) (by first | assumption | rfl | omega) (by first | assumption | rfl | omega) (vp_in_nI (n := d) (by omega) (by decide)) dX12_findRows_112 ?_
          rw [hcd, b111]
          refine g_aload_n C (pc := 113) dX12_findRows_113 2 rfl ?_
          refine g_getR C (pc := 114) fl_RX12_44 (by decide) (by first | assumption | rfl | omega) (by first | assumption | rfl | omega) (by first | assumption | rfl | omega) dX12_findRows_114 ?_
          refine g_iload C (pc := 117) dX12_findRows_117 0 rfl ?_
          refine g_iald C (pc := 119) (by first | assumption | rfl | omega) (by first | assumption | rfl | omega) (vp_in_nI (n := d) (by omega) (by decide)) dX12_findRows_119 ?_
          rw [hcd, b109]
          refine g_if_ne C (pc := 120) 128 dX12_findRows_120 (by decide) (fun c120 => ?_) (fun c120 => ?_)
          · have hmx9 : I71 108 (64 * d + i) = oI ((mvs F b w)[i]?) := by
              have hk9 := List.getElem?_eq_getElem (hmlc hl0)
              rw [hk9]; exact fm71.2 i _ hk9
            refine g_aload_n C (pc := 128) dX12_findRows_128 2 rfl ?_
            refine g_getR C (pc := 129) fl_RX12_41 (by decide) (by first | assumption | rfl | omega) (by first | assumption | rfl | omega) (by first | assumption | rfl | omega) dX12_findRows_129 ?_
            refine g_bipush C (pc := 132) 64 dX12_findRows_132 (by decide) ?_
            refine g_iload C (pc := 134) dX12_findRows_134 0 rfl ?_
            refine g_imul C (pc := 136) dX12_findRows_136 ?_
            refine g_aload_n C (pc := 137) dX12_findRows_137 2 rfl ?_
            refine g_getR C (pc := 138) fl_RX12_53 (by decide) (by first | assumption | rfl | omega) (by first | assumption | rfl | omega) (by first | assumption | rfl | omega) dX12_findRows_138 ?_
            refine g_iload C (pc := 141) dX12_findRows_141 0 rfl ?_
            refine g_iald C (pc := 143) (by first | assumption | rfl | omega) (by first | assumption | rfl | omega) (vp_in_nI (n := d) (by omega) (by decide)) dX12_findRows_143 ?_
            rw [hcd, b112]
            refine g_iadd C (pc := 144) dX12_findRows_144 ?_
            rw [show (64 : Int32) = nI 64 from rfl, pk_mul, nI_add]
            refine g_iald C (pc := 145) (by first | assumption | rfl | omega) (by first | assumption | rfl | omega) (vp_in_nI (n := 64 * d + i) (by omega) (by decide)) dX12_findRows_145 ?_
            first
            | rw [nI_clamp (show 64 * d + i < 2 ^ 31 by omega)]
            | skip
            refine g_callVI C (pc := 146) mf_X12_goes lk_RX12_251 (c_X12_goesE n ρ I71 F b w ((mvs F b w)[i]?) _ _ hn9 hms (hqf.kp kp71) hrw f71 hbw hw (mvs_K hrw) hmx9 rfl) (by decide) (Nat.le_refl _) rfl (by first | assumption | rfl | omega) rfl (by first | assumption | rfl | omega) (Nat.le_of_ble_eq_true rfl) dX12_findRows_146 (fun v146 I146 h146 => ?_)
            obtain ⟨e146, f146, a146, g146⟩ := h146
            have k146 : Ky d J0 I146 := k71.trans (Ky.qb a146 g146)
            have kp146 := hkp0.trans k146.1
            have hbw2 : BW F (playB F b w ((mvs F b w)[i]?)) := (mvs_K hrw).bw hrw hbw
            have hl12 : L1 F (playB F b w ((mvs F b w)[i]?)) := L1_play hl1
            have hpw2 : PW F (playB F b w ((mvs F b w)[i]?)) := PW_play (mvs_K hrw) hrw hpw
            refine g_pop C (pc := 149) dX12_findRows_149 rfl ?_
            refine g_aload_n C (pc := 150) dX12_findRows_150 2 rfl ?_
            refine g_aload_n C (pc := 151) dX12_findRows_151 2 rfl ?_
            refine g_getI C (pc := 152) fl_RX12_325 (by decide) (by first | assumption | rfl | omega) (by first | assumption | rfl | omega) dX12_findRows_152 ?_
            refine g_if_ne C (pc := 155) 166 dX12_findRows_155 (by decide) (fun c155 => ?_) (fun c155 => ?_)
            · refine g_iconst C (pc := 166) 1 dX12_findRows_166 (by decide) ?_
              refine g_goto C (pc := 167) 171 dX12_findRows_167 (by decide) ?_
              refine g_putI C (pc := 171) fl_RX12_325 (by decide) fp_11_37 (Or.inl rfl) ⟨rfl, rfl⟩ (by first | assumption | rfl | omega) (by first | assumption | rfl | omega) hn9 dX12_findRows_171 ?_
              first
              | (obtain ⟨IB, hIB⟩ : ∃ IB, IB = wr I146 97 37 1 := ⟨_, rfl⟩
                 rw [← hIB])
              | (obtain ⟨IB, hIB⟩ : ∃ IB, IB = wr I146 97 37 0 := ⟨_, rfl⟩
                 rw [← hIB])
              have kB0 : Ky d I71 IB := (Ky.qb a146 g146).trans (by rw [hIB]; exact Ky.sc (by decide) (by decide) (by decide))
              have kB1 : Ky (d + 1) I71 IB := (Ky.qb a146 g146).trans (by rw [hIB]; exact Ky.sc (by decide) (by decide) (by decide))
              have kB : Ky d J0 IB := k71.trans kB0
              have kpB := hkp0.trans kB.1
              have fB : QB IB F (playB F b w ((mvs F b w)[i]?)) := f146.cong (fun _ _ => by rw [hIB, wr_n (by decide)]) (fun _ _ => by rw [hIB, wr_n (by decide)]) (by rw [hIB, wr_sn (by decide)]) hn6
              have lvB : LvR IB F b d w (i + 1) := ⟨sv71.ky kB1 hn6, fm71.ky kB1 hn6, (kB1.2.2.1 d (by omega)).2.1.trans b111, (kB1.2.2.1 d (by omega)).2.2.trans (b112.trans (nI_pred i).symm)⟩
              have ctB : IB 97 37 = bI (((T || (List.range i).any (fun j => canB F sd (wdL wd (d + 1) e) (playB F b w ((mvs F b w)[j]?)))) || decide (lostB F (playB F b w ((mvs F b w)[i]?)) = some (1 - sd))) = true) := by
                rw [hIB, wr_ss]
                first
                | (rw [bI_t (show ((T || (List.range i).any (fun j => canB F sd (wdL wd (d + 1) e) (playB F b w ((mvs F b w)[j]?)))) || decide (lostB F (playB F b w ((mvs F b w)[i]?)) = some (1 - sd))) = true by rw [bI_1.mp (fun h => c155 ((a146 37 (by decide)).trans (ct71.trans h))), Bool.true_or])]; done)
                | (rw [bI_t (show ((T || (List.range i).any (fun j => canB F sd (wdL wd (d + 1) e) (playB F b w ((mvs F b w)[j]?)))) || decide (lostB F (playB F b w ((mvs F b w)[i]?)) = some (1 - sd))) = true by rw [decide_eq_true hlt, Bool.or_true])]; done)
                | (rw [bI_f (show ¬ ((T || (List.range i).any (fun j => canB F sd (wdL wd (d + 1) e) (playB F b w ((mvs F b w)[j]?)))) || decide (lostB F (playB F b w ((mvs F b w)[i]?)) = some (1 - sd))) = true by rw [Bool.eq_false_iff.mpr (bI_0.mp (ct71.symm.trans ((a146 37 (by decide)).symm.trans c155))), decide_eq_false hlt]; decide)]; done)
              have hB113 : IB 113 = I0 113 := kB.2.2.2.2.1.trans h360
              refine g_iload C (pc := 174) dX12_findRows_174 0 rfl ?_
              refine g_iload_n C (pc := 176) dX12_findRows_176 3 rfl ?_
              refine g_iconst C (pc := 177) 1 dX12_findRows_177 (by decide) ?_
              refine g_isub C (pc := 178) dX12_findRows_178 ?_
              refine g_icmp_ne C (pc := 179) 191 dX12_findRows_179 (by decide) (fun c179 => ?_) (fun c179 => ?_)
              · have he1 : e ≠ 0 := fun h9 => c179 (by rw [hN1, show N - 1 = d by omega])
                obtain ⟨e1, rfl⟩ : ∃ e1, e = e1 + 1 := ⟨e - 1, by omega⟩
                refine g_aload_n C (pc := 191) dX12_findRows_191 2 rfl ?_
                refine g_callVI C (pc := 192) mf_X12_lost lk_RX12_221 (c_X12_lost n ρ IB F (playB F b w ((mvs F b w)[i]?)) hn9 hms (hqf.kp kpB) hrw fB hbw2 hl12) (by decide) (Nat.le_refl _) rfl (by first | assumption | rfl | omega) rfl (by first | assumption | rfl | omega) (Nat.le_of_ble_eq_true rfl) dX12_findRows_192 (fun v192 I192 h192 => ?_)
                obtain ⟨e192, rfl⟩ := h192
                refine g_bipush C (pc := 195) (-4) dX12_findRows_195 (by decide) ?_
                refine g_icmp_ne C (pc := 197) 52 dX12_findRows_197 (by decide) (fun c197 => ?_) (fun c197 => ?_)
                · have hlo : lostP F (playB F b w ((mvs F b w)[i]?)) ≠ none := fun h9 => c197 (by rw [e192, lostB_none.mpr h9]; rfl)
                  refine g_lv C [0, 1, 2, 3, 4] rfl ?_
                  refine ih (i + 1) IB hic lvB kB ?_ (by omega)
                  rw [any_succ, ← Bool.or_assoc, canB_lost hrw hsd (Or.inr hlo)]; exact ctB
                · have hnl : lostB F (playB F b w ((mvs F b w)[i]?)) = none := (oI_none (lostB_lt2 hrw)).mp (e192.symm.trans c197)
                  have hno : lostP F (playB F b w ((mvs F b w)[i]?)) = none := lostB_none.mp hnl
                  refine g_iinc C (pc := 200) (1) dX12_findRows_200 0 rfl (by decide) (by decide) (fun v200 => [(4, .int v200), (3, .int oth), (0, .ref 97), (1, .int (nI N)), (2, .int z)]) (fun _ => rfl) (fun v200 ev200 => ?_)
                  replace ev200 : v200 = nI (d + 1) := by rw [ev200]; exact nI_1 d
                  subst ev200
                  refine g_aload_n C (pc := 203) dX12_findRows_203 2 rfl ?_
                  refine g_iload C (pc := 204) dX12_findRows_204 0 rfl ?_
                  refine g_iload_n C (pc := 206) dX12_findRows_206 4 rfl ?_
                  refine g_callVV C (pc := 207) mf_X12_enters lk_RX12_332 (c_X12_enters n ρ IB F (playB F b w ((mvs F b w)[i]?)) (wd (d + 1)) (d + 1) z hn9 hms (hqf.kp kpB) hrw (hqe.kp kpB) fB hbw2 hl12 hpw2 (hwd (d + 1) (by omega)).2 (by omega) (Or.inl ⟨hz, by rw [hB113]; exact (hwd (d + 1) (by omega)).1⟩)) (by decide) (Nat.le_refl _) rfl (by first | assumption | rfl | omega) rfl (by first | assumption | rfl | omega) (Nat.le_of_ble_eq_true rfl) dX12_findRows_207 (fun I207 h207 => ?_)
                  obtain ⟨s207, f207, u207, t207, p207, q207, ⟨x207, y207, z207⟩, g207⟩ := h207
                  refine g_goto C (pc := 210) 52 dX12_findRows_210 (by decide) ?_
                  refine g_lv C [0, 1, 2, 3, 4] rfl ?_
                  have kE := Ky.en p207 q207 x207 y207 z207 g207
                  rw [hnl, show decide ((none : Option Nat) = some (1 - sd)) = false from rfl, Bool.or_false] at ctB
                  refine ihE e1 (by omega) (d + 1) (playB F b w ((mvs F b w)[i]?)) _ I207 (by omega) hbw2 hl12 hpw2 hno ⟨s207, f207, u207, t207.trans (by decide)⟩ (by rw [g207 97 (by decide)]; exact ctB) (kpB.trans kE.1) (kE.2.2.2.2.1.trans hB113) ?_
                  intro J1 hk1 hc1
                  rw [nI_pred d]
                  have kJ := kE.trans hk1
                  refine ih (i + 1) J1 hic (lvB.ky kJ hn6) (kB.trans kJ.down) ?_ (by omega)
                  rw [any_succ, ← Bool.or_assoc]; exact hc1
              · have he0 : e = 0 := by
                  rw [hN1] at c179
                  have := (nI_eq (by omega) (by omega)).mp c179
                  omega
                subst he0
                refine g_aload_n C (pc := 182) dX12_findRows_182 2 rfl ?_
                refine g_iload_n C (pc := 183) dX12_findRows_183 3 rfl ?_
                refine g_iload_n C (pc := 184) dX12_findRows_184 4 rfl ?_
                refine g_callVV C (pc := 185) mf_X12_leaf lk_RX12_329 (c_X12_leaf2 n ρ IB _ z hn9 hms hz) (by decide) (Nat.le_refl _) rfl (by first | assumption | rfl | omega) rfl (by first | assumption | rfl | omega) (Nat.le_of_ble_eq_true rfl) dX12_findRows_185 (fun I185 h185 => ?_)
                obtain rfl := h185
                refine g_goto C (pc := 188) 52 dX12_findRows_188 (by decide) ?_
                refine g_lv C [0, 1, 2, 3, 4] rfl ?_
                refine ih (i + 1) IB hic lvB kB ?_ (by omega)
                rw [any_succ, ← Bool.or_assoc, canB_lost (ws := wdL wd (d + 1) 0) hrw hsd (Or.inl rfl)]; exact ctB
            · refine g_aload_n C (pc := 158) dX12_findRows_158 2 rfl ?_
              refine g_callVI C (pc := 159) mf_X12_lost lk_RX12_221 (c_X12_lost n ρ I146 F (playB F b w ((mvs F b w)[i]?)) hn9 hms (hqf.kp kp146) hrw f146 hbw2 hl12) (by decide) (Nat.le_refl _) rfl (by first | assumption | rfl | omega) rfl (by first | assumption | rfl | omega) (Nat.le_of_ble_eq_true rfl) dX12_findRows_159 (fun v159 I159 h159 => ?_)
              obtain ⟨e159, rfl⟩ := h159
              refine g_iload_n C (pc := 162) dX12_findRows_162 1 rfl ?_
              refine g_icmp_ne C (pc := 163) 170 dX12_findRows_163 (by decide) (fun c163 => ?_) (fun c163 => ?_)
              · have hlt : ¬ lostB F (playB F b w ((mvs F b w)[i]?)) = some (1 - sd) := fun h9 => c163 (by rw [e159, h9, hoth]; rfl)
                refine g_iconst C (pc := 170) 0 dX12_findRows_170 (by decide) ?_
                refine g_putI C (pc := 171) fl_RX12_325 (by decide) fp_11_37 (Or.inl rfl) ⟨rfl, rfl⟩ (by first | assumption | rfl | omega) (by first | assumption | rfl | omega) hn9 dX12_findRows_171 ?_
                first
                | (obtain ⟨IB, hIB⟩ : ∃ IB, IB = wr I146 97 37 1 := ⟨_, rfl⟩
                   rw [← hIB])
                | (obtain ⟨IB, hIB⟩ : ∃ IB, IB = wr I146 97 37 0 := ⟨_, rfl⟩
                   rw [← hIB])
                have kB0 : Ky d I71 IB := (Ky.qb a146 g146).trans (by rw [hIB]; exact Ky.sc (by decide) (by decide) (by decide))
                have kB1 : Ky (d + 1) I71 IB := (Ky.qb a146 g146).trans (by rw [hIB]; exact Ky.sc (by decide) (by decide) (by decide))
                have kB : Ky d J0 IB := k71.trans kB0
                have kpB := hkp0.trans kB.1
                have fB : QB IB F (playB F b w ((mvs F b w)[i]?)) := f146.cong (fun _ _ => by rw [hIB, wr_n (by decide)]) (fun _ _ => by rw [hIB, wr_n (by decide)]) (by rw [hIB, wr_sn (by decide)]) hn6
                have lvB : LvR IB F b d w (i + 1) := ⟨sv71.ky kB1 hn6, fm71.ky kB1 hn6, (kB1.2.2.1 d (by omega)).2.1.trans b111, (kB1.2.2.1 d (by omega)).2.2.trans (b112.trans (nI_pred i).symm)⟩
                have ctB : IB 97 37 = bI (((T || (List.range i).any (fun j => canB F sd (wdL wd (d + 1) e) (playB F b w ((mvs F b w)[j]?)))) || decide (lostB F (playB F b w ((mvs F b w)[i]?)) = some (1 - sd))) = true) := by
                  rw [hIB, wr_ss]
                  first
                  | (rw [bI_t (show ((T || (List.range i).any (fun j => canB F sd (wdL wd (d + 1) e) (playB F b w ((mvs F b w)[j]?)))) || decide (lostB F (playB F b w ((mvs F b w)[i]?)) = some (1 - sd))) = true by rw [bI_1.mp (fun h => c155 ((a146 37 (by decide)).trans (ct71.trans h))), Bool.true_or])]; done)
                  | (rw [bI_t (show ((T || (List.range i).any (fun j => canB F sd (wdL wd (d + 1) e) (playB F b w ((mvs F b w)[j]?)))) || decide (lostB F (playB F b w ((mvs F b w)[i]?)) = some (1 - sd))) = true by rw [decide_eq_true hlt, Bool.or_true])]; done)
                  | (rw [bI_f (show ¬ ((T || (List.range i).any (fun j => canB F sd (wdL wd (d + 1) e) (playB F b w ((mvs F b w)[j]?)))) || decide (lostB F (playB F b w ((mvs F b w)[i]?)) = some (1 - sd))) = true by rw [Bool.eq_false_iff.mpr (bI_0.mp (ct71.symm.trans ((a146 37 (by decide)).symm.trans c155))), decide_eq_false hlt]; decide)]; done)
                have hB113 : IB 113 = I0 113 := kB.2.2.2.2.1.trans h360
                refine g_iload C (pc := 174) dX12_findRows_174 0 rfl ?_
                refine g_iload_n C (pc := 176) dX12_findRows_176 3 rfl ?_
                refine g_iconst C (pc := 177) 1 dX12_findRows_177 (by decide) ?_
                refine g_isub C (pc := 178) dX12_findRows_178 ?_
                refine g_icmp_ne C (pc := 179) 191 dX12_findRows_179 (by decide) (fun c179 => ?_) (fun c179 => ?_)
                · have he1 : e ≠ 0 := fun h9 => c179 (by rw [hN1, show N - 1 = d by omega])
                  obtain ⟨e1, rfl⟩ : ∃ e1, e = e1 + 1 := ⟨e - 1, by omega⟩
                  refine g_aload_n C (pc := 191) dX12_findRows_191 2 rfl ?_
                  refine g_callVI C (pc := 192) mf_X12_lost lk_RX12_221 (c_X12_lost n ρ IB F (playB F b w ((mvs F b w)[i]?)) hn9 hms (hqf.kp kpB) hrw fB hbw2 hl12) (by decide) (Nat.le_refl _) rfl (by first | assumption | rfl | omega) rfl (by first | assumption | rfl | omega) (Nat.le_of_ble_eq_true rfl) dX12_findRows_192 (fun v192 I192 h192 => ?_)
                  obtain ⟨e192, rfl⟩ := h192
                  refine g_bipush C (pc := 195) (-4) dX12_findRows_195 (by decide) ?_
                  refine g_icmp_ne C (pc := 197) 52 dX12_findRows_197 (by decide) (fun c197 => ?_) (fun c197 => ?_)
                  · have hlo : lostP F (playB F b w ((mvs F b w)[i]?)) ≠ none := fun h9 => c197 (by rw [e192, lostB_none.mpr h9]; rfl)
                    refine g_lv C [0, 1, 2, 3, 4] rfl ?_
                    refine ih (i + 1) IB hic lvB kB ?_ (by omega)
                    rw [any_succ, ← Bool.or_assoc, canB_lost hrw hsd (Or.inr hlo)]; exact ctB
                  · have hnl : lostB F (playB F b w ((mvs F b w)[i]?)) = none := (oI_none (lostB_lt2 hrw)).mp (e192.symm.trans c197)
                    have hno : lostP F (playB F b w ((mvs F b w)[i]?)) = none := lostB_none.mp hnl
                    refine g_iinc C (pc := 200) (1) dX12_findRows_200 0 rfl (by decide) (by decide) (fun v200 => [(4, .int v200), (3, .int oth), (0, .ref 97), (1, .int (nI N)), (2, .int z)]) (fun _ => rfl) (fun v200 ev200 => ?_)
                    replace ev200 : v200 = nI (d + 1) := by rw [ev200]; exact nI_1 d
                    subst ev200
                    refine g_aload_n C (pc := 203) dX12_findRows_203 2 rfl ?_
                    refine g_iload C (pc := 204) dX12_findRows_204 0 rfl ?_
                    refine g_iload_n C (pc := 206) dX12_findRows_206 4 rfl ?_
                    refine g_callVV C (pc := 207) mf_X12_enters lk_RX12_332 (c_X12_enters n ρ IB F (playB F b w ((mvs F b w)[i]?)) (wd (d + 1)) (d + 1) z hn9 hms (hqf.kp kpB) hrw (hqe.kp kpB) fB hbw2 hl12 hpw2 (hwd (d + 1) (by omega)).2 (by omega) (Or.inl ⟨hz, by rw [hB113]; exact (hwd (d + 1) (by omega)).1⟩)) (by decide) (Nat.le_refl _) rfl (by first | assumption | rfl | omega) rfl (by first | assumption | rfl | omega) (Nat.le_of_ble_eq_true rfl) dX12_findRows_207 (fun I207 h207 => ?_)
                    obtain ⟨s207, f207, u207, t207, p207, q207, ⟨x207, y207, z207⟩, g207⟩ := h207
                    refine g_goto C (pc := 210) 52 dX12_findRows_210 (by decide) ?_
                    refine g_lv C [0, 1, 2, 3, 4] rfl ?_
                    have kE := Ky.en p207 q207 x207 y207 z207 g207
                    rw [hnl, show decide ((none : Option Nat) = some (1 - sd)) = false from rfl, Bool.or_false] at ctB
                    refine ihE e1 (by omega) (d + 1) (playB F b w ((mvs F b w)[i]?)) _ I207 (by omega) hbw2 hl12 hpw2 hno ⟨s207, f207, u207, t207.trans (by decide)⟩ (by rw [g207 97 (by decide)]; exact ctB) (kpB.trans kE.1) (kE.2.2.2.2.1.trans hB113) ?_
                    intro J1 hk1 hc1
                    rw [nI_pred d]
                    have kJ := kE.trans hk1
                    refine ih (i + 1) J1 hic (lvB.ky kJ hn6) (kB.trans kJ.down) ?_ (by omega)
                    rw [any_succ, ← Bool.or_assoc]; exact hc1
                · have he0 : e = 0 := by
                    rw [hN1] at c179
                    have := (nI_eq (by omega) (by omega)).mp c179
                    omega
                  subst he0
                  refine g_aload_n C (pc := 182) dX12_findRows_182 2 rfl ?_
                  refine g_iload_n C (pc := 183) dX12_findRows_183 3 rfl ?_
                  refine g_iload_n C (pc := 184) dX12_findRows_184 4 rfl ?_
                  refine g_callVV C (pc := 185) mf_X12_leaf lk_RX12_329 (c_X12_leaf2 n ρ IB _ z hn9 hms hz) (by decide) (Nat.le_refl _) rfl (by first | assumption | rfl | omega) rfl (by first | assumption | rfl | omega) (Nat.le_of_ble_eq_true rfl) dX12_findRows_185 (fun I185 h185 => ?_)
                  obtain rfl := h185
                  refine g_goto C (pc := 188) 52 dX12_findRows_188 (by decide) ?_
                  refine g_lv C [0, 1, 2, 3, 4] rfl ?_
                  refine ih (i + 1) IB hic lvB kB ?_ (by omega)
                  rw [any_succ, ← Bool.or_assoc, canB_lost (ws := wdL wd (d + 1) 0) hrw hsd (Or.inl rfl)]; exact ctB
              · have hlt : lostB F (playB F b w ((mvs F b w)[i]?)) = some (1 - sd) := (oI_nI (lostB_lt2 hrw) (by omega)).mp (e159.symm.trans (c163.trans hoth))
                refine g_iconst C (pc := 166) 1 dX12_findRows_166 (by decide) ?_
                refine g_goto C (pc := 167) 171 dX12_findRows_167 (by decide) ?_
                refine g_putI C (pc := 171) fl_RX12_325 (by decide) fp_11_37 (Or.inl rfl) ⟨rfl, rfl⟩ (by first | assumption | rfl | omega) (by first | assumption | rfl | omega) hn9 dX12_findRows_171 ?_
                first
                | (obtain ⟨IB, hIB⟩ : ∃ IB, IB = wr I146 97 37 1 := ⟨_, rfl⟩
                   rw [← hIB])
                | (obtain ⟨IB, hIB⟩ : ∃ IB, IB = wr I146 97 37 0 := ⟨_, rfl⟩
                   rw [← hIB])
                have kB0 : Ky d I71 IB := (Ky.qb a146 g146).trans (by rw [hIB]; exact Ky.sc (by decide) (by decide) (by decide))
                have kB1 : Ky (d + 1) I71 IB := (Ky.qb a146 g146).trans (by rw [hIB]; exact Ky.sc (by decide) (by decide) (by decide))
                have kB : Ky d J0 IB := k71.trans kB0
                have kpB := hkp0.trans kB.1
                have fB : QB IB F (playB F b w ((mvs F b w)[i]?)) := f146.cong (fun _ _ => by rw [hIB, wr_n (by decide)]) (fun _ _ => by rw [hIB, wr_n (by decide)]) (by rw [hIB, wr_sn (by decide)]) hn6
                have lvB : LvR IB F b d w (i + 1) := ⟨sv71.ky kB1 hn6, fm71.ky kB1 hn6, (kB1.2.2.1 d (by omega)).2.1.trans b111, (kB1.2.2.1 d (by omega)).2.2.trans (b112.trans (nI_pred i).symm)⟩
                have ctB : IB 97 37 = bI (((T || (List.range i).any (fun j => canB F sd (wdL wd (d + 1) e) (playB F b w ((mvs F b w)[j]?)))) || decide (lostB F (playB F b w ((mvs F b w)[i]?)) = some (1 - sd))) = true) := by
                  rw [hIB, wr_ss]
                  first
                  | (rw [bI_t (show ((T || (List.range i).any (fun j => canB F sd (wdL wd (d + 1) e) (playB F b w ((mvs F b w)[j]?)))) || decide (lostB F (playB F b w ((mvs F b w)[i]?)) = some (1 - sd))) = true by rw [bI_1.mp (fun h => c155 ((a146 37 (by decide)).trans (ct71.trans h))), Bool.true_or])]; done)
                  | (rw [bI_t (show ((T || (List.range i).any (fun j => canB F sd (wdL wd (d + 1) e) (playB F b w ((mvs F b w)[j]?)))) || decide (lostB F (playB F b w ((mvs F b w)[i]?)) = some (1 - sd))) = true by rw [decide_eq_true hlt, Bool.or_true])]; done)
                  | (rw [bI_f (show ¬ ((T || (List.range i).any (fun j => canB F sd (wdL wd (d + 1) e) (playB F b w ((mvs F b w)[j]?)))) || decide (lostB F (playB F b w ((mvs F b w)[i]?)) = some (1 - sd))) = true by rw [Bool.eq_false_iff.mpr (bI_0.mp (ct71.symm.trans ((a146 37 (by decide)).symm.trans c155))), decide_eq_false hlt]; decide)]; done)
                have hB113 : IB 113 = I0 113 := kB.2.2.2.2.1.trans h360
                refine g_iload C (pc := 174) dX12_findRows_174 0 rfl ?_
                refine g_iload_n C (pc := 176) dX12_findRows_176 3 rfl ?_
                refine g_iconst C (pc := 177) 1 dX12_findRows_177 (by decide) ?_
                refine g_isub C (pc := 178) dX12_findRows_178 ?_
                refine g_icmp_ne C (pc := 179) 191 dX12_findRows_179 (by decide) (fun c179 => ?_) (fun c179 => ?_)
                · have he1 : e ≠ 0 := fun h9 => c179 (by rw [hN1, show N - 1 = d by omega])
                  obtain ⟨e1, rfl⟩ : ∃ e1, e = e1 + 1 := ⟨e - 1, by omega⟩
                  refine g_aload_n C (pc := 191) dX12_findRows_191 2 rfl ?_
                  refine g_callVI C (pc := 192) mf_X12_lost lk_RX12_221 (c_X12_lost n ρ IB F (playB F b w ((mvs F b w)[i]?)) hn9 hms (hqf.kp kpB) hrw fB hbw2 hl12) (by decide) (Nat.le_refl _) rfl (by first | assumption | rfl | omega) rfl (by first | assumption | rfl | omega) (Nat.le_of_ble_eq_true rfl) dX12_findRows_192 (fun v192 I192 h192 => ?_)
                  obtain ⟨e192, rfl⟩ := h192
                  refine g_bipush C (pc := 195) (-4) dX12_findRows_195 (by decide) ?_
                  refine g_icmp_ne C (pc := 197) 52 dX12_findRows_197 (by decide) (fun c197 => ?_) (fun c197 => ?_)
                  · have hlo : lostP F (playB F b w ((mvs F b w)[i]?)) ≠ none := fun h9 => c197 (by rw [e192, lostB_none.mpr h9]; rfl)
                    refine g_lv C [0, 1, 2, 3, 4] rfl ?_
                    refine ih (i + 1) IB hic lvB kB ?_ (by omega)
                    rw [any_succ, ← Bool.or_assoc, canB_lost hrw hsd (Or.inr hlo)]; exact ctB
                  · have hnl : lostB F (playB F b w ((mvs F b w)[i]?)) = none := (oI_none (lostB_lt2 hrw)).mp (e192.symm.trans c197)
                    have hno : lostP F (playB F b w ((mvs F b w)[i]?)) = none := lostB_none.mp hnl
                    refine g_iinc C (pc := 200) (1) dX12_findRows_200 0 rfl (by decide) (by decide) (fun v200 => [(4, .int v200), (3, .int oth), (0, .ref 97), (1, .int (nI N)), (2, .int z)]) (fun _ => rfl) (fun v200 ev200 => ?_)
                    replace ev200 : v200 = nI (d + 1) := by rw [ev200]; exact nI_1 d
                    subst ev200
                    refine g_aload_n C (pc := 203) dX12_findRows_203 2 rfl ?_
                    refine g_iload C (pc := 204) dX12_findRows_204 0 rfl ?_
                    refine g_iload_n C (pc := 206) dX12_findRows_206 4 rfl ?_
                    refine g_callVV C (pc := 207) mf_X12_enters lk_RX12_332 (c_X12_enters n ρ IB F (playB F b w ((mvs F b w)[i]?)) (wd (d + 1)) (d + 1) z hn9 hms (hqf.kp kpB) hrw (hqe.kp kpB) fB hbw2 hl12 hpw2 (hwd (d + 1) (by omega)).2 (by omega) (Or.inl ⟨hz, by rw [hB113]; exact (hwd (d + 1) (by omega)).1⟩)) (by decide) (Nat.le_refl _) rfl (by first | assumption | rfl | omega) rfl (by first | assumption | rfl | omega) (Nat.le_of_ble_eq_true rfl) dX12_findRows_207 (fun I207 h207 => ?_)
                    obtain ⟨s207, f207, u207, t207, p207, q207, ⟨x207, y207, z207⟩, g207⟩ := h207
                    refine g_goto C (pc := 210) 52 dX12_findRows_210 (by decide) ?_
                    refine g_lv C [0, 1, 2, 3, 4] rfl ?_
                    have kE := Ky.en p207 q207 x207 y207 z207 g207
                    rw [hnl, show decide ((none : Option Nat) = some (1 - sd)) = false from rfl, Bool.or_false] at ctB
                    refine ihE e1 (by omega) (d + 1) (playB F b w ((mvs F b w)[i]?)) _ I207 (by omega) hbw2 hl12 hpw2 hno ⟨s207, f207, u207, t207.trans (by decide)⟩ (by rw [g207 97 (by decide)]; exact ctB) (kpB.trans kE.1) (kE.2.2.2.2.1.trans hB113) ?_
                    intro J1 hk1 hc1
                    rw [nI_pred d]
                    have kJ := kE.trans hk1
                    refine ih (i + 1) J1 hic (lvB.ky kJ hn6) (kB.trans kJ.down) ?_ (by omega)
                    rw [any_succ, ← Bool.or_assoc]; exact hc1
                · have he0 : e = 0 := by
                    rw [hN1] at c179
                    have := (nI_eq (by omega) (by omega)).mp c179
                    omega
                  subst he0
                  refine g_aload_n C (pc := 182) dX12_findRows_182 2 rfl ?_
                  refine g_iload_n C (pc := 183) dX12_findRows_183 3 rfl ?_
                  refine g_iload_n C (pc := 184) dX12_findRows_184 4 rfl ?_
                  refine g_callVV C (pc := 185) mf_X12_leaf lk_RX12_329 (c_X12_leaf2 n ρ IB _ z hn9 hms hz) (by decide) (Nat.le_refl _) rfl (by first | assumption | rfl | omega) rfl (by first | assumption | rfl | omega) (Nat.le_of_ble_eq_true rfl) dX12_findRows_185 (fun I185 h185 => ?_)
                  obtain rfl := h185
                  refine g_goto C (pc := 188) 52 dX12_findRows_188 (by decide) ?_
                  refine g_lv C [0, 1, 2, 3, 4] rfl ?_
                  refine ih (i + 1) IB hic lvB kB ?_ (by omega)
                  rw [any_succ, ← Bool.or_assoc, canB_lost (ws := wdL wd (d + 1) 0) hrw hsd (Or.inl rfl)]; exact ctB
          · exact absurd c120 c88
      · have hl0 : (mvs F b w).length = 0 := (nI_eq (b := 0) (by omega) (by decide)).mp c88
        refine g_iconst C (pc := 91) 1 dX12_findRows_91 (by decide) ?_
        refine g_goto C (pc := 92) 102 dX12_findRows_92 (by decide) ?_
        first
        | rw [hcd, b109]
        | skip
        refine g_icmp_ge C (pc := 102) 213 dX12_findRows_102 (by decide) (fun c102 => ?_) (fun c102 => ?_)
        · have hic : i = cntM F b w := by
            have h9 : cntM F b w ≤ i := by
              unfold cntM
              first
              | (rw [if_neg hl0]; exact (nI_leI (by omega) (by omega)).mp c102)
              | (rw [if_pos hl0]; exact (nI_leI (a := 1) (by omega) (by omega)).mp c102)
            omega
          refine g_iload_n C (pc := 213) dX12_findRows_213 4 rfl ?_
          refine g_iconst C (pc := 214) 2 dX12_findRows_214 (by decide) ?_
          refine g_icmp_eq C (pc := 215) 264 dX12_findRows_215 (by decide) (fun c215 => ?_) (fun c215 => ?_)
          · refine g_iinc C (pc := 264) (-1) dX12_findRows_264 0 rfl (by decide) (by decide) (fun v264 => [(4, .int v264), (3, .int oth), (0, .ref 97), (1, .int (nI N)), (2, .int z)]) (fun _ => rfl) (fun v264 ev264 => ?_)
            refine g_goto C (pc := 267) 52 dX12_findRows_267 (by decide) ?_
            refine g_lv C [0, 1, 2, 3, 4] rfl ?_
            replace ev264 : v264 = nI d - 1 := by rw [ev264]; exact (Int32.sub_eq_add_neg _ _).symm
            subst ev264
            refine K I71 k71 ?_
            rw [hic] at ct71
            rw [wdL, ← hwE, canB_lv hlo0]
            exact ct71
          · exact absurd hz c215
        · have hic : i < cntM F b w := by
            unfold cntM
            first
            | (rw [if_neg hl0]; exact (nI_ltI (by omega) (by omega)).mp c102)
            | (rw [if_pos hl0]; exact (nI_ltI (b := 1) (by omega) (by omega)).mp c102)
          have hmlc : (mvs F b w).length ≠ 0 → i < (mvs F b w).length := fun h9 => by
            unfold cntM at hic; rw [if_neg h9] at hic; exact hic
          refine g_aload_n C (pc := 105) dX12_findRows_105 2 rfl ?_
          refine g_aload_n C (pc := 106) dX12_findRows_106 2 rfl ?_
          refine g_getR C (pc := 107) fl_RX12_50 (by decide) (by first | assumption | rfl | omega) (by first | assumption | rfl | omega) (by first | assumption | rfl | omega) dX12_findRows_107 ?_
          refine g_iload C (pc := 110) dX12_findRows_110 0 rfl ?_
          refine g_iald C (pc := 112) (by first | assumption | rfl | omega) (by first | assumption | rfl | omega) (vp_in_nI (n := d) (by omega) (by decide)) dX12_findRows_112 ?_
          rw [hcd, b111]
          refine g_aload_n C (pc := 113) dX12_findRows_113 2 rfl ?_
          refine g_getR C (pc := 114) fl_RX12_44 (by decide) (by first | assumption | rfl | omega) (by first | assumption | rfl | omega) (by first | assumption | rfl | omega) dX12_findRows_114 ?_
          refine g_iload C (pc := 117) dX12_findRows_117 0 rfl ?_
          refine g_iald C (pc := 119) (by first | assumption | rfl | omega) (by first | assumption | rfl | omega) (vp_in_nI (n := d) (by omega) (by decide)) dX12_findRows_119 ?_
          rw [hcd, b109]
          refine g_if_ne C (pc := 120) 128 dX12_findRows_120 (by decide) (fun c120 => ?_) (fun c120 => ?_)
          · exact absurd c88 c120
          · have hmx9 : (-4 : Int32) = oI ((mvs F b w)[i]?) := by rw [List.getElem?_eq_none (by omega)]; rfl
            refine g_bipush C (pc := 123) (-4) dX12_findRows_123 (by decide) ?_
            refine g_goto C (pc := 125) 146 dX12_findRows_125 (by decide) ?_
            first
            | rw [nI_clamp (show 64 * d + i < 2 ^ 31 by omega)]
            | skip
            refine g_callVI C (pc := 146) mf_X12_goes lk_RX12_251 (c_X12_goesE n ρ I71 F b w ((mvs F b w)[i]?) _ _ hn9 hms (hqf.kp kp71) hrw f71 hbw hw (mvs_K hrw) hmx9 rfl) (by decide) (Nat.le_refl _) rfl (by first | assumption | rfl | omega) rfl (by first | assumption | rfl | omega) (Nat.le_of_ble_eq_true rfl) dX12_findRows_146 (fun v146 I146 h146 => ?_)
            obtain ⟨e146, f146, a146, g146⟩ := h146
            have k146 : Ky d J0 I146 := k71.trans (Ky.qb a146 g146)
            have kp146 := hkp0.trans k146.1
            have hbw2 : BW F (playB F b w ((mvs F b w)[i]?)) := (mvs_K hrw).bw hrw hbw
            have hl12 : L1 F (playB F b w ((mvs F b w)[i]?)) := L1_play hl1
            have hpw2 : PW F (playB F b w ((mvs F b w)[i]?)) := PW_play (mvs_K hrw) hrw hpw
            refine g_pop C (pc := 149) dX12_findRows_149 rfl ?_
            refine g_aload_n C (pc := 150) dX12_findRows_150 2 rfl ?_
            refine g_aload_n C (pc := 151) dX12_findRows_151 2 rfl ?_
            refine g_getI C (pc := 152) fl_RX12_325 (by decide) (by first | assumption | rfl | omega) (by first | assumption | rfl | omega) dX12_findRows_152 ?_
            refine g_if_ne C (pc := 155) 166 dX12_findRows_155 (by decide) (fun c155 => ?_) (fun c155 => ?_)
            · refine g_iconst C (pc := 166) 1 dX12_findRows_166 (by decide) ?_
              refine g_goto C (pc := 167) 171 dX12_findRows_167 (by decide) ?_
              refine g_putI C (pc := 171) fl_RX12_325 (by decide) fp_11_37 (Or.inl rfl) ⟨rfl, rfl⟩ (by first | assumption | rfl | omega) (by first | assumption | rfl | omega) hn9 dX12_findRows_171 ?_
              first
              | (obtain ⟨IB, hIB⟩ : ∃ IB, IB = wr I146 97 37 1 := ⟨_, rfl⟩
                 rw [← hIB])
              | (obtain ⟨IB, hIB⟩ : ∃ IB, IB = wr I146 97 37 0 := ⟨_, rfl⟩
                 rw [← hIB])
              have kB0 : Ky d I71 IB := (Ky.qb a146 g146).trans (by rw [hIB]; exact Ky.sc (by decide) (by decide) (by decide))
              have kB1 : Ky (d + 1) I71 IB := (Ky.qb a146 g146).trans (by rw [hIB]; exact Ky.sc (by decide) (by decide) (by decide))
              have kB : Ky d J0 IB := k71.trans kB0
              have kpB := hkp0.trans kB.1
              have fB : QB IB F (playB F b w ((mvs F b w)[i]?)) := f146.cong (fun _ _ => by rw [hIB, wr_n (by decide)]) (fun _ _ => by rw [hIB, wr_n (by decide)]) (by rw [hIB, wr_sn (by decide)]) hn6
              have lvB : LvR IB F b d w (i + 1) := ⟨sv71.ky kB1 hn6, fm71.ky kB1 hn6, (kB1.2.2.1 d (by omega)).2.1.trans b111, (kB1.2.2.1 d (by omega)).2.2.trans (b112.trans (nI_pred i).symm)⟩
              have ctB : IB 97 37 = bI (((T || (List.range i).any (fun j => canB F sd (wdL wd (d + 1) e) (playB F b w ((mvs F b w)[j]?)))) || decide (lostB F (playB F b w ((mvs F b w)[i]?)) = some (1 - sd))) = true) := by
                rw [hIB, wr_ss]
                first
                | (rw [bI_t (show ((T || (List.range i).any (fun j => canB F sd (wdL wd (d + 1) e) (playB F b w ((mvs F b w)[j]?)))) || decide (lostB F (playB F b w ((mvs F b w)[i]?)) = some (1 - sd))) = true by rw [bI_1.mp (fun h => c155 ((a146 37 (by decide)).trans (ct71.trans h))), Bool.true_or])]; done)
                | (rw [bI_t (show ((T || (List.range i).any (fun j => canB F sd (wdL wd (d + 1) e) (playB F b w ((mvs F b w)[j]?)))) || decide (lostB F (playB F b w ((mvs F b w)[i]?)) = some (1 - sd))) = true by rw [decide_eq_true hlt, Bool.or_true])]; done)
                | (rw [bI_f (show ¬ ((T || (List.range i).any (fun j => canB F sd (wdL wd (d + 1) e) (playB F b w ((mvs F b w)[j]?)))) || decide (lostB F (playB F b w ((mvs F b w)[i]?)) = some (1 - sd))) = true by rw [Bool.eq_false_iff.mpr (bI_0.mp (ct71.symm.trans ((a146 37 (by decide)).symm.trans c155))), decide_eq_false hlt]; decide)]; done)
              have hB113 : IB 113 = I0 113 := kB.2.2.2.2.1.trans h360
              refine g_iload C (pc := 174) dX12_findRows_174 0 rfl ?_
              refine g_iload_n C (pc := 176) dX12_findRows_176 3 rfl ?_
              refine g_iconst C (pc := 177) 1 dX12_findRows_177 (by decide) ?_
              refine g_isub C (pc := 178) dX12_findRows_178 ?_
              refine g_icmp_ne C (pc := 179) 191 dX12_findRows_179 (by decide) (fun c179 => ?_) (fun c179 => ?_)
              · have he1 : e ≠ 0 := fun h9 => c179 (by rw [hN1, show N - 1 = d by omega])
                obtain ⟨e1, rfl⟩ : ∃ e1, e = e1 + 1 := ⟨e - 1, by omega⟩
                refine g_aload_n C (pc := 191) dX12_findRows_191 2 rfl ?_
                refine g_callVI C (pc := 192) mf_X12_lost lk_RX12_221 (c_X12_lost n ρ IB F (playB F b w ((mvs F b w)[i]?)) hn9 hms (hqf.kp kpB) hrw fB hbw2 hl12) (by decide) (Nat.le_refl _) rfl (by first | assumption | rfl | omega) rfl (by first | assumption | rfl | omega) (Nat.le_of_ble_eq_true rfl) dX12_findRows_192 (fun v192 I192 h192 => ?_)
                obtain ⟨e192, rfl⟩ := h192
                refine g_bipush C (pc := 195) (-4) dX12_findRows_195 (by decide) ?_
                refine g_icmp_ne C (pc := 197) 52 dX12_findRows_197 (by decide) (fun c197 => ?_) (fun c197 => ?_)
                · have hlo : lostP F (playB F b w ((mvs F b w)[i]?)) ≠ none := fun h9 => c197 (by rw [e192, lostB_none.mpr h9]; rfl)
                  refine g_lv C [0, 1, 2, 3, 4] rfl ?_
                  refine ih (i + 1) IB hic lvB kB ?_ (by omega)
                  rw [any_succ, ← Bool.or_assoc, canB_lost hrw hsd (Or.inr hlo)]; exact ctB
                · have hnl : lostB F (playB F b w ((mvs F b w)[i]?)) = none := (oI_none (lostB_lt2 hrw)).mp (e192.symm.trans c197)
                  have hno : lostP F (playB F b w ((mvs F b w)[i]?)) = none := lostB_none.mp hnl
                  refine g_iinc C (pc := 200) (1) dX12_findRows_200 0 rfl (by decide) (by decide) (fun v200 => [(4, .int v200), (3, .int oth), (0, .ref 97), (1, .int (nI N)), (2, .int z)]) (fun _ => rfl) (fun v200 ev200 => ?_)
                  replace ev200 : v200 = nI (d + 1) := by rw [ev200]; exact nI_1 d
                  subst ev200
                  refine g_aload_n C (pc := 203) dX12_findRows_203 2 rfl ?_
                  refine g_iload C (pc := 204) dX12_findRows_204 0 rfl ?_
                  refine g_iload_n C (pc := 206) dX12_findRows_206 4 rfl ?_
                  refine g_callVV C (pc := 207) mf_X12_enters lk_RX12_332 (c_X12_enters n ρ IB F (playB F b w ((mvs F b w)[i]?)) (wd (d + 1)) (d + 1) z hn9 hms (hqf.kp kpB) hrw (hqe.kp kpB) fB hbw2 hl12 hpw2 (hwd (d + 1) (by omega)).2 (by omega) (Or.inl ⟨hz, by rw [hB113]; exact (hwd (d + 1) (by omega)).1⟩)) (by decide) (Nat.le_refl _) rfl (by first | assumption | rfl | omega) rfl (by first | assumption | rfl | omega) (Nat.le_of_ble_eq_true rfl) dX12_findRows_207 (fun I207 h207 => ?_)
                  obtain ⟨s207, f207, u207, t207, p207, q207, ⟨x207, y207, z207⟩, g207⟩ := h207
                  refine g_goto C (pc := 210) 52 dX12_findRows_210 (by decide) ?_
                  refine g_lv C [0, 1, 2, 3, 4] rfl ?_
                  have kE := Ky.en p207 q207 x207 y207 z207 g207
                  rw [hnl, show decide ((none : Option Nat) = some (1 - sd)) = false from rfl, Bool.or_false] at ctB
                  refine ihE e1 (by omega) (d + 1) (playB F b w ((mvs F b w)[i]?)) _ I207 (by omega) hbw2 hl12 hpw2 hno ⟨s207, f207, u207, t207.trans (by decide)⟩ (by rw [g207 97 (by decide)]; exact ctB) (kpB.trans kE.1) (kE.2.2.2.2.1.trans hB113) ?_
                  intro J1 hk1 hc1
                  rw [nI_pred d]
                  have kJ := kE.trans hk1
                  refine ih (i + 1) J1 hic (lvB.ky kJ hn6) (kB.trans kJ.down) ?_ (by omega)
                  rw [any_succ, ← Bool.or_assoc]; exact hc1
              · have he0 : e = 0 := by
                  rw [hN1] at c179
                  have := (nI_eq (by omega) (by omega)).mp c179
                  omega
                subst he0
                refine g_aload_n C (pc := 182) dX12_findRows_182 2 rfl ?_
                refine g_iload_n C (pc := 183) dX12_findRows_183 3 rfl ?_
                refine g_iload_n C (pc := 184) dX12_findRows_184 4 rfl ?_
                refine g_callVV C (pc := 185) mf_X12_leaf lk_RX12_329 (c_X12_leaf2 n ρ IB _ z hn9 hms hz) (by decide) (Nat.le_refl _) rfl (by first | assumption | rfl | omega) rfl (by first | assumption | rfl | omega) (Nat.le_of_ble_eq_true rfl) dX12_findRows_185 (fun I185 h185 => ?_)
                obtain rfl := h185
                refine g_goto C (pc := 188) 52 dX12_findRows_188 (by decide) ?_
                refine g_lv C [0, 1, 2, 3, 4] rfl ?_
                refine ih (i + 1) IB hic lvB kB ?_ (by omega)
                rw [any_succ, ← Bool.or_assoc, canB_lost (ws := wdL wd (d + 1) 0) hrw hsd (Or.inl rfl)]; exact ctB
            · refine g_aload_n C (pc := 158) dX12_findRows_158 2 rfl ?_
              refine g_callVI C (pc := 159) mf_X12_lost lk_RX12_221 (c_X12_lost n ρ I146 F (playB F b w ((mvs F b w)[i]?)) hn9 hms (hqf.kp kp146) hrw f146 hbw2 hl12) (by decide) (Nat.le_refl _) rfl (by first | assumption | rfl | omega) rfl (by first | assumption | rfl | omega) (Nat.le_of_ble_eq_true rfl) dX12_findRows_159 (fun v159 I159 h159 => ?_)
              obtain ⟨e159, rfl⟩ := h159
              refine g_iload_n C (pc := 162) dX12_findRows_162 1 rfl ?_
              refine g_icmp_ne C (pc := 163) 170 dX12_findRows_163 (by decide) (fun c163 => ?_) (fun c163 => ?_)
              · have hlt : ¬ lostB F (playB F b w ((mvs F b w)[i]?)) = some (1 - sd) := fun h9 => c163 (by rw [e159, h9, hoth]; rfl)
                refine g_iconst C (pc := 170) 0 dX12_findRows_170 (by decide) ?_
                refine g_putI C (pc := 171) fl_RX12_325 (by decide) fp_11_37 (Or.inl rfl) ⟨rfl, rfl⟩ (by first | assumption | rfl | omega) (by first | assumption | rfl | omega) hn9 dX12_findRows_171 ?_
                first
                | (obtain ⟨IB, hIB⟩ : ∃ IB, IB = wr I146 97 37 1 := ⟨_, rfl⟩
                   rw [← hIB])
                | (obtain ⟨IB, hIB⟩ : ∃ IB, IB = wr I146 97 37 0 := ⟨_, rfl⟩
                   rw [← hIB])
                have kB0 : Ky d I71 IB := (Ky.qb a146 g146).trans (by rw [hIB]; exact Ky.sc (by decide) (by decide) (by decide))
                have kB1 : Ky (d + 1) I71 IB := (Ky.qb a146 g146).trans (by rw [hIB]; exact Ky.sc (by decide) (by decide) (by decide))
                have kB : Ky d J0 IB := k71.trans kB0
                have kpB := hkp0.trans kB.1
                have fB : QB IB F (playB F b w ((mvs F b w)[i]?)) := f146.cong (fun _ _ => by rw [hIB, wr_n (by decide)]) (fun _ _ => by rw [hIB, wr_n (by decide)]) (by rw [hIB, wr_sn (by decide)]) hn6
                have lvB : LvR IB F b d w (i + 1) := ⟨sv71.ky kB1 hn6, fm71.ky kB1 hn6, (kB1.2.2.1 d (by omega)).2.1.trans b111, (kB1.2.2.1 d (by omega)).2.2.trans (b112.trans (nI_pred i).symm)⟩
                have ctB : IB 97 37 = bI (((T || (List.range i).any (fun j => canB F sd (wdL wd (d + 1) e) (playB F b w ((mvs F b w)[j]?)))) || decide (lostB F (playB F b w ((mvs F b w)[i]?)) = some (1 - sd))) = true) := by
                  rw [hIB, wr_ss]
                  first
                  | (rw [bI_t (show ((T || (List.range i).any (fun j => canB F sd (wdL wd (d + 1) e) (playB F b w ((mvs F b w)[j]?)))) || decide (lostB F (playB F b w ((mvs F b w)[i]?)) = some (1 - sd))) = true by rw [bI_1.mp (fun h => c155 ((a146 37 (by decide)).trans (ct71.trans h))), Bool.true_or])]; done)
                  | (rw [bI_t (show ((T || (List.range i).any (fun j => canB F sd (wdL wd (d + 1) e) (playB F b w ((mvs F b w)[j]?)))) || decide (lostB F (playB F b w ((mvs F b w)[i]?)) = some (1 - sd))) = true by rw [decide_eq_true hlt, Bool.or_true])]; done)
                  | (rw [bI_f (show ¬ ((T || (List.range i).any (fun j => canB F sd (wdL wd (d + 1) e) (playB F b w ((mvs F b w)[j]?)))) || decide (lostB F (playB F b w ((mvs F b w)[i]?)) = some (1 - sd))) = true by rw [Bool.eq_false_iff.mpr (bI_0.mp (ct71.symm.trans ((a146 37 (by decide)).symm.trans c155))), decide_eq_false hlt]; decide)]; done)
                have hB113 : IB 113 = I0 113 := kB.2.2.2.2.1.trans h360
                refine g_iload C (pc := 174) dX12_findRows_174 0 rfl ?_
                refine g_iload_n C (pc := 176) dX12_findRows_176 3 rfl ?_
                refine g_iconst C (pc := 177) 1 dX12_findRows_177 (by decide) ?_
                refine g_isub C (pc := 178) dX12_findRows_178 ?_
                refine g_icmp_ne C (pc := 179) 191 dX12_findRows_179 (by decide) (fun c179 => ?_) (fun c179 => ?_)
                · have he1 : e ≠ 0 := fun h9 => c179 (by rw [hN1, show N - 1 = d by omega])
                  obtain ⟨e1, rfl⟩ : ∃ e1, e = e1 + 1 := ⟨e - 1, by omega⟩
                  refine g_aload_n C (pc := 191) dX12_findRows_191 2 rfl ?_
                  refine g_callVI C (pc := 192) mf_X12_lost lk_RX12_221 (c_X12_lost n ρ IB F (playB F b w ((mvs F b w)[i]?)) hn9 hms (hqf.kp kpB) hrw fB hbw2 hl12) (by decide) (Nat.le_refl _) rfl (by first | assumption | rfl | omega) rfl (by first | assumption | rfl | omega) (Nat.le_of_ble_eq_true rfl) dX12_findRows_192 (fun v192 I192 h192 => ?_)
                  obtain ⟨e192, rfl⟩ := h192
                  refine g_bipush C (pc := 195) (-4) dX12_findRows_195 (by decide) ?_
                  refine g_icmp_ne C (pc := 197) 52 dX12_findRows_197 (by decide) (fun c197 => ?_) (fun c197 => ?_)
                  · have hlo : lostP F (playB F b w ((mvs F b w)[i]?)) ≠ none := fun h9 => c197 (by rw [e192, lostB_none.mpr h9]; rfl)
                    refine g_lv C [0, 1, 2, 3, 4] rfl ?_
                    refine ih (i + 1) IB hic lvB kB ?_ (by omega)
                    rw [any_succ, ← Bool.or_assoc, canB_lost hrw hsd (Or.inr hlo)]; exact ctB
                  · have hnl : lostB F (playB F b w ((mvs F b w)[i]?)) = none := (oI_none (lostB_lt2 hrw)).mp (e192.symm.trans c197)
                    have hno : lostP F (playB F b w ((mvs F b w)[i]?)) = none := lostB_none.mp hnl
                    refine g_iinc C (pc := 200) (1) dX12_findRows_200 0 rfl (by decide) (by decide) (fun v200 => [(4, .int v200), (3, .int oth), (0, .ref 97), (1, .int (nI N)), (2, .int z)]) (fun _ => rfl) (fun v200 ev200 => ?_)
                    replace ev200 : v200 = nI (d + 1) := by rw [ev200]; exact nI_1 d
                    subst ev200
                    refine g_aload_n C (pc := 203) dX12_findRows_203 2 rfl ?_
                    refine g_iload C (pc := 204) dX12_findRows_204 0 rfl ?_
                    refine g_iload_n C (pc := 206) dX12_findRows_206 4 rfl ?_
                    refine g_callVV C (pc := 207) mf_X12_enters lk_RX12_332 (c_X12_enters n ρ IB F (playB F b w ((mvs F b w)[i]?)) (wd (d + 1)) (d + 1) z hn9 hms (hqf.kp kpB) hrw (hqe.kp kpB) fB hbw2 hl12 hpw2 (hwd (d + 1) (by omega)).2 (by omega) (Or.inl ⟨hz, by rw [hB113]; exact (hwd (d + 1) (by omega)).1⟩)) (by decide) (Nat.le_refl _) rfl (by first | assumption | rfl | omega) rfl (by first | assumption | rfl | omega) (Nat.le_of_ble_eq_true rfl) dX12_findRows_207 (fun I207 h207 => ?_)
                    obtain ⟨s207, f207, u207, t207, p207, q207, ⟨x207, y207, z207⟩, g207⟩ := h207
                    refine g_goto C (pc := 210) 52 dX12_findRows_210 (by decide) ?_
                    refine g_lv C [0, 1, 2, 3, 4] rfl ?_
                    have kE := Ky.en p207 q207 x207 y207 z207 g207
                    rw [hnl, show decide ((none : Option Nat) = some (1 - sd)) = false from rfl, Bool.or_false] at ctB
                    refine ihE e1 (by omega) (d + 1) (playB F b w ((mvs F b w)[i]?)) _ I207 (by omega) hbw2 hl12 hpw2 hno ⟨s207, f207, u207, t207.trans (by decide)⟩ (by rw [g207 97 (by decide)]; exact ctB) (kpB.trans kE.1) (kE.2.2.2.2.1.trans hB113) ?_
                    intro J1 hk1 hc1
                    rw [nI_pred d]
                    have kJ := kE.trans hk1
                    refine ih (i + 1) J1 hic (lvB.ky kJ hn6) (kB.trans kJ.down) ?_ (by omega)
                    rw [any_succ, ← Bool.or_assoc]; exact hc1
                · have he0 : e = 0 := by
                    rw [hN1] at c179
                    have := (nI_eq (by omega) (by omega)).mp c179
                    omega
                  subst he0
                  refine g_aload_n C (pc := 182) dX12_findRows_182 2 rfl ?_
                  refine g_iload_n C (pc := 183) dX12_findRows_183 3 rfl ?_
                  refine g_iload_n C (pc := 184) dX12_findRows_184 4 rfl ?_
                  refine g_callVV C (pc := 185) mf_X12_leaf lk_RX12_329 (c_X12_leaf2 n ρ IB _ z hn9 hms hz) (by decide) (Nat.le_refl _) rfl (by first | assumption | rfl | omega) rfl (by first | assumption | rfl | omega) (Nat.le_of_ble_eq_true rfl) dX12_findRows_185 (fun I185 h185 => ?_)
                  obtain rfl := h185
                  refine g_goto C (pc := 188) 52 dX12_findRows_188 (by decide) ?_
                  refine g_lv C [0, 1, 2, 3, 4] rfl ?_
                  refine ih (i + 1) IB hic lvB kB ?_ (by omega)
                  rw [any_succ, ← Bool.or_assoc, canB_lost (ws := wdL wd (d + 1) 0) hrw hsd (Or.inl rfl)]; exact ctB
              · have hlt : lostB F (playB F b w ((mvs F b w)[i]?)) = some (1 - sd) := (oI_nI (lostB_lt2 hrw) (by omega)).mp (e159.symm.trans (c163.trans hoth))
                refine g_iconst C (pc := 166) 1 dX12_findRows_166 (by decide) ?_
                refine g_goto C (pc := 167) 171 dX12_findRows_167 (by decide) ?_
                refine g_putI C (pc := 171) fl_RX12_325 (by decide) fp_11_37 (Or.inl rfl) ⟨rfl, rfl⟩ (by first | assumption | rfl | omega) (by first | assumption | rfl | omega) hn9 dX12_findRows_171 ?_
                first
                | (obtain ⟨IB, hIB⟩ : ∃ IB, IB = wr I146 97 37 1 := ⟨_, rfl⟩
                   rw [← hIB])
                | (obtain ⟨IB, hIB⟩ : ∃ IB, IB = wr I146 97 37 0 := ⟨_, rfl⟩
                   rw [← hIB])
                have kB0 : Ky d I71 IB := (Ky.qb a146 g146).trans (by rw [hIB]; exact Ky.sc (by decide) (by decide) (by decide))
                have kB1 : Ky (d + 1) I71 IB := (Ky.qb a146 g146).trans (by rw [hIB]; exact Ky.sc (by decide) (by decide) (by decide))
                have kB : Ky d J0 IB := k71.trans kB0
                have kpB := hkp0.trans kB.1
                have fB : QB IB F (playB F b w ((mvs F b w)[i]?)) := f146.cong (fun _ _ => by rw [hIB, wr_n (by decide)]) (fun _ _ => by rw [hIB, wr_n (by decide)]) (by rw [hIB, wr_sn (by decide)]) hn6
                have lvB : LvR IB F b d w (i + 1) := ⟨sv71.ky kB1 hn6, fm71.ky kB1 hn6, (kB1.2.2.1 d (by omega)).2.1.trans b111, (kB1.2.2.1 d (by omega)).2.2.trans (b112.trans (nI_pred i).symm)⟩
                have ctB : IB 97 37 = bI (((T || (List.range i).any (fun j => canB F sd (wdL wd (d + 1) e) (playB F b w ((mvs F b w)[j]?)))) || decide (lostB F (playB F b w ((mvs F b w)[i]?)) = some (1 - sd))) = true) := by
                  rw [hIB, wr_ss]
                  first
                  | (rw [bI_t (show ((T || (List.range i).any (fun j => canB F sd (wdL wd (d + 1) e) (playB F b w ((mvs F b w)[j]?)))) || decide (lostB F (playB F b w ((mvs F b w)[i]?)) = some (1 - sd))) = true by rw [bI_1.mp (fun h => c155 ((a146 37 (by decide)).trans (ct71.trans h))), Bool.true_or])]; done)
                  | (rw [bI_t (show ((T || (List.range i).any (fun j => canB F sd (wdL wd (d + 1) e) (playB F b w ((mvs F b w)[j]?)))) || decide (lostB F (playB F b w ((mvs F b w)[i]?)) = some (1 - sd))) = true by rw [decide_eq_true hlt, Bool.or_true])]; done)
                  | (rw [bI_f (show ¬ ((T || (List.range i).any (fun j => canB F sd (wdL wd (d + 1) e) (playB F b w ((mvs F b w)[j]?)))) || decide (lostB F (playB F b w ((mvs F b w)[i]?)) = some (1 - sd))) = true by rw [Bool.eq_false_iff.mpr (bI_0.mp (ct71.symm.trans ((a146 37 (by decide)).symm.trans c155))), decide_eq_false hlt]; decide)]; done)
                have hB113 : IB 113 = I0 113 := kB.2.2.2.2.1.trans h360
                refine g_iload C (pc := 174) dX12_findRows_174 0 rfl ?_
                refine g_iload_n C (pc := 176) dX12_findRows_176 3 rfl ?_
                refine g_iconst C (pc := 177) 1 dX12_findRows_177 (by decide) ?_
                refine g_isub C (pc := 178) dX12_findRows_178 ?_
                refine g_icmp_ne C (pc := 179) 191 dX12_findRows_179 (by decide) (fun c179 => ?_) (fun c179 => ?_)
                · have he1 : e ≠ 0 := fun h9 => c179 (by rw [hN1, show N - 1 = d by omega])
                  obtain ⟨e1, rfl⟩ : ∃ e1, e = e1 + 1 := ⟨e - 1, by omega⟩
                  refine g_aload_n C (pc := 191) dX12_findRows_191 2 rfl ?_
                  refine g_callVI C (pc := 192) mf_X12_lost lk_RX12_221 (c_X12_lost n ρ IB F (playB F b w ((mvs F b w)[i]?)) hn9 hms (hqf.kp kpB) hrw fB hbw2 hl12) (by decide) (Nat.le_refl _) rfl (by first | assumption | rfl | omega) rfl (by first | assumption | rfl | omega) (Nat.le_of_ble_eq_true rfl) dX12_findRows_192 (fun v192 I192 h192 => ?_)
                  obtain ⟨e192, rfl⟩ := h192
                  refine g_bipush C (pc := 195) (-4) dX12_findRows_195 (by decide) ?_
                  refine g_icmp_ne C (pc := 197) 52 dX12_findRows_197 (by decide) (fun c197 => ?_) (fun c197 => ?_)
                  · have hlo : lostP F (playB F b w ((mvs F b w)[i]?)) ≠ none := fun h9 => c197 (by rw [e192, lostB_none.mpr h9]; rfl)
                    refine g_lv C [0, 1, 2, 3, 4] rfl ?_
                    refine ih (i + 1) IB hic lvB kB ?_ (by omega)
                    rw [any_succ, ← Bool.or_assoc, canB_lost hrw hsd (Or.inr hlo)]; exact ctB
                  · have hnl : lostB F (playB F b w ((mvs F b w)[i]?)) = none := (oI_none (lostB_lt2 hrw)).mp (e192.symm.trans c197)
                    have hno : lostP F (playB F b w ((mvs F b w)[i]?)) = none := lostB_none.mp hnl
                    refine g_iinc C (pc := 200) (1) dX12_findRows_200 0 rfl (by decide) (by decide) (fun v200 => [(4, .int v200), (3, .int oth), (0, .ref 97), (1, .int (nI N)), (2, .int z)]) (fun _ => rfl) (fun v200 ev200 => ?_)
                    replace ev200 : v200 = nI (d + 1) := by rw [ev200]; exact nI_1 d
                    subst ev200
                    refine g_aload_n C (pc := 203) dX12_findRows_203 2 rfl ?_
                    refine g_iload C (pc := 204) dX12_findRows_204 0 rfl ?_
                    refine g_iload_n C (pc := 206) dX12_findRows_206 4 rfl ?_
                    refine g_callVV C (pc := 207) mf_X12_enters lk_RX12_332 (c_X12_enters n ρ IB F (playB F b w ((mvs F b w)[i]?)) (wd (d + 1)) (d + 1) z hn9 hms (hqf.kp kpB) hrw (hqe.kp kpB) fB hbw2 hl12 hpw2 (hwd (d + 1) (by omega)).2 (by omega) (Or.inl ⟨hz, by rw [hB113]; exact (hwd (d + 1) (by omega)).1⟩)) (by decide) (Nat.le_refl _) rfl (by first | assumption | rfl | omega) rfl (by first | assumption | rfl | omega) (Nat.le_of_ble_eq_true rfl) dX12_findRows_207 (fun I207 h207 => ?_)
                    obtain ⟨s207, f207, u207, t207, p207, q207, ⟨x207, y207, z207⟩, g207⟩ := h207
                    refine g_goto C (pc := 210) 52 dX12_findRows_210 (by decide) ?_
                    refine g_lv C [0, 1, 2, 3, 4] rfl ?_
                    have kE := Ky.en p207 q207 x207 y207 z207 g207
                    rw [hnl, show decide ((none : Option Nat) = some (1 - sd)) = false from rfl, Bool.or_false] at ctB
                    refine ihE e1 (by omega) (d + 1) (playB F b w ((mvs F b w)[i]?)) _ I207 (by omega) hbw2 hl12 hpw2 hno ⟨s207, f207, u207, t207.trans (by decide)⟩ (by rw [g207 97 (by decide)]; exact ctB) (kpB.trans kE.1) (kE.2.2.2.2.1.trans hB113) ?_
                    intro J1 hk1 hc1
                    rw [nI_pred d]
                    have kJ := kE.trans hk1
                    refine ih (i + 1) J1 hic (lvB.ky kJ hn6) (kB.trans kJ.down) ?_ (by omega)
                    rw [any_succ, ← Bool.or_assoc]; exact hc1
                · have he0 : e = 0 := by
                    rw [hN1] at c179
                    have := (nI_eq (by omega) (by omega)).mp c179
                    omega
                  subst he0
                  refine g_aload_n C (pc := 182) dX12_findRows_182 2 rfl ?_
                  refine g_iload_n C (pc := 183) dX12_findRows_183 3 rfl ?_
                  refine g_iload_n C (pc := 184) dX12_findRows_184 4 rfl ?_
                  refine g_callVV C (pc := 185) mf_X12_leaf lk_RX12_329 (c_X12_leaf2 n ρ IB _ z hn9 hms hz) (by decide) (Nat.le_refl _) rfl (by first | assumption | rfl | omega) rfl (by first | assumption | rfl | omega) (Nat.le_of_ble_eq_true rfl) dX12_findRows_185 (fun I185 h185 => ?_)
                  obtain rfl := h185
                  refine g_goto C (pc := 188) 52 dX12_findRows_188 (by decide) ?_
                  refine g_lv C [0, 1, 2, 3, 4] rfl ?_
                  refine ih (i + 1) IB hic lvB kB ?_ (by omega)
                  rw [any_succ, ← Bool.or_assoc, canB_lost (ws := wdL wd (d + 1) 0) hrw hsd (Or.inl rfl)]; exact ctB
  exact inner _ 0 J0 (Nat.zero_le _) hlv0 Ky.rfl' (by rw [List.range_zero, List.any_nil, Bool.or_false]; exact hct0) (Nat.lt_succ_self _)
