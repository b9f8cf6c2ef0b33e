theorem b_25 : ∀ i, i < 32 → bt 33554432 i = decide (i = 25) := by decide
set_option maxHeartbeats 800000 in
theorem c_X12_leaf0 (n : Nat) (ρ : Rho) (I : Mem) (F : RT) (b : BT) (gl : BT) (k m wp : Nat) (lab : Nat → Nat) (x z : Int32) (hn9 : n ≤ 999) (hms : MS n ρ) (hqf : QF I F) (hrw : RW F) (hqb : QB I F b) (hbw : BW F b) (hqn : QN I F gl) (hbg : BW F gl) (hx : x = nI k) (hk3 : k ≤ 3) (hz : z = 0) (hrm : I 97 34 = nI m) (hm : m < 2 ^ 30) (hwp : I 97 36 = nI wp) (hwn : wp < rN F) (hlab : ∀ d, d < k → 100 * I 111 d + (if I 109 d = 0 then 99 else I 112 d) = nI (lab d)) : MV yX12_leaf cX12_leaf 4 none 2 [.ref 97, .int x, .int z] n ρ I (fun I1 => ((asB F gl b) = true ∧ I1 97 34 = nI (m + 1) ∧ (∀ d, d < k → I1 114 d = if m = 0 then nI (lab d) else I 114 d) ∧ (∀ i, i < 32 → bt (I1 97 35) i = (bt (I 97 35) i || plB (some wp) b i)) ∧ (∀ z, z ≠ 34 → z ≠ 35 → I1 97 z = I 97 z) ∧ ∀ i, i ≠ 97 → i ≠ 114 → I1 i = I i) ∨ ((asB F gl b) = false ∧ I = I1)) := by
  refine MG.of (by decide +kernel) (Nat.le_of_ble_eq_true rfl) hn9 ?_
  intro κ C hR
  show G κ n ρ 0 [(0, .ref 97), (1, .int x), (2, .int z)] [] I
  obtain ⟨mn, ⟨m0, m1, m5, m6, m7, m11, m12, m15⟩, ⟨m23, m24, m26, m27, m28, m30, m31, m32, m33⟩, ⟨m38, m39, m40, m42⟩⟩ := id hms
  obtain ⟨qw, qh, qn, qk⟩ := id hqf
  have hn6 : rN F ≤ 6 := hrw.2.2.2.2.1
  have hm25 := Nat.mul_le_mul hrw.2.1 hrw.2.2.2.1
  have hm4 := Nat.mul_le_mul hrw.1 hrw.2.2.1
  refine g_iload_n C (pc := 0) dX12_leaf_0 2 rfl ?_
  refine g_iconst C (pc := 1) 2 dX12_leaf_1 (by decide) ?_
  refine g_icmp_eq C (pc := 2) 26 dX12_leaf_2 (by decide) (fun c2 => ?_) (fun c2 => ?_)
  · rw [hz] at c2; exact absurd c2 (by decide)
  · refine g_iload_n C (pc := 5) dX12_leaf_5 2 rfl ?_
    refine g_if_ne C (pc := 6) 19 dX12_leaf_6 (by decide) (fun c6 => ?_) (fun c6 => ?_)
    · exact absurd hz c6
    · refine g_aload_n C (pc := 9) dX12_leaf_9 0 rfl ?_
      refine g_callVI C (pc := 10) mf_X12_isAsNow lk_RX12_308 (c_X12_isAsNow n ρ I F gl b hn9 hms hqn hrw hbg hqb hbw) (by decide) (Nat.le_refl _) rfl (by first | assumption | rfl | omega) rfl (by first | assumption | rfl | omega) (Nat.le_of_ble_eq_true rfl) dX12_leaf_10 (fun v10 I10 h10 => ?_)
      obtain ⟨e10, rfl⟩ := h10
      refine g_if_eq C (pc := 13) 26 dX12_leaf_13 (by decide) (fun c13 => ?_) (fun c13 => ?_)
      · have hg9 : asB F gl b = false := by
          cases h9 : asB F gl b with
          | false => rfl
          | true => exact absurd h9 (bI_0.mp (e10.symm.trans c13))
        refine g_vret C hR (pc := 26) rfl dX12_leaf_26 ?_
        refine ⟨rfl, rfl, ?_⟩
        exact Or.inr ⟨hg9, rfl⟩
      · have hg9 : asB F gl b = true := bI_1.mp (fun h => c13 (e10.trans h))
        refine g_goto C (pc := 16) 27 dX12_leaf_16 (by decide) ?_
        refine g_iconst C (pc := 27) 0 dX12_leaf_27 (by decide) ?_
        refine g_istore_n C (pc := 28) dX12_leaf_28 (by decide) (fun v28 => [(3, .int v28), (0, .ref 97), (1, .int x), (2, .int z)]) (fun _ => rfl) (fun v28 ev28 => ?_)
        have L29 : ∀ (k9 : Nat) (j : Nat) (wz3 : Int32) (J : Mem) (hw3 : wz3 = nI j) (hj : j ≤ k) (hA : ∀ d, d < j → J 114 d = nI (lab d)) (hB : ∀ d, j ≤ d → J 114 d = I 114 d) (h0 : 0 < j → m = 0) (hF : ∀ i, i ≠ 114 → J i = I i), k - j < k9 → G κ n ρ 29 [(3, .int wz3), (0, .ref 97), (1, .int x), (2, .int z)] [] J := by
          intro k9
          induction k9 with
          | zero => intro j wz3 J hw3 hj hA hB h0 hF hm29; exact absurd hm29 (Nat.not_lt_zero _)
          | succ k9 ih29 =>
            intro j wz3 J hw3 hj hA hB h0 hF hm29
            subst hw3
            refine g_iload_n C (pc := 29) dX12_leaf_29 0 rfl ?_
            refine g_iload_n C (pc := 30) dX12_leaf_30 2 rfl ?_
            refine g_icmp_ge C (pc := 31) 83 dX12_leaf_31 (by decide) (fun c31 => ?_) (fun c31 => ?_)
            · have hjk : j = k := by
                rw [hx, nI_leI (by omega) (by omega)] at c31
                omega
              have hfin : ∀ d, d < k → J 114 d = if m = 0 then nI (lab d) else I 114 d := fun d hd => by
                rw [if_pos (h0 (by omega))]; exact hA d (by omega)
              have hwpI : (J 97 36).toNatClampNeg = wp := by rw [hF 97 (by decide), hwp]; exact nI_clamp (by omega)
              have hsqI : J 106 wp = oI (bP b wp) := by rw [hF 106 (by decide)]; exact (hqb.1 wp hwn).1
              refine g_aload_n C (pc := 83) dX12_leaf_83 1 rfl ?_
              refine g_dup C (pc := 84) dX12_leaf_84 rfl ?_
              refine g_getI C (pc := 85) fl_RX12_318 (by decide) (by first | assumption | rfl | omega) (by first | assumption | rfl | omega) dX12_leaf_85 ?_
              refine g_aload_n C (pc := 88) dX12_leaf_88 1 rfl ?_
              refine g_getR C (pc := 89) fl_RX12_35 (by decide) (by first | assumption | rfl | omega) (by first | assumption | rfl | omega) (by first | assumption | rfl | omega) dX12_leaf_89 ?_
              refine g_aload_n C (pc := 92) dX12_leaf_92 1 rfl ?_
              refine g_getI C (pc := 93) fl_RX12_321 (by decide) (by first | assumption | rfl | omega) (by first | assumption | rfl | omega) dX12_leaf_93 ?_
              refine g_iald C (pc := 96) (by first | assumption | rfl | omega) (by first | assumption | rfl | omega) (by rw [hF 97 (by decide), hwp]; exact vp_in_nI (by omega) (by decide)) dX12_leaf_96 ?_
              refine g_bipush C (pc := 97) (-4) dX12_leaf_97 (by decide) ?_
              refine g_icmp_ne C (pc := 99) 108 dX12_leaf_99 (by decide) (fun c99 => ?_) (fun c99 => ?_)
              · obtain ⟨a9, ha9⟩ : ∃ a9, bP b wp = some a9 := by
                  cases h9 : bP b wp with
                  | none => exact absurd (by rw [hwpI, hsqI, h9]; rfl) c99
                  | some a9 => exact ⟨a9, rfl⟩
                have hbit : ∀ i, i < 32 → bt (1 <<< (J 106 (J 97 36).toNatClampNeg &&& 31)) i = plB (some wp) b i := fun i hi => by
                  rw [hwpI, bit_at ((hbw.2.1 wp hwn).1 a9 ha9) (hsqI.trans (by rw [ha9]; rfl)) hi]
                  unfold plB; rw [Option.bind_some, ha9]
                  show (some a9 == some i) = decide (i = a9)
                  by_cases h9 : i = a9
                  · subst h9; simp
                  · simp [h9, Ne.symm h9]
                refine g_iconst C (pc := 108) 1 dX12_leaf_108 (by decide) ?_
                refine g_aload_n C (pc := 109) dX12_leaf_109 1 rfl ?_
                refine g_getR C (pc := 110) fl_RX12_35 (by decide) (by first | assumption | rfl | omega) (by first | assumption | rfl | omega) (by first | assumption | rfl | omega) dX12_leaf_110 ?_
                refine g_aload_n C (pc := 113) dX12_leaf_113 1 rfl ?_
                refine g_getI C (pc := 114) fl_RX12_321 (by decide) (by first | assumption | rfl | omega) (by first | assumption | rfl | omega) dX12_leaf_114 ?_
                refine g_iald C (pc := 117) (by first | assumption | rfl | omega) (by first | assumption | rfl | omega) (by rw [hF 97 (by decide), hwp]; exact vp_in_nI (by omega) (by decide)) dX12_leaf_117 ?_
                refine g_ishl C (pc := 118) dX12_leaf_118 ?_
                refine g_ior C (pc := 119) dX12_leaf_119 ?_
                refine g_putI C (pc := 120) fl_RX12_318 (by decide) fp_11_35 (Or.inl rfl) ⟨rfl, rfl⟩ (by first | assumption | rfl | omega) (by first | assumption | rfl | omega) hn9 dX12_leaf_120 ?_
                refine g_aload_n C (pc := 123) dX12_leaf_123 1 rfl ?_
                refine g_dup C (pc := 124) dX12_leaf_124 rfl ?_
                refine g_getI C (pc := 125) fl_RX12_315 (by decide) (by first | assumption | rfl | omega) (by first | assumption | rfl | omega) dX12_leaf_125 ?_
                refine g_iconst C (pc := 128) 1 dX12_leaf_128 (by decide) ?_
                refine g_iadd C (pc := 129) dX12_leaf_129 ?_
                refine g_putI C (pc := 130) fl_RX12_315 (by decide) fp_11_34 (Or.inl rfl) ⟨rfl, rfl⟩ (by first | assumption | rfl | omega) (by first | assumption | rfl | omega) hn9 dX12_leaf_130 ?_
                refine g_vret C hR (pc := 133) rfl dX12_leaf_133 ?_
                refine ⟨rfl, rfl, ?_⟩
                refine Or.inl ⟨hg9, ?_, fun d hd => ?_, fun i hi => ?_, fun z hz1 hz2 => ?_, fun i h1 h2 => ?_⟩
                · rw [wr_ss, wr_sn (by decide), hF 97 (by decide), hrm]; exact nI_1 _
                · rw [wr_n (by decide), wr_n (by decide)]; exact hfin d hd
                · rw [wr_sn (by decide), wr_ss, b_or, hbit i hi, hF 97 (by decide)]
                · rw [wr_sn hz1, wr_sn hz2, hF 97 (by decide)]
                · rw [wr_n h1, wr_n h1]; exact hF i h2
              · have hpn : bP b wp = none := by
                  rw [hwpI, hsqI] at c99
                  exact (oI_none (pl_lt hbw hwn)).mp c99
                have hbit : ∀ i, i < 32 → bt (33554432 : Int32) i = plB (some wp) b i := fun i hi => by
                  rw [b_25 i hi]; unfold plB; rw [Option.bind_some, hpn]
                refine g_ldc_w C (pc := 102) _ gk_RX12_324 dX12_leaf_102 ?_
                refine g_goto C (pc := 105) 119 dX12_leaf_105 (by decide) ?_
                refine g_ior C (pc := 119) dX12_leaf_119 ?_
                refine g_putI C (pc := 120) fl_RX12_318 (by decide) fp_11_35 (Or.inl rfl) ⟨rfl, rfl⟩ (by first | assumption | rfl | omega) (by first | assumption | rfl | omega) hn9 dX12_leaf_120 ?_
                refine g_aload_n C (pc := 123) dX12_leaf_123 1 rfl ?_
                refine g_dup C (pc := 124) dX12_leaf_124 rfl ?_
                refine g_getI C (pc := 125) fl_RX12_315 (by decide) (by first | assumption | rfl | omega) (by first | assumption | rfl | omega) dX12_leaf_125 ?_
                refine g_iconst C (pc := 128) 1 dX12_leaf_128 (by decide) ?_
                refine g_iadd C (pc := 129) dX12_leaf_129 ?_
                refine g_putI C (pc := 130) fl_RX12_315 (by decide) fp_11_34 (Or.inl rfl) ⟨rfl, rfl⟩ (by first | assumption | rfl | omega) (by first | assumption | rfl | omega) hn9 dX12_leaf_130 ?_
                refine g_vret C hR (pc := 133) rfl dX12_leaf_133 ?_
                refine ⟨rfl, rfl, ?_⟩
                refine Or.inl ⟨hg9, ?_, fun d hd => ?_, fun i hi => ?_, fun z hz1 hz2 => ?_, fun i h1 h2 => ?_⟩
                · rw [wr_ss, wr_sn (by decide), hF 97 (by decide), hrm]; exact nI_1 _
                · rw [wr_n (by decide), wr_n (by decide)]; exact hfin d hd
                · rw [wr_sn (by decide), wr_ss, b_or, hbit i hi, hF 97 (by decide)]
                · rw [wr_sn hz1, wr_sn hz2, hF 97 (by decide)]
                · rw [wr_n h1, wr_n h1]; exact hF i h2
            · have hjk : j < k := by
                rw [hx, nI_ltI (by omega) (by omega)] at c31
                exact c31
              have hcj : (nI j).toNatClampNeg = j := nI_clamp (by omega)
              refine g_aload_n C (pc := 34) dX12_leaf_34 1 rfl ?_
              refine g_getI C (pc := 35) fl_RX12_315 (by decide) (by first | assumption | rfl | omega) (by first | assumption | rfl | omega) dX12_leaf_35 ?_
              refine g_if_ne C (pc := 38) 83 dX12_leaf_38 (by decide) (fun c38 => ?_) (fun c38 => ?_)
              · have hm0 : m ≠ 0 := fun h9 => c38 (by rw [hF 97 (by decide), hrm, h9]; rfl)
                have hj0 : j = 0 := by
                  rcases Nat.eq_zero_or_pos j with h9 | h9
                  · exact h9
                  · exact absurd (h0 h9) hm0
                have hfin : ∀ d, d < k → J 114 d = if m = 0 then nI (lab d) else I 114 d := fun d hd => by
                  rw [if_neg hm0]; exact hB d (by omega)
                have hwpI : (J 97 36).toNatClampNeg = wp := by rw [hF 97 (by decide), hwp]; exact nI_clamp (by omega)
                have hsqI : J 106 wp = oI (bP b wp) := by rw [hF 106 (by decide)]; exact (hqb.1 wp hwn).1
                refine g_aload_n C (pc := 83) dX12_leaf_83 1 rfl ?_
                refine g_dup C (pc := 84) dX12_leaf_84 rfl ?_
                refine g_getI C (pc := 85) fl_RX12_318 (by decide) (by first | assumption | rfl | omega) (by first | assumption | rfl | omega) dX12_leaf_85 ?_
                refine g_aload_n C (pc := 88) dX12_leaf_88 1 rfl ?_
                refine g_getR C (pc := 89) fl_RX12_35 (by decide) (by first | assumption | rfl | omega) (by first | assumption | rfl | omega) (by first | assumption | rfl | omega) dX12_leaf_89 ?_
                refine g_aload_n C (pc := 92) dX12_leaf_92 1 rfl ?_
                refine g_getI C (pc := 93) fl_RX12_321 (by decide) (by first | assumption | rfl | omega) (by first | assumption | rfl | omega) dX12_leaf_93 ?_
                refine g_iald C (pc := 96) (by first | assumption | rfl | omega) (by first | assumption | rfl | omega) (by rw [hF 97 (by decide), hwp]; exact vp_in_nI (by omega) (by decide)) dX12_leaf_96 ?_
                refine g_bipush C (pc := 97) (-4) dX12_leaf_97 (by decide) ?_
                refine g_icmp_ne C (pc := 99) 108 dX12_leaf_99 (by decide) (fun c99 => ?_) (fun c99 => ?_)
                · obtain ⟨a9, ha9⟩ : ∃ a9, bP b wp = some a9 := by
                    cases h9 : bP b wp with
                    | none => exact absurd (by rw [hwpI, hsqI, h9]; rfl) c99
                    | some a9 => exact ⟨a9, rfl⟩
                  have hbit : ∀ i, i < 32 → bt (1 <<< (J 106 (J 97 36).toNatClampNeg &&& 31)) i = plB (some wp) b i := fun i hi => by
                    rw [hwpI, bit_at ((hbw.2.1 wp hwn).1 a9 ha9) (hsqI.trans (by rw [ha9]; rfl)) hi]
                    unfold plB; rw [Option.bind_some, ha9]
                    show (some a9 == some i) = decide (i = a9)
                    by_cases h9 : i = a9
                    · subst h9; simp
                    · simp [h9, Ne.symm h9]
                  refine g_iconst C (pc := 108) 1 dX12_leaf_108 (by decide) ?_
                  refine g_aload_n C (pc := 109) dX12_leaf_109 1 rfl ?_
                  refine g_getR C (pc := 110) fl_RX12_35 (by decide) (by first | assumption | rfl | omega) (by first | assumption | rfl | omega) (by first | assumption | rfl | omega) dX12_leaf_110 ?_
                  refine g_aload_n C (pc := 113) dX12_leaf_113 1 rfl ?_
                  refine g_getI C (pc := 114) fl_RX12_321 (by decide) (by first | assumption | rfl | omega) (by first | assumption | rfl | omega) dX12_leaf_114 ?_
                  refine g_iald C (pc := 117) (by first | assumption | rfl | omega) (by first | assumption | rfl | omega) (by rw [hF 97 (by decide), hwp]; exact vp_in_nI (by omega) (by decide)) dX12_leaf_117 ?_
                  refine g_ishl C (pc := 118) dX12_leaf_118 ?_
                  refine g_ior C (pc := 119) dX12_leaf_119 ?_
                  refine g_putI C (pc := 120) fl_RX12_318 (by decide) fp_11_35 (Or.inl rfl) ⟨rfl, rfl⟩ (by first | assumption | rfl | omega) (by first | assumption | rfl | omega) hn9 dX12_leaf_120 ?_
                  refine g_aload_n C (pc := 123) dX12_leaf_123 1 rfl ?_
                  refine g_dup C (pc := 124) dX12_leaf_124 rfl ?_
                  refine g_getI C (pc := 125) fl_RX12_315 (by decide) (by first | assumption | rfl | omega) (by first | assumption | rfl | omega) dX12_leaf_125 ?_
                  refine g_iconst C (pc := 128) 1 dX12_leaf_128 (by decide) ?_
                  refine g_iadd C (pc := 129) dX12_leaf_129 ?_
                  refine g_putI C (pc := 130) fl_RX12_315 (by decide) fp_11_34 (Or.inl rfl) ⟨rfl, rfl⟩ (by first | assumption | rfl | omega) (by first | assumption | rfl | omega) hn9 dX12_leaf_130 ?_
                  refine g_vret C hR (pc := 133) rfl dX12_leaf_133 ?_
                  refine ⟨rfl, rfl, ?_⟩
                  refine Or.inl ⟨hg9, ?_, fun d hd => ?_, fun i hi => ?_, fun z hz1 hz2 => ?_, fun i h1 h2 => ?_⟩
                  · rw [wr_ss, wr_sn (by decide), hF 97 (by decide), hrm]; exact nI_1 _
                  · rw [wr_n (by decide), wr_n (by decide)]; exact hfin d hd
                  · rw [wr_sn (by decide), wr_ss, b_or, hbit i hi, hF 97 (by decide)]
                  · rw [wr_sn hz1, wr_sn hz2, hF 97 (by decide)]
                  · rw [wr_n h1, wr_n h1]; exact hF i h2
                · have hpn : bP b wp = none := by
                    rw [hwpI, hsqI] at c99
                    exact (oI_none (pl_lt hbw hwn)).mp c99
                  have hbit : ∀ i, i < 32 → bt (33554432 : Int32) i = plB (some wp) b i := fun i hi => by
                    rw [b_25 i hi]; unfold plB; rw [Option.bind_some, hpn]
                  refine g_ldc_w C (pc := 102) _ gk_RX12_324 dX12_leaf_102 ?_
                  refine g_goto C (pc := 105) 119 dX12_leaf_105 (by decide) ?_
                  refine g_ior C (pc := 119) dX12_leaf_119 ?_
                  refine g_putI C (pc := 120) fl_RX12_318 (by decide) fp_11_35 (Or.inl rfl) ⟨rfl, rfl⟩ (by first | assumption | rfl | omega) (by first | assumption | rfl | omega) hn9 dX12_leaf_120 ?_
                  refine g_aload_n C (pc := 123) dX12_leaf_123 1 rfl ?_
                  refine g_dup C (pc := 124) dX12_leaf_124 rfl ?_
                  refine g_getI C (pc := 125) fl_RX12_315 (by decide) (by first | assumption | rfl | omega) (by first | assumption | rfl | omega) dX12_leaf_125 ?_
                  refine g_iconst C (pc := 128) 1 dX12_leaf_128 (by decide) ?_
                  refine g_iadd C (pc := 129) dX12_leaf_129 ?_
                  refine g_putI C (pc := 130) fl_RX12_315 (by decide) fp_11_34 (Or.inl rfl) ⟨rfl, rfl⟩ (by first | assumption | rfl | omega) (by first | assumption | rfl | omega) hn9 dX12_leaf_130 ?_
                  refine g_vret C hR (pc := 133) rfl dX12_leaf_133 ?_
                  refine ⟨rfl, rfl, ?_⟩
                  refine Or.inl ⟨hg9, ?_, fun d hd => ?_, fun i hi => ?_, fun z hz1 hz2 => ?_, fun i h1 h2 => ?_⟩
                  · rw [wr_ss, wr_sn (by decide), hF 97 (by decide), hrm]; exact nI_1 _
                  · rw [wr_n (by decide), wr_n (by decide)]; exact hfin d hd
                  · rw [wr_sn (by decide), wr_ss, b_or, hbit i hi, hF 97 (by decide)]
                  · rw [wr_sn hz1, wr_sn hz2, hF 97 (by decide)]
                  · rw [wr_n h1, wr_n h1]; exact hF i h2
              · have hm0 : m = 0 := by
                  rw [hF 97 (by decide), hrm] at c38
                  exact (nI_eq (b := 0) (by omega) (by decide)).mp c38
                refine g_aload_n C (pc := 41) dX12_leaf_41 1 rfl ?_
                refine g_getR C (pc := 42) fl_RX12_59 (by decide) (by first | assumption | rfl | omega) (by first | assumption | rfl | omega) (by first | assumption | rfl | omega) dX12_leaf_42 ?_
                refine g_iload_n C (pc := 45) dX12_leaf_45 0 rfl ?_
                refine g_bipush C (pc := 46) 100 dX12_leaf_46 (by decide) ?_
                refine g_aload_n C (pc := 48) dX12_leaf_48 1 rfl ?_
                refine g_getR C (pc := 49) fl_RX12_50 (by decide) (by first | assumption | rfl | omega) (by first | assumption | rfl | omega) (by first | assumption | rfl | omega) dX12_leaf_49 ?_
                refine g_iload_n C (pc := 52) dX12_leaf_52 0 rfl ?_
                refine g_iald C (pc := 53) (by first | assumption | rfl | omega) (by first | assumption | rfl | omega) (vp_in_nI (n := j) (by omega) (by decide)) dX12_leaf_53 ?_
                refine g_imul C (pc := 54) dX12_leaf_54 ?_
                refine g_aload_n C (pc := 55) dX12_leaf_55 1 rfl ?_
                refine g_getR C (pc := 56) fl_RX12_44 (by decide) (by first | assumption | rfl | omega) (by first | assumption | rfl | omega) (by first | assumption | rfl | omega) dX12_leaf_56 ?_
                refine g_iload_n C (pc := 59) dX12_leaf_59 0 rfl ?_
                refine g_iald C (pc := 60) (by first | assumption | rfl | omega) (by first | assumption | rfl | omega) (vp_in_nI (n := j) (by omega) (by decide)) dX12_leaf_60 ?_
                rw [hcj, hF 109 (by decide), hF 111 (by decide)]
                refine g_if_ne C (pc := 61) 69 dX12_leaf_61 (by decide) (fun c61 => ?_) (fun c61 => ?_)
                · refine g_aload_n C (pc := 69) dX12_leaf_69 1 rfl ?_
                  refine g_getR C (pc := 70) fl_RX12_53 (by decide) (by first | assumption | rfl | omega) (by first | assumption | rfl | omega) (by first | assumption | rfl | omega) dX12_leaf_70 ?_
                  refine g_iload_n C (pc := 73) dX12_leaf_73 0 rfl ?_
                  refine g_iald C (pc := 74) (by first | assumption | rfl | omega) (by first | assumption | rfl | omega) (vp_in_nI (n := j) (by omega) (by decide)) dX12_leaf_74 ?_
                  refine g_iadd C (pc := 75) dX12_leaf_75 ?_
                  first
                  | rw [hcj, hF 112 (by decide)]
                  | skip
                  refine g_iast C (pc := 76) (by first | assumption | rfl | omega) (by first | assumption | rfl | omega) hn9 (vp_in_nI (n := j) (by omega) (by decide)) dX12_leaf_76 ?_
                  refine g_iinc C (pc := 77) (1) dX12_leaf_77 0 rfl (by decide) (by decide) (fun v77 => [(3, .int v77), (0, .ref 97), (1, .int x), (2, .int z)]) (fun _ => rfl) (fun v77 ev77 => ?_)
                  refine g_goto C (pc := 80) 29 dX12_leaf_80 (by decide) ?_
                  refine g_lv C [0, 1, 2, 3] rfl (ih29 (j + 1) _ _ ?_ ?_ ?_ ?_ ?_ ?_ (by omega))
                  · subst ev77; exact nI_1 _
                  · omega
                  · intro d hd
                    rw [hcj]
                    rcases Nat.lt_or_ge d j with h1 | h1
                    · rw [wr_sn (by omega)]; exact hA d h1
                    · have : d = j := by omega
                      subst this
                      rw [wr_ss, ← hlab d (by omega)]
                      first
                      | (rw [if_pos c61]; done)
                      | (rw [if_neg c61]; done)
                  · intro d hd; rw [hcj, wr_sn (by omega)]; exact hB d (by omega)
                  · intro _; exact hm0
                  · intro i h1; rw [wr_n h1]; exact hF i h1
                · refine g_bipush C (pc := 64) 99 dX12_leaf_64 (by decide) ?_
                  refine g_goto C (pc := 66) 75 dX12_leaf_66 (by decide) ?_
                  refine g_iadd C (pc := 75) dX12_leaf_75 ?_
                  first
                  | rw [hcj, hF 112 (by decide)]
                  | skip
                  refine g_iast C (pc := 76) (by first | assumption | rfl | omega) (by first | assumption | rfl | omega) hn9 (vp_in_nI (n := j) (by omega) (by decide)) dX12_leaf_76 ?_
                  refine g_iinc C (pc := 77) (1) dX12_leaf_77 0 rfl (by decide) (by decide) (fun v77 => [(3, .int v77), (0, .ref 97), (1, .int x), (2, .int z)]) (fun _ => rfl) (fun v77 ev77 => ?_)
                  refine g_goto C (pc := 80) 29 dX12_leaf_80 (by decide) ?_
                  refine g_lv C [0, 1, 2, 3] rfl (ih29 (j + 1) _ _ ?_ ?_ ?_ ?_ ?_ ?_ (by omega))
                  · subst ev77; exact nI_1 _
                  · omega
                  · intro d hd
                    rw [hcj]
                    rcases Nat.lt_or_ge d j with h1 | h1
                    · rw [wr_sn (by omega)]; exact hA d h1
                    · have : d = j := by omega
                      subst this
                      rw [wr_ss, ← hlab d (by omega)]
                      first
                      | (rw [if_pos c61]; done)
                      | (rw [if_neg c61]; done)
                  · intro d hd; rw [hcj, wr_sn (by omega)]; exact hB d (by omega)
                  · intro _; exact hm0
                  · intro i h1; rw [wr_n h1]; exact hF i h1
        refine g_lv C [0, 1, 2, 3] rfl (L29 (_ + 1) 0 _ _ ?_ ?_ ?_ ?_ ?_ ?_ (by first | omega | exact Nat.lt_succ_self _))
        · subst ev28; rfl
        · omega
        · intro d hd; omega
        · intro d _; rfl
        · intro h; omega
        · intro i _; rfl
set_option maxHeartbeats 800000 in
theorem c_X12_leaf1 (n : Nat) (ρ : Rho) (I : Mem) (F : RT) (b : BT) (sn : Nat) (sq : Nat → Nat) (sd : Nat → Option Nat) (k m wp : Nat) (lab : Nat → Nat) (x z : Int32) (hn9 : n ≤ 999) (hms : MS n ρ) (hqf : QF I F) (hrw : RW F) (hqb : QB I F b) (hbw : BW F b) (hsm : SnM I sn sq sd) (hx : x = nI k) (hk3 : k ≤ 3) (hz : z = 1) (hrm : I 97 34 = nI m) (hm : m < 2 ^ 30) (hwp : I 97 36 = nI wp) (hwn : wp < rN F) (hlab : ∀ d, d < k → 100 * I 111 d + (if I 109 d = 0 then 99 else I 112 d) = nI (lab d)) : MV yX12_leaf cX12_leaf 4 none 2 [.ref 97, .int x, .int z] n ρ I (fun I1 => ((seeB F sn sq sd b) = true ∧ I1 97 34 = nI (m + 1) ∧ (∀ d, d < k → I1 114 d = if m = 0 then nI (lab d) else I 114 d) ∧ (∀ i, i < 32 → bt (I1 97 35) i = (bt (I 97 35) i || plB (some wp) b i)) ∧ (∀ z, z ≠ 34 → z ≠ 35 → I1 97 z = I 97 z) ∧ ∀ i, i ≠ 97 → i ≠ 114 → I1 i = I i) ∨ ((seeB F sn sq sd b) = false ∧ I = I1)) := by
  refine MG.of (by decide +kernel) (Nat.le_of_ble_eq_true rfl) hn9 ?_
  intro κ C hR
  show G κ n ρ 0 [(0, .ref 97), (1, .int x), (2, .int z)] [] I
  obtain ⟨mn, ⟨m0, m1, m5, m6, m7, m11, m12, m15⟩, ⟨m23, m24, m26, m27, m28, m30, m31, m32, m33⟩, ⟨m38, m39, m40, m42⟩⟩ := id hms
  obtain ⟨qw, qh, qn, qk⟩ := id hqf
  have hn6 : rN F ≤ 6 := hrw.2.2.2.2.1
  have hm25 := Nat.mul_le_mul hrw.2.1 hrw.2.2.2.1
  have hm4 := Nat.mul_le_mul hrw.1 hrw.2.2.1
  refine g_iload_n C (pc := 0) dX12_leaf_0 2 rfl ?_
  refine g_iconst C (pc := 1) 2 dX12_leaf_1 (by decide) ?_
  refine g_icmp_eq C (pc := 2) 26 dX12_leaf_2 (by decide) (fun c2 => ?_) (fun c2 => ?_)
  · rw [hz] at c2; exact absurd c2 (by decide)
  · refine g_iload_n C (pc := 5) dX12_leaf_5 2 rfl ?_
    refine g_if_ne C (pc := 6) 19 dX12_leaf_6 (by decide) (fun c6 => ?_) (fun c6 => ?_)
    · refine g_aload_n C (pc := 19) dX12_leaf_19 0 rfl ?_
      refine g_callVI C (pc := 20) mf_X12_isAsSeen lk_RX12_312 (c_X12_isAsSeen n ρ I F b sn sq sd hn9 hms hqf hrw hqb hbw hsm) (by decide) (Nat.le_refl _) rfl (by first | assumption | rfl | omega) rfl (by first | assumption | rfl | omega) (Nat.le_of_ble_eq_true rfl) dX12_leaf_20 (fun v20 I20 h20 => ?_)
      obtain ⟨e20, rfl⟩ := h20
      refine g_if_ne C (pc := 23) 27 dX12_leaf_23 (by decide) (fun c23 => ?_) (fun c23 => ?_)
      · have hg9 : seeB F sn sq sd b = true := bI_1.mp (fun h => c23 (e20.trans h))
        refine g_iconst C (pc := 27) 0 dX12_leaf_27 (by decide) ?_
        refine g_istore_n C (pc := 28) dX12_leaf_28 (by decide) (fun v28 => [(3, .int v28), (0, .ref 97), (1, .int x), (2, .int z)]) (fun _ => rfl) (fun v28 ev28 => ?_)
        have L29 : ∀ (k9 : Nat) (j : Nat) (wz3 : Int32) (J : Mem) (hw3 : wz3 = nI j) (hj : j ≤ k) (hA : ∀ d, d < j → J 114 d = nI (lab d)) (hB : ∀ d, j ≤ d → J 114 d = I 114 d) (h0 : 0 < j → m = 0) (hF : ∀ i, i ≠ 114 → J i = I i), k - j < k9 → G κ n ρ 29 [(3, .int wz3), (0, .ref 97), (1, .int x), (2, .int z)] [] J := by
          intro k9
          induction k9 with
          | zero => intro j wz3 J hw3 hj hA hB h0 hF hm29; exact absurd hm29 (Nat.not_lt_zero _)
          | succ k9 ih29 =>
            intro j wz3 J hw3 hj hA hB h0 hF hm29
            subst hw3
            refine g_iload_n C (pc := 29) dX12_leaf_29 0 rfl ?_
            refine g_iload_n C (pc := 30) dX12_leaf_30 2 rfl ?_
            refine g_icmp_ge C (pc := 31) 83 dX12_leaf_31 (by decide) (fun c31 => ?_) (fun c31 => ?_)
            · have hjk : j = k := by
                rw [hx, nI_leI (by omega) (by omega)] at c31
                omega
              have hfin : ∀ d, d < k → J 114 d = if m = 0 then nI (lab d) else I 114 d := fun d hd => by
                rw [if_pos (h0 (by omega))]; exact hA d (by omega)
              have hwpI : (J 97 36).toNatClampNeg = wp := by rw [hF 97 (by decide), hwp]; exact nI_clamp (by omega)
              have hsqI : J 106 wp = oI (bP b wp) := by rw [hF 106 (by decide)]; exact (hqb.1 wp hwn).1
              refine g_aload_n C (pc := 83) dX12_leaf_83 1 rfl ?_
              refine g_dup C (pc := 84) dX12_leaf_84 rfl ?_
              refine g_getI C (pc := 85) fl_RX12_318 (by decide) (by first | assumption | rfl | omega) (by first | assumption | rfl | omega) dX12_leaf_85 ?_
              refine g_aload_n C (pc := 88) dX12_leaf_88 1 rfl ?_
              refine g_getR C (pc := 89) fl_RX12_35 (by decide) (by first | assumption | rfl | omega) (by first | assumption | rfl | omega) (by first | assumption | rfl | omega) dX12_leaf_89 ?_
              refine g_aload_n C (pc := 92) dX12_leaf_92 1 rfl ?_
              refine g_getI C (pc := 93) fl_RX12_321 (by decide) (by first | assumption | rfl | omega) (by first | assumption | rfl | omega) dX12_leaf_93 ?_
              refine g_iald C (pc := 96) (by first | assumption | rfl | omega) (by first | assumption | rfl | omega) (by rw [hF 97 (by decide), hwp]; exact vp_in_nI (by omega) (by decide)) dX12_leaf_96 ?_
              refine g_bipush C (pc := 97) (-4) dX12_leaf_97 (by decide) ?_
              refine g_icmp_ne C (pc := 99) 108 dX12_leaf_99 (by decide) (fun c99 => ?_) (fun c99 => ?_)
              · obtain ⟨a9, ha9⟩ : ∃ a9, bP b wp = some a9 := by
                  cases h9 : bP b wp with
                  | none => exact absurd (by rw [hwpI, hsqI, h9]; rfl) c99
                  | some a9 => exact ⟨a9, rfl⟩
                have hbit : ∀ i, i < 32 → bt (1 <<< (J 106 (J 97 36).toNatClampNeg &&& 31)) i = plB (some wp) b i := fun i hi => by
                  rw [hwpI, bit_at ((hbw.2.1 wp hwn).1 a9 ha9) (hsqI.trans (by rw [ha9]; rfl)) hi]
                  unfold plB; rw [Option.bind_some, ha9]
                  show (some a9 == some i) = decide (i = a9)
                  by_cases h9 : i = a9
                  · subst h9; simp
                  · simp [h9, Ne.symm h9]
                refine g_iconst C (pc := 108) 1 dX12_leaf_108 (by decide) ?_
                refine g_aload_n C (pc := 109) dX12_leaf_109 1 rfl ?_
                refine g_getR C (pc := 110) fl_RX12_35 (by decide) (by first | assumption | rfl | omega) (by first | assumption | rfl | omega) (by first | assumption | rfl | omega) dX12_leaf_110 ?_
                refine g_aload_n C (pc := 113) dX12_leaf_113 1 rfl ?_
                refine g_getI C (pc := 114) fl_RX12_321 (by decide) (by first | assumption | rfl | omega) (by first | assumption | rfl | omega) dX12_leaf_114 ?_
                refine g_iald C (pc := 117) (by first | assumption | rfl | omega) (by first | assumption | rfl | omega) (by rw [hF 97 (by decide), hwp]; exact vp_in_nI (by omega) (by decide)) dX12_leaf_117 ?_
                refine g_ishl C (pc := 118) dX12_leaf_118 ?_
                refine g_ior C (pc := 119) dX12_leaf_119 ?_
                refine g_putI C (pc := 120) fl_RX12_318 (by decide) fp_11_35 (Or.inl rfl) ⟨rfl, rfl⟩ (by first | assumption | rfl | omega) (by first | assumption | rfl | omega) hn9 dX12_leaf_120 ?_
                refine g_aload_n C (pc := 123) dX12_leaf_123 1 rfl ?_
                refine g_dup C (pc := 124) dX12_leaf_124 rfl ?_
                refine g_getI C (pc := 125) fl_RX12_315 (by decide) (by first | assumption | rfl | omega) (by first | assumption | rfl | omega) dX12_leaf_125 ?_
                refine g_iconst C (pc := 128) 1 dX12_leaf_128 (by decide) ?_
                refine g_iadd C (pc := 129) dX12_leaf_129 ?_
                refine g_putI C (pc := 130) fl_RX12_315 (by decide) fp_11_34 (Or.inl rfl) ⟨rfl, rfl⟩ (by first | assumption | rfl | omega) (by first | assumption | rfl | omega) hn9 dX12_leaf_130 ?_
                refine g_vret C hR (pc := 133) rfl dX12_leaf_133 ?_
                refine ⟨rfl, rfl, ?_⟩
                refine Or.inl ⟨hg9, ?_, fun d hd => ?_, fun i hi => ?_, fun z hz1 hz2 => ?_, fun i h1 h2 => ?_⟩
                · rw [wr_ss, wr_sn (by decide), hF 97 (by decide), hrm]; exact nI_1 _
                · rw [wr_n (by decide), wr_n (by decide)]; exact hfin d hd
                · rw [wr_sn (by decide), wr_ss, b_or, hbit i hi, hF 97 (by decide)]
                · rw [wr_sn hz1, wr_sn hz2, hF 97 (by decide)]
                · rw [wr_n h1, wr_n h1]; exact hF i h2
              · have hpn : bP b wp = none := by
                  rw [hwpI, hsqI] at c99
                  exact (oI_none (pl_lt hbw hwn)).mp c99
                have hbit : ∀ i, i < 32 → bt (33554432 : Int32) i = plB (some wp) b i := fun i hi => by
                  rw [b_25 i hi]; unfold plB; rw [Option.bind_some, hpn]
                refine g_ldc_w C (pc := 102) _ gk_RX12_324 dX12_leaf_102 ?_
                refine g_goto C (pc := 105) 119 dX12_leaf_105 (by decide) ?_
                refine g_ior C (pc := 119) dX12_leaf_119 ?_
                refine g_putI C (pc := 120) fl_RX12_318 (by decide) fp_11_35 (Or.inl rfl) ⟨rfl, rfl⟩ (by first | assumption | rfl | omega) (by first | assumption | rfl | omega) hn9 dX12_leaf_120 ?_
                refine g_aload_n C (pc := 123) dX12_leaf_123 1 rfl ?_
                refine g_dup C (pc := 124) dX12_leaf_124 rfl ?_
                refine g_getI C (pc := 125) fl_RX12_315 (by decide) (by first | assumption | rfl | omega) (by first | assumption | rfl | omega) dX12_leaf_125 ?_
                refine g_iconst C (pc := 128) 1 dX12_leaf_128 (by decide) ?_
                refine g_iadd C (pc := 129) dX12_leaf_129 ?_
                refine g_putI C (pc := 130) fl_RX12_315 (by decide) fp_11_34 (Or.inl rfl) ⟨rfl, rfl⟩ (by first | assumption | rfl | omega) (by first | assumption | rfl | omega) hn9 dX12_leaf_130 ?_
                refine g_vret C hR (pc := 133) rfl dX12_leaf_133 ?_
                refine ⟨rfl, rfl, ?_⟩
                refine Or.inl ⟨hg9, ?_, fun d hd => ?_, fun i hi => ?_, fun z hz1 hz2 => ?_, fun i h1 h2 => ?_⟩
                · rw [wr_ss, wr_sn (by decide), hF 97 (by decide), hrm]; exact nI_1 _
                · rw [wr_n (by decide), wr_n (by decide)]; exact hfin d hd
                · rw [wr_sn (by decide), wr_ss, b_or, hbit i hi, hF 97 (by decide)]
                · rw [wr_sn hz1, wr_sn hz2, hF 97 (by decide)]
                · rw [wr_n h1, wr_n h1]; exact hF i h2
            · have hjk : j < k := by
                rw [hx, nI_ltI (by omega) (by omega)] at c31
                exact c31
              have hcj : (nI j).toNatClampNeg = j := nI_clamp (by omega)
              refine g_aload_n C (pc := 34) dX12_leaf_34 1 rfl ?_
              refine g_getI C (pc := 35) fl_RX12_315 (by decide) (by first | assumption | rfl | omega) (by first | assumption | rfl | omega) dX12_leaf_35 ?_
              refine g_if_ne C (pc := 38) 83 dX12_leaf_38 (by decide) (fun c38 => ?_) (fun c38 => ?_)
              · have hm0 : m ≠ 0 := fun h9 => c38 (by rw [hF 97 (by decide), hrm, h9]; rfl)
                have hj0 : j = 0 := by
                  rcases Nat.eq_zero_or_pos j with h9 | h9
                  · exact h9
                  · exact absurd (h0 h9) hm0
                have hfin : ∀ d, d < k → J 114 d = if m = 0 then nI (lab d) else I 114 d := fun d hd => by
                  rw [if_neg hm0]; exact hB d (by omega)
                have hwpI : (J 97 36).toNatClampNeg = wp := by rw [hF 97 (by decide), hwp]; exact nI_clamp (by omega)
                have hsqI : J 106 wp = oI (bP b wp) := by rw [hF 106 (by decide)]; exact (hqb.1 wp hwn).1
                refine g_aload_n C (pc := 83) dX12_leaf_83 1 rfl ?_
                refine g_dup C (pc := 84) dX12_leaf_84 rfl ?_
                refine g_getI C (pc := 85) fl_RX12_318 (by decide) (by first | assumption | rfl | omega) (by first | assumption | rfl | omega) dX12_leaf_85 ?_
                refine g_aload_n C (pc := 88) dX12_leaf_88 1 rfl ?_
                refine g_getR C (pc := 89) fl_RX12_35 (by decide) (by first | assumption | rfl | omega) (by first | assumption | rfl | omega) (by first | assumption | rfl | omega) dX12_leaf_89 ?_
                refine g_aload_n C (pc := 92) dX12_leaf_92 1 rfl ?_
                refine g_getI C (pc := 93) fl_RX12_321 (by decide) (by first | assumption | rfl | omega) (by first | assumption | rfl | omega) dX12_leaf_93 ?_
                refine g_iald C (pc := 96) (by first | assumption | rfl | omega) (by first | assumption | rfl | omega) (by rw [hF 97 (by decide), hwp]; exact vp_in_nI (by omega) (by decide)) dX12_leaf_96 ?_
                refine g_bipush C (pc := 97) (-4) dX12_leaf_97 (by decide) ?_
                refine g_icmp_ne C (pc := 99) 108 dX12_leaf_99 (by decide) (fun c99 => ?_) (fun c99 => ?_)
                · obtain ⟨a9, ha9⟩ : ∃ a9, bP b wp = some a9 := by
                    cases h9 : bP b wp with
                    | none => exact absurd (by rw [hwpI, hsqI, h9]; rfl) c99
                    | some a9 => exact ⟨a9, rfl⟩
                  have hbit : ∀ i, i < 32 → bt (1 <<< (J 106 (J 97 36).toNatClampNeg &&& 31)) i = plB (some wp) b i := fun i hi => by
                    rw [hwpI, bit_at ((hbw.2.1 wp hwn).1 a9 ha9) (hsqI.trans (by rw [ha9]; rfl)) hi]
                    unfold plB; rw [Option.bind_some, ha9]
                    show (some a9 == some i) = decide (i = a9)
                    by_cases h9 : i = a9
                    · subst h9; simp
                    · simp [h9, Ne.symm h9]
                  refine g_iconst C (pc := 108) 1 dX12_leaf_108 (by decide) ?_
                  refine g_aload_n C (pc := 109) dX12_leaf_109 1 rfl ?_
                  refine g_getR C (pc := 110) fl_RX12_35 (by decide) (by first | assumption | rfl | omega) (by first | assumption | rfl | omega) (by first | assumption | rfl | omega) dX12_leaf_110 ?_
                  refine g_aload_n C (pc := 113) dX12_leaf_113 1 rfl ?_
                  refine g_getI C (pc := 114) fl_RX12_321 (by decide) (by first | assumption | rfl | omega) (by first | assumption | rfl | omega) dX12_leaf_114 ?_
                  refine g_iald C (pc := 117) (by first | assumption | rfl | omega) (by first | assumption | rfl | omega) (by rw [hF 97 (by decide), hwp]; exact vp_in_nI (by omega) (by decide)) dX12_leaf_117 ?_
                  refine g_ishl C (pc := 118) dX12_leaf_118 ?_
                  refine g_ior C (pc := 119) dX12_leaf_119 ?_
                  refine g_putI C (pc := 120) fl_RX12_318 (by decide) fp_11_35 (Or.inl rfl) ⟨rfl, rfl⟩ (by first | assumption | rfl | omega) (by first | assumption | rfl | omega) hn9 dX12_leaf_120 ?_
                  refine g_aload_n C (pc := 123) dX12_leaf_123 1 rfl ?_
                  refine g_dup C (pc := 124) dX12_leaf_124 rfl ?_
                  refine g_getI C (pc := 125) fl_RX12_315 (by decide) (by first | assumption | rfl | omega) (by first | assumption | rfl | omega) dX12_leaf_125 ?_
                  refine g_iconst C (pc := 128) 1 dX12_leaf_128 (by decide) ?_
                  refine g_iadd C (pc := 129) dX12_leaf_129 ?_
                  refine g_putI C (pc := 130) fl_RX12_315 (by decide) fp_11_34 (Or.inl rfl) ⟨rfl, rfl⟩ (by first | assumption | rfl | omega) (by first | assumption | rfl | omega) hn9 dX12_leaf_130 ?_
                  refine g_vret C hR (pc := 133) rfl dX12_leaf_133 ?_
                  refine ⟨rfl, rfl, ?_⟩
                  refine Or.inl ⟨hg9, ?_, fun d hd => ?_, fun i hi => ?_, fun z hz1 hz2 => ?_, fun i h1 h2 => ?_⟩
                  · rw [wr_ss, wr_sn (by decide), hF 97 (by decide), hrm]; exact nI_1 _
                  · rw [wr_n (by decide), wr_n (by decide)]; exact hfin d hd
                  · rw [wr_sn (by decide), wr_ss, b_or, hbit i hi, hF 97 (by decide)]
                  · rw [wr_sn hz1, wr_sn hz2, hF 97 (by decide)]
                  · rw [wr_n h1, wr_n h1]; exact hF i h2
                · have hpn : bP b wp = none := by
                    rw [hwpI, hsqI] at c99
                    exact (oI_none (pl_lt hbw hwn)).mp c99
                  have hbit : ∀ i, i < 32 → bt (33554432 : Int32) i = plB (some wp) b i := fun i hi => by
                    rw [b_25 i hi]; unfold plB; rw [Option.bind_some, hpn]
                  refine g_ldc_w C (pc := 102) _ gk_RX12_324 dX12_leaf_102 ?_
                  refine g_goto C (pc := 105) 119 dX12_leaf_105 (by decide) ?_
                  refine g_ior C (pc := 119) dX12_leaf_119 ?_
                  refine g_putI C (pc := 120) fl_RX12_318 (by decide) fp_11_35 (Or.inl rfl) ⟨rfl, rfl⟩ (by first | assumption | rfl | omega) (by first | assumption | rfl | omega) hn9 dX12_leaf_120 ?_
                  refine g_aload_n C (pc := 123) dX12_leaf_123 1 rfl ?_
                  refine g_dup C (pc := 124) dX12_leaf_124 rfl ?_
                  refine g_getI C (pc := 125) fl_RX12_315 (by decide) (by first | assumption | rfl | omega) (by first | assumption | rfl | omega) dX12_leaf_125 ?_
                  refine g_iconst C (pc := 128) 1 dX12_leaf_128 (by decide) ?_
                  refine g_iadd C (pc := 129) dX12_leaf_129 ?_
                  refine g_putI C (pc := 130) fl_RX12_315 (by decide) fp_11_34 (Or.inl rfl) ⟨rfl, rfl⟩ (by first | assumption | rfl | omega) (by first | assumption | rfl | omega) hn9 dX12_leaf_130 ?_
                  refine g_vret C hR (pc := 133) rfl dX12_leaf_133 ?_
                  refine ⟨rfl, rfl, ?_⟩
                  refine Or.inl ⟨hg9, ?_, fun d hd => ?_, fun i hi => ?_, fun z hz1 hz2 => ?_, fun i h1 h2 => ?_⟩
                  · rw [wr_ss, wr_sn (by decide), hF 97 (by decide), hrm]; exact nI_1 _
                  · rw [wr_n (by decide), wr_n (by decide)]; exact hfin d hd
                  · rw [wr_sn (by decide), wr_ss, b_or, hbit i hi, hF 97 (by decide)]
                  · rw [wr_sn hz1, wr_sn hz2, hF 97 (by decide)]
                  · rw [wr_n h1, wr_n h1]; exact hF i h2
              · have hm0 : m = 0 := by
                  rw [hF 97 (by decide), hrm] at c38
                  exact (nI_eq (b := 0) (by omega) (by decide)).mp c38
                refine g_aload_n C (pc := 41) dX12_leaf_41 1 rfl ?_
                refine g_getR C (pc := 42) fl_RX12_59 (by decide) (by first | assumption | rfl | omega) (by first | assumption | rfl | omega) (by first | assumption | rfl | omega) dX12_leaf_42 ?_
                refine g_iload_n C (pc := 45) dX12_leaf_45 0 rfl ?_
                refine g_bipush C (pc := 46) 100 dX12_leaf_46 (by decide) ?_
                refine g_aload_n C (pc := 48) dX12_leaf_48 1 rfl ?_
                refine g_getR C (pc := 49) fl_RX12_50 (by decide) (by first | assumption | rfl | omega) (by first | assumption | rfl | omega) (by first | assumption | rfl | omega) dX12_leaf_49 ?_
                refine g_iload_n C (pc := 52) dX12_leaf_52 0 rfl ?_
                refine g_iald C (pc := 53) (by first | assumption | rfl | omega) (by first | assumption | rfl | omega) (vp_in_nI (n := j) (by omega) (by decide)) dX12_leaf_53 ?_
                refine g_imul C (pc := 54) dX12_leaf_54 ?_
                refine g_aload_n C (pc := 55) dX12_leaf_55 1 rfl ?_
                refine g_getR C (pc := 56) fl_RX12_44 (by decide) (by first | assumption | rfl | omega) (by first | assumption | rfl | omega) (by first | assumption | rfl | omega) dX12_leaf_56 ?_
                refine g_iload_n C (pc := 59) dX12_leaf_59 0 rfl ?_
                refine g_iald C (pc := 60) (by first | assumption | rfl | omega) (by first | assumption | rfl | omega) (vp_in_nI (n := j) (by omega) (by decide)) dX12_leaf_60 ?_
                rw [hcj, hF 109 (by decide), hF 111 (by decide)]
                refine g_if_ne C (pc := 61) 69 dX12_leaf_61 (by decide) (fun c61 => ?_) (fun c61 => ?_)
                · refine g_aload_n C (pc := 69) dX12_leaf_69 1 rfl ?_
                  refine g_getR C (pc := 70) fl_RX12_53 (by decide) (by first | assumption | rfl | omega) (by first | assumption | rfl | omega) (by first | assumption | rfl | omega) dX12_leaf_70 ?_
                  refine g_iload_n C (pc := 73) dX12_leaf_73 0 rfl ?_
                  refine g_iald C (pc := 74) (by first | assumption | rfl | omega) (by first | assumption | rfl | omega) (vp_in_nI (n := j) (by omega) (by decide)) dX12_leaf_74 ?_
                  refine g_iadd C (pc := 75) dX12_leaf_75 ?_
                  first
                  | rw [hcj, hF 112 (by decide)]
                  | skip
                  refine g_iast C (pc := 76) (by first | assumption | rfl | omega) (by first | assumption | rfl | omega) hn9 (vp_in_nI (n := j) (by omega) (by decide)) dX12_leaf_76 ?_
                  refine g_iinc C (pc := 77) (1) dX12_leaf_77 0 rfl (by decide) (by decide) (fun v77 => [(3, .int v77), (0, .ref 97), (1, .int x), (2, .int z)]) (fun _ => rfl) (fun v77 ev77 => ?_)
                  refine g_goto C (pc := 80) 29 dX12_leaf_80 (by decide) ?_
                  refine g_lv C [0, 1, 2, 3] rfl (ih29 (j + 1) _ _ ?_ ?_ ?_ ?_ ?_ ?_ (by omega))
                  · subst ev77; exact nI_1 _
                  · omega
                  · intro d hd
                    rw [hcj]
                    rcases Nat.lt_or_ge d j with h1 | h1
                    · rw [wr_sn (by omega)]; exact hA d h1
                    · have : d = j := by omega
                      subst this
                      rw [wr_ss, ← hlab d (by omega)]
                      first
                      | (rw [if_pos c61]; done)
                      | (rw [if_neg c61]; done)
                  · intro d hd; rw [hcj, wr_sn (by omega)]; exact hB d (by omega)
                  · intro _; exact hm0
                  · intro i h1; rw [wr_n h1]; exact hF i h1
                · refine g_bipush C (pc := 64) 99 dX12_leaf_64 (by decide) ?_
                  refine g_goto C (pc := 66) 75 dX12_leaf_66 (by decide) ?_
                  refine g_iadd C (pc := 75) dX12_leaf_75 ?_
                  first
                  | rw [hcj, hF 112 (by decide)]
                  | skip
                  refine g_iast C (pc := 76) (by first | assumption | rfl | omega) (by first | assumption | rfl | omega) hn9 (vp_in_nI (n := j) (by omega) (by decide)) dX12_leaf_76 ?_
                  refine g_iinc C (pc := 77) (1) dX12_leaf_77 0 rfl (by decide) (by decide) (fun v77 => [(3, .int v77), (0, .ref 97), (1, .int x), (2, .int z)]) (fun _ => rfl) (fun v77 ev77 => ?_)
                  refine g_goto C (pc := 80) 29 dX12_leaf_80 (by decide) ?_
                  refine g_lv C [0, 1, 2, 3] rfl (ih29 (j + 1) _ _ ?_ ?_ ?_ ?_ ?_ ?_ (by omega))
                  · subst ev77; exact nI_1 _
                  · omega
                  · intro d hd
                    rw [hcj]
                    rcases Nat.lt_or_ge d j with h1 | h1
                    · rw [wr_sn (by omega)]; exact hA d h1
                    · have : d = j := by omega
                      subst this
                      rw [wr_ss, ← hlab d (by omega)]
                      first
                      | (rw [if_pos c61]; done)
                      | (rw [if_neg c61]; done)
                  · intro d hd; rw [hcj, wr_sn (by omega)]; exact hB d (by omega)
                  · intro _; exact hm0
                  · intro i h1; rw [wr_n h1]; exact hF i h1
        refine g_lv C [0, 1, 2, 3] rfl (L29 (_ + 1) 0 _ _ ?_ ?_ ?_ ?_ ?_ ?_ (by first | omega | exact Nat.lt_succ_self _))
        · subst ev28; rfl
        · omega
        · intro d hd; omega
        · intro d _; rfl
        · intro h; omega
        · intro i _; rfl
      · have hg9 : seeB F sn sq sd b = false := by
          cases h9 : seeB F sn sq sd b with
          | false => rfl
          | true => exact absurd h9 (bI_0.mp (e20.symm.trans c23))
        refine g_vret C hR (pc := 26) rfl dX12_leaf_26 ?_
        refine ⟨rfl, rfl, ?_⟩
        exact Or.inr ⟨hg9, rfl⟩
    · rw [hz] at c6; exact absurd c6 (by decide)
set_option maxHeartbeats 400000 in
theorem c_X12_leaf2 (n : Nat) (ρ : Rho) (I : Mem) (x z : Int32) (hn9 : n ≤ 999) (hms : MS n ρ) (hz : z = 2) : MV yX12_leaf cX12_leaf 4 none 2 [.ref 97, .int x, .int z] n ρ I (fun I1 => I = I1) := by
  refine MG.of (by decide +kernel) (Nat.le_of_ble_eq_true rfl) hn9 ?_
  intro κ C hR
  show G κ n ρ 0 [(0, .ref 97), (1, .int x), (2, .int z)] [] I
  obtain ⟨mn, ⟨m0, m1, m5, m6, m7, m11, m12, m15⟩, ⟨m23, m24, m26, m27, m28, m30, m31, m32, m33⟩, ⟨m38, m39, m40, m42⟩⟩ := id hms
  refine g_iload_n C (pc := 0) dX12_leaf_0 2 rfl ?_
  refine g_iconst C (pc := 1) 2 dX12_leaf_1 (by decide) ?_
  refine g_icmp_eq C (pc := 2) 26 dX12_leaf_2 (by decide) (fun c2 => ?_) (fun c2 => ?_)
  · refine g_vret C hR (pc := 26) rfl dX12_leaf_26 ?_
    refine ⟨rfl, rfl, ?_⟩
    rfl
  · exact absurd hz c2
