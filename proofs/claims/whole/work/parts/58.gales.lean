theorem inL {x : Int32} {lo hi : Nat} (h1 : lo < 1000) (h2 : hi < 1000) : (lN lo ≤ x.toInt64 ∧ x.toInt64 ≤ lN hi) ↔ ∃ k, lo ≤ k ∧ k ≤ hi ∧ x = nI k := by
  rw [← nI_l (show lo < 2 ^ 31 by omega), ← nI_l (show hi < 2 ^ 31 by omega), i2l_le, i2l_le, Int32.le_iff_toInt_le, Int32.le_iff_toInt_le, nI_toInt (by omega), nI_toInt (by omega)]
  constructor
  · rintro ⟨a, b⟩
    exact ⟨x.toInt.toNat, by omega, by omega, i32_nat (by omega) (by omega)⟩
  · rintro ⟨k, a, b, e⟩
    rw [e, nI_toInt (by omega)]; omega
theorem inU {x : Int32} : (0 ≤ x.toInt64 ∧ x.toInt64 ≤ 1) ↔ (x = 0 ∨ x = 1) := by
  refine (inL (x := x) (lo := 0) (hi := 1) (by decide) (by decide)).trans ?_
  constructor
  · rintro ⟨k, -, h, e⟩
    rcases (show k = 0 ∨ k = 1 by omega) with h9 | h9 <;> subst h9
    · exact Or.inl e
    · exact Or.inr e
  · rintro (e | e)
    · exact ⟨0, by decide, by decide, e⟩
    · exact ⟨1, by decide, by decide, e⟩
set_option maxHeartbeats 800000 in
theorem c_X12_valueOf (n : Nat) (ρ : Rho) (I : Mem) (F : RT) (b : BT) (sd k : Nat) (x z : Int32) (hn9 : n ≤ 999) (hms : MS n ρ) (hqf : QF I F) (hrw : RW F) (hqe : QE I F) (hqb : QB I F b) (hbw : BW F b) (hl1 : L1 F b) (hpw : PW F b) (hsd : sd < 2) (hx : x = nI sd) (hk3 : k ≤ 3) (hz : z = nI k) : ML yX12_valueOf cX12_valueOf 8 (some .long) 9 [.ref 97, .int x, .int z] n ρ I (fun v I1 => v = lN (val F sd k b) ∧ Lw 3 I I1) := by
  refine MG.of (by decide +kernel) (Nat.le_of_ble_eq_true rfl) hn9 ?_
  intro κ C hR
  show G κ n ρ 0 [(0, .ref 97), (1, .int x), (2, .int z)] [] I
  obtain ⟨mn, ⟨m0, m1, m5, m6, m7, m11, m12, m15⟩, ⟨m23, m24, m26, m27, m28, m30, m31, m32, m33⟩, ⟨m38, m39, m40, m42⟩⟩ := id hms
  obtain ⟨qw, qh, qn, qk⟩ := id hqf
  have hn6 : rN F ≤ 6 := hrw.2.2.2.2.1
  have hm25 := Nat.mul_le_mul hrw.2.1 hrw.2.2.2.1
  have hm4 := Nat.mul_le_mul hrw.1 hrw.2.2.1
  have hAO := allO_le hrw
  refine g_iload_n C (pc := 0) dX12_valueOf_0 2 rfl ?_
  refine g_iconst C (pc := 1) 3 dX12_valueOf_1 (by decide) ?_
  refine g_icmp_ge C (pc := 2) 36 dX12_valueOf_2 (by decide) (fun c2 => ?_) (fun c2 => ?_)
  · have hk9 : k = 3 := by
      rw [hz, show (3 : Int32) = nI 3 from rfl, nI_leI (by decide) (by omega)] at c2
      omega
    refine g_aload_n C (pc := 36) dX12_valueOf_36 0 rfl ?_
    refine g_callVI C (pc := 37) mf_X12_allOdds lk_RX12_244 (c_X12_allOdds n ρ I F hn9 hms hqe) (by decide) (Nat.le_refl _) rfl (by first | assumption | rfl | omega) rfl (by first | assumption | rfl | omega) (Nat.le_of_ble_eq_true rfl) dX12_valueOf_37 (fun v37 I37 h37 => ?_)
    obtain ⟨e37, rfl⟩ := h37
    refine g_i2l C (pc := 40) dX12_valueOf_40 ?_
    refine g_lstore_n C (pc := 41) dX12_valueOf_41 (by decide) (fun v41 => [(3, .long v41), (0, .ref 97), (1, .int x), (2, .int z)]) (fun _ => rfl) (fun v41 ev41 => ?_)
    refine g_aload_n C (pc := 42) dX12_valueOf_42 1 rfl ?_
    refine g_callVI C (pc := 43) mf_X12_lost lk_RX12_221 (c_X12_lost n ρ I F b hn9 hms hqf hrw hqb hbw hl1) (by decide) (Nat.le_refl _) rfl (by first | assumption | rfl | omega) rfl (by first | assumption | rfl | omega) (Nat.le_of_ble_eq_true rfl) dX12_valueOf_43 (fun v43 I43 h43 => ?_)
    obtain ⟨e43, rfl⟩ := h43
    refine g_bipush C (pc := 46) (-4) dX12_valueOf_46 (by decide) ?_
    refine g_icmp_eq C (pc := 48) 63 dX12_valueOf_48 (by decide) (fun c48 => ?_) (fun c48 => ?_)
    · have hnb : lostB F b = none := (oI_none (lostB_lt2 hrw)).mp (e43.symm.trans c48)
      refine g_lconst C (pc := 63) 0 dX12_valueOf_63 (by decide) ?_
      refine g_lstore C (pc := 64) dX12_valueOf_64 (by decide) (fun v64 => [(5, .long v64), (3, .long v41), (0, .ref 97), (1, .int x), (2, .int z)]) (fun _ => rfl) (fun v64 ev64 => ?_)
      refine g_iconst C (pc := 66) 0 dX12_valueOf_66 (by decide) ?_
      refine g_istore C (pc := 67) dX12_valueOf_67 (by decide) (fun v67 => [(7, .int v67), (5, .long v64), (3, .long v41), (0, .ref 97), (1, .int x), (2, .int z)]) (fun _ => rfl) (fun v67 ev67 => ?_)
      have L69 : ∀ (k9 : Nat) (j : Nat) (wz7 : Int32) (wz5 : Int64) (J : Mem) (hw7 : wz7 = nI j) (hj : j ≤ 5) (hS : wz5 = lN (smP (fun w => rOd F w * valW F sd 2 b w) j)) (hqJ : QB J F b) (hlw : Lw 3 I J), 5 - j < k9 → G κ n ρ 69 [(7, .int wz7), (5, .long wz5), (0, .ref 97), (1, .int x), (2, .int z)] [] J := by
        intro k9
        induction k9 with
        | zero => intro j wz7 wz5 J hw7 hj hS hqJ hlw hm69; exact absurd hm69 (Nat.not_lt_zero _)
        | succ k9 ih69 =>
          intro j wz7 wz5 J hw7 hj hS hqJ hlw hm69
          subst hw7
          have hkJ := hlw.1
          refine g_iload C (pc := 69) dX12_valueOf_69 0 rfl ?_
          refine g_iconst C (pc := 71) 5 dX12_valueOf_71 (by decide) ?_
          refine g_icmp_ge C (pc := 72) 122 dX12_valueOf_72 (by decide) (fun c72 => ?_) (fun c72 => ?_)
          · replace c72 := (nI_leI (a := 5) (b := j) (by decide) (by omega)).mp c72
            refine g_lload C (pc := 122) dX12_valueOf_122 1 rfl ?_
            refine g_lret C hR (pc := 124) rfl dX12_valueOf_124 ?_
            refine ⟨rfl, _, rfl, ?_⟩
            have hj5 : j = 5 := by omega
            subst hj5
            subst hk9
            exact ⟨by rw [val_succ hnb]; exact hS, hlw⟩
          · replace c72 := (nI_ltI (a := j) (b := 5) (by omega) (by decide)).mp c72
            have hod : J 98 (13 + nI j).toNatClampNeg = nI (rOd F j) := by rw [show (13 : Int32) = nI 13 from rfl, nI_add, nI_clamp (by omega)]; exact (hqe.kp hkJ).2 j c72
            have ho9 := hrw.2.2.2.2.2.2.1 j c72
            refine g_lload C (pc := 75) dX12_valueOf_75 1 rfl ?_
            refine g_aload_n C (pc := 77) dX12_valueOf_77 2 rfl ?_
            refine g_getR C (pc := 78) fl_RX12_7 (by decide) (by first | assumption | rfl | omega) (by first | assumption | rfl | omega) (by first | assumption | rfl | omega) dX12_valueOf_78 ?_
            refine g_bipush C (pc := 81) 13 dX12_valueOf_81 (by decide) ?_
            refine g_iload C (pc := 83) dX12_valueOf_83 0 rfl ?_
            refine g_iadd C (pc := 85) dX12_valueOf_85 ?_
            refine g_iald C (pc := 86) (by first | assumption | rfl | omega) (by first | assumption | rfl | omega) (by rw [show (13 : Int32) = nI 13 from rfl, nI_add]; exact vp_in_nI (by omega) (by decide)) dX12_valueOf_86 ?_
            refine g_if_ne C (pc := 87) 94 dX12_valueOf_87 (by decide) (fun c87 => ?_) (fun c87 => ?_)
            · refine g_aload_n C (pc := 94) dX12_valueOf_94 2 rfl ?_
              refine g_getR C (pc := 95) fl_RX12_7 (by decide) (by first | assumption | rfl | omega) (by first | assumption | rfl | omega) (by first | assumption | rfl | omega) dX12_valueOf_95 ?_
              refine g_bipush C (pc := 98) 13 dX12_valueOf_98 (by decide) ?_
              refine g_iload C (pc := 100) dX12_valueOf_100 0 rfl ?_
              refine g_iadd C (pc := 102) dX12_valueOf_102 ?_
              refine g_iald C (pc := 103) (by first | assumption | rfl | omega) (by first | assumption | rfl | omega) (by rw [show (13 : Int32) = nI 13 from rfl, nI_add]; exact vp_in_nI (by omega) (by decide)) dX12_valueOf_103 ?_
              refine g_i2l C (pc := 104) dX12_valueOf_104 ?_
              refine g_aload_n C (pc := 105) dX12_valueOf_105 2 rfl ?_
              refine g_iload_n C (pc := 106) dX12_valueOf_106 3 rfl ?_
              refine g_iload C (pc := 107) dX12_valueOf_107 0 rfl ?_
              refine g_callVL C (pc := 109) mf_X12_windOfThree lk_RX12_284 (c_X12_windOfThree n ρ J F b sd j x _ hn9 hms (hqf.kp hkJ) hrw (hqe.kp hkJ) hqJ hbw hl1 hpw hsd hx (by omega) rfl) (by decide) (Nat.le_refl _) rfl (by first | assumption | rfl | omega) rfl (by first | assumption | rfl | omega) (Nat.le_of_ble_eq_true rfl) dX12_valueOf_109 (fun v109 I109 h109 => ?_)
              obtain ⟨e109, m109, q109, k109⟩ := h109
              refine g_lmul C (pc := 112) dX12_valueOf_112 ?_
              refine g_ladd C (pc := 113) dX12_valueOf_113 ?_
              refine g_lstore C (pc := 114) dX12_valueOf_114 (by decide) (fun v114 => [(5, .long v114), (7, .int (nI j)), (0, .ref 97), (1, .int x), (2, .int z)]) (fun _ => rfl) (fun v114 ev114 => ?_)
              refine g_iinc C (pc := 116) (1) dX12_valueOf_116 1 rfl (by decide) (by decide) (fun v116 => [(7, .int v116), (5, .long v114), (0, .ref 97), (1, .int x), (2, .int z)]) (fun _ => rfl) (fun v116 ev116 => ?_)
              refine g_goto C (pc := 119) 69 dX12_valueOf_119 (by decide) ?_
              refine g_lv C [0, 1, 2, 3, 4] rfl (ih69 (j + 1) _ _ _ ?_ ?_ ?_ ?_ ?_ (by omega))
              · subst ev116; exact nI_1 _
              · omega
              · rw [ev114]
                first
                | (rw [hS, e109, hod, nI_l (by omega), lN_mul, lN_add, smP]; done)
                | (rw [hS, smP, ho0, Nat.zero_mul, Nat.add_zero]; exact Int64.add_zero _)
              · first | exact q109 | exact hqJ
              · first | exact hlw.trans k109 | exact hlw
            · have ho0 : rOd F j = 0 := by
                rw [hod] at c87
                exact (nI_eq (b := 0) (by omega) (by decide)).mp c87
              refine g_lconst C (pc := 90) 0 dX12_valueOf_90 (by decide) ?_
              refine g_goto C (pc := 91) 113 dX12_valueOf_91 (by decide) ?_
              refine g_ladd C (pc := 113) dX12_valueOf_113 ?_
              refine g_lstore C (pc := 114) dX12_valueOf_114 (by decide) (fun v114 => [(5, .long v114), (7, .int (nI j)), (0, .ref 97), (1, .int x), (2, .int z)]) (fun _ => rfl) (fun v114 ev114 => ?_)
              refine g_iinc C (pc := 116) (1) dX12_valueOf_116 1 rfl (by decide) (by decide) (fun v116 => [(7, .int v116), (5, .long v114), (0, .ref 97), (1, .int x), (2, .int z)]) (fun _ => rfl) (fun v116 ev116 => ?_)
              refine g_goto C (pc := 119) 69 dX12_valueOf_119 (by decide) ?_
              refine g_lv C [0, 1, 2, 3, 4] rfl (ih69 (j + 1) _ _ _ ?_ ?_ ?_ ?_ ?_ (by omega))
              · subst ev116; exact nI_1 _
              · omega
              · rw [ev114]
                first
                | (rw [hS, e109, hod, nI_l (by omega), lN_mul, lN_add, smP]; done)
                | (rw [hS, smP, ho0, Nat.zero_mul, Nat.add_zero]; exact Int64.add_zero _)
              · first | exact q109 | exact hqJ
              · first | exact hlw.trans k109 | exact hlw
      refine g_lv C [0, 1, 3, 4, 5] rfl (L69 (_ + 1) 0 _ _ _ ?_ ?_ ?_ ?_ ?_ (by first | omega | exact Nat.lt_succ_self _))
      · subst ev67; rfl
      · omega
      · subst ev64; rfl
      · exact hqb
      · exact Lw.rfl'
    · have hov : lostB F b ≠ none := fun h9 => c48 (by rw [e43, h9]; rfl)
      refine g_aload_n C (pc := 51) dX12_valueOf_51 1 rfl ?_
      refine g_iload_n C (pc := 52) dX12_valueOf_52 2 rfl ?_
      refine g_callVL C (pc := 53) mf_X12_wonNow lk_RX12_260 (c_X12_wonNow n ρ I F b sd x hn9 hms hqf hrw hqb hbw hl1 hsd hx) (by decide) (Nat.le_refl _) rfl (by first | assumption | rfl | omega) rfl (by first | assumption | rfl | omega) (Nat.le_of_ble_eq_true rfl) dX12_valueOf_53 (fun v53 I53 h53 => ?_)
      obtain ⟨e53, rfl⟩ := h53
      refine g_lload_n C (pc := 56) dX12_valueOf_56 0 rfl ?_
      refine g_lmul C (pc := 57) dX12_valueOf_57 ?_
      refine g_lload_n C (pc := 58) dX12_valueOf_58 0 rfl ?_
      refine g_lmul C (pc := 59) dX12_valueOf_59 ?_
      refine g_lload_n C (pc := 60) dX12_valueOf_60 0 rfl ?_
      refine g_lmul C (pc := 61) dX12_valueOf_61 ?_
      refine g_lret C hR (pc := 62) rfl dX12_valueOf_62 ?_
      refine ⟨rfl, _, rfl, ?_⟩
      subst hk9
      refine ⟨?_, Lw.rfl'⟩
      rw [val_ov hov, val_ov hov, val_ov hov, ← lN_mul, ← lN_mul, ← lN_mul, e53, ev41, e37, nI_l (by omega)]
  · have hk9 : k < 3 := by
      rw [hz, show (3 : Int32) = nI 3 from rfl, nI_ltI (by omega) (by decide)] at c2
      exact c2
    refine g_iload_n C (pc := 5) dX12_valueOf_5 2 rfl ?_
    refine g_if_ne C (pc := 6) 17 dX12_valueOf_6 (by decide) (fun c6 => ?_) (fun c6 => ?_)
    · have hk0 : k ≠ 0 := fun h => c6 (by rw [hz, h]; rfl)
      refine g_iload_n C (pc := 17) dX12_valueOf_17 2 rfl ?_
      refine g_iconst C (pc := 18) 1 dX12_valueOf_18 (by decide) ?_
      refine g_icmp_ne C (pc := 19) 30 dX12_valueOf_19 (by decide) (fun c19 => ?_) (fun c19 => ?_)
      · have hk1 : k ≠ 1 := fun h => c19 (by rw [hz, h]; rfl)
        refine g_aload_n C (pc := 30) dX12_valueOf_30 0 rfl ?_
        refine g_iload_n C (pc := 31) dX12_valueOf_31 1 rfl ?_
        refine g_callVL C (pc := 32) mf_X12_two lk_RX12_281 (c_X12_two n ρ I F b sd x hn9 hms hqf hrw hqe hqb hbw hl1 hpw hsd hx) (by decide) (Nat.le_refl _) rfl (by first | assumption | rfl | omega) rfl (by first | assumption | rfl | omega) (Nat.le_of_ble_eq_true rfl) dX12_valueOf_32 (fun v32 I32 h32 => ?_)
        obtain ⟨e32, k32⟩ := h32
        refine g_lret C hR (pc := 35) rfl dX12_valueOf_35 ?_
        refine ⟨rfl, _, rfl, ?_⟩
        first
        | (subst hk0; exact ⟨e11, Lw.rfl'⟩)
        | (subst hk1; exact ⟨e24, k24.up (by decide)⟩)
        | (have hk2 : k = 2 := by omega
           subst hk2; exact ⟨e32, k32.up (by decide)⟩)
      · have hk1 : k = 1 := by
          rw [hz] at c19
          exact (nI_eq (b := 1) (by omega) (by decide)).mp c19
        refine g_aload_n C (pc := 22) dX12_valueOf_22 0 rfl ?_
        refine g_iload_n C (pc := 23) dX12_valueOf_23 1 rfl ?_
        refine g_callVL C (pc := 24) mf_X12_one lk_RX12_275 (c_X12_one n ρ I F b sd x hn9 hms hqf hrw hqe hqb hbw hl1 hpw hsd hx) (by decide) (Nat.le_refl _) rfl (by first | assumption | rfl | omega) rfl (by first | assumption | rfl | omega) (Nat.le_of_ble_eq_true rfl) dX12_valueOf_24 (fun v24 I24 h24 => ?_)
        obtain ⟨e24, k24⟩ := h24
        refine g_goto C (pc := 27) 35 dX12_valueOf_27 (by decide) ?_
        refine g_lret C hR (pc := 35) rfl dX12_valueOf_35 ?_
        refine ⟨rfl, _, rfl, ?_⟩
        first
        | (subst hk0; exact ⟨e11, Lw.rfl'⟩)
        | (subst hk1; exact ⟨e24, k24.up (by decide)⟩)
        | (have hk2 : k = 2 := by omega
           subst hk2; exact ⟨e32, k32.up (by decide)⟩)
    · have hk0 : k = 0 := by
        rw [hz] at c6
        exact (nI_eq (b := 0) (by omega) (by decide)).mp c6
      refine g_aload_n C (pc := 9) dX12_valueOf_9 0 rfl ?_
      refine g_iload_n C (pc := 10) dX12_valueOf_10 1 rfl ?_
      refine g_callVL C (pc := 11) mf_X12_wonNow lk_RX12_260 (c_X12_wonNow n ρ I F b sd x hn9 hms hqf hrw hqb hbw hl1 hsd hx) (by decide) (Nat.le_refl _) rfl (by first | assumption | rfl | omega) rfl (by first | assumption | rfl | omega) (Nat.le_of_ble_eq_true rfl) dX12_valueOf_11 (fun v11 I11 h11 => ?_)
      obtain ⟨e11, rfl⟩ := h11
      refine g_goto C (pc := 14) 35 dX12_valueOf_14 (by decide) ?_
      refine g_lret C hR (pc := 35) rfl dX12_valueOf_35 ?_
      refine ⟨rfl, _, rfl, ?_⟩
      first
      | (subst hk0; exact ⟨e11, Lw.rfl'⟩)
      | (subst hk1; exact ⟨e24, k24.up (by decide)⟩)
      | (have hk2 : k = 2 := by omega
         subst hk2; exact ⟨e32, k32.up (by decide)⟩)
set_option maxHeartbeats 400000 in
theorem c_X12_windOf (n : Nat) (ρ : Rho) (I : Mem) (F : RT) (b : BT) (sd w k : Nat) (x z y9 : Int32) (hn9 : n ≤ 999) (hms : MS n ρ) (hqf : QF I F) (hrw : RW F) (hqe : QE I F) (hqb : QB I F b) (hbw : BW F b) (hl1 : L1 F b) (hpw : PW F b) (hsd : sd < 2) (hx : x = nI sd) (hw : w < 5) (hy : y9 = nI w) (hk1 : 1 ≤ k) (hk3 : k ≤ 3) (hz : z = nI k) : ML yX12_windOf cX12_windOf 4 (some .long) 9 [.ref 97, .int x, .int z, .int y9] n ρ I (fun v I1 => v = lN (valW F sd (k - 1) b w) ∧ I1 97 29 = oI (chW F sd (k - 1) b w) ∧ QB I1 F b ∧ Lw 3 I I1) := by
  refine MG.of (by decide +kernel) (Nat.le_of_ble_eq_true rfl) hn9 ?_
  intro κ C hR
  show G κ n ρ 0 [(0, .ref 97), (1, .int x), (2, .int z), (3, .int y9)] [] I
  obtain ⟨mn, ⟨m0, m1, m5, m6, m7, m11, m12, m15⟩, ⟨m23, m24, m26, m27, m28, m30, m31, m32, m33⟩, ⟨m38, m39, m40, m42⟩⟩ := id hms
  obtain ⟨qw, qh, qn, qk⟩ := id hqf
  have hn6 : rN F ≤ 6 := hrw.2.2.2.2.1
  have hm25 := Nat.mul_le_mul hrw.2.1 hrw.2.2.2.1
  have hm4 := Nat.mul_le_mul hrw.1 hrw.2.2.1
  refine g_iload_n C (pc := 0) dX12_windOf_0 2 rfl ?_
  refine g_iconst C (pc := 1) 1 dX12_windOf_1 (by decide) ?_
  refine g_icmp_ne C (pc := 2) 14 dX12_windOf_2 (by decide) (fun c2 => ?_) (fun c2 => ?_)
  · have hk0 : k ≠ 1 := fun h => c2 (by rw [hz, h]; rfl)
    refine g_iload_n C (pc := 14) dX12_windOf_14 2 rfl ?_
    refine g_iconst C (pc := 15) 2 dX12_windOf_15 (by decide) ?_
    refine g_icmp_ne C (pc := 16) 28 dX12_windOf_16 (by decide) (fun c16 => ?_) (fun c16 => ?_)
    · have hk2 : k ≠ 2 := fun h => c16 (by rw [hz, h]; rfl)
      refine g_aload_n C (pc := 28) dX12_windOf_28 0 rfl ?_
      refine g_iload_n C (pc := 29) dX12_windOf_29 1 rfl ?_
      refine g_iload_n C (pc := 30) dX12_windOf_30 3 rfl ?_
      refine g_callVL C (pc := 31) mf_X12_windOfThree lk_RX12_284 (c_X12_windOfThree n ρ I F b sd w x y9 hn9 hms hqf hrw hqe hqb hbw hl1 hpw hsd hx hw hy) (by decide) (Nat.le_refl _) rfl (by first | assumption | rfl | omega) rfl (by first | assumption | rfl | omega) (Nat.le_of_ble_eq_true rfl) dX12_windOf_31 (fun v31 I31 h31 => ?_)
      obtain ⟨e31, m31, q31, k31⟩ := h31
      refine g_lret C hR (pc := 34) rfl dX12_windOf_34 ?_
      refine ⟨rfl, _, rfl, ?_⟩
      first
      | (subst hk0; exact ⟨e8, m8, q8, k8.up (by decide)⟩)
      | (subst hk2; exact ⟨e22, m22, q22, k22.up (by decide)⟩)
      | (have hk9 : k = 3 := by omega
         subst hk9; exact ⟨e31, m31, q31, k31⟩)
    · have hk2 : k = 2 := by
        rw [hz] at c16
        exact (nI_eq (b := 2) (by omega) (by decide)).mp c16
      refine g_aload_n C (pc := 19) dX12_windOf_19 0 rfl ?_
      refine g_iload_n C (pc := 20) dX12_windOf_20 1 rfl ?_
      refine g_iload_n C (pc := 21) dX12_windOf_21 3 rfl ?_
      refine g_callVL C (pc := 22) mf_X12_windOfTwo lk_RX12_278 (c_X12_windOfTwo n ρ I F b sd w x y9 hn9 hms hqf hrw hqe hqb hbw hl1 hpw hsd hx hw hy) (by decide) (Nat.le_refl _) rfl (by first | assumption | rfl | omega) rfl (by first | assumption | rfl | omega) (Nat.le_of_ble_eq_true rfl) dX12_windOf_22 (fun v22 I22 h22 => ?_)
      obtain ⟨e22, m22, q22, k22⟩ := h22
      refine g_goto C (pc := 25) 34 dX12_windOf_25 (by decide) ?_
      refine g_lret C hR (pc := 34) rfl dX12_windOf_34 ?_
      refine ⟨rfl, _, rfl, ?_⟩
      first
      | (subst hk0; exact ⟨e8, m8, q8, k8.up (by decide)⟩)
      | (subst hk2; exact ⟨e22, m22, q22, k22.up (by decide)⟩)
      | (have hk9 : k = 3 := by omega
         subst hk9; exact ⟨e31, m31, q31, k31⟩)
  · have hk0 : k = 1 := by
      rw [hz] at c2
      exact (nI_eq (b := 1) (by omega) (by decide)).mp c2
    refine g_aload_n C (pc := 5) dX12_windOf_5 0 rfl ?_
    refine g_iload_n C (pc := 6) dX12_windOf_6 1 rfl ?_
    refine g_iload_n C (pc := 7) dX12_windOf_7 3 rfl ?_
    refine g_callVL C (pc := 8) mf_X12_windOfOne lk_RX12_271 (c_X12_windOfOne n ρ I F b sd w x y9 hn9 hms hqf hrw hqe hqb hbw hl1 hpw hsd hx hw hy) (by decide) (Nat.le_refl _) rfl (by first | assumption | rfl | omega) rfl (by first | assumption | rfl | omega) (Nat.le_of_ble_eq_true rfl) dX12_windOf_8 (fun v8 I8 h8 => ?_)
    obtain ⟨e8, m8, q8, k8⟩ := h8
    refine g_goto C (pc := 11) 34 dX12_windOf_11 (by decide) ?_
    refine g_lret C hR (pc := 34) rfl dX12_windOf_34 ?_
    refine ⟨rfl, _, rfl, ?_⟩
    first
    | (subst hk0; exact ⟨e8, m8, q8, k8.up (by decide)⟩)
    | (subst hk2; exact ⟨e22, m22, q22, k22.up (by decide)⟩)
    | (have hk9 : k = 3 := by omega
       subst hk9; exact ⟨e31, m31, q31, k31⟩)
set_option maxHeartbeats 400000 in
theorem c_X12_common (n : Nat) (ρ : Rho) (I : Mem) (a b : Nat) (x z : Int64) (hn9 : n ≤ 999) (hx : x = lN a) (hz : z = lN b) (ha : a ≤ 91125) (hb : b ≤ 91125) : ML yX12_common cX12_common 10 (some .long) 0 [.long x, .long z] n ρ I (fun v I1 => v = lN (Nat.gcd a b) ∧ I = I1) := by
  refine MG.of (by decide +kernel) (Nat.le_of_ble_eq_true rfl) hn9 ?_
  intro κ C hR
  show G κ n ρ 0 [(0, .long x), (2, .long z)] [] I
  subst hx hz
  refine g_lload_n C (pc := 0) dX12_common_0 0 rfl ?_
  refine g_lstore C (pc := 1) dX12_common_1 (by decide) (fun v1 => [(4, .long v1), (0, .long (lN a)), (2, .long (lN b))]) (fun _ => rfl) (fun v1 ev1 => ?_)
  refine g_lload_n C (pc := 3) dX12_common_3 2 rfl ?_
  refine g_lstore C (pc := 4) dX12_common_4 (by decide) (fun v4 => [(6, .long v4), (4, .long v1), (0, .long (lN a)), (2, .long (lN b))]) (fun _ => rfl) (fun v4 ev4 => ?_)
  have L6 : ∀ (k9 : Nat) (m l : Nat) (wz6 : Int64) (wz4 : Int64) (hw6 : wz6 = lN l) (hw4 : wz4 = lN m) (hg : Nat.gcd m l = Nat.gcd a b) (hm : m ≤ 91125) (hl : l ≤ 91125), l < k9 → G κ n ρ 6 [(6, .long wz6), (4, .long wz4)] [] I := by
    intro k9
    induction k9 with
    | zero => intro m l wz6 wz4 hw6 hw4 hg hm hl hm6; exact absurd hm6 (Nat.not_lt_zero _)
    | succ k9 ih6 =>
      intro m l wz6 wz4 hw6 hw4 hg hm hl hm6
      subst hw6 hw4
      refine g_lload C (pc := 6) dX12_common_6 0 rfl ?_
      refine g_lconst C (pc := 8) 0 dX12_common_8 (by decide) ?_
      refine g_lcmp C (pc := 9) dX12_common_9 ?_
      refine g_if_eq C (pc := 10) 31 dX12_common_10 (by decide) (fun c10 => ?_) (fun c10 => ?_)
      · have hl0 : l = 0 := by
          rcases Nat.eq_zero_or_pos l with h9 | h9
          · exact h9
          · have h8 := (cmp_gt (a := l) (b := 0) (by omega) (by decide)).mpr h9
            have h7 : lg_cmp (lN l) (lN 0) = 0 := c10
            rw [h7] at h8; exact absurd h8 (by decide)
        refine g_lload C (pc := 31) dX12_common_31 1 rfl ?_
        refine g_lret C hR (pc := 33) rfl dX12_common_33 ?_
        refine ⟨rfl, _, rfl, ?_⟩
        refine ⟨?_, rfl⟩
        rw [← hg, hl0, Nat.gcd_zero_right]
      · have hlp : 0 < l := by
          rcases Nat.eq_zero_or_pos l with h9 | h9
          · subst h9; exact absurd (by decide) c10
          · exact h9
        refine g_lload C (pc := 13) dX12_common_13 1 rfl ?_
        refine g_lload C (pc := 15) dX12_common_15 0 rfl ?_
        refine g_lrem C (pc := 17) dX12_common_17 (lN_ne0 hlp (by omega)) ?_
        rw [lN_rem (by omega) hlp (by omega)]
        refine g_lstore C (pc := 18) dX12_common_18 (by decide) (fun v18 => [(8, .long v18), (6, .long (lN l)), (4, .long (lN m))]) (fun _ => rfl) (fun v18 ev18 => ?_)
        refine g_lload C (pc := 20) dX12_common_20 1 rfl ?_
        refine g_lstore C (pc := 22) dX12_common_22 (by decide) (fun v22 => [(4, .long v22), (8, .long v18), (6, .long (lN l))]) (fun _ => rfl) (fun v22 ev22 => ?_)
        refine g_lload C (pc := 24) dX12_common_24 1 rfl ?_
        refine g_lstore C (pc := 26) dX12_common_26 (by decide) (fun v26 => [(6, .long v26), (4, .long v22), (8, .long v18)]) (fun _ => rfl) (fun v26 ev26 => ?_)
        refine g_goto C (pc := 28) 6 dX12_common_28 (by decide) ?_
        refine g_lv C [0, 1] rfl (ih6 l (m % l) _ _ ?_ ?_ ?_ ?_ ?_ (by have := Nat.mod_lt m hlp; omega))
        · subst_vars; rfl
        · subst_vars; rfl
        · exact gcd_step.trans hg
        · omega
        · have := Nat.mod_lt m hlp; omega
  refine g_lv C [0, 1] rfl (L6 (_ + 1) a b _ _ ?_ ?_ ?_ ?_ ?_ (by first | omega | exact Nat.lt_succ_self _))
  · subst_vars; rfl
  · subst_vars; rfl
  · rfl
  · exact ha
  · exact hb
set_option maxHeartbeats 400000 in
theorem c_X12_told (n : Nat) (ρ : Rho) (I : Mem) (F : RT) (a k : Nat) (x : Int64) (z u : Int32) (hn9 : n ≤ 999) (hms : MS n ρ) (hqe : QE I F) (hrw : RW F) (hao : 0 < allO F) (ha : a ≤ 91125) (hk3 : k ≤ 3) (hx : x = lN a) (hz : z = nI k) : ML yX12_told cX12_told 9 (some .long) 1 [.ref 97, .long x, .int z, .int u] n ρ I (fun v I1 => v = lN (frN a (pw (allO F) k) u) ∧ I = I1) := by
  refine MG.of (by decide +kernel) (Nat.le_of_ble_eq_true rfl) hn9 ?_
  intro κ C hR
  show G κ n ρ 0 [(0, .ref 97), (1, .long x), (3, .int z), (4, .int u)] [] I
  obtain ⟨mn, ⟨m0, m1, m5, m6, m7, m11, m12, m15⟩, ⟨m23, m24, m26, m27, m28, m30, m31, m32, m33⟩, ⟨m38, m39, m40, m42⟩⟩ := id hms
  have hAO := allO_le hrw
  have hp3 := pw3 hAO hk3
  have hpp := pw_pos hao k
  have hgp : 0 < Nat.gcd a (pw (allO F) k) := Nat.gcd_pos_of_pos_right _ hpp
  have hgl : Nat.gcd a (pw (allO F) k) ≤ pw (allO F) k := Nat.gcd_le_right _ hpp
  refine g_lconst C (pc := 0) 1 dX12_told_0 (by decide) ?_
  refine g_lstore C (pc := 1) dX12_told_1 (by decide) (fun v1 => [(5, .long v1), (0, .ref 97), (1, .long x), (3, .int z), (4, .int u)]) (fun _ => rfl) (fun v1 ev1 => ?_)
  refine g_iconst C (pc := 3) 0 dX12_told_3 (by decide) ?_
  refine g_istore C (pc := 4) dX12_told_4 (by decide) (fun v4 => [(7, .int v4), (5, .long v1), (0, .ref 97), (1, .long x), (3, .int z), (4, .int u)]) (fun _ => rfl) (fun v4 ev4 => ?_)
  have L6 : ∀ (k9 : Nat) (j : Nat) (wz7 : Int32) (wz5 : Int64) (hw7 : wz7 = nI j) (hj : j ≤ k) (h5 : wz5 = lN (pw (allO F) j)), k - j < k9 → G κ n ρ 6 [(7, .int wz7), (5, .long wz5), (0, .ref 97), (1, .long x), (3, .int z), (4, .int u)] [] I := by
    intro k9
    induction k9 with
    | zero => intro j wz7 wz5 hw7 hj h5 hm6; exact absurd hm6 (Nat.not_lt_zero _)
    | succ k9 ih6 =>
      intro j wz7 wz5 hw7 hj h5 hm6
      subst hw7
      refine g_iload C (pc := 6) dX12_told_6 0 rfl ?_
      refine g_iload_n C (pc := 8) dX12_told_8 4 rfl ?_
      refine g_icmp_ge C (pc := 9) 28 dX12_told_9 (by decide) (fun c9 => ?_) (fun c9 => ?_)
      · have hjk : j = k := by
          rw [hz, nI_leI (by omega) (by omega)] at c9
          omega
        refine g_lload C (pc := 28) dX12_told_28 1 rfl ?_
        refine g_lload_n C (pc := 30) dX12_told_30 3 rfl ?_
        refine g_callSL C (pc := 31) mf_X12_common lk_RX12_287 (c_X12_common n ρ I (pw (allO F) k) a _ _ hn9 (by rw [h5, hjk]) hx hp3 ha) (by decide) (Nat.le_refl _) rfl (Nat.le_of_ble_eq_true rfl) dX12_told_31 (fun v31 I31 h31 => ?_)
        obtain ⟨e31, rfl⟩ := h31
        refine g_lstore C (pc := 34) dX12_told_34 (by decide) (fun v34 => [(7, .long v34), (5, .long wz5), (0, .ref 97), (1, .long x), (3, .int z), (4, .int u)]) (fun _ => rfl) (fun v34 ev34 => ?_)
        have h34 : v34 = lN (Nat.gcd a (pw (allO F) k)) := by rw [ev34, e31, Nat.gcd_comm]
        refine g_iload C (pc := 36) dX12_told_36 5 rfl ?_
        refine g_if_ne C (pc := 38) 48 dX12_told_38 (by decide) (fun c38 => ?_) (fun c38 => ?_)
        · refine g_lload C (pc := 48) dX12_told_48 1 rfl ?_
          refine g_lload C (pc := 50) dX12_told_50 0 rfl ?_
          refine g_ldiv C (pc := 52) dX12_told_52 (by rw [h34]; exact lN_ne0 hgp (by omega)) ?_
          refine g_lret C hR (pc := 53) rfl dX12_told_53 ?_
          refine ⟨rfl, _, rfl, ?_⟩
          refine ⟨?_, rfl⟩
          unfold frN
          first
          | (rw [if_pos c38, h34, hx, lN_div (by omega) hgp (by omega)]; done)
          | (rw [if_neg c38, h34, h5, hjk, lN_div (by omega) hgp (by omega)]; done)
        · refine g_lload_n C (pc := 41) dX12_told_41 3 rfl ?_
          refine g_lload C (pc := 42) dX12_told_42 0 rfl ?_
          refine g_ldiv C (pc := 44) dX12_told_44 (by rw [h34]; exact lN_ne0 hgp (by omega)) ?_
          refine g_goto C (pc := 45) 53 dX12_told_45 (by decide) ?_
          refine g_lret C hR (pc := 53) rfl dX12_told_53 ?_
          refine ⟨rfl, _, rfl, ?_⟩
          refine ⟨?_, rfl⟩
          unfold frN
          first
          | (rw [if_pos c38, h34, hx, lN_div (by omega) hgp (by omega)]; done)
          | (rw [if_neg c38, h34, h5, hjk, lN_div (by omega) hgp (by omega)]; done)
      · have hjk : j < k := by
          rw [hz, nI_ltI (by omega) (by omega)] at c9
          exact c9
        refine g_lload C (pc := 12) dX12_told_12 1 rfl ?_
        refine g_aload_n C (pc := 14) dX12_told_14 2 rfl ?_
        refine g_callVI C (pc := 15) mf_X12_allOdds lk_RX12_244 (c_X12_allOdds n ρ I F hn9 hms hqe) (by decide) (Nat.le_refl _) rfl (by first | assumption | rfl | omega) rfl (by first | assumption | rfl | omega) (Nat.le_of_ble_eq_true rfl) dX12_told_15 (fun v15 I15 h15 => ?_)
        obtain ⟨e15, rfl⟩ := h15
        refine g_i2l C (pc := 18) dX12_told_18 ?_
        refine g_lmul C (pc := 19) dX12_told_19 ?_
        refine g_lstore C (pc := 20) dX12_told_20 (by decide) (fun v20 => [(5, .long v20), (7, .int (nI j)), (0, .ref 97), (1, .long x), (3, .int z), (4, .int u)]) (fun _ => rfl) (fun v20 ev20 => ?_)
        refine g_iinc C (pc := 22) (1) dX12_told_22 1 rfl (by decide) (by decide) (fun v22 => [(7, .int v22), (5, .long v20), (0, .ref 97), (1, .long x), (3, .int z), (4, .int u)]) (fun _ => rfl) (fun v22 ev22 => ?_)
        refine g_goto C (pc := 25) 6 dX12_told_25 (by decide) ?_
        refine g_lv C [0, 1, 2, 3, 4, 5] rfl (ih6 (j + 1) _ _ ?_ ?_ ?_ (by omega))
        · subst ev22; exact nI_1 _
        · omega
        · rw [ev20, h5, e15, nI_l (by omega), lN_mul]; rfl
  refine g_lv C [0, 1, 2, 3, 4, 5] rfl (L6 (_ + 1) 0 _ _ ?_ ?_ ?_ (by first | omega | exact Nat.lt_succ_self _))
  · subst ev4; rfl
  · omega
  · subst ev1; rfl
set_option maxHeartbeats 400000 in
theorem c_X12_chance (n : Nat) (ρ : Rho) (I : Mem) (F : RT) (b : BT) (x z u : Int32) (hn9 : n ≤ 999) (hms : MS n ρ) (hqn : QN I F b) (hrw : RW F) (hbw : BW F b) (hl1 : L1 F b) (hpw : PW F b) (hao : 0 < allO F) : ML yX12_chance cX12_chance 4 (some .long) 10 [.ref 97, .int x, .int z, .int u] n ρ I (fun v I1 => ((∃ s k, (s < 2 ∧ k ≤ 3 ∧ x = nI s ∧ z = nI k ∧ (u = 0 ∨ u = 1)) ∧ v = lN (frN (val F s k b) (pw (allO F) k) u)) ∨ (¬ (∃ s k, (s < 2 ∧ k ≤ 3 ∧ x = nI s ∧ z = nI k ∧ (u = 0 ∨ u = 1))) ∧ v = -1)) ∧ Kp I I1) := by
  refine MG.of (by decide +kernel) (Nat.le_of_ble_eq_true rfl) hn9 ?_
  intro κ C hR
  show G κ n ρ 0 [(0, .ref 97), (1, .int x), (2, .int z), (3, .int u)] [] I
  obtain ⟨mn, ⟨m0, m1, m5, m6, m7, m11, m12, m15⟩, ⟨m23, m24, m26, m27, m28, m30, m31, m32, m33⟩, ⟨m38, m39, m40, m42⟩⟩ := id hms
  obtain ⟨hqf, hqe, hqs, hqt⟩ := id hqn
  obtain ⟨qw, qh, qn, qk⟩ := id hqf
  have hn6 : rN F ≤ 6 := hrw.2.2.2.2.1
  have hm25 := Nat.mul_le_mul hrw.2.1 hrw.2.2.2.1
  have hm4 := Nat.mul_le_mul hrw.1 hrw.2.2.1
  have hAO := allO_le hrw
  refine g_iload_n C (pc := 0) dX12_chance_0 1 rfl ?_
  refine g_i2l C (pc := 1) dX12_chance_1 ?_
  refine g_lconst C (pc := 2) 0 dX12_chance_2 (by decide) ?_
  refine g_lconst C (pc := 3) 1 dX12_chance_3 (by decide) ?_
  refine g_callSI C (pc := 4) mf_X12_in lk_RX12_113 (c_X12_in n ρ I _ _ _ hn9) (by decide) (Nat.le_refl _) rfl (Nat.le_of_ble_eq_true rfl) dX12_chance_4 (fun v4 I4 h4 => ?_)
  obtain ⟨e4, rfl⟩ := h4
  refine g_if_eq C (pc := 7) 32 dX12_chance_7 (by decide) (fun c7 => ?_) (fun c7 => ?_)
  · have hx := fun h => bI_0.mp (e4.symm.trans c7) ((inL (x := x) (lo := 0) (hi := 1) (by decide) (by decide)).mpr h)
    refine g_ldc2 C (pc := 32) _ gk_RX12_293 dX12_chance_32 ?_
    refine g_lret C hR (pc := 35) rfl dX12_chance_35 ?_
    refine ⟨rfl, _, rfl, ?_⟩
    refine ⟨Or.inr ⟨?_, rfl⟩, Kp.rfl'⟩
    rintro ⟨s9, k9, h1, h2, h3, h4, h5⟩
    first | exact hx ⟨s9, by omega, by omega, h3⟩ | exact hz ⟨k9, by omega, h2, h4⟩ | exact hu h5
  · obtain ⟨s, hsl, hsh, hxs⟩ := (inL (x := x) (lo := 0) (hi := 1) (by decide) (by decide)).mp (bI_1.mp (fun h => c7 (e4.trans h)))
    refine g_iload_n C (pc := 10) dX12_chance_10 2 rfl ?_
    refine g_i2l C (pc := 11) dX12_chance_11 ?_
    refine g_lconst C (pc := 12) 0 dX12_chance_12 (by decide) ?_
    refine g_ldc2 C (pc := 13) _ gk_RX12_291 dX12_chance_13 ?_
    refine g_callSI C (pc := 16) mf_X12_in lk_RX12_113 (c_X12_in n ρ I _ _ _ hn9) (by decide) (Nat.le_refl _) rfl (Nat.le_of_ble_eq_true rfl) dX12_chance_16 (fun v16 I16 h16 => ?_)
    obtain ⟨e16, rfl⟩ := h16
    refine g_if_eq C (pc := 19) 32 dX12_chance_19 (by decide) (fun c19 => ?_) (fun c19 => ?_)
    · have hz := fun h => bI_0.mp (e16.symm.trans c19) ((inL (x := z) (lo := 0) (hi := 3) (by decide) (by decide)).mpr h)
      refine g_ldc2 C (pc := 32) _ gk_RX12_293 dX12_chance_32 ?_
      refine g_lret C hR (pc := 35) rfl dX12_chance_35 ?_
      refine ⟨rfl, _, rfl, ?_⟩
      refine ⟨Or.inr ⟨?_, rfl⟩, Kp.rfl'⟩
      rintro ⟨s9, k9, h1, h2, h3, h4, h5⟩
      first | exact hx ⟨s9, by omega, by omega, h3⟩ | exact hz ⟨k9, by omega, h2, h4⟩ | exact hu h5
    · obtain ⟨k, hkl, hkh, hzk⟩ := (inL (x := z) (lo := 0) (hi := 3) (by decide) (by decide)).mp (bI_1.mp (fun h => c19 (e16.trans h)))
      refine g_iload_n C (pc := 22) dX12_chance_22 3 rfl ?_
      refine g_i2l C (pc := 23) dX12_chance_23 ?_
      refine g_lconst C (pc := 24) 0 dX12_chance_24 (by decide) ?_
      refine g_lconst C (pc := 25) 1 dX12_chance_25 (by decide) ?_
      refine g_callSI C (pc := 26) mf_X12_in lk_RX12_113 (c_X12_in n ρ I _ _ _ hn9) (by decide) (Nat.le_refl _) rfl (Nat.le_of_ble_eq_true rfl) dX12_chance_26 (fun v26 I26 h26 => ?_)
      obtain ⟨e26, rfl⟩ := h26
      refine g_if_ne C (pc := 29) 36 dX12_chance_29 (by decide) (fun c29 => ?_) (fun c29 => ?_)
      · have hu := inU.mp (bI_1.mp (fun h => c29 (e26.trans h)))
        refine g_aload_n C (pc := 36) dX12_chance_36 0 rfl ?_
        refine g_callVV C (pc := 37) mf_X12_starts lk_RX12_227 (c_X12_startsB n ρ I F b hn9 hms hqn hrw hbw) (by decide) (Nat.le_refl _) rfl (by first | assumption | rfl | omega) rfl (by first | assumption | rfl | omega) (Nat.le_of_ble_eq_true rfl) dX12_chance_37 (fun I37 h37 => ?_)
        obtain ⟨f37, k37⟩ := h37
        refine g_aload_n C (pc := 40) dX12_chance_40 0 rfl ?_
        refine g_aload_n C (pc := 41) dX12_chance_41 0 rfl ?_
        refine g_iload_n C (pc := 42) dX12_chance_42 1 rfl ?_
        refine g_iload_n C (pc := 43) dX12_chance_43 2 rfl ?_
        refine g_callVL C (pc := 44) mf_X12_valueOf lk_RX12_295 (c_X12_valueOf n ρ I37 F b s k x z hn9 hms (hqf.kp k37) hrw (hqe.kp k37) f37 hbw hl1 hpw (by omega) hxs hkh hzk) (by decide) (Nat.le_refl _) rfl (by first | assumption | rfl | omega) rfl (by first | assumption | rfl | omega) (Nat.le_of_ble_eq_true rfl) dX12_chance_44 (fun v44 I44 h44 => ?_)
        obtain ⟨e44, k44⟩ := h44
        refine g_iload_n C (pc := 47) dX12_chance_47 2 rfl ?_
        refine g_iload_n C (pc := 48) dX12_chance_48 3 rfl ?_
        refine g_callVL C (pc := 49) mf_X12_told lk_RX12_298 (c_X12_told n ρ I44 F (val F s k b) k _ z u hn9 hms ((hqe.kp k37).kp k44.1) hrw hao (by have h9 := val_le (F := F) (sd := s) k b; have h8 := pw3 (a := allO F) (k := k) hAO (by omega); omega) hkh e44 hzk) (by decide) (Nat.le_refl _) rfl (by first | assumption | rfl | omega) rfl (by first | assumption | rfl | omega) (Nat.le_of_ble_eq_true rfl) dX12_chance_49 (fun v49 I49 h49 => ?_)
        obtain ⟨e49, rfl⟩ := h49
        refine g_lret C hR (pc := 52) rfl dX12_chance_52 ?_
        refine ⟨rfl, _, rfl, ?_⟩
        exact ⟨Or.inl ⟨s, k, ⟨by omega, hkh, hxs, hzk, hu⟩, e49⟩, k37.trans k44.1⟩
      · have hu := fun h => bI_0.mp (e26.symm.trans c29) (inU.mpr h)
        refine g_ldc2 C (pc := 32) _ gk_RX12_293 dX12_chance_32 ?_
        refine g_lret C hR (pc := 35) rfl dX12_chance_35 ?_
        refine ⟨rfl, _, rfl, ?_⟩
        refine ⟨Or.inr ⟨?_, rfl⟩, Kp.rfl'⟩
        rintro ⟨s9, k9, h1, h2, h3, h4, h5⟩
        first | exact hx ⟨s9, by omega, by omega, h3⟩ | exact hz ⟨k9, by omega, h2, h4⟩ | exact hu h5
set_option maxHeartbeats 400000 in
theorem c_X12_byWind (n : Nat) (ρ : Rho) (I : Mem) (F : RT) (b : BT) (x z u : Int32) (hn9 : n ≤ 999) (hms : MS n ρ) (hqn : QN I F b) (hrw : RW F) (hbw : BW F b) (hl1 : L1 F b) (hpw : PW F b) (hao : 0 < allO F) : ML yX12_byWind cX12_byWind 4 (some .long) 10 [.ref 97, .int x, .int z, .int u] n ρ I (fun v I1 => ((∃ w k, (w < 5 ∧ 1 ≤ k ∧ k ≤ 3 ∧ x = nI w ∧ z = nI k ∧ (u = 0 ∨ u = 1)) ∧ ((lostB F b = none ∧ v = lN (frN (valW F (bM b) (k - 1) b w) (pw (allO F) (k - 1)) u)) ∨ (¬ lostB F b = none ∧ v = -2))) ∨ (¬ (∃ w k, (w < 5 ∧ 1 ≤ k ∧ k ≤ 3 ∧ x = nI w ∧ z = nI k ∧ (u = 0 ∨ u = 1))) ∧ v = -1)) ∧ Kp I I1) := by
  refine MG.of (by decide +kernel) (Nat.le_of_ble_eq_true rfl) hn9 ?_
  intro κ C hR
  show G κ n ρ 0 [(0, .ref 97), (1, .int x), (2, .int z), (3, .int u)] [] I
  obtain ⟨mn, ⟨m0, m1, m5, m6, m7, m11, m12, m15⟩, ⟨m23, m24, m26, m27, m28, m30, m31, m32, m33⟩, ⟨m38, m39, m40, m42⟩⟩ := id hms
  obtain ⟨hqf, hqe, hqs, hqt⟩ := id hqn
  obtain ⟨qw, qh, qn, qk⟩ := id hqf
  have hn6 : rN F ≤ 6 := hrw.2.2.2.2.1
  have hm25 := Nat.mul_le_mul hrw.2.1 hrw.2.2.2.1
  have hm4 := Nat.mul_le_mul hrw.1 hrw.2.2.1
  have hAO := allO_le hrw
  refine g_iload_n C (pc := 0) dX12_byWind_0 1 rfl ?_
  refine g_callSI C (pc := 1) mf_X12_isWind lk_RX12_236 (c_X12_isWind n ρ I x hn9) (by decide) (Nat.le_refl _) rfl (Nat.le_of_ble_eq_true rfl) dX12_byWind_1 (fun v1 I1 h1 => ?_)
  obtain ⟨e1, rfl⟩ := h1
  refine g_if_eq C (pc := 4) 29 dX12_byWind_4 (by decide) (fun c4 => ?_) (fun c4 => ?_)
  · have hx := bI_0.mp (e1.symm.trans c4)
    refine g_ldc2 C (pc := 29) _ gk_RX12_293 dX12_byWind_29 ?_
    refine g_lret C hR (pc := 32) rfl dX12_byWind_32 ?_
    refine ⟨rfl, _, rfl, ?_⟩
    refine ⟨Or.inr ⟨?_, rfl⟩, Kp.rfl'⟩
    rintro ⟨w9, k9, h0, h1, h2, h3, h4, h5⟩
    first | exact hx (by rw [h3]; exact ⟨nI_pos' (by omega), nI_lt (b := 5) h0 (by decide)⟩) | exact hz ⟨k9, h1, h2, h4⟩ | exact hu h5
  · have hx := bI_1.mp (fun h => c4 (e1.trans h))
    obtain ⟨w, hw, hxw⟩ := ix_of (n := 5) (by decide) hx
    refine g_iload_n C (pc := 7) dX12_byWind_7 2 rfl ?_
    refine g_i2l C (pc := 8) dX12_byWind_8 ?_
    refine g_lconst C (pc := 9) 1 dX12_byWind_9 (by decide) ?_
    refine g_ldc2 C (pc := 10) _ gk_RX12_291 dX12_byWind_10 ?_
    refine g_callSI C (pc := 13) mf_X12_in lk_RX12_113 (c_X12_in n ρ I _ _ _ hn9) (by decide) (Nat.le_refl _) rfl (Nat.le_of_ble_eq_true rfl) dX12_byWind_13 (fun v13 I13 h13 => ?_)
    obtain ⟨e13, rfl⟩ := h13
    refine g_if_eq C (pc := 16) 29 dX12_byWind_16 (by decide) (fun c16 => ?_) (fun c16 => ?_)
    · have hz := fun h => bI_0.mp (e13.symm.trans c16) ((inL (x := z) (lo := 1) (hi := 3) (by decide) (by decide)).mpr h)
      refine g_ldc2 C (pc := 29) _ gk_RX12_293 dX12_byWind_29 ?_
      refine g_lret C hR (pc := 32) rfl dX12_byWind_32 ?_
      refine ⟨rfl, _, rfl, ?_⟩
      refine ⟨Or.inr ⟨?_, rfl⟩, Kp.rfl'⟩
      rintro ⟨w9, k9, h0, h1, h2, h3, h4, h5⟩
      first | exact hx (by rw [h3]; exact ⟨nI_pos' (by omega), nI_lt (b := 5) h0 (by decide)⟩) | exact hz ⟨k9, h1, h2, h4⟩ | exact hu h5
    · obtain ⟨k, hkl, hkh, hzk⟩ := (inL (x := z) (lo := 1) (hi := 3) (by decide) (by decide)).mp (bI_1.mp (fun h => c16 (e13.trans h)))
      refine g_iload_n C (pc := 19) dX12_byWind_19 3 rfl ?_
      refine g_i2l C (pc := 20) dX12_byWind_20 ?_
      refine g_lconst C (pc := 21) 0 dX12_byWind_21 (by decide) ?_
      refine g_lconst C (pc := 22) 1 dX12_byWind_22 (by decide) ?_
      refine g_callSI C (pc := 23) mf_X12_in lk_RX12_113 (c_X12_in n ρ I _ _ _ hn9) (by decide) (Nat.le_refl _) rfl (Nat.le_of_ble_eq_true rfl) dX12_byWind_23 (fun v23 I23 h23 => ?_)
      obtain ⟨e23, rfl⟩ := h23
      refine g_if_ne C (pc := 26) 33 dX12_byWind_26 (by decide) (fun c26 => ?_) (fun c26 => ?_)
      · have hu := inU.mp (bI_1.mp (fun h => c26 (e23.trans h)))
        refine g_aload_n C (pc := 33) dX12_byWind_33 0 rfl ?_
        refine g_callVV C (pc := 34) mf_X12_starts lk_RX12_227 (c_X12_startsB n ρ I F b hn9 hms hqn hrw hbw) (by decide) (Nat.le_refl _) rfl (by first | assumption | rfl | omega) rfl (by first | assumption | rfl | omega) (Nat.le_of_ble_eq_true rfl) dX12_byWind_34 (fun I34 h34 => ?_)
        obtain ⟨f34, k34⟩ := h34
        refine g_aload_n C (pc := 37) dX12_byWind_37 0 rfl ?_
        refine g_callVI C (pc := 38) mf_X12_lost lk_RX12_221 (c_X12_lost n ρ I34 F b hn9 hms (hqf.kp k34) hrw f34 hbw hl1) (by decide) (Nat.le_refl _) rfl (by first | assumption | rfl | omega) rfl (by first | assumption | rfl | omega) (Nat.le_of_ble_eq_true rfl) dX12_byWind_38 (fun v38 I38 h38 => ?_)
        obtain ⟨e38, rfl⟩ := h38
        refine g_bipush C (pc := 41) (-4) dX12_byWind_41 (by decide) ?_
        refine g_icmp_eq C (pc := 43) 50 dX12_byWind_43 (by decide) (fun c43 => ?_) (fun c43 => ?_)
        · have hov : lostB F b = none := (oI_none (lostB_lt2 hrw)).mp (e38.symm.trans c43)
          refine g_aload_n C (pc := 50) dX12_byWind_50 0 rfl ?_
          refine g_aload_n C (pc := 51) dX12_byWind_51 0 rfl ?_
          refine g_aload_n C (pc := 52) dX12_byWind_52 0 rfl ?_
          refine g_getI C (pc := 53) fl_RX12_204 (by decide) (by first | assumption | rfl | omega) (by first | assumption | rfl | omega) dX12_byWind_53 ?_
          refine g_iload_n C (pc := 56) dX12_byWind_56 2 rfl ?_
          refine g_iload_n C (pc := 57) dX12_byWind_57 1 rfl ?_
          refine g_callVL C (pc := 58) mf_X12_windOf lk_RX12_304 (c_X12_windOf n ρ I34 F b (bM b) w k _ z x hn9 hms (hqf.kp k34) hrw (hqe.kp k34) f34 hbw hl1 hpw hbw.1 f34.2 hw hxw hkl hkh hzk) (by decide) (Nat.le_refl _) rfl (by first | assumption | rfl | omega) rfl (by first | assumption | rfl | omega) (Nat.le_of_ble_eq_true rfl) dX12_byWind_58 (fun v58 I58 h58 => ?_)
          obtain ⟨e58, m58, q58, k58⟩ := h58
          refine g_iload_n C (pc := 61) dX12_byWind_61 2 rfl ?_
          refine g_iconst C (pc := 62) 1 dX12_byWind_62 (by decide) ?_
          refine g_isub C (pc := 63) dX12_byWind_63 ?_
          refine g_iload_n C (pc := 64) dX12_byWind_64 3 rfl ?_
          refine g_callVL C (pc := 65) mf_X12_told lk_RX12_298 (c_X12_told n ρ I58 F (valW F (bM b) (k - 1) b w) (k - 1) _ _ u hn9 hms ((hqe.kp k34).kp k58.1) hrw hao (by have h9 := valW_le (F := F) (sd := bM b) (k := k - 1) (b := b) (w := w); have h8 := pw3 (a := allO F) (k := k - 1) hAO (by omega); omega) (by omega) e58 (by rw [hzk]; exact pk_sub (b := 1) hkl)) (by decide) (Nat.le_refl _) rfl (by first | assumption | rfl | omega) rfl (by first | assumption | rfl | omega) (Nat.le_of_ble_eq_true rfl) dX12_byWind_65 (fun v65 I65 h65 => ?_)
          obtain ⟨e65, rfl⟩ := h65
          refine g_lret C hR (pc := 68) rfl dX12_byWind_68 ?_
          refine ⟨rfl, _, rfl, ?_⟩
          exact ⟨Or.inl ⟨w, k, ⟨hw, hkl, hkh, hxw, hzk, hu⟩, Or.inl ⟨hov, e65⟩⟩, k34.trans k58.1⟩
        · have hov : ¬ lostB F b = none := fun h9 => c43 (by rw [e38, h9]; rfl)
          refine g_ldc2 C (pc := 46) _ gk_RX12_302 dX12_byWind_46 ?_
          refine g_lret C hR (pc := 49) rfl dX12_byWind_49 ?_
          refine ⟨rfl, _, rfl, ?_⟩
          exact ⟨Or.inl ⟨w, k, ⟨hw, hkl, hkh, hxw, hzk, hu⟩, Or.inr ⟨hov, rfl⟩⟩, k34⟩
      · have hu := fun h => bI_0.mp (e23.symm.trans c26) (inU.mpr h)
        refine g_ldc2 C (pc := 29) _ gk_RX12_293 dX12_byWind_29 ?_
        refine g_lret C hR (pc := 32) rfl dX12_byWind_32 ?_
        refine ⟨rfl, _, rfl, ?_⟩
        refine ⟨Or.inr ⟨?_, rfl⟩, Kp.rfl'⟩
        rintro ⟨w9, k9, h0, h1, h2, h3, h4, h5⟩
        first | exact hx (by rw [h3]; exact ⟨nI_pos' (by omega), nI_lt (b := 5) h0 (by decide)⟩) | exact hz ⟨k9, h1, h2, h4⟩ | exact hu h5
set_option maxHeartbeats 400000 in
theorem c_X12_best (n : Nat) (ρ : Rho) (I : Mem) (F : RT) (b : BT) (x z : Int32) (hn9 : n ≤ 999) (hms : MS n ρ) (hqn : QN I F b) (hrw : RW F) (hbw : BW F b) (hl1 : L1 F b) (hpw : PW F b) : MI yX12_best cX12_best 3 (some .int) 10 [.ref 97, .int x, .int z] n ρ I (fun v I1 => ((∃ w k, (w < 5 ∧ 1 ≤ k ∧ k ≤ 3 ∧ x = nI w ∧ z = nI k) ∧ ((lostB F b = none ∧ v = oI (chW F (bM b) (k - 1) b w)) ∨ (¬ lostB F b = none ∧ v = -2))) ∨ (¬ (∃ w k, (w < 5 ∧ 1 ≤ k ∧ k ≤ 3 ∧ x = nI w ∧ z = nI k)) ∧ v = -1)) ∧ Kp I I1) := by
  refine MG.of (by decide +kernel) (Nat.le_of_ble_eq_true rfl) hn9 ?_
  intro κ C hR
  show G κ n ρ 0 [(0, .ref 97), (1, .int x), (2, .int z)] [] I
  obtain ⟨mn, ⟨m0, m1, m5, m6, m7, m11, m12, m15⟩, ⟨m23, m24, m26, m27, m28, m30, m31, m32, m33⟩, ⟨m38, m39, m40, m42⟩⟩ := id hms
  obtain ⟨hqf, hqe, hqs, hqt⟩ := id hqn
  obtain ⟨qw, qh, qn, qk⟩ := id hqf
  have hn6 : rN F ≤ 6 := hrw.2.2.2.2.1
  have hm25 := Nat.mul_le_mul hrw.2.1 hrw.2.2.2.1
  have hm4 := Nat.mul_le_mul hrw.1 hrw.2.2.1
  refine g_iload_n C (pc := 0) dX12_best_0 1 rfl ?_
  refine g_callSI C (pc := 1) mf_X12_isWind lk_RX12_236 (c_X12_isWind n ρ I x hn9) (by decide) (Nat.le_refl _) rfl (Nat.le_of_ble_eq_true rfl) dX12_best_1 (fun v1 I1 h1 => ?_)
  obtain ⟨e1, rfl⟩ := h1
  refine g_if_eq C (pc := 4) 19 dX12_best_4 (by decide) (fun c4 => ?_) (fun c4 => ?_)
  · have hx := bI_0.mp (e1.symm.trans c4)
    refine g_iconst C (pc := 19) (-1) dX12_best_19 (by decide) ?_
    refine g_iret C hR (pc := 20) rfl dX12_best_20 ?_
    refine ⟨rfl, _, rfl, ?_⟩
    refine ⟨Or.inr ⟨?_, rfl⟩, Kp.rfl'⟩
    rintro ⟨w9, k9, h0, h1, h2, h3, h4⟩
    first | exact hx (by rw [h3]; exact ⟨nI_pos' (by omega), nI_lt (b := 5) h0 (by decide)⟩) | exact hz ⟨k9, h1, h2, h4⟩
  · have hx := bI_1.mp (fun h => c4 (e1.trans h))
    obtain ⟨w, hw, hxw⟩ := ix_of (n := 5) (by decide) hx
    refine g_iload_n C (pc := 7) dX12_best_7 2 rfl ?_
    refine g_i2l C (pc := 8) dX12_best_8 ?_
    refine g_lconst C (pc := 9) 1 dX12_best_9 (by decide) ?_
    refine g_ldc2 C (pc := 10) _ gk_RX12_291 dX12_best_10 ?_
    refine g_callSI C (pc := 13) mf_X12_in lk_RX12_113 (c_X12_in n ρ I _ _ _ hn9) (by decide) (Nat.le_refl _) rfl (Nat.le_of_ble_eq_true rfl) dX12_best_13 (fun v13 I13 h13 => ?_)
    obtain ⟨e13, rfl⟩ := h13
    refine g_if_ne C (pc := 16) 21 dX12_best_16 (by decide) (fun c16 => ?_) (fun c16 => ?_)
    · obtain ⟨k, hkl, hkh, hzk⟩ := (inL (x := z) (lo := 1) (hi := 3) (by decide) (by decide)).mp (bI_1.mp (fun h => c16 (e13.trans h)))
      refine g_aload_n C (pc := 21) dX12_best_21 0 rfl ?_
      refine g_callVV C (pc := 22) mf_X12_starts lk_RX12_227 (c_X12_startsB n ρ I F b hn9 hms hqn hrw hbw) (by decide) (Nat.le_refl _) rfl (by first | assumption | rfl | omega) rfl (by first | assumption | rfl | omega) (Nat.le_of_ble_eq_true rfl) dX12_best_22 (fun I22 h22 => ?_)
      obtain ⟨f22, k22⟩ := h22
      refine g_aload_n C (pc := 25) dX12_best_25 0 rfl ?_
      refine g_callVI C (pc := 26) mf_X12_lost lk_RX12_221 (c_X12_lost n ρ I22 F b hn9 hms (hqf.kp k22) hrw f22 hbw hl1) (by decide) (Nat.le_refl _) rfl (by first | assumption | rfl | omega) rfl (by first | assumption | rfl | omega) (Nat.le_of_ble_eq_true rfl) dX12_best_26 (fun v26 I26 h26 => ?_)
      obtain ⟨e26, rfl⟩ := h26
      refine g_bipush C (pc := 29) (-4) dX12_best_29 (by decide) ?_
      refine g_icmp_eq C (pc := 31) 37 dX12_best_31 (by decide) (fun c31 => ?_) (fun c31 => ?_)
      · have hov : lostB F b = none := (oI_none (lostB_lt2 hrw)).mp (e26.symm.trans c31)
        refine g_aload_n C (pc := 37) dX12_best_37 0 rfl ?_
        refine g_aload_n C (pc := 38) dX12_best_38 0 rfl ?_
        refine g_getI C (pc := 39) fl_RX12_204 (by decide) (by first | assumption | rfl | omega) (by first | assumption | rfl | omega) dX12_best_39 ?_
        refine g_iload_n C (pc := 42) dX12_best_42 2 rfl ?_
        refine g_iload_n C (pc := 43) dX12_best_43 1 rfl ?_
        refine g_callVL C (pc := 44) mf_X12_windOf lk_RX12_304 (c_X12_windOf n ρ I22 F b (bM b) w k _ z x hn9 hms (hqf.kp k22) hrw (hqe.kp k22) f22 hbw hl1 hpw hbw.1 f22.2 hw hxw hkl hkh hzk) (by decide) (Nat.le_refl _) rfl (by first | assumption | rfl | omega) rfl (by first | assumption | rfl | omega) (Nat.le_of_ble_eq_true rfl) dX12_best_44 (fun v44 I44 h44 => ?_)
        obtain ⟨e44, m44, q44, k44⟩ := h44
        refine g_pop2 C (pc := 47) dX12_best_47 rfl ?_
        refine g_aload_n C (pc := 48) dX12_best_48 0 rfl ?_
        refine g_getI C (pc := 49) fl_RX12_268 (by decide) (by first | assumption | rfl | omega) (by first | assumption | rfl | omega) dX12_best_49 ?_
        refine g_iret C hR (pc := 52) rfl dX12_best_52 ?_
        refine ⟨rfl, _, rfl, ?_⟩
        exact ⟨Or.inl ⟨w, k, ⟨hw, hkl, hkh, hxw, hzk⟩, Or.inl ⟨hov, m44⟩⟩, k22.trans k44.1⟩
      · have hov : ¬ lostB F b = none := fun h9 => c31 (by rw [e26, h9]; rfl)
        refine g_bipush C (pc := 34) (-2) dX12_best_34 (by decide) ?_
        refine g_iret C hR (pc := 36) rfl dX12_best_36 ?_
        refine ⟨rfl, _, rfl, ?_⟩
        exact ⟨Or.inl ⟨w, k, ⟨hw, hkl, hkh, hxw, hzk⟩, Or.inr ⟨hov, rfl⟩⟩, k22⟩
    · have hz := fun h => bI_0.mp (e13.symm.trans c16) ((inL (x := z) (lo := 1) (hi := 3) (by decide) (by decide)).mpr h)
      refine g_iconst C (pc := 19) (-1) dX12_best_19 (by decide) ?_
      refine g_iret C hR (pc := 20) rfl dX12_best_20 ?_
      refine ⟨rfl, _, rfl, ?_⟩
      refine ⟨Or.inr ⟨?_, rfl⟩, Kp.rfl'⟩
      rintro ⟨w9, k9, h0, h1, h2, h3, h4⟩
      first | exact hx (by rw [h3]; exact ⟨nI_pos' (by omega), nI_lt (b := 5) h0 (by decide)⟩) | exact hz ⟨k9, h1, h2, h4⟩
