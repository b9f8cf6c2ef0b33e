/-- the draft without what is told of it and its highest square -/
def DrN (I : Mem) (F : RT) (b : BT) : Prop := RW F ∧ BW F b ∧ (I 97 8 = nI (rW F) ∧ I 97 9 = nI (rH F) ∧ I 97 10 = nI (rN F)) ∧ (∀ p, p < rN F → (I 103 p = nI (rSd F p) ∧ I 104 p = nI (rKd F p)) ∧ I 102 p = oI (bP b p) ∧ I 102 (6 + p) = nI (bO b p)) ∧ (∀ i, i < 32 → bt (I 102 12) i = rS F i) ∧ (∀ w, w < 5 → I 102 (13 + w) = nI (rOd F w)) ∧ (I 102 18 = nI (bM b) ∧ I 102 19 = 0 ∧ I 102 20 = 0 ∧ I 102 37 = 0)
theorem DrM.n {I : Mem} {D : DT} (h : DrM I D) : DrN I (dF D) (dB D) := ⟨h.1, h.2.1, h.2.2.1, h.2.2.2.1, h.2.2.2.2.1, h.2.2.2.2.2.1, h.2.2.2.2.2.2.1⟩
set_option maxHeartbeats 400000 in
theorem c_X12_keepDraft (n : Nat) (ρ : Rho) (I : Mem) (F : RT) (b : BT) (hn9 : n ≤ 999) (hms : MS n ρ) (hdr : DrN I F b) : MV yX12_keepDraft cX12_keepDraft 2 none 0 [.ref 97] n ρ I (fun I1 => QN I1 F b ∧ I1 98 19 = 0 ∧ I1 98 20 = 0 ∧ I1 98 37 = 0 ∧ (∀ k, k < 2 → I1 99 k = 0) ∧ (∀ z, z ≠ 2 → z ≠ 3 → z ≠ 4 → I1 97 z = I 97 z) ∧ ∀ i, i < 97 ∨ 101 < i → I1 i = I i) := by
  refine MG.of (by decide +kernel) (Nat.le_of_ble_eq_true rfl) hn9 ?_
  intro κ C hR
  show G κ n ρ 0 [(0, .ref 97)] [] I
  obtain ⟨mn, ⟨m0, m1, m5, m6, m7, m11, m12, m15⟩, ⟨m23, m24, m26, m27, m28, m30, m31, m32, m33⟩, ⟨m38, m39, m40, m42⟩⟩ := id hms
  obtain ⟨hrw, hbw, ⟨hW, hH, hN⟩, hpc, hst, hod, ⟨ht, h19, h20, h37⟩⟩ := id hdr
  have hn6 : rN F ≤ 6 := hrw.2.2.2.2.1
  refine g_iconst C (pc := 0) 0 dX12_keepDraft_0 (by decide) ?_
  refine g_istore_n C (pc := 1) dX12_keepDraft_1 (by decide) (fun v1 => [(1, .int v1), (0, .ref 97)]) (fun _ => rfl) (fun v1 ev1 => ?_)
  have L2 : ∀ (k9 : Nat) (j : Nat) (wz1 : Int32) (J : Mem) (hw1 : wz1 = nI j) (hj : j ≤ 41) (hA : ∀ k, k < j → J 98 k = I 102 k) (hF : ∀ i, i ≠ 98 → J i = I i), 41 - j < k9 → G κ n ρ 2 [(1, .int wz1), (0, .ref 97)] [] J := by
    intro k9
    induction k9 with
    | zero => intro j wz1 J hw1 hj hA hF hm2; exact absurd hm2 (Nat.not_lt_zero _)
    | succ k9 ih2 =>
      intro j wz1 J hw1 hj hA hF hm2
      subst hw1
      refine g_iload_n C (pc := 2) dX12_keepDraft_2 0 rfl ?_
      refine g_bipush C (pc := 3) 41 dX12_keepDraft_3 (by decide) ?_
      refine g_icmp_ge C (pc := 5) 26 dX12_keepDraft_5 (by decide) (fun c5 => ?_) (fun c5 => ?_)
      · replace c5 := (nI_leI (a := 41) (b := j) (by decide) (by omega)).mp c5
        have hj41 : j = 41 := by omega
        subst hj41
        refine g_aload_n C (pc := 26) dX12_keepDraft_26 1 rfl ?_
        refine g_aload_n C (pc := 27) dX12_keepDraft_27 1 rfl ?_
        refine g_getI C (pc := 28) fl_RX12_83 (by decide) (by first | assumption | rfl | omega) (by first | assumption | rfl | omega) dX12_keepDraft_28 ?_
        refine g_putI C (pc := 31) fl_RX12_99 (by decide) fp_11_2 (Or.inl rfl) ⟨rfl, rfl⟩ (by first | assumption | rfl | omega) (by first | assumption | rfl | omega) hn9 dX12_keepDraft_31 ?_
        refine g_aload_n C (pc := 34) dX12_keepDraft_34 1 rfl ?_
        refine g_aload_n C (pc := 35) dX12_keepDraft_35 1 rfl ?_
        refine g_getI C (pc := 36) fl_RX12_87 (by decide) (by first | assumption | rfl | omega) (by first | assumption | rfl | omega) dX12_keepDraft_36 ?_
        refine g_putI C (pc := 39) fl_RX12_102 (by decide) fp_11_3 (Or.inl rfl) ⟨rfl, rfl⟩ (by first | assumption | rfl | omega) (by first | assumption | rfl | omega) hn9 dX12_keepDraft_39 ?_
        refine g_aload_n C (pc := 42) dX12_keepDraft_42 1 rfl ?_
        refine g_aload_n C (pc := 43) dX12_keepDraft_43 1 rfl ?_
        refine g_getI C (pc := 44) fl_RX12_90 (by decide) (by first | assumption | rfl | omega) (by first | assumption | rfl | omega) dX12_keepDraft_44 ?_
        refine g_putI C (pc := 47) fl_RX12_105 (by decide) fp_11_4 (Or.inl rfl) ⟨rfl, rfl⟩ (by first | assumption | rfl | omega) (by first | assumption | rfl | omega) hn9 dX12_keepDraft_47 ?_
        refine g_iconst C (pc := 50) 0 dX12_keepDraft_50 (by decide) ?_
        refine g_istore_n C (pc := 51) dX12_keepDraft_51 (by decide) (fun v51 => [(1, .int v51), (0, .ref 97)]) (fun _ => rfl) (fun v51 ev51 => ?_)
        have L52 : ∀ (k9 : Nat) (u : Nat) (wz1 : Int32) (J2 : Mem) (hw1 : wz1 = nI u) (hu : u ≤ rN F) (hP : ∀ p, p < u → J2 100 p = I 103 p ∧ J2 101 p = I 104 p) (hG : ∀ i, i ≠ 100 → i ≠ 101 → J2 i = (wr (wr (wr J 97 2 (J 97 8)) 97 3 (wr J 97 2 (J 97 8) 97 9)) 97 4 (wr (wr J 97 2 (J 97 8)) 97 3 (wr J 97 2 (J 97 8) 97 9) 97 10)) i), rN F - u < k9 → G κ n ρ 52 [(1, .int wz1), (0, .ref 97)] [] J2 := by
          intro k9
          induction k9 with
          | zero => intro u wz1 J2 hw1 hu hP hG hm52; exact absurd hm52 (Nat.not_lt_zero _)
          | succ k9 ih52 =>
            intro u wz1 J2 hw1 hu hP hG hm52
            subst hw1
            have hN2 : J2 97 4 = nI (rN F) := by rw [hG 97 (by decide) (by decide), wr_ss, wr_sn (by decide), wr_sn (by decide), hF 97 (by decide)]; exact hN
            refine g_iload_n C (pc := 52) dX12_keepDraft_52 0 rfl ?_
            refine g_aload_n C (pc := 53) dX12_keepDraft_53 1 rfl ?_
            refine g_getI C (pc := 54) fl_RX12_105 (by decide) (by first | assumption | rfl | omega) (by first | assumption | rfl | omega) dX12_keepDraft_54 ?_
            refine g_icmp_ge C (pc := 57) 90 dX12_keepDraft_57 (by decide) (fun c57 => ?_) (fun c57 => ?_)
            · rw [hN2, nI_leI (by omega) (by omega)] at c57
              refine g_aload_n C (pc := 90) dX12_keepDraft_90 1 rfl ?_
              refine g_getR C (pc := 91) fl_RX12_13 (by decide) (by first | assumption | rfl | omega) (by first | assumption | rfl | omega) (by first | assumption | rfl | omega) dX12_keepDraft_91 ?_
              refine g_iconst C (pc := 94) 0 dX12_keepDraft_94 (by decide) ?_
              refine g_iconst C (pc := 95) 0 dX12_keepDraft_95 (by decide) ?_
              refine g_zast C (pc := 96) (by first | assumption | rfl | omega) (by first | assumption | rfl | omega) hn9 (vp_in_nI (n := 0) (by decide) (by decide)) rfl dX12_keepDraft_96 ?_
              refine g_aload_n C (pc := 97) dX12_keepDraft_97 1 rfl ?_
              refine g_getR C (pc := 98) fl_RX12_13 (by decide) (by first | assumption | rfl | omega) (by first | assumption | rfl | omega) (by first | assumption | rfl | omega) dX12_keepDraft_98 ?_
              refine g_iconst C (pc := 101) 1 dX12_keepDraft_101 (by decide) ?_
              refine g_iconst C (pc := 102) 0 dX12_keepDraft_102 (by decide) ?_
              refine g_zast C (pc := 103) (by first | assumption | rfl | omega) (by first | assumption | rfl | omega) hn9 (vp_in_nI (n := 1) (by decide) (by decide)) rfl dX12_keepDraft_103 ?_
              refine g_vret C hR (pc := 104) rfl dX12_keepDraft_104 ?_
              refine ⟨rfl, rfl, ?_⟩
              have hu9 : u = rN F := by omega
              subst hu9
              have e98 : ∀ k, k < 41 → (wr (wr J2 99 0 0) 99 1 0) 98 k = I 102 k := fun k hk => by
                rw [wr_n (by decide), wr_n (by decide), hG 98 (by decide) (by decide), wr_n (by decide), wr_n (by decide), wr_n (by decide)]; exact hA k hk
              have e97 : (wr (wr J2 99 0 0) 99 1 0) 97 = (wr (wr (wr J 97 2 (J 97 8)) 97 3 (wr J 97 2 (J 97 8) 97 9)) 97 4 (wr (wr J 97 2 (J 97 8)) 97 3 (wr J 97 2 (J 97 8) 97 9) 97 10)) 97 := by
                rw [wr_n (by decide), wr_n (by decide), hG 97 (by decide) (by decide)]
              show QN (wr (wr J2 99 0 0) 99 1 0) F b ∧ _
              refine ⟨⟨⟨?_, ?_, ?_, fun p hp => ?_⟩, ⟨fun i hi => ?_, fun w hw => ?_⟩, fun p hp => ?_, ?_⟩, ?_, ?_, ?_, fun k hk => ?_, fun z h1 h2 h3 => ?_, fun i hi => ?_⟩
              · rw [e97, wr_sn (by decide), wr_sn (by decide), wr_ss, hF 97 (by decide)]; exact hW
              · rw [e97, wr_sn (by decide), wr_ss, wr_sn (by decide), hF 97 (by decide)]; exact hH
              · rw [e97, wr_ss, wr_sn (by decide), wr_sn (by decide), hF 97 (by decide)]; exact hN
              · rw [wr_n (by decide), wr_n (by decide), wr_n (by decide), wr_n (by decide), (hP p hp).1, (hP p hp).2]; exact (hpc p hp).1
              · rw [e98 12 (by decide)]; exact hst i hi
              · rw [e98 _ (by omega)]; exact hod w hw
              · rw [e98 _ (by omega), e98 _ (by omega)]; exact (hpc p hp).2
              · rw [e98 18 (by decide)]; exact ht
              · show (wr (wr J2 99 0 0) 99 1 0) 98 19 = 0
                rw [e98 19 (by decide)]; exact h19
              · show (wr (wr J2 99 0 0) 99 1 0) 98 20 = 0
                rw [e98 20 (by decide)]; exact h20
              · show (wr (wr J2 99 0 0) 99 1 0) 98 37 = 0
                rw [e98 37 (by decide)]; exact h37
              · show (wr (wr J2 99 0 0) 99 1 0) 99 k = 0
                rcases (show k = 0 ∨ k = 1 by omega) with h | h <;> subst h
                · rw [wr_sn (by decide), wr_ss]
                · rw [wr_ss]
              · show (wr (wr J2 99 0 0) 99 1 0) 97 z = I 97 z
                rw [e97, wr_sn h3, wr_sn h2, wr_sn h1, hF 97 (by decide)]
              · show (wr (wr J2 99 0 0) 99 1 0) i = I i
                rw [wr_n (by omega), wr_n (by omega), hG i (by omega) (by omega), wr_n (by omega), wr_n (by omega), wr_n (by omega), hF i (by omega)]
            · rw [hN2, nI_ltI (by omega) (by omega)] at c57
              have hxu : (nI u).toNatClampNeg = u := nI_clamp (by omega)
              refine g_aload_n C (pc := 60) dX12_keepDraft_60 1 rfl ?_
              refine g_getR C (pc := 61) fl_RX12_17 (by decide) (by first | assumption | rfl | omega) (by first | assumption | rfl | omega) (by first | assumption | rfl | omega) dX12_keepDraft_61 ?_
              refine g_iload_n C (pc := 64) dX12_keepDraft_64 0 rfl ?_
              refine g_aload_n C (pc := 65) dX12_keepDraft_65 1 rfl ?_
              refine g_getR C (pc := 66) fl_RX12_26 (by decide) (by first | assumption | rfl | omega) (by first | assumption | rfl | omega) (by first | assumption | rfl | omega) dX12_keepDraft_66 ?_
              refine g_iload_n C (pc := 69) dX12_keepDraft_69 0 rfl ?_
              refine g_iald C (pc := 70) (by first | assumption | rfl | omega) (by first | assumption | rfl | omega) (vp_in_nI (by omega) (by decide)) dX12_keepDraft_70 ?_
              refine g_iast C (pc := 71) (by first | assumption | rfl | omega) (by first | assumption | rfl | omega) hn9 (vp_in_nI (by omega) (by decide)) dX12_keepDraft_71 ?_
              refine g_aload_n C (pc := 72) dX12_keepDraft_72 1 rfl ?_
              refine g_getR C (pc := 73) fl_RX12_20 (by decide) (by first | assumption | rfl | omega) (by first | assumption | rfl | omega) (by first | assumption | rfl | omega) dX12_keepDraft_73 ?_
              refine g_iload_n C (pc := 76) dX12_keepDraft_76 0 rfl ?_
              refine g_aload_n C (pc := 77) dX12_keepDraft_77 1 rfl ?_
              refine g_getR C (pc := 78) fl_RX12_29 (by decide) (by first | assumption | rfl | omega) (by first | assumption | rfl | omega) (by first | assumption | rfl | omega) dX12_keepDraft_78 ?_
              refine g_iload_n C (pc := 81) dX12_keepDraft_81 0 rfl ?_
              refine g_iald C (pc := 82) (by first | assumption | rfl | omega) (by first | assumption | rfl | omega) (vp_in_nI (by omega) (by decide)) dX12_keepDraft_82 ?_
              refine g_iast C (pc := 83) (by first | assumption | rfl | omega) (by first | assumption | rfl | omega) hn9 (vp_in_nI (by omega) (by decide)) dX12_keepDraft_83 ?_
              refine g_iinc C (pc := 84) (1) dX12_keepDraft_84 0 rfl (by decide) (by decide) (fun v84 => [(1, .int v84), (0, .ref 97)]) (fun _ => rfl) (fun v84 ev84 => ?_)
              refine g_goto C (pc := 87) 52 dX12_keepDraft_87 (by decide) ?_
              refine g_lv C [0, 1] rfl (ih52 (u + 1) _ _ ?_ ?_ ?_ ?_ (by omega))
              · subst_vars; exact nI_1 _
              · omega
              · intro p hp
                rw [hxu]
                rw [wr_n (a := 100) (by decide), wr_s, wr_s]
                rcases Nat.lt_or_ge p u with h1 | h1
                · rw [upd_n (by omega), upd_n (by omega), wr_n (a := 101) (by decide)]; exact hP p h1
                · have : p = u := by omega
                  subst this
                  rw [upd_s, upd_s, wr_n (by decide), hG 103 (by decide) (by decide), hG 104 (by decide) (by decide), wr_n (by decide), wr_n (by decide), wr_n (by decide), wr_n (by decide), wr_n (by decide), wr_n (by decide), hF 103 (by decide), hF 104 (by decide)]; exact ⟨rfl, rfl⟩
              · intro i h1 h2; rw [wr_n h2, wr_n h1]; exact hG i h1 h2
        refine g_lv C [0, 1] rfl (L52 (_ + 1) 0 _ _ ?_ ?_ ?_ ?_ (by first | omega | exact Nat.lt_succ_self _))
        · subst_vars; rfl
        · omega
        · intro p hp; omega
        · intro i _ _; rfl
      · replace c5 := (nI_ltI (a := j) (b := 41) (by omega) (by decide)).mp c5
        have hx1 : (nI j).toNatClampNeg = j := nI_clamp (by omega)
        refine g_aload_n C (pc := 8) dX12_keepDraft_8 1 rfl ?_
        refine g_getR C (pc := 9) fl_RX12_7 (by decide) (by first | assumption | rfl | omega) (by first | assumption | rfl | omega) (by first | assumption | rfl | omega) dX12_keepDraft_9 ?_
        refine g_iload_n C (pc := 12) dX12_keepDraft_12 0 rfl ?_
        refine g_aload_n C (pc := 13) dX12_keepDraft_13 1 rfl ?_
        refine g_getR C (pc := 14) fl_RX12_23 (by decide) (by first | assumption | rfl | omega) (by first | assumption | rfl | omega) (by first | assumption | rfl | omega) dX12_keepDraft_14 ?_
        refine g_iload_n C (pc := 17) dX12_keepDraft_17 0 rfl ?_
        refine g_iald C (pc := 18) (by first | assumption | rfl | omega) (by first | assumption | rfl | omega) (vp_in_nI (by omega) (by decide)) dX12_keepDraft_18 ?_
        refine g_iast C (pc := 19) (by first | assumption | rfl | omega) (by first | assumption | rfl | omega) hn9 (vp_in_nI (by omega) (by decide)) dX12_keepDraft_19 ?_
        refine g_iinc C (pc := 20) (1) dX12_keepDraft_20 0 rfl (by decide) (by decide) (fun v20 => [(1, .int v20), (0, .ref 97)]) (fun _ => rfl) (fun v20 ev20 => ?_)
        refine g_goto C (pc := 23) 2 dX12_keepDraft_23 (by decide) ?_
        refine g_lv C [0, 1] rfl (ih2 (j + 1) _ _ ?_ ?_ ?_ ?_ (by omega))
        · subst_vars; exact nI_1 _
        · omega
        · intro k hk
          rw [hx1]
          rcases Nat.lt_or_ge k j with h1 | h1
          · rw [wr_sn (by omega)]; exact hA k h1
          · have : k = j := by omega
            subst this
            rw [wr_ss, hF 102 (by decide)]
        · intro i h1; rw [wr_n h1]; exact hF i h1
  refine g_lv C [0, 1] rfl (L2 (_ + 1) 0 _ _ ?_ ?_ ?_ ?_ (by first | omega | exact Nat.lt_succ_self _))
  · subst_vars; rfl
  · exact Nat.zero_le _
  · intro k hk; omega
  · intro i _; rfl
