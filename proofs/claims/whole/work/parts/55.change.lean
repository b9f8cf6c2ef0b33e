/-- what a turn leaves as it was -/
def KpS (I I1 : Mem) : Prop := (∀ z, z < 25 ∨ 37 < z → I1 97 z = I 97 z) ∧ (∀ i, i < 97 ∨ (98 < i ∧ i < 106) ∨ 114 < i → I1 i = I i) ∧ ∀ z, 12 ≤ z → z ≠ 18 → z ≠ 19 → I1 98 z = I 98 z
theorem bit_at {q : Nat} (hq : q < 25) {x : Int32} (hx : x = nI q) {i : Nat} (hi : i < 32) : bt (1 <<< (x &&& 31)) i = (some q == some i) := by
  have h1 := bitO_at (a := some q) (by intro z hz; cases hz; omega) hi
  unfold bitO at h1
  rw [if_pos ⟨nI_pos' (n := q) (by omega), nI_lt (a := q) (b := 25) (by omega) (by decide)⟩] at h1
  rw [hx]; exact h1
set_option maxHeartbeats 400000 in
theorem c_X12_oil (n : Nat) (ρ : Rho) (I : Mem) (F : RT) (b : BT) (x z : Int32) (hn9 : n ≤ 999) (hms : MS n ρ) (hqn : QN I F b) (hrw : RW F) (hbw : BW F b) (hN1 : 1 ≤ rN F) : MI yX12_oil cX12_oil 3 (some .int) 2 [.ref 97, .int x, .int z] n ρ I (fun v I1 => (∃ p q, (p < rN F ∧ q ≤ 9 ∧ x = nI p ∧ z = nI q) ∧ v = nI (bO b p) ∧ wr I 98 (6 + p) z = I1) ∨ (¬ (∃ p q, (p < rN F ∧ q ≤ 9 ∧ x = nI p ∧ z = nI q)) ∧ v = -1 ∧ I = I1)) := by
  refine MG.of (by decide +kernel) (Nat.le_of_ble_eq_true rfl) hn9 ?_
  intro κ C hR
  show G κ n ρ 0 [(0, .ref 97), (1, .int x), (2, .int z)] [] I
  obtain ⟨mn, ⟨m0, m1, m5, m6, m7, m11, m12, m15⟩, ⟨m23, m24, m26, m27, m28, m30, m31, m32, m33⟩, ⟨m38, m39, m40, m42⟩⟩ := id hms
  obtain ⟨hqf, hqe, hqs, hqt⟩ := id hqn
  obtain ⟨qw, qh, qn, qk⟩ := id hqf
  have hn6 : rN F ≤ 6 := hrw.2.2.2.2.1
  have hm25 := Nat.mul_le_mul hrw.2.1 hrw.2.2.2.1
  have hm4 := Nat.mul_le_mul hrw.1 hrw.2.2.1
  refine g_aload_n C (pc := 0) dX12_oil_0 0 rfl ?_
  refine g_iload_n C (pc := 1) dX12_oil_1 1 rfl ?_
  refine g_callVI C (pc := 2) mf_X12_isPiece lk_RX12_233 (c_X12_isPiece n ρ I F x hn9 hms hqf hrw hN1) (by decide) (Nat.le_refl _) rfl (by first | assumption | rfl | omega) rfl (by first | assumption | rfl | omega) (Nat.le_of_ble_eq_true rfl) dX12_oil_2 (fun v2 I2 h2 => ?_)
  obtain ⟨e2, rfl⟩ := h2
  refine g_if_eq C (pc := 5) 32 dX12_oil_5 (by decide) (fun c5 => ?_) (fun c5 => ?_)
  · have hx := bI_0.mp (e2.symm.trans c5)
    refine g_iconst C (pc := 32) (-1) dX12_oil_32 (by decide) ?_
    refine g_iret C hR (pc := 33) rfl dX12_oil_33 ?_
    refine ⟨rfl, _, rfl, ?_⟩
    first
    | exact Or.inl ⟨p, q, ⟨hp, by omega, hxp, hzq⟩, e26.trans (hqs p hp).2, g26⟩
    | (refine Or.inr ⟨?_, rfl, rfl⟩
       rintro ⟨p9, q9, h1, h2, h3, h4⟩
       first
       | exact hx (by rw [h3]; exact ⟨nI_pos' (by omega), nI_lt h1 (by omega)⟩)
       | exact hz (by rw [h4]; exact ⟨nI_pos' (by omega), nI_lt (by omega) (by decide)⟩))
  · have hx := bI_1.mp (fun h => c5 (e2.trans h))
    obtain ⟨p, hp, hxp⟩ := pc_of hrw hx
    refine g_iload_n C (pc := 8) dX12_oil_8 2 rfl ?_
    refine g_i2l C (pc := 9) dX12_oil_9 ?_
    refine g_lconst C (pc := 10) 0 dX12_oil_10 (by decide) ?_
    refine g_ldc2 C (pc := 11) _ gk_RX12_239 dX12_oil_11 ?_
    refine g_callSI C (pc := 14) mf_X12_in lk_RX12_113 (c_X12_in n ρ I _ _ _ hn9) (by decide) (Nat.le_refl _) rfl (Nat.le_of_ble_eq_true rfl) dX12_oil_14 (fun v14 I14 h14 => ?_)
    obtain ⟨e14, rfl⟩ := h14
    refine g_if_eq C (pc := 17) 32 dX12_oil_17 (by decide) (fun c17 => ?_) (fun c17 => ?_)
    · have hz := fun h => bI_0.mp (e14.symm.trans c17) ((in_iff (x := z) (k := 9) (by decide)).mpr h)
      refine g_iconst C (pc := 32) (-1) dX12_oil_32 (by decide) ?_
      refine g_iret C hR (pc := 33) rfl dX12_oil_33 ?_
      refine ⟨rfl, _, rfl, ?_⟩
      first
      | exact Or.inl ⟨p, q, ⟨hp, by omega, hxp, hzq⟩, e26.trans (hqs p hp).2, g26⟩
      | (refine Or.inr ⟨?_, rfl, rfl⟩
         rintro ⟨p9, q9, h1, h2, h3, h4⟩
         first
         | exact hx (by rw [h3]; exact ⟨nI_pos' (by omega), nI_lt h1 (by omega)⟩)
         | exact hz (by rw [h4]; exact ⟨nI_pos' (by omega), nI_lt (by omega) (by decide)⟩))
    · have hz := (in_iff (x := z) (k := 9) (by decide)).mp (bI_1.mp (fun h => c17 (e14.trans h)))
      obtain ⟨q, hq, hzq⟩ := ix_of (x := z) (n := 10) (by decide) hz
      refine g_aload_n C (pc := 20) dX12_oil_20 0 rfl ?_
      refine g_bipush C (pc := 21) 6 dX12_oil_21 (by decide) ?_
      refine g_iload_n C (pc := 23) dX12_oil_23 1 rfl ?_
      refine g_iadd C (pc := 24) dX12_oil_24 ?_
      refine g_iload_n C (pc := 25) dX12_oil_25 2 rfl ?_
      refine g_callVI C (pc := 26) mf_X12_becomes lk_RX12_241 (c_X12_becomes n ρ I (6 + p) _ z hn9 hms (by omega) (by rw [hxp, show (6 : Int32) = nI 6 from rfl, nI_add])) (by decide) (Nat.le_refl _) rfl (by first | assumption | rfl | omega) rfl (by first | assumption | rfl | omega) (Nat.le_of_ble_eq_true rfl) dX12_oil_26 (fun v26 I26 h26 => ?_)
      obtain ⟨e26, g26⟩ := h26
      refine g_goto C (pc := 29) 33 dX12_oil_29 (by decide) ?_
      refine g_iret C hR (pc := 33) rfl dX12_oil_33 ?_
      refine ⟨rfl, _, rfl, ?_⟩
      first
      | exact Or.inl ⟨p, q, ⟨hp, by omega, hxp, hzq⟩, e26.trans (hqs p hp).2, g26⟩
      | (refine Or.inr ⟨?_, rfl, rfl⟩
         rintro ⟨p9, q9, h1, h2, h3, h4⟩
         first
         | exact hx (by rw [h3]; exact ⟨nI_pos' (by omega), nI_lt h1 (by omega)⟩)
         | exact hz (by rw [h4]; exact ⟨nI_pos' (by omega), nI_lt (by omega) (by decide)⟩))
set_option maxHeartbeats 400000 in
theorem c_X12_put (n : Nat) (ρ : Rho) (I : Mem) (F : RT) (b : BT) (x z : Int32) (hn9 : n ≤ 999) (hms : MS n ρ) (hqn : QN I F b) (hrw : RW F) (hbw : BW F b) (hl1 : L1 F b) (hpw : PW F b) (hN1 : 1 ≤ rN F) : MI yX12_put cX12_put 4 (some .int) 2 [.ref 97, .int x, .int z] n ρ I (fun v I1 => (∃ p q, (p < rN F ∧ q < rW F * rH F ∧ x = nI p ∧ z = nI q ∧ rS F q = false ∧ (pon F b q = none ∨ pon F b q = some p)) ∧ v = oI (bP b p) ∧ ∃ J, Kp I J ∧ wr J 98 p z = I1) ∨ (¬ (∃ p q, (p < rN F ∧ q < rW F * rH F ∧ x = nI p ∧ z = nI q ∧ rS F q = false ∧ (pon F b q = none ∨ pon F b q = some p))) ∧ v = -1 ∧ Kp I I1)) := by
  refine MG.of (by decide +kernel) (Nat.le_of_ble_eq_true rfl) hn9 ?_
  intro κ C hR
  show G κ n ρ 0 [(0, .ref 97), (1, .int x), (2, .int z)] [] I
  obtain ⟨mn, ⟨m0, m1, m5, m6, m7, m11, m12, m15⟩, ⟨m23, m24, m26, m27, m28, m30, m31, m32, m33⟩, ⟨m38, m39, m40, m42⟩⟩ := id hms
  obtain ⟨hqf, hqe, hqs, hqt⟩ := id hqn
  obtain ⟨qw, qh, qn, qk⟩ := id hqf
  have hn6 : rN F ≤ 6 := hrw.2.2.2.2.1
  have hm25 := Nat.mul_le_mul hrw.2.1 hrw.2.2.2.1
  have hm4 := Nat.mul_le_mul hrw.1 hrw.2.2.1
  refine g_aload_n C (pc := 0) dX12_put_0 0 rfl ?_
  refine g_iload_n C (pc := 1) dX12_put_1 1 rfl ?_
  refine g_callVI C (pc := 2) mf_X12_isPiece lk_RX12_233 (c_X12_isPiece n ρ I F x hn9 hms hqf hrw hN1) (by decide) (Nat.le_refl _) rfl (by first | assumption | rfl | omega) rfl (by first | assumption | rfl | omega) (Nat.le_of_ble_eq_true rfl) dX12_put_2 (fun v2 I2 h2 => ?_)
  obtain ⟨e2, rfl⟩ := h2
  refine g_if_eq C (pc := 5) 16 dX12_put_5 (by decide) (fun c5 => ?_) (fun c5 => ?_)
  · have hx := bI_0.mp (e2.symm.trans c5)
    refine g_iconst C (pc := 16) (-1) dX12_put_16 (by decide) ?_
    refine g_iret C hR (pc := 17) rfl dX12_put_17 ?_
    refine ⟨rfl, _, rfl, ?_⟩
    refine Or.inr ⟨?_, rfl, Kp.rfl'⟩
    rintro ⟨p9, q9, h1, h2, h3, h4, -⟩
    first
    | exact hx (by rw [h3]; exact ⟨nI_pos' (by omega), nI_lt h1 (by omega)⟩)
    | exact hz (by rw [h4]; exact ⟨nI_pos' (by omega), nI_lt h2 (by omega)⟩)
  · have hx := bI_1.mp (fun h => c5 (e2.trans h))
    obtain ⟨p, hp, hxp⟩ := pc_of hrw hx
    refine g_aload_n C (pc := 8) dX12_put_8 0 rfl ?_
    refine g_iload_n C (pc := 9) dX12_put_9 2 rfl ?_
    refine g_callVI C (pc := 10) mf_X12_isSquare lk_RX12_230 (c_X12_isSquare n ρ I F z hn9 hms hqf hrw) (by decide) (Nat.le_refl _) rfl (by first | assumption | rfl | omega) rfl (by first | assumption | rfl | omega) (Nat.le_of_ble_eq_true rfl) dX12_put_10 (fun v10 I10 h10 => ?_)
    obtain ⟨e10, rfl⟩ := h10
    refine g_if_ne C (pc := 13) 18 dX12_put_13 (by decide) (fun c13 => ?_) (fun c13 => ?_)
    · have hz := bI_1.mp (fun h => c13 (e10.trans h))
      obtain ⟨q, hq, hq25, hzq⟩ := sq_of hrw hz
      have hpl : ∀ t, pon F b q = some t → t < 2 ^ 31 := fun t ht => by have := (pon_some ht).1; omega
      refine g_aload_n C (pc := 18) dX12_put_18 0 rfl ?_
      refine g_callVV C (pc := 19) mf_X12_starts lk_RX12_227 (c_X12_startsB n ρ I F b hn9 hms hqn hrw hbw) (by decide) (Nat.le_refl _) rfl (by first | assumption | rfl | omega) rfl (by first | assumption | rfl | omega) (Nat.le_of_ble_eq_true rfl) dX12_put_19 (fun I19 h19 => ?_)
      obtain ⟨f19, k19⟩ := h19
      refine g_aload_n C (pc := 22) dX12_put_22 0 rfl ?_
      refine g_iload_n C (pc := 23) dX12_put_23 2 rfl ?_
      refine g_callVI C (pc := 24) mf_X12_pieceAt lk_RX12_218 (c_X12_pieceAt n ρ I19 F b q z hn9 hms (hqf.kp k19) hrw f19 hbw (by omega) hzq) (by decide) (Nat.le_refl _) rfl (by first | assumption | rfl | omega) rfl (by first | assumption | rfl | omega) (Nat.le_of_ble_eq_true rfl) dX12_put_24 (fun v24 I24 h24 => ?_)
      obtain ⟨e24, rfl⟩ := h24
      refine g_istore_n C (pc := 27) dX12_put_27 (by decide) (fun v27 => [(3, .int v27), (0, .ref 97), (1, .int x), (2, .int z)]) (fun _ => rfl) (fun v27 ev27 => ?_)
      refine g_aload_n C (pc := 28) dX12_put_28 1 rfl ?_
      refine g_iload_n C (pc := 29) dX12_put_29 3 rfl ?_
      refine g_callVI C (pc := 30) mf_X12_isOpen lk_RX12_211 (c_X12_isOpen n ρ I19 F (some q) z hn9 hms (hqe.kp k19) (by intro y hy; cases hy; exact hq25) hzq) (by decide) (Nat.le_refl _) rfl (by first | assumption | rfl | omega) rfl (by first | assumption | rfl | omega) (Nat.le_of_ble_eq_true rfl) dX12_put_30 (fun v30 I30 h30 => ?_)
      obtain ⟨e30, rfl⟩ := h30
      refine g_if_eq C (pc := 33) 58 dX12_put_33 (by decide) (fun c33 => ?_) (fun c33 => ?_)
      · have hS : ¬ rS F q = false := fun h9 => bI_0.mp (e30.symm.trans c33) (congrArg some h9)
        refine g_iconst C (pc := 58) (-1) dX12_put_58 (by decide) ?_
        refine g_iret C hR (pc := 59) rfl dX12_put_59 ?_
        refine ⟨rfl, _, rfl, ?_⟩
        first
        | exact Or.inl ⟨p, q, ⟨hp, hq, hxp, hzq, hS, hok⟩, by rw [e52, k19.2 98 (by decide)]; exact (hqs p hp).1, I19, k19, g52⟩
        | (refine Or.inr ⟨?_, rfl, k19⟩
           rintro ⟨p9, q9, h1, h2, h3, h4, h5, h6⟩
           have e1 : p = p9 := (nI_eq (by omega) (by omega)).mp (hxp.symm.trans h3)
           have e2 : q = q9 := (nI_eq (by omega) (by omega)).mp (hzq.symm.trans h4)
           subst e1 e2
           first
           | exact hS h5
           | (rcases h6 with h6 | h6
              · exact hn1 h6
              · exact hn2 h6))
      · have hS : rS F q = false := Option.some.inj (bI_1.mp (fun h => c33 (e30.trans h)))
        refine g_iload_n C (pc := 36) dX12_put_36 0 rfl ?_
        refine g_bipush C (pc := 37) (-4) dX12_put_37 (by decide) ?_
        refine g_icmp_eq C (pc := 39) 47 dX12_put_39 (by decide) (fun c39 => ?_) (fun c39 => ?_)
        · have hok : pon F b q = none ∨ pon F b q = some p := Or.inl ((oI_none hpl).mp (e24.symm.trans (ev27.symm.trans c39)))
          refine g_aload_n C (pc := 47) dX12_put_47 1 rfl ?_
          refine g_iconst C (pc := 48) 0 dX12_put_48 (by decide) ?_
          refine g_iload_n C (pc := 49) dX12_put_49 2 rfl ?_
          refine g_iadd C (pc := 50) dX12_put_50 ?_
          refine g_iload_n C (pc := 51) dX12_put_51 3 rfl ?_
          refine g_callVI C (pc := 52) mf_X12_becomes lk_RX12_241 (c_X12_becomes n ρ I19 p _ z hn9 hms (by omega) (by rw [Int32.zero_add]; exact hxp)) (by decide) (Nat.le_refl _) rfl (by first | assumption | rfl | omega) rfl (by first | assumption | rfl | omega) (Nat.le_of_ble_eq_true rfl) dX12_put_52 (fun v52 I52 h52 => ?_)
          obtain ⟨e52, g52⟩ := h52
          refine g_goto C (pc := 55) 59 dX12_put_55 (by decide) ?_
          refine g_iret C hR (pc := 59) rfl dX12_put_59 ?_
          refine ⟨rfl, _, rfl, ?_⟩
          first
          | exact Or.inl ⟨p, q, ⟨hp, hq, hxp, hzq, hS, hok⟩, by rw [e52, k19.2 98 (by decide)]; exact (hqs p hp).1, I19, k19, g52⟩
          | (refine Or.inr ⟨?_, rfl, k19⟩
             rintro ⟨p9, q9, h1, h2, h3, h4, h5, h6⟩
             have e1 : p = p9 := (nI_eq (by omega) (by omega)).mp (hxp.symm.trans h3)
             have e2 : q = q9 := (nI_eq (by omega) (by omega)).mp (hzq.symm.trans h4)
             subst e1 e2
             first
             | exact hS h5
             | (rcases h6 with h6 | h6
                · exact hn1 h6
                · exact hn2 h6))
        · have hn1 : pon F b q ≠ none := fun h9 => c39 (by rw [ev27, e24, h9]; rfl)
          refine g_iload_n C (pc := 42) dX12_put_42 0 rfl ?_
          refine g_iload_n C (pc := 43) dX12_put_43 2 rfl ?_
          refine g_icmp_ne C (pc := 44) 58 dX12_put_44 (by decide) (fun c44 => ?_) (fun c44 => ?_)
          · have hn2 : pon F b q ≠ some p := fun h9 => c44 (by rw [ev27, e24, h9, hxp]; rfl)
            refine g_iconst C (pc := 58) (-1) dX12_put_58 (by decide) ?_
            refine g_iret C hR (pc := 59) rfl dX12_put_59 ?_
            refine ⟨rfl, _, rfl, ?_⟩
            first
            | exact Or.inl ⟨p, q, ⟨hp, hq, hxp, hzq, hS, hok⟩, by rw [e52, k19.2 98 (by decide)]; exact (hqs p hp).1, I19, k19, g52⟩
            | (refine Or.inr ⟨?_, rfl, k19⟩
               rintro ⟨p9, q9, h1, h2, h3, h4, h5, h6⟩
               have e1 : p = p9 := (nI_eq (by omega) (by omega)).mp (hxp.symm.trans h3)
               have e2 : q = q9 := (nI_eq (by omega) (by omega)).mp (hzq.symm.trans h4)
               subst e1 e2
               first
               | exact hS h5
               | (rcases h6 with h6 | h6
                  · exact hn1 h6
                  · exact hn2 h6))
          · have hok : pon F b q = none ∨ pon F b q = some p := Or.inr ((oI_nI hpl (by omega)).mp (e24.symm.trans (ev27.symm.trans (c44.trans hxp))))
            refine g_aload_n C (pc := 47) dX12_put_47 1 rfl ?_
            refine g_iconst C (pc := 48) 0 dX12_put_48 (by decide) ?_
            refine g_iload_n C (pc := 49) dX12_put_49 2 rfl ?_
            refine g_iadd C (pc := 50) dX12_put_50 ?_
            refine g_iload_n C (pc := 51) dX12_put_51 3 rfl ?_
            refine g_callVI C (pc := 52) mf_X12_becomes lk_RX12_241 (c_X12_becomes n ρ I19 p _ z hn9 hms (by omega) (by rw [Int32.zero_add]; exact hxp)) (by decide) (Nat.le_refl _) rfl (by first | assumption | rfl | omega) rfl (by first | assumption | rfl | omega) (Nat.le_of_ble_eq_true rfl) dX12_put_52 (fun v52 I52 h52 => ?_)
            obtain ⟨e52, g52⟩ := h52
            refine g_goto C (pc := 55) 59 dX12_put_55 (by decide) ?_
            refine g_iret C hR (pc := 59) rfl dX12_put_59 ?_
            refine ⟨rfl, _, rfl, ?_⟩
            first
            | exact Or.inl ⟨p, q, ⟨hp, hq, hxp, hzq, hS, hok⟩, by rw [e52, k19.2 98 (by decide)]; exact (hqs p hp).1, I19, k19, g52⟩
            | (refine Or.inr ⟨?_, rfl, k19⟩
               rintro ⟨p9, q9, h1, h2, h3, h4, h5, h6⟩
               have e1 : p = p9 := (nI_eq (by omega) (by omega)).mp (hxp.symm.trans h3)
               have e2 : q = q9 := (nI_eq (by omega) (by omega)).mp (hzq.symm.trans h4)
               subst e1 e2
               first
               | exact hS h5
               | (rcases h6 with h6 | h6
                  · exact hn1 h6
                  · exact hn2 h6))
    · have hz := bI_0.mp (e10.symm.trans c13)
      refine g_iconst C (pc := 16) (-1) dX12_put_16 (by decide) ?_
      refine g_iret C hR (pc := 17) rfl dX12_put_17 ?_
      refine ⟨rfl, _, rfl, ?_⟩
      refine Or.inr ⟨?_, rfl, Kp.rfl'⟩
      rintro ⟨p9, q9, h1, h2, h3, h4, -⟩
      first
      | exact hx (by rw [h3]; exact ⟨nI_pos' (by omega), nI_lt h1 (by omega)⟩)
      | exact hz (by rw [h4]; exact ⟨nI_pos' (by omega), nI_lt h2 (by omega)⟩)
set_option maxHeartbeats 400000 in
theorem c_X12_steeple (n : Nat) (ρ : Rho) (I : Mem) (F : RT) (b : BT) (x z : Int32) (hn9 : n ≤ 999) (hms : MS n ρ) (hqn : QN I F b) (hrw : RW F) (hbw : BW F b) (hl1 : L1 F b) (hpw : PW F b) : MI yX12_steeple cX12_steeple 4 (some .int) 2 [.ref 97, .int x, .int z] n ρ I (fun v I1 => (∃ q, (q < rW F * rH F ∧ x = nI q ∧ pon F b q = none) ∧ v = bI (rS F q = true) ∧ ∃ J y, Kp I J ∧ wr J 98 12 y = I1 ∧ ∀ i, i < 32 → bt y i = (if z = 0 then (rS F i && !(some q == some i)) else (rS F i || (some q == some i)))) ∨ (¬ (∃ q, (q < rW F * rH F ∧ x = nI q ∧ pon F b q = none)) ∧ v = -1 ∧ Kp I I1)) := by
  refine MG.of (by decide +kernel) (Nat.le_of_ble_eq_true rfl) hn9 ?_
  intro κ C hR
  show G κ n ρ 0 [(0, .ref 97), (1, .int x), (2, .int z)] [] I
  obtain ⟨mn, ⟨m0, m1, m5, m6, m7, m11, m12, m15⟩, ⟨m23, m24, m26, m27, m28, m30, m31, m32, m33⟩, ⟨m38, m39, m40, m42⟩⟩ := id hms
  obtain ⟨hqf, hqe, hqs, hqt⟩ := id hqn
  obtain ⟨qw, qh, qn, qk⟩ := id hqf
  have hn6 : rN F ≤ 6 := hrw.2.2.2.2.1
  have hm25 := Nat.mul_le_mul hrw.2.1 hrw.2.2.2.1
  have hm4 := Nat.mul_le_mul hrw.1 hrw.2.2.1
  refine g_aload_n C (pc := 0) dX12_steeple_0 0 rfl ?_
  refine g_iload_n C (pc := 1) dX12_steeple_1 1 rfl ?_
  refine g_callVI C (pc := 2) mf_X12_isSquare lk_RX12_230 (c_X12_isSquare n ρ I F x hn9 hms hqf hrw) (by decide) (Nat.le_refl _) rfl (by first | assumption | rfl | omega) rfl (by first | assumption | rfl | omega) (Nat.le_of_ble_eq_true rfl) dX12_steeple_2 (fun v2 I2 h2 => ?_)
  obtain ⟨e2, rfl⟩ := h2
  refine g_if_ne C (pc := 5) 10 dX12_steeple_5 (by decide) (fun c5 => ?_) (fun c5 => ?_)
  · have hx := bI_1.mp (fun h => c5 (e2.trans h))
    obtain ⟨q, hq, hq25, hxq⟩ := sq_of hrw hx
    have hpl : ∀ t, pon F b q = some t → t < 2 ^ 31 := fun t ht => by have := (pon_some ht).1; omega
    refine g_aload_n C (pc := 10) dX12_steeple_10 0 rfl ?_
    refine g_callVV C (pc := 11) mf_X12_starts lk_RX12_227 (c_X12_startsB n ρ I F b hn9 hms hqn hrw hbw) (by decide) (Nat.le_refl _) rfl (by first | assumption | rfl | omega) rfl (by first | assumption | rfl | omega) (Nat.le_of_ble_eq_true rfl) dX12_steeple_11 (fun I11 h11 => ?_)
    obtain ⟨f11, k11⟩ := h11
    refine g_aload_n C (pc := 14) dX12_steeple_14 0 rfl ?_
    refine g_iload_n C (pc := 15) dX12_steeple_15 1 rfl ?_
    refine g_callVI C (pc := 16) mf_X12_pieceAt lk_RX12_218 (c_X12_pieceAt n ρ I11 F b q x hn9 hms (hqf.kp k11) hrw f11 hbw (by omega) hxq) (by decide) (Nat.le_refl _) rfl (by first | assumption | rfl | omega) rfl (by first | assumption | rfl | omega) (Nat.le_of_ble_eq_true rfl) dX12_steeple_16 (fun v16 I16 h16 => ?_)
    obtain ⟨e16, rfl⟩ := h16
    refine g_bipush C (pc := 19) (-4) dX12_steeple_19 (by decide) ?_
    refine g_icmp_eq C (pc := 21) 26 dX12_steeple_21 (by decide) (fun c21 => ?_) (fun c21 => ?_)
    · have hpn : pon F b q = none := (oI_none hpl).mp (e16.symm.trans c21)
      have hst : ∀ i, i < 32 → bt (I11 98 12) i = rS F i := fun i hi => by rw [k11.2 98 (by decide)]; exact hqe.1 i hi
      refine g_aload_n C (pc := 26) dX12_steeple_26 0 rfl ?_
      refine g_getR C (pc := 27) fl_RX12_7 (by decide) (by first | assumption | rfl | omega) (by first | assumption | rfl | omega) (by first | assumption | rfl | omega) dX12_steeple_27 ?_
      refine g_bipush C (pc := 30) 12 dX12_steeple_30 (by decide) ?_
      refine g_iald C (pc := 32) (by first | assumption | rfl | omega) (by first | assumption | rfl | omega) (vp_in_nI (n := 12) (by decide) (by decide)) dX12_steeple_32 ?_
      refine g_iload_n C (pc := 33) dX12_steeple_33 1 rfl ?_
      refine g_ishr C (pc := 34) dX12_steeple_34 ?_
      refine g_iconst C (pc := 35) 1 dX12_steeple_35 (by decide) ?_
      refine g_iand C (pc := 36) dX12_steeple_36 ?_
      refine g_istore_n C (pc := 37) dX12_steeple_37 (by decide) (fun v37 => [(3, .int v37), (0, .ref 97), (1, .int x), (2, .int z)]) (fun _ => rfl) (fun v37 ev37 => ?_)
      refine g_aload_n C (pc := 38) dX12_steeple_38 1 rfl ?_
      refine g_getR C (pc := 39) fl_RX12_7 (by decide) (by first | assumption | rfl | omega) (by first | assumption | rfl | omega) (by first | assumption | rfl | omega) dX12_steeple_39 ?_
      refine g_bipush C (pc := 42) 12 dX12_steeple_42 (by decide) ?_
      refine g_iload_n C (pc := 44) dX12_steeple_44 3 rfl ?_
      refine g_if_eq C (pc := 45) 62 dX12_steeple_45 (by decide) (fun c45 => ?_) (fun c45 => ?_)
      · refine g_aload_n C (pc := 62) dX12_steeple_62 1 rfl ?_
        refine g_getR C (pc := 63) fl_RX12_7 (by decide) (by first | assumption | rfl | omega) (by first | assumption | rfl | omega) (by first | assumption | rfl | omega) dX12_steeple_63 ?_
        refine g_bipush C (pc := 66) 12 dX12_steeple_66 (by decide) ?_
        refine g_iald C (pc := 68) (by first | assumption | rfl | omega) (by first | assumption | rfl | omega) (vp_in_nI (n := 12) (by decide) (by decide)) dX12_steeple_68 ?_
        refine g_iconst C (pc := 69) 1 dX12_steeple_69 (by decide) ?_
        refine g_iload_n C (pc := 70) dX12_steeple_70 2 rfl ?_
        refine g_ishl C (pc := 71) dX12_steeple_71 ?_
        refine g_iconst C (pc := 72) (-1) dX12_steeple_72 (by decide) ?_
        refine g_ixor C (pc := 73) dX12_steeple_73 ?_
        refine g_iand C (pc := 74) dX12_steeple_74 ?_
        refine g_iast C (pc := 75) (by first | assumption | rfl | omega) (by first | assumption | rfl | omega) hn9 (vp_in_nI (n := 12) (by decide) (by decide)) dX12_steeple_75 ?_
        refine g_iload_n C (pc := 76) dX12_steeple_76 0 rfl ?_
        refine g_iret C hR (pc := 77) rfl dX12_steeple_77 ?_
        refine ⟨rfl, _, rfl, ?_⟩
        refine Or.inl ⟨q, ⟨hq, hxq, hpn⟩, ?_, I11, _, k11, rfl, fun i hi => ?_⟩
        · rw [ev37]
          have h0 : bt (I11 98 12 >>> (x &&& 31)) 0 = rS F q := by
            rw [hxq]
            refine (b_sshr q (by omega) _ (by decide)).trans ?_
            rw [if_pos (by omega)]; exact hst q (by omega)
          show I11 98 12 >>> (x &&& 31) &&& 1 = _
          cases h9 : rS F q with
          | true => rw [bI_t rfl]; exact and_1b.mpr (h0.trans h9)
          | false => rw [bI_f (by decide)]; exact and_1.mpr (h0.trans h9)
        · show bt _ i = _
          first
          | (rw [if_pos c45, b_and, b_xor, b_m1 i hi, bit_at hq25 hxq hi]; rw [show I11 98 (12 : Int32).toNatClampNeg = I11 98 12 from rfl, hst i hi]; simp; done)
          | (rw [if_neg c45, b_or, bit_at hq25 hxq hi]; rw [show I11 98 (12 : Int32).toNatClampNeg = I11 98 12 from rfl, hst i hi]; done)
      · refine g_aload_n C (pc := 48) dX12_steeple_48 1 rfl ?_
        refine g_getR C (pc := 49) fl_RX12_7 (by decide) (by first | assumption | rfl | omega) (by first | assumption | rfl | omega) (by first | assumption | rfl | omega) dX12_steeple_49 ?_
        refine g_bipush C (pc := 52) 12 dX12_steeple_52 (by decide) ?_
        refine g_iald C (pc := 54) (by first | assumption | rfl | omega) (by first | assumption | rfl | omega) (vp_in_nI (n := 12) (by decide) (by decide)) dX12_steeple_54 ?_
        refine g_iconst C (pc := 55) 1 dX12_steeple_55 (by decide) ?_
        refine g_iload_n C (pc := 56) dX12_steeple_56 2 rfl ?_
        refine g_ishl C (pc := 57) dX12_steeple_57 ?_
        refine g_ior C (pc := 58) dX12_steeple_58 ?_
        refine g_goto C (pc := 59) 75 dX12_steeple_59 (by decide) ?_
        refine g_iast C (pc := 75) (by first | assumption | rfl | omega) (by first | assumption | rfl | omega) hn9 (vp_in_nI (n := 12) (by decide) (by decide)) dX12_steeple_75 ?_
        refine g_iload_n C (pc := 76) dX12_steeple_76 0 rfl ?_
        refine g_iret C hR (pc := 77) rfl dX12_steeple_77 ?_
        refine ⟨rfl, _, rfl, ?_⟩
        refine Or.inl ⟨q, ⟨hq, hxq, hpn⟩, ?_, I11, _, k11, rfl, fun i hi => ?_⟩
        · rw [ev37]
          have h0 : bt (I11 98 12 >>> (x &&& 31)) 0 = rS F q := by
            rw [hxq]
            refine (b_sshr q (by omega) _ (by decide)).trans ?_
            rw [if_pos (by omega)]; exact hst q (by omega)
          show I11 98 12 >>> (x &&& 31) &&& 1 = _
          cases h9 : rS F q with
          | true => rw [bI_t rfl]; exact and_1b.mpr (h0.trans h9)
          | false => rw [bI_f (by decide)]; exact and_1.mpr (h0.trans h9)
        · show bt _ i = _
          first
          | (rw [if_pos c45, b_and, b_xor, b_m1 i hi, bit_at hq25 hxq hi]; rw [show I11 98 (12 : Int32).toNatClampNeg = I11 98 12 from rfl, hst i hi]; simp; done)
          | (rw [if_neg c45, b_or, bit_at hq25 hxq hi]; rw [show I11 98 (12 : Int32).toNatClampNeg = I11 98 12 from rfl, hst i hi]; done)
    · have hpn : pon F b q ≠ none := fun h9 => c21 (by rw [e16, h9]; rfl)
      refine g_iconst C (pc := 24) (-1) dX12_steeple_24 (by decide) ?_
      refine g_iret C hR (pc := 25) rfl dX12_steeple_25 ?_
      refine ⟨rfl, _, rfl, ?_⟩
      refine Or.inr ⟨?_, rfl, k11⟩
      rintro ⟨q9, h1, h2, h3⟩
      have e2 : q = q9 := (nI_eq (by omega) (by omega)).mp (hxq.symm.trans h2)
      subst e2
      exact hpn h3
  · have hx := bI_0.mp (e2.symm.trans c5)
    refine g_iconst C (pc := 8) (-1) dX12_steeple_8 (by decide) ?_
    refine g_iret C hR (pc := 9) rfl dX12_steeple_9 ?_
    refine ⟨rfl, _, rfl, ?_⟩
    refine Or.inr ⟨?_, rfl, Kp.rfl'⟩
    rintro ⟨q9, h1, h2, -⟩
    exact hx (by rw [h2]; exact ⟨nI_pos' (by omega), nI_lt h1 (by omega)⟩)
set_option maxHeartbeats 400000 in
theorem c_X12_weigh (n : Nat) (ρ : Rho) (I : Mem) (F : RT) (b : BT) (x z : Int32) (hn9 : n ≤ 999) (hms : MS n ρ) (hqn : QN I F b) (hrw : RW F) (hbw : BW F b) : MI yX12_weigh cX12_weigh 3 (some .int) 2 [.ref 97, .int x, .int z] n ρ I (fun v I1 => (∃ w q, (w < 5 ∧ q ≤ 9 ∧ x = nI w ∧ z = nI q ∧ allO F - rOd F w + q ≠ 0) ∧ v = nI (rOd F w) ∧ wr I 98 (13 + w) z = I1) ∨ (¬ (∃ w q, (w < 5 ∧ q ≤ 9 ∧ x = nI w ∧ z = nI q ∧ allO F - rOd F w + q ≠ 0)) ∧ v = -1 ∧ I = I1)) := by
  refine MG.of (by decide +kernel) (Nat.le_of_ble_eq_true rfl) hn9 ?_
  intro κ C hR
  show G κ n ρ 0 [(0, .ref 97), (1, .int x), (2, .int z)] [] I
  obtain ⟨mn, ⟨m0, m1, m5, m6, m7, m11, m12, m15⟩, ⟨m23, m24, m26, m27, m28, m30, m31, m32, m33⟩, ⟨m38, m39, m40, m42⟩⟩ := id hms
  obtain ⟨hqf, hqe, hqs, hqt⟩ := id hqn
  obtain ⟨qw, qh, qn, qk⟩ := id hqf
  have hn6 : rN F ≤ 6 := hrw.2.2.2.2.1
  have hm25 := Nat.mul_le_mul hrw.2.1 hrw.2.2.2.1
  have hm4 := Nat.mul_le_mul hrw.1 hrw.2.2.1
  have hAO := allO_le hrw
  refine g_iload_n C (pc := 0) dX12_weigh_0 1 rfl ?_
  refine g_callSI C (pc := 1) mf_X12_isWind lk_RX12_236 (c_X12_isWind n ρ I x hn9) (by decide) (Nat.le_refl _) rfl (Nat.le_of_ble_eq_true rfl) dX12_weigh_1 (fun v1 I1 h1 => ?_)
  obtain ⟨e1, rfl⟩ := h1
  refine g_if_eq C (pc := 4) 50 dX12_weigh_4 (by decide) (fun c4 => ?_) (fun c4 => ?_)
  · have hx := bI_0.mp (e1.symm.trans c4)
    refine g_iconst C (pc := 50) (-1) dX12_weigh_50 (by decide) ?_
    refine g_iret C hR (pc := 51) rfl dX12_weigh_51 ?_
    refine ⟨rfl, _, rfl, ?_⟩
    first
    | exact Or.inl ⟨w, q, ⟨hw, by omega, hxw, hzq, hne⟩, e44.trans (hqe.2 w hw), g44⟩
    | (refine Or.inr ⟨?_, rfl, rfl⟩
       rintro ⟨w9, q9, h1, h2, h3, h4, h5⟩
       first
       | exact hx (by rw [h3]; exact ⟨nI_pos' (by omega), nI_lt (b := 5) h1 (by decide)⟩)
       | exact hz (by rw [h4]; exact ⟨nI_pos' (by omega), nI_lt (by omega) (by decide)⟩)
       | (have e1 : w = w9 := (nI_eq (by omega) (by omega)).mp (hxw.symm.trans h3)
          have e2 : q = q9 := (nI_eq (by omega) (by omega)).mp (hzq.symm.trans h4)
          subst e1 e2
          exact h5 hz0))
  · have hx := bI_1.mp (fun h => c4 (e1.trans h))
    obtain ⟨w, hw, hxw⟩ := ix_of (n := 5) (by decide) hx
    refine g_iload_n C (pc := 7) dX12_weigh_7 2 rfl ?_
    refine g_i2l C (pc := 8) dX12_weigh_8 ?_
    refine g_lconst C (pc := 9) 0 dX12_weigh_9 (by decide) ?_
    refine g_ldc2 C (pc := 10) _ gk_RX12_239 dX12_weigh_10 ?_
    refine g_callSI C (pc := 13) mf_X12_in lk_RX12_113 (c_X12_in n ρ I _ _ _ hn9) (by decide) (Nat.le_refl _) rfl (Nat.le_of_ble_eq_true rfl) dX12_weigh_13 (fun v13 I13 h13 => ?_)
    obtain ⟨e13, rfl⟩ := h13
    refine g_if_eq C (pc := 16) 50 dX12_weigh_16 (by decide) (fun c16 => ?_) (fun c16 => ?_)
    · have hz := fun h => bI_0.mp (e13.symm.trans c16) ((in_iff (x := z) (k := 9) (by decide)).mpr h)
      refine g_iconst C (pc := 50) (-1) dX12_weigh_50 (by decide) ?_
      refine g_iret C hR (pc := 51) rfl dX12_weigh_51 ?_
      refine ⟨rfl, _, rfl, ?_⟩
      first
      | exact Or.inl ⟨w, q, ⟨hw, by omega, hxw, hzq, hne⟩, e44.trans (hqe.2 w hw), g44⟩
      | (refine Or.inr ⟨?_, rfl, rfl⟩
         rintro ⟨w9, q9, h1, h2, h3, h4, h5⟩
         first
         | exact hx (by rw [h3]; exact ⟨nI_pos' (by omega), nI_lt (b := 5) h1 (by decide)⟩)
         | exact hz (by rw [h4]; exact ⟨nI_pos' (by omega), nI_lt (by omega) (by decide)⟩)
         | (have e1 : w = w9 := (nI_eq (by omega) (by omega)).mp (hxw.symm.trans h3)
            have e2 : q = q9 := (nI_eq (by omega) (by omega)).mp (hzq.symm.trans h4)
            subst e1 e2
            exact h5 hz0))
    · have hz := (in_iff (x := z) (k := 9) (by decide)).mp (bI_1.mp (fun h => c16 (e13.trans h)))
      obtain ⟨q, hq, hzq⟩ := ix_of (x := z) (n := 10) (by decide) hz
      refine g_aload_n C (pc := 19) dX12_weigh_19 0 rfl ?_
      refine g_callVI C (pc := 20) mf_X12_allOdds lk_RX12_244 (c_X12_allOdds n ρ I F hn9 hms hqe) (by decide) (Nat.le_refl _) rfl (by first | assumption | rfl | omega) rfl (by first | assumption | rfl | omega) (Nat.le_of_ble_eq_true rfl) dX12_weigh_20 (fun v20 I20 h20 => ?_)
      obtain ⟨e20, rfl⟩ := h20
      have hole : rOd F w ≤ allO F := smP_at (f := rOd F) hw
      have ho9 := hrw.2.2.2.2.2.2.1 w hw
      refine g_aload_n C (pc := 23) dX12_weigh_23 0 rfl ?_
      refine g_getR C (pc := 24) fl_RX12_7 (by decide) (by first | assumption | rfl | omega) (by first | assumption | rfl | omega) (by first | assumption | rfl | omega) dX12_weigh_24 ?_
      refine g_bipush C (pc := 27) 13 dX12_weigh_27 (by decide) ?_
      refine g_iload_n C (pc := 29) dX12_weigh_29 1 rfl ?_
      refine g_iadd C (pc := 30) dX12_weigh_30 ?_
      refine g_iald C (pc := 31) (by first | assumption | rfl | omega) (by first | assumption | rfl | omega) (by rw [hxw, show (13 : Int32) = nI 13 from rfl, nI_add]; exact vp_in_nI (by omega) (by decide)) dX12_weigh_31 ?_
      refine g_isub C (pc := 32) dX12_weigh_32 ?_
      refine g_iload_n C (pc := 33) dX12_weigh_33 2 rfl ?_
      refine g_iadd C (pc := 34) dX12_weigh_34 ?_
      have hall : v20 - I 98 (13 + x).toNatClampNeg + z = nI (allO F - rOd F w + q) := by rw [hxw, show (13 : Int32) = nI 13 from rfl, nI_add, nI_clamp (by omega), hqe.2 w hw, e20, hzq, pk_sub hole, nI_add]
      refine g_if_le C (pc := 35) 50 dX12_weigh_35 (by decide) (fun c35 => ?_) (fun c35 => ?_)
      · have hz0 : allO F - rOd F w + q = 0 := by
          rw [hall, show (0 : Int32) = nI 0 from rfl, nI_leI (by omega) (by decide)] at c35
          omega
        refine g_iconst C (pc := 50) (-1) dX12_weigh_50 (by decide) ?_
        refine g_iret C hR (pc := 51) rfl dX12_weigh_51 ?_
        refine ⟨rfl, _, rfl, ?_⟩
        first
        | exact Or.inl ⟨w, q, ⟨hw, by omega, hxw, hzq, hne⟩, e44.trans (hqe.2 w hw), g44⟩
        | (refine Or.inr ⟨?_, rfl, rfl⟩
           rintro ⟨w9, q9, h1, h2, h3, h4, h5⟩
           first
           | exact hx (by rw [h3]; exact ⟨nI_pos' (by omega), nI_lt (b := 5) h1 (by decide)⟩)
           | exact hz (by rw [h4]; exact ⟨nI_pos' (by omega), nI_lt (by omega) (by decide)⟩)
           | (have e1 : w = w9 := (nI_eq (by omega) (by omega)).mp (hxw.symm.trans h3)
              have e2 : q = q9 := (nI_eq (by omega) (by omega)).mp (hzq.symm.trans h4)
              subst e1 e2
              exact h5 hz0))
      · have hne : allO F - rOd F w + q ≠ 0 := by
          rw [hall, show (0 : Int32) = nI 0 from rfl, nI_ltI (by decide) (by omega)] at c35
          omega
        refine g_aload_n C (pc := 38) dX12_weigh_38 0 rfl ?_
        refine g_bipush C (pc := 39) 13 dX12_weigh_39 (by decide) ?_
        refine g_iload_n C (pc := 41) dX12_weigh_41 1 rfl ?_
        refine g_iadd C (pc := 42) dX12_weigh_42 ?_
        refine g_iload_n C (pc := 43) dX12_weigh_43 2 rfl ?_
        refine g_callVI C (pc := 44) mf_X12_becomes lk_RX12_241 (c_X12_becomes n ρ I (13 + w) _ z hn9 hms (by omega) (by rw [hxw, show (13 : Int32) = nI 13 from rfl, nI_add])) (by decide) (Nat.le_refl _) rfl (by first | assumption | rfl | omega) rfl (by first | assumption | rfl | omega) (Nat.le_of_ble_eq_true rfl) dX12_weigh_44 (fun v44 I44 h44 => ?_)
        obtain ⟨e44, g44⟩ := h44
        refine g_goto C (pc := 47) 51 dX12_weigh_47 (by decide) ?_
        refine g_iret C hR (pc := 51) rfl dX12_weigh_51 ?_
        refine ⟨rfl, _, rfl, ?_⟩
        first
        | exact Or.inl ⟨w, q, ⟨hw, by omega, hxw, hzq, hne⟩, e44.trans (hqe.2 w hw), g44⟩
        | (refine Or.inr ⟨?_, rfl, rfl⟩
           rintro ⟨w9, q9, h1, h2, h3, h4, h5⟩
           first
           | exact hx (by rw [h3]; exact ⟨nI_pos' (by omega), nI_lt (b := 5) h1 (by decide)⟩)
           | exact hz (by rw [h4]; exact ⟨nI_pos' (by omega), nI_lt (by omega) (by decide)⟩)
           | (have e1 : w = w9 := (nI_eq (by omega) (by omega)).mp (hxw.symm.trans h3)
              have e2 : q = q9 := (nI_eq (by omega) (by omega)).mp (hzq.symm.trans h4)
              subst e1 e2
              exact h5 hz0))
set_option maxHeartbeats 400000 in
theorem c_X12_turn (n : Nat) (ρ : Rho) (I : Mem) (x : Int32) (hn9 : n ≤ 999) (hms : MS n ρ) : MI yX12_turn cX12_turn 2 (some .int) 1 [.ref 97, .int x] n ρ I (fun v I1 => ((0 ≤ x ∧ x < 2) ∧ v = I 98 18 ∧ wr I 98 18 x = I1) ∨ (¬ (0 ≤ x ∧ x < 2) ∧ v = -1 ∧ I = I1)) := by
  refine MG.of (by decide +kernel) (Nat.le_of_ble_eq_true rfl) hn9 ?_
  intro κ C hR
  show G κ n ρ 0 [(0, .ref 97), (1, .int x)] [] I
  obtain ⟨mn, ⟨m0, m1, m5, m6, m7, m11, m12, m15⟩, ⟨m23, m24, m26, m27, m28, m30, m31, m32, m33⟩, ⟨m38, m39, m40, m42⟩⟩ := id hms
  refine g_iload_n C (pc := 0) dX12_turn_0 1 rfl ?_
  refine g_i2l C (pc := 1) dX12_turn_1 ?_
  refine g_lconst C (pc := 2) 0 dX12_turn_2 (by decide) ?_
  refine g_lconst C (pc := 3) 1 dX12_turn_3 (by decide) ?_
  refine g_callSI C (pc := 4) mf_X12_in lk_RX12_113 (c_X12_in n ρ I _ _ _ hn9) (by decide) (Nat.le_refl _) rfl (Nat.le_of_ble_eq_true rfl) dX12_turn_4 (fun v4 I4 h4 => ?_)
  obtain ⟨e4, rfl⟩ := h4
  refine g_if_eq C (pc := 7) 20 dX12_turn_7 (by decide) (fun c7 => ?_) (fun c7 => ?_)
  · have hx := fun h => bI_0.mp (e4.symm.trans c7) ((in_iff (x := x) (k := 1) (by decide)).mpr h)
    refine g_iconst C (pc := 20) (-1) dX12_turn_20 (by decide) ?_
    refine g_iret C hR (pc := 21) rfl dX12_turn_21 ?_
    refine ⟨rfl, _, rfl, ?_⟩
    first | exact Or.inl ⟨hx, e14, g14⟩ | exact Or.inr ⟨hx, rfl, rfl⟩
  · have hx := (in_iff (x := x) (k := 1) (by decide)).mp (bI_1.mp (fun h => c7 (e4.trans h)))
    refine g_aload_n C (pc := 10) dX12_turn_10 0 rfl ?_
    refine g_bipush C (pc := 11) 18 dX12_turn_11 (by decide) ?_
    refine g_iload_n C (pc := 13) dX12_turn_13 1 rfl ?_
    refine g_callVI C (pc := 14) mf_X12_becomes lk_RX12_241 (c_X12_becomes n ρ I 18 _ x hn9 hms (by decide) rfl) (by decide) (Nat.le_refl _) rfl (by first | assumption | rfl | omega) rfl (by first | assumption | rfl | omega) (Nat.le_of_ble_eq_true rfl) dX12_turn_14 (fun v14 I14 h14 => ?_)
    obtain ⟨e14, g14⟩ := h14
    refine g_goto C (pc := 17) 21 dX12_turn_17 (by decide) ?_
    refine g_iret C hR (pc := 21) rfl dX12_turn_21 ?_
    refine ⟨rfl, _, rfl, ?_⟩
    first | exact Or.inl ⟨hx, e14, g14⟩ | exact Or.inr ⟨hx, rfl, rfl⟩
set_option maxHeartbeats 400000 in
theorem c_X12_moves (n : Nat) (ρ : Rho) (I : Mem) (F : RT) (b : BT) (x : Int32) (hn9 : n ≤ 999) (hms : MS n ρ) (hqn : QN I F b) (hrw : RW F) (hbw : BW F b) (hl1 : L1 F b) (hpw : PW F b) : MI yX12_moves cX12_moves 2 (some .int) 4 [.ref 97, .int x] n ρ I (fun v I1 => ((∃ w, w < 5 ∧ x = nI w ∧ v = nI (mvs F b w).length) ∨ (¬ (∃ w, w < 5 ∧ x = nI w) ∧ v = -1)) ∧ Kp I I1) := by
  refine MG.of (by decide +kernel) (Nat.le_of_ble_eq_true rfl) hn9 ?_
  intro κ C hR
  show G κ n ρ 0 [(0, .ref 97), (1, .int x)] [] I
  obtain ⟨mn, ⟨m0, m1, m5, m6, m7, m11, m12, m15⟩, ⟨m23, m24, m26, m27, m28, m30, m31, m32, m33⟩, ⟨m38, m39, m40, m42⟩⟩ := id hms
  obtain ⟨hqf, hqe, hqs, hqt⟩ := id hqn
  obtain ⟨qw, qh, qn, qk⟩ := id hqf
  have hn6 : rN F ≤ 6 := hrw.2.2.2.2.1
  have hm25 := Nat.mul_le_mul hrw.2.1 hrw.2.2.2.1
  have hm4 := Nat.mul_le_mul hrw.1 hrw.2.2.1
  refine g_iload_n C (pc := 0) dX12_moves_0 1 rfl ?_
  refine g_callSI C (pc := 1) mf_X12_isWind lk_RX12_236 (c_X12_isWind n ρ I x hn9) (by decide) (Nat.le_refl _) rfl (Nat.le_of_ble_eq_true rfl) dX12_moves_1 (fun v1 I1 h1 => ?_)
  obtain ⟨e1, rfl⟩ := h1
  refine g_if_ne C (pc := 4) 9 dX12_moves_4 (by decide) (fun c4 => ?_) (fun c4 => ?_)
  · have hx := bI_1.mp (fun h => c4 (e1.trans h))
    obtain ⟨w, hw, hxw⟩ := ix_of (n := 5) (by decide) hx
    subst hxw
    refine g_aload_n C (pc := 9) dX12_moves_9 0 rfl ?_
    refine g_callVV C (pc := 10) mf_X12_starts lk_RX12_227 (c_X12_startsB n ρ I F b hn9 hms hqn hrw hbw) (by decide) (Nat.le_refl _) rfl (by first | assumption | rfl | omega) rfl (by first | assumption | rfl | omega) (Nat.le_of_ble_eq_true rfl) dX12_moves_10 (fun I10 h10 => ?_)
    obtain ⟨f10, k10⟩ := h10
    refine g_aload_n C (pc := 13) dX12_moves_13 0 rfl ?_
    refine g_iload_n C (pc := 14) dX12_moves_14 1 rfl ?_
    refine g_iconst C (pc := 15) 0 dX12_moves_15 (by decide) ?_
    refine g_callVV C (pc := 16) mf_X12_findMoves lk_RX12_247 (c_X12_findMoves n ρ I10 F b w 0 hn9 hms (hqf.kp k10) hrw (hqe.kp k10) f10 hbw hl1 hpw hw (by decide)) (by decide) (Nat.le_refl _) rfl (by first | assumption | rfl | omega) rfl (by first | assumption | rfl | omega) (Nat.le_of_ble_eq_true rfl) dX12_moves_16 (fun I16 h16 => ?_)
    obtain ⟨f16, a16, b16, g16⟩ := h16
    refine g_aload_n C (pc := 19) dX12_moves_19 0 rfl ?_
    refine g_getR C (pc := 20) fl_RX12_44 (by decide) (by first | assumption | rfl | omega) (by first | assumption | rfl | omega) (by first | assumption | rfl | omega) dX12_moves_20 ?_
    refine g_iconst C (pc := 23) 0 dX12_moves_23 (by decide) ?_
    refine g_iald C (pc := 24) (by first | assumption | rfl | omega) (by first | assumption | rfl | omega) (vp_in_nI (n := 0) (by decide) (by decide)) dX12_moves_24 ?_
    refine g_iret C hR (pc := 25) rfl dX12_moves_25 ?_
    refine ⟨rfl, _, rfl, ?_⟩
    exact ⟨Or.inl ⟨w, hw, rfl, f16.1⟩, k10.trans (Kp.fm g16)⟩
  · have hx := bI_0.mp (e1.symm.trans c4)
    refine g_iconst C (pc := 7) (-1) dX12_moves_7 (by decide) ?_
    refine g_iret C hR (pc := 8) rfl dX12_moves_8 ?_
    refine ⟨rfl, _, rfl, ?_⟩
    exact ⟨Or.inr ⟨fun ⟨w9, h1, h2⟩ => hx (by rw [h2]; exact ⟨nI_pos' (by omega), nI_lt (b := 5) h1 (by decide)⟩), rfl⟩, Kp.rfl'⟩
set_option maxHeartbeats 400000 in
theorem c_X12_move (n : Nat) (ρ : Rho) (I : Mem) (F : RT) (b : BT) (x z : Int32) (hn9 : n ≤ 999) (hms : MS n ρ) (hqn : QN I F b) (hrw : RW F) (hbw : BW F b) (hl1 : L1 F b) (hpw : PW F b) : MI yX12_move cX12_move 3 (some .int) 4 [.ref 97, .int x, .int z] n ρ I (fun v I1 => ((∃ w k m, (w < 5 ∧ x = nI w ∧ z = nI k ∧ (mvs F b w)[k]? = some m) ∧ v = nI m) ∨ (¬ (∃ w k m, (w < 5 ∧ x = nI w ∧ z = nI k ∧ (mvs F b w)[k]? = some m)) ∧ v = -1)) ∧ Kp I I1) := by
  refine MG.of (by decide +kernel) (Nat.le_of_ble_eq_true rfl) hn9 ?_
  intro κ C hR
  show G κ n ρ 0 [(0, .ref 97), (1, .int x), (2, .int z)] [] I
  obtain ⟨mn, ⟨m0, m1, m5, m6, m7, m11, m12, m15⟩, ⟨m23, m24, m26, m27, m28, m30, m31, m32, m33⟩, ⟨m38, m39, m40, m42⟩⟩ := id hms
  obtain ⟨hqf, hqe, hqs, hqt⟩ := id hqn
  obtain ⟨qw, qh, qn, qk⟩ := id hqf
  have hn6 : rN F ≤ 6 := hrw.2.2.2.2.1
  have hm25 := Nat.mul_le_mul hrw.2.1 hrw.2.2.2.1
  have hm4 := Nat.mul_le_mul hrw.1 hrw.2.2.1
  refine g_iload_n C (pc := 0) dX12_move_0 1 rfl ?_
  refine g_callSI C (pc := 1) mf_X12_isWind lk_RX12_236 (c_X12_isWind n ρ I x hn9) (by decide) (Nat.le_refl _) rfl (Nat.le_of_ble_eq_true rfl) dX12_move_1 (fun v1 I1 h1 => ?_)
  obtain ⟨e1, rfl⟩ := h1
  refine g_if_ne C (pc := 4) 9 dX12_move_4 (by decide) (fun c4 => ?_) (fun c4 => ?_)
  · have hx := bI_1.mp (fun h => c4 (e1.trans h))
    obtain ⟨w, hw, hxw⟩ := ix_of (n := 5) (by decide) hx
    subst hxw
    refine g_aload_n C (pc := 9) dX12_move_9 0 rfl ?_
    refine g_callVV C (pc := 10) mf_X12_starts lk_RX12_227 (c_X12_startsB n ρ I F b hn9 hms hqn hrw hbw) (by decide) (Nat.le_refl _) rfl (by first | assumption | rfl | omega) rfl (by first | assumption | rfl | omega) (Nat.le_of_ble_eq_true rfl) dX12_move_10 (fun I10 h10 => ?_)
    obtain ⟨f10, k10⟩ := h10
    refine g_aload_n C (pc := 13) dX12_move_13 0 rfl ?_
    refine g_iload_n C (pc := 14) dX12_move_14 1 rfl ?_
    refine g_iconst C (pc := 15) 0 dX12_move_15 (by decide) ?_
    refine g_callVV C (pc := 16) mf_X12_findMoves lk_RX12_247 (c_X12_findMoves n ρ I10 F b w 0 hn9 hms (hqf.kp k10) hrw (hqe.kp k10) f10 hbw hl1 hpw hw (by decide)) (by decide) (Nat.le_refl _) rfl (by first | assumption | rfl | omega) rfl (by first | assumption | rfl | omega) (Nat.le_of_ble_eq_true rfl) dX12_move_16 (fun I16 h16 => ?_)
    obtain ⟨f16, a16, b16, g16⟩ := h16
    have hml := mvs_len (F := F) (b := b) (w := w) hn6
    have hi9 : (0 ≤ z.toInt64 ∧ z.toInt64 ≤ (I16 109 0 - 1).toInt64) ↔ ∃ k, k < (mvs F b w).length ∧ z = nI k := by
      rw [f16.1]
      constructor
      · intro h9
        rcases Nat.eq_zero_or_pos (mvs F b w).length with h0 | h0
        · exfalso
          rw [h0] at h9
          have h8 : z.toInt64 ≤ -1 := h9.2
          have := Int64.le_iff_toInt_le.mp h9.1
          have := Int64.le_iff_toInt_le.mp h8
          have e1 : (-1 : Int64).toInt = -1 := by decide
          have e0 : (0 : Int64).toInt = 0 := by decide
          omega
        · have h8 := (inr_iff h0 (by omega)).mp h9
          exact ⟨z.toInt.toNat, by omega, i32_nat (by omega) (by omega)⟩
      · rintro ⟨k, hk, hzk⟩
        refine (inr_iff (by omega) (by omega)).mpr ?_
        rw [hzk, nI_toInt (by omega)]; omega
    refine g_iload_n C (pc := 19) dX12_move_19 2 rfl ?_
    refine g_i2l C (pc := 20) dX12_move_20 ?_
    refine g_lconst C (pc := 21) 0 dX12_move_21 (by decide) ?_
    refine g_aload_n C (pc := 22) dX12_move_22 0 rfl ?_
    refine g_getR C (pc := 23) fl_RX12_44 (by decide) (by first | assumption | rfl | omega) (by first | assumption | rfl | omega) (by first | assumption | rfl | omega) dX12_move_23 ?_
    refine g_iconst C (pc := 26) 0 dX12_move_26 (by decide) ?_
    refine g_iald C (pc := 27) (by first | assumption | rfl | omega) (by first | assumption | rfl | omega) (vp_in_nI (n := 0) (by decide) (by decide)) dX12_move_27 ?_
    refine g_iconst C (pc := 28) 1 dX12_move_28 (by decide) ?_
    refine g_isub C (pc := 29) dX12_move_29 ?_
    refine g_i2l C (pc := 30) dX12_move_30 ?_
    refine g_callSI C (pc := 31) mf_X12_in lk_RX12_113 (c_X12_in n ρ I16 _ _ _ hn9) (by decide) (Nat.le_refl _) rfl (Nat.le_of_ble_eq_true rfl) dX12_move_31 (fun v31 I31 h31 => ?_)
    obtain ⟨e31, rfl⟩ := h31
    refine g_if_eq C (pc := 34) 46 dX12_move_34 (by decide) (fun c34 => ?_) (fun c34 => ?_)
    · have hno := fun h => bI_0.mp (e31.symm.trans c34) (hi9.mpr h)
      refine g_iconst C (pc := 46) (-1) dX12_move_46 (by decide) ?_
      refine g_iret C hR (pc := 47) rfl dX12_move_47 ?_
      refine ⟨rfl, _, rfl, ?_⟩
      refine ⟨?_, k10.trans (Kp.fm g16)⟩
      first
      | (have hk9 := List.getElem?_eq_getElem hk
         refine Or.inl ⟨w, k, _, ⟨hw, rfl, hzk, hk9⟩, ?_⟩
         have := f16.2 k _ hk9
         rw [Nat.mul_zero, Nat.zero_add] at this
         rw [hzk, nI_clamp (by omega)]; exact this)
      | (refine Or.inr ⟨fun ⟨w9, k9, m9, h1, h2, h3, h4⟩ => ?_, rfl⟩
         have e1 : w = w9 := (nI_eq (by omega) (by omega)).mp h2
         subst e1
         exact hno ⟨k9, (List.getElem?_eq_some_iff.mp h4).1, h3⟩)
    · obtain ⟨k, hk, hzk⟩ := hi9.mp (bI_1.mp (fun h => c34 (e31.trans h)))
      refine g_aload_n C (pc := 37) dX12_move_37 0 rfl ?_
      refine g_getR C (pc := 38) fl_RX12_41 (by decide) (by first | assumption | rfl | omega) (by first | assumption | rfl | omega) (by first | assumption | rfl | omega) dX12_move_38 ?_
      refine g_iload_n C (pc := 41) dX12_move_41 2 rfl ?_
      refine g_iald C (pc := 42) (by first | assumption | rfl | omega) (by first | assumption | rfl | omega) (by rw [hzk]; exact vp_in_nI (by omega) (by decide)) dX12_move_42 ?_
      refine g_goto C (pc := 43) 47 dX12_move_43 (by decide) ?_
      refine g_iret C hR (pc := 47) rfl dX12_move_47 ?_
      refine ⟨rfl, _, rfl, ?_⟩
      refine ⟨?_, k10.trans (Kp.fm g16)⟩
      first
      | (have hk9 := List.getElem?_eq_getElem hk
         refine Or.inl ⟨w, k, _, ⟨hw, rfl, hzk, hk9⟩, ?_⟩
         have := f16.2 k _ hk9
         rw [Nat.mul_zero, Nat.zero_add] at this
         rw [hzk, nI_clamp (by omega)]; exact this)
      | (refine Or.inr ⟨fun ⟨w9, k9, m9, h1, h2, h3, h4⟩ => ?_, rfl⟩
         have e1 : w = w9 := (nI_eq (by omega) (by omega)).mp h2
         subst e1
         exact hno ⟨k9, (List.getElem?_eq_some_iff.mp h4).1, h3⟩)
  · have hx := bI_0.mp (e1.symm.trans c4)
    refine g_iconst C (pc := 7) (-1) dX12_move_7 (by decide) ?_
    refine g_iret C hR (pc := 8) rfl dX12_move_8 ?_
    refine ⟨rfl, _, rfl, ?_⟩
    exact ⟨Or.inr ⟨fun ⟨w9, k9, m9, h1, h2, h3⟩ => hx (by rw [h2]; exact ⟨nI_pos' (by omega), nI_lt (b := 5) h1 (by decide)⟩), rfl⟩, Kp.rfl'⟩
